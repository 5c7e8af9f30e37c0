/-! the tables' words by their places, the methods' records (written by wip/whole/gen/gen_words.py) -/
theorem bw_t {w : Cond} (i : Nat) (h : tables_1[i]? = some w) (g : goodWord w = true) : w ∈ BW := List.mem_filter.mpr ⟨List.mem_append_right _ (List.mem_of_getElem? h), g⟩
theorem bw_s {w : Cond} (i : Nat) (h : (k2_sels lw_privs)[i]? = some w) (g : goodWord w = true) : w ∈ BW := List.mem_filter.mpr ⟨List.mem_append_left _ (List.mem_of_getElem? h), g⟩
theorem bw_0 : (Jvm.Cond.initialized "LiftSchedulerLaw") ∈ BW := bw_t 0 (by decide +kernel) rfl
theorem bw_1 : (Jvm.Cond.initialized "LiftScheduler") ∈ BW := bw_t 1 (by decide +kernel) rfl
theorem bw_2 : (Jvm.Cond.initialized "LiftScheduler$Simulation") ∈ BW := bw_t 2 (by decide +kernel) rfl
theorem bw_3 : (Jvm.Cond.initialized "LiftScheduler$Script") ∈ BW := bw_t 3 (by decide +kernel) rfl
theorem bw_4 : (Jvm.Cond.initialized "LiftSchedulerModel") ∈ BW := bw_t 4 (by decide +kernel) rfl
theorem bw_5 : (Jvm.Cond.initialized "java/lang/Enum") ∈ BW := bw_t 5 (by decide +kernel) rfl
theorem bw_6 : (Jvm.Cond.initialized "LiftScheduler$Kind") ∈ BW := bw_t 6 (by decide +kernel) rfl
theorem bw_7 : (Jvm.Cond.initialized "java/lang/String") ∈ BW := bw_t 7 (by decide +kernel) rfl
theorem bw_8 : (Jvm.Cond.initialized "java/lang/StringLatin1") ∈ BW := bw_t 8 (by decide +kernel) rfl
theorem bw_9 : (Jvm.Cond.initialized "jdk/internal/util/Preconditions") ∈ BW := bw_t 9 (by decide +kernel) rfl
theorem bw_10 : (Jvm.Cond.initialized "java/lang/StringUTF16") ∈ BW := bw_t 10 (by decide +kernel) rfl
theorem bw_11 : (Jvm.Cond.initialized "LiftScheduler$1") ∈ BW := bw_t 11 (by decide +kernel) rfl
theorem bw_12 : (Jvm.Cond.initialized "java/lang/Throwable") ∈ BW := bw_t 12 (by decide +kernel) rfl
theorem bw_13 : (Jvm.Cond.initialized "java/lang/Exception") ∈ BW := bw_t 13 (by decide +kernel) rfl
theorem bw_14 : (Jvm.Cond.initialized "java/lang/RuntimeException") ∈ BW := bw_t 14 (by decide +kernel) rfl
theorem bw_15 : (Jvm.Cond.initialized "java/lang/IllegalArgumentException") ∈ BW := bw_t 15 (by decide +kernel) rfl
theorem bw_16 : (Jvm.Cond.initialized "java/lang/System") ∈ BW := bw_t 16 (by decide +kernel) rfl
theorem bw_17 : (Jvm.Cond.initialized "java/lang/Math") ∈ BW := bw_t 17 (by decide +kernel) rfl
theorem bw_18 : (Jvm.Cond.initialized "java/lang/IndexOutOfBoundsException") ∈ BW := bw_t 18 (by decide +kernel) rfl
theorem bw_19 : (Jvm.Cond.initialized "java/lang/IllegalStateException") ∈ BW := bw_t 19 (by decide +kernel) rfl
theorem bw_20 : (Jvm.Cond.classLink "LiftSchedulerLaw" (8 : Nat) "LiftScheduler") ∈ BW := bw_t 20 (by decide +kernel) rfl
theorem bw_21 : (Jvm.Cond.instantiable "LiftScheduler" (12 : Nat)) ∈ BW := bw_t 21 (by decide +kernel) rfl
theorem bw_22 : (Jvm.Cond.methodLink "LiftSchedulerLaw" (107 : Nat) ({ cls := "LiftScheduler", name := "<init>", desc := "()V" } : Jvm.MethodName)) ∈ BW := bw_t 22 (by decide +kernel) rfl
theorem bw_23 : (Jvm.Cond.instanceMethod ({ cls := "LiftScheduler", name := "<init>", desc := "()V" } : Jvm.MethodName)) ∈ BW := bw_t 23 (by decide +kernel) rfl
theorem bw_24 : (Jvm.Cond.code ({ cls := "LiftScheduler", name := "<init>", desc := "()V" } : Jvm.MethodName) prog_1_method_1_code (2 : Nat) (Option.none : Option Jvm.ClassFile.FieldType)) ∈ BW := bw_t 24 (by decide +kernel) rfl
theorem bw_25 : (Jvm.Cond.methodLink "LiftScheduler" (1 : Nat) ({ cls := "java/lang/Object", name := "<init>", desc := "()V" } : Jvm.MethodName)) ∈ BW := bw_t 25 (by decide +kernel) rfl
theorem bw_26 : (Jvm.Cond.instanceMethod ({ cls := "java/lang/Object", name := "<init>", desc := "()V" } : Jvm.MethodName)) ∈ BW := bw_t 26 (by decide +kernel) rfl
theorem bw_27 : (Jvm.Cond.code ({ cls := "java/lang/Object", name := "<init>", desc := "()V" } : Jvm.MethodName) object_method_1_code (1 : Nat) (Option.none : Option Jvm.ClassFile.FieldType)) ∈ BW := bw_t 27 (by decide +kernel) rfl
theorem bw_28 : (Jvm.Cond.classLink "LiftScheduler" (7 : Nat) "LiftScheduler$Simulation") ∈ BW := bw_t 28 (by decide +kernel) rfl
theorem bw_29 : (Jvm.Cond.instantiable "LiftScheduler$Simulation" (19 : Nat)) ∈ BW := bw_t 29 (by decide +kernel) rfl
theorem bw_30 : (Jvm.Cond.methodLink "LiftScheduler" (9 : Nat) ({ cls := "LiftScheduler$Simulation", name := "<init>", desc := "()V" } : Jvm.MethodName)) ∈ BW := bw_t 30 (by decide +kernel) rfl
theorem bw_31 : (Jvm.Cond.instanceMethod ({ cls := "LiftScheduler$Simulation", name := "<init>", desc := "()V" } : Jvm.MethodName)) ∈ BW := bw_t 31 (by decide +kernel) rfl
theorem bw_32 : (Jvm.Cond.code ({ cls := "LiftScheduler$Simulation", name := "<init>", desc := "()V" } : Jvm.MethodName) prog_5_method_1_code (1 : Nat) (Option.none : Option Jvm.ClassFile.FieldType)) ∈ BW := bw_t 32 (by decide +kernel) rfl
theorem bw_33 : (Jvm.Cond.methodLink "LiftScheduler$Simulation" (3 : Nat) ({ cls := "java/lang/Object", name := "<init>", desc := "()V" } : Jvm.MethodName)) ∈ BW := bw_t 33 (by decide +kernel) rfl
theorem bw_34 : (Jvm.Cond.methodLink "LiftScheduler$Simulation" (30 : Nat) ({ cls := "LiftScheduler$Simulation", name := "begin", desc := "(III)V" } : Jvm.MethodName)) ∈ BW := bw_t 34 (by decide +kernel) rfl
theorem bw_35 : (Jvm.Cond.instanceMethod ({ cls := "LiftScheduler$Simulation", name := "begin", desc := "(III)V" } : Jvm.MethodName)) ∈ BW := bw_t 35 (by decide +kernel) rfl
theorem bw_36 : (Jvm.Cond.selects "LiftScheduler$Simulation" ({ cls := "LiftScheduler$Simulation", name := "begin", desc := "(III)V" } : Jvm.MethodName) ({ cls := "LiftScheduler$Simulation", name := "begin", desc := "(III)V" } : Jvm.MethodName)) ∈ BW := bw_t 36 (by decide +kernel) rfl
theorem bw_37 : (Jvm.Cond.code ({ cls := "LiftScheduler$Simulation", name := "begin", desc := "(III)V" } : Jvm.MethodName) prog_5_method_2_code (4 : Nat) (Option.none : Option Jvm.ClassFile.FieldType)) ∈ BW := bw_t 37 (by decide +kernel) rfl
theorem bw_38 : (Jvm.Cond.fieldLink "LiftScheduler$Simulation" (34 : Nat) "LiftScheduler$Simulation" "floors" "I") ∈ BW := bw_t 38 (by decide +kernel) rfl
theorem bw_39 : (Jvm.Cond.fieldLink "LiftScheduler" (100 : Nat) "LiftScheduler$Simulation" "floors" "I") ∈ BW := bw_t 39 (by decide +kernel) rfl
theorem bw_40 : (Jvm.Cond.fieldLink "LiftScheduler$Script" (187 : Nat) "LiftScheduler$Simulation" "floors" "I") ∈ BW := bw_t 40 (by decide +kernel) rfl
theorem bw_41 : (Jvm.Cond.fieldLink "LiftScheduler$Simulation" (38 : Nat) "LiftScheduler$Simulation" "capacity" "I") ∈ BW := bw_t 41 (by decide +kernel) rfl
theorem bw_42 : (Jvm.Cond.fieldLink "LiftScheduler" (103 : Nat) "LiftScheduler$Simulation" "capacity" "I") ∈ BW := bw_t 42 (by decide +kernel) rfl
theorem bw_43 : (Jvm.Cond.fieldLink "LiftScheduler$Script" (211 : Nat) "LiftScheduler$Simulation" "capacity" "I") ∈ BW := bw_t 43 (by decide +kernel) rfl
theorem bw_44 : (Jvm.Cond.fieldLink "LiftScheduler$Simulation" (41 : Nat) "LiftScheduler$Simulation" "policy" "I") ∈ BW := bw_t 44 (by decide +kernel) rfl
theorem bw_45 : (Jvm.Cond.fieldLink "LiftScheduler" (106 : Nat) "LiftScheduler$Simulation" "policy" "I") ∈ BW := bw_t 45 (by decide +kernel) rfl
theorem bw_46 : (Jvm.Cond.fieldLink "LiftScheduler$Script" (205 : Nat) "LiftScheduler$Simulation" "policy" "I") ∈ BW := bw_t 46 (by decide +kernel) rfl
theorem bw_47 : (Jvm.Cond.fieldLink "LiftScheduler$Simulation" (44 : Nat) "LiftScheduler$Simulation" "time" "I") ∈ BW := bw_t 47 (by decide +kernel) rfl
theorem bw_48 : (Jvm.Cond.fieldLink "LiftScheduler" (109 : Nat) "LiftScheduler$Simulation" "time" "I") ∈ BW := bw_t 48 (by decide +kernel) rfl
theorem bw_49 : (Jvm.Cond.fieldLink "LiftScheduler$Script" (158 : Nat) "LiftScheduler$Simulation" "time" "I") ∈ BW := bw_t 49 (by decide +kernel) rfl
theorem bw_50 : (Jvm.Cond.fieldLink "LiftScheduler$Simulation" (47 : Nat) "LiftScheduler$Simulation" "floor" "I") ∈ BW := bw_t 50 (by decide +kernel) rfl
theorem bw_51 : (Jvm.Cond.fieldLink "LiftScheduler" (112 : Nat) "LiftScheduler$Simulation" "floor" "I") ∈ BW := bw_t 51 (by decide +kernel) rfl
theorem bw_52 : (Jvm.Cond.fieldLink "LiftScheduler$Script" (220 : Nat) "LiftScheduler$Simulation" "floor" "I") ∈ BW := bw_t 52 (by decide +kernel) rfl
theorem bw_53 : (Jvm.Cond.fieldLink "LiftScheduler$Simulation" (50 : Nat) "LiftScheduler$Simulation" "upward" "Z") ∈ BW := bw_t 53 (by decide +kernel) rfl
theorem bw_54 : (Jvm.Cond.fieldLink "LiftScheduler" (115 : Nat) "LiftScheduler$Simulation" "upward" "Z") ∈ BW := bw_t 54 (by decide +kernel) rfl
theorem bw_55 : (Jvm.Cond.fieldLink "LiftScheduler$Script" (168 : Nat) "LiftScheduler$Simulation" "upward" "Z") ∈ BW := bw_t 55 (by decide +kernel) rfl
theorem bw_56 : (Jvm.Cond.fieldLink "LiftScheduler$Simulation" (54 : Nat) "LiftScheduler$Simulation" "distance" "I") ∈ BW := bw_t 56 (by decide +kernel) rfl
theorem bw_57 : (Jvm.Cond.fieldLink "LiftScheduler" (133 : Nat) "LiftScheduler$Simulation" "distance" "I") ∈ BW := bw_t 57 (by decide +kernel) rfl
theorem bw_58 : (Jvm.Cond.fieldLink "LiftScheduler$Script" (223 : Nat) "LiftScheduler$Simulation" "distance" "I") ∈ BW := bw_t 58 (by decide +kernel) rfl
theorem bw_59 : (Jvm.Cond.fieldLink "LiftScheduler$Simulation" (57 : Nat) "LiftScheduler$Simulation" "doorTicks" "I") ∈ BW := bw_t 59 (by decide +kernel) rfl
theorem bw_60 : (Jvm.Cond.fieldLink "LiftScheduler" (136 : Nat) "LiftScheduler$Simulation" "doorTicks" "I") ∈ BW := bw_t 60 (by decide +kernel) rfl
theorem bw_61 : (Jvm.Cond.fieldLink "LiftScheduler$Simulation" (60 : Nat) "LiftScheduler$Simulation" "idleTicks" "I") ∈ BW := bw_t 61 (by decide +kernel) rfl
theorem bw_62 : (Jvm.Cond.fieldLink "LiftScheduler" (139 : Nat) "LiftScheduler$Simulation" "idleTicks" "I") ∈ BW := bw_t 62 (by decide +kernel) rfl
theorem bw_63 : (Jvm.Cond.fieldLink "LiftScheduler$Simulation" (63 : Nat) "LiftScheduler$Simulation" "reversals" "I") ∈ BW := bw_t 63 (by decide +kernel) rfl
theorem bw_64 : (Jvm.Cond.fieldLink "LiftScheduler" (142 : Nat) "LiftScheduler$Simulation" "reversals" "I") ∈ BW := bw_t 64 (by decide +kernel) rfl
theorem bw_65 : (Jvm.Cond.fieldLink "LiftScheduler$Simulation" (66 : Nat) "LiftScheduler$Simulation" "count" "I") ∈ BW := bw_t 65 (by decide +kernel) rfl
theorem bw_66 : (Jvm.Cond.fieldLink "LiftScheduler" (83 : Nat) "LiftScheduler$Simulation" "count" "I") ∈ BW := bw_t 66 (by decide +kernel) rfl
theorem bw_67 : (Jvm.Cond.fieldLink "LiftScheduler$Script" (184 : Nat) "LiftScheduler$Simulation" "count" "I") ∈ BW := bw_t 67 (by decide +kernel) rfl
theorem bw_68 : (Jvm.Cond.fieldLink "LiftScheduler$Simulation" (69 : Nat) "LiftScheduler$Simulation" "riding" "I") ∈ BW := bw_t 68 (by decide +kernel) rfl
theorem bw_69 : (Jvm.Cond.fieldLink "LiftScheduler" (119 : Nat) "LiftScheduler$Simulation" "riding" "I") ∈ BW := bw_t 69 (by decide +kernel) rfl
theorem bw_70 : (Jvm.Cond.fieldLink "LiftScheduler$Script" (208 : Nat) "LiftScheduler$Simulation" "riding" "I") ∈ BW := bw_t 70 (by decide +kernel) rfl
theorem bw_71 : (Jvm.Cond.fieldLink "LiftScheduler$Simulation" (72 : Nat) "LiftScheduler$Simulation" "done" "I") ∈ BW := bw_t 71 (by decide +kernel) rfl
theorem bw_72 : (Jvm.Cond.fieldLink "LiftScheduler$Script" (214 : Nat) "LiftScheduler$Simulation" "done" "I") ∈ BW := bw_t 72 (by decide +kernel) rfl
theorem bw_73 : (Jvm.Cond.fieldLink "LiftScheduler" (205 : Nat) "LiftScheduler$Simulation" "done" "I") ∈ BW := bw_t 73 (by decide +kernel) rfl
theorem bw_74 : (Jvm.Cond.fieldLink "LiftScheduler$Simulation" (9 : Nat) "LiftScheduler$Simulation" "origin" "[I") ∈ BW := bw_t 74 (by decide +kernel) rfl
theorem bw_75 : (Jvm.Cond.fieldLink "LiftScheduler" (151 : Nat) "LiftScheduler$Simulation" "origin" "[I") ∈ BW := bw_t 75 (by decide +kernel) rfl
theorem bw_76 : (Jvm.Cond.fieldLink "LiftScheduler$Simulation" (15 : Nat) "LiftScheduler$Simulation" "destination" "[I") ∈ BW := bw_t 76 (by decide +kernel) rfl
theorem bw_77 : (Jvm.Cond.fieldLink "LiftScheduler" (155 : Nat) "LiftScheduler$Simulation" "destination" "[I") ∈ BW := bw_t 77 (by decide +kernel) rfl
theorem bw_78 : (Jvm.Cond.fieldLink "LiftScheduler$Simulation" (18 : Nat) "LiftScheduler$Simulation" "arrival" "[I") ∈ BW := bw_t 78 (by decide +kernel) rfl
theorem bw_79 : (Jvm.Cond.fieldLink "LiftScheduler" (158 : Nat) "LiftScheduler$Simulation" "arrival" "[I") ∈ BW := bw_t 79 (by decide +kernel) rfl
theorem bw_80 : (Jvm.Cond.fieldLink "LiftScheduler$Simulation" (21 : Nat) "LiftScheduler$Simulation" "boarded" "[I") ∈ BW := bw_t 80 (by decide +kernel) rfl
theorem bw_81 : (Jvm.Cond.fieldLink "LiftScheduler" (161 : Nat) "LiftScheduler$Simulation" "boarded" "[I") ∈ BW := bw_t 81 (by decide +kernel) rfl
theorem bw_82 : (Jvm.Cond.fieldLink "LiftScheduler$Simulation" (24 : Nat) "LiftScheduler$Simulation" "left" "[I") ∈ BW := bw_t 82 (by decide +kernel) rfl
theorem bw_83 : (Jvm.Cond.fieldLink "LiftScheduler" (164 : Nat) "LiftScheduler$Simulation" "left" "[I") ∈ BW := bw_t 83 (by decide +kernel) rfl
theorem bw_84 : (Jvm.Cond.fieldLink "LiftScheduler$Simulation" (27 : Nat) "LiftScheduler$Simulation" "queue" "[I") ∈ BW := bw_t 84 (by decide +kernel) rfl
theorem bw_85 : (Jvm.Cond.fieldLink "LiftScheduler" (189 : Nat) "LiftScheduler$Simulation" "queue" "[I") ∈ BW := bw_t 85 (by decide +kernel) rfl
theorem bw_125 : (Jvm.Cond.arrayClass Jvm.ClassFile.FieldType.int) ∈ BW := bw_t 125 (by decide +kernel) rfl
theorem bw_127 : (Jvm.Cond.classLink "LiftScheduler" (44 : Nat) "LiftScheduler$Script") ∈ BW := bw_t 127 (by decide +kernel) rfl
theorem bw_128 : (Jvm.Cond.instantiable "LiftScheduler$Script" (9 : Nat)) ∈ BW := bw_t 128 (by decide +kernel) rfl
theorem bw_130 : (Jvm.Cond.instanceMethod ({ cls := "LiftScheduler$Script", name := "<init>", desc := "()V" } : Jvm.MethodName)) ∈ BW := bw_t 130 (by decide +kernel) rfl
theorem bw_131 : (Jvm.Cond.code ({ cls := "LiftScheduler$Script", name := "<init>", desc := "()V" } : Jvm.MethodName) prog_4_method_1_code (1 : Nat) (Option.none : Option Jvm.ClassFile.FieldType)) ∈ BW := bw_t 131 (by decide +kernel) rfl
theorem bw_132 : (Jvm.Cond.methodLink "LiftScheduler$Script" (3 : Nat) ({ cls := "java/lang/Object", name := "<init>", desc := "()V" } : Jvm.MethodName)) ∈ BW := bw_t 132 (by decide +kernel) rfl
theorem bw_133 : (Jvm.Cond.classLink "LiftScheduler$Script" (11 : Nat) "LiftScheduler$Kind") ∈ BW := bw_t 133 (by decide +kernel) rfl
theorem bw_135 : (Jvm.Cond.fieldLink "LiftScheduler$Script" (13 : Nat) "LiftScheduler$Script" "kinds" "[LLiftScheduler$Kind;") ∈ BW := bw_t 135 (by decide +kernel) rfl
theorem bw_136 : (Jvm.Cond.fieldLink "LiftScheduler$Script" (17 : Nat) "LiftScheduler$Script" "starts" "[I") ∈ BW := bw_t 136 (by decide +kernel) rfl
theorem bw_137 : (Jvm.Cond.fieldLink "LiftScheduler$Script" (21 : Nat) "LiftScheduler$Script" "values" "[I") ∈ BW := bw_t 137 (by decide +kernel) rfl
theorem bw_138 : (Jvm.Cond.fieldLink "LiftScheduler$Script" (24 : Nat) "LiftScheduler$Script" "tokens" "I") ∈ BW := bw_t 138 (by decide +kernel) rfl
theorem bw_139 : (Jvm.Cond.fieldLink "LiftScheduler$Script" (28 : Nat) "LiftScheduler$Script" "at" "I") ∈ BW := bw_t 139 (by decide +kernel) rfl
theorem bw_140 : (Jvm.Cond.fieldLink "LiftScheduler$Script" (120 : Nat) "LiftScheduler$Script" "simulation" "LLiftScheduler$Simulation;") ∈ BW := bw_t 140 (by decide +kernel) rfl
theorem bw_141 : (Jvm.Cond.fieldLink "LiftScheduler$Script" (31 : Nat) "LiftScheduler$Script" "executed" "I") ∈ BW := bw_t 141 (by decide +kernel) rfl
theorem bw_142 : (Jvm.Cond.fieldLink "LiftScheduler" (91 : Nat) "LiftScheduler$Script" "executed" "I") ∈ BW := bw_t 142 (by decide +kernel) rfl
theorem bw_143 : (Jvm.Cond.fieldLink "LiftScheduler$Script" (34 : Nat) "LiftScheduler$Script" "errorCode" "I") ∈ BW := bw_t 143 (by decide +kernel) rfl
theorem bw_144 : (Jvm.Cond.fieldLink "LiftScheduler" (94 : Nat) "LiftScheduler$Script" "errorCode" "I") ∈ BW := bw_t 144 (by decide +kernel) rfl
theorem bw_145 : (Jvm.Cond.fieldLink "LiftScheduler$Script" (37 : Nat) "LiftScheduler$Script" "errorPosition" "I") ∈ BW := bw_t 145 (by decide +kernel) rfl
theorem bw_146 : (Jvm.Cond.fieldLink "LiftScheduler" (97 : Nat) "LiftScheduler$Script" "errorPosition" "I") ∈ BW := bw_t 146 (by decide +kernel) rfl
theorem bw_166 : (Jvm.Cond.arrayClass Jvm.ClassFile.FieldType.boolean) ∈ BW := bw_t 166 (by decide +kernel) rfl
theorem bw_167 : (Jvm.Cond.arrayClass Jvm.ClassFile.FieldType.byte) ∈ BW := bw_t 167 (by decide +kernel) rfl
theorem bw_168 : (Jvm.Cond.fieldLink "LiftScheduler" (10 : Nat) "LiftScheduler" "now" "LLiftScheduler$Simulation;") ∈ BW := bw_t 168 (by decide +kernel) rfl
theorem bw_169 : (Jvm.Cond.fieldLink "LiftScheduler" (16 : Nat) "LiftScheduler" "trial" "LLiftScheduler$Simulation;") ∈ BW := bw_t 169 (by decide +kernel) rfl
theorem bw_170 : (Jvm.Cond.fieldLink "LiftScheduler" (19 : Nat) "LiftScheduler" "past" "[LLiftScheduler$Simulation;") ∈ BW := bw_t 170 (by decide +kernel) rfl
theorem bw_171 : (Jvm.Cond.fieldLink "LiftScheduler" (23 : Nat) "LiftScheduler" "nextPast" "I") ∈ BW := bw_t 171 (by decide +kernel) rfl
theorem bw_172 : (Jvm.Cond.fieldLink "LiftScheduler" (27 : Nat) "LiftScheduler" "changes" "I") ∈ BW := bw_t 172 (by decide +kernel) rfl
theorem bw_173 : (Jvm.Cond.fieldLink "LiftScheduler" (30 : Nat) "LiftScheduler" "slots" "[LLiftScheduler$Simulation;") ∈ BW := bw_t 173 (by decide +kernel) rfl
theorem bw_174 : (Jvm.Cond.fieldLink "LiftScheduler" (33 : Nat) "LiftScheduler" "slotFilled" "[Z") ∈ BW := bw_t 174 (by decide +kernel) rfl
theorem bw_175 : (Jvm.Cond.fieldLink "LiftScheduler" (37 : Nat) "LiftScheduler" "input" "[B") ∈ BW := bw_t 175 (by decide +kernel) rfl
theorem bw_176 : (Jvm.Cond.fieldLink "LiftScheduler" (41 : Nat) "LiftScheduler" "inputLength" "I") ∈ BW := bw_t 176 (by decide +kernel) rfl
theorem bw_177 : (Jvm.Cond.fieldLink "LiftScheduler" (47 : Nat) "LiftScheduler" "script" "LLiftScheduler$Script;") ∈ BW := bw_t 177 (by decide +kernel) rfl
theorem bw_178 : (Jvm.Cond.fieldLink "LiftScheduler" (51 : Nat) "LiftScheduler" "output" "[B") ∈ BW := bw_t 178 (by decide +kernel) rfl
theorem bw_179 : (Jvm.Cond.fieldLink "LiftScheduler" (54 : Nat) "LiftScheduler" "outputLength" "I") ∈ BW := bw_t 179 (by decide +kernel) rfl
theorem bw_205 : (Jvm.Cond.methodLink "LiftSchedulerLaw" (111 : Nat) ({ cls := "LiftScheduler", name := "append", desc := "(IIIII)I" } : Jvm.MethodName)) ∈ BW := bw_t 205 (by decide +kernel) rfl
theorem bw_206 : (Jvm.Cond.instanceMethod ({ cls := "LiftScheduler", name := "append", desc := "(IIIII)I" } : Jvm.MethodName)) ∈ BW := bw_t 206 (by decide +kernel) rfl
theorem bw_207 : (Jvm.Cond.selects "LiftScheduler" ({ cls := "LiftScheduler", name := "append", desc := "(IIIII)I" } : Jvm.MethodName) ({ cls := "LiftScheduler", name := "append", desc := "(IIIII)I" } : Jvm.MethodName)) ∈ BW := bw_t 207 (by decide +kernel) rfl
theorem bw_208 : (Jvm.Cond.code ({ cls := "LiftScheduler", name := "append", desc := "(IIIII)I" } : Jvm.MethodName) prog_1_method_2_code (6 : Nat) (Option.some Jvm.ClassFile.FieldType.int)) ∈ BW := bw_t 208 (by decide +kernel) rfl
theorem bw_209 : (Jvm.Cond.methodLink "LiftScheduler" (57 : Nat) ({ cls := "LiftScheduler", name := "appendFour", desc := "(I)V" } : Jvm.MethodName)) ∈ BW := bw_t 209 (by decide +kernel) rfl
theorem bw_211 : (Jvm.Cond.instanceMethod ({ cls := "LiftScheduler", name := "appendFour", desc := "(I)V" } : Jvm.MethodName)) ∈ BW := bw_t 211 (by decide +kernel) rfl
theorem bw_212 : (Jvm.Cond.code ({ cls := "LiftScheduler", name := "appendFour", desc := "(I)V" } : Jvm.MethodName) prog_1_method_3_code (3 : Nat) (Option.none : Option Jvm.ClassFile.FieldType)) ∈ BW := bw_t 212 (by decide +kernel) rfl
theorem bw_213 : (Jvm.Cond.methodLink "LiftSchedulerLaw" (116 : Nat) ({ cls := "LiftScheduler", name := "truncate", desc := "(I)Z" } : Jvm.MethodName)) ∈ BW := bw_t 213 (by decide +kernel) rfl
theorem bw_214 : (Jvm.Cond.instanceMethod ({ cls := "LiftScheduler", name := "truncate", desc := "(I)Z" } : Jvm.MethodName)) ∈ BW := bw_t 214 (by decide +kernel) rfl
theorem bw_215 : (Jvm.Cond.selects "LiftScheduler" ({ cls := "LiftScheduler", name := "truncate", desc := "(I)Z" } : Jvm.MethodName) ({ cls := "LiftScheduler", name := "truncate", desc := "(I)Z" } : Jvm.MethodName)) ∈ BW := bw_t 215 (by decide +kernel) rfl
theorem bw_216 : (Jvm.Cond.code ({ cls := "LiftScheduler", name := "truncate", desc := "(I)Z" } : Jvm.MethodName) prog_1_method_4_code (2 : Nat) (Option.some Jvm.ClassFile.FieldType.boolean)) ∈ BW := bw_t 216 (by decide +kernel) rfl
theorem bw_217 : (Jvm.Cond.methodLink "LiftSchedulerLaw" (132 : Nat) ({ cls := "LiftScheduler", name := "parseError", desc := "()I" } : Jvm.MethodName)) ∈ BW := bw_t 217 (by decide +kernel) rfl
theorem bw_218 : (Jvm.Cond.instanceMethod ({ cls := "LiftScheduler", name := "parseError", desc := "()I" } : Jvm.MethodName)) ∈ BW := bw_t 218 (by decide +kernel) rfl
theorem bw_219 : (Jvm.Cond.selects "LiftScheduler" ({ cls := "LiftScheduler", name := "parseError", desc := "()I" } : Jvm.MethodName) ({ cls := "LiftScheduler", name := "parseError", desc := "()I" } : Jvm.MethodName)) ∈ BW := bw_t 219 (by decide +kernel) rfl
theorem bw_220 : (Jvm.Cond.code ({ cls := "LiftScheduler", name := "parseError", desc := "()I" } : Jvm.MethodName) prog_1_method_7_code (1 : Nat) (Option.some Jvm.ClassFile.FieldType.int)) ∈ BW := bw_t 220 (by decide +kernel) rfl
theorem bw_221 : (Jvm.Cond.methodLink "LiftSchedulerLaw" (136 : Nat) ({ cls := "LiftScheduler", name := "parseErrorPosition", desc := "()I" } : Jvm.MethodName)) ∈ BW := bw_t 221 (by decide +kernel) rfl
theorem bw_222 : (Jvm.Cond.instanceMethod ({ cls := "LiftScheduler", name := "parseErrorPosition", desc := "()I" } : Jvm.MethodName)) ∈ BW := bw_t 222 (by decide +kernel) rfl
theorem bw_223 : (Jvm.Cond.selects "LiftScheduler" ({ cls := "LiftScheduler", name := "parseErrorPosition", desc := "()I" } : Jvm.MethodName) ({ cls := "LiftScheduler", name := "parseErrorPosition", desc := "()I" } : Jvm.MethodName)) ∈ BW := bw_t 223 (by decide +kernel) rfl
theorem bw_224 : (Jvm.Cond.code ({ cls := "LiftScheduler", name := "parseErrorPosition", desc := "()I" } : Jvm.MethodName) prog_1_method_8_code (1 : Nat) (Option.some Jvm.ClassFile.FieldType.int)) ∈ BW := bw_t 224 (by decide +kernel) rfl
theorem bw_225 : (Jvm.Cond.methodLink "LiftSchedulerLaw" (140 : Nat) ({ cls := "LiftScheduler", name := "floorCount", desc := "()I" } : Jvm.MethodName)) ∈ BW := bw_t 225 (by decide +kernel) rfl
theorem bw_226 : (Jvm.Cond.instanceMethod ({ cls := "LiftScheduler", name := "floorCount", desc := "()I" } : Jvm.MethodName)) ∈ BW := bw_t 226 (by decide +kernel) rfl
theorem bw_227 : (Jvm.Cond.selects "LiftScheduler" ({ cls := "LiftScheduler", name := "floorCount", desc := "()I" } : Jvm.MethodName) ({ cls := "LiftScheduler", name := "floorCount", desc := "()I" } : Jvm.MethodName)) ∈ BW := bw_t 227 (by decide +kernel) rfl
theorem bw_228 : (Jvm.Cond.code ({ cls := "LiftScheduler", name := "floorCount", desc := "()I" } : Jvm.MethodName) prog_1_method_9_code (1 : Nat) (Option.some Jvm.ClassFile.FieldType.int)) ∈ BW := bw_t 228 (by decide +kernel) rfl
theorem bw_229 : (Jvm.Cond.methodLink "LiftSchedulerLaw" (144 : Nat) ({ cls := "LiftScheduler", name := "capacity", desc := "()I" } : Jvm.MethodName)) ∈ BW := bw_t 229 (by decide +kernel) rfl
theorem bw_230 : (Jvm.Cond.instanceMethod ({ cls := "LiftScheduler", name := "capacity", desc := "()I" } : Jvm.MethodName)) ∈ BW := bw_t 230 (by decide +kernel) rfl
theorem bw_231 : (Jvm.Cond.selects "LiftScheduler" ({ cls := "LiftScheduler", name := "capacity", desc := "()I" } : Jvm.MethodName) ({ cls := "LiftScheduler", name := "capacity", desc := "()I" } : Jvm.MethodName)) ∈ BW := bw_t 231 (by decide +kernel) rfl
theorem bw_232 : (Jvm.Cond.code ({ cls := "LiftScheduler", name := "capacity", desc := "()I" } : Jvm.MethodName) prog_1_method_10_code (1 : Nat) (Option.some Jvm.ClassFile.FieldType.int)) ∈ BW := bw_t 232 (by decide +kernel) rfl
theorem bw_233 : (Jvm.Cond.methodLink "LiftSchedulerLaw" (148 : Nat) ({ cls := "LiftScheduler", name := "policy", desc := "()I" } : Jvm.MethodName)) ∈ BW := bw_t 233 (by decide +kernel) rfl
theorem bw_234 : (Jvm.Cond.instanceMethod ({ cls := "LiftScheduler", name := "policy", desc := "()I" } : Jvm.MethodName)) ∈ BW := bw_t 234 (by decide +kernel) rfl
theorem bw_235 : (Jvm.Cond.selects "LiftScheduler" ({ cls := "LiftScheduler", name := "policy", desc := "()I" } : Jvm.MethodName) ({ cls := "LiftScheduler", name := "policy", desc := "()I" } : Jvm.MethodName)) ∈ BW := bw_t 235 (by decide +kernel) rfl
theorem bw_236 : (Jvm.Cond.code ({ cls := "LiftScheduler", name := "policy", desc := "()I" } : Jvm.MethodName) prog_1_method_11_code (1 : Nat) (Option.some Jvm.ClassFile.FieldType.int)) ∈ BW := bw_t 236 (by decide +kernel) rfl
theorem bw_237 : (Jvm.Cond.methodLink "LiftSchedulerLaw" (152 : Nat) ({ cls := "LiftScheduler", name := "time", desc := "()I" } : Jvm.MethodName)) ∈ BW := bw_t 237 (by decide +kernel) rfl
theorem bw_238 : (Jvm.Cond.instanceMethod ({ cls := "LiftScheduler", name := "time", desc := "()I" } : Jvm.MethodName)) ∈ BW := bw_t 238 (by decide +kernel) rfl
theorem bw_239 : (Jvm.Cond.selects "LiftScheduler" ({ cls := "LiftScheduler", name := "time", desc := "()I" } : Jvm.MethodName) ({ cls := "LiftScheduler", name := "time", desc := "()I" } : Jvm.MethodName)) ∈ BW := bw_t 239 (by decide +kernel) rfl
theorem bw_240 : (Jvm.Cond.code ({ cls := "LiftScheduler", name := "time", desc := "()I" } : Jvm.MethodName) prog_1_method_12_code (1 : Nat) (Option.some Jvm.ClassFile.FieldType.int)) ∈ BW := bw_t 240 (by decide +kernel) rfl
theorem bw_241 : (Jvm.Cond.methodLink "LiftSchedulerLaw" (156 : Nat) ({ cls := "LiftScheduler", name := "floor", desc := "()I" } : Jvm.MethodName)) ∈ BW := bw_t 241 (by decide +kernel) rfl
theorem bw_242 : (Jvm.Cond.instanceMethod ({ cls := "LiftScheduler", name := "floor", desc := "()I" } : Jvm.MethodName)) ∈ BW := bw_t 242 (by decide +kernel) rfl
theorem bw_243 : (Jvm.Cond.selects "LiftScheduler" ({ cls := "LiftScheduler", name := "floor", desc := "()I" } : Jvm.MethodName) ({ cls := "LiftScheduler", name := "floor", desc := "()I" } : Jvm.MethodName)) ∈ BW := bw_t 243 (by decide +kernel) rfl
theorem bw_244 : (Jvm.Cond.code ({ cls := "LiftScheduler", name := "floor", desc := "()I" } : Jvm.MethodName) prog_1_method_13_code (1 : Nat) (Option.some Jvm.ClassFile.FieldType.int)) ∈ BW := bw_t 244 (by decide +kernel) rfl
theorem bw_245 : (Jvm.Cond.methodLink "LiftSchedulerLaw" (160 : Nat) ({ cls := "LiftScheduler", name := "isUpward", desc := "()Z" } : Jvm.MethodName)) ∈ BW := bw_t 245 (by decide +kernel) rfl
theorem bw_246 : (Jvm.Cond.instanceMethod ({ cls := "LiftScheduler", name := "isUpward", desc := "()Z" } : Jvm.MethodName)) ∈ BW := bw_t 246 (by decide +kernel) rfl
theorem bw_247 : (Jvm.Cond.selects "LiftScheduler" ({ cls := "LiftScheduler", name := "isUpward", desc := "()Z" } : Jvm.MethodName) ({ cls := "LiftScheduler", name := "isUpward", desc := "()Z" } : Jvm.MethodName)) ∈ BW := bw_t 247 (by decide +kernel) rfl
theorem bw_248 : (Jvm.Cond.code ({ cls := "LiftScheduler", name := "isUpward", desc := "()Z" } : Jvm.MethodName) prog_1_method_14_code (1 : Nat) (Option.some Jvm.ClassFile.FieldType.boolean)) ∈ BW := bw_t 248 (by decide +kernel) rfl
theorem bw_249 : (Jvm.Cond.methodLink "LiftSchedulerLaw" (165 : Nat) ({ cls := "LiftScheduler", name := "isFull", desc := "()Z" } : Jvm.MethodName)) ∈ BW := bw_t 249 (by decide +kernel) rfl
theorem bw_250 : (Jvm.Cond.instanceMethod ({ cls := "LiftScheduler", name := "isFull", desc := "()Z" } : Jvm.MethodName)) ∈ BW := bw_t 250 (by decide +kernel) rfl
theorem bw_251 : (Jvm.Cond.selects "LiftScheduler" ({ cls := "LiftScheduler", name := "isFull", desc := "()Z" } : Jvm.MethodName) ({ cls := "LiftScheduler", name := "isFull", desc := "()Z" } : Jvm.MethodName)) ∈ BW := bw_t 251 (by decide +kernel) rfl
theorem bw_252 : (Jvm.Cond.code ({ cls := "LiftScheduler", name := "isFull", desc := "()Z" } : Jvm.MethodName) prog_1_method_15_code (1 : Nat) (Option.some Jvm.ClassFile.FieldType.boolean)) ∈ BW := bw_t 252 (by decide +kernel) rfl
theorem bw_253 : (Jvm.Cond.methodLink "LiftSchedulerLaw" (169 : Nat) ({ cls := "LiftScheduler", name := "stopMask", desc := "()I" } : Jvm.MethodName)) ∈ BW := bw_t 253 (by decide +kernel) rfl
theorem bw_254 : (Jvm.Cond.instanceMethod ({ cls := "LiftScheduler", name := "stopMask", desc := "()I" } : Jvm.MethodName)) ∈ BW := bw_t 254 (by decide +kernel) rfl
theorem bw_255 : (Jvm.Cond.selects "LiftScheduler" ({ cls := "LiftScheduler", name := "stopMask", desc := "()I" } : Jvm.MethodName) ({ cls := "LiftScheduler", name := "stopMask", desc := "()I" } : Jvm.MethodName)) ∈ BW := bw_t 255 (by decide +kernel) rfl
theorem bw_256 : (Jvm.Cond.code ({ cls := "LiftScheduler", name := "stopMask", desc := "()I" } : Jvm.MethodName) prog_1_method_16_code (1 : Nat) (Option.some Jvm.ClassFile.FieldType.int)) ∈ BW := bw_t 256 (by decide +kernel) rfl
theorem bw_257 : (Jvm.Cond.methodLink "LiftScheduler" (122 : Nat) ({ cls := "LiftScheduler$Simulation", name := "findStops", desc := "()I" } : Jvm.MethodName)) ∈ BW := bw_t 257 (by decide +kernel) rfl
theorem bw_258 : (Jvm.Cond.instanceMethod ({ cls := "LiftScheduler$Simulation", name := "findStops", desc := "()I" } : Jvm.MethodName)) ∈ BW := bw_t 258 (by decide +kernel) rfl
theorem bw_259 : (Jvm.Cond.selects "LiftScheduler$Simulation" ({ cls := "LiftScheduler$Simulation", name := "findStops", desc := "()I" } : Jvm.MethodName) ({ cls := "LiftScheduler$Simulation", name := "findStops", desc := "()I" } : Jvm.MethodName)) ∈ BW := bw_t 259 (by decide +kernel) rfl
theorem bw_260 : (Jvm.Cond.code ({ cls := "LiftScheduler$Simulation", name := "findStops", desc := "()I" } : Jvm.MethodName) prog_5_method_14_code (4 : Nat) (Option.some Jvm.ClassFile.FieldType.int)) ∈ BW := bw_t 260 (by decide +kernel) rfl
theorem bw_261 : (Jvm.Cond.methodLink "LiftSchedulerLaw" (177 : Nat) ({ cls := "LiftScheduler", name := "distance", desc := "()I" } : Jvm.MethodName)) ∈ BW := bw_t 261 (by decide +kernel) rfl
theorem bw_262 : (Jvm.Cond.instanceMethod ({ cls := "LiftScheduler", name := "distance", desc := "()I" } : Jvm.MethodName)) ∈ BW := bw_t 262 (by decide +kernel) rfl
theorem bw_263 : (Jvm.Cond.selects "LiftScheduler" ({ cls := "LiftScheduler", name := "distance", desc := "()I" } : Jvm.MethodName) ({ cls := "LiftScheduler", name := "distance", desc := "()I" } : Jvm.MethodName)) ∈ BW := bw_t 263 (by decide +kernel) rfl
theorem bw_264 : (Jvm.Cond.code ({ cls := "LiftScheduler", name := "distance", desc := "()I" } : Jvm.MethodName) prog_1_method_18_code (1 : Nat) (Option.some Jvm.ClassFile.FieldType.int)) ∈ BW := bw_t 264 (by decide +kernel) rfl
theorem bw_265 : (Jvm.Cond.methodLink "LiftSchedulerLaw" (181 : Nat) ({ cls := "LiftScheduler", name := "doorTicks", desc := "()I" } : Jvm.MethodName)) ∈ BW := bw_t 265 (by decide +kernel) rfl
theorem bw_266 : (Jvm.Cond.instanceMethod ({ cls := "LiftScheduler", name := "doorTicks", desc := "()I" } : Jvm.MethodName)) ∈ BW := bw_t 266 (by decide +kernel) rfl
theorem bw_267 : (Jvm.Cond.selects "LiftScheduler" ({ cls := "LiftScheduler", name := "doorTicks", desc := "()I" } : Jvm.MethodName) ({ cls := "LiftScheduler", name := "doorTicks", desc := "()I" } : Jvm.MethodName)) ∈ BW := bw_t 267 (by decide +kernel) rfl
theorem bw_268 : (Jvm.Cond.code ({ cls := "LiftScheduler", name := "doorTicks", desc := "()I" } : Jvm.MethodName) prog_1_method_19_code (1 : Nat) (Option.some Jvm.ClassFile.FieldType.int)) ∈ BW := bw_t 268 (by decide +kernel) rfl
theorem bw_269 : (Jvm.Cond.methodLink "LiftSchedulerLaw" (185 : Nat) ({ cls := "LiftScheduler", name := "idleTicks", desc := "()I" } : Jvm.MethodName)) ∈ BW := bw_t 269 (by decide +kernel) rfl
theorem bw_270 : (Jvm.Cond.instanceMethod ({ cls := "LiftScheduler", name := "idleTicks", desc := "()I" } : Jvm.MethodName)) ∈ BW := bw_t 270 (by decide +kernel) rfl
theorem bw_271 : (Jvm.Cond.selects "LiftScheduler" ({ cls := "LiftScheduler", name := "idleTicks", desc := "()I" } : Jvm.MethodName) ({ cls := "LiftScheduler", name := "idleTicks", desc := "()I" } : Jvm.MethodName)) ∈ BW := bw_t 271 (by decide +kernel) rfl
theorem bw_272 : (Jvm.Cond.code ({ cls := "LiftScheduler", name := "idleTicks", desc := "()I" } : Jvm.MethodName) prog_1_method_20_code (1 : Nat) (Option.some Jvm.ClassFile.FieldType.int)) ∈ BW := bw_t 272 (by decide +kernel) rfl
theorem bw_273 : (Jvm.Cond.methodLink "LiftSchedulerLaw" (189 : Nat) ({ cls := "LiftScheduler", name := "reversals", desc := "()I" } : Jvm.MethodName)) ∈ BW := bw_t 273 (by decide +kernel) rfl
theorem bw_274 : (Jvm.Cond.instanceMethod ({ cls := "LiftScheduler", name := "reversals", desc := "()I" } : Jvm.MethodName)) ∈ BW := bw_t 274 (by decide +kernel) rfl
theorem bw_275 : (Jvm.Cond.selects "LiftScheduler" ({ cls := "LiftScheduler", name := "reversals", desc := "()I" } : Jvm.MethodName) ({ cls := "LiftScheduler", name := "reversals", desc := "()I" } : Jvm.MethodName)) ∈ BW := bw_t 275 (by decide +kernel) rfl
theorem bw_276 : (Jvm.Cond.code ({ cls := "LiftScheduler", name := "reversals", desc := "()I" } : Jvm.MethodName) prog_1_method_21_code (1 : Nat) (Option.some Jvm.ClassFile.FieldType.int)) ∈ BW := bw_t 276 (by decide +kernel) rfl
theorem bw_277 : (Jvm.Cond.methodLink "LiftSchedulerLaw" (193 : Nat) ({ cls := "LiftScheduler", name := "passengerCount", desc := "()I" } : Jvm.MethodName)) ∈ BW := bw_t 277 (by decide +kernel) rfl
theorem bw_278 : (Jvm.Cond.instanceMethod ({ cls := "LiftScheduler", name := "passengerCount", desc := "()I" } : Jvm.MethodName)) ∈ BW := bw_t 278 (by decide +kernel) rfl
theorem bw_279 : (Jvm.Cond.selects "LiftScheduler" ({ cls := "LiftScheduler", name := "passengerCount", desc := "()I" } : Jvm.MethodName) ({ cls := "LiftScheduler", name := "passengerCount", desc := "()I" } : Jvm.MethodName)) ∈ BW := bw_t 279 (by decide +kernel) rfl
theorem bw_280 : (Jvm.Cond.code ({ cls := "LiftScheduler", name := "passengerCount", desc := "()I" } : Jvm.MethodName) prog_1_method_22_code (1 : Nat) (Option.some Jvm.ClassFile.FieldType.int)) ∈ BW := bw_t 280 (by decide +kernel) rfl
theorem bw_281 : (Jvm.Cond.methodLink "LiftSchedulerLaw" (234 : Nat) ({ cls := "LiftScheduler", name := "firstWaiting", desc := "()I" } : Jvm.MethodName)) ∈ BW := bw_t 281 (by decide +kernel) rfl
theorem bw_282 : (Jvm.Cond.instanceMethod ({ cls := "LiftScheduler", name := "firstWaiting", desc := "()I" } : Jvm.MethodName)) ∈ BW := bw_t 282 (by decide +kernel) rfl
theorem bw_283 : (Jvm.Cond.selects "LiftScheduler" ({ cls := "LiftScheduler", name := "firstWaiting", desc := "()I" } : Jvm.MethodName) ({ cls := "LiftScheduler", name := "firstWaiting", desc := "()I" } : Jvm.MethodName)) ∈ BW := bw_t 283 (by decide +kernel) rfl
theorem bw_284 : (Jvm.Cond.code ({ cls := "LiftScheduler", name := "firstWaiting", desc := "()I" } : Jvm.MethodName) prog_1_method_35_code (1 : Nat) (Option.some Jvm.ClassFile.FieldType.int)) ∈ BW := bw_t 284 (by decide +kernel) rfl
theorem bw_285 : (Jvm.Cond.methodLink "LiftScheduler" (192 : Nat) ({ cls := "LiftScheduler$Simulation", name := "findFirstWaiting", desc := "()I" } : Jvm.MethodName)) ∈ BW := bw_t 285 (by decide +kernel) rfl
theorem bw_286 : (Jvm.Cond.instanceMethod ({ cls := "LiftScheduler$Simulation", name := "findFirstWaiting", desc := "()I" } : Jvm.MethodName)) ∈ BW := bw_t 286 (by decide +kernel) rfl
theorem bw_287 : (Jvm.Cond.selects "LiftScheduler$Simulation" ({ cls := "LiftScheduler$Simulation", name := "findFirstWaiting", desc := "()I" } : Jvm.MethodName) ({ cls := "LiftScheduler$Simulation", name := "findFirstWaiting", desc := "()I" } : Jvm.MethodName)) ∈ BW := bw_t 287 (by decide +kernel) rfl
theorem bw_288 : (Jvm.Cond.code ({ cls := "LiftScheduler$Simulation", name := "findFirstWaiting", desc := "()I" } : Jvm.MethodName) prog_5_method_10_code (3 : Nat) (Option.some Jvm.ClassFile.FieldType.int)) ∈ BW := bw_t 288 (by decide +kernel) rfl
theorem bw_289 : (Jvm.Cond.methodLink "LiftSchedulerLaw" (241 : Nat) ({ cls := "LiftScheduler", name := "busiestOrigin", desc := "()I" } : Jvm.MethodName)) ∈ BW := bw_t 289 (by decide +kernel) rfl
theorem bw_290 : (Jvm.Cond.instanceMethod ({ cls := "LiftScheduler", name := "busiestOrigin", desc := "()I" } : Jvm.MethodName)) ∈ BW := bw_t 290 (by decide +kernel) rfl
theorem bw_291 : (Jvm.Cond.selects "LiftScheduler" ({ cls := "LiftScheduler", name := "busiestOrigin", desc := "()I" } : Jvm.MethodName) ({ cls := "LiftScheduler", name := "busiestOrigin", desc := "()I" } : Jvm.MethodName)) ∈ BW := bw_t 291 (by decide +kernel) rfl
theorem bw_292 : (Jvm.Cond.code ({ cls := "LiftScheduler", name := "busiestOrigin", desc := "()I" } : Jvm.MethodName) prog_1_method_37_code (6 : Nat) (Option.some Jvm.ClassFile.FieldType.int)) ∈ BW := bw_t 292 (by decide +kernel) rfl
theorem bw_293 : (Jvm.Cond.methodLink "LiftSchedulerLaw" (248 : Nat) ({ cls := "LiftScheduler", name := "nextArrival", desc := "()I" } : Jvm.MethodName)) ∈ BW := bw_t 293 (by decide +kernel) rfl
theorem bw_294 : (Jvm.Cond.instanceMethod ({ cls := "LiftScheduler", name := "nextArrival", desc := "()I" } : Jvm.MethodName)) ∈ BW := bw_t 294 (by decide +kernel) rfl
theorem bw_295 : (Jvm.Cond.selects "LiftScheduler" ({ cls := "LiftScheduler", name := "nextArrival", desc := "()I" } : Jvm.MethodName) ({ cls := "LiftScheduler", name := "nextArrival", desc := "()I" } : Jvm.MethodName)) ∈ BW := bw_t 295 (by decide +kernel) rfl
theorem bw_296 : (Jvm.Cond.code ({ cls := "LiftScheduler", name := "nextArrival", desc := "()I" } : Jvm.MethodName) prog_1_method_39_code (4 : Nat) (Option.some Jvm.ClassFile.FieldType.int)) ∈ BW := bw_t 296 (by decide +kernel) rfl
theorem bw_297 : (Jvm.Cond.methodLink "LiftSchedulerLaw" (252 : Nat) ({ cls := "LiftScheduler", name := "totalRide", desc := "()I" } : Jvm.MethodName)) ∈ BW := bw_t 297 (by decide +kernel) rfl
theorem bw_298 : (Jvm.Cond.instanceMethod ({ cls := "LiftScheduler", name := "totalRide", desc := "()I" } : Jvm.MethodName)) ∈ BW := bw_t 298 (by decide +kernel) rfl
theorem bw_299 : (Jvm.Cond.selects "LiftScheduler" ({ cls := "LiftScheduler", name := "totalRide", desc := "()I" } : Jvm.MethodName) ({ cls := "LiftScheduler", name := "totalRide", desc := "()I" } : Jvm.MethodName)) ∈ BW := bw_t 299 (by decide +kernel) rfl
theorem bw_300 : (Jvm.Cond.code ({ cls := "LiftScheduler", name := "totalRide", desc := "()I" } : Jvm.MethodName) prog_1_method_40_code (3 : Nat) (Option.some Jvm.ClassFile.FieldType.int)) ∈ BW := bw_t 300 (by decide +kernel) rfl
theorem bw_301 : (Jvm.Cond.methodLink "LiftScheduler" (170 : Nat) ({ cls := "LiftScheduler$Simulation", name := "findRide", desc := "(I)I" } : Jvm.MethodName)) ∈ BW := bw_t 301 (by decide +kernel) rfl
theorem bw_302 : (Jvm.Cond.instanceMethod ({ cls := "LiftScheduler$Simulation", name := "findRide", desc := "(I)I" } : Jvm.MethodName)) ∈ BW := bw_t 302 (by decide +kernel) rfl
theorem bw_303 : (Jvm.Cond.selects "LiftScheduler$Simulation" ({ cls := "LiftScheduler$Simulation", name := "findRide", desc := "(I)I" } : Jvm.MethodName) ({ cls := "LiftScheduler$Simulation", name := "findRide", desc := "(I)I" } : Jvm.MethodName)) ∈ BW := bw_t 303 (by decide +kernel) rfl
theorem bw_304 : (Jvm.Cond.code ({ cls := "LiftScheduler$Simulation", name := "findRide", desc := "(I)I" } : Jvm.MethodName) prog_5_method_7_code (2 : Nat) (Option.some Jvm.ClassFile.FieldType.int)) ∈ BW := bw_t 304 (by decide +kernel) rfl
theorem bw_305 : (Jvm.Cond.methodLink "LiftScheduler" (195 : Nat) ({ cls := "java/lang/Math", name := "max", desc := "(II)I" } : Jvm.MethodName)) ∈ BW := bw_t 305 (by decide +kernel) rfl
theorem bw_306 : (Jvm.Cond.static ({ cls := "java/lang/Math", name := "max", desc := "(II)I" } : Jvm.MethodName)) ∈ BW := bw_t 306 (by decide +kernel) rfl
theorem bw_307 : (Jvm.Cond.code ({ cls := "java/lang/Math", name := "max", desc := "(II)I" } : Jvm.MethodName) prog_13_method_65_code (2 : Nat) (Option.some Jvm.ClassFile.FieldType.int)) ∈ BW := bw_t 307 (by decide +kernel) rfl
theorem bw_308 : (Jvm.Cond.methodLink "LiftSchedulerLaw" (256 : Nat) ({ cls := "LiftScheduler", name := "longestRide", desc := "()I" } : Jvm.MethodName)) ∈ BW := bw_t 308 (by decide +kernel) rfl
theorem bw_309 : (Jvm.Cond.instanceMethod ({ cls := "LiftScheduler", name := "longestRide", desc := "()I" } : Jvm.MethodName)) ∈ BW := bw_t 309 (by decide +kernel) rfl
theorem bw_310 : (Jvm.Cond.selects "LiftScheduler" ({ cls := "LiftScheduler", name := "longestRide", desc := "()I" } : Jvm.MethodName) ({ cls := "LiftScheduler", name := "longestRide", desc := "()I" } : Jvm.MethodName)) ∈ BW := bw_t 310 (by decide +kernel) rfl
theorem bw_311 : (Jvm.Cond.code ({ cls := "LiftScheduler", name := "longestRide", desc := "()I" } : Jvm.MethodName) prog_1_method_41_code (3 : Nat) (Option.some Jvm.ClassFile.FieldType.int)) ∈ BW := bw_t 311 (by decide +kernel) rfl
theorem bw_312 : (Jvm.Cond.methodLink "LiftSchedulerLaw" (260 : Nat) ({ cls := "LiftScheduler", name := "lastDone", desc := "()I" } : Jvm.MethodName)) ∈ BW := bw_t 312 (by decide +kernel) rfl
theorem bw_313 : (Jvm.Cond.instanceMethod ({ cls := "LiftScheduler", name := "lastDone", desc := "()I" } : Jvm.MethodName)) ∈ BW := bw_t 313 (by decide +kernel) rfl
theorem bw_314 : (Jvm.Cond.selects "LiftScheduler" ({ cls := "LiftScheduler", name := "lastDone", desc := "()I" } : Jvm.MethodName) ({ cls := "LiftScheduler", name := "lastDone", desc := "()I" } : Jvm.MethodName)) ∈ BW := bw_t 314 (by decide +kernel) rfl
theorem bw_315 : (Jvm.Cond.code ({ cls := "LiftScheduler", name := "lastDone", desc := "()I" } : Jvm.MethodName) prog_1_method_42_code (4 : Nat) (Option.some Jvm.ClassFile.FieldType.int)) ∈ BW := bw_t 315 (by decide +kernel) rfl
theorem bw_316 : (Jvm.Cond.methodLink "LiftSchedulerLaw" (264 : Nat) ({ cls := "LiftScheduler", name := "movingShare", desc := "()F" } : Jvm.MethodName)) ∈ BW := bw_t 316 (by decide +kernel) rfl
theorem bw_317 : (Jvm.Cond.instanceMethod ({ cls := "LiftScheduler", name := "movingShare", desc := "()F" } : Jvm.MethodName)) ∈ BW := bw_t 317 (by decide +kernel) rfl
theorem bw_318 : (Jvm.Cond.selects "LiftScheduler" ({ cls := "LiftScheduler", name := "movingShare", desc := "()F" } : Jvm.MethodName) ({ cls := "LiftScheduler", name := "movingShare", desc := "()F" } : Jvm.MethodName)) ∈ BW := bw_t 318 (by decide +kernel) rfl
theorem bw_319 : (Jvm.Cond.code ({ cls := "LiftScheduler", name := "movingShare", desc := "()F" } : Jvm.MethodName) prog_1_method_43_code (1 : Nat) (Option.some Jvm.ClassFile.FieldType.float)) ∈ BW := bw_t 319 (by decide +kernel) rfl
theorem bw_320 : (Jvm.Cond.methodLink "LiftSchedulerLaw" (269 : Nat) ({ cls := "LiftScheduler", name := "totalWait", desc := "()I" } : Jvm.MethodName)) ∈ BW := bw_t 320 (by decide +kernel) rfl
theorem bw_321 : (Jvm.Cond.instanceMethod ({ cls := "LiftScheduler", name := "totalWait", desc := "()I" } : Jvm.MethodName)) ∈ BW := bw_t 321 (by decide +kernel) rfl
theorem bw_322 : (Jvm.Cond.selects "LiftScheduler" ({ cls := "LiftScheduler", name := "totalWait", desc := "()I" } : Jvm.MethodName) ({ cls := "LiftScheduler", name := "totalWait", desc := "()I" } : Jvm.MethodName)) ∈ BW := bw_t 322 (by decide +kernel) rfl
theorem bw_323 : (Jvm.Cond.code ({ cls := "LiftScheduler", name := "totalWait", desc := "()I" } : Jvm.MethodName) prog_1_method_44_code (1 : Nat) (Option.some Jvm.ClassFile.FieldType.int)) ∈ BW := bw_t 323 (by decide +kernel) rfl
theorem bw_324 : (Jvm.Cond.methodLink "LiftScheduler" (199 : Nat) ({ cls := "LiftScheduler$Simulation", name := "sumWaits", desc := "()I" } : Jvm.MethodName)) ∈ BW := bw_t 324 (by decide +kernel) rfl
theorem bw_325 : (Jvm.Cond.instanceMethod ({ cls := "LiftScheduler$Simulation", name := "sumWaits", desc := "()I" } : Jvm.MethodName)) ∈ BW := bw_t 325 (by decide +kernel) rfl
theorem bw_326 : (Jvm.Cond.selects "LiftScheduler$Simulation" ({ cls := "LiftScheduler$Simulation", name := "sumWaits", desc := "()I" } : Jvm.MethodName) ({ cls := "LiftScheduler$Simulation", name := "sumWaits", desc := "()I" } : Jvm.MethodName)) ∈ BW := bw_t 326 (by decide +kernel) rfl
theorem bw_327 : (Jvm.Cond.code ({ cls := "LiftScheduler$Simulation", name := "sumWaits", desc := "()I" } : Jvm.MethodName) prog_5_method_11_code (3 : Nat) (Option.some Jvm.ClassFile.FieldType.int)) ∈ BW := bw_t 327 (by decide +kernel) rfl
theorem bw_328 : (Jvm.Cond.methodLink "LiftScheduler$Simulation" (85 : Nat) ({ cls := "LiftScheduler$Simulation", name := "findWait", desc := "(I)I" } : Jvm.MethodName)) ∈ BW := bw_t 328 (by decide +kernel) rfl
theorem bw_329 : (Jvm.Cond.instanceMethod ({ cls := "LiftScheduler$Simulation", name := "findWait", desc := "(I)I" } : Jvm.MethodName)) ∈ BW := bw_t 329 (by decide +kernel) rfl
theorem bw_330 : (Jvm.Cond.selects "LiftScheduler$Simulation" ({ cls := "LiftScheduler$Simulation", name := "findWait", desc := "(I)I" } : Jvm.MethodName) ({ cls := "LiftScheduler$Simulation", name := "findWait", desc := "(I)I" } : Jvm.MethodName)) ∈ BW := bw_t 330 (by decide +kernel) rfl
theorem bw_331 : (Jvm.Cond.code ({ cls := "LiftScheduler$Simulation", name := "findWait", desc := "(I)I" } : Jvm.MethodName) prog_5_method_6_code (2 : Nat) (Option.some Jvm.ClassFile.FieldType.int)) ∈ BW := bw_t 331 (by decide +kernel) rfl
theorem bw_332 : (Jvm.Cond.methodLink "LiftScheduler$Simulation" (88 : Nat) ({ cls := "java/lang/Math", name := "max", desc := "(II)I" } : Jvm.MethodName)) ∈ BW := bw_t 332 (by decide +kernel) rfl
theorem bw_333 : (Jvm.Cond.methodLink "LiftSchedulerLaw" (273 : Nat) ({ cls := "LiftScheduler", name := "longestWait", desc := "()I" } : Jvm.MethodName)) ∈ BW := bw_t 333 (by decide +kernel) rfl
theorem bw_334 : (Jvm.Cond.instanceMethod ({ cls := "LiftScheduler", name := "longestWait", desc := "()I" } : Jvm.MethodName)) ∈ BW := bw_t 334 (by decide +kernel) rfl
theorem bw_335 : (Jvm.Cond.selects "LiftScheduler" ({ cls := "LiftScheduler", name := "longestWait", desc := "()I" } : Jvm.MethodName) ({ cls := "LiftScheduler", name := "longestWait", desc := "()I" } : Jvm.MethodName)) ∈ BW := bw_t 335 (by decide +kernel) rfl
theorem bw_336 : (Jvm.Cond.code ({ cls := "LiftScheduler", name := "longestWait", desc := "()I" } : Jvm.MethodName) prog_1_method_45_code (1 : Nat) (Option.some Jvm.ClassFile.FieldType.int)) ∈ BW := bw_t 336 (by decide +kernel) rfl
theorem bw_337 : (Jvm.Cond.methodLink "LiftScheduler" (202 : Nat) ({ cls := "LiftScheduler$Simulation", name := "findLongestWait", desc := "()I" } : Jvm.MethodName)) ∈ BW := bw_t 337 (by decide +kernel) rfl
theorem bw_338 : (Jvm.Cond.instanceMethod ({ cls := "LiftScheduler$Simulation", name := "findLongestWait", desc := "()I" } : Jvm.MethodName)) ∈ BW := bw_t 338 (by decide +kernel) rfl
theorem bw_339 : (Jvm.Cond.selects "LiftScheduler$Simulation" ({ cls := "LiftScheduler$Simulation", name := "findLongestWait", desc := "()I" } : Jvm.MethodName) ({ cls := "LiftScheduler$Simulation", name := "findLongestWait", desc := "()I" } : Jvm.MethodName)) ∈ BW := bw_t 339 (by decide +kernel) rfl
theorem bw_340 : (Jvm.Cond.code ({ cls := "LiftScheduler$Simulation", name := "findLongestWait", desc := "()I" } : Jvm.MethodName) prog_5_method_12_code (3 : Nat) (Option.some Jvm.ClassFile.FieldType.int)) ∈ BW := bw_t 340 (by decide +kernel) rfl
theorem bw_341 : (Jvm.Cond.methodLink "LiftSchedulerLaw" (277 : Nat) ({ cls := "LiftScheduler", name := "meanWait", desc := "()D" } : Jvm.MethodName)) ∈ BW := bw_t 341 (by decide +kernel) rfl
theorem bw_342 : (Jvm.Cond.instanceMethod ({ cls := "LiftScheduler", name := "meanWait", desc := "()D" } : Jvm.MethodName)) ∈ BW := bw_t 342 (by decide +kernel) rfl
theorem bw_343 : (Jvm.Cond.selects "LiftScheduler" ({ cls := "LiftScheduler", name := "meanWait", desc := "()D" } : Jvm.MethodName) ({ cls := "LiftScheduler", name := "meanWait", desc := "()D" } : Jvm.MethodName)) ∈ BW := bw_t 343 (by decide +kernel) rfl
theorem bw_344 : (Jvm.Cond.code ({ cls := "LiftScheduler", name := "meanWait", desc := "()D" } : Jvm.MethodName) prog_1_method_46_code (2 : Nat) (Option.some Jvm.ClassFile.FieldType.double)) ∈ BW := bw_t 344 (by decide +kernel) rfl
theorem bw_345 : (Jvm.Cond.methodLink "LiftSchedulerLaw" (282 : Nat) ({ cls := "LiftScheduler", name := "isFinished", desc := "()Z" } : Jvm.MethodName)) ∈ BW := bw_t 345 (by decide +kernel) rfl
theorem bw_346 : (Jvm.Cond.instanceMethod ({ cls := "LiftScheduler", name := "isFinished", desc := "()Z" } : Jvm.MethodName)) ∈ BW := bw_t 346 (by decide +kernel) rfl
theorem bw_347 : (Jvm.Cond.selects "LiftScheduler" ({ cls := "LiftScheduler", name := "isFinished", desc := "()Z" } : Jvm.MethodName) ({ cls := "LiftScheduler", name := "isFinished", desc := "()Z" } : Jvm.MethodName)) ∈ BW := bw_t 347 (by decide +kernel) rfl
theorem bw_348 : (Jvm.Cond.code ({ cls := "LiftScheduler", name := "isFinished", desc := "()Z" } : Jvm.MethodName) prog_1_method_47_code (1 : Nat) (Option.some Jvm.ClassFile.FieldType.boolean)) ∈ BW := bw_t 348 (by decide +kernel) rfl
theorem bw_349 : (Jvm.Cond.methodLink "LiftScheduler" (208 : Nat) ({ cls := "LiftScheduler$Simulation", name := "isOver", desc := "()Z" } : Jvm.MethodName)) ∈ BW := bw_t 349 (by decide +kernel) rfl
theorem bw_350 : (Jvm.Cond.instanceMethod ({ cls := "LiftScheduler$Simulation", name := "isOver", desc := "()Z" } : Jvm.MethodName)) ∈ BW := bw_t 350 (by decide +kernel) rfl
theorem bw_351 : (Jvm.Cond.selects "LiftScheduler$Simulation" ({ cls := "LiftScheduler$Simulation", name := "isOver", desc := "()Z" } : Jvm.MethodName) ({ cls := "LiftScheduler$Simulation", name := "isOver", desc := "()Z" } : Jvm.MethodName)) ∈ BW := bw_t 351 (by decide +kernel) rfl
theorem bw_352 : (Jvm.Cond.code ({ cls := "LiftScheduler$Simulation", name := "isOver", desc := "()Z" } : Jvm.MethodName) prog_5_method_13_code (1 : Nat) (Option.some Jvm.ClassFile.FieldType.boolean)) ∈ BW := bw_t 352 (by decide +kernel) rfl
theorem bw_353 : (Jvm.Cond.methodLink "LiftSchedulerLaw" (286 : Nat) ({ cls := "LiftScheduler", name := "ticksToFinish", desc := "()I" } : Jvm.MethodName)) ∈ BW := bw_t 353 (by decide +kernel) rfl
theorem bw_354 : (Jvm.Cond.instanceMethod ({ cls := "LiftScheduler", name := "ticksToFinish", desc := "()I" } : Jvm.MethodName)) ∈ BW := bw_t 354 (by decide +kernel) rfl
theorem bw_355 : (Jvm.Cond.selects "LiftScheduler" ({ cls := "LiftScheduler", name := "ticksToFinish", desc := "()I" } : Jvm.MethodName) ({ cls := "LiftScheduler", name := "ticksToFinish", desc := "()I" } : Jvm.MethodName)) ∈ BW := bw_t 355 (by decide +kernel) rfl
theorem bw_356 : (Jvm.Cond.code ({ cls := "LiftScheduler", name := "ticksToFinish", desc := "()I" } : Jvm.MethodName) prog_1_method_48_code (1 : Nat) (Option.some Jvm.ClassFile.FieldType.int)) ∈ BW := bw_t 356 (by decide +kernel) rfl
theorem bw_357 : (Jvm.Cond.methodLink "LiftScheduler" (212 : Nat) ({ cls := "LiftScheduler", name := "forecast", desc := "(II)I" } : Jvm.MethodName)) ∈ BW := bw_t 357 (by decide +kernel) rfl
theorem bw_359 : (Jvm.Cond.instanceMethod ({ cls := "LiftScheduler", name := "forecast", desc := "(II)I" } : Jvm.MethodName)) ∈ BW := bw_t 359 (by decide +kernel) rfl
theorem bw_360 : (Jvm.Cond.code ({ cls := "LiftScheduler", name := "forecast", desc := "(II)I" } : Jvm.MethodName) prog_1_method_55_code (3 : Nat) (Option.some Jvm.ClassFile.FieldType.int)) ∈ BW := bw_t 360 (by decide +kernel) rfl
theorem bw_361 : (Jvm.Cond.methodLink "LiftScheduler" (79 : Nat) ({ cls := "LiftScheduler$Simulation", name := "copyFrom", desc := "(LLiftScheduler$Simulation;)V" } : Jvm.MethodName)) ∈ BW := bw_t 361 (by decide +kernel) rfl
theorem bw_362 : (Jvm.Cond.instanceMethod ({ cls := "LiftScheduler$Simulation", name := "copyFrom", desc := "(LLiftScheduler$Simulation;)V" } : Jvm.MethodName)) ∈ BW := bw_t 362 (by decide +kernel) rfl
theorem bw_363 : (Jvm.Cond.selects "LiftScheduler$Simulation" ({ cls := "LiftScheduler$Simulation", name := "copyFrom", desc := "(LLiftScheduler$Simulation;)V" } : Jvm.MethodName) ({ cls := "LiftScheduler$Simulation", name := "copyFrom", desc := "(LLiftScheduler$Simulation;)V" } : Jvm.MethodName)) ∈ BW := bw_t 363 (by decide +kernel) rfl
theorem bw_364 : (Jvm.Cond.code ({ cls := "LiftScheduler$Simulation", name := "copyFrom", desc := "(LLiftScheduler$Simulation;)V" } : Jvm.MethodName) prog_5_method_3_code (2 : Nat) (Option.none : Option Jvm.ClassFile.FieldType)) ∈ BW := bw_t 364 (by decide +kernel) rfl
theorem bw_365 : (Jvm.Cond.methodLink "LiftScheduler$Simulation" (75 : Nat) ({ cls := "java/lang/System", name := "arraycopy", desc := "(Ljava/lang/Object;ILjava/lang/Object;II)V" } : Jvm.MethodName)) ∈ BW := bw_t 365 (by decide +kernel) rfl
theorem bw_366 : (Jvm.Cond.static ({ cls := "java/lang/System", name := "arraycopy", desc := "(Ljava/lang/Object;ILjava/lang/Object;II)V" } : Jvm.MethodName)) ∈ BW := bw_t 366 (by decide +kernel) rfl
theorem bw_367 : (Jvm.Cond.native ({ cls := "java/lang/System", name := "arraycopy", desc := "(Ljava/lang/Object;ILjava/lang/Object;II)V" } : Jvm.MethodName)) ∈ BW := bw_t 367 (by decide +kernel) rfl
theorem bw_368 : (Jvm.Cond.constant "LiftScheduler" (221 : Nat) (1000000 : Int32)) ∈ BW := bw_t 368 (by decide +kernel) rfl
theorem bw_369 : (Jvm.Cond.methodLink "LiftScheduler" (222 : Nat) ({ cls := "LiftScheduler$Simulation", name := "tickToEnd", desc := "(I)I" } : Jvm.MethodName)) ∈ BW := bw_t 369 (by decide +kernel) rfl
theorem bw_370 : (Jvm.Cond.instanceMethod ({ cls := "LiftScheduler$Simulation", name := "tickToEnd", desc := "(I)I" } : Jvm.MethodName)) ∈ BW := bw_t 370 (by decide +kernel) rfl
theorem bw_371 : (Jvm.Cond.selects "LiftScheduler$Simulation" ({ cls := "LiftScheduler$Simulation", name := "tickToEnd", desc := "(I)I" } : Jvm.MethodName) ({ cls := "LiftScheduler$Simulation", name := "tickToEnd", desc := "(I)I" } : Jvm.MethodName)) ∈ BW := bw_t 371 (by decide +kernel) rfl
theorem bw_372 : (Jvm.Cond.code ({ cls := "LiftScheduler$Simulation", name := "tickToEnd", desc := "(I)I" } : Jvm.MethodName) prog_5_method_20_code (3 : Nat) (Option.some Jvm.ClassFile.FieldType.int)) ∈ BW := bw_t 372 (by decide +kernel) rfl
theorem bw_373 : (Jvm.Cond.methodLink "LiftScheduler$Simulation" (120 : Nat) ({ cls := "LiftScheduler$Simulation", name := "isOver", desc := "()Z" } : Jvm.MethodName)) ∈ BW := bw_t 373 (by decide +kernel) rfl
theorem bw_374 : (Jvm.Cond.methodLink "LiftScheduler$Simulation" (124 : Nat) ({ cls := "LiftScheduler$Simulation", name := "tick", desc := "()V" } : Jvm.MethodName)) ∈ BW := bw_t 374 (by decide +kernel) rfl
theorem bw_375 : (Jvm.Cond.instanceMethod ({ cls := "LiftScheduler$Simulation", name := "tick", desc := "()V" } : Jvm.MethodName)) ∈ BW := bw_t 375 (by decide +kernel) rfl
theorem bw_376 : (Jvm.Cond.selects "LiftScheduler$Simulation" ({ cls := "LiftScheduler$Simulation", name := "tick", desc := "()V" } : Jvm.MethodName) ({ cls := "LiftScheduler$Simulation", name := "tick", desc := "()V" } : Jvm.MethodName)) ∈ BW := bw_t 376 (by decide +kernel) rfl
theorem bw_377 : (Jvm.Cond.code ({ cls := "LiftScheduler$Simulation", name := "tick", desc := "()V" } : Jvm.MethodName) prog_5_method_19_code (2 : Nat) (Option.none : Option Jvm.ClassFile.FieldType)) ∈ BW := bw_t 377 (by decide +kernel) rfl
theorem bw_378 : (Jvm.Cond.methodLink "LiftScheduler$Simulation" (110 : Nat) ({ cls := "LiftScheduler$Simulation", name := "findTarget", desc := "(I)I" } : Jvm.MethodName)) ∈ BW := bw_t 378 (by decide +kernel) rfl
theorem bw_379 : (Jvm.Cond.instanceMethod ({ cls := "LiftScheduler$Simulation", name := "findTarget", desc := "(I)I" } : Jvm.MethodName)) ∈ BW := bw_t 379 (by decide +kernel) rfl
theorem bw_380 : (Jvm.Cond.selects "LiftScheduler$Simulation" ({ cls := "LiftScheduler$Simulation", name := "findTarget", desc := "(I)I" } : Jvm.MethodName) ({ cls := "LiftScheduler$Simulation", name := "findTarget", desc := "(I)I" } : Jvm.MethodName)) ∈ BW := bw_t 380 (by decide +kernel) rfl
theorem bw_381 : (Jvm.Cond.code ({ cls := "LiftScheduler$Simulation", name := "findTarget", desc := "(I)I" } : Jvm.MethodName) prog_5_method_15_code (5 : Nat) (Option.some Jvm.ClassFile.FieldType.int)) ∈ BW := bw_t 381 (by decide +kernel) rfl
theorem bw_382 : (Jvm.Cond.methodLink "LiftScheduler$Simulation" (94 : Nat) ({ cls := "LiftScheduler$Simulation", name := "findStops", desc := "()I" } : Jvm.MethodName)) ∈ BW := bw_t 382 (by decide +kernel) rfl
theorem bw_383 : (Jvm.Cond.methodLink "LiftScheduler$Simulation" (98 : Nat) ({ cls := "LiftScheduler$Simulation", name := "findFirstRiding", desc := "()I" } : Jvm.MethodName)) ∈ BW := bw_t 383 (by decide +kernel) rfl
theorem bw_385 : (Jvm.Cond.instanceMethod ({ cls := "LiftScheduler$Simulation", name := "findFirstRiding", desc := "()I" } : Jvm.MethodName)) ∈ BW := bw_t 385 (by decide +kernel) rfl
theorem bw_386 : (Jvm.Cond.code ({ cls := "LiftScheduler$Simulation", name := "findFirstRiding", desc := "()I" } : Jvm.MethodName) prog_5_method_16_code (2 : Nat) (Option.some Jvm.ClassFile.FieldType.int)) ∈ BW := bw_t 386 (by decide +kernel) rfl
theorem bw_387 : (Jvm.Cond.methodLink "LiftScheduler$Simulation" (101 : Nat) ({ cls := "LiftScheduler$Simulation", name := "findFirstWaiting", desc := "()I" } : Jvm.MethodName)) ∈ BW := bw_t 387 (by decide +kernel) rfl
theorem bw_388 : (Jvm.Cond.methodLink "LiftScheduler$Simulation" (104 : Nat) ({ cls := "LiftScheduler$Simulation", name := "findStopBelow", desc := "(I)I" } : Jvm.MethodName)) ∈ BW := bw_t 388 (by decide +kernel) rfl
theorem bw_390 : (Jvm.Cond.instanceMethod ({ cls := "LiftScheduler$Simulation", name := "findStopBelow", desc := "(I)I" } : Jvm.MethodName)) ∈ BW := bw_t 390 (by decide +kernel) rfl
theorem bw_391 : (Jvm.Cond.code ({ cls := "LiftScheduler$Simulation", name := "findStopBelow", desc := "(I)I" } : Jvm.MethodName) prog_5_method_17_code (3 : Nat) (Option.some Jvm.ClassFile.FieldType.int)) ∈ BW := bw_t 391 (by decide +kernel) rfl
theorem bw_392 : (Jvm.Cond.methodLink "LiftScheduler$Simulation" (107 : Nat) ({ cls := "LiftScheduler$Simulation", name := "findStopAbove", desc := "(I)I" } : Jvm.MethodName)) ∈ BW := bw_t 392 (by decide +kernel) rfl
theorem bw_394 : (Jvm.Cond.instanceMethod ({ cls := "LiftScheduler$Simulation", name := "findStopAbove", desc := "(I)I" } : Jvm.MethodName)) ∈ BW := bw_t 394 (by decide +kernel) rfl
theorem bw_395 : (Jvm.Cond.code ({ cls := "LiftScheduler$Simulation", name := "findStopAbove", desc := "(I)I" } : Jvm.MethodName) prog_5_method_18_code (3 : Nat) (Option.some Jvm.ClassFile.FieldType.int)) ∈ BW := bw_t 395 (by decide +kernel) rfl
theorem bw_396 : (Jvm.Cond.methodLink "LiftScheduler$Simulation" (113 : Nat) ({ cls := "LiftScheduler$Simulation", name := "openDoors", desc := "()V" } : Jvm.MethodName)) ∈ BW := bw_t 396 (by decide +kernel) rfl
theorem bw_398 : (Jvm.Cond.instanceMethod ({ cls := "LiftScheduler$Simulation", name := "openDoors", desc := "()V" } : Jvm.MethodName)) ∈ BW := bw_t 398 (by decide +kernel) rfl
theorem bw_399 : (Jvm.Cond.code ({ cls := "LiftScheduler$Simulation", name := "openDoors", desc := "()V" } : Jvm.MethodName) prog_5_method_21_code (3 : Nat) (Option.none : Option Jvm.ClassFile.FieldType)) ∈ BW := bw_t 399 (by decide +kernel) rfl
theorem bw_400 : (Jvm.Cond.methodLink "LiftScheduler$Simulation" (116 : Nat) ({ cls := "LiftScheduler$Simulation", name := "moveTowards", desc := "(I)V" } : Jvm.MethodName)) ∈ BW := bw_t 400 (by decide +kernel) rfl
theorem bw_402 : (Jvm.Cond.instanceMethod ({ cls := "LiftScheduler$Simulation", name := "moveTowards", desc := "(I)V" } : Jvm.MethodName)) ∈ BW := bw_t 402 (by decide +kernel) rfl
theorem bw_403 : (Jvm.Cond.code ({ cls := "LiftScheduler$Simulation", name := "moveTowards", desc := "(I)V" } : Jvm.MethodName) prog_5_method_22_code (3 : Nat) (Option.none : Option Jvm.ClassFile.FieldType)) ∈ BW := bw_t 403 (by decide +kernel) rfl
theorem bw_404 : (Jvm.Cond.methodLink "LiftSchedulerLaw" (299 : Nat) ({ cls := "LiftScheduler", name := "bestPolicy", desc := "()I" } : Jvm.MethodName)) ∈ BW := bw_t 404 (by decide +kernel) rfl
theorem bw_405 : (Jvm.Cond.instanceMethod ({ cls := "LiftScheduler", name := "bestPolicy", desc := "()I" } : Jvm.MethodName)) ∈ BW := bw_t 405 (by decide +kernel) rfl
theorem bw_406 : (Jvm.Cond.selects "LiftScheduler" ({ cls := "LiftScheduler", name := "bestPolicy", desc := "()I" } : Jvm.MethodName) ({ cls := "LiftScheduler", name := "bestPolicy", desc := "()I" } : Jvm.MethodName)) ∈ BW := bw_t 406 (by decide +kernel) rfl
theorem bw_407 : (Jvm.Cond.code ({ cls := "LiftScheduler", name := "bestPolicy", desc := "()I" } : Jvm.MethodName) prog_1_method_52_code (5 : Nat) (Option.some Jvm.ClassFile.FieldType.int)) ∈ BW := bw_t 407 (by decide +kernel) rfl
theorem bw_408 : (Jvm.Cond.methodLink "LiftScheduler" (215 : Nat) ({ cls := "LiftScheduler", name := "forecastWaits", desc := "(I)I" } : Jvm.MethodName)) ∈ BW := bw_t 408 (by decide +kernel) rfl
theorem bw_410 : (Jvm.Cond.instanceMethod ({ cls := "LiftScheduler", name := "forecastWaits", desc := "(I)I" } : Jvm.MethodName)) ∈ BW := bw_t 410 (by decide +kernel) rfl
theorem bw_411 : (Jvm.Cond.code ({ cls := "LiftScheduler", name := "forecastWaits", desc := "(I)I" } : Jvm.MethodName) prog_1_method_56_code (2 : Nat) (Option.some Jvm.ClassFile.FieldType.int)) ∈ BW := bw_t 411 (by decide +kernel) rfl
theorem bw_412 : (Jvm.Cond.methodLink "LiftSchedulerLaw" (316 : Nat) ({ cls := "LiftScheduler", name := "runToEnd", desc := "()I" } : Jvm.MethodName)) ∈ BW := bw_t 412 (by decide +kernel) rfl
theorem bw_413 : (Jvm.Cond.instanceMethod ({ cls := "LiftScheduler", name := "runToEnd", desc := "()I" } : Jvm.MethodName)) ∈ BW := bw_t 413 (by decide +kernel) rfl
theorem bw_414 : (Jvm.Cond.selects "LiftScheduler" ({ cls := "LiftScheduler", name := "runToEnd", desc := "()I" } : Jvm.MethodName) ({ cls := "LiftScheduler", name := "runToEnd", desc := "()I" } : Jvm.MethodName)) ∈ BW := bw_t 414 (by decide +kernel) rfl
theorem bw_415 : (Jvm.Cond.code ({ cls := "LiftScheduler", name := "runToEnd", desc := "()I" } : Jvm.MethodName) prog_1_method_59_code (1 : Nat) (Option.some Jvm.ClassFile.FieldType.int)) ∈ BW := bw_t 415 (by decide +kernel) rfl
theorem bw_416 : (Jvm.Cond.methodLink "LiftScheduler" (88 : Nat) ({ cls := "LiftScheduler", name := "rememberState", desc := "()V" } : Jvm.MethodName)) ∈ BW := bw_t 416 (by decide +kernel) rfl
theorem bw_418 : (Jvm.Cond.instanceMethod ({ cls := "LiftScheduler", name := "rememberState", desc := "()V" } : Jvm.MethodName)) ∈ BW := bw_t 418 (by decide +kernel) rfl
theorem bw_419 : (Jvm.Cond.code ({ cls := "LiftScheduler", name := "rememberState", desc := "()V" } : Jvm.MethodName) prog_1_method_64_code (1 : Nat) (Option.none : Option Jvm.ClassFile.FieldType)) ∈ BW := bw_t 419 (by decide +kernel) rfl
theorem bw_420 : (Jvm.Cond.methodLink "LiftScheduler" (247 : Nat) ({ cls := "java/lang/Math", name := "min", desc := "(II)I" } : Jvm.MethodName)) ∈ BW := bw_t 420 (by decide +kernel) rfl
theorem bw_421 : (Jvm.Cond.static ({ cls := "java/lang/Math", name := "min", desc := "(II)I" } : Jvm.MethodName)) ∈ BW := bw_t 421 (by decide +kernel) rfl
theorem bw_422 : (Jvm.Cond.code ({ cls := "java/lang/Math", name := "min", desc := "(II)I" } : Jvm.MethodName) prog_13_method_69_code (2 : Nat) (Option.some Jvm.ClassFile.FieldType.int)) ∈ BW := bw_t 422 (by decide +kernel) rfl
theorem bw_423 : (Jvm.Cond.methodLink "LiftSchedulerLaw" (329 : Nat) ({ cls := "LiftScheduler", name := "undoDepth", desc := "()I" } : Jvm.MethodName)) ∈ BW := bw_t 423 (by decide +kernel) rfl
theorem bw_424 : (Jvm.Cond.instanceMethod ({ cls := "LiftScheduler", name := "undoDepth", desc := "()I" } : Jvm.MethodName)) ∈ BW := bw_t 424 (by decide +kernel) rfl
theorem bw_425 : (Jvm.Cond.selects "LiftScheduler" ({ cls := "LiftScheduler", name := "undoDepth", desc := "()I" } : Jvm.MethodName) ({ cls := "LiftScheduler", name := "undoDepth", desc := "()I" } : Jvm.MethodName)) ∈ BW := bw_t 425 (by decide +kernel) rfl
theorem bw_426 : (Jvm.Cond.code ({ cls := "LiftScheduler", name := "undoDepth", desc := "()I" } : Jvm.MethodName) prog_1_method_63_code (1 : Nat) (Option.some Jvm.ClassFile.FieldType.int)) ∈ BW := bw_t 426 (by decide +kernel) rfl
theorem bw_427 : (Jvm.Cond.methodLink "LiftSchedulerLaw" (339 : Nat) ({ cls := "LiftScheduler", name := "writeStatus", desc := "()I" } : Jvm.MethodName)) ∈ BW := bw_t 427 (by decide +kernel) rfl
theorem bw_428 : (Jvm.Cond.instanceMethod ({ cls := "LiftScheduler", name := "writeStatus", desc := "()I" } : Jvm.MethodName)) ∈ BW := bw_t 428 (by decide +kernel) rfl
theorem bw_429 : (Jvm.Cond.selects "LiftScheduler" ({ cls := "LiftScheduler", name := "writeStatus", desc := "()I" } : Jvm.MethodName) ({ cls := "LiftScheduler", name := "writeStatus", desc := "()I" } : Jvm.MethodName)) ∈ BW := bw_t 429 (by decide +kernel) rfl
theorem bw_430 : (Jvm.Cond.code ({ cls := "LiftScheduler", name := "writeStatus", desc := "()I" } : Jvm.MethodName) prog_1_method_67_code (2 : Nat) (Option.some Jvm.ClassFile.FieldType.int)) ∈ BW := bw_t 430 (by decide +kernel) rfl
theorem bw_431 : (Jvm.Cond.methodLink "LiftScheduler" (148 : Nat) ({ cls := "LiftScheduler$Simulation", name := "findStatus", desc := "(I)I" } : Jvm.MethodName)) ∈ BW := bw_t 431 (by decide +kernel) rfl
theorem bw_432 : (Jvm.Cond.instanceMethod ({ cls := "LiftScheduler$Simulation", name := "findStatus", desc := "(I)I" } : Jvm.MethodName)) ∈ BW := bw_t 432 (by decide +kernel) rfl
theorem bw_433 : (Jvm.Cond.selects "LiftScheduler$Simulation" ({ cls := "LiftScheduler$Simulation", name := "findStatus", desc := "(I)I" } : Jvm.MethodName) ({ cls := "LiftScheduler$Simulation", name := "findStatus", desc := "(I)I" } : Jvm.MethodName)) ∈ BW := bw_t 433 (by decide +kernel) rfl
theorem bw_434 : (Jvm.Cond.code ({ cls := "LiftScheduler$Simulation", name := "findStatus", desc := "(I)I" } : Jvm.MethodName) prog_5_method_5_code (2 : Nat) (Option.some Jvm.ClassFile.FieldType.int)) ∈ BW := bw_t 434 (by decide +kernel) rfl
theorem bw_435 : (Jvm.Cond.methodLink "LiftScheduler" (255 : Nat) ({ cls := "LiftScheduler", name := "letterOf", desc := "(I)I" } : Jvm.MethodName)) ∈ BW := bw_t 435 (by decide +kernel) rfl
theorem bw_436 : (Jvm.Cond.static ({ cls := "LiftScheduler", name := "letterOf", desc := "(I)I" } : Jvm.MethodName)) ∈ BW := bw_t 436 (by decide +kernel) rfl
theorem bw_437 : (Jvm.Cond.code ({ cls := "LiftScheduler", name := "letterOf", desc := "(I)I" } : Jvm.MethodName) prog_1_method_70_code (1 : Nat) (Option.some Jvm.ClassFile.FieldType.int)) ∈ BW := bw_t 437 (by decide +kernel) rfl
theorem bw_438 : (Jvm.Cond.methodLink "LiftScheduler" (258 : Nat) ({ cls := "LiftScheduler", name := "writeByte", desc := "(I)V" } : Jvm.MethodName)) ∈ BW := bw_t 438 (by decide +kernel) rfl
theorem bw_440 : (Jvm.Cond.instanceMethod ({ cls := "LiftScheduler", name := "writeByte", desc := "(I)V" } : Jvm.MethodName)) ∈ BW := bw_t 440 (by decide +kernel) rfl
theorem bw_441 : (Jvm.Cond.code ({ cls := "LiftScheduler", name := "writeByte", desc := "(I)V" } : Jvm.MethodName) prog_1_method_72_code (2 : Nat) (Option.none : Option Jvm.ClassFile.FieldType)) ∈ BW := bw_t 441 (by decide +kernel) rfl
theorem bw_442 : (Jvm.Cond.methodLink "LiftSchedulerLaw" (343 : Nat) ({ cls := "LiftScheduler", name := "writeBuilding", desc := "()I" } : Jvm.MethodName)) ∈ BW := bw_t 442 (by decide +kernel) rfl
theorem bw_443 : (Jvm.Cond.instanceMethod ({ cls := "LiftScheduler", name := "writeBuilding", desc := "()I" } : Jvm.MethodName)) ∈ BW := bw_t 443 (by decide +kernel) rfl
theorem bw_444 : (Jvm.Cond.selects "LiftScheduler" ({ cls := "LiftScheduler", name := "writeBuilding", desc := "()I" } : Jvm.MethodName) ({ cls := "LiftScheduler", name := "writeBuilding", desc := "()I" } : Jvm.MethodName)) ∈ BW := bw_t 444 (by decide +kernel) rfl
theorem bw_445 : (Jvm.Cond.code ({ cls := "LiftScheduler", name := "writeBuilding", desc := "()I" } : Jvm.MethodName) prog_1_method_68_code (2 : Nat) (Option.some Jvm.ClassFile.FieldType.int)) ∈ BW := bw_t 445 (by decide +kernel) rfl
theorem bw_446 : (Jvm.Cond.methodLink "LiftScheduler" (186 : Nat) ({ cls := "LiftScheduler$Simulation", name := "countWaiting", desc := "(I)I" } : Jvm.MethodName)) ∈ BW := bw_t 446 (by decide +kernel) rfl
theorem bw_447 : (Jvm.Cond.instanceMethod ({ cls := "LiftScheduler$Simulation", name := "countWaiting", desc := "(I)I" } : Jvm.MethodName)) ∈ BW := bw_t 447 (by decide +kernel) rfl
theorem bw_448 : (Jvm.Cond.selects "LiftScheduler$Simulation" ({ cls := "LiftScheduler$Simulation", name := "countWaiting", desc := "(I)I" } : Jvm.MethodName) ({ cls := "LiftScheduler$Simulation", name := "countWaiting", desc := "(I)I" } : Jvm.MethodName)) ∈ BW := bw_t 448 (by decide +kernel) rfl
theorem bw_449 : (Jvm.Cond.code ({ cls := "LiftScheduler$Simulation", name := "countWaiting", desc := "(I)I" } : Jvm.MethodName) prog_5_method_9_code (4 : Nat) (Option.some Jvm.ClassFile.FieldType.int)) ∈ BW := bw_t 449 (by decide +kernel) rfl
theorem bw_450 : (Jvm.Cond.methodLink "LiftScheduler$Simulation" (81 : Nat) ({ cls := "LiftScheduler$Simulation", name := "findStatus", desc := "(I)I" } : Jvm.MethodName)) ∈ BW := bw_t 450 (by decide +kernel) rfl
theorem bw_451 : (Jvm.Cond.methodLink "LiftScheduler" (261 : Nat) ({ cls := "LiftScheduler", name := "writeNumber", desc := "(I)V" } : Jvm.MethodName)) ∈ BW := bw_t 451 (by decide +kernel) rfl
theorem bw_453 : (Jvm.Cond.instanceMethod ({ cls := "LiftScheduler", name := "writeNumber", desc := "(I)V" } : Jvm.MethodName)) ∈ BW := bw_t 453 (by decide +kernel) rfl
theorem bw_454 : (Jvm.Cond.code ({ cls := "LiftScheduler", name := "writeNumber", desc := "(I)V" } : Jvm.MethodName) prog_1_method_71_code (2 : Nat) (Option.none : Option Jvm.ClassFile.FieldType)) ∈ BW := bw_t 454 (by decide +kernel) rfl
theorem bw_455 : (Jvm.Cond.methodLink "LiftSchedulerLaw" (347 : Nat) ({ cls := "LiftScheduler", name := "outputByte", desc := "(I)I" } : Jvm.MethodName)) ∈ BW := bw_t 455 (by decide +kernel) rfl
theorem bw_456 : (Jvm.Cond.instanceMethod ({ cls := "LiftScheduler", name := "outputByte", desc := "(I)I" } : Jvm.MethodName)) ∈ BW := bw_t 456 (by decide +kernel) rfl
theorem bw_457 : (Jvm.Cond.selects "LiftScheduler" ({ cls := "LiftScheduler", name := "outputByte", desc := "(I)I" } : Jvm.MethodName) ({ cls := "LiftScheduler", name := "outputByte", desc := "(I)I" } : Jvm.MethodName)) ∈ BW := bw_t 457 (by decide +kernel) rfl
theorem bw_458 : (Jvm.Cond.code ({ cls := "LiftScheduler", name := "outputByte", desc := "(I)I" } : Jvm.MethodName) prog_1_method_69_code (2 : Nat) (Option.some Jvm.ClassFile.FieldType.int)) ∈ BW := bw_t 458 (by decide +kernel) rfl
theorem bw_459 : (Jvm.Cond.methodLink "LiftSchedulerLaw" (120 : Nat) ({ cls := "LiftSchedulerLaw", name := "load", desc := "(LLiftScheduler;[J)I" } : Jvm.MethodName)) ∈ BW := bw_t 459 (by decide +kernel) rfl
theorem bw_460 : (Jvm.Cond.static ({ cls := "LiftSchedulerLaw", name := "load", desc := "(LLiftScheduler;[J)I" } : Jvm.MethodName)) ∈ BW := bw_t 460 (by decide +kernel) rfl
theorem bw_461 : (Jvm.Cond.codeWith ({ cls := "LiftSchedulerLaw", name := "load", desc := "(LLiftScheduler;[J)I" } : Jvm.MethodName) method_3_code (3 : Nat) (Option.some Jvm.ClassFile.FieldType.int) [((0 : Nat), (8 : Nat), (11 : Nat), (13 : Nat))]) ∈ BW := bw_t 461 (by decide +kernel) rfl
theorem bw_462 : (Jvm.Cond.classLink "LiftSchedulerLaw" (13 : Nat) "java/lang/IllegalArgumentException") ∈ BW := bw_t 462 (by decide +kernel) rfl
theorem bw_463 : (Jvm.Cond.methodLink "LiftSchedulerLaw" (7 : Nat) ({ cls := "LiftScheduler", name := "load", desc := "()I" } : Jvm.MethodName)) ∈ BW := bw_t 463 (by decide +kernel) rfl
theorem bw_464 : (Jvm.Cond.instanceMethod ({ cls := "LiftScheduler", name := "load", desc := "()I" } : Jvm.MethodName)) ∈ BW := bw_t 464 (by decide +kernel) rfl
theorem bw_465 : (Jvm.Cond.selects "LiftScheduler" ({ cls := "LiftScheduler", name := "load", desc := "()I" } : Jvm.MethodName) ({ cls := "LiftScheduler", name := "load", desc := "()I" } : Jvm.MethodName)) ∈ BW := bw_t 465 (by decide +kernel) rfl
theorem bw_466 : (Jvm.Cond.code ({ cls := "LiftScheduler", name := "load", desc := "()I" } : Jvm.MethodName) prog_1_method_5_code (2 : Nat) (Option.some Jvm.ClassFile.FieldType.int)) ∈ BW := bw_t 466 (by decide +kernel) rfl
theorem bw_467 : (Jvm.Cond.methodLink "LiftScheduler" (61 : Nat) ({ cls := "LiftScheduler$Script", name := "readTokens", desc := "([BI)V" } : Jvm.MethodName)) ∈ BW := bw_t 467 (by decide +kernel) rfl
theorem bw_468 : (Jvm.Cond.instanceMethod ({ cls := "LiftScheduler$Script", name := "readTokens", desc := "([BI)V" } : Jvm.MethodName)) ∈ BW := bw_t 468 (by decide +kernel) rfl
theorem bw_469 : (Jvm.Cond.selects "LiftScheduler$Script" ({ cls := "LiftScheduler$Script", name := "readTokens", desc := "([BI)V" } : Jvm.MethodName) ({ cls := "LiftScheduler$Script", name := "readTokens", desc := "([BI)V" } : Jvm.MethodName)) ∈ BW := bw_t 469 (by decide +kernel) rfl
theorem bw_470 : (Jvm.Cond.code ({ cls := "LiftScheduler$Script", name := "readTokens", desc := "([BI)V" } : Jvm.MethodName) prog_4_method_2_code (5 : Nat) (Option.none : Option Jvm.ClassFile.FieldType)) ∈ BW := bw_t 470 (by decide +kernel) rfl
theorem bw_471 : (Jvm.Cond.methodLink "LiftScheduler$Script" (40 : Nat) ({ cls := "LiftScheduler$Script", name := "isSpace", desc := "(I)Z" } : Jvm.MethodName)) ∈ BW := bw_t 471 (by decide +kernel) rfl
theorem bw_472 : (Jvm.Cond.static ({ cls := "LiftScheduler$Script", name := "isSpace", desc := "(I)Z" } : Jvm.MethodName)) ∈ BW := bw_t 472 (by decide +kernel) rfl
theorem bw_473 : (Jvm.Cond.code ({ cls := "LiftScheduler$Script", name := "isSpace", desc := "(I)Z" } : Jvm.MethodName) prog_4_method_4_code (1 : Nat) (Option.some Jvm.ClassFile.FieldType.boolean)) ∈ BW := bw_t 473 (by decide +kernel) rfl
theorem bw_474 : (Jvm.Cond.methodLink "LiftScheduler$Script" (44 : Nat) ({ cls := "LiftScheduler$Script", name := "belongTogether", desc := "(II)Z" } : Jvm.MethodName)) ∈ BW := bw_t 474 (by decide +kernel) rfl
theorem bw_475 : (Jvm.Cond.static ({ cls := "LiftScheduler$Script", name := "belongTogether", desc := "(II)Z" } : Jvm.MethodName)) ∈ BW := bw_t 475 (by decide +kernel) rfl
theorem bw_476 : (Jvm.Cond.code ({ cls := "LiftScheduler$Script", name := "belongTogether", desc := "(II)Z" } : Jvm.MethodName) prog_4_method_7_code (2 : Nat) (Option.some Jvm.ClassFile.FieldType.boolean)) ∈ BW := bw_t 476 (by decide +kernel) rfl
theorem bw_477 : (Jvm.Cond.methodLink "LiftScheduler$Script" (70 : Nat) ({ cls := "LiftScheduler$Script", name := "isLetter", desc := "(I)Z" } : Jvm.MethodName)) ∈ BW := bw_t 477 (by decide +kernel) rfl
theorem bw_478 : (Jvm.Cond.static ({ cls := "LiftScheduler$Script", name := "isLetter", desc := "(I)Z" } : Jvm.MethodName)) ∈ BW := bw_t 478 (by decide +kernel) rfl
theorem bw_479 : (Jvm.Cond.code ({ cls := "LiftScheduler$Script", name := "isLetter", desc := "(I)Z" } : Jvm.MethodName) prog_4_method_6_code (1 : Nat) (Option.some Jvm.ClassFile.FieldType.boolean)) ∈ BW := bw_t 479 (by decide +kernel) rfl
theorem bw_480 : (Jvm.Cond.methodLink "LiftScheduler$Script" (48 : Nat) ({ cls := "LiftScheduler$Script", name := "isDigit", desc := "(I)Z" } : Jvm.MethodName)) ∈ BW := bw_t 480 (by decide +kernel) rfl
theorem bw_481 : (Jvm.Cond.static ({ cls := "LiftScheduler$Script", name := "isDigit", desc := "(I)Z" } : Jvm.MethodName)) ∈ BW := bw_t 481 (by decide +kernel) rfl
theorem bw_482 : (Jvm.Cond.code ({ cls := "LiftScheduler$Script", name := "isDigit", desc := "(I)Z" } : Jvm.MethodName) prog_4_method_5_code (1 : Nat) (Option.some Jvm.ClassFile.FieldType.boolean)) ∈ BW := bw_t 482 (by decide +kernel) rfl
theorem bw_483 : (Jvm.Cond.fieldLink "LiftScheduler$Script" (51 : Nat) "LiftScheduler$Kind" "NUMBER" "LLiftScheduler$Kind;") ∈ BW := bw_t 483 (by decide +kernel) rfl
theorem bw_485 : (Jvm.Cond.methodLink "LiftScheduler$Script" (55 : Nat) ({ cls := "LiftScheduler$Script", name := "numberOf", desc := "([BII)I" } : Jvm.MethodName)) ∈ BW := bw_t 485 (by decide +kernel) rfl
theorem bw_486 : (Jvm.Cond.static ({ cls := "LiftScheduler$Script", name := "numberOf", desc := "([BII)I" } : Jvm.MethodName)) ∈ BW := bw_t 486 (by decide +kernel) rfl
theorem bw_487 : (Jvm.Cond.code ({ cls := "LiftScheduler$Script", name := "numberOf", desc := "([BII)I" } : Jvm.MethodName) prog_4_method_8_code (5 : Nat) (Option.some Jvm.ClassFile.FieldType.int)) ∈ BW := bw_t 487 (by decide +kernel) rfl
theorem bw_488 : (Jvm.Cond.methodLink "LiftScheduler$Script" (59 : Nat) ({ cls := "LiftScheduler$Script", name := "addToken", desc := "(LLiftScheduler$Kind;II)V" } : Jvm.MethodName)) ∈ BW := bw_t 488 (by decide +kernel) rfl
theorem bw_490 : (Jvm.Cond.instanceMethod ({ cls := "LiftScheduler$Script", name := "addToken", desc := "(LLiftScheduler$Kind;II)V" } : Jvm.MethodName)) ∈ BW := bw_t 490 (by decide +kernel) rfl
theorem bw_491 : (Jvm.Cond.code ({ cls := "LiftScheduler$Script", name := "addToken", desc := "(LLiftScheduler$Kind;II)V" } : Jvm.MethodName) prog_4_method_3_code (4 : Nat) (Option.none : Option Jvm.ClassFile.FieldType)) ∈ BW := bw_t 491 (by decide +kernel) rfl
theorem bw_492 : (Jvm.Cond.methodLink "LiftScheduler$Script" (63 : Nat) ({ cls := "LiftScheduler$Script", name := "kindOf", desc := "([BII)LLiftScheduler$Kind;" } : Jvm.MethodName)) ∈ BW := bw_t 492 (by decide +kernel) rfl
theorem bw_493 : (Jvm.Cond.static ({ cls := "LiftScheduler$Script", name := "kindOf", desc := "([BII)LLiftScheduler$Kind;" } : Jvm.MethodName)) ∈ BW := bw_t 493 (by decide +kernel) rfl
theorem bw_494 : (Jvm.Cond.code ({ cls := "LiftScheduler$Script", name := "kindOf", desc := "([BII)LLiftScheduler$Kind;" } : Jvm.MethodName) prog_4_method_9_code (7 : Nat) (Option.some (Jvm.ClassFile.FieldType.object "LiftScheduler$Kind"))) ∈ BW := bw_t 494 (by decide +kernel) rfl
theorem bw_495 : (Jvm.Cond.fieldLink "LiftScheduler$Script" (73 : Nat) "LiftScheduler$Script" "KINDS" "[LLiftScheduler$Kind;") ∈ BW := bw_t 495 (by decide +kernel) rfl
theorem bw_497 : (Jvm.Cond.methodLink "LiftScheduler$Script" (80 : Nat) ({ cls := "LiftScheduler$Script", name := "isText", desc := "(Ljava/lang/String;[BII)Z" } : Jvm.MethodName)) ∈ BW := bw_t 497 (by decide +kernel) rfl
theorem bw_498 : (Jvm.Cond.static ({ cls := "LiftScheduler$Script", name := "isText", desc := "(Ljava/lang/String;[BII)Z" } : Jvm.MethodName)) ∈ BW := bw_t 498 (by decide +kernel) rfl
theorem bw_499 : (Jvm.Cond.code ({ cls := "LiftScheduler$Script", name := "isText", desc := "(Ljava/lang/String;[BII)Z" } : Jvm.MethodName) prog_4_method_10_code (5 : Nat) (Option.some Jvm.ClassFile.FieldType.boolean)) ∈ BW := bw_t 499 (by decide +kernel) rfl
theorem bw_500 : (Jvm.Cond.methodLink "LiftScheduler$Script" (87 : Nat) ({ cls := "java/lang/String", name := "length", desc := "()I" } : Jvm.MethodName)) ∈ BW := bw_t 500 (by decide +kernel) rfl
theorem bw_501 : (Jvm.Cond.instanceMethod ({ cls := "java/lang/String", name := "length", desc := "()I" } : Jvm.MethodName)) ∈ BW := bw_t 501 (by decide +kernel) rfl
theorem bw_502 : (Jvm.Cond.selects "java/lang/String" ({ cls := "java/lang/String", name := "length", desc := "()I" } : Jvm.MethodName) ({ cls := "java/lang/String", name := "length", desc := "()I" } : Jvm.MethodName)) ∈ BW := bw_t 502 (by decide +kernel) rfl
theorem bw_503 : (Jvm.Cond.code ({ cls := "java/lang/String", name := "length", desc := "()I" } : Jvm.MethodName) prog_15_method_54_code (1 : Nat) (Option.some Jvm.ClassFile.FieldType.int)) ∈ BW := bw_t 503 (by decide +kernel) rfl
theorem bw_504 : (Jvm.Cond.methodLink "java/lang/String" (335 : Nat) ({ cls := "java/lang/String", name := "coder", desc := "()B" } : Jvm.MethodName)) ∈ BW := bw_t 504 (by decide +kernel) rfl
theorem bw_505 : (Jvm.Cond.instanceMethod ({ cls := "java/lang/String", name := "coder", desc := "()B" } : Jvm.MethodName)) ∈ BW := bw_t 505 (by decide +kernel) rfl
theorem bw_506 : (Jvm.Cond.selects "java/lang/String" ({ cls := "java/lang/String", name := "coder", desc := "()B" } : Jvm.MethodName) ({ cls := "java/lang/String", name := "coder", desc := "()B" } : Jvm.MethodName)) ∈ BW := bw_t 506 (by decide +kernel) rfl
theorem bw_507 : (Jvm.Cond.code ({ cls := "java/lang/String", name := "coder", desc := "()B" } : Jvm.MethodName) prog_15_method_152_code (1 : Nat) (Option.some Jvm.ClassFile.FieldType.byte)) ∈ BW := bw_t 507 (by decide +kernel) rfl
theorem bw_508 : (Jvm.Cond.fieldLink "java/lang/String" (38 : Nat) "java/lang/String" "COMPACT_STRINGS" "Z") ∈ BW := bw_t 508 (by decide +kernel) rfl
theorem bw_510 : (Jvm.Cond.methodLink "LiftScheduler$Script" (93 : Nat) ({ cls := "java/lang/String", name := "charAt", desc := "(I)C" } : Jvm.MethodName)) ∈ BW := bw_t 510 (by decide +kernel) rfl
theorem bw_511 : (Jvm.Cond.instanceMethod ({ cls := "java/lang/String", name := "charAt", desc := "(I)C" } : Jvm.MethodName)) ∈ BW := bw_t 511 (by decide +kernel) rfl
theorem bw_512 : (Jvm.Cond.selects "java/lang/String" ({ cls := "java/lang/String", name := "charAt", desc := "(I)C" } : Jvm.MethodName) ({ cls := "java/lang/String", name := "charAt", desc := "(I)C" } : Jvm.MethodName)) ∈ BW := bw_t 512 (by decide +kernel) rfl
theorem bw_513 : (Jvm.Cond.code ({ cls := "java/lang/String", name := "charAt", desc := "(I)C" } : Jvm.MethodName) prog_15_method_56_code (2 : Nat) (Option.some Jvm.ClassFile.FieldType.char)) ∈ BW := bw_t 513 (by decide +kernel) rfl
theorem bw_514 : (Jvm.Cond.methodLink "java/lang/String" (492 : Nat) ({ cls := "java/lang/String", name := "isLatin1", desc := "()Z" } : Jvm.MethodName)) ∈ BW := bw_t 514 (by decide +kernel) rfl
theorem bw_515 : (Jvm.Cond.instanceMethod ({ cls := "java/lang/String", name := "isLatin1", desc := "()Z" } : Jvm.MethodName)) ∈ BW := bw_t 515 (by decide +kernel) rfl
theorem bw_516 : (Jvm.Cond.selects "java/lang/String" ({ cls := "java/lang/String", name := "isLatin1", desc := "()Z" } : Jvm.MethodName) ({ cls := "java/lang/String", name := "isLatin1", desc := "()Z" } : Jvm.MethodName)) ∈ BW := bw_t 516 (by decide +kernel) rfl
theorem bw_517 : (Jvm.Cond.code ({ cls := "java/lang/String", name := "isLatin1", desc := "()Z" } : Jvm.MethodName) prog_15_method_154_code (1 : Nat) (Option.some Jvm.ClassFile.FieldType.boolean)) ∈ BW := bw_t 517 (by decide +kernel) rfl
theorem bw_518 : (Jvm.Cond.methodLink "java/lang/String" (495 : Nat) ({ cls := "java/lang/StringLatin1", name := "charAt", desc := "([BI)C" } : Jvm.MethodName)) ∈ BW := bw_t 518 (by decide +kernel) rfl
theorem bw_519 : (Jvm.Cond.static ({ cls := "java/lang/StringLatin1", name := "charAt", desc := "([BI)C" } : Jvm.MethodName)) ∈ BW := bw_t 519 (by decide +kernel) rfl
theorem bw_520 : (Jvm.Cond.code ({ cls := "java/lang/StringLatin1", name := "charAt", desc := "([BI)C" } : Jvm.MethodName) prog_16_method_2_code (2 : Nat) (Option.some Jvm.ClassFile.FieldType.char)) ∈ BW := bw_t 520 (by decide +kernel) rfl
theorem bw_521 : (Jvm.Cond.methodLink "java/lang/StringLatin1" (9 : Nat) ({ cls := "java/lang/String", name := "checkIndex", desc := "(II)V" } : Jvm.MethodName)) ∈ BW := bw_t 521 (by decide +kernel) rfl
theorem bw_522 : (Jvm.Cond.static ({ cls := "java/lang/String", name := "checkIndex", desc := "(II)V" } : Jvm.MethodName)) ∈ BW := bw_t 522 (by decide +kernel) rfl
theorem bw_523 : (Jvm.Cond.code ({ cls := "java/lang/String", name := "checkIndex", desc := "(II)V" } : Jvm.MethodName) prog_15_method_155_code (2 : Nat) (Option.none : Option Jvm.ClassFile.FieldType)) ∈ BW := bw_t 523 (by decide +kernel) rfl
theorem bw_524 : (Jvm.Cond.fieldLink "java/lang/String" (1053 : Nat) "jdk/internal/util/Preconditions" "SIOOBE_FORMATTER" "Ljava/util/function/BiFunction;") ∈ BW := bw_t 524 (by decide +kernel) rfl
theorem bw_526 : (Jvm.Cond.methodLink "java/lang/String" (1059 : Nat) ({ cls := "jdk/internal/util/Preconditions", name := "checkIndex", desc := "(IILjava/util/function/BiFunction;)I" } : Jvm.MethodName)) ∈ BW := bw_t 526 (by decide +kernel) rfl
theorem bw_527 : (Jvm.Cond.static ({ cls := "jdk/internal/util/Preconditions", name := "checkIndex", desc := "(IILjava/util/function/BiFunction;)I" } : Jvm.MethodName)) ∈ BW := bw_t 527 (by decide +kernel) rfl
theorem bw_528 : (Jvm.Cond.code ({ cls := "jdk/internal/util/Preconditions", name := "checkIndex", desc := "(IILjava/util/function/BiFunction;)I" } : Jvm.MethodName) prog_20_method_11_code (3 : Nat) (Option.some Jvm.ClassFile.FieldType.int)) ∈ BW := bw_t 528 (by decide +kernel) rfl
theorem bw_529 : (Jvm.Cond.methodLink "java/lang/String" (498 : Nat) ({ cls := "java/lang/StringUTF16", name := "charAt", desc := "([BI)C" } : Jvm.MethodName)) ∈ BW := bw_t 529 (by decide +kernel) rfl
theorem bw_530 : (Jvm.Cond.static ({ cls := "java/lang/StringUTF16", name := "charAt", desc := "([BI)C" } : Jvm.MethodName)) ∈ BW := bw_t 530 (by decide +kernel) rfl
theorem bw_531 : (Jvm.Cond.code ({ cls := "java/lang/StringUTF16", name := "charAt", desc := "([BI)C" } : Jvm.MethodName) prog_17_method_83_code (2 : Nat) (Option.some Jvm.ClassFile.FieldType.char)) ∈ BW := bw_t 531 (by decide +kernel) rfl
theorem bw_532 : (Jvm.Cond.methodLink "java/lang/StringUTF16" (67 : Nat) ({ cls := "java/lang/StringUTF16", name := "checkIndex", desc := "(I[B)V" } : Jvm.MethodName)) ∈ BW := bw_t 532 (by decide +kernel) rfl
theorem bw_533 : (Jvm.Cond.static ({ cls := "java/lang/StringUTF16", name := "checkIndex", desc := "(I[B)V" } : Jvm.MethodName)) ∈ BW := bw_t 533 (by decide +kernel) rfl
theorem bw_534 : (Jvm.Cond.code ({ cls := "java/lang/StringUTF16", name := "checkIndex", desc := "(I[B)V" } : Jvm.MethodName) prog_17_method_91_code (2 : Nat) (Option.none : Option Jvm.ClassFile.FieldType)) ∈ BW := bw_t 534 (by decide +kernel) rfl
theorem bw_535 : (Jvm.Cond.methodLink "java/lang/StringUTF16" (48 : Nat) ({ cls := "java/lang/StringUTF16", name := "length", desc := "([B)I" } : Jvm.MethodName)) ∈ BW := bw_t 535 (by decide +kernel) rfl
theorem bw_536 : (Jvm.Cond.static ({ cls := "java/lang/StringUTF16", name := "length", desc := "([B)I" } : Jvm.MethodName)) ∈ BW := bw_t 536 (by decide +kernel) rfl
theorem bw_537 : (Jvm.Cond.code ({ cls := "java/lang/StringUTF16", name := "length", desc := "([B)I" } : Jvm.MethodName) prog_17_method_6_code (1 : Nat) (Option.some Jvm.ClassFile.FieldType.int)) ∈ BW := bw_t 537 (by decide +kernel) rfl
theorem bw_538 : (Jvm.Cond.methodLink "java/lang/StringUTF16" (414 : Nat) ({ cls := "java/lang/String", name := "checkIndex", desc := "(II)V" } : Jvm.MethodName)) ∈ BW := bw_t 538 (by decide +kernel) rfl
theorem bw_539 : (Jvm.Cond.methodLink "java/lang/StringUTF16" (71 : Nat) ({ cls := "java/lang/StringUTF16", name := "getChar", desc := "([BI)C" } : Jvm.MethodName)) ∈ BW := bw_t 539 (by decide +kernel) rfl
theorem bw_540 : (Jvm.Cond.static ({ cls := "java/lang/StringUTF16", name := "getChar", desc := "([BI)C" } : Jvm.MethodName)) ∈ BW := bw_t 540 (by decide +kernel) rfl
theorem bw_541 : (Jvm.Cond.code ({ cls := "java/lang/StringUTF16", name := "getChar", desc := "([BI)C" } : Jvm.MethodName) prog_17_method_5_code (2 : Nat) (Option.some Jvm.ClassFile.FieldType.char)) ∈ BW := bw_t 541 (by decide +kernel) rfl
theorem bw_542 : (Jvm.Cond.fieldLink "java/lang/StringUTF16" (44 : Nat) "java/lang/StringUTF16" "$assertionsDisabled" "Z") ∈ BW := bw_t 542 (by decide +kernel) rfl
theorem bw_544 : (Jvm.Cond.fieldLink "java/lang/StringUTF16" (59 : Nat) "java/lang/StringUTF16" "HI_BYTE_SHIFT" "I") ∈ BW := bw_t 544 (by decide +kernel) rfl
theorem bw_546 : (Jvm.Cond.fieldLink "java/lang/StringUTF16" (63 : Nat) "java/lang/StringUTF16" "LO_BYTE_SHIFT" "I") ∈ BW := bw_t 546 (by decide +kernel) rfl
theorem bw_548 : (Jvm.Cond.fieldLink "LiftScheduler$Script" (84 : Nat) "LiftScheduler$Kind" "INVALID" "LLiftScheduler$Kind;") ∈ BW := bw_t 548 (by decide +kernel) rfl
theorem bw_550 : (Jvm.Cond.fieldLink "LiftScheduler$Script" (67 : Nat) "LiftScheduler$Kind" "END" "LLiftScheduler$Kind;") ∈ BW := bw_t 550 (by decide +kernel) rfl
theorem bw_552 : (Jvm.Cond.methodLink "LiftScheduler" (65 : Nat) ({ cls := "LiftScheduler$Script", name := "performHeader", desc := "(LLiftScheduler$Simulation;)Z" } : Jvm.MethodName)) ∈ BW := bw_t 552 (by decide +kernel) rfl
theorem bw_553 : (Jvm.Cond.instanceMethod ({ cls := "LiftScheduler$Script", name := "performHeader", desc := "(LLiftScheduler$Simulation;)Z" } : Jvm.MethodName)) ∈ BW := bw_t 553 (by decide +kernel) rfl
theorem bw_554 : (Jvm.Cond.selects "LiftScheduler$Script" ({ cls := "LiftScheduler$Script", name := "performHeader", desc := "(LLiftScheduler$Simulation;)Z" } : Jvm.MethodName) ({ cls := "LiftScheduler$Script", name := "performHeader", desc := "(LLiftScheduler$Simulation;)Z" } : Jvm.MethodName)) ∈ BW := bw_t 554 (by decide +kernel) rfl
theorem bw_555 : (Jvm.Cond.code ({ cls := "LiftScheduler$Script", name := "performHeader", desc := "(LLiftScheduler$Simulation;)Z" } : Jvm.MethodName) prog_4_method_11_code (5 : Nat) (Option.some Jvm.ClassFile.FieldType.boolean)) ∈ BW := bw_t 555 (by decide +kernel) rfl
theorem bw_556 : (Jvm.Cond.fieldLink "LiftScheduler$Script" (97 : Nat) "LiftScheduler$Kind" "LIFT" "LLiftScheduler$Kind;") ∈ BW := bw_t 556 (by decide +kernel) rfl
theorem bw_558 : (Jvm.Cond.methodLink "LiftScheduler$Script" (100 : Nat) ({ cls := "LiftScheduler$Script", name := "take", desc := "(LLiftScheduler$Kind;)Z" } : Jvm.MethodName)) ∈ BW := bw_t 558 (by decide +kernel) rfl
theorem bw_560 : (Jvm.Cond.instanceMethod ({ cls := "LiftScheduler$Script", name := "take", desc := "(LLiftScheduler$Kind;)Z" } : Jvm.MethodName)) ∈ BW := bw_t 560 (by decide +kernel) rfl
theorem bw_561 : (Jvm.Cond.code ({ cls := "LiftScheduler$Script", name := "take", desc := "(LLiftScheduler$Kind;)Z" } : Jvm.MethodName) prog_4_method_23_code (2 : Nat) (Option.some Jvm.ClassFile.FieldType.boolean)) ∈ BW := bw_t 561 (by decide +kernel) rfl
theorem bw_562 : (Jvm.Cond.methodLink "LiftScheduler$Script" (124 : Nat) ({ cls := "LiftScheduler$Script", name := "nextKind", desc := "()LLiftScheduler$Kind;" } : Jvm.MethodName)) ∈ BW := bw_t 562 (by decide +kernel) rfl
theorem bw_564 : (Jvm.Cond.instanceMethod ({ cls := "LiftScheduler$Script", name := "nextKind", desc := "()LLiftScheduler$Kind;" } : Jvm.MethodName)) ∈ BW := bw_t 564 (by decide +kernel) rfl
theorem bw_565 : (Jvm.Cond.code ({ cls := "LiftScheduler$Script", name := "nextKind", desc := "()LLiftScheduler$Kind;" } : Jvm.MethodName) prog_4_method_22_code (1 : Nat) (Option.some (Jvm.ClassFile.FieldType.object "LiftScheduler$Kind"))) ∈ BW := bw_t 565 (by decide +kernel) rfl
theorem bw_566 : (Jvm.Cond.methodLink "LiftScheduler$Script" (181 : Nat) ({ cls := "LiftScheduler$Script", name := "fail", desc := "(II)Z" } : Jvm.MethodName)) ∈ BW := bw_t 566 (by decide +kernel) rfl
theorem bw_568 : (Jvm.Cond.instanceMethod ({ cls := "LiftScheduler$Script", name := "fail", desc := "(II)Z" } : Jvm.MethodName)) ∈ BW := bw_t 568 (by decide +kernel) rfl
theorem bw_569 : (Jvm.Cond.code ({ cls := "LiftScheduler$Script", name := "fail", desc := "(II)Z" } : Jvm.MethodName) prog_4_method_27_code (3 : Nat) (Option.some Jvm.ClassFile.FieldType.boolean)) ∈ BW := bw_t 569 (by decide +kernel) rfl
theorem bw_570 : (Jvm.Cond.methodLink "LiftScheduler$Script" (104 : Nat) ({ cls := "LiftScheduler$Script", name := "takeNumber", desc := "(II)I" } : Jvm.MethodName)) ∈ BW := bw_t 570 (by decide +kernel) rfl
theorem bw_572 : (Jvm.Cond.instanceMethod ({ cls := "LiftScheduler$Script", name := "takeNumber", desc := "(II)I" } : Jvm.MethodName)) ∈ BW := bw_t 572 (by decide +kernel) rfl
theorem bw_573 : (Jvm.Cond.code ({ cls := "LiftScheduler$Script", name := "takeNumber", desc := "(II)I" } : Jvm.MethodName) prog_4_method_24_code (4 : Nat) (Option.some Jvm.ClassFile.FieldType.int)) ∈ BW := bw_t 573 (by decide +kernel) rfl
theorem bw_574 : (Jvm.Cond.methodLink "LiftScheduler$Script" (108 : Nat) ({ cls := "LiftScheduler$Script", name := "takePolicy", desc := "()I" } : Jvm.MethodName)) ∈ BW := bw_t 574 (by decide +kernel) rfl
theorem bw_576 : (Jvm.Cond.instanceMethod ({ cls := "LiftScheduler$Script", name := "takePolicy", desc := "()I" } : Jvm.MethodName)) ∈ BW := bw_t 576 (by decide +kernel) rfl
theorem bw_577 : (Jvm.Cond.code ({ cls := "LiftScheduler$Script", name := "takePolicy", desc := "()I" } : Jvm.MethodName) prog_4_method_25_code (2 : Nat) (Option.some Jvm.ClassFile.FieldType.int)) ∈ BW := bw_t 577 (by decide +kernel) rfl
theorem bw_578 : (Jvm.Cond.fieldLink "LiftScheduler$Script" (144 : Nat) "LiftScheduler$1" "$SwitchMap$LiftScheduler$Kind" "[I") ∈ BW := bw_t 578 (by decide +kernel) rfl
theorem bw_580 : (Jvm.Cond.methodLink "LiftScheduler$Script" (149 : Nat) ({ cls := "LiftScheduler$Kind", name := "ordinal", desc := "()I" } : Jvm.MethodName)) ∈ BW := bw_t 580 (by decide +kernel) rfl
theorem bw_583 : (Jvm.Cond.selects "LiftScheduler$Kind" ({ cls := "LiftScheduler$Kind", name := "ordinal", desc := "()I" } : Jvm.MethodName) ({ cls := "java/lang/Enum", name := "ordinal", desc := "()I" } : Jvm.MethodName)) ∈ BW := bw_t 583 (by decide +kernel) rfl
theorem bw_584 : (Jvm.Cond.instanceMethod ({ cls := "java/lang/Enum", name := "ordinal", desc := "()I" } : Jvm.MethodName)) ∈ BW := bw_t 584 (by decide +kernel) rfl
theorem bw_585 : (Jvm.Cond.code ({ cls := "java/lang/Enum", name := "ordinal", desc := "()I" } : Jvm.MethodName) prog_8_method_2_code (1 : Nat) (Option.some Jvm.ClassFile.FieldType.int)) ∈ BW := bw_t 585 (by decide +kernel) rfl
theorem bw_586 : (Jvm.Cond.methodLink "LiftScheduler$Script" (111 : Nat) ({ cls := "LiftScheduler$Simulation", name := "begin", desc := "(III)V" } : Jvm.MethodName)) ∈ BW := bw_t 586 (by decide +kernel) rfl
theorem bw_587 : (Jvm.Cond.fieldLink "LiftScheduler$Script" (117 : Nat) "LiftScheduler$Kind" "SEMICOLON" "LLiftScheduler$Kind;") ∈ BW := bw_t 587 (by decide +kernel) rfl
theorem bw_589 : (Jvm.Cond.methodLink "LiftScheduler" (69 : Nat) ({ cls := "LiftScheduler$Script", name := "performCommands", desc := "(LLiftScheduler$Simulation;)Z" } : Jvm.MethodName)) ∈ BW := bw_t 589 (by decide +kernel) rfl
theorem bw_590 : (Jvm.Cond.instanceMethod ({ cls := "LiftScheduler$Script", name := "performCommands", desc := "(LLiftScheduler$Simulation;)Z" } : Jvm.MethodName)) ∈ BW := bw_t 590 (by decide +kernel) rfl
theorem bw_591 : (Jvm.Cond.selects "LiftScheduler$Script" ({ cls := "LiftScheduler$Script", name := "performCommands", desc := "(LLiftScheduler$Simulation;)Z" } : Jvm.MethodName) ({ cls := "LiftScheduler$Script", name := "performCommands", desc := "(LLiftScheduler$Simulation;)Z" } : Jvm.MethodName)) ∈ BW := bw_t 591 (by decide +kernel) rfl
theorem bw_592 : (Jvm.Cond.code ({ cls := "LiftScheduler$Script", name := "performCommands", desc := "(LLiftScheduler$Simulation;)Z" } : Jvm.MethodName) prog_4_method_12_code (4 : Nat) (Option.some Jvm.ClassFile.FieldType.boolean)) ∈ BW := bw_t 592 (by decide +kernel) rfl
theorem bw_593 : (Jvm.Cond.fieldLink "LiftScheduler$Script" (128 : Nat) "LiftScheduler$Kind" "REPEAT" "LLiftScheduler$Kind;") ∈ BW := bw_t 593 (by decide +kernel) rfl
theorem bw_595 : (Jvm.Cond.methodLink "LiftScheduler$Script" (131 : Nat) ({ cls := "LiftScheduler$Script", name := "performRepeat", desc := "()Z" } : Jvm.MethodName)) ∈ BW := bw_t 595 (by decide +kernel) rfl
theorem bw_597 : (Jvm.Cond.instanceMethod ({ cls := "LiftScheduler$Script", name := "performRepeat", desc := "()Z" } : Jvm.MethodName)) ∈ BW := bw_t 597 (by decide +kernel) rfl
theorem bw_598 : (Jvm.Cond.code ({ cls := "LiftScheduler$Script", name := "performRepeat", desc := "()Z" } : Jvm.MethodName) prog_4_method_13_code (5 : Nat) (Option.some Jvm.ClassFile.FieldType.boolean)) ∈ BW := bw_t 598 (by decide +kernel) rfl
theorem bw_599 : (Jvm.Cond.fieldLink "LiftScheduler$Script" (138 : Nat) "LiftScheduler$Kind" "OPEN" "LLiftScheduler$Kind;") ∈ BW := bw_t 599 (by decide +kernel) rfl
theorem bw_601 : (Jvm.Cond.fieldLink "LiftScheduler$Script" (141 : Nat) "LiftScheduler$Kind" "CLOSE" "LLiftScheduler$Kind;") ∈ BW := bw_t 601 (by decide +kernel) rfl
theorem bw_603 : (Jvm.Cond.methodLink "LiftScheduler$Script" (135 : Nat) ({ cls := "LiftScheduler$Script", name := "performSimple", desc := "()Z" } : Jvm.MethodName)) ∈ BW := bw_t 603 (by decide +kernel) rfl
theorem bw_605 : (Jvm.Cond.instanceMethod ({ cls := "LiftScheduler$Script", name := "performSimple", desc := "()Z" } : Jvm.MethodName)) ∈ BW := bw_t 605 (by decide +kernel) rfl
theorem bw_606 : (Jvm.Cond.code ({ cls := "LiftScheduler$Script", name := "performSimple", desc := "()Z" } : Jvm.MethodName) prog_4_method_14_code (1 : Nat) (Option.some Jvm.ClassFile.FieldType.boolean)) ∈ BW := bw_t 606 (by decide +kernel) rfl
theorem bw_607 : (Jvm.Cond.methodLink "LiftScheduler$Script" (152 : Nat) ({ cls := "LiftScheduler$Script", name := "performCall", desc := "()Z" } : Jvm.MethodName)) ∈ BW := bw_t 607 (by decide +kernel) rfl
theorem bw_609 : (Jvm.Cond.instanceMethod ({ cls := "LiftScheduler$Script", name := "performCall", desc := "()Z" } : Jvm.MethodName)) ∈ BW := bw_t 609 (by decide +kernel) rfl
theorem bw_610 : (Jvm.Cond.code ({ cls := "LiftScheduler$Script", name := "performCall", desc := "()Z" } : Jvm.MethodName) prog_4_method_15_code (4 : Nat) (Option.some Jvm.ClassFile.FieldType.boolean)) ∈ BW := bw_t 610 (by decide +kernel) rfl
theorem bw_611 : (Jvm.Cond.fieldLink "LiftScheduler$Script" (190 : Nat) "LiftScheduler$Kind" "AT" "LLiftScheduler$Kind;") ∈ BW := bw_t 611 (by decide +kernel) rfl
theorem bw_613 : (Jvm.Cond.methodLink "LiftScheduler$Script" (193 : Nat) ({ cls := "LiftScheduler$Simulation", name := "addArrival", desc := "(III)V" } : Jvm.MethodName)) ∈ BW := bw_t 613 (by decide +kernel) rfl
theorem bw_614 : (Jvm.Cond.instanceMethod ({ cls := "LiftScheduler$Simulation", name := "addArrival", desc := "(III)V" } : Jvm.MethodName)) ∈ BW := bw_t 614 (by decide +kernel) rfl
theorem bw_615 : (Jvm.Cond.selects "LiftScheduler$Simulation" ({ cls := "LiftScheduler$Simulation", name := "addArrival", desc := "(III)V" } : Jvm.MethodName) ({ cls := "LiftScheduler$Simulation", name := "addArrival", desc := "(III)V" } : Jvm.MethodName)) ∈ BW := bw_t 615 (by decide +kernel) rfl
theorem bw_616 : (Jvm.Cond.code ({ cls := "LiftScheduler$Simulation", name := "addArrival", desc := "(III)V" } : Jvm.MethodName) prog_5_method_4_code (5 : Nat) (Option.none : Option Jvm.ClassFile.FieldType)) ∈ BW := bw_t 616 (by decide +kernel) rfl
theorem bw_617 : (Jvm.Cond.methodLink "LiftScheduler$Script" (155 : Nat) ({ cls := "LiftScheduler$Script", name := "performRun", desc := "()Z" } : Jvm.MethodName)) ∈ BW := bw_t 617 (by decide +kernel) rfl
theorem bw_619 : (Jvm.Cond.instanceMethod ({ cls := "LiftScheduler$Script", name := "performRun", desc := "()Z" } : Jvm.MethodName)) ∈ BW := bw_t 619 (by decide +kernel) rfl
theorem bw_620 : (Jvm.Cond.code ({ cls := "LiftScheduler$Script", name := "performRun", desc := "()Z" } : Jvm.MethodName) prog_4_method_16_code (3 : Nat) (Option.some Jvm.ClassFile.FieldType.boolean)) ∈ BW := bw_t 620 (by decide +kernel) rfl
theorem bw_621 : (Jvm.Cond.methodLink "LiftScheduler$Script" (196 : Nat) ({ cls := "LiftScheduler$Simulation", name := "tick", desc := "()V" } : Jvm.MethodName)) ∈ BW := bw_t 621 (by decide +kernel) rfl
theorem bw_622 : (Jvm.Cond.methodLink "LiftScheduler$Script" (161 : Nat) ({ cls := "LiftScheduler$Simulation", name := "tickToEnd", desc := "(I)I" } : Jvm.MethodName)) ∈ BW := bw_t 622 (by decide +kernel) rfl
theorem bw_623 : (Jvm.Cond.methodLink "LiftScheduler$Script" (165 : Nat) ({ cls := "LiftScheduler$Script", name := "performUntil", desc := "()Z" } : Jvm.MethodName)) ∈ BW := bw_t 623 (by decide +kernel) rfl
theorem bw_625 : (Jvm.Cond.instanceMethod ({ cls := "LiftScheduler$Script", name := "performUntil", desc := "()Z" } : Jvm.MethodName)) ∈ BW := bw_t 625 (by decide +kernel) rfl
theorem bw_626 : (Jvm.Cond.code ({ cls := "LiftScheduler$Script", name := "performUntil", desc := "()Z" } : Jvm.MethodName) prog_4_method_17_code (4 : Nat) (Option.some Jvm.ClassFile.FieldType.boolean)) ∈ BW := bw_t 626 (by decide +kernel) rfl
theorem bw_627 : (Jvm.Cond.methodLink "LiftScheduler$Script" (199 : Nat) ({ cls := "LiftScheduler$Script", name := "takeCounterAndValue", desc := "()I" } : Jvm.MethodName)) ∈ BW := bw_t 627 (by decide +kernel) rfl
theorem bw_629 : (Jvm.Cond.instanceMethod ({ cls := "LiftScheduler$Script", name := "takeCounterAndValue", desc := "()I" } : Jvm.MethodName)) ∈ BW := bw_t 629 (by decide +kernel) rfl
theorem bw_630 : (Jvm.Cond.code ({ cls := "LiftScheduler$Script", name := "takeCounterAndValue", desc := "()I" } : Jvm.MethodName) prog_4_method_26_code (1 : Nat) (Option.some Jvm.ClassFile.FieldType.int)) ∈ BW := bw_t 630 (by decide +kernel) rfl
theorem bw_631 : (Jvm.Cond.methodLink "LiftScheduler$Script" (226 : Nat) ({ cls := "LiftScheduler$Kind", name := "isCounter", desc := "()Z" } : Jvm.MethodName)) ∈ BW := bw_t 631 (by decide +kernel) rfl
theorem bw_632 : (Jvm.Cond.instanceMethod ({ cls := "LiftScheduler$Kind", name := "isCounter", desc := "()Z" } : Jvm.MethodName)) ∈ BW := bw_t 632 (by decide +kernel) rfl
theorem bw_633 : (Jvm.Cond.selects "LiftScheduler$Kind" ({ cls := "LiftScheduler$Kind", name := "isCounter", desc := "()Z" } : Jvm.MethodName) ({ cls := "LiftScheduler$Kind", name := "isCounter", desc := "()Z" } : Jvm.MethodName)) ∈ BW := bw_t 633 (by decide +kernel) rfl
theorem bw_634 : (Jvm.Cond.code ({ cls := "LiftScheduler$Kind", name := "isCounter", desc := "()Z" } : Jvm.MethodName) prog_3_method_4_code (1 : Nat) (Option.some Jvm.ClassFile.FieldType.boolean)) ∈ BW := bw_t 634 (by decide +kernel) rfl
theorem bw_635 : (Jvm.Cond.fieldLink "LiftScheduler$Kind" (46 : Nat) "LiftScheduler$Kind" "DONE" "LLiftScheduler$Kind;") ∈ BW := bw_t 635 (by decide +kernel) rfl
theorem bw_637 : (Jvm.Cond.fieldLink "LiftScheduler$Kind" (49 : Nat) "LiftScheduler$Kind" "RIDING" "LLiftScheduler$Kind;") ∈ BW := bw_t 637 (by decide +kernel) rfl
theorem bw_639 : (Jvm.Cond.fieldLink "LiftScheduler$Kind" (52 : Nat) "LiftScheduler$Kind" "WAITING" "LLiftScheduler$Kind;") ∈ BW := bw_t 639 (by decide +kernel) rfl
theorem bw_641 : (Jvm.Cond.fieldLink "LiftScheduler$Kind" (55 : Nat) "LiftScheduler$Kind" "FLOOR" "LLiftScheduler$Kind;") ∈ BW := bw_t 641 (by decide +kernel) rfl
theorem bw_643 : (Jvm.Cond.fieldLink "LiftScheduler$Kind" (58 : Nat) "LiftScheduler$Kind" "DISTANCE" "LLiftScheduler$Kind;") ∈ BW := bw_t 643 (by decide +kernel) rfl
theorem bw_645 : (Jvm.Cond.fieldLink "LiftScheduler$Kind" (61 : Nat) "LiftScheduler$Kind" "TIME" "LLiftScheduler$Kind;") ∈ BW := bw_t 645 (by decide +kernel) rfl
theorem bw_647 : (Jvm.Cond.methodLink "LiftScheduler$Script" (202 : Nat) ({ cls := "LiftScheduler$Script", name := "count", desc := "(LLiftScheduler$Kind;)I" } : Jvm.MethodName)) ∈ BW := bw_t 647 (by decide +kernel) rfl
theorem bw_649 : (Jvm.Cond.instanceMethod ({ cls := "LiftScheduler$Script", name := "count", desc := "(LLiftScheduler$Kind;)I" } : Jvm.MethodName)) ∈ BW := bw_t 649 (by decide +kernel) rfl
theorem bw_650 : (Jvm.Cond.code ({ cls := "LiftScheduler$Script", name := "count", desc := "(LLiftScheduler$Kind;)I" } : Jvm.MethodName) prog_4_method_21_code (2 : Nat) (Option.some Jvm.ClassFile.FieldType.int)) ∈ BW := bw_t 650 (by decide +kernel) rfl
theorem bw_651 : (Jvm.Cond.methodLink "LiftScheduler$Script" (217 : Nat) ({ cls := "LiftScheduler$Simulation", name := "countWith", desc := "(I)I" } : Jvm.MethodName)) ∈ BW := bw_t 651 (by decide +kernel) rfl
theorem bw_652 : (Jvm.Cond.instanceMethod ({ cls := "LiftScheduler$Simulation", name := "countWith", desc := "(I)I" } : Jvm.MethodName)) ∈ BW := bw_t 652 (by decide +kernel) rfl
theorem bw_653 : (Jvm.Cond.selects "LiftScheduler$Simulation" ({ cls := "LiftScheduler$Simulation", name := "countWith", desc := "(I)I" } : Jvm.MethodName) ({ cls := "LiftScheduler$Simulation", name := "countWith", desc := "(I)I" } : Jvm.MethodName)) ∈ BW := bw_t 653 (by decide +kernel) rfl
theorem bw_654 : (Jvm.Cond.code ({ cls := "LiftScheduler$Simulation", name := "countWith", desc := "(I)I" } : Jvm.MethodName) prog_5_method_8_code (4 : Nat) (Option.some Jvm.ClassFile.FieldType.int)) ∈ BW := bw_t 654 (by decide +kernel) rfl
theorem bw_655 : (Jvm.Cond.methodLink "LiftScheduler$Script" (172 : Nat) ({ cls := "LiftScheduler$Script", name := "performPolicy", desc := "()Z" } : Jvm.MethodName)) ∈ BW := bw_t 655 (by decide +kernel) rfl
theorem bw_657 : (Jvm.Cond.instanceMethod ({ cls := "LiftScheduler$Script", name := "performPolicy", desc := "()Z" } : Jvm.MethodName)) ∈ BW := bw_t 657 (by decide +kernel) rfl
theorem bw_658 : (Jvm.Cond.code ({ cls := "LiftScheduler$Script", name := "performPolicy", desc := "()Z" } : Jvm.MethodName) prog_4_method_18_code (2 : Nat) (Option.some Jvm.ClassFile.FieldType.boolean)) ∈ BW := bw_t 658 (by decide +kernel) rfl
theorem bw_659 : (Jvm.Cond.methodLink "LiftScheduler$Script" (175 : Nat) ({ cls := "LiftScheduler$Script", name := "performCapacity", desc := "()Z" } : Jvm.MethodName)) ∈ BW := bw_t 659 (by decide +kernel) rfl
theorem bw_661 : (Jvm.Cond.instanceMethod ({ cls := "LiftScheduler$Script", name := "performCapacity", desc := "()Z" } : Jvm.MethodName)) ∈ BW := bw_t 661 (by decide +kernel) rfl
theorem bw_662 : (Jvm.Cond.code ({ cls := "LiftScheduler$Script", name := "performCapacity", desc := "()Z" } : Jvm.MethodName) prog_4_method_19_code (2 : Nat) (Option.some Jvm.ClassFile.FieldType.boolean)) ∈ BW := bw_t 662 (by decide +kernel) rfl
theorem bw_663 : (Jvm.Cond.methodLink "LiftScheduler$Script" (178 : Nat) ({ cls := "LiftScheduler$Script", name := "performExpect", desc := "()Z" } : Jvm.MethodName)) ∈ BW := bw_t 663 (by decide +kernel) rfl
theorem bw_665 : (Jvm.Cond.instanceMethod ({ cls := "LiftScheduler$Script", name := "performExpect", desc := "()Z" } : Jvm.MethodName)) ∈ BW := bw_t 665 (by decide +kernel) rfl
theorem bw_666 : (Jvm.Cond.code ({ cls := "LiftScheduler$Script", name := "performExpect", desc := "()Z" } : Jvm.MethodName) prog_4_method_20_code (4 : Nat) (Option.some Jvm.ClassFile.FieldType.boolean)) ∈ BW := bw_t 666 (by decide +kernel) rfl
theorem bw_667 : (Jvm.Cond.classLink "LiftScheduler" (72 : Nat) "java/lang/IllegalArgumentException") ∈ BW := bw_t 667 (by decide +kernel) rfl
theorem bw_668 : (Jvm.Cond.instantiable "java/lang/IllegalArgumentException" (6 : Nat)) ∈ BW := bw_t 668 (by decide +kernel) rfl
theorem bw_676 : (Jvm.Cond.selects "java/lang/IllegalArgumentException" ({ cls := "java/lang/Throwable", name := "fillInStackTrace", desc := "(I)Ljava/lang/Throwable;" } : Jvm.MethodName) ({ cls := "java/lang/Throwable", name := "fillInStackTrace", desc := "(I)Ljava/lang/Throwable;" } : Jvm.MethodName)) ∈ BW := bw_t 676 (by decide +kernel) rfl
theorem bw_677 : (Jvm.Cond.selects "java/lang/IllegalArgumentException" ({ cls := "java/lang/Throwable", name := "fillInStackTrace", desc := "()Ljava/lang/Throwable;" } : Jvm.MethodName) ({ cls := "java/lang/Throwable", name := "fillInStackTrace", desc := "()Ljava/lang/Throwable;" } : Jvm.MethodName)) ∈ BW := bw_t 677 (by decide +kernel) rfl
theorem bw_688 : (Jvm.Cond.fieldLink "java/lang/Throwable" (198 : Nat) "java/lang/Throwable" "backtrace" "Ljava/lang/Object;") ∈ BW := bw_t 688 (by decide +kernel) rfl
theorem bw_690 : (Jvm.Cond.instanceMethod ({ cls := "java/lang/Throwable", name := "<init>", desc := "()V" } : Jvm.MethodName)) ∈ BW := bw_t 690 (by decide +kernel) rfl
theorem bw_691 : (Jvm.Cond.code ({ cls := "java/lang/Throwable", name := "<init>", desc := "()V" } : Jvm.MethodName) prog_19_method_1_code (1 : Nat) (Option.none : Option Jvm.ClassFile.FieldType)) ∈ BW := bw_t 691 (by decide +kernel) rfl
theorem bw_692 : (Jvm.Cond.methodLink "java/lang/Throwable" (1 : Nat) ({ cls := "java/lang/Object", name := "<init>", desc := "()V" } : Jvm.MethodName)) ∈ BW := bw_t 692 (by decide +kernel) rfl
theorem bw_693 : (Jvm.Cond.fieldLink "java/lang/Throwable" (13 : Nat) "java/lang/Throwable" "UNASSIGNED_STACK" "[Ljava/lang/StackTraceElement;") ∈ BW := bw_t 693 (by decide +kernel) rfl
theorem bw_695 : (Jvm.Cond.fieldLink "java/lang/Throwable" (20 : Nat) "java/lang/Throwable" "SUPPRESSED_SENTINEL" "Ljava/util/List;") ∈ BW := bw_t 695 (by decide +kernel) rfl
theorem bw_697 : (Jvm.Cond.methodLink "java/lang/Throwable" (27 : Nat) ({ cls := "java/lang/Throwable", name := "fillInStackTrace", desc := "()Ljava/lang/Throwable;" } : Jvm.MethodName)) ∈ BW := bw_t 697 (by decide +kernel) rfl
theorem bw_698 : (Jvm.Cond.instanceMethod ({ cls := "java/lang/Throwable", name := "fillInStackTrace", desc := "()Ljava/lang/Throwable;" } : Jvm.MethodName)) ∈ BW := bw_t 698 (by decide +kernel) rfl
theorem bw_700 : (Jvm.Cond.selects "java/lang/IllegalStateException" ({ cls := "java/lang/Throwable", name := "fillInStackTrace", desc := "()Ljava/lang/Throwable;" } : Jvm.MethodName) ({ cls := "java/lang/Throwable", name := "fillInStackTrace", desc := "()Ljava/lang/Throwable;" } : Jvm.MethodName)) ∈ BW := bw_t 700 (by decide +kernel) rfl
theorem bw_701 : (Jvm.Cond.selects "java/lang/IndexOutOfBoundsException" ({ cls := "java/lang/Throwable", name := "fillInStackTrace", desc := "()Ljava/lang/Throwable;" } : Jvm.MethodName) ({ cls := "java/lang/Throwable", name := "fillInStackTrace", desc := "()Ljava/lang/Throwable;" } : Jvm.MethodName)) ∈ BW := bw_t 701 (by decide +kernel) rfl
theorem bw_703 : (Jvm.Cond.methodLink "java/lang/Throwable" (202 : Nat) ({ cls := "java/lang/Throwable", name := "fillInStackTrace", desc := "(I)Ljava/lang/Throwable;" } : Jvm.MethodName)) ∈ BW := bw_t 703 (by decide +kernel) rfl
theorem bw_705 : (Jvm.Cond.instanceMethod ({ cls := "java/lang/Throwable", name := "fillInStackTrace", desc := "(I)Ljava/lang/Throwable;" } : Jvm.MethodName)) ∈ BW := bw_t 705 (by decide +kernel) rfl
theorem bw_706 : (Jvm.Cond.instantiable "java/lang/Throwable" (6 : Nat)) ∈ BW := bw_t 706 (by decide +kernel) rfl
theorem bw_707 : (Jvm.Cond.native ({ cls := "java/lang/Throwable", name := "fillInStackTrace", desc := "(I)Ljava/lang/Throwable;" } : Jvm.MethodName)) ∈ BW := bw_t 707 (by decide +kernel) rfl
theorem bw_709 : (Jvm.Cond.methodLink "LiftScheduler" (76 : Nat) ({ cls := "java/lang/IllegalArgumentException", name := "<init>", desc := "(Ljava/lang/String;)V" } : Jvm.MethodName)) ∈ BW := bw_t 709 (by decide +kernel) rfl
theorem bw_710 : (Jvm.Cond.instanceMethod ({ cls := "java/lang/IllegalArgumentException", name := "<init>", desc := "(Ljava/lang/String;)V" } : Jvm.MethodName)) ∈ BW := bw_t 710 (by decide +kernel) rfl
theorem bw_711 : (Jvm.Cond.code ({ cls := "java/lang/IllegalArgumentException", name := "<init>", desc := "(Ljava/lang/String;)V" } : Jvm.MethodName) prog_10_method_2_code (2 : Nat) (Option.none : Option Jvm.ClassFile.FieldType)) ∈ BW := bw_t 711 (by decide +kernel) rfl
theorem bw_712 : (Jvm.Cond.methodLink "java/lang/IllegalArgumentException" (7 : Nat) ({ cls := "java/lang/RuntimeException", name := "<init>", desc := "(Ljava/lang/String;)V" } : Jvm.MethodName)) ∈ BW := bw_t 712 (by decide +kernel) rfl
theorem bw_713 : (Jvm.Cond.instanceMethod ({ cls := "java/lang/RuntimeException", name := "<init>", desc := "(Ljava/lang/String;)V" } : Jvm.MethodName)) ∈ BW := bw_t 713 (by decide +kernel) rfl
theorem bw_714 : (Jvm.Cond.code ({ cls := "java/lang/RuntimeException", name := "<init>", desc := "(Ljava/lang/String;)V" } : Jvm.MethodName) prog_14_method_2_code (2 : Nat) (Option.none : Option Jvm.ClassFile.FieldType)) ∈ BW := bw_t 714 (by decide +kernel) rfl
theorem bw_715 : (Jvm.Cond.methodLink "java/lang/RuntimeException" (7 : Nat) ({ cls := "java/lang/Exception", name := "<init>", desc := "(Ljava/lang/String;)V" } : Jvm.MethodName)) ∈ BW := bw_t 715 (by decide +kernel) rfl
theorem bw_716 : (Jvm.Cond.instanceMethod ({ cls := "java/lang/Exception", name := "<init>", desc := "(Ljava/lang/String;)V" } : Jvm.MethodName)) ∈ BW := bw_t 716 (by decide +kernel) rfl
theorem bw_717 : (Jvm.Cond.code ({ cls := "java/lang/Exception", name := "<init>", desc := "(Ljava/lang/String;)V" } : Jvm.MethodName) prog_9_method_2_code (2 : Nat) (Option.none : Option Jvm.ClassFile.FieldType)) ∈ BW := bw_t 717 (by decide +kernel) rfl
theorem bw_718 : (Jvm.Cond.methodLink "java/lang/Exception" (7 : Nat) ({ cls := "java/lang/Throwable", name := "<init>", desc := "(Ljava/lang/String;)V" } : Jvm.MethodName)) ∈ BW := bw_t 718 (by decide +kernel) rfl
theorem bw_719 : (Jvm.Cond.instanceMethod ({ cls := "java/lang/Throwable", name := "<init>", desc := "(Ljava/lang/String;)V" } : Jvm.MethodName)) ∈ BW := bw_t 719 (by decide +kernel) rfl
theorem bw_720 : (Jvm.Cond.code ({ cls := "java/lang/Throwable", name := "<init>", desc := "(Ljava/lang/String;)V" } : Jvm.MethodName) prog_19_method_2_code (2 : Nat) (Option.none : Option Jvm.ClassFile.FieldType)) ∈ BW := bw_t 720 (by decide +kernel) rfl
theorem bw_721 : (Jvm.Cond.fieldLink "java/lang/Throwable" (198 : Nat) "java/lang/Throwable" "backtrace" "Ljava/lang/Object;") ∈ BW := bw_t 721 (by decide +kernel) rfl
theorem bw_722 : (Jvm.Cond.fieldLink "java/lang/Throwable" (31 : Nat) "java/lang/Throwable" "detailMessage" "Ljava/lang/String;") ∈ BW := bw_t 722 (by decide +kernel) rfl
theorem bw_723 : (Jvm.Cond.fieldLink "java/lang/Throwable" (7 : Nat) "java/lang/Throwable" "cause" "Ljava/lang/Throwable;") ∈ BW := bw_t 723 (by decide +kernel) rfl
theorem bw_724 : (Jvm.Cond.fieldLink "java/lang/Throwable" (17 : Nat) "java/lang/Throwable" "stackTrace" "[Ljava/lang/StackTraceElement;") ∈ BW := bw_t 724 (by decide +kernel) rfl
theorem bw_725 : (Jvm.Cond.fieldLink "java/lang/Throwable" (24 : Nat) "java/lang/Throwable" "suppressedExceptions" "Ljava/util/List;") ∈ BW := bw_t 725 (by decide +kernel) rfl
theorem bw_734 : (Jvm.Cond.methodLink "LiftSchedulerLaw" (129 : Nat) ({ cls := "LiftSchedulerLaw", name := "play", desc := "(LLiftScheduler;[J)I" } : Jvm.MethodName)) ∈ BW := bw_t 734 (by decide +kernel) rfl
theorem bw_735 : (Jvm.Cond.static ({ cls := "LiftSchedulerLaw", name := "play", desc := "(LLiftScheduler;[J)I" } : Jvm.MethodName)) ∈ BW := bw_t 735 (by decide +kernel) rfl
theorem bw_736 : (Jvm.Cond.codeWith ({ cls := "LiftSchedulerLaw", name := "play", desc := "(LLiftScheduler;[J)I" } : Jvm.MethodName) method_4_code (3 : Nat) (Option.some Jvm.ClassFile.FieldType.int) [((0 : Nat), (8 : Nat), (11 : Nat), (13 : Nat))]) ∈ BW := bw_t 736 (by decide +kernel) rfl
theorem bw_737 : (Jvm.Cond.methodLink "LiftSchedulerLaw" (15 : Nat) ({ cls := "LiftScheduler", name := "play", desc := "()I" } : Jvm.MethodName)) ∈ BW := bw_t 737 (by decide +kernel) rfl
theorem bw_738 : (Jvm.Cond.instanceMethod ({ cls := "LiftScheduler", name := "play", desc := "()I" } : Jvm.MethodName)) ∈ BW := bw_t 738 (by decide +kernel) rfl
theorem bw_739 : (Jvm.Cond.selects "LiftScheduler" ({ cls := "LiftScheduler", name := "play", desc := "()I" } : Jvm.MethodName) ({ cls := "LiftScheduler", name := "play", desc := "()I" } : Jvm.MethodName)) ∈ BW := bw_t 739 (by decide +kernel) rfl
theorem bw_740 : (Jvm.Cond.code ({ cls := "LiftScheduler", name := "play", desc := "()I" } : Jvm.MethodName) prog_1_method_6_code (1 : Nat) (Option.some Jvm.ClassFile.FieldType.int)) ∈ BW := bw_t 740 (by decide +kernel) rfl
theorem bw_742 : (Jvm.Cond.methodLink "LiftSchedulerLaw" (173 : Nat) ({ cls := "LiftSchedulerLaw", name := "targetBy", desc := "(LLiftScheduler;I[J)I" } : Jvm.MethodName)) ∈ BW := bw_t 742 (by decide +kernel) rfl
theorem bw_743 : (Jvm.Cond.static ({ cls := "LiftSchedulerLaw", name := "targetBy", desc := "(LLiftScheduler;I[J)I" } : Jvm.MethodName)) ∈ BW := bw_t 743 (by decide +kernel) rfl
theorem bw_744 : (Jvm.Cond.codeWith ({ cls := "LiftSchedulerLaw", name := "targetBy", desc := "(LLiftScheduler;I[J)I" } : Jvm.MethodName) method_5_code (4 : Nat) (Option.some Jvm.ClassFile.FieldType.int) [((0 : Nat), (9 : Nat), (12 : Nat), (13 : Nat))]) ∈ BW := bw_t 744 (by decide +kernel) rfl
theorem bw_745 : (Jvm.Cond.methodLink "LiftSchedulerLaw" (18 : Nat) ({ cls := "LiftScheduler", name := "targetBy", desc := "(I)I" } : Jvm.MethodName)) ∈ BW := bw_t 745 (by decide +kernel) rfl
theorem bw_746 : (Jvm.Cond.instanceMethod ({ cls := "LiftScheduler", name := "targetBy", desc := "(I)I" } : Jvm.MethodName)) ∈ BW := bw_t 746 (by decide +kernel) rfl
theorem bw_747 : (Jvm.Cond.selects "LiftScheduler" ({ cls := "LiftScheduler", name := "targetBy", desc := "(I)I" } : Jvm.MethodName) ({ cls := "LiftScheduler", name := "targetBy", desc := "(I)I" } : Jvm.MethodName)) ∈ BW := bw_t 747 (by decide +kernel) rfl
theorem bw_748 : (Jvm.Cond.code ({ cls := "LiftScheduler", name := "targetBy", desc := "(I)I" } : Jvm.MethodName) prog_1_method_17_code (2 : Nat) (Option.some Jvm.ClassFile.FieldType.int)) ∈ BW := bw_t 748 (by decide +kernel) rfl
theorem bw_749 : (Jvm.Cond.methodLink "LiftScheduler" (126 : Nat) ({ cls := "LiftScheduler", name := "requirePolicy", desc := "(I)V" } : Jvm.MethodName)) ∈ BW := bw_t 749 (by decide +kernel) rfl
theorem bw_751 : (Jvm.Cond.instanceMethod ({ cls := "LiftScheduler", name := "requirePolicy", desc := "(I)V" } : Jvm.MethodName)) ∈ BW := bw_t 751 (by decide +kernel) rfl
theorem bw_752 : (Jvm.Cond.code ({ cls := "LiftScheduler", name := "requirePolicy", desc := "(I)V" } : Jvm.MethodName) prog_1_method_75_code (2 : Nat) (Option.none : Option Jvm.ClassFile.FieldType)) ∈ BW := bw_t 752 (by decide +kernel) rfl
theorem bw_754 : (Jvm.Cond.methodLink "LiftScheduler" (129 : Nat) ({ cls := "LiftScheduler$Simulation", name := "findTarget", desc := "(I)I" } : Jvm.MethodName)) ∈ BW := bw_t 754 (by decide +kernel) rfl
theorem bw_755 : (Jvm.Cond.methodLink "LiftSchedulerLaw" (197 : Nat) ({ cls := "LiftSchedulerLaw", name := "statusOf", desc := "(LLiftScheduler;I[J)I" } : Jvm.MethodName)) ∈ BW := bw_t 755 (by decide +kernel) rfl
theorem bw_756 : (Jvm.Cond.static ({ cls := "LiftSchedulerLaw", name := "statusOf", desc := "(LLiftScheduler;I[J)I" } : Jvm.MethodName)) ∈ BW := bw_t 756 (by decide +kernel) rfl
theorem bw_757 : (Jvm.Cond.codeWith ({ cls := "LiftSchedulerLaw", name := "statusOf", desc := "(LLiftScheduler;I[J)I" } : Jvm.MethodName) method_6_code (4 : Nat) (Option.some Jvm.ClassFile.FieldType.int) [((0 : Nat), (9 : Nat), (12 : Nat), (25 : Nat))]) ∈ BW := bw_t 757 (by decide +kernel) rfl
theorem bw_758 : (Jvm.Cond.classLink "LiftSchedulerLaw" (25 : Nat) "java/lang/IndexOutOfBoundsException") ∈ BW := bw_t 758 (by decide +kernel) rfl
theorem bw_759 : (Jvm.Cond.methodLink "LiftSchedulerLaw" (22 : Nat) ({ cls := "LiftScheduler", name := "statusOf", desc := "(I)I" } : Jvm.MethodName)) ∈ BW := bw_t 759 (by decide +kernel) rfl
theorem bw_760 : (Jvm.Cond.instanceMethod ({ cls := "LiftScheduler", name := "statusOf", desc := "(I)I" } : Jvm.MethodName)) ∈ BW := bw_t 760 (by decide +kernel) rfl
theorem bw_761 : (Jvm.Cond.selects "LiftScheduler" ({ cls := "LiftScheduler", name := "statusOf", desc := "(I)I" } : Jvm.MethodName) ({ cls := "LiftScheduler", name := "statusOf", desc := "(I)I" } : Jvm.MethodName)) ∈ BW := bw_t 761 (by decide +kernel) rfl
theorem bw_762 : (Jvm.Cond.code ({ cls := "LiftScheduler", name := "statusOf", desc := "(I)I" } : Jvm.MethodName) prog_1_method_23_code (2 : Nat) (Option.some Jvm.ClassFile.FieldType.int)) ∈ BW := bw_t 762 (by decide +kernel) rfl
theorem bw_763 : (Jvm.Cond.methodLink "LiftScheduler" (145 : Nat) ({ cls := "LiftScheduler", name := "requirePassenger", desc := "(I)V" } : Jvm.MethodName)) ∈ BW := bw_t 763 (by decide +kernel) rfl
theorem bw_765 : (Jvm.Cond.instanceMethod ({ cls := "LiftScheduler", name := "requirePassenger", desc := "(I)V" } : Jvm.MethodName)) ∈ BW := bw_t 765 (by decide +kernel) rfl
theorem bw_766 : (Jvm.Cond.code ({ cls := "LiftScheduler", name := "requirePassenger", desc := "(I)V" } : Jvm.MethodName) prog_1_method_73_code (2 : Nat) (Option.none : Option Jvm.ClassFile.FieldType)) ∈ BW := bw_t 766 (by decide +kernel) rfl
theorem bw_767 : (Jvm.Cond.classLink "LiftScheduler" (264 : Nat) "java/lang/IndexOutOfBoundsException") ∈ BW := bw_t 767 (by decide +kernel) rfl
theorem bw_768 : (Jvm.Cond.instantiable "java/lang/IndexOutOfBoundsException" (6 : Nat)) ∈ BW := bw_t 768 (by decide +kernel) rfl
theorem bw_770 : (Jvm.Cond.selects "java/lang/IndexOutOfBoundsException" ({ cls := "java/lang/Throwable", name := "fillInStackTrace", desc := "(I)Ljava/lang/Throwable;" } : Jvm.MethodName) ({ cls := "java/lang/Throwable", name := "fillInStackTrace", desc := "(I)Ljava/lang/Throwable;" } : Jvm.MethodName)) ∈ BW := bw_t 770 (by decide +kernel) rfl
theorem bw_777 : (Jvm.Cond.methodLink "LiftScheduler" (268 : Nat) ({ cls := "java/lang/IndexOutOfBoundsException", name := "<init>", desc := "(Ljava/lang/String;)V" } : Jvm.MethodName)) ∈ BW := bw_t 777 (by decide +kernel) rfl
theorem bw_778 : (Jvm.Cond.instanceMethod ({ cls := "java/lang/IndexOutOfBoundsException", name := "<init>", desc := "(Ljava/lang/String;)V" } : Jvm.MethodName)) ∈ BW := bw_t 778 (by decide +kernel) rfl
theorem bw_779 : (Jvm.Cond.code ({ cls := "java/lang/IndexOutOfBoundsException", name := "<init>", desc := "(Ljava/lang/String;)V" } : Jvm.MethodName) prog_12_method_2_code (2 : Nat) (Option.none : Option Jvm.ClassFile.FieldType)) ∈ BW := bw_t 779 (by decide +kernel) rfl
theorem bw_780 : (Jvm.Cond.methodLink "java/lang/IndexOutOfBoundsException" (7 : Nat) ({ cls := "java/lang/RuntimeException", name := "<init>", desc := "(Ljava/lang/String;)V" } : Jvm.MethodName)) ∈ BW := bw_t 780 (by decide +kernel) rfl
theorem bw_783 : (Jvm.Cond.methodLink "LiftSchedulerLaw" (200 : Nat) ({ cls := "LiftSchedulerLaw", name := "originOf", desc := "(LLiftScheduler;I[J)I" } : Jvm.MethodName)) ∈ BW := bw_t 783 (by decide +kernel) rfl
theorem bw_784 : (Jvm.Cond.static ({ cls := "LiftSchedulerLaw", name := "originOf", desc := "(LLiftScheduler;I[J)I" } : Jvm.MethodName)) ∈ BW := bw_t 784 (by decide +kernel) rfl
theorem bw_785 : (Jvm.Cond.codeWith ({ cls := "LiftSchedulerLaw", name := "originOf", desc := "(LLiftScheduler;I[J)I" } : Jvm.MethodName) method_7_code (4 : Nat) (Option.some Jvm.ClassFile.FieldType.int) [((0 : Nat), (9 : Nat), (12 : Nat), (25 : Nat))]) ∈ BW := bw_t 785 (by decide +kernel) rfl
theorem bw_786 : (Jvm.Cond.methodLink "LiftSchedulerLaw" (27 : Nat) ({ cls := "LiftScheduler", name := "originOf", desc := "(I)I" } : Jvm.MethodName)) ∈ BW := bw_t 786 (by decide +kernel) rfl
theorem bw_787 : (Jvm.Cond.instanceMethod ({ cls := "LiftScheduler", name := "originOf", desc := "(I)I" } : Jvm.MethodName)) ∈ BW := bw_t 787 (by decide +kernel) rfl
theorem bw_788 : (Jvm.Cond.selects "LiftScheduler" ({ cls := "LiftScheduler", name := "originOf", desc := "(I)I" } : Jvm.MethodName) ({ cls := "LiftScheduler", name := "originOf", desc := "(I)I" } : Jvm.MethodName)) ∈ BW := bw_t 788 (by decide +kernel) rfl
theorem bw_789 : (Jvm.Cond.code ({ cls := "LiftScheduler", name := "originOf", desc := "(I)I" } : Jvm.MethodName) prog_1_method_24_code (2 : Nat) (Option.some Jvm.ClassFile.FieldType.int)) ∈ BW := bw_t 789 (by decide +kernel) rfl
theorem bw_790 : (Jvm.Cond.methodLink "LiftSchedulerLaw" (203 : Nat) ({ cls := "LiftSchedulerLaw", name := "destinationOf", desc := "(LLiftScheduler;I[J)I" } : Jvm.MethodName)) ∈ BW := bw_t 790 (by decide +kernel) rfl
theorem bw_791 : (Jvm.Cond.static ({ cls := "LiftSchedulerLaw", name := "destinationOf", desc := "(LLiftScheduler;I[J)I" } : Jvm.MethodName)) ∈ BW := bw_t 791 (by decide +kernel) rfl
theorem bw_792 : (Jvm.Cond.codeWith ({ cls := "LiftSchedulerLaw", name := "destinationOf", desc := "(LLiftScheduler;I[J)I" } : Jvm.MethodName) method_8_code (4 : Nat) (Option.some Jvm.ClassFile.FieldType.int) [((0 : Nat), (9 : Nat), (12 : Nat), (25 : Nat))]) ∈ BW := bw_t 792 (by decide +kernel) rfl
theorem bw_793 : (Jvm.Cond.methodLink "LiftSchedulerLaw" (30 : Nat) ({ cls := "LiftScheduler", name := "destinationOf", desc := "(I)I" } : Jvm.MethodName)) ∈ BW := bw_t 793 (by decide +kernel) rfl
theorem bw_794 : (Jvm.Cond.instanceMethod ({ cls := "LiftScheduler", name := "destinationOf", desc := "(I)I" } : Jvm.MethodName)) ∈ BW := bw_t 794 (by decide +kernel) rfl
theorem bw_795 : (Jvm.Cond.selects "LiftScheduler" ({ cls := "LiftScheduler", name := "destinationOf", desc := "(I)I" } : Jvm.MethodName) ({ cls := "LiftScheduler", name := "destinationOf", desc := "(I)I" } : Jvm.MethodName)) ∈ BW := bw_t 795 (by decide +kernel) rfl
theorem bw_796 : (Jvm.Cond.code ({ cls := "LiftScheduler", name := "destinationOf", desc := "(I)I" } : Jvm.MethodName) prog_1_method_25_code (2 : Nat) (Option.some Jvm.ClassFile.FieldType.int)) ∈ BW := bw_t 796 (by decide +kernel) rfl
theorem bw_797 : (Jvm.Cond.methodLink "LiftSchedulerLaw" (206 : Nat) ({ cls := "LiftSchedulerLaw", name := "arrivalOf", desc := "(LLiftScheduler;I[J)I" } : Jvm.MethodName)) ∈ BW := bw_t 797 (by decide +kernel) rfl
theorem bw_798 : (Jvm.Cond.static ({ cls := "LiftSchedulerLaw", name := "arrivalOf", desc := "(LLiftScheduler;I[J)I" } : Jvm.MethodName)) ∈ BW := bw_t 798 (by decide +kernel) rfl
theorem bw_799 : (Jvm.Cond.codeWith ({ cls := "LiftSchedulerLaw", name := "arrivalOf", desc := "(LLiftScheduler;I[J)I" } : Jvm.MethodName) method_9_code (4 : Nat) (Option.some Jvm.ClassFile.FieldType.int) [((0 : Nat), (9 : Nat), (12 : Nat), (25 : Nat))]) ∈ BW := bw_t 799 (by decide +kernel) rfl
theorem bw_800 : (Jvm.Cond.methodLink "LiftSchedulerLaw" (33 : Nat) ({ cls := "LiftScheduler", name := "arrivalOf", desc := "(I)I" } : Jvm.MethodName)) ∈ BW := bw_t 800 (by decide +kernel) rfl
theorem bw_801 : (Jvm.Cond.instanceMethod ({ cls := "LiftScheduler", name := "arrivalOf", desc := "(I)I" } : Jvm.MethodName)) ∈ BW := bw_t 801 (by decide +kernel) rfl
theorem bw_802 : (Jvm.Cond.selects "LiftScheduler" ({ cls := "LiftScheduler", name := "arrivalOf", desc := "(I)I" } : Jvm.MethodName) ({ cls := "LiftScheduler", name := "arrivalOf", desc := "(I)I" } : Jvm.MethodName)) ∈ BW := bw_t 802 (by decide +kernel) rfl
theorem bw_803 : (Jvm.Cond.code ({ cls := "LiftScheduler", name := "arrivalOf", desc := "(I)I" } : Jvm.MethodName) prog_1_method_26_code (2 : Nat) (Option.some Jvm.ClassFile.FieldType.int)) ∈ BW := bw_t 803 (by decide +kernel) rfl
theorem bw_804 : (Jvm.Cond.methodLink "LiftSchedulerLaw" (209 : Nat) ({ cls := "LiftSchedulerLaw", name := "boardedAt", desc := "(LLiftScheduler;I[J)I" } : Jvm.MethodName)) ∈ BW := bw_t 804 (by decide +kernel) rfl
theorem bw_805 : (Jvm.Cond.static ({ cls := "LiftSchedulerLaw", name := "boardedAt", desc := "(LLiftScheduler;I[J)I" } : Jvm.MethodName)) ∈ BW := bw_t 805 (by decide +kernel) rfl
theorem bw_806 : (Jvm.Cond.codeWith ({ cls := "LiftSchedulerLaw", name := "boardedAt", desc := "(LLiftScheduler;I[J)I" } : Jvm.MethodName) method_10_code (4 : Nat) (Option.some Jvm.ClassFile.FieldType.int) [((0 : Nat), (9 : Nat), (12 : Nat), (25 : Nat))]) ∈ BW := bw_t 806 (by decide +kernel) rfl
theorem bw_807 : (Jvm.Cond.methodLink "LiftSchedulerLaw" (36 : Nat) ({ cls := "LiftScheduler", name := "boardedAt", desc := "(I)I" } : Jvm.MethodName)) ∈ BW := bw_t 807 (by decide +kernel) rfl
theorem bw_808 : (Jvm.Cond.instanceMethod ({ cls := "LiftScheduler", name := "boardedAt", desc := "(I)I" } : Jvm.MethodName)) ∈ BW := bw_t 808 (by decide +kernel) rfl
theorem bw_809 : (Jvm.Cond.selects "LiftScheduler" ({ cls := "LiftScheduler", name := "boardedAt", desc := "(I)I" } : Jvm.MethodName) ({ cls := "LiftScheduler", name := "boardedAt", desc := "(I)I" } : Jvm.MethodName)) ∈ BW := bw_t 809 (by decide +kernel) rfl
theorem bw_810 : (Jvm.Cond.code ({ cls := "LiftScheduler", name := "boardedAt", desc := "(I)I" } : Jvm.MethodName) prog_1_method_27_code (2 : Nat) (Option.some Jvm.ClassFile.FieldType.int)) ∈ BW := bw_t 810 (by decide +kernel) rfl
theorem bw_811 : (Jvm.Cond.methodLink "LiftSchedulerLaw" (212 : Nat) ({ cls := "LiftSchedulerLaw", name := "leftAt", desc := "(LLiftScheduler;I[J)I" } : Jvm.MethodName)) ∈ BW := bw_t 811 (by decide +kernel) rfl
theorem bw_812 : (Jvm.Cond.static ({ cls := "LiftSchedulerLaw", name := "leftAt", desc := "(LLiftScheduler;I[J)I" } : Jvm.MethodName)) ∈ BW := bw_t 812 (by decide +kernel) rfl
theorem bw_813 : (Jvm.Cond.codeWith ({ cls := "LiftSchedulerLaw", name := "leftAt", desc := "(LLiftScheduler;I[J)I" } : Jvm.MethodName) method_11_code (4 : Nat) (Option.some Jvm.ClassFile.FieldType.int) [((0 : Nat), (9 : Nat), (12 : Nat), (25 : Nat))]) ∈ BW := bw_t 813 (by decide +kernel) rfl
theorem bw_814 : (Jvm.Cond.methodLink "LiftSchedulerLaw" (39 : Nat) ({ cls := "LiftScheduler", name := "leftAt", desc := "(I)I" } : Jvm.MethodName)) ∈ BW := bw_t 814 (by decide +kernel) rfl
theorem bw_815 : (Jvm.Cond.instanceMethod ({ cls := "LiftScheduler", name := "leftAt", desc := "(I)I" } : Jvm.MethodName)) ∈ BW := bw_t 815 (by decide +kernel) rfl
theorem bw_816 : (Jvm.Cond.selects "LiftScheduler" ({ cls := "LiftScheduler", name := "leftAt", desc := "(I)I" } : Jvm.MethodName) ({ cls := "LiftScheduler", name := "leftAt", desc := "(I)I" } : Jvm.MethodName)) ∈ BW := bw_t 816 (by decide +kernel) rfl
theorem bw_817 : (Jvm.Cond.code ({ cls := "LiftScheduler", name := "leftAt", desc := "(I)I" } : Jvm.MethodName) prog_1_method_28_code (2 : Nat) (Option.some Jvm.ClassFile.FieldType.int)) ∈ BW := bw_t 817 (by decide +kernel) rfl
theorem bw_818 : (Jvm.Cond.methodLink "LiftSchedulerLaw" (215 : Nat) ({ cls := "LiftSchedulerLaw", name := "waitOf", desc := "(LLiftScheduler;I[J)I" } : Jvm.MethodName)) ∈ BW := bw_t 818 (by decide +kernel) rfl
theorem bw_819 : (Jvm.Cond.static ({ cls := "LiftSchedulerLaw", name := "waitOf", desc := "(LLiftScheduler;I[J)I" } : Jvm.MethodName)) ∈ BW := bw_t 819 (by decide +kernel) rfl
theorem bw_820 : (Jvm.Cond.codeWith ({ cls := "LiftSchedulerLaw", name := "waitOf", desc := "(LLiftScheduler;I[J)I" } : Jvm.MethodName) method_12_code (4 : Nat) (Option.some Jvm.ClassFile.FieldType.int) [((0 : Nat), (9 : Nat), (12 : Nat), (25 : Nat))]) ∈ BW := bw_t 820 (by decide +kernel) rfl
theorem bw_821 : (Jvm.Cond.methodLink "LiftSchedulerLaw" (42 : Nat) ({ cls := "LiftScheduler", name := "waitOf", desc := "(I)I" } : Jvm.MethodName)) ∈ BW := bw_t 821 (by decide +kernel) rfl
theorem bw_822 : (Jvm.Cond.instanceMethod ({ cls := "LiftScheduler", name := "waitOf", desc := "(I)I" } : Jvm.MethodName)) ∈ BW := bw_t 822 (by decide +kernel) rfl
theorem bw_823 : (Jvm.Cond.selects "LiftScheduler" ({ cls := "LiftScheduler", name := "waitOf", desc := "(I)I" } : Jvm.MethodName) ({ cls := "LiftScheduler", name := "waitOf", desc := "(I)I" } : Jvm.MethodName)) ∈ BW := bw_t 823 (by decide +kernel) rfl
theorem bw_824 : (Jvm.Cond.code ({ cls := "LiftScheduler", name := "waitOf", desc := "(I)I" } : Jvm.MethodName) prog_1_method_29_code (2 : Nat) (Option.some Jvm.ClassFile.FieldType.int)) ∈ BW := bw_t 824 (by decide +kernel) rfl
theorem bw_825 : (Jvm.Cond.methodLink "LiftScheduler" (167 : Nat) ({ cls := "LiftScheduler$Simulation", name := "findWait", desc := "(I)I" } : Jvm.MethodName)) ∈ BW := bw_t 825 (by decide +kernel) rfl
theorem bw_826 : (Jvm.Cond.methodLink "LiftSchedulerLaw" (218 : Nat) ({ cls := "LiftSchedulerLaw", name := "rideOf", desc := "(LLiftScheduler;I[J)I" } : Jvm.MethodName)) ∈ BW := bw_t 826 (by decide +kernel) rfl
theorem bw_827 : (Jvm.Cond.static ({ cls := "LiftSchedulerLaw", name := "rideOf", desc := "(LLiftScheduler;I[J)I" } : Jvm.MethodName)) ∈ BW := bw_t 827 (by decide +kernel) rfl
theorem bw_828 : (Jvm.Cond.codeWith ({ cls := "LiftSchedulerLaw", name := "rideOf", desc := "(LLiftScheduler;I[J)I" } : Jvm.MethodName) method_13_code (4 : Nat) (Option.some Jvm.ClassFile.FieldType.int) [((0 : Nat), (9 : Nat), (12 : Nat), (25 : Nat))]) ∈ BW := bw_t 828 (by decide +kernel) rfl
theorem bw_829 : (Jvm.Cond.methodLink "LiftSchedulerLaw" (45 : Nat) ({ cls := "LiftScheduler", name := "rideOf", desc := "(I)I" } : Jvm.MethodName)) ∈ BW := bw_t 829 (by decide +kernel) rfl
theorem bw_830 : (Jvm.Cond.instanceMethod ({ cls := "LiftScheduler", name := "rideOf", desc := "(I)I" } : Jvm.MethodName)) ∈ BW := bw_t 830 (by decide +kernel) rfl
theorem bw_831 : (Jvm.Cond.selects "LiftScheduler" ({ cls := "LiftScheduler", name := "rideOf", desc := "(I)I" } : Jvm.MethodName) ({ cls := "LiftScheduler", name := "rideOf", desc := "(I)I" } : Jvm.MethodName)) ∈ BW := bw_t 831 (by decide +kernel) rfl
theorem bw_832 : (Jvm.Cond.code ({ cls := "LiftScheduler", name := "rideOf", desc := "(I)I" } : Jvm.MethodName) prog_1_method_30_code (2 : Nat) (Option.some Jvm.ClassFile.FieldType.int)) ∈ BW := bw_t 832 (by decide +kernel) rfl
theorem bw_833 : (Jvm.Cond.methodLink "LiftSchedulerLaw" (221 : Nat) ({ cls := "LiftSchedulerLaw", name := "detourOf", desc := "(LLiftScheduler;I[J)I" } : Jvm.MethodName)) ∈ BW := bw_t 833 (by decide +kernel) rfl
theorem bw_834 : (Jvm.Cond.static ({ cls := "LiftSchedulerLaw", name := "detourOf", desc := "(LLiftScheduler;I[J)I" } : Jvm.MethodName)) ∈ BW := bw_t 834 (by decide +kernel) rfl
theorem bw_835 : (Jvm.Cond.codeWith ({ cls := "LiftSchedulerLaw", name := "detourOf", desc := "(LLiftScheduler;I[J)I" } : Jvm.MethodName) method_14_code (4 : Nat) (Option.some Jvm.ClassFile.FieldType.int) [((0 : Nat), (9 : Nat), (12 : Nat), (25 : Nat))]) ∈ BW := bw_t 835 (by decide +kernel) rfl
theorem bw_836 : (Jvm.Cond.methodLink "LiftSchedulerLaw" (48 : Nat) ({ cls := "LiftScheduler", name := "detourOf", desc := "(I)I" } : Jvm.MethodName)) ∈ BW := bw_t 836 (by decide +kernel) rfl
theorem bw_837 : (Jvm.Cond.instanceMethod ({ cls := "LiftScheduler", name := "detourOf", desc := "(I)I" } : Jvm.MethodName)) ∈ BW := bw_t 837 (by decide +kernel) rfl
theorem bw_838 : (Jvm.Cond.selects "LiftScheduler" ({ cls := "LiftScheduler", name := "detourOf", desc := "(I)I" } : Jvm.MethodName) ({ cls := "LiftScheduler", name := "detourOf", desc := "(I)I" } : Jvm.MethodName)) ∈ BW := bw_t 838 (by decide +kernel) rfl
theorem bw_839 : (Jvm.Cond.code ({ cls := "LiftScheduler", name := "detourOf", desc := "(I)I" } : Jvm.MethodName) prog_1_method_31_code (3 : Nat) (Option.some Jvm.ClassFile.FieldType.int)) ∈ BW := bw_t 839 (by decide +kernel) rfl
theorem bw_840 : (Jvm.Cond.methodLink "LiftScheduler" (173 : Nat) ({ cls := "java/lang/Math", name := "abs", desc := "(I)I" } : Jvm.MethodName)) ∈ BW := bw_t 840 (by decide +kernel) rfl
theorem bw_841 : (Jvm.Cond.static ({ cls := "java/lang/Math", name := "abs", desc := "(I)I" } : Jvm.MethodName)) ∈ BW := bw_t 841 (by decide +kernel) rfl
theorem bw_842 : (Jvm.Cond.code ({ cls := "java/lang/Math", name := "abs", desc := "(I)I" } : Jvm.MethodName) prog_13_method_59_code (1 : Nat) (Option.some Jvm.ClassFile.FieldType.int)) ∈ BW := bw_t 842 (by decide +kernel) rfl
theorem bw_843 : (Jvm.Cond.methodLink "LiftSchedulerLaw" (224 : Nat) ({ cls := "LiftSchedulerLaw", name := "countStatus", desc := "(LLiftScheduler;I[J)I" } : Jvm.MethodName)) ∈ BW := bw_t 843 (by decide +kernel) rfl
theorem bw_844 : (Jvm.Cond.static ({ cls := "LiftSchedulerLaw", name := "countStatus", desc := "(LLiftScheduler;I[J)I" } : Jvm.MethodName)) ∈ BW := bw_t 844 (by decide +kernel) rfl
theorem bw_845 : (Jvm.Cond.codeWith ({ cls := "LiftSchedulerLaw", name := "countStatus", desc := "(LLiftScheduler;I[J)I" } : Jvm.MethodName) method_15_code (4 : Nat) (Option.some Jvm.ClassFile.FieldType.int) [((0 : Nat), (9 : Nat), (12 : Nat), (13 : Nat))]) ∈ BW := bw_t 845 (by decide +kernel) rfl
theorem bw_846 : (Jvm.Cond.methodLink "LiftSchedulerLaw" (51 : Nat) ({ cls := "LiftScheduler", name := "countStatus", desc := "(I)I" } : Jvm.MethodName)) ∈ BW := bw_t 846 (by decide +kernel) rfl
theorem bw_847 : (Jvm.Cond.instanceMethod ({ cls := "LiftScheduler", name := "countStatus", desc := "(I)I" } : Jvm.MethodName)) ∈ BW := bw_t 847 (by decide +kernel) rfl
theorem bw_848 : (Jvm.Cond.selects "LiftScheduler" ({ cls := "LiftScheduler", name := "countStatus", desc := "(I)I" } : Jvm.MethodName) ({ cls := "LiftScheduler", name := "countStatus", desc := "(I)I" } : Jvm.MethodName)) ∈ BW := bw_t 848 (by decide +kernel) rfl
theorem bw_849 : (Jvm.Cond.code ({ cls := "LiftScheduler", name := "countStatus", desc := "(I)I" } : Jvm.MethodName) prog_1_method_32_code (2 : Nat) (Option.some Jvm.ClassFile.FieldType.int)) ∈ BW := bw_t 849 (by decide +kernel) rfl
theorem bw_851 : (Jvm.Cond.methodLink "LiftScheduler" (180 : Nat) ({ cls := "LiftScheduler$Simulation", name := "countWith", desc := "(I)I" } : Jvm.MethodName)) ∈ BW := bw_t 851 (by decide +kernel) rfl
theorem bw_852 : (Jvm.Cond.methodLink "LiftSchedulerLaw" (227 : Nat) ({ cls := "LiftSchedulerLaw", name := "waitingAt", desc := "(LLiftScheduler;I[J)I" } : Jvm.MethodName)) ∈ BW := bw_t 852 (by decide +kernel) rfl
theorem bw_853 : (Jvm.Cond.static ({ cls := "LiftSchedulerLaw", name := "waitingAt", desc := "(LLiftScheduler;I[J)I" } : Jvm.MethodName)) ∈ BW := bw_t 853 (by decide +kernel) rfl
theorem bw_854 : (Jvm.Cond.codeWith ({ cls := "LiftSchedulerLaw", name := "waitingAt", desc := "(LLiftScheduler;I[J)I" } : Jvm.MethodName) method_16_code (4 : Nat) (Option.some Jvm.ClassFile.FieldType.int) [((0 : Nat), (9 : Nat), (12 : Nat), (25 : Nat))]) ∈ BW := bw_t 854 (by decide +kernel) rfl
theorem bw_855 : (Jvm.Cond.methodLink "LiftSchedulerLaw" (54 : Nat) ({ cls := "LiftScheduler", name := "waitingAt", desc := "(I)I" } : Jvm.MethodName)) ∈ BW := bw_t 855 (by decide +kernel) rfl
theorem bw_856 : (Jvm.Cond.instanceMethod ({ cls := "LiftScheduler", name := "waitingAt", desc := "(I)I" } : Jvm.MethodName)) ∈ BW := bw_t 856 (by decide +kernel) rfl
theorem bw_857 : (Jvm.Cond.selects "LiftScheduler" ({ cls := "LiftScheduler", name := "waitingAt", desc := "(I)I" } : Jvm.MethodName) ({ cls := "LiftScheduler", name := "waitingAt", desc := "(I)I" } : Jvm.MethodName)) ∈ BW := bw_t 857 (by decide +kernel) rfl
theorem bw_858 : (Jvm.Cond.code ({ cls := "LiftScheduler", name := "waitingAt", desc := "(I)I" } : Jvm.MethodName) prog_1_method_33_code (2 : Nat) (Option.some Jvm.ClassFile.FieldType.int)) ∈ BW := bw_t 858 (by decide +kernel) rfl
theorem bw_859 : (Jvm.Cond.methodLink "LiftScheduler" (183 : Nat) ({ cls := "LiftScheduler", name := "requireFloor", desc := "(I)V" } : Jvm.MethodName)) ∈ BW := bw_t 859 (by decide +kernel) rfl
theorem bw_861 : (Jvm.Cond.instanceMethod ({ cls := "LiftScheduler", name := "requireFloor", desc := "(I)V" } : Jvm.MethodName)) ∈ BW := bw_t 861 (by decide +kernel) rfl
theorem bw_862 : (Jvm.Cond.code ({ cls := "LiftScheduler", name := "requireFloor", desc := "(I)V" } : Jvm.MethodName) prog_1_method_74_code (2 : Nat) (Option.none : Option Jvm.ClassFile.FieldType)) ∈ BW := bw_t 862 (by decide +kernel) rfl
theorem bw_864 : (Jvm.Cond.methodLink "LiftSchedulerLaw" (230 : Nat) ({ cls := "LiftSchedulerLaw", name := "queueAt", desc := "(LLiftScheduler;II[J)I" } : Jvm.MethodName)) ∈ BW := bw_t 864 (by decide +kernel) rfl
theorem bw_865 : (Jvm.Cond.static ({ cls := "LiftSchedulerLaw", name := "queueAt", desc := "(LLiftScheduler;II[J)I" } : Jvm.MethodName)) ∈ BW := bw_t 865 (by decide +kernel) rfl
theorem bw_866 : (Jvm.Cond.codeWith ({ cls := "LiftSchedulerLaw", name := "queueAt", desc := "(LLiftScheduler;II[J)I" } : Jvm.MethodName) method_17_code (5 : Nat) (Option.some Jvm.ClassFile.FieldType.int) [((0 : Nat), (10 : Nat), (13 : Nat), (25 : Nat))]) ∈ BW := bw_t 866 (by decide +kernel) rfl
theorem bw_867 : (Jvm.Cond.methodLink "LiftSchedulerLaw" (57 : Nat) ({ cls := "LiftScheduler", name := "queueAt", desc := "(II)I" } : Jvm.MethodName)) ∈ BW := bw_t 867 (by decide +kernel) rfl
theorem bw_868 : (Jvm.Cond.instanceMethod ({ cls := "LiftScheduler", name := "queueAt", desc := "(II)I" } : Jvm.MethodName)) ∈ BW := bw_t 868 (by decide +kernel) rfl
theorem bw_869 : (Jvm.Cond.selects "LiftScheduler" ({ cls := "LiftScheduler", name := "queueAt", desc := "(II)I" } : Jvm.MethodName) ({ cls := "LiftScheduler", name := "queueAt", desc := "(II)I" } : Jvm.MethodName)) ∈ BW := bw_t 869 (by decide +kernel) rfl
theorem bw_870 : (Jvm.Cond.code ({ cls := "LiftScheduler", name := "queueAt", desc := "(II)I" } : Jvm.MethodName) prog_1_method_34_code (6 : Nat) (Option.some Jvm.ClassFile.FieldType.int)) ∈ BW := bw_t 870 (by decide +kernel) rfl
theorem bw_871 : (Jvm.Cond.methodLink "LiftSchedulerLaw" (238 : Nat) ({ cls := "LiftSchedulerLaw", name := "ridingTo", desc := "(LLiftScheduler;I[J)I" } : Jvm.MethodName)) ∈ BW := bw_t 871 (by decide +kernel) rfl
theorem bw_872 : (Jvm.Cond.static ({ cls := "LiftSchedulerLaw", name := "ridingTo", desc := "(LLiftScheduler;I[J)I" } : Jvm.MethodName)) ∈ BW := bw_t 872 (by decide +kernel) rfl
theorem bw_873 : (Jvm.Cond.codeWith ({ cls := "LiftSchedulerLaw", name := "ridingTo", desc := "(LLiftScheduler;I[J)I" } : Jvm.MethodName) method_18_code (4 : Nat) (Option.some Jvm.ClassFile.FieldType.int) [((0 : Nat), (9 : Nat), (12 : Nat), (25 : Nat))]) ∈ BW := bw_t 873 (by decide +kernel) rfl
theorem bw_874 : (Jvm.Cond.methodLink "LiftSchedulerLaw" (61 : Nat) ({ cls := "LiftScheduler", name := "ridingTo", desc := "(I)I" } : Jvm.MethodName)) ∈ BW := bw_t 874 (by decide +kernel) rfl
theorem bw_875 : (Jvm.Cond.instanceMethod ({ cls := "LiftScheduler", name := "ridingTo", desc := "(I)I" } : Jvm.MethodName)) ∈ BW := bw_t 875 (by decide +kernel) rfl
theorem bw_876 : (Jvm.Cond.selects "LiftScheduler" ({ cls := "LiftScheduler", name := "ridingTo", desc := "(I)I" } : Jvm.MethodName) ({ cls := "LiftScheduler", name := "ridingTo", desc := "(I)I" } : Jvm.MethodName)) ∈ BW := bw_t 876 (by decide +kernel) rfl
theorem bw_877 : (Jvm.Cond.code ({ cls := "LiftScheduler", name := "ridingTo", desc := "(I)I" } : Jvm.MethodName) prog_1_method_36_code (4 : Nat) (Option.some Jvm.ClassFile.FieldType.int)) ∈ BW := bw_t 877 (by decide +kernel) rfl
theorem bw_878 : (Jvm.Cond.methodLink "LiftSchedulerLaw" (245 : Nat) ({ cls := "LiftSchedulerLaw", name := "passengersBetween", desc := "(LLiftScheduler;II[J)I" } : Jvm.MethodName)) ∈ BW := bw_t 878 (by decide +kernel) rfl
theorem bw_879 : (Jvm.Cond.static ({ cls := "LiftSchedulerLaw", name := "passengersBetween", desc := "(LLiftScheduler;II[J)I" } : Jvm.MethodName)) ∈ BW := bw_t 879 (by decide +kernel) rfl
theorem bw_880 : (Jvm.Cond.codeWith ({ cls := "LiftSchedulerLaw", name := "passengersBetween", desc := "(LLiftScheduler;II[J)I" } : Jvm.MethodName) method_19_code (5 : Nat) (Option.some Jvm.ClassFile.FieldType.int) [((0 : Nat), (10 : Nat), (13 : Nat), (25 : Nat))]) ∈ BW := bw_t 880 (by decide +kernel) rfl
theorem bw_881 : (Jvm.Cond.methodLink "LiftSchedulerLaw" (64 : Nat) ({ cls := "LiftScheduler", name := "passengersBetween", desc := "(II)I" } : Jvm.MethodName)) ∈ BW := bw_t 881 (by decide +kernel) rfl
theorem bw_882 : (Jvm.Cond.instanceMethod ({ cls := "LiftScheduler", name := "passengersBetween", desc := "(II)I" } : Jvm.MethodName)) ∈ BW := bw_t 882 (by decide +kernel) rfl
theorem bw_883 : (Jvm.Cond.selects "LiftScheduler" ({ cls := "LiftScheduler", name := "passengersBetween", desc := "(II)I" } : Jvm.MethodName) ({ cls := "LiftScheduler", name := "passengersBetween", desc := "(II)I" } : Jvm.MethodName)) ∈ BW := bw_t 883 (by decide +kernel) rfl
theorem bw_884 : (Jvm.Cond.code ({ cls := "LiftScheduler", name := "passengersBetween", desc := "(II)I" } : Jvm.MethodName) prog_1_method_38_code (5 : Nat) (Option.some Jvm.ClassFile.FieldType.int)) ∈ BW := bw_t 884 (by decide +kernel) rfl
theorem bw_885 : (Jvm.Cond.methodLink "LiftSchedulerLaw" (290 : Nat) ({ cls := "LiftSchedulerLaw", name := "ticksWithPolicy", desc := "(LLiftScheduler;I[J)I" } : Jvm.MethodName)) ∈ BW := bw_t 885 (by decide +kernel) rfl
theorem bw_886 : (Jvm.Cond.static ({ cls := "LiftSchedulerLaw", name := "ticksWithPolicy", desc := "(LLiftScheduler;I[J)I" } : Jvm.MethodName)) ∈ BW := bw_t 886 (by decide +kernel) rfl
theorem bw_887 : (Jvm.Cond.codeWith ({ cls := "LiftSchedulerLaw", name := "ticksWithPolicy", desc := "(LLiftScheduler;I[J)I" } : Jvm.MethodName) method_20_code (4 : Nat) (Option.some Jvm.ClassFile.FieldType.int) [((0 : Nat), (9 : Nat), (12 : Nat), (13 : Nat))]) ∈ BW := bw_t 887 (by decide +kernel) rfl
theorem bw_888 : (Jvm.Cond.methodLink "LiftSchedulerLaw" (67 : Nat) ({ cls := "LiftScheduler", name := "ticksWithPolicy", desc := "(I)I" } : Jvm.MethodName)) ∈ BW := bw_t 888 (by decide +kernel) rfl
theorem bw_889 : (Jvm.Cond.instanceMethod ({ cls := "LiftScheduler", name := "ticksWithPolicy", desc := "(I)I" } : Jvm.MethodName)) ∈ BW := bw_t 889 (by decide +kernel) rfl
theorem bw_890 : (Jvm.Cond.selects "LiftScheduler" ({ cls := "LiftScheduler", name := "ticksWithPolicy", desc := "(I)I" } : Jvm.MethodName) ({ cls := "LiftScheduler", name := "ticksWithPolicy", desc := "(I)I" } : Jvm.MethodName)) ∈ BW := bw_t 890 (by decide +kernel) rfl
theorem bw_891 : (Jvm.Cond.code ({ cls := "LiftScheduler", name := "ticksWithPolicy", desc := "(I)I" } : Jvm.MethodName) prog_1_method_49_code (2 : Nat) (Option.some Jvm.ClassFile.FieldType.int)) ∈ BW := bw_t 891 (by decide +kernel) rfl
theorem bw_892 : (Jvm.Cond.methodLink "LiftSchedulerLaw" (293 : Nat) ({ cls := "LiftSchedulerLaw", name := "waitWithPolicy", desc := "(LLiftScheduler;I[J)I" } : Jvm.MethodName)) ∈ BW := bw_t 892 (by decide +kernel) rfl
theorem bw_893 : (Jvm.Cond.static ({ cls := "LiftSchedulerLaw", name := "waitWithPolicy", desc := "(LLiftScheduler;I[J)I" } : Jvm.MethodName)) ∈ BW := bw_t 893 (by decide +kernel) rfl
theorem bw_894 : (Jvm.Cond.codeWith ({ cls := "LiftSchedulerLaw", name := "waitWithPolicy", desc := "(LLiftScheduler;I[J)I" } : Jvm.MethodName) method_21_code (4 : Nat) (Option.some Jvm.ClassFile.FieldType.int) [((0 : Nat), (9 : Nat), (12 : Nat), (13 : Nat))]) ∈ BW := bw_t 894 (by decide +kernel) rfl
theorem bw_895 : (Jvm.Cond.methodLink "LiftSchedulerLaw" (70 : Nat) ({ cls := "LiftScheduler", name := "waitWithPolicy", desc := "(I)I" } : Jvm.MethodName)) ∈ BW := bw_t 895 (by decide +kernel) rfl
theorem bw_896 : (Jvm.Cond.instanceMethod ({ cls := "LiftScheduler", name := "waitWithPolicy", desc := "(I)I" } : Jvm.MethodName)) ∈ BW := bw_t 896 (by decide +kernel) rfl
theorem bw_897 : (Jvm.Cond.selects "LiftScheduler" ({ cls := "LiftScheduler", name := "waitWithPolicy", desc := "(I)I" } : Jvm.MethodName) ({ cls := "LiftScheduler", name := "waitWithPolicy", desc := "(I)I" } : Jvm.MethodName)) ∈ BW := bw_t 897 (by decide +kernel) rfl
theorem bw_898 : (Jvm.Cond.code ({ cls := "LiftScheduler", name := "waitWithPolicy", desc := "(I)I" } : Jvm.MethodName) prog_1_method_50_code (2 : Nat) (Option.some Jvm.ClassFile.FieldType.int)) ∈ BW := bw_t 898 (by decide +kernel) rfl
theorem bw_899 : (Jvm.Cond.methodLink "LiftSchedulerLaw" (296 : Nat) ({ cls := "LiftSchedulerLaw", name := "longestWaitWithPolicy", desc := "(LLiftScheduler;I[J)I" } : Jvm.MethodName)) ∈ BW := bw_t 899 (by decide +kernel) rfl
theorem bw_900 : (Jvm.Cond.static ({ cls := "LiftSchedulerLaw", name := "longestWaitWithPolicy", desc := "(LLiftScheduler;I[J)I" } : Jvm.MethodName)) ∈ BW := bw_t 900 (by decide +kernel) rfl
theorem bw_901 : (Jvm.Cond.codeWith ({ cls := "LiftSchedulerLaw", name := "longestWaitWithPolicy", desc := "(LLiftScheduler;I[J)I" } : Jvm.MethodName) method_22_code (4 : Nat) (Option.some Jvm.ClassFile.FieldType.int) [((0 : Nat), (9 : Nat), (12 : Nat), (13 : Nat))]) ∈ BW := bw_t 901 (by decide +kernel) rfl
theorem bw_902 : (Jvm.Cond.methodLink "LiftSchedulerLaw" (73 : Nat) ({ cls := "LiftScheduler", name := "longestWaitWithPolicy", desc := "(I)I" } : Jvm.MethodName)) ∈ BW := bw_t 902 (by decide +kernel) rfl
theorem bw_903 : (Jvm.Cond.instanceMethod ({ cls := "LiftScheduler", name := "longestWaitWithPolicy", desc := "(I)I" } : Jvm.MethodName)) ∈ BW := bw_t 903 (by decide +kernel) rfl
theorem bw_904 : (Jvm.Cond.selects "LiftScheduler" ({ cls := "LiftScheduler", name := "longestWaitWithPolicy", desc := "(I)I" } : Jvm.MethodName) ({ cls := "LiftScheduler", name := "longestWaitWithPolicy", desc := "(I)I" } : Jvm.MethodName)) ∈ BW := bw_t 904 (by decide +kernel) rfl
theorem bw_905 : (Jvm.Cond.code ({ cls := "LiftScheduler", name := "longestWaitWithPolicy", desc := "(I)I" } : Jvm.MethodName) prog_1_method_51_code (2 : Nat) (Option.some Jvm.ClassFile.FieldType.int)) ∈ BW := bw_t 905 (by decide +kernel) rfl
theorem bw_906 : (Jvm.Cond.methodLink "LiftSchedulerLaw" (303 : Nat) ({ cls := "LiftSchedulerLaw", name := "ticksWithCapacity", desc := "(LLiftScheduler;I[J)I" } : Jvm.MethodName)) ∈ BW := bw_t 906 (by decide +kernel) rfl
theorem bw_907 : (Jvm.Cond.static ({ cls := "LiftSchedulerLaw", name := "ticksWithCapacity", desc := "(LLiftScheduler;I[J)I" } : Jvm.MethodName)) ∈ BW := bw_t 907 (by decide +kernel) rfl
theorem bw_908 : (Jvm.Cond.codeWith ({ cls := "LiftSchedulerLaw", name := "ticksWithCapacity", desc := "(LLiftScheduler;I[J)I" } : Jvm.MethodName) method_23_code (4 : Nat) (Option.some Jvm.ClassFile.FieldType.int) [((0 : Nat), (9 : Nat), (12 : Nat), (13 : Nat)), ((0 : Nat), (9 : Nat), (15 : Nat), (79 : Nat))]) ∈ BW := bw_t 908 (by decide +kernel) rfl
theorem bw_909 : (Jvm.Cond.classLink "LiftSchedulerLaw" (79 : Nat) "java/lang/IllegalStateException") ∈ BW := bw_t 909 (by decide +kernel) rfl
theorem bw_910 : (Jvm.Cond.methodLink "LiftSchedulerLaw" (76 : Nat) ({ cls := "LiftScheduler", name := "ticksWithCapacity", desc := "(I)I" } : Jvm.MethodName)) ∈ BW := bw_t 910 (by decide +kernel) rfl
theorem bw_911 : (Jvm.Cond.instanceMethod ({ cls := "LiftScheduler", name := "ticksWithCapacity", desc := "(I)I" } : Jvm.MethodName)) ∈ BW := bw_t 911 (by decide +kernel) rfl
theorem bw_912 : (Jvm.Cond.selects "LiftScheduler" ({ cls := "LiftScheduler", name := "ticksWithCapacity", desc := "(I)I" } : Jvm.MethodName) ({ cls := "LiftScheduler", name := "ticksWithCapacity", desc := "(I)I" } : Jvm.MethodName)) ∈ BW := bw_t 912 (by decide +kernel) rfl
theorem bw_913 : (Jvm.Cond.code ({ cls := "LiftScheduler", name := "ticksWithCapacity", desc := "(I)I" } : Jvm.MethodName) prog_1_method_53_code (2 : Nat) (Option.some Jvm.ClassFile.FieldType.int)) ∈ BW := bw_t 913 (by decide +kernel) rfl
theorem bw_914 : (Jvm.Cond.methodLink "LiftScheduler" (218 : Nat) ({ cls := "LiftScheduler", name := "requireCapacity", desc := "(I)V" } : Jvm.MethodName)) ∈ BW := bw_t 914 (by decide +kernel) rfl
theorem bw_916 : (Jvm.Cond.instanceMethod ({ cls := "LiftScheduler", name := "requireCapacity", desc := "(I)V" } : Jvm.MethodName)) ∈ BW := bw_t 916 (by decide +kernel) rfl
theorem bw_917 : (Jvm.Cond.code ({ cls := "LiftScheduler", name := "requireCapacity", desc := "(I)V" } : Jvm.MethodName) prog_1_method_76_code (2 : Nat) (Option.none : Option Jvm.ClassFile.FieldType)) ∈ BW := bw_t 917 (by decide +kernel) rfl
theorem bw_919 : (Jvm.Cond.classLink "LiftScheduler" (229 : Nat) "java/lang/IllegalStateException") ∈ BW := bw_t 919 (by decide +kernel) rfl
theorem bw_920 : (Jvm.Cond.instantiable "java/lang/IllegalStateException" (6 : Nat)) ∈ BW := bw_t 920 (by decide +kernel) rfl
theorem bw_922 : (Jvm.Cond.selects "java/lang/IllegalStateException" ({ cls := "java/lang/Throwable", name := "fillInStackTrace", desc := "(I)Ljava/lang/Throwable;" } : Jvm.MethodName) ({ cls := "java/lang/Throwable", name := "fillInStackTrace", desc := "(I)Ljava/lang/Throwable;" } : Jvm.MethodName)) ∈ BW := bw_t 922 (by decide +kernel) rfl
theorem bw_929 : (Jvm.Cond.methodLink "LiftScheduler" (233 : Nat) ({ cls := "java/lang/IllegalStateException", name := "<init>", desc := "(Ljava/lang/String;)V" } : Jvm.MethodName)) ∈ BW := bw_t 929 (by decide +kernel) rfl
theorem bw_930 : (Jvm.Cond.instanceMethod ({ cls := "java/lang/IllegalStateException", name := "<init>", desc := "(Ljava/lang/String;)V" } : Jvm.MethodName)) ∈ BW := bw_t 930 (by decide +kernel) rfl
theorem bw_931 : (Jvm.Cond.code ({ cls := "java/lang/IllegalStateException", name := "<init>", desc := "(Ljava/lang/String;)V" } : Jvm.MethodName) prog_11_method_2_code (2 : Nat) (Option.none : Option Jvm.ClassFile.FieldType)) ∈ BW := bw_t 931 (by decide +kernel) rfl
theorem bw_932 : (Jvm.Cond.methodLink "java/lang/IllegalStateException" (7 : Nat) ({ cls := "java/lang/RuntimeException", name := "<init>", desc := "(Ljava/lang/String;)V" } : Jvm.MethodName)) ∈ BW := bw_t 932 (by decide +kernel) rfl
theorem bw_935 : (Jvm.Cond.methodLink "LiftSchedulerLaw" (306 : Nat) ({ cls := "LiftSchedulerLaw", name := "expectedAt", desc := "(LLiftScheduler;I[J)I" } : Jvm.MethodName)) ∈ BW := bw_t 935 (by decide +kernel) rfl
theorem bw_936 : (Jvm.Cond.static ({ cls := "LiftSchedulerLaw", name := "expectedAt", desc := "(LLiftScheduler;I[J)I" } : Jvm.MethodName)) ∈ BW := bw_t 936 (by decide +kernel) rfl
theorem bw_937 : (Jvm.Cond.codeWith ({ cls := "LiftSchedulerLaw", name := "expectedAt", desc := "(LLiftScheduler;I[J)I" } : Jvm.MethodName) method_24_code (4 : Nat) (Option.some Jvm.ClassFile.FieldType.int) [((0 : Nat), (9 : Nat), (12 : Nat), (25 : Nat))]) ∈ BW := bw_t 937 (by decide +kernel) rfl
theorem bw_938 : (Jvm.Cond.methodLink "LiftSchedulerLaw" (81 : Nat) ({ cls := "LiftScheduler", name := "expectedAt", desc := "(I)I" } : Jvm.MethodName)) ∈ BW := bw_t 938 (by decide +kernel) rfl
theorem bw_939 : (Jvm.Cond.instanceMethod ({ cls := "LiftScheduler", name := "expectedAt", desc := "(I)I" } : Jvm.MethodName)) ∈ BW := bw_t 939 (by decide +kernel) rfl
theorem bw_940 : (Jvm.Cond.selects "LiftScheduler" ({ cls := "LiftScheduler", name := "expectedAt", desc := "(I)I" } : Jvm.MethodName) ({ cls := "LiftScheduler", name := "expectedAt", desc := "(I)I" } : Jvm.MethodName)) ∈ BW := bw_t 940 (by decide +kernel) rfl
theorem bw_941 : (Jvm.Cond.code ({ cls := "LiftScheduler", name := "expectedAt", desc := "(I)I" } : Jvm.MethodName) prog_1_method_54_code (2 : Nat) (Option.some Jvm.ClassFile.FieldType.int)) ∈ BW := bw_t 941 (by decide +kernel) rfl
theorem bw_942 : (Jvm.Cond.methodLink "LiftSchedulerLaw" (309 : Nat) ({ cls := "LiftSchedulerLaw", name := "addPassenger", desc := "(LLiftScheduler;III[J)I" } : Jvm.MethodName)) ∈ BW := bw_t 942 (by decide +kernel) rfl
theorem bw_943 : (Jvm.Cond.static ({ cls := "LiftSchedulerLaw", name := "addPassenger", desc := "(LLiftScheduler;III[J)I" } : Jvm.MethodName)) ∈ BW := bw_t 943 (by decide +kernel) rfl
theorem bw_944 : (Jvm.Cond.codeWith ({ cls := "LiftSchedulerLaw", name := "addPassenger", desc := "(LLiftScheduler;III[J)I" } : Jvm.MethodName) method_25_code (6 : Nat) (Option.some Jvm.ClassFile.FieldType.int) [((0 : Nat), (12 : Nat), (15 : Nat), (25 : Nat)), ((0 : Nat), (12 : Nat), (19 : Nat), (13 : Nat)), ((0 : Nat), (12 : Nat), (23 : Nat), (79 : Nat))]) ∈ BW := bw_t 944 (by decide +kernel) rfl
theorem bw_945 : (Jvm.Cond.methodLink "LiftSchedulerLaw" (84 : Nat) ({ cls := "LiftScheduler", name := "addPassenger", desc := "(III)I" } : Jvm.MethodName)) ∈ BW := bw_t 945 (by decide +kernel) rfl
theorem bw_946 : (Jvm.Cond.instanceMethod ({ cls := "LiftScheduler", name := "addPassenger", desc := "(III)I" } : Jvm.MethodName)) ∈ BW := bw_t 946 (by decide +kernel) rfl
theorem bw_947 : (Jvm.Cond.selects "LiftScheduler" ({ cls := "LiftScheduler", name := "addPassenger", desc := "(III)I" } : Jvm.MethodName) ({ cls := "LiftScheduler", name := "addPassenger", desc := "(III)I" } : Jvm.MethodName)) ∈ BW := bw_t 947 (by decide +kernel) rfl
theorem bw_948 : (Jvm.Cond.code ({ cls := "LiftScheduler", name := "addPassenger", desc := "(III)I" } : Jvm.MethodName) prog_1_method_57_code (4 : Nat) (Option.some Jvm.ClassFile.FieldType.int)) ∈ BW := bw_t 948 (by decide +kernel) rfl
theorem bw_952 : (Jvm.Cond.methodLink "LiftScheduler" (234 : Nat) ({ cls := "LiftScheduler$Simulation", name := "addArrival", desc := "(III)V" } : Jvm.MethodName)) ∈ BW := bw_t 952 (by decide +kernel) rfl
theorem bw_953 : (Jvm.Cond.methodLink "LiftSchedulerLaw" (313 : Nat) ({ cls := "LiftSchedulerLaw", name := "run", desc := "(LLiftScheduler;I[J)I" } : Jvm.MethodName)) ∈ BW := bw_t 953 (by decide +kernel) rfl
theorem bw_954 : (Jvm.Cond.static ({ cls := "LiftSchedulerLaw", name := "run", desc := "(LLiftScheduler;I[J)I" } : Jvm.MethodName)) ∈ BW := bw_t 954 (by decide +kernel) rfl
theorem bw_955 : (Jvm.Cond.codeWith ({ cls := "LiftSchedulerLaw", name := "run", desc := "(LLiftScheduler;I[J)I" } : Jvm.MethodName) method_26_code (4 : Nat) (Option.some Jvm.ClassFile.FieldType.int) [((0 : Nat), (9 : Nat), (12 : Nat), (13 : Nat)), ((0 : Nat), (9 : Nat), (15 : Nat), (79 : Nat))]) ∈ BW := bw_t 955 (by decide +kernel) rfl
theorem bw_956 : (Jvm.Cond.methodLink "LiftSchedulerLaw" (88 : Nat) ({ cls := "LiftScheduler", name := "run", desc := "(I)I" } : Jvm.MethodName)) ∈ BW := bw_t 956 (by decide +kernel) rfl
theorem bw_957 : (Jvm.Cond.instanceMethod ({ cls := "LiftScheduler", name := "run", desc := "(I)I" } : Jvm.MethodName)) ∈ BW := bw_t 957 (by decide +kernel) rfl
theorem bw_958 : (Jvm.Cond.selects "LiftScheduler" ({ cls := "LiftScheduler", name := "run", desc := "(I)I" } : Jvm.MethodName) ({ cls := "LiftScheduler", name := "run", desc := "(I)I" } : Jvm.MethodName)) ∈ BW := bw_t 958 (by decide +kernel) rfl
theorem bw_959 : (Jvm.Cond.code ({ cls := "LiftScheduler", name := "run", desc := "(I)I" } : Jvm.MethodName) prog_1_method_58_code (3 : Nat) (Option.some Jvm.ClassFile.FieldType.int)) ∈ BW := bw_t 959 (by decide +kernel) rfl
theorem bw_962 : (Jvm.Cond.methodLink "LiftScheduler" (242 : Nat) ({ cls := "LiftScheduler$Simulation", name := "tick", desc := "()V" } : Jvm.MethodName)) ∈ BW := bw_t 962 (by decide +kernel) rfl
theorem bw_963 : (Jvm.Cond.methodLink "LiftSchedulerLaw" (320 : Nat) ({ cls := "LiftSchedulerLaw", name := "setPolicy", desc := "(LLiftScheduler;I[J)I" } : Jvm.MethodName)) ∈ BW := bw_t 963 (by decide +kernel) rfl
theorem bw_964 : (Jvm.Cond.static ({ cls := "LiftSchedulerLaw", name := "setPolicy", desc := "(LLiftScheduler;I[J)I" } : Jvm.MethodName)) ∈ BW := bw_t 964 (by decide +kernel) rfl
theorem bw_965 : (Jvm.Cond.codeWith ({ cls := "LiftSchedulerLaw", name := "setPolicy", desc := "(LLiftScheduler;I[J)I" } : Jvm.MethodName) method_27_code (4 : Nat) (Option.some Jvm.ClassFile.FieldType.int) [((0 : Nat), (9 : Nat), (12 : Nat), (13 : Nat))]) ∈ BW := bw_t 965 (by decide +kernel) rfl
theorem bw_966 : (Jvm.Cond.methodLink "LiftSchedulerLaw" (91 : Nat) ({ cls := "LiftScheduler", name := "setPolicy", desc := "(I)I" } : Jvm.MethodName)) ∈ BW := bw_t 966 (by decide +kernel) rfl
theorem bw_967 : (Jvm.Cond.instanceMethod ({ cls := "LiftScheduler", name := "setPolicy", desc := "(I)I" } : Jvm.MethodName)) ∈ BW := bw_t 967 (by decide +kernel) rfl
theorem bw_968 : (Jvm.Cond.selects "LiftScheduler" ({ cls := "LiftScheduler", name := "setPolicy", desc := "(I)I" } : Jvm.MethodName) ({ cls := "LiftScheduler", name := "setPolicy", desc := "(I)I" } : Jvm.MethodName)) ∈ BW := bw_t 968 (by decide +kernel) rfl
theorem bw_969 : (Jvm.Cond.code ({ cls := "LiftScheduler", name := "setPolicy", desc := "(I)I" } : Jvm.MethodName) prog_1_method_60_code (3 : Nat) (Option.some Jvm.ClassFile.FieldType.int)) ∈ BW := bw_t 969 (by decide +kernel) rfl
theorem bw_970 : (Jvm.Cond.methodLink "LiftSchedulerLaw" (323 : Nat) ({ cls := "LiftSchedulerLaw", name := "setCapacity", desc := "(LLiftScheduler;I[J)I" } : Jvm.MethodName)) ∈ BW := bw_t 970 (by decide +kernel) rfl
theorem bw_971 : (Jvm.Cond.static ({ cls := "LiftSchedulerLaw", name := "setCapacity", desc := "(LLiftScheduler;I[J)I" } : Jvm.MethodName)) ∈ BW := bw_t 971 (by decide +kernel) rfl
theorem bw_972 : (Jvm.Cond.codeWith ({ cls := "LiftSchedulerLaw", name := "setCapacity", desc := "(LLiftScheduler;I[J)I" } : Jvm.MethodName) method_28_code (4 : Nat) (Option.some Jvm.ClassFile.FieldType.int) [((0 : Nat), (9 : Nat), (12 : Nat), (13 : Nat)), ((0 : Nat), (9 : Nat), (15 : Nat), (79 : Nat))]) ∈ BW := bw_t 972 (by decide +kernel) rfl
theorem bw_973 : (Jvm.Cond.methodLink "LiftSchedulerLaw" (94 : Nat) ({ cls := "LiftScheduler", name := "setCapacity", desc := "(I)I" } : Jvm.MethodName)) ∈ BW := bw_t 973 (by decide +kernel) rfl
theorem bw_974 : (Jvm.Cond.instanceMethod ({ cls := "LiftScheduler", name := "setCapacity", desc := "(I)I" } : Jvm.MethodName)) ∈ BW := bw_t 974 (by decide +kernel) rfl
theorem bw_975 : (Jvm.Cond.selects "LiftScheduler" ({ cls := "LiftScheduler", name := "setCapacity", desc := "(I)I" } : Jvm.MethodName) ({ cls := "LiftScheduler", name := "setCapacity", desc := "(I)I" } : Jvm.MethodName)) ∈ BW := bw_t 975 (by decide +kernel) rfl
theorem bw_976 : (Jvm.Cond.code ({ cls := "LiftScheduler", name := "setCapacity", desc := "(I)I" } : Jvm.MethodName) prog_1_method_61_code (3 : Nat) (Option.some Jvm.ClassFile.FieldType.int)) ∈ BW := bw_t 976 (by decide +kernel) rfl
theorem bw_977 : (Jvm.Cond.methodLink "LiftSchedulerLaw" (326 : Nat) ({ cls := "LiftSchedulerLaw", name := "undo", desc := "(LLiftScheduler;[J)I" } : Jvm.MethodName)) ∈ BW := bw_t 977 (by decide +kernel) rfl
theorem bw_978 : (Jvm.Cond.static ({ cls := "LiftSchedulerLaw", name := "undo", desc := "(LLiftScheduler;[J)I" } : Jvm.MethodName)) ∈ BW := bw_t 978 (by decide +kernel) rfl
theorem bw_979 : (Jvm.Cond.codeWith ({ cls := "LiftSchedulerLaw", name := "undo", desc := "(LLiftScheduler;[J)I" } : Jvm.MethodName) method_29_code (3 : Nat) (Option.some Jvm.ClassFile.FieldType.int) [((0 : Nat), (8 : Nat), (11 : Nat), (79 : Nat))]) ∈ BW := bw_t 979 (by decide +kernel) rfl
theorem bw_980 : (Jvm.Cond.methodLink "LiftSchedulerLaw" (97 : Nat) ({ cls := "LiftScheduler", name := "undo", desc := "()I" } : Jvm.MethodName)) ∈ BW := bw_t 980 (by decide +kernel) rfl
theorem bw_981 : (Jvm.Cond.instanceMethod ({ cls := "LiftScheduler", name := "undo", desc := "()I" } : Jvm.MethodName)) ∈ BW := bw_t 981 (by decide +kernel) rfl
theorem bw_982 : (Jvm.Cond.selects "LiftScheduler" ({ cls := "LiftScheduler", name := "undo", desc := "()I" } : Jvm.MethodName) ({ cls := "LiftScheduler", name := "undo", desc := "()I" } : Jvm.MethodName)) ∈ BW := bw_t 982 (by decide +kernel) rfl
theorem bw_983 : (Jvm.Cond.code ({ cls := "LiftScheduler", name := "undo", desc := "()I" } : Jvm.MethodName) prog_1_method_62_code (1 : Nat) (Option.some Jvm.ClassFile.FieldType.int)) ∈ BW := bw_t 983 (by decide +kernel) rfl
theorem bw_985 : (Jvm.Cond.methodLink "LiftSchedulerLaw" (333 : Nat) ({ cls := "LiftSchedulerLaw", name := "save", desc := "(LLiftScheduler;I[J)I" } : Jvm.MethodName)) ∈ BW := bw_t 985 (by decide +kernel) rfl
theorem bw_986 : (Jvm.Cond.static ({ cls := "LiftSchedulerLaw", name := "save", desc := "(LLiftScheduler;I[J)I" } : Jvm.MethodName)) ∈ BW := bw_t 986 (by decide +kernel) rfl
theorem bw_987 : (Jvm.Cond.codeWith ({ cls := "LiftSchedulerLaw", name := "save", desc := "(LLiftScheduler;I[J)I" } : Jvm.MethodName) method_30_code (4 : Nat) (Option.some Jvm.ClassFile.FieldType.int) [((0 : Nat), (16 : Nat), (19 : Nat), (25 : Nat))]) ∈ BW := bw_t 987 (by decide +kernel) rfl
theorem bw_988 : (Jvm.Cond.methodLink "LiftSchedulerLaw" (100 : Nat) ({ cls := "LiftScheduler", name := "save", desc := "(I)Z" } : Jvm.MethodName)) ∈ BW := bw_t 988 (by decide +kernel) rfl
theorem bw_989 : (Jvm.Cond.instanceMethod ({ cls := "LiftScheduler", name := "save", desc := "(I)Z" } : Jvm.MethodName)) ∈ BW := bw_t 989 (by decide +kernel) rfl
theorem bw_990 : (Jvm.Cond.selects "LiftScheduler" ({ cls := "LiftScheduler", name := "save", desc := "(I)Z" } : Jvm.MethodName) ({ cls := "LiftScheduler", name := "save", desc := "(I)Z" } : Jvm.MethodName)) ∈ BW := bw_t 990 (by decide +kernel) rfl
theorem bw_991 : (Jvm.Cond.code ({ cls := "LiftScheduler", name := "save", desc := "(I)Z" } : Jvm.MethodName) prog_1_method_65_code (3 : Nat) (Option.some Jvm.ClassFile.FieldType.boolean)) ∈ BW := bw_t 991 (by decide +kernel) rfl
theorem bw_992 : (Jvm.Cond.methodLink "LiftScheduler" (250 : Nat) ({ cls := "LiftScheduler", name := "requireSlot", desc := "(I)V" } : Jvm.MethodName)) ∈ BW := bw_t 992 (by decide +kernel) rfl
theorem bw_994 : (Jvm.Cond.instanceMethod ({ cls := "LiftScheduler", name := "requireSlot", desc := "(I)V" } : Jvm.MethodName)) ∈ BW := bw_t 994 (by decide +kernel) rfl
theorem bw_995 : (Jvm.Cond.code ({ cls := "LiftScheduler", name := "requireSlot", desc := "(I)V" } : Jvm.MethodName) prog_1_method_77_code (2 : Nat) (Option.none : Option Jvm.ClassFile.FieldType)) ∈ BW := bw_t 995 (by decide +kernel) rfl
theorem bw_997 : (Jvm.Cond.methodLink "LiftSchedulerLaw" (336 : Nat) ({ cls := "LiftSchedulerLaw", name := "restore", desc := "(LLiftScheduler;I[J)I" } : Jvm.MethodName)) ∈ BW := bw_t 997 (by decide +kernel) rfl
theorem bw_998 : (Jvm.Cond.static ({ cls := "LiftSchedulerLaw", name := "restore", desc := "(LLiftScheduler;I[J)I" } : Jvm.MethodName)) ∈ BW := bw_t 998 (by decide +kernel) rfl
theorem bw_999 : (Jvm.Cond.codeWith ({ cls := "LiftSchedulerLaw", name := "restore", desc := "(LLiftScheduler;I[J)I" } : Jvm.MethodName) method_31_code (4 : Nat) (Option.some Jvm.ClassFile.FieldType.int) [((0 : Nat), (9 : Nat), (12 : Nat), (25 : Nat)), ((0 : Nat), (9 : Nat), (15 : Nat), (79 : Nat))]) ∈ BW := bw_t 999 (by decide +kernel) rfl
theorem bw_1000 : (Jvm.Cond.methodLink "LiftSchedulerLaw" (104 : Nat) ({ cls := "LiftScheduler", name := "restore", desc := "(I)I" } : Jvm.MethodName)) ∈ BW := bw_t 1000 (by decide +kernel) rfl
theorem bw_1001 : (Jvm.Cond.instanceMethod ({ cls := "LiftScheduler", name := "restore", desc := "(I)I" } : Jvm.MethodName)) ∈ BW := bw_t 1001 (by decide +kernel) rfl
theorem bw_1002 : (Jvm.Cond.selects "LiftScheduler" ({ cls := "LiftScheduler", name := "restore", desc := "(I)I" } : Jvm.MethodName) ({ cls := "LiftScheduler", name := "restore", desc := "(I)I" } : Jvm.MethodName)) ∈ BW := bw_t 1002 (by decide +kernel) rfl
theorem bw_1003 : (Jvm.Cond.code ({ cls := "LiftScheduler", name := "restore", desc := "(I)I" } : Jvm.MethodName) prog_1_method_66_code (2 : Nat) (Option.some Jvm.ClassFile.FieldType.int)) ∈ BW := bw_t 1003 (by decide +kernel) rfl
theorem bw_1005 : (Jvm.Cond.classLink "LiftSchedulerLaw" (108 : Nat) "LiftSchedulerModel") ∈ BW := bw_t 1005 (by decide +kernel) rfl
theorem bw_1006 : (Jvm.Cond.instantiable "LiftSchedulerModel" (16 : Nat)) ∈ BW := bw_t 1006 (by decide +kernel) rfl
theorem bw_1007 : (Jvm.Cond.methodLink "LiftSchedulerLaw" (110 : Nat) ({ cls := "LiftSchedulerModel", name := "<init>", desc := "()V" } : Jvm.MethodName)) ∈ BW := bw_t 1007 (by decide +kernel) rfl
theorem bw_1008 : (Jvm.Cond.instanceMethod ({ cls := "LiftSchedulerModel", name := "<init>", desc := "()V" } : Jvm.MethodName)) ∈ BW := bw_t 1008 (by decide +kernel) rfl
theorem bw_1009 : (Jvm.Cond.code ({ cls := "LiftSchedulerModel", name := "<init>", desc := "()V" } : Jvm.MethodName) prog_7_method_1_code (1 : Nat) (Option.none : Option Jvm.ClassFile.FieldType)) ∈ BW := bw_t 1009 (by decide +kernel) rfl
theorem bw_1010 : (Jvm.Cond.methodLink "LiftSchedulerModel" (1 : Nat) ({ cls := "java/lang/Object", name := "<init>", desc := "()V" } : Jvm.MethodName)) ∈ BW := bw_t 1010 (by decide +kernel) rfl
theorem bw_1011 : (Jvm.Cond.fieldLink "LiftSchedulerModel" (27 : Nat) "LiftSchedulerModel" "thrown" "I") ∈ BW := bw_t 1011 (by decide +kernel) rfl
theorem bw_1012 : (Jvm.Cond.fieldLink "LiftSchedulerModel" (7 : Nat) "LiftSchedulerModel" "s" "[I") ∈ BW := bw_t 1012 (by decide +kernel) rfl
theorem bw_1013 : (Jvm.Cond.fieldLink "LiftSchedulerModel" (13 : Nat) "LiftSchedulerModel" "kept" "[I") ∈ BW := bw_t 1013 (by decide +kernel) rfl
theorem bw_1014 : (Jvm.Cond.fieldLink "LiftSchedulerModel" (111 : Nat) "LiftSchedulerModel" "recorded" "I") ∈ BW := bw_t 1014 (by decide +kernel) rfl
theorem bw_1015 : (Jvm.Cond.fieldLink "LiftSchedulerModel" (260 : Nat) "LiftSchedulerModel" "usedA" "Z") ∈ BW := bw_t 1015 (by decide +kernel) rfl
theorem bw_1016 : (Jvm.Cond.fieldLink "LiftSchedulerModel" (264 : Nat) "LiftSchedulerModel" "usedB" "Z") ∈ BW := bw_t 1016 (by decide +kernel) rfl
theorem bw_1017 : (Jvm.Cond.fieldLink "LiftSchedulerModel" (16 : Nat) "LiftSchedulerModel" "buffer" "[B") ∈ BW := bw_t 1017 (by decide +kernel) rfl
theorem bw_1018 : (Jvm.Cond.fieldLink "LiftSchedulerModel" (117 : Nat) "LiftSchedulerModel" "buffered" "I") ∈ BW := bw_t 1018 (by decide +kernel) rfl
theorem bw_1019 : (Jvm.Cond.fieldLink "LiftSchedulerModel" (120 : Nat) "LiftSchedulerModel" "end" "I") ∈ BW := bw_t 1019 (by decide +kernel) rfl
theorem bw_1020 : (Jvm.Cond.fieldLink "LiftSchedulerModel" (123 : Nat) "LiftSchedulerModel" "here" "I") ∈ BW := bw_t 1020 (by decide +kernel) rfl
theorem bw_1021 : (Jvm.Cond.fieldLink "LiftSchedulerModel" (20 : Nat) "LiftSchedulerModel" "errorPosition" "I") ∈ BW := bw_t 1021 (by decide +kernel) rfl
theorem bw_1022 : (Jvm.Cond.fieldLink "LiftSchedulerModel" (129 : Nat) "LiftSchedulerModel" "error" "I") ∈ BW := bw_t 1022 (by decide +kernel) rfl
theorem bw_1023 : (Jvm.Cond.fieldLink "LiftSchedulerModel" (151 : Nat) "LiftSchedulerModel" "begin" "I") ∈ BW := bw_t 1023 (by decide +kernel) rfl
theorem bw_1024 : (Jvm.Cond.fieldLink "LiftSchedulerModel" (209 : Nat) "LiftSchedulerModel" "executed" "I") ∈ BW := bw_t 1024 (by decide +kernel) rfl
theorem bw_1025 : (Jvm.Cond.fieldLink "LiftSchedulerModel" (24 : Nat) "LiftSchedulerModel" "output" "[B") ∈ BW := bw_t 1025 (by decide +kernel) rfl
theorem bw_1026 : (Jvm.Cond.fieldLink "LiftSchedulerModel" (315 : Nat) "LiftSchedulerModel" "written" "I") ∈ BW := bw_t 1026 (by decide +kernel) rfl
theorem bw_1060 : (Jvm.Cond.methodLink "LiftSchedulerLaw" (126 : Nat) ({ cls := "LiftSchedulerModel", name := "thrown", desc := "()I" } : Jvm.MethodName)) ∈ BW := bw_t 1060 (by decide +kernel) rfl
theorem bw_1061 : (Jvm.Cond.instanceMethod ({ cls := "LiftSchedulerModel", name := "thrown", desc := "()I" } : Jvm.MethodName)) ∈ BW := bw_t 1061 (by decide +kernel) rfl
theorem bw_1062 : (Jvm.Cond.selects "LiftSchedulerModel" ({ cls := "LiftSchedulerModel", name := "thrown", desc := "()I" } : Jvm.MethodName) ({ cls := "LiftSchedulerModel", name := "thrown", desc := "()I" } : Jvm.MethodName)) ∈ BW := bw_t 1062 (by decide +kernel) rfl
theorem bw_1063 : (Jvm.Cond.code ({ cls := "LiftSchedulerModel", name := "thrown", desc := "()I" } : Jvm.MethodName) prog_7_method_2_code (1 : Nat) (Option.some Jvm.ClassFile.FieldType.int)) ∈ BW := bw_t 1063 (by decide +kernel) rfl
theorem bw_1064 : (Jvm.Cond.methodLink "LiftSchedulerLaw" (115 : Nat) ({ cls := "LiftSchedulerModel", name := "append", desc := "(IIIII)I" } : Jvm.MethodName)) ∈ BW := bw_t 1064 (by decide +kernel) rfl
theorem bw_1065 : (Jvm.Cond.instanceMethod ({ cls := "LiftSchedulerModel", name := "append", desc := "(IIIII)I" } : Jvm.MethodName)) ∈ BW := bw_t 1065 (by decide +kernel) rfl
theorem bw_1066 : (Jvm.Cond.selects "LiftSchedulerModel" ({ cls := "LiftSchedulerModel", name := "append", desc := "(IIIII)I" } : Jvm.MethodName) ({ cls := "LiftSchedulerModel", name := "append", desc := "(IIIII)I" } : Jvm.MethodName)) ∈ BW := bw_t 1066 (by decide +kernel) rfl
theorem bw_1067 : (Jvm.Cond.code ({ cls := "LiftSchedulerModel", name := "append", desc := "(IIIII)I" } : Jvm.MethodName) prog_7_method_33_code (8 : Nat) (Option.some Jvm.ClassFile.FieldType.int)) ∈ BW := bw_t 1067 (by decide +kernel) rfl
theorem bw_1068 : (Jvm.Cond.methodLink "LiftSchedulerLaw" (119 : Nat) ({ cls := "LiftSchedulerModel", name := "truncate", desc := "(I)Z" } : Jvm.MethodName)) ∈ BW := bw_t 1068 (by decide +kernel) rfl
theorem bw_1069 : (Jvm.Cond.instanceMethod ({ cls := "LiftSchedulerModel", name := "truncate", desc := "(I)Z" } : Jvm.MethodName)) ∈ BW := bw_t 1069 (by decide +kernel) rfl
theorem bw_1070 : (Jvm.Cond.selects "LiftSchedulerModel" ({ cls := "LiftSchedulerModel", name := "truncate", desc := "(I)Z" } : Jvm.MethodName) ({ cls := "LiftSchedulerModel", name := "truncate", desc := "(I)Z" } : Jvm.MethodName)) ∈ BW := bw_t 1070 (by decide +kernel) rfl
theorem bw_1071 : (Jvm.Cond.code ({ cls := "LiftSchedulerModel", name := "truncate", desc := "(I)Z" } : Jvm.MethodName) prog_7_method_34_code (2 : Nat) (Option.some Jvm.ClassFile.FieldType.boolean)) ∈ BW := bw_t 1071 (by decide +kernel) rfl
theorem bw_1072 : (Jvm.Cond.methodLink "LiftSchedulerLaw" (125 : Nat) ({ cls := "LiftSchedulerModel", name := "load", desc := "()I" } : Jvm.MethodName)) ∈ BW := bw_t 1072 (by decide +kernel) rfl
theorem bw_1073 : (Jvm.Cond.instanceMethod ({ cls := "LiftSchedulerModel", name := "load", desc := "()I" } : Jvm.MethodName)) ∈ BW := bw_t 1073 (by decide +kernel) rfl
theorem bw_1074 : (Jvm.Cond.selects "LiftSchedulerModel" ({ cls := "LiftSchedulerModel", name := "load", desc := "()I" } : Jvm.MethodName) ({ cls := "LiftSchedulerModel", name := "load", desc := "()I" } : Jvm.MethodName)) ∈ BW := bw_t 1074 (by decide +kernel) rfl
theorem bw_1075 : (Jvm.Cond.code ({ cls := "LiftSchedulerModel", name := "load", desc := "()I" } : Jvm.MethodName) prog_7_method_58_code (2 : Nat) (Option.some Jvm.ClassFile.FieldType.int)) ∈ BW := bw_t 1075 (by decide +kernel) rfl
theorem bw_1076 : (Jvm.Cond.methodLink "LiftSchedulerModel" (252 : Nat) ({ cls := "LiftSchedulerModel", name := "begins", desc := "()V" } : Jvm.MethodName)) ∈ BW := bw_t 1076 (by decide +kernel) rfl
theorem bw_1078 : (Jvm.Cond.instanceMethod ({ cls := "LiftSchedulerModel", name := "begins", desc := "()V" } : Jvm.MethodName)) ∈ BW := bw_t 1078 (by decide +kernel) rfl
theorem bw_1079 : (Jvm.Cond.code ({ cls := "LiftSchedulerModel", name := "begins", desc := "()V" } : Jvm.MethodName) prog_7_method_39_code (1 : Nat) (Option.none : Option Jvm.ClassFile.FieldType)) ∈ BW := bw_t 1079 (by decide +kernel) rfl
theorem bw_1080 : (Jvm.Cond.methodLink "LiftSchedulerModel" (114 : Nat) ({ cls := "LiftSchedulerModel", name := "keeps", desc := "(I)V" } : Jvm.MethodName)) ∈ BW := bw_t 1080 (by decide +kernel) rfl
theorem bw_1082 : (Jvm.Cond.instanceMethod ({ cls := "LiftSchedulerModel", name := "keeps", desc := "(I)V" } : Jvm.MethodName)) ∈ BW := bw_t 1082 (by decide +kernel) rfl
theorem bw_1083 : (Jvm.Cond.code ({ cls := "LiftSchedulerModel", name := "keeps", desc := "(I)V" } : Jvm.MethodName) prog_7_method_30_code (3 : Nat) (Option.none : Option Jvm.ClassFile.FieldType)) ∈ BW := bw_t 1083 (by decide +kernel) rfl
theorem bw_1085 : (Jvm.Cond.methodLink "LiftSchedulerModel" (155 : Nat) ({ cls := "LiftSchedulerModel", name := "accepts", desc := "(Ljava/lang/String;)Z" } : Jvm.MethodName)) ∈ BW := bw_t 1085 (by decide +kernel) rfl
theorem bw_1087 : (Jvm.Cond.instanceMethod ({ cls := "LiftSchedulerModel", name := "accepts", desc := "(Ljava/lang/String;)Z" } : Jvm.MethodName)) ∈ BW := bw_t 1087 (by decide +kernel) rfl
theorem bw_1088 : (Jvm.Cond.code ({ cls := "LiftSchedulerModel", name := "accepts", desc := "(Ljava/lang/String;)Z" } : Jvm.MethodName) prog_7_method_40_code (6 : Nat) (Option.some Jvm.ClassFile.FieldType.boolean)) ∈ BW := bw_t 1088 (by decide +kernel) rfl
theorem bw_1089 : (Jvm.Cond.methodLink "LiftSchedulerModel" (132 : Nat) ({ cls := "LiftSchedulerModel", name := "peek", desc := "()I" } : Jvm.MethodName)) ∈ BW := bw_t 1089 (by decide +kernel) rfl
theorem bw_1091 : (Jvm.Cond.instanceMethod ({ cls := "LiftSchedulerModel", name := "peek", desc := "()I" } : Jvm.MethodName)) ∈ BW := bw_t 1091 (by decide +kernel) rfl
theorem bw_1092 : (Jvm.Cond.code ({ cls := "LiftSchedulerModel", name := "peek", desc := "()I" } : Jvm.MethodName) prog_7_method_36_code (1 : Nat) (Option.some Jvm.ClassFile.FieldType.int)) ∈ BW := bw_t 1092 (by decide +kernel) rfl
theorem bw_1093 : (Jvm.Cond.methodLink "LiftSchedulerModel" (126 : Nat) ({ cls := "LiftSchedulerModel", name := "byteAt", desc := "(I)I" } : Jvm.MethodName)) ∈ BW := bw_t 1093 (by decide +kernel) rfl
theorem bw_1095 : (Jvm.Cond.instanceMethod ({ cls := "LiftSchedulerModel", name := "byteAt", desc := "(I)I" } : Jvm.MethodName)) ∈ BW := bw_t 1095 (by decide +kernel) rfl
theorem bw_1096 : (Jvm.Cond.code ({ cls := "LiftSchedulerModel", name := "byteAt", desc := "(I)I" } : Jvm.MethodName) prog_7_method_35_code (2 : Nat) (Option.some Jvm.ClassFile.FieldType.int)) ∈ BW := bw_t 1096 (by decide +kernel) rfl
theorem bw_1097 : (Jvm.Cond.methodLink "LiftSchedulerModel" (63 : Nat) ({ cls := "LiftSchedulerModel", name := "inRange", desc := "(III)Z" } : Jvm.MethodName)) ∈ BW := bw_t 1097 (by decide +kernel) rfl
theorem bw_1098 : (Jvm.Cond.static ({ cls := "LiftSchedulerModel", name := "inRange", desc := "(III)Z" } : Jvm.MethodName)) ∈ BW := bw_t 1098 (by decide +kernel) rfl
theorem bw_1099 : (Jvm.Cond.code ({ cls := "LiftSchedulerModel", name := "inRange", desc := "(III)Z" } : Jvm.MethodName) prog_7_method_3_code (3 : Nat) (Option.some Jvm.ClassFile.FieldType.boolean)) ∈ BW := bw_t 1099 (by decide +kernel) rfl
theorem bw_1100 : (Jvm.Cond.methodLink "LiftSchedulerModel" (135 : Nat) ({ cls := "LiftSchedulerModel", name := "failed", desc := "()Z" } : Jvm.MethodName)) ∈ BW := bw_t 1100 (by decide +kernel) rfl
theorem bw_1102 : (Jvm.Cond.instanceMethod ({ cls := "LiftSchedulerModel", name := "failed", desc := "()Z" } : Jvm.MethodName)) ∈ BW := bw_t 1102 (by decide +kernel) rfl
theorem bw_1103 : (Jvm.Cond.code ({ cls := "LiftSchedulerModel", name := "failed", desc := "()Z" } : Jvm.MethodName) prog_7_method_37_code (1 : Nat) (Option.some Jvm.ClassFile.FieldType.boolean)) ∈ BW := bw_t 1103 (by decide +kernel) rfl
theorem bw_1104 : (Jvm.Cond.methodLink "LiftSchedulerModel" (138 : Nat) ({ cls := "java/lang/String", name := "length", desc := "()I" } : Jvm.MethodName)) ∈ BW := bw_t 1104 (by decide +kernel) rfl
theorem bw_1105 : (Jvm.Cond.methodLink "LiftSchedulerModel" (143 : Nat) ({ cls := "java/lang/String", name := "charAt", desc := "(I)C" } : Jvm.MethodName)) ∈ BW := bw_t 1105 (by decide +kernel) rfl
theorem bw_1106 : (Jvm.Cond.methodLink "LiftSchedulerModel" (147 : Nat) ({ cls := "LiftSchedulerModel", name := "fail", desc := "(II)V" } : Jvm.MethodName)) ∈ BW := bw_t 1106 (by decide +kernel) rfl
theorem bw_1108 : (Jvm.Cond.instanceMethod ({ cls := "LiftSchedulerModel", name := "fail", desc := "(II)V" } : Jvm.MethodName)) ∈ BW := bw_t 1108 (by decide +kernel) rfl
theorem bw_1109 : (Jvm.Cond.code ({ cls := "LiftSchedulerModel", name := "fail", desc := "(II)V" } : Jvm.MethodName) prog_7_method_38_code (3 : Nat) (Option.none : Option Jvm.ClassFile.FieldType)) ∈ BW := bw_t 1109 (by decide +kernel) rfl
theorem bw_1110 : (Jvm.Cond.methodLink "LiftSchedulerModel" (162 : Nat) ({ cls := "LiftSchedulerModel", name := "number", desc := "(II)I" } : Jvm.MethodName)) ∈ BW := bw_t 1110 (by decide +kernel) rfl
theorem bw_1112 : (Jvm.Cond.instanceMethod ({ cls := "LiftSchedulerModel", name := "number", desc := "(II)I" } : Jvm.MethodName)) ∈ BW := bw_t 1112 (by decide +kernel) rfl
theorem bw_1113 : (Jvm.Cond.code ({ cls := "LiftSchedulerModel", name := "number", desc := "(II)I" } : Jvm.MethodName) prog_7_method_41_code (4 : Nat) (Option.some Jvm.ClassFile.FieldType.int)) ∈ BW := bw_t 1113 (by decide +kernel) rfl
theorem bw_1114 : (Jvm.Cond.methodLink "LiftSchedulerModel" (177 : Nat) ({ cls := "LiftSchedulerModel", name := "policyWord", desc := "()I" } : Jvm.MethodName)) ∈ BW := bw_t 1114 (by decide +kernel) rfl
theorem bw_1116 : (Jvm.Cond.instanceMethod ({ cls := "LiftSchedulerModel", name := "policyWord", desc := "()I" } : Jvm.MethodName)) ∈ BW := bw_t 1116 (by decide +kernel) rfl
theorem bw_1117 : (Jvm.Cond.code ({ cls := "LiftSchedulerModel", name := "policyWord", desc := "()I" } : Jvm.MethodName) prog_7_method_43_code (2 : Nat) (Option.some Jvm.ClassFile.FieldType.int)) ∈ BW := bw_t 1117 (by decide +kernel) rfl
theorem bw_1121 : (Jvm.Cond.methodLink "LiftSchedulerModel" (170 : Nat) ({ cls := "LiftSchedulerModel", name := "semicolon", desc := "()V" } : Jvm.MethodName)) ∈ BW := bw_t 1121 (by decide +kernel) rfl
theorem bw_1123 : (Jvm.Cond.instanceMethod ({ cls := "LiftSchedulerModel", name := "semicolon", desc := "()V" } : Jvm.MethodName)) ∈ BW := bw_t 1123 (by decide +kernel) rfl
theorem bw_1124 : (Jvm.Cond.code ({ cls := "LiftSchedulerModel", name := "semicolon", desc := "()V" } : Jvm.MethodName) prog_7_method_42_code (1 : Nat) (Option.none : Option Jvm.ClassFile.FieldType)) ∈ BW := bw_t 1124 (by decide +kernel) rfl
theorem bw_1125 : (Jvm.Cond.methodLink "LiftSchedulerModel" (257 : Nat) ({ cls := "LiftSchedulerModel", name := "commands", desc := "()I" } : Jvm.MethodName)) ∈ BW := bw_t 1125 (by decide +kernel) rfl
theorem bw_1127 : (Jvm.Cond.instanceMethod ({ cls := "LiftSchedulerModel", name := "commands", desc := "()I" } : Jvm.MethodName)) ∈ BW := bw_t 1127 (by decide +kernel) rfl
theorem bw_1128 : (Jvm.Cond.code ({ cls := "LiftSchedulerModel", name := "commands", desc := "()I" } : Jvm.MethodName) prog_7_method_57_code (1 : Nat) (Option.some Jvm.ClassFile.FieldType.int)) ∈ BW := bw_t 1128 (by decide +kernel) rfl
theorem bw_1129 : (Jvm.Cond.methodLink "LiftSchedulerModel" (246 : Nat) ({ cls := "LiftSchedulerModel", name := "command", desc := "()V" } : Jvm.MethodName)) ∈ BW := bw_t 1129 (by decide +kernel) rfl
theorem bw_1131 : (Jvm.Cond.instanceMethod ({ cls := "LiftSchedulerModel", name := "command", desc := "()V" } : Jvm.MethodName)) ∈ BW := bw_t 1131 (by decide +kernel) rfl
theorem bw_1132 : (Jvm.Cond.code ({ cls := "LiftSchedulerModel", name := "command", desc := "()V" } : Jvm.MethodName) prog_7_method_55_code (1 : Nat) (Option.none : Option Jvm.ClassFile.FieldType)) ∈ BW := bw_t 1132 (by decide +kernel) rfl
theorem bw_1134 : (Jvm.Cond.methodLink "LiftSchedulerModel" (206 : Nat) ({ cls := "LiftSchedulerModel", name := "repeats", desc := "()V" } : Jvm.MethodName)) ∈ BW := bw_t 1134 (by decide +kernel) rfl
theorem bw_1136 : (Jvm.Cond.instanceMethod ({ cls := "LiftSchedulerModel", name := "repeats", desc := "()V" } : Jvm.MethodName)) ∈ BW := bw_t 1136 (by decide +kernel) rfl
theorem bw_1137 : (Jvm.Cond.code ({ cls := "LiftSchedulerModel", name := "repeats", desc := "()V" } : Jvm.MethodName) prog_7_method_54_code (4 : Nat) (Option.none : Option Jvm.ClassFile.FieldType)) ∈ BW := bw_t 1137 (by decide +kernel) rfl
theorem bw_1138 : (Jvm.Cond.methodLink "LiftSchedulerModel" (198 : Nat) ({ cls := "LiftSchedulerModel", name := "bracket", desc := "(I)V" } : Jvm.MethodName)) ∈ BW := bw_t 1138 (by decide +kernel) rfl
theorem bw_1140 : (Jvm.Cond.instanceMethod ({ cls := "LiftSchedulerModel", name := "bracket", desc := "(I)V" } : Jvm.MethodName)) ∈ BW := bw_t 1140 (by decide +kernel) rfl
theorem bw_1141 : (Jvm.Cond.code ({ cls := "LiftSchedulerModel", name := "bracket", desc := "(I)V" } : Jvm.MethodName) prog_7_method_53_code (2 : Nat) (Option.none : Option Jvm.ClassFile.FieldType)) ∈ BW := bw_t 1141 (by decide +kernel) rfl
theorem bw_1142 : (Jvm.Cond.methodLink "LiftSchedulerModel" (201 : Nat) ({ cls := "LiftSchedulerModel", name := "simple", desc := "()V" } : Jvm.MethodName)) ∈ BW := bw_t 1142 (by decide +kernel) rfl
theorem bw_1144 : (Jvm.Cond.instanceMethod ({ cls := "LiftSchedulerModel", name := "simple", desc := "()V" } : Jvm.MethodName)) ∈ BW := bw_t 1144 (by decide +kernel) rfl
theorem bw_1145 : (Jvm.Cond.code ({ cls := "LiftSchedulerModel", name := "simple", desc := "()V" } : Jvm.MethodName) prog_7_method_56_code (4 : Nat) (Option.none : Option Jvm.ClassFile.FieldType)) ∈ BW := bw_t 1145 (by decide +kernel) rfl
theorem bw_1147 : (Jvm.Cond.methodLink "LiftSchedulerModel" (214 : Nat) ({ cls := "LiftSchedulerModel", name := "readsCall", desc := "()V" } : Jvm.MethodName)) ∈ BW := bw_t 1147 (by decide +kernel) rfl
theorem bw_1149 : (Jvm.Cond.instanceMethod ({ cls := "LiftSchedulerModel", name := "readsCall", desc := "()V" } : Jvm.MethodName)) ∈ BW := bw_t 1149 (by decide +kernel) rfl
theorem bw_1150 : (Jvm.Cond.code ({ cls := "LiftSchedulerModel", name := "readsCall", desc := "()V" } : Jvm.MethodName) prog_7_method_45_code (4 : Nat) (Option.none : Option Jvm.ClassFile.FieldType)) ∈ BW := bw_t 1150 (by decide +kernel) rfl
theorem bw_1151 : (Jvm.Cond.methodLink "LiftSchedulerModel" (166 : Nat) ({ cls := "LiftSchedulerModel", name := "floorNumber", desc := "()I" } : Jvm.MethodName)) ∈ BW := bw_t 1151 (by decide +kernel) rfl
theorem bw_1153 : (Jvm.Cond.instanceMethod ({ cls := "LiftSchedulerModel", name := "floorNumber", desc := "()I" } : Jvm.MethodName)) ∈ BW := bw_t 1153 (by decide +kernel) rfl
theorem bw_1154 : (Jvm.Cond.code ({ cls := "LiftSchedulerModel", name := "floorNumber", desc := "()I" } : Jvm.MethodName) prog_7_method_44_code (1 : Nat) (Option.some Jvm.ClassFile.FieldType.int)) ∈ BW := bw_t 1154 (by decide +kernel) rfl
theorem bw_1156 : (Jvm.Cond.methodLink "LiftSchedulerModel" (173 : Nat) ({ cls := "LiftSchedulerModel", name := "adds", desc := "(III)V" } : Jvm.MethodName)) ∈ BW := bw_t 1156 (by decide +kernel) rfl
theorem bw_1158 : (Jvm.Cond.instanceMethod ({ cls := "LiftSchedulerModel", name := "adds", desc := "(III)V" } : Jvm.MethodName)) ∈ BW := bw_t 1158 (by decide +kernel) rfl
theorem bw_1159 : (Jvm.Cond.code ({ cls := "LiftSchedulerModel", name := "adds", desc := "(III)V" } : Jvm.MethodName) prog_7_method_17_code (5 : Nat) (Option.none : Option Jvm.ClassFile.FieldType)) ∈ BW := bw_t 1159 (by decide +kernel) rfl
theorem bw_1160 : (Jvm.Cond.methodLink "LiftSchedulerModel" (30 : Nat) ({ cls := "LiftSchedulerModel", name := "at", desc := "(I)I" } : Jvm.MethodName)) ∈ BW := bw_t 1160 (by decide +kernel) rfl
theorem bw_1161 : (Jvm.Cond.static ({ cls := "LiftSchedulerModel", name := "at", desc := "(I)I" } : Jvm.MethodName)) ∈ BW := bw_t 1161 (by decide +kernel) rfl
theorem bw_1162 : (Jvm.Cond.code ({ cls := "LiftSchedulerModel", name := "at", desc := "(I)I" } : Jvm.MethodName) prog_7_method_5_code (1 : Nat) (Option.some Jvm.ClassFile.FieldType.int)) ∈ BW := bw_t 1162 (by decide +kernel) rfl
theorem bw_1164 : (Jvm.Cond.methodLink "LiftSchedulerModel" (219 : Nat) ({ cls := "LiftSchedulerModel", name := "readsRun", desc := "()V" } : Jvm.MethodName)) ∈ BW := bw_t 1164 (by decide +kernel) rfl
theorem bw_1166 : (Jvm.Cond.instanceMethod ({ cls := "LiftSchedulerModel", name := "readsRun", desc := "()V" } : Jvm.MethodName)) ∈ BW := bw_t 1166 (by decide +kernel) rfl
theorem bw_1167 : (Jvm.Cond.code ({ cls := "LiftSchedulerModel", name := "readsRun", desc := "()V" } : Jvm.MethodName) prog_7_method_46_code (3 : Nat) (Option.none : Option Jvm.ClassFile.FieldType)) ∈ BW := bw_t 1167 (by decide +kernel) rfl
theorem bw_1168 : (Jvm.Cond.methodLink "LiftSchedulerModel" (104 : Nat) ({ cls := "LiftSchedulerModel", name := "ticks", desc := "()V" } : Jvm.MethodName)) ∈ BW := bw_t 1168 (by decide +kernel) rfl
theorem bw_1170 : (Jvm.Cond.instanceMethod ({ cls := "LiftSchedulerModel", name := "ticks", desc := "()V" } : Jvm.MethodName)) ∈ BW := bw_t 1170 (by decide +kernel) rfl
theorem bw_1171 : (Jvm.Cond.code ({ cls := "LiftSchedulerModel", name := "ticks", desc := "()V" } : Jvm.MethodName) prog_7_method_27_code (2 : Nat) (Option.none : Option Jvm.ClassFile.FieldType)) ∈ BW := bw_t 1171 (by decide +kernel) rfl
theorem bw_1172 : (Jvm.Cond.methodLink "LiftSchedulerModel" (77 : Nat) ({ cls := "LiftSchedulerModel", name := "stops", desc := "()I" } : Jvm.MethodName)) ∈ BW := bw_t 1172 (by decide +kernel) rfl
theorem bw_1174 : (Jvm.Cond.instanceMethod ({ cls := "LiftSchedulerModel", name := "stops", desc := "()I" } : Jvm.MethodName)) ∈ BW := bw_t 1174 (by decide +kernel) rfl
theorem bw_1175 : (Jvm.Cond.code ({ cls := "LiftSchedulerModel", name := "stops", desc := "()I" } : Jvm.MethodName) prog_7_method_18_code (4 : Nat) (Option.some Jvm.ClassFile.FieldType.int)) ∈ BW := bw_t 1175 (by decide +kernel) rfl
theorem bw_1176 : (Jvm.Cond.methodLink "LiftSchedulerModel" (56 : Nat) ({ cls := "LiftSchedulerModel", name := "full", desc := "()Z" } : Jvm.MethodName)) ∈ BW := bw_t 1176 (by decide +kernel) rfl
theorem bw_1178 : (Jvm.Cond.instanceMethod ({ cls := "LiftSchedulerModel", name := "full", desc := "()Z" } : Jvm.MethodName)) ∈ BW := bw_t 1178 (by decide +kernel) rfl
theorem bw_1179 : (Jvm.Cond.code ({ cls := "LiftSchedulerModel", name := "full", desc := "()Z" } : Jvm.MethodName) prog_7_method_13_code (1 : Nat) (Option.some Jvm.ClassFile.FieldType.boolean)) ∈ BW := bw_t 1179 (by decide +kernel) rfl
theorem bw_1180 : (Jvm.Cond.methodLink "LiftSchedulerModel" (46 : Nat) ({ cls := "LiftSchedulerModel", name := "many", desc := "(I)I" } : Jvm.MethodName)) ∈ BW := bw_t 1180 (by decide +kernel) rfl
theorem bw_1182 : (Jvm.Cond.instanceMethod ({ cls := "LiftSchedulerModel", name := "many", desc := "(I)I" } : Jvm.MethodName)) ∈ BW := bw_t 1182 (by decide +kernel) rfl
theorem bw_1183 : (Jvm.Cond.code ({ cls := "LiftSchedulerModel", name := "many", desc := "(I)I" } : Jvm.MethodName) prog_7_method_12_code (4 : Nat) (Option.some Jvm.ClassFile.FieldType.int)) ∈ BW := bw_t 1183 (by decide +kernel) rfl
theorem bw_1184 : (Jvm.Cond.methodLink "LiftSchedulerModel" (43 : Nat) ({ cls := "LiftSchedulerModel", name := "status", desc := "(I)I" } : Jvm.MethodName)) ∈ BW := bw_t 1184 (by decide +kernel) rfl
theorem bw_1186 : (Jvm.Cond.instanceMethod ({ cls := "LiftSchedulerModel", name := "status", desc := "(I)I" } : Jvm.MethodName)) ∈ BW := bw_t 1186 (by decide +kernel) rfl
theorem bw_1187 : (Jvm.Cond.code ({ cls := "LiftSchedulerModel", name := "status", desc := "(I)I" } : Jvm.MethodName) prog_7_method_11_code (2 : Nat) (Option.some Jvm.ClassFile.FieldType.int)) ∈ BW := bw_t 1187 (by decide +kernel) rfl
theorem bw_1188 : (Jvm.Cond.methodLink "LiftSchedulerModel" (34 : Nat) ({ cls := "LiftSchedulerModel", name := "left", desc := "(I)I" } : Jvm.MethodName)) ∈ BW := bw_t 1188 (by decide +kernel) rfl
theorem bw_1190 : (Jvm.Cond.instanceMethod ({ cls := "LiftSchedulerModel", name := "left", desc := "(I)I" } : Jvm.MethodName)) ∈ BW := bw_t 1190 (by decide +kernel) rfl
theorem bw_1191 : (Jvm.Cond.code ({ cls := "LiftSchedulerModel", name := "left", desc := "(I)I" } : Jvm.MethodName) prog_7_method_10_code (2 : Nat) (Option.some Jvm.ClassFile.FieldType.int)) ∈ BW := bw_t 1191 (by decide +kernel) rfl
theorem bw_1192 : (Jvm.Cond.methodLink "LiftSchedulerModel" (37 : Nat) ({ cls := "LiftSchedulerModel", name := "boarded", desc := "(I)I" } : Jvm.MethodName)) ∈ BW := bw_t 1192 (by decide +kernel) rfl
theorem bw_1194 : (Jvm.Cond.instanceMethod ({ cls := "LiftSchedulerModel", name := "boarded", desc := "(I)I" } : Jvm.MethodName)) ∈ BW := bw_t 1194 (by decide +kernel) rfl
theorem bw_1195 : (Jvm.Cond.code ({ cls := "LiftSchedulerModel", name := "boarded", desc := "(I)I" } : Jvm.MethodName) prog_7_method_9_code (2 : Nat) (Option.some Jvm.ClassFile.FieldType.int)) ∈ BW := bw_t 1195 (by decide +kernel) rfl
theorem bw_1196 : (Jvm.Cond.methodLink "LiftSchedulerModel" (40 : Nat) ({ cls := "LiftSchedulerModel", name := "arrival", desc := "(I)I" } : Jvm.MethodName)) ∈ BW := bw_t 1196 (by decide +kernel) rfl
theorem bw_1198 : (Jvm.Cond.instanceMethod ({ cls := "LiftSchedulerModel", name := "arrival", desc := "(I)I" } : Jvm.MethodName)) ∈ BW := bw_t 1198 (by decide +kernel) rfl
theorem bw_1199 : (Jvm.Cond.code ({ cls := "LiftSchedulerModel", name := "arrival", desc := "(I)I" } : Jvm.MethodName) prog_7_method_6_code (2 : Nat) (Option.some Jvm.ClassFile.FieldType.int)) ∈ BW := bw_t 1199 (by decide +kernel) rfl
theorem bw_1200 : (Jvm.Cond.methodLink "LiftSchedulerModel" (60 : Nat) ({ cls := "LiftSchedulerModel", name := "destination", desc := "(I)I" } : Jvm.MethodName)) ∈ BW := bw_t 1200 (by decide +kernel) rfl
theorem bw_1202 : (Jvm.Cond.instanceMethod ({ cls := "LiftSchedulerModel", name := "destination", desc := "(I)I" } : Jvm.MethodName)) ∈ BW := bw_t 1202 (by decide +kernel) rfl
theorem bw_1203 : (Jvm.Cond.code ({ cls := "LiftSchedulerModel", name := "destination", desc := "(I)I" } : Jvm.MethodName) prog_7_method_8_code (2 : Nat) (Option.some Jvm.ClassFile.FieldType.int)) ∈ BW := bw_t 1203 (by decide +kernel) rfl
theorem bw_1204 : (Jvm.Cond.methodLink "LiftSchedulerModel" (49 : Nat) ({ cls := "LiftSchedulerModel", name := "origin", desc := "(I)I" } : Jvm.MethodName)) ∈ BW := bw_t 1204 (by decide +kernel) rfl
theorem bw_1206 : (Jvm.Cond.instanceMethod ({ cls := "LiftSchedulerModel", name := "origin", desc := "(I)I" } : Jvm.MethodName)) ∈ BW := bw_t 1206 (by decide +kernel) rfl
theorem bw_1207 : (Jvm.Cond.code ({ cls := "LiftSchedulerModel", name := "origin", desc := "(I)I" } : Jvm.MethodName) prog_7_method_7_code (2 : Nat) (Option.some Jvm.ClassFile.FieldType.int)) ∈ BW := bw_t 1207 (by decide +kernel) rfl
theorem bw_1208 : (Jvm.Cond.methodLink "LiftSchedulerModel" (67 : Nat) ({ cls := "LiftSchedulerModel", name := "has", desc := "(II)Z" } : Jvm.MethodName)) ∈ BW := bw_t 1208 (by decide +kernel) rfl
theorem bw_1209 : (Jvm.Cond.static ({ cls := "LiftSchedulerModel", name := "has", desc := "(II)Z" } : Jvm.MethodName)) ∈ BW := bw_t 1209 (by decide +kernel) rfl
theorem bw_1210 : (Jvm.Cond.code ({ cls := "LiftSchedulerModel", name := "has", desc := "(II)Z" } : Jvm.MethodName) prog_7_method_19_code (2 : Nat) (Option.some Jvm.ClassFile.FieldType.boolean)) ∈ BW := bw_t 1210 (by decide +kernel) rfl
theorem bw_1211 : (Jvm.Cond.methodLink "LiftSchedulerModel" (94 : Nat) ({ cls := "LiftSchedulerModel", name := "opens", desc := "()V" } : Jvm.MethodName)) ∈ BW := bw_t 1211 (by decide +kernel) rfl
theorem bw_1213 : (Jvm.Cond.instanceMethod ({ cls := "LiftSchedulerModel", name := "opens", desc := "()V" } : Jvm.MethodName)) ∈ BW := bw_t 1213 (by decide +kernel) rfl
theorem bw_1214 : (Jvm.Cond.code ({ cls := "LiftSchedulerModel", name := "opens", desc := "()V" } : Jvm.MethodName) prog_7_method_25_code (2 : Nat) (Option.none : Option Jvm.ClassFile.FieldType)) ∈ BW := bw_t 1214 (by decide +kernel) rfl
theorem bw_1215 : (Jvm.Cond.methodLink "LiftSchedulerModel" (74 : Nat) ({ cls := "LiftSchedulerModel", name := "first", desc := "(I)I" } : Jvm.MethodName)) ∈ BW := bw_t 1215 (by decide +kernel) rfl
theorem bw_1217 : (Jvm.Cond.instanceMethod ({ cls := "LiftSchedulerModel", name := "first", desc := "(I)I" } : Jvm.MethodName)) ∈ BW := bw_t 1217 (by decide +kernel) rfl
theorem bw_1218 : (Jvm.Cond.code ({ cls := "LiftSchedulerModel", name := "first", desc := "(I)I" } : Jvm.MethodName) prog_7_method_16_code (5 : Nat) (Option.some Jvm.ClassFile.FieldType.int)) ∈ BW := bw_t 1218 (by decide +kernel) rfl
theorem bw_1219 : (Jvm.Cond.methodLink "LiftSchedulerModel" (52 : Nat) ({ cls := "LiftSchedulerModel", name := "isAhead", desc := "(II)Z" } : Jvm.MethodName)) ∈ BW := bw_t 1219 (by decide +kernel) rfl
theorem bw_1221 : (Jvm.Cond.instanceMethod ({ cls := "LiftSchedulerModel", name := "isAhead", desc := "(II)Z" } : Jvm.MethodName)) ∈ BW := bw_t 1221 (by decide +kernel) rfl
theorem bw_1222 : (Jvm.Cond.code ({ cls := "LiftSchedulerModel", name := "isAhead", desc := "(II)Z" } : Jvm.MethodName) prog_7_method_15_code (3 : Nat) (Option.some Jvm.ClassFile.FieldType.boolean)) ∈ BW := bw_t 1222 (by decide +kernel) rfl
theorem bw_1223 : (Jvm.Cond.methodLink "LiftSchedulerModel" (97 : Nat) ({ cls := "LiftSchedulerModel", name := "moves", desc := "(I)V" } : Jvm.MethodName)) ∈ BW := bw_t 1223 (by decide +kernel) rfl
theorem bw_1225 : (Jvm.Cond.instanceMethod ({ cls := "LiftSchedulerModel", name := "moves", desc := "(I)V" } : Jvm.MethodName)) ∈ BW := bw_t 1225 (by decide +kernel) rfl
theorem bw_1226 : (Jvm.Cond.code ({ cls := "LiftSchedulerModel", name := "moves", desc := "(I)V" } : Jvm.MethodName) prog_7_method_26_code (3 : Nat) (Option.none : Option Jvm.ClassFile.FieldType)) ∈ BW := bw_t 1226 (by decide +kernel) rfl
theorem bw_1227 : (Jvm.Cond.methodLink "LiftSchedulerModel" (91 : Nat) ({ cls := "LiftSchedulerModel", name := "target", desc := "(I)I" } : Jvm.MethodName)) ∈ BW := bw_t 1227 (by decide +kernel) rfl
theorem bw_1229 : (Jvm.Cond.instanceMethod ({ cls := "LiftSchedulerModel", name := "target", desc := "(I)I" } : Jvm.MethodName)) ∈ BW := bw_t 1229 (by decide +kernel) rfl
theorem bw_1230 : (Jvm.Cond.code ({ cls := "LiftSchedulerModel", name := "target", desc := "(I)I" } : Jvm.MethodName) prog_7_method_24_code (3 : Nat) (Option.some Jvm.ClassFile.FieldType.int)) ∈ BW := bw_t 1230 (by decide +kernel) rfl
theorem bw_1231 : (Jvm.Cond.methodLink "LiftSchedulerModel" (81 : Nat) ({ cls := "LiftSchedulerModel", name := "inOrder", desc := "()I" } : Jvm.MethodName)) ∈ BW := bw_t 1231 (by decide +kernel) rfl
theorem bw_1233 : (Jvm.Cond.instanceMethod ({ cls := "LiftSchedulerModel", name := "inOrder", desc := "()I" } : Jvm.MethodName)) ∈ BW := bw_t 1233 (by decide +kernel) rfl
theorem bw_1234 : (Jvm.Cond.code ({ cls := "LiftSchedulerModel", name := "inOrder", desc := "()I" } : Jvm.MethodName) prog_7_method_22_code (2 : Nat) (Option.some Jvm.ClassFile.FieldType.int)) ∈ BW := bw_t 1234 (by decide +kernel) rfl
theorem bw_1235 : (Jvm.Cond.methodLink "LiftSchedulerModel" (84 : Nat) ({ cls := "LiftSchedulerModel", name := "nearest", desc := "(I)I" } : Jvm.MethodName)) ∈ BW := bw_t 1235 (by decide +kernel) rfl
theorem bw_1237 : (Jvm.Cond.instanceMethod ({ cls := "LiftSchedulerModel", name := "nearest", desc := "(I)I" } : Jvm.MethodName)) ∈ BW := bw_t 1237 (by decide +kernel) rfl
theorem bw_1238 : (Jvm.Cond.code ({ cls := "LiftSchedulerModel", name := "nearest", desc := "(I)I" } : Jvm.MethodName) prog_7_method_21_code (4 : Nat) (Option.some Jvm.ClassFile.FieldType.int)) ∈ BW := bw_t 1238 (by decide +kernel) rfl
theorem bw_1239 : (Jvm.Cond.methodLink "LiftSchedulerModel" (70 : Nat) ({ cls := "LiftSchedulerModel", name := "nearestIn", desc := "(IZ)I" } : Jvm.MethodName)) ∈ BW := bw_t 1239 (by decide +kernel) rfl
theorem bw_1241 : (Jvm.Cond.instanceMethod ({ cls := "LiftSchedulerModel", name := "nearestIn", desc := "(IZ)I" } : Jvm.MethodName)) ∈ BW := bw_t 1241 (by decide +kernel) rfl
theorem bw_1242 : (Jvm.Cond.code ({ cls := "LiftSchedulerModel", name := "nearestIn", desc := "(IZ)I" } : Jvm.MethodName) prog_7_method_20_code (5 : Nat) (Option.some Jvm.ClassFile.FieldType.int)) ∈ BW := bw_t 1242 (by decide +kernel) rfl
theorem bw_1243 : (Jvm.Cond.methodLink "LiftSchedulerModel" (87 : Nat) ({ cls := "LiftSchedulerModel", name := "reverses", desc := "(I)Z" } : Jvm.MethodName)) ∈ BW := bw_t 1243 (by decide +kernel) rfl
theorem bw_1245 : (Jvm.Cond.instanceMethod ({ cls := "LiftSchedulerModel", name := "reverses", desc := "(I)Z" } : Jvm.MethodName)) ∈ BW := bw_t 1245 (by decide +kernel) rfl
theorem bw_1246 : (Jvm.Cond.code ({ cls := "LiftSchedulerModel", name := "reverses", desc := "(I)Z" } : Jvm.MethodName) prog_7_method_23_code (2 : Nat) (Option.some Jvm.ClassFile.FieldType.boolean)) ∈ BW := bw_t 1246 (by decide +kernel) rfl
theorem bw_1248 : (Jvm.Cond.methodLink "LiftSchedulerModel" (108 : Nat) ({ cls := "LiftSchedulerModel", name := "finishes", desc := "(I)I" } : Jvm.MethodName)) ∈ BW := bw_t 1248 (by decide +kernel) rfl
theorem bw_1250 : (Jvm.Cond.instanceMethod ({ cls := "LiftSchedulerModel", name := "finishes", desc := "(I)I" } : Jvm.MethodName)) ∈ BW := bw_t 1250 (by decide +kernel) rfl
theorem bw_1251 : (Jvm.Cond.code ({ cls := "LiftSchedulerModel", name := "finishes", desc := "(I)I" } : Jvm.MethodName) prog_7_method_28_code (3 : Nat) (Option.some Jvm.ClassFile.FieldType.int)) ∈ BW := bw_t 1251 (by decide +kernel) rfl
theorem bw_1252 : (Jvm.Cond.methodLink "LiftSchedulerModel" (101 : Nat) ({ cls := "LiftSchedulerModel", name := "finished", desc := "()Z" } : Jvm.MethodName)) ∈ BW := bw_t 1252 (by decide +kernel) rfl
theorem bw_1254 : (Jvm.Cond.instanceMethod ({ cls := "LiftSchedulerModel", name := "finished", desc := "()Z" } : Jvm.MethodName)) ∈ BW := bw_t 1254 (by decide +kernel) rfl
theorem bw_1255 : (Jvm.Cond.code ({ cls := "LiftSchedulerModel", name := "finished", desc := "()Z" } : Jvm.MethodName) prog_7_method_14_code (1 : Nat) (Option.some Jvm.ClassFile.FieldType.boolean)) ∈ BW := bw_t 1255 (by decide +kernel) rfl
theorem bw_1257 : (Jvm.Cond.methodLink "LiftSchedulerModel" (226 : Nat) ({ cls := "LiftSchedulerModel", name := "readsUntil", desc := "()V" } : Jvm.MethodName)) ∈ BW := bw_t 1257 (by decide +kernel) rfl
theorem bw_1259 : (Jvm.Cond.instanceMethod ({ cls := "LiftSchedulerModel", name := "readsUntil", desc := "()V" } : Jvm.MethodName)) ∈ BW := bw_t 1259 (by decide +kernel) rfl
theorem bw_1260 : (Jvm.Cond.code ({ cls := "LiftSchedulerModel", name := "readsUntil", desc := "()V" } : Jvm.MethodName) prog_7_method_51_code (3 : Nat) (Option.none : Option Jvm.ClassFile.FieldType)) ∈ BW := bw_t 1260 (by decide +kernel) rfl
theorem bw_1261 : (Jvm.Cond.methodLink "LiftSchedulerModel" (192 : Nat) ({ cls := "LiftSchedulerModel", name := "counterWord", desc := "()I" } : Jvm.MethodName)) ∈ BW := bw_t 1261 (by decide +kernel) rfl
theorem bw_1263 : (Jvm.Cond.instanceMethod ({ cls := "LiftSchedulerModel", name := "counterWord", desc := "()I" } : Jvm.MethodName)) ∈ BW := bw_t 1263 (by decide +kernel) rfl
theorem bw_1264 : (Jvm.Cond.code ({ cls := "LiftSchedulerModel", name := "counterWord", desc := "()I" } : Jvm.MethodName) prog_7_method_49_code (2 : Nat) (Option.some Jvm.ClassFile.FieldType.int)) ∈ BW := bw_t 1264 (by decide +kernel) rfl
theorem bw_1271 : (Jvm.Cond.methodLink "LiftSchedulerModel" (195 : Nat) ({ cls := "LiftSchedulerModel", name := "counted", desc := "(I)I" } : Jvm.MethodName)) ∈ BW := bw_t 1271 (by decide +kernel) rfl
theorem bw_1273 : (Jvm.Cond.instanceMethod ({ cls := "LiftSchedulerModel", name := "counted", desc := "(I)I" } : Jvm.MethodName)) ∈ BW := bw_t 1273 (by decide +kernel) rfl
theorem bw_1274 : (Jvm.Cond.code ({ cls := "LiftSchedulerModel", name := "counted", desc := "(I)I" } : Jvm.MethodName) prog_7_method_50_code (2 : Nat) (Option.some Jvm.ClassFile.FieldType.int)) ∈ BW := bw_t 1274 (by decide +kernel) rfl
theorem bw_1277 : (Jvm.Cond.methodLink "LiftSchedulerModel" (233 : Nat) ({ cls := "LiftSchedulerModel", name := "readsPolicy", desc := "()V" } : Jvm.MethodName)) ∈ BW := bw_t 1277 (by decide +kernel) rfl
theorem bw_1279 : (Jvm.Cond.instanceMethod ({ cls := "LiftSchedulerModel", name := "readsPolicy", desc := "()V" } : Jvm.MethodName)) ∈ BW := bw_t 1279 (by decide +kernel) rfl
theorem bw_1280 : (Jvm.Cond.code ({ cls := "LiftSchedulerModel", name := "readsPolicy", desc := "()V" } : Jvm.MethodName) prog_7_method_48_code (2 : Nat) (Option.none : Option Jvm.ClassFile.FieldType)) ∈ BW := bw_t 1280 (by decide +kernel) rfl
theorem bw_1282 : (Jvm.Cond.methodLink "LiftSchedulerModel" (238 : Nat) ({ cls := "LiftSchedulerModel", name := "readsCapacity", desc := "()V" } : Jvm.MethodName)) ∈ BW := bw_t 1282 (by decide +kernel) rfl
theorem bw_1284 : (Jvm.Cond.instanceMethod ({ cls := "LiftSchedulerModel", name := "readsCapacity", desc := "()V" } : Jvm.MethodName)) ∈ BW := bw_t 1284 (by decide +kernel) rfl
theorem bw_1285 : (Jvm.Cond.code ({ cls := "LiftSchedulerModel", name := "readsCapacity", desc := "()V" } : Jvm.MethodName) prog_7_method_47_code (2 : Nat) (Option.none : Option Jvm.ClassFile.FieldType)) ∈ BW := bw_t 1285 (by decide +kernel) rfl
theorem bw_1287 : (Jvm.Cond.methodLink "LiftSchedulerModel" (243 : Nat) ({ cls := "LiftSchedulerModel", name := "readsExpectation", desc := "(I)V" } : Jvm.MethodName)) ∈ BW := bw_t 1287 (by decide +kernel) rfl
theorem bw_1289 : (Jvm.Cond.instanceMethod ({ cls := "LiftSchedulerModel", name := "readsExpectation", desc := "(I)V" } : Jvm.MethodName)) ∈ BW := bw_t 1289 (by decide +kernel) rfl
theorem bw_1290 : (Jvm.Cond.code ({ cls := "LiftSchedulerModel", name := "readsExpectation", desc := "(I)V" } : Jvm.MethodName) prog_7_method_52_code (4 : Nat) (Option.none : Option Jvm.ClassFile.FieldType)) ∈ BW := bw_t 1290 (by decide +kernel) rfl
theorem bw_1291 : (Jvm.Cond.methodLink "LiftSchedulerModel" (249 : Nat) ({ cls := "LiftSchedulerModel", name := "bringsBack", desc := "(I)V" } : Jvm.MethodName)) ∈ BW := bw_t 1291 (by decide +kernel) rfl
theorem bw_1293 : (Jvm.Cond.instanceMethod ({ cls := "LiftSchedulerModel", name := "bringsBack", desc := "(I)V" } : Jvm.MethodName)) ∈ BW := bw_t 1293 (by decide +kernel) rfl
theorem bw_1294 : (Jvm.Cond.code ({ cls := "LiftSchedulerModel", name := "bringsBack", desc := "(I)V" } : Jvm.MethodName) prog_7_method_31_code (3 : Nat) (Option.none : Option Jvm.ClassFile.FieldType)) ∈ BW := bw_t 1294 (by decide +kernel) rfl
theorem bw_1295 : (Jvm.Cond.methodLink "LiftSchedulerLaw" (131 : Nat) ({ cls := "LiftSchedulerModel", name := "play", desc := "()I" } : Jvm.MethodName)) ∈ BW := bw_t 1295 (by decide +kernel) rfl
theorem bw_1296 : (Jvm.Cond.instanceMethod ({ cls := "LiftSchedulerModel", name := "play", desc := "()I" } : Jvm.MethodName)) ∈ BW := bw_t 1296 (by decide +kernel) rfl
theorem bw_1297 : (Jvm.Cond.selects "LiftSchedulerModel" ({ cls := "LiftSchedulerModel", name := "play", desc := "()I" } : Jvm.MethodName) ({ cls := "LiftSchedulerModel", name := "play", desc := "()I" } : Jvm.MethodName)) ∈ BW := bw_t 1297 (by decide +kernel) rfl
theorem bw_1298 : (Jvm.Cond.code ({ cls := "LiftSchedulerModel", name := "play", desc := "()I" } : Jvm.MethodName) prog_7_method_59_code (2 : Nat) (Option.some Jvm.ClassFile.FieldType.int)) ∈ BW := bw_t 1298 (by decide +kernel) rfl
theorem bw_1299 : (Jvm.Cond.methodLink "LiftSchedulerModel" (267 : Nat) ({ cls := "LiftSchedulerModel", name := "records", desc := "()V" } : Jvm.MethodName)) ∈ BW := bw_t 1299 (by decide +kernel) rfl
theorem bw_1301 : (Jvm.Cond.instanceMethod ({ cls := "LiftSchedulerModel", name := "records", desc := "()V" } : Jvm.MethodName)) ∈ BW := bw_t 1301 (by decide +kernel) rfl
theorem bw_1302 : (Jvm.Cond.code ({ cls := "LiftSchedulerModel", name := "records", desc := "()V" } : Jvm.MethodName) prog_7_method_32_code (2 : Nat) (Option.none : Option Jvm.ClassFile.FieldType)) ∈ BW := bw_t 1302 (by decide +kernel) rfl
theorem bw_1303 : (Jvm.Cond.methodLink "LiftSchedulerLaw" (135 : Nat) ({ cls := "LiftSchedulerModel", name := "parseError", desc := "()I" } : Jvm.MethodName)) ∈ BW := bw_t 1303 (by decide +kernel) rfl
theorem bw_1304 : (Jvm.Cond.instanceMethod ({ cls := "LiftSchedulerModel", name := "parseError", desc := "()I" } : Jvm.MethodName)) ∈ BW := bw_t 1304 (by decide +kernel) rfl
theorem bw_1305 : (Jvm.Cond.selects "LiftSchedulerModel" ({ cls := "LiftSchedulerModel", name := "parseError", desc := "()I" } : Jvm.MethodName) ({ cls := "LiftSchedulerModel", name := "parseError", desc := "()I" } : Jvm.MethodName)) ∈ BW := bw_t 1305 (by decide +kernel) rfl
theorem bw_1306 : (Jvm.Cond.code ({ cls := "LiftSchedulerModel", name := "parseError", desc := "()I" } : Jvm.MethodName) prog_7_method_60_code (1 : Nat) (Option.some Jvm.ClassFile.FieldType.int)) ∈ BW := bw_t 1306 (by decide +kernel) rfl
theorem bw_1307 : (Jvm.Cond.methodLink "LiftSchedulerLaw" (139 : Nat) ({ cls := "LiftSchedulerModel", name := "parseErrorPosition", desc := "()I" } : Jvm.MethodName)) ∈ BW := bw_t 1307 (by decide +kernel) rfl
theorem bw_1308 : (Jvm.Cond.instanceMethod ({ cls := "LiftSchedulerModel", name := "parseErrorPosition", desc := "()I" } : Jvm.MethodName)) ∈ BW := bw_t 1308 (by decide +kernel) rfl
theorem bw_1309 : (Jvm.Cond.selects "LiftSchedulerModel" ({ cls := "LiftSchedulerModel", name := "parseErrorPosition", desc := "()I" } : Jvm.MethodName) ({ cls := "LiftSchedulerModel", name := "parseErrorPosition", desc := "()I" } : Jvm.MethodName)) ∈ BW := bw_t 1309 (by decide +kernel) rfl
theorem bw_1310 : (Jvm.Cond.code ({ cls := "LiftSchedulerModel", name := "parseErrorPosition", desc := "()I" } : Jvm.MethodName) prog_7_method_61_code (1 : Nat) (Option.some Jvm.ClassFile.FieldType.int)) ∈ BW := bw_t 1310 (by decide +kernel) rfl
theorem bw_1311 : (Jvm.Cond.methodLink "LiftSchedulerLaw" (143 : Nat) ({ cls := "LiftSchedulerModel", name := "floorCount", desc := "()I" } : Jvm.MethodName)) ∈ BW := bw_t 1311 (by decide +kernel) rfl
theorem bw_1312 : (Jvm.Cond.instanceMethod ({ cls := "LiftSchedulerModel", name := "floorCount", desc := "()I" } : Jvm.MethodName)) ∈ BW := bw_t 1312 (by decide +kernel) rfl
theorem bw_1313 : (Jvm.Cond.selects "LiftSchedulerModel" ({ cls := "LiftSchedulerModel", name := "floorCount", desc := "()I" } : Jvm.MethodName) ({ cls := "LiftSchedulerModel", name := "floorCount", desc := "()I" } : Jvm.MethodName)) ∈ BW := bw_t 1313 (by decide +kernel) rfl
theorem bw_1314 : (Jvm.Cond.code ({ cls := "LiftSchedulerModel", name := "floorCount", desc := "()I" } : Jvm.MethodName) prog_7_method_65_code (1 : Nat) (Option.some Jvm.ClassFile.FieldType.int)) ∈ BW := bw_t 1314 (by decide +kernel) rfl
theorem bw_1315 : (Jvm.Cond.methodLink "LiftSchedulerLaw" (147 : Nat) ({ cls := "LiftSchedulerModel", name := "capacity", desc := "()I" } : Jvm.MethodName)) ∈ BW := bw_t 1315 (by decide +kernel) rfl
theorem bw_1316 : (Jvm.Cond.instanceMethod ({ cls := "LiftSchedulerModel", name := "capacity", desc := "()I" } : Jvm.MethodName)) ∈ BW := bw_t 1316 (by decide +kernel) rfl
theorem bw_1317 : (Jvm.Cond.selects "LiftSchedulerModel" ({ cls := "LiftSchedulerModel", name := "capacity", desc := "()I" } : Jvm.MethodName) ({ cls := "LiftSchedulerModel", name := "capacity", desc := "()I" } : Jvm.MethodName)) ∈ BW := bw_t 1317 (by decide +kernel) rfl
theorem bw_1318 : (Jvm.Cond.code ({ cls := "LiftSchedulerModel", name := "capacity", desc := "()I" } : Jvm.MethodName) prog_7_method_66_code (1 : Nat) (Option.some Jvm.ClassFile.FieldType.int)) ∈ BW := bw_t 1318 (by decide +kernel) rfl
theorem bw_1319 : (Jvm.Cond.methodLink "LiftSchedulerLaw" (151 : Nat) ({ cls := "LiftSchedulerModel", name := "policy", desc := "()I" } : Jvm.MethodName)) ∈ BW := bw_t 1319 (by decide +kernel) rfl
theorem bw_1320 : (Jvm.Cond.instanceMethod ({ cls := "LiftSchedulerModel", name := "policy", desc := "()I" } : Jvm.MethodName)) ∈ BW := bw_t 1320 (by decide +kernel) rfl
theorem bw_1321 : (Jvm.Cond.selects "LiftSchedulerModel" ({ cls := "LiftSchedulerModel", name := "policy", desc := "()I" } : Jvm.MethodName) ({ cls := "LiftSchedulerModel", name := "policy", desc := "()I" } : Jvm.MethodName)) ∈ BW := bw_t 1321 (by decide +kernel) rfl
theorem bw_1322 : (Jvm.Cond.code ({ cls := "LiftSchedulerModel", name := "policy", desc := "()I" } : Jvm.MethodName) prog_7_method_67_code (1 : Nat) (Option.some Jvm.ClassFile.FieldType.int)) ∈ BW := bw_t 1322 (by decide +kernel) rfl
theorem bw_1323 : (Jvm.Cond.methodLink "LiftSchedulerLaw" (155 : Nat) ({ cls := "LiftSchedulerModel", name := "time", desc := "()I" } : Jvm.MethodName)) ∈ BW := bw_t 1323 (by decide +kernel) rfl
theorem bw_1324 : (Jvm.Cond.instanceMethod ({ cls := "LiftSchedulerModel", name := "time", desc := "()I" } : Jvm.MethodName)) ∈ BW := bw_t 1324 (by decide +kernel) rfl
theorem bw_1325 : (Jvm.Cond.selects "LiftSchedulerModel" ({ cls := "LiftSchedulerModel", name := "time", desc := "()I" } : Jvm.MethodName) ({ cls := "LiftSchedulerModel", name := "time", desc := "()I" } : Jvm.MethodName)) ∈ BW := bw_t 1325 (by decide +kernel) rfl
theorem bw_1326 : (Jvm.Cond.code ({ cls := "LiftSchedulerModel", name := "time", desc := "()I" } : Jvm.MethodName) prog_7_method_68_code (1 : Nat) (Option.some Jvm.ClassFile.FieldType.int)) ∈ BW := bw_t 1326 (by decide +kernel) rfl
theorem bw_1327 : (Jvm.Cond.methodLink "LiftSchedulerLaw" (159 : Nat) ({ cls := "LiftSchedulerModel", name := "floor", desc := "()I" } : Jvm.MethodName)) ∈ BW := bw_t 1327 (by decide +kernel) rfl
theorem bw_1328 : (Jvm.Cond.instanceMethod ({ cls := "LiftSchedulerModel", name := "floor", desc := "()I" } : Jvm.MethodName)) ∈ BW := bw_t 1328 (by decide +kernel) rfl
theorem bw_1329 : (Jvm.Cond.selects "LiftSchedulerModel" ({ cls := "LiftSchedulerModel", name := "floor", desc := "()I" } : Jvm.MethodName) ({ cls := "LiftSchedulerModel", name := "floor", desc := "()I" } : Jvm.MethodName)) ∈ BW := bw_t 1329 (by decide +kernel) rfl
theorem bw_1330 : (Jvm.Cond.code ({ cls := "LiftSchedulerModel", name := "floor", desc := "()I" } : Jvm.MethodName) prog_7_method_69_code (1 : Nat) (Option.some Jvm.ClassFile.FieldType.int)) ∈ BW := bw_t 1330 (by decide +kernel) rfl
theorem bw_1331 : (Jvm.Cond.methodLink "LiftSchedulerLaw" (164 : Nat) ({ cls := "LiftSchedulerModel", name := "isUpward", desc := "()Z" } : Jvm.MethodName)) ∈ BW := bw_t 1331 (by decide +kernel) rfl
theorem bw_1332 : (Jvm.Cond.instanceMethod ({ cls := "LiftSchedulerModel", name := "isUpward", desc := "()Z" } : Jvm.MethodName)) ∈ BW := bw_t 1332 (by decide +kernel) rfl
theorem bw_1333 : (Jvm.Cond.selects "LiftSchedulerModel" ({ cls := "LiftSchedulerModel", name := "isUpward", desc := "()Z" } : Jvm.MethodName) ({ cls := "LiftSchedulerModel", name := "isUpward", desc := "()Z" } : Jvm.MethodName)) ∈ BW := bw_t 1333 (by decide +kernel) rfl
theorem bw_1334 : (Jvm.Cond.code ({ cls := "LiftSchedulerModel", name := "isUpward", desc := "()Z" } : Jvm.MethodName) prog_7_method_70_code (1 : Nat) (Option.some Jvm.ClassFile.FieldType.boolean)) ∈ BW := bw_t 1334 (by decide +kernel) rfl
theorem bw_1335 : (Jvm.Cond.methodLink "LiftSchedulerLaw" (168 : Nat) ({ cls := "LiftSchedulerModel", name := "isFull", desc := "()Z" } : Jvm.MethodName)) ∈ BW := bw_t 1335 (by decide +kernel) rfl
theorem bw_1336 : (Jvm.Cond.instanceMethod ({ cls := "LiftSchedulerModel", name := "isFull", desc := "()Z" } : Jvm.MethodName)) ∈ BW := bw_t 1336 (by decide +kernel) rfl
theorem bw_1337 : (Jvm.Cond.selects "LiftSchedulerModel" ({ cls := "LiftSchedulerModel", name := "isFull", desc := "()Z" } : Jvm.MethodName) ({ cls := "LiftSchedulerModel", name := "isFull", desc := "()Z" } : Jvm.MethodName)) ∈ BW := bw_t 1337 (by decide +kernel) rfl
theorem bw_1338 : (Jvm.Cond.code ({ cls := "LiftSchedulerModel", name := "isFull", desc := "()Z" } : Jvm.MethodName) prog_7_method_71_code (1 : Nat) (Option.some Jvm.ClassFile.FieldType.boolean)) ∈ BW := bw_t 1338 (by decide +kernel) rfl
theorem bw_1339 : (Jvm.Cond.methodLink "LiftSchedulerLaw" (172 : Nat) ({ cls := "LiftSchedulerModel", name := "stopMask", desc := "()I" } : Jvm.MethodName)) ∈ BW := bw_t 1339 (by decide +kernel) rfl
theorem bw_1340 : (Jvm.Cond.instanceMethod ({ cls := "LiftSchedulerModel", name := "stopMask", desc := "()I" } : Jvm.MethodName)) ∈ BW := bw_t 1340 (by decide +kernel) rfl
theorem bw_1341 : (Jvm.Cond.selects "LiftSchedulerModel" ({ cls := "LiftSchedulerModel", name := "stopMask", desc := "()I" } : Jvm.MethodName) ({ cls := "LiftSchedulerModel", name := "stopMask", desc := "()I" } : Jvm.MethodName)) ∈ BW := bw_t 1341 (by decide +kernel) rfl
theorem bw_1342 : (Jvm.Cond.code ({ cls := "LiftSchedulerModel", name := "stopMask", desc := "()I" } : Jvm.MethodName) prog_7_method_72_code (1 : Nat) (Option.some Jvm.ClassFile.FieldType.int)) ∈ BW := bw_t 1342 (by decide +kernel) rfl
theorem bw_1343 : (Jvm.Cond.methodLink "LiftSchedulerLaw" (176 : Nat) ({ cls := "LiftSchedulerModel", name := "targetBy", desc := "(I)I" } : Jvm.MethodName)) ∈ BW := bw_t 1343 (by decide +kernel) rfl
theorem bw_1344 : (Jvm.Cond.instanceMethod ({ cls := "LiftSchedulerModel", name := "targetBy", desc := "(I)I" } : Jvm.MethodName)) ∈ BW := bw_t 1344 (by decide +kernel) rfl
theorem bw_1345 : (Jvm.Cond.selects "LiftSchedulerModel" ({ cls := "LiftSchedulerModel", name := "targetBy", desc := "(I)I" } : Jvm.MethodName) ({ cls := "LiftSchedulerModel", name := "targetBy", desc := "(I)I" } : Jvm.MethodName)) ∈ BW := bw_t 1345 (by decide +kernel) rfl
theorem bw_1346 : (Jvm.Cond.code ({ cls := "LiftSchedulerModel", name := "targetBy", desc := "(I)I" } : Jvm.MethodName) prog_7_method_73_code (2 : Nat) (Option.some Jvm.ClassFile.FieldType.int)) ∈ BW := bw_t 1346 (by decide +kernel) rfl
theorem bw_1347 : (Jvm.Cond.methodLink "LiftSchedulerModel" (274 : Nat) ({ cls := "LiftSchedulerModel", name := "noPolicy", desc := "(I)Z" } : Jvm.MethodName)) ∈ BW := bw_t 1347 (by decide +kernel) rfl
theorem bw_1349 : (Jvm.Cond.instanceMethod ({ cls := "LiftSchedulerModel", name := "noPolicy", desc := "(I)Z" } : Jvm.MethodName)) ∈ BW := bw_t 1349 (by decide +kernel) rfl
theorem bw_1350 : (Jvm.Cond.code ({ cls := "LiftSchedulerModel", name := "noPolicy", desc := "(I)Z" } : Jvm.MethodName) prog_7_method_64_code (2 : Nat) (Option.some Jvm.ClassFile.FieldType.boolean)) ∈ BW := bw_t 1350 (by decide +kernel) rfl
theorem bw_1351 : (Jvm.Cond.methodLink "LiftSchedulerModel" (270 : Nat) ({ cls := "LiftSchedulerModel", name := "fails", desc := "(ZI)Z" } : Jvm.MethodName)) ∈ BW := bw_t 1351 (by decide +kernel) rfl
theorem bw_1353 : (Jvm.Cond.instanceMethod ({ cls := "LiftSchedulerModel", name := "fails", desc := "(ZI)Z" } : Jvm.MethodName)) ∈ BW := bw_t 1353 (by decide +kernel) rfl
theorem bw_1354 : (Jvm.Cond.code ({ cls := "LiftSchedulerModel", name := "fails", desc := "(ZI)Z" } : Jvm.MethodName) prog_7_method_4_code (3 : Nat) (Option.some Jvm.ClassFile.FieldType.boolean)) ∈ BW := bw_t 1354 (by decide +kernel) rfl
theorem bw_1355 : (Jvm.Cond.methodLink "LiftSchedulerLaw" (180 : Nat) ({ cls := "LiftSchedulerModel", name := "distance", desc := "()I" } : Jvm.MethodName)) ∈ BW := bw_t 1355 (by decide +kernel) rfl
theorem bw_1356 : (Jvm.Cond.instanceMethod ({ cls := "LiftSchedulerModel", name := "distance", desc := "()I" } : Jvm.MethodName)) ∈ BW := bw_t 1356 (by decide +kernel) rfl
theorem bw_1357 : (Jvm.Cond.selects "LiftSchedulerModel" ({ cls := "LiftSchedulerModel", name := "distance", desc := "()I" } : Jvm.MethodName) ({ cls := "LiftSchedulerModel", name := "distance", desc := "()I" } : Jvm.MethodName)) ∈ BW := bw_t 1357 (by decide +kernel) rfl
theorem bw_1358 : (Jvm.Cond.code ({ cls := "LiftSchedulerModel", name := "distance", desc := "()I" } : Jvm.MethodName) prog_7_method_74_code (1 : Nat) (Option.some Jvm.ClassFile.FieldType.int)) ∈ BW := bw_t 1358 (by decide +kernel) rfl
theorem bw_1359 : (Jvm.Cond.methodLink "LiftSchedulerLaw" (184 : Nat) ({ cls := "LiftSchedulerModel", name := "doorTicks", desc := "()I" } : Jvm.MethodName)) ∈ BW := bw_t 1359 (by decide +kernel) rfl
theorem bw_1360 : (Jvm.Cond.instanceMethod ({ cls := "LiftSchedulerModel", name := "doorTicks", desc := "()I" } : Jvm.MethodName)) ∈ BW := bw_t 1360 (by decide +kernel) rfl
theorem bw_1361 : (Jvm.Cond.selects "LiftSchedulerModel" ({ cls := "LiftSchedulerModel", name := "doorTicks", desc := "()I" } : Jvm.MethodName) ({ cls := "LiftSchedulerModel", name := "doorTicks", desc := "()I" } : Jvm.MethodName)) ∈ BW := bw_t 1361 (by decide +kernel) rfl
theorem bw_1362 : (Jvm.Cond.code ({ cls := "LiftSchedulerModel", name := "doorTicks", desc := "()I" } : Jvm.MethodName) prog_7_method_75_code (1 : Nat) (Option.some Jvm.ClassFile.FieldType.int)) ∈ BW := bw_t 1362 (by decide +kernel) rfl
theorem bw_1363 : (Jvm.Cond.methodLink "LiftSchedulerLaw" (188 : Nat) ({ cls := "LiftSchedulerModel", name := "idleTicks", desc := "()I" } : Jvm.MethodName)) ∈ BW := bw_t 1363 (by decide +kernel) rfl
theorem bw_1364 : (Jvm.Cond.instanceMethod ({ cls := "LiftSchedulerModel", name := "idleTicks", desc := "()I" } : Jvm.MethodName)) ∈ BW := bw_t 1364 (by decide +kernel) rfl
theorem bw_1365 : (Jvm.Cond.selects "LiftSchedulerModel" ({ cls := "LiftSchedulerModel", name := "idleTicks", desc := "()I" } : Jvm.MethodName) ({ cls := "LiftSchedulerModel", name := "idleTicks", desc := "()I" } : Jvm.MethodName)) ∈ BW := bw_t 1365 (by decide +kernel) rfl
theorem bw_1366 : (Jvm.Cond.code ({ cls := "LiftSchedulerModel", name := "idleTicks", desc := "()I" } : Jvm.MethodName) prog_7_method_76_code (1 : Nat) (Option.some Jvm.ClassFile.FieldType.int)) ∈ BW := bw_t 1366 (by decide +kernel) rfl
theorem bw_1367 : (Jvm.Cond.methodLink "LiftSchedulerLaw" (192 : Nat) ({ cls := "LiftSchedulerModel", name := "reversals", desc := "()I" } : Jvm.MethodName)) ∈ BW := bw_t 1367 (by decide +kernel) rfl
theorem bw_1368 : (Jvm.Cond.instanceMethod ({ cls := "LiftSchedulerModel", name := "reversals", desc := "()I" } : Jvm.MethodName)) ∈ BW := bw_t 1368 (by decide +kernel) rfl
theorem bw_1369 : (Jvm.Cond.selects "LiftSchedulerModel" ({ cls := "LiftSchedulerModel", name := "reversals", desc := "()I" } : Jvm.MethodName) ({ cls := "LiftSchedulerModel", name := "reversals", desc := "()I" } : Jvm.MethodName)) ∈ BW := bw_t 1369 (by decide +kernel) rfl
theorem bw_1370 : (Jvm.Cond.code ({ cls := "LiftSchedulerModel", name := "reversals", desc := "()I" } : Jvm.MethodName) prog_7_method_77_code (1 : Nat) (Option.some Jvm.ClassFile.FieldType.int)) ∈ BW := bw_t 1370 (by decide +kernel) rfl
theorem bw_1371 : (Jvm.Cond.methodLink "LiftSchedulerLaw" (196 : Nat) ({ cls := "LiftSchedulerModel", name := "passengerCount", desc := "()I" } : Jvm.MethodName)) ∈ BW := bw_t 1371 (by decide +kernel) rfl
theorem bw_1372 : (Jvm.Cond.instanceMethod ({ cls := "LiftSchedulerModel", name := "passengerCount", desc := "()I" } : Jvm.MethodName)) ∈ BW := bw_t 1372 (by decide +kernel) rfl
theorem bw_1373 : (Jvm.Cond.selects "LiftSchedulerModel" ({ cls := "LiftSchedulerModel", name := "passengerCount", desc := "()I" } : Jvm.MethodName) ({ cls := "LiftSchedulerModel", name := "passengerCount", desc := "()I" } : Jvm.MethodName)) ∈ BW := bw_t 1373 (by decide +kernel) rfl
theorem bw_1374 : (Jvm.Cond.code ({ cls := "LiftSchedulerModel", name := "passengerCount", desc := "()I" } : Jvm.MethodName) prog_7_method_78_code (1 : Nat) (Option.some Jvm.ClassFile.FieldType.int)) ∈ BW := bw_t 1374 (by decide +kernel) rfl
theorem bw_1375 : (Jvm.Cond.methodLink "LiftSchedulerLaw" (199 : Nat) ({ cls := "LiftSchedulerModel", name := "statusOf", desc := "(I)I" } : Jvm.MethodName)) ∈ BW := bw_t 1375 (by decide +kernel) rfl
theorem bw_1376 : (Jvm.Cond.instanceMethod ({ cls := "LiftSchedulerModel", name := "statusOf", desc := "(I)I" } : Jvm.MethodName)) ∈ BW := bw_t 1376 (by decide +kernel) rfl
theorem bw_1377 : (Jvm.Cond.selects "LiftSchedulerModel" ({ cls := "LiftSchedulerModel", name := "statusOf", desc := "(I)I" } : Jvm.MethodName) ({ cls := "LiftSchedulerModel", name := "statusOf", desc := "(I)I" } : Jvm.MethodName)) ∈ BW := bw_t 1377 (by decide +kernel) rfl
theorem bw_1378 : (Jvm.Cond.code ({ cls := "LiftSchedulerModel", name := "statusOf", desc := "(I)I" } : Jvm.MethodName) prog_7_method_79_code (2 : Nat) (Option.some Jvm.ClassFile.FieldType.int)) ∈ BW := bw_t 1378 (by decide +kernel) rfl
theorem bw_1379 : (Jvm.Cond.methodLink "LiftSchedulerModel" (277 : Nat) ({ cls := "LiftSchedulerModel", name := "noPassenger", desc := "(I)Z" } : Jvm.MethodName)) ∈ BW := bw_t 1379 (by decide +kernel) rfl
theorem bw_1381 : (Jvm.Cond.instanceMethod ({ cls := "LiftSchedulerModel", name := "noPassenger", desc := "(I)Z" } : Jvm.MethodName)) ∈ BW := bw_t 1381 (by decide +kernel) rfl
theorem bw_1382 : (Jvm.Cond.code ({ cls := "LiftSchedulerModel", name := "noPassenger", desc := "(I)Z" } : Jvm.MethodName) prog_7_method_62_code (2 : Nat) (Option.some Jvm.ClassFile.FieldType.boolean)) ∈ BW := bw_t 1382 (by decide +kernel) rfl
theorem bw_1383 : (Jvm.Cond.methodLink "LiftSchedulerLaw" (202 : Nat) ({ cls := "LiftSchedulerModel", name := "originOf", desc := "(I)I" } : Jvm.MethodName)) ∈ BW := bw_t 1383 (by decide +kernel) rfl
theorem bw_1384 : (Jvm.Cond.instanceMethod ({ cls := "LiftSchedulerModel", name := "originOf", desc := "(I)I" } : Jvm.MethodName)) ∈ BW := bw_t 1384 (by decide +kernel) rfl
theorem bw_1385 : (Jvm.Cond.selects "LiftSchedulerModel" ({ cls := "LiftSchedulerModel", name := "originOf", desc := "(I)I" } : Jvm.MethodName) ({ cls := "LiftSchedulerModel", name := "originOf", desc := "(I)I" } : Jvm.MethodName)) ∈ BW := bw_t 1385 (by decide +kernel) rfl
theorem bw_1386 : (Jvm.Cond.code ({ cls := "LiftSchedulerModel", name := "originOf", desc := "(I)I" } : Jvm.MethodName) prog_7_method_80_code (2 : Nat) (Option.some Jvm.ClassFile.FieldType.int)) ∈ BW := bw_t 1386 (by decide +kernel) rfl
theorem bw_1387 : (Jvm.Cond.methodLink "LiftSchedulerLaw" (205 : Nat) ({ cls := "LiftSchedulerModel", name := "destinationOf", desc := "(I)I" } : Jvm.MethodName)) ∈ BW := bw_t 1387 (by decide +kernel) rfl
theorem bw_1388 : (Jvm.Cond.instanceMethod ({ cls := "LiftSchedulerModel", name := "destinationOf", desc := "(I)I" } : Jvm.MethodName)) ∈ BW := bw_t 1388 (by decide +kernel) rfl
theorem bw_1389 : (Jvm.Cond.selects "LiftSchedulerModel" ({ cls := "LiftSchedulerModel", name := "destinationOf", desc := "(I)I" } : Jvm.MethodName) ({ cls := "LiftSchedulerModel", name := "destinationOf", desc := "(I)I" } : Jvm.MethodName)) ∈ BW := bw_t 1389 (by decide +kernel) rfl
theorem bw_1390 : (Jvm.Cond.code ({ cls := "LiftSchedulerModel", name := "destinationOf", desc := "(I)I" } : Jvm.MethodName) prog_7_method_81_code (2 : Nat) (Option.some Jvm.ClassFile.FieldType.int)) ∈ BW := bw_t 1390 (by decide +kernel) rfl
theorem bw_1391 : (Jvm.Cond.methodLink "LiftSchedulerLaw" (208 : Nat) ({ cls := "LiftSchedulerModel", name := "arrivalOf", desc := "(I)I" } : Jvm.MethodName)) ∈ BW := bw_t 1391 (by decide +kernel) rfl
theorem bw_1392 : (Jvm.Cond.instanceMethod ({ cls := "LiftSchedulerModel", name := "arrivalOf", desc := "(I)I" } : Jvm.MethodName)) ∈ BW := bw_t 1392 (by decide +kernel) rfl
theorem bw_1393 : (Jvm.Cond.selects "LiftSchedulerModel" ({ cls := "LiftSchedulerModel", name := "arrivalOf", desc := "(I)I" } : Jvm.MethodName) ({ cls := "LiftSchedulerModel", name := "arrivalOf", desc := "(I)I" } : Jvm.MethodName)) ∈ BW := bw_t 1393 (by decide +kernel) rfl
theorem bw_1394 : (Jvm.Cond.code ({ cls := "LiftSchedulerModel", name := "arrivalOf", desc := "(I)I" } : Jvm.MethodName) prog_7_method_82_code (2 : Nat) (Option.some Jvm.ClassFile.FieldType.int)) ∈ BW := bw_t 1394 (by decide +kernel) rfl
theorem bw_1395 : (Jvm.Cond.methodLink "LiftSchedulerLaw" (211 : Nat) ({ cls := "LiftSchedulerModel", name := "boardedAt", desc := "(I)I" } : Jvm.MethodName)) ∈ BW := bw_t 1395 (by decide +kernel) rfl
theorem bw_1396 : (Jvm.Cond.instanceMethod ({ cls := "LiftSchedulerModel", name := "boardedAt", desc := "(I)I" } : Jvm.MethodName)) ∈ BW := bw_t 1396 (by decide +kernel) rfl
theorem bw_1397 : (Jvm.Cond.selects "LiftSchedulerModel" ({ cls := "LiftSchedulerModel", name := "boardedAt", desc := "(I)I" } : Jvm.MethodName) ({ cls := "LiftSchedulerModel", name := "boardedAt", desc := "(I)I" } : Jvm.MethodName)) ∈ BW := bw_t 1397 (by decide +kernel) rfl
theorem bw_1398 : (Jvm.Cond.code ({ cls := "LiftSchedulerModel", name := "boardedAt", desc := "(I)I" } : Jvm.MethodName) prog_7_method_83_code (2 : Nat) (Option.some Jvm.ClassFile.FieldType.int)) ∈ BW := bw_t 1398 (by decide +kernel) rfl
theorem bw_1399 : (Jvm.Cond.methodLink "LiftSchedulerLaw" (214 : Nat) ({ cls := "LiftSchedulerModel", name := "leftAt", desc := "(I)I" } : Jvm.MethodName)) ∈ BW := bw_t 1399 (by decide +kernel) rfl
theorem bw_1400 : (Jvm.Cond.instanceMethod ({ cls := "LiftSchedulerModel", name := "leftAt", desc := "(I)I" } : Jvm.MethodName)) ∈ BW := bw_t 1400 (by decide +kernel) rfl
theorem bw_1401 : (Jvm.Cond.selects "LiftSchedulerModel" ({ cls := "LiftSchedulerModel", name := "leftAt", desc := "(I)I" } : Jvm.MethodName) ({ cls := "LiftSchedulerModel", name := "leftAt", desc := "(I)I" } : Jvm.MethodName)) ∈ BW := bw_t 1401 (by decide +kernel) rfl
theorem bw_1402 : (Jvm.Cond.code ({ cls := "LiftSchedulerModel", name := "leftAt", desc := "(I)I" } : Jvm.MethodName) prog_7_method_84_code (2 : Nat) (Option.some Jvm.ClassFile.FieldType.int)) ∈ BW := bw_t 1402 (by decide +kernel) rfl
theorem bw_1403 : (Jvm.Cond.methodLink "LiftSchedulerLaw" (217 : Nat) ({ cls := "LiftSchedulerModel", name := "waitOf", desc := "(I)I" } : Jvm.MethodName)) ∈ BW := bw_t 1403 (by decide +kernel) rfl
theorem bw_1404 : (Jvm.Cond.instanceMethod ({ cls := "LiftSchedulerModel", name := "waitOf", desc := "(I)I" } : Jvm.MethodName)) ∈ BW := bw_t 1404 (by decide +kernel) rfl
theorem bw_1405 : (Jvm.Cond.selects "LiftSchedulerModel" ({ cls := "LiftSchedulerModel", name := "waitOf", desc := "(I)I" } : Jvm.MethodName) ({ cls := "LiftSchedulerModel", name := "waitOf", desc := "(I)I" } : Jvm.MethodName)) ∈ BW := bw_t 1405 (by decide +kernel) rfl
theorem bw_1406 : (Jvm.Cond.code ({ cls := "LiftSchedulerModel", name := "waitOf", desc := "(I)I" } : Jvm.MethodName) prog_7_method_87_code (2 : Nat) (Option.some Jvm.ClassFile.FieldType.int)) ∈ BW := bw_t 1406 (by decide +kernel) rfl
theorem bw_1407 : (Jvm.Cond.methodLink "LiftSchedulerModel" (280 : Nat) ({ cls := "LiftSchedulerModel", name := "waited", desc := "(I)I" } : Jvm.MethodName)) ∈ BW := bw_t 1407 (by decide +kernel) rfl
theorem bw_1409 : (Jvm.Cond.instanceMethod ({ cls := "LiftSchedulerModel", name := "waited", desc := "(I)I" } : Jvm.MethodName)) ∈ BW := bw_t 1409 (by decide +kernel) rfl
theorem bw_1410 : (Jvm.Cond.code ({ cls := "LiftSchedulerModel", name := "waited", desc := "(I)I" } : Jvm.MethodName) prog_7_method_85_code (2 : Nat) (Option.some Jvm.ClassFile.FieldType.int)) ∈ BW := bw_t 1410 (by decide +kernel) rfl
theorem bw_1411 : (Jvm.Cond.methodLink "LiftSchedulerLaw" (220 : Nat) ({ cls := "LiftSchedulerModel", name := "rideOf", desc := "(I)I" } : Jvm.MethodName)) ∈ BW := bw_t 1411 (by decide +kernel) rfl
theorem bw_1412 : (Jvm.Cond.instanceMethod ({ cls := "LiftSchedulerModel", name := "rideOf", desc := "(I)I" } : Jvm.MethodName)) ∈ BW := bw_t 1412 (by decide +kernel) rfl
theorem bw_1413 : (Jvm.Cond.selects "LiftSchedulerModel" ({ cls := "LiftSchedulerModel", name := "rideOf", desc := "(I)I" } : Jvm.MethodName) ({ cls := "LiftSchedulerModel", name := "rideOf", desc := "(I)I" } : Jvm.MethodName)) ∈ BW := bw_t 1413 (by decide +kernel) rfl
theorem bw_1414 : (Jvm.Cond.code ({ cls := "LiftSchedulerModel", name := "rideOf", desc := "(I)I" } : Jvm.MethodName) prog_7_method_88_code (2 : Nat) (Option.some Jvm.ClassFile.FieldType.int)) ∈ BW := bw_t 1414 (by decide +kernel) rfl
theorem bw_1415 : (Jvm.Cond.methodLink "LiftSchedulerModel" (283 : Nat) ({ cls := "LiftSchedulerModel", name := "ridden", desc := "(I)I" } : Jvm.MethodName)) ∈ BW := bw_t 1415 (by decide +kernel) rfl
theorem bw_1417 : (Jvm.Cond.instanceMethod ({ cls := "LiftSchedulerModel", name := "ridden", desc := "(I)I" } : Jvm.MethodName)) ∈ BW := bw_t 1417 (by decide +kernel) rfl
theorem bw_1418 : (Jvm.Cond.code ({ cls := "LiftSchedulerModel", name := "ridden", desc := "(I)I" } : Jvm.MethodName) prog_7_method_86_code (2 : Nat) (Option.some Jvm.ClassFile.FieldType.int)) ∈ BW := bw_t 1418 (by decide +kernel) rfl
theorem bw_1419 : (Jvm.Cond.methodLink "LiftSchedulerLaw" (223 : Nat) ({ cls := "LiftSchedulerModel", name := "detourOf", desc := "(I)I" } : Jvm.MethodName)) ∈ BW := bw_t 1419 (by decide +kernel) rfl
theorem bw_1420 : (Jvm.Cond.instanceMethod ({ cls := "LiftSchedulerModel", name := "detourOf", desc := "(I)I" } : Jvm.MethodName)) ∈ BW := bw_t 1420 (by decide +kernel) rfl
theorem bw_1421 : (Jvm.Cond.selects "LiftSchedulerModel" ({ cls := "LiftSchedulerModel", name := "detourOf", desc := "(I)I" } : Jvm.MethodName) ({ cls := "LiftSchedulerModel", name := "detourOf", desc := "(I)I" } : Jvm.MethodName)) ∈ BW := bw_t 1421 (by decide +kernel) rfl
theorem bw_1422 : (Jvm.Cond.code ({ cls := "LiftSchedulerModel", name := "detourOf", desc := "(I)I" } : Jvm.MethodName) prog_7_method_89_code (3 : Nat) (Option.some Jvm.ClassFile.FieldType.int)) ∈ BW := bw_t 1422 (by decide +kernel) rfl
theorem bw_1423 : (Jvm.Cond.methodLink "LiftSchedulerLaw" (226 : Nat) ({ cls := "LiftSchedulerModel", name := "countStatus", desc := "(I)I" } : Jvm.MethodName)) ∈ BW := bw_t 1423 (by decide +kernel) rfl
theorem bw_1424 : (Jvm.Cond.instanceMethod ({ cls := "LiftSchedulerModel", name := "countStatus", desc := "(I)I" } : Jvm.MethodName)) ∈ BW := bw_t 1424 (by decide +kernel) rfl
theorem bw_1425 : (Jvm.Cond.selects "LiftSchedulerModel" ({ cls := "LiftSchedulerModel", name := "countStatus", desc := "(I)I" } : Jvm.MethodName) ({ cls := "LiftSchedulerModel", name := "countStatus", desc := "(I)I" } : Jvm.MethodName)) ∈ BW := bw_t 1425 (by decide +kernel) rfl
theorem bw_1426 : (Jvm.Cond.code ({ cls := "LiftSchedulerModel", name := "countStatus", desc := "(I)I" } : Jvm.MethodName) prog_7_method_90_code (2 : Nat) (Option.some Jvm.ClassFile.FieldType.int)) ∈ BW := bw_t 1426 (by decide +kernel) rfl
theorem bw_1427 : (Jvm.Cond.methodLink "LiftSchedulerLaw" (229 : Nat) ({ cls := "LiftSchedulerModel", name := "waitingAt", desc := "(I)I" } : Jvm.MethodName)) ∈ BW := bw_t 1427 (by decide +kernel) rfl
theorem bw_1428 : (Jvm.Cond.instanceMethod ({ cls := "LiftSchedulerModel", name := "waitingAt", desc := "(I)I" } : Jvm.MethodName)) ∈ BW := bw_t 1428 (by decide +kernel) rfl
theorem bw_1429 : (Jvm.Cond.selects "LiftSchedulerModel" ({ cls := "LiftSchedulerModel", name := "waitingAt", desc := "(I)I" } : Jvm.MethodName) ({ cls := "LiftSchedulerModel", name := "waitingAt", desc := "(I)I" } : Jvm.MethodName)) ∈ BW := bw_t 1429 (by decide +kernel) rfl
theorem bw_1430 : (Jvm.Cond.code ({ cls := "LiftSchedulerModel", name := "waitingAt", desc := "(I)I" } : Jvm.MethodName) prog_7_method_92_code (2 : Nat) (Option.some Jvm.ClassFile.FieldType.int)) ∈ BW := bw_t 1430 (by decide +kernel) rfl
theorem bw_1431 : (Jvm.Cond.methodLink "LiftSchedulerModel" (286 : Nat) ({ cls := "LiftSchedulerModel", name := "noFloor", desc := "(I)Z" } : Jvm.MethodName)) ∈ BW := bw_t 1431 (by decide +kernel) rfl
theorem bw_1433 : (Jvm.Cond.instanceMethod ({ cls := "LiftSchedulerModel", name := "noFloor", desc := "(I)Z" } : Jvm.MethodName)) ∈ BW := bw_t 1433 (by decide +kernel) rfl
theorem bw_1434 : (Jvm.Cond.code ({ cls := "LiftSchedulerModel", name := "noFloor", desc := "(I)Z" } : Jvm.MethodName) prog_7_method_63_code (2 : Nat) (Option.some Jvm.ClassFile.FieldType.boolean)) ∈ BW := bw_t 1434 (by decide +kernel) rfl
theorem bw_1435 : (Jvm.Cond.methodLink "LiftSchedulerModel" (289 : Nat) ({ cls := "LiftSchedulerModel", name := "waiting", desc := "(I)I" } : Jvm.MethodName)) ∈ BW := bw_t 1435 (by decide +kernel) rfl
theorem bw_1437 : (Jvm.Cond.instanceMethod ({ cls := "LiftSchedulerModel", name := "waiting", desc := "(I)I" } : Jvm.MethodName)) ∈ BW := bw_t 1437 (by decide +kernel) rfl
theorem bw_1438 : (Jvm.Cond.code ({ cls := "LiftSchedulerModel", name := "waiting", desc := "(I)I" } : Jvm.MethodName) prog_7_method_91_code (4 : Nat) (Option.some Jvm.ClassFile.FieldType.int)) ∈ BW := bw_t 1438 (by decide +kernel) rfl
theorem bw_1439 : (Jvm.Cond.methodLink "LiftSchedulerLaw" (233 : Nat) ({ cls := "LiftSchedulerModel", name := "queueAt", desc := "(II)I" } : Jvm.MethodName)) ∈ BW := bw_t 1439 (by decide +kernel) rfl
theorem bw_1440 : (Jvm.Cond.instanceMethod ({ cls := "LiftSchedulerModel", name := "queueAt", desc := "(II)I" } : Jvm.MethodName)) ∈ BW := bw_t 1440 (by decide +kernel) rfl
theorem bw_1441 : (Jvm.Cond.selects "LiftSchedulerModel" ({ cls := "LiftSchedulerModel", name := "queueAt", desc := "(II)I" } : Jvm.MethodName) ({ cls := "LiftSchedulerModel", name := "queueAt", desc := "(II)I" } : Jvm.MethodName)) ∈ BW := bw_t 1441 (by decide +kernel) rfl
theorem bw_1442 : (Jvm.Cond.code ({ cls := "LiftSchedulerModel", name := "queueAt", desc := "(II)I" } : Jvm.MethodName) prog_7_method_94_code (4 : Nat) (Option.some Jvm.ClassFile.FieldType.int)) ∈ BW := bw_t 1442 (by decide +kernel) rfl
theorem bw_1443 : (Jvm.Cond.methodLink "LiftSchedulerModel" (291 : Nat) ({ cls := "LiftSchedulerModel", name := "ahead", desc := "(I)I" } : Jvm.MethodName)) ∈ BW := bw_t 1443 (by decide +kernel) rfl
theorem bw_1445 : (Jvm.Cond.instanceMethod ({ cls := "LiftSchedulerModel", name := "ahead", desc := "(I)I" } : Jvm.MethodName)) ∈ BW := bw_t 1445 (by decide +kernel) rfl
theorem bw_1446 : (Jvm.Cond.code ({ cls := "LiftSchedulerModel", name := "ahead", desc := "(I)I" } : Jvm.MethodName) prog_7_method_93_code (4 : Nat) (Option.some Jvm.ClassFile.FieldType.int)) ∈ BW := bw_t 1446 (by decide +kernel) rfl
theorem bw_1447 : (Jvm.Cond.methodLink "LiftSchedulerLaw" (237 : Nat) ({ cls := "LiftSchedulerModel", name := "firstWaiting", desc := "()I" } : Jvm.MethodName)) ∈ BW := bw_t 1447 (by decide +kernel) rfl
theorem bw_1448 : (Jvm.Cond.instanceMethod ({ cls := "LiftSchedulerModel", name := "firstWaiting", desc := "()I" } : Jvm.MethodName)) ∈ BW := bw_t 1448 (by decide +kernel) rfl
theorem bw_1449 : (Jvm.Cond.selects "LiftSchedulerModel" ({ cls := "LiftSchedulerModel", name := "firstWaiting", desc := "()I" } : Jvm.MethodName) ({ cls := "LiftSchedulerModel", name := "firstWaiting", desc := "()I" } : Jvm.MethodName)) ∈ BW := bw_t 1449 (by decide +kernel) rfl
theorem bw_1450 : (Jvm.Cond.code ({ cls := "LiftSchedulerModel", name := "firstWaiting", desc := "()I" } : Jvm.MethodName) prog_7_method_95_code (1 : Nat) (Option.some Jvm.ClassFile.FieldType.int)) ∈ BW := bw_t 1450 (by decide +kernel) rfl
theorem bw_1451 : (Jvm.Cond.methodLink "LiftSchedulerLaw" (240 : Nat) ({ cls := "LiftSchedulerModel", name := "ridingTo", desc := "(I)I" } : Jvm.MethodName)) ∈ BW := bw_t 1451 (by decide +kernel) rfl
theorem bw_1452 : (Jvm.Cond.instanceMethod ({ cls := "LiftSchedulerModel", name := "ridingTo", desc := "(I)I" } : Jvm.MethodName)) ∈ BW := bw_t 1452 (by decide +kernel) rfl
theorem bw_1453 : (Jvm.Cond.selects "LiftSchedulerModel" ({ cls := "LiftSchedulerModel", name := "ridingTo", desc := "(I)I" } : Jvm.MethodName) ({ cls := "LiftSchedulerModel", name := "ridingTo", desc := "(I)I" } : Jvm.MethodName)) ∈ BW := bw_t 1453 (by decide +kernel) rfl
theorem bw_1454 : (Jvm.Cond.code ({ cls := "LiftSchedulerModel", name := "ridingTo", desc := "(I)I" } : Jvm.MethodName) prog_7_method_96_code (4 : Nat) (Option.some Jvm.ClassFile.FieldType.int)) ∈ BW := bw_t 1454 (by decide +kernel) rfl
theorem bw_1455 : (Jvm.Cond.methodLink "LiftSchedulerLaw" (244 : Nat) ({ cls := "LiftSchedulerModel", name := "busiestOrigin", desc := "()I" } : Jvm.MethodName)) ∈ BW := bw_t 1455 (by decide +kernel) rfl
theorem bw_1456 : (Jvm.Cond.instanceMethod ({ cls := "LiftSchedulerModel", name := "busiestOrigin", desc := "()I" } : Jvm.MethodName)) ∈ BW := bw_t 1456 (by decide +kernel) rfl
theorem bw_1457 : (Jvm.Cond.selects "LiftSchedulerModel" ({ cls := "LiftSchedulerModel", name := "busiestOrigin", desc := "()I" } : Jvm.MethodName) ({ cls := "LiftSchedulerModel", name := "busiestOrigin", desc := "()I" } : Jvm.MethodName)) ∈ BW := bw_t 1457 (by decide +kernel) rfl
theorem bw_1458 : (Jvm.Cond.code ({ cls := "LiftSchedulerModel", name := "busiestOrigin", desc := "()I" } : Jvm.MethodName) prog_7_method_98_code (3 : Nat) (Option.some Jvm.ClassFile.FieldType.int)) ∈ BW := bw_t 1458 (by decide +kernel) rfl
theorem bw_1459 : (Jvm.Cond.methodLink "LiftSchedulerModel" (294 : Nat) ({ cls := "LiftSchedulerModel", name := "startingAt", desc := "(I)I" } : Jvm.MethodName)) ∈ BW := bw_t 1459 (by decide +kernel) rfl
theorem bw_1461 : (Jvm.Cond.instanceMethod ({ cls := "LiftSchedulerModel", name := "startingAt", desc := "(I)I" } : Jvm.MethodName)) ∈ BW := bw_t 1461 (by decide +kernel) rfl
theorem bw_1462 : (Jvm.Cond.code ({ cls := "LiftSchedulerModel", name := "startingAt", desc := "(I)I" } : Jvm.MethodName) prog_7_method_97_code (4 : Nat) (Option.some Jvm.ClassFile.FieldType.int)) ∈ BW := bw_t 1462 (by decide +kernel) rfl
theorem bw_1463 : (Jvm.Cond.methodLink "LiftSchedulerLaw" (247 : Nat) ({ cls := "LiftSchedulerModel", name := "passengersBetween", desc := "(II)I" } : Jvm.MethodName)) ∈ BW := bw_t 1463 (by decide +kernel) rfl
theorem bw_1464 : (Jvm.Cond.instanceMethod ({ cls := "LiftSchedulerModel", name := "passengersBetween", desc := "(II)I" } : Jvm.MethodName)) ∈ BW := bw_t 1464 (by decide +kernel) rfl
theorem bw_1465 : (Jvm.Cond.selects "LiftSchedulerModel" ({ cls := "LiftSchedulerModel", name := "passengersBetween", desc := "(II)I" } : Jvm.MethodName) ({ cls := "LiftSchedulerModel", name := "passengersBetween", desc := "(II)I" } : Jvm.MethodName)) ∈ BW := bw_t 1465 (by decide +kernel) rfl
theorem bw_1466 : (Jvm.Cond.code ({ cls := "LiftSchedulerModel", name := "passengersBetween", desc := "(II)I" } : Jvm.MethodName) prog_7_method_99_code (5 : Nat) (Option.some Jvm.ClassFile.FieldType.int)) ∈ BW := bw_t 1466 (by decide +kernel) rfl
theorem bw_1467 : (Jvm.Cond.methodLink "LiftSchedulerLaw" (251 : Nat) ({ cls := "LiftSchedulerModel", name := "nextArrival", desc := "()I" } : Jvm.MethodName)) ∈ BW := bw_t 1467 (by decide +kernel) rfl
theorem bw_1468 : (Jvm.Cond.instanceMethod ({ cls := "LiftSchedulerModel", name := "nextArrival", desc := "()I" } : Jvm.MethodName)) ∈ BW := bw_t 1468 (by decide +kernel) rfl
theorem bw_1469 : (Jvm.Cond.selects "LiftSchedulerModel" ({ cls := "LiftSchedulerModel", name := "nextArrival", desc := "()I" } : Jvm.MethodName) ({ cls := "LiftSchedulerModel", name := "nextArrival", desc := "()I" } : Jvm.MethodName)) ∈ BW := bw_t 1469 (by decide +kernel) rfl
theorem bw_1470 : (Jvm.Cond.code ({ cls := "LiftSchedulerModel", name := "nextArrival", desc := "()I" } : Jvm.MethodName) prog_7_method_100_code (4 : Nat) (Option.some Jvm.ClassFile.FieldType.int)) ∈ BW := bw_t 1470 (by decide +kernel) rfl
theorem bw_1471 : (Jvm.Cond.methodLink "LiftSchedulerLaw" (255 : Nat) ({ cls := "LiftSchedulerModel", name := "totalRide", desc := "()I" } : Jvm.MethodName)) ∈ BW := bw_t 1471 (by decide +kernel) rfl
theorem bw_1472 : (Jvm.Cond.instanceMethod ({ cls := "LiftSchedulerModel", name := "totalRide", desc := "()I" } : Jvm.MethodName)) ∈ BW := bw_t 1472 (by decide +kernel) rfl
theorem bw_1473 : (Jvm.Cond.selects "LiftSchedulerModel" ({ cls := "LiftSchedulerModel", name := "totalRide", desc := "()I" } : Jvm.MethodName) ({ cls := "LiftSchedulerModel", name := "totalRide", desc := "()I" } : Jvm.MethodName)) ∈ BW := bw_t 1473 (by decide +kernel) rfl
theorem bw_1474 : (Jvm.Cond.code ({ cls := "LiftSchedulerModel", name := "totalRide", desc := "()I" } : Jvm.MethodName) prog_7_method_104_code (1 : Nat) (Option.some Jvm.ClassFile.FieldType.int)) ∈ BW := bw_t 1474 (by decide +kernel) rfl
theorem bw_1475 : (Jvm.Cond.methodLink "LiftSchedulerModel" (297 : Nat) ({ cls := "LiftSchedulerModel", name := "rides", desc := "()I" } : Jvm.MethodName)) ∈ BW := bw_t 1475 (by decide +kernel) rfl
theorem bw_1477 : (Jvm.Cond.instanceMethod ({ cls := "LiftSchedulerModel", name := "rides", desc := "()I" } : Jvm.MethodName)) ∈ BW := bw_t 1477 (by decide +kernel) rfl
theorem bw_1478 : (Jvm.Cond.code ({ cls := "LiftSchedulerModel", name := "rides", desc := "()I" } : Jvm.MethodName) prog_7_method_101_code (3 : Nat) (Option.some Jvm.ClassFile.FieldType.int)) ∈ BW := bw_t 1478 (by decide +kernel) rfl
theorem bw_1479 : (Jvm.Cond.methodLink "LiftSchedulerLaw" (259 : Nat) ({ cls := "LiftSchedulerModel", name := "longestRide", desc := "()I" } : Jvm.MethodName)) ∈ BW := bw_t 1479 (by decide +kernel) rfl
theorem bw_1480 : (Jvm.Cond.instanceMethod ({ cls := "LiftSchedulerModel", name := "longestRide", desc := "()I" } : Jvm.MethodName)) ∈ BW := bw_t 1480 (by decide +kernel) rfl
theorem bw_1481 : (Jvm.Cond.selects "LiftSchedulerModel" ({ cls := "LiftSchedulerModel", name := "longestRide", desc := "()I" } : Jvm.MethodName) ({ cls := "LiftSchedulerModel", name := "longestRide", desc := "()I" } : Jvm.MethodName)) ∈ BW := bw_t 1481 (by decide +kernel) rfl
theorem bw_1482 : (Jvm.Cond.code ({ cls := "LiftSchedulerModel", name := "longestRide", desc := "()I" } : Jvm.MethodName) prog_7_method_105_code (3 : Nat) (Option.some Jvm.ClassFile.FieldType.int)) ∈ BW := bw_t 1482 (by decide +kernel) rfl
theorem bw_1483 : (Jvm.Cond.methodLink "LiftSchedulerLaw" (263 : Nat) ({ cls := "LiftSchedulerModel", name := "lastDone", desc := "()I" } : Jvm.MethodName)) ∈ BW := bw_t 1483 (by decide +kernel) rfl
theorem bw_1484 : (Jvm.Cond.instanceMethod ({ cls := "LiftSchedulerModel", name := "lastDone", desc := "()I" } : Jvm.MethodName)) ∈ BW := bw_t 1484 (by decide +kernel) rfl
theorem bw_1485 : (Jvm.Cond.selects "LiftSchedulerModel" ({ cls := "LiftSchedulerModel", name := "lastDone", desc := "()I" } : Jvm.MethodName) ({ cls := "LiftSchedulerModel", name := "lastDone", desc := "()I" } : Jvm.MethodName)) ∈ BW := bw_t 1485 (by decide +kernel) rfl
theorem bw_1486 : (Jvm.Cond.code ({ cls := "LiftSchedulerModel", name := "lastDone", desc := "()I" } : Jvm.MethodName) prog_7_method_106_code (4 : Nat) (Option.some Jvm.ClassFile.FieldType.int)) ∈ BW := bw_t 1486 (by decide +kernel) rfl
theorem bw_1487 : (Jvm.Cond.methodLink "LiftSchedulerLaw" (268 : Nat) ({ cls := "LiftSchedulerModel", name := "movingShare", desc := "()F" } : Jvm.MethodName)) ∈ BW := bw_t 1487 (by decide +kernel) rfl
theorem bw_1488 : (Jvm.Cond.instanceMethod ({ cls := "LiftSchedulerModel", name := "movingShare", desc := "()F" } : Jvm.MethodName)) ∈ BW := bw_t 1488 (by decide +kernel) rfl
theorem bw_1489 : (Jvm.Cond.selects "LiftSchedulerModel" ({ cls := "LiftSchedulerModel", name := "movingShare", desc := "()F" } : Jvm.MethodName) ({ cls := "LiftSchedulerModel", name := "movingShare", desc := "()F" } : Jvm.MethodName)) ∈ BW := bw_t 1489 (by decide +kernel) rfl
theorem bw_1490 : (Jvm.Cond.code ({ cls := "LiftSchedulerModel", name := "movingShare", desc := "()F" } : Jvm.MethodName) prog_7_method_107_code (1 : Nat) (Option.some Jvm.ClassFile.FieldType.float)) ∈ BW := bw_t 1490 (by decide +kernel) rfl
theorem bw_1491 : (Jvm.Cond.methodLink "LiftSchedulerLaw" (272 : Nat) ({ cls := "LiftSchedulerModel", name := "totalWait", desc := "()I" } : Jvm.MethodName)) ∈ BW := bw_t 1491 (by decide +kernel) rfl
theorem bw_1492 : (Jvm.Cond.instanceMethod ({ cls := "LiftSchedulerModel", name := "totalWait", desc := "()I" } : Jvm.MethodName)) ∈ BW := bw_t 1492 (by decide +kernel) rfl
theorem bw_1493 : (Jvm.Cond.selects "LiftSchedulerModel" ({ cls := "LiftSchedulerModel", name := "totalWait", desc := "()I" } : Jvm.MethodName) ({ cls := "LiftSchedulerModel", name := "totalWait", desc := "()I" } : Jvm.MethodName)) ∈ BW := bw_t 1493 (by decide +kernel) rfl
theorem bw_1494 : (Jvm.Cond.code ({ cls := "LiftSchedulerModel", name := "totalWait", desc := "()I" } : Jvm.MethodName) prog_7_method_108_code (1 : Nat) (Option.some Jvm.ClassFile.FieldType.int)) ∈ BW := bw_t 1494 (by decide +kernel) rfl
theorem bw_1495 : (Jvm.Cond.methodLink "LiftSchedulerModel" (300 : Nat) ({ cls := "LiftSchedulerModel", name := "waits", desc := "()I" } : Jvm.MethodName)) ∈ BW := bw_t 1495 (by decide +kernel) rfl
theorem bw_1497 : (Jvm.Cond.instanceMethod ({ cls := "LiftSchedulerModel", name := "waits", desc := "()I" } : Jvm.MethodName)) ∈ BW := bw_t 1497 (by decide +kernel) rfl
theorem bw_1498 : (Jvm.Cond.code ({ cls := "LiftSchedulerModel", name := "waits", desc := "()I" } : Jvm.MethodName) prog_7_method_102_code (3 : Nat) (Option.some Jvm.ClassFile.FieldType.int)) ∈ BW := bw_t 1498 (by decide +kernel) rfl
theorem bw_1499 : (Jvm.Cond.methodLink "LiftSchedulerLaw" (276 : Nat) ({ cls := "LiftSchedulerModel", name := "longestWait", desc := "()I" } : Jvm.MethodName)) ∈ BW := bw_t 1499 (by decide +kernel) rfl
theorem bw_1500 : (Jvm.Cond.instanceMethod ({ cls := "LiftSchedulerModel", name := "longestWait", desc := "()I" } : Jvm.MethodName)) ∈ BW := bw_t 1500 (by decide +kernel) rfl
theorem bw_1501 : (Jvm.Cond.selects "LiftSchedulerModel" ({ cls := "LiftSchedulerModel", name := "longestWait", desc := "()I" } : Jvm.MethodName) ({ cls := "LiftSchedulerModel", name := "longestWait", desc := "()I" } : Jvm.MethodName)) ∈ BW := bw_t 1501 (by decide +kernel) rfl
theorem bw_1502 : (Jvm.Cond.code ({ cls := "LiftSchedulerModel", name := "longestWait", desc := "()I" } : Jvm.MethodName) prog_7_method_109_code (1 : Nat) (Option.some Jvm.ClassFile.FieldType.int)) ∈ BW := bw_t 1502 (by decide +kernel) rfl
theorem bw_1503 : (Jvm.Cond.methodLink "LiftSchedulerModel" (303 : Nat) ({ cls := "LiftSchedulerModel", name := "greatestWait", desc := "()I" } : Jvm.MethodName)) ∈ BW := bw_t 1503 (by decide +kernel) rfl
theorem bw_1505 : (Jvm.Cond.instanceMethod ({ cls := "LiftSchedulerModel", name := "greatestWait", desc := "()I" } : Jvm.MethodName)) ∈ BW := bw_t 1505 (by decide +kernel) rfl
theorem bw_1506 : (Jvm.Cond.code ({ cls := "LiftSchedulerModel", name := "greatestWait", desc := "()I" } : Jvm.MethodName) prog_7_method_103_code (3 : Nat) (Option.some Jvm.ClassFile.FieldType.int)) ∈ BW := bw_t 1506 (by decide +kernel) rfl
theorem bw_1507 : (Jvm.Cond.methodLink "LiftSchedulerLaw" (281 : Nat) ({ cls := "LiftSchedulerModel", name := "meanWait", desc := "()D" } : Jvm.MethodName)) ∈ BW := bw_t 1507 (by decide +kernel) rfl
theorem bw_1508 : (Jvm.Cond.instanceMethod ({ cls := "LiftSchedulerModel", name := "meanWait", desc := "()D" } : Jvm.MethodName)) ∈ BW := bw_t 1508 (by decide +kernel) rfl
theorem bw_1509 : (Jvm.Cond.selects "LiftSchedulerModel" ({ cls := "LiftSchedulerModel", name := "meanWait", desc := "()D" } : Jvm.MethodName) ({ cls := "LiftSchedulerModel", name := "meanWait", desc := "()D" } : Jvm.MethodName)) ∈ BW := bw_t 1509 (by decide +kernel) rfl
theorem bw_1510 : (Jvm.Cond.code ({ cls := "LiftSchedulerModel", name := "meanWait", desc := "()D" } : Jvm.MethodName) prog_7_method_110_code (2 : Nat) (Option.some Jvm.ClassFile.FieldType.double)) ∈ BW := bw_t 1510 (by decide +kernel) rfl
theorem bw_1511 : (Jvm.Cond.methodLink "LiftSchedulerLaw" (285 : Nat) ({ cls := "LiftSchedulerModel", name := "isFinished", desc := "()Z" } : Jvm.MethodName)) ∈ BW := bw_t 1511 (by decide +kernel) rfl
theorem bw_1512 : (Jvm.Cond.instanceMethod ({ cls := "LiftSchedulerModel", name := "isFinished", desc := "()Z" } : Jvm.MethodName)) ∈ BW := bw_t 1512 (by decide +kernel) rfl
theorem bw_1513 : (Jvm.Cond.selects "LiftSchedulerModel" ({ cls := "LiftSchedulerModel", name := "isFinished", desc := "()Z" } : Jvm.MethodName) ({ cls := "LiftSchedulerModel", name := "isFinished", desc := "()Z" } : Jvm.MethodName)) ∈ BW := bw_t 1513 (by decide +kernel) rfl
theorem bw_1514 : (Jvm.Cond.code ({ cls := "LiftSchedulerModel", name := "isFinished", desc := "()Z" } : Jvm.MethodName) prog_7_method_111_code (1 : Nat) (Option.some Jvm.ClassFile.FieldType.boolean)) ∈ BW := bw_t 1514 (by decide +kernel) rfl
theorem bw_1515 : (Jvm.Cond.methodLink "LiftSchedulerLaw" (289 : Nat) ({ cls := "LiftSchedulerModel", name := "ticksToFinish", desc := "()I" } : Jvm.MethodName)) ∈ BW := bw_t 1515 (by decide +kernel) rfl
theorem bw_1516 : (Jvm.Cond.instanceMethod ({ cls := "LiftSchedulerModel", name := "ticksToFinish", desc := "()I" } : Jvm.MethodName)) ∈ BW := bw_t 1516 (by decide +kernel) rfl
theorem bw_1517 : (Jvm.Cond.selects "LiftSchedulerModel" ({ cls := "LiftSchedulerModel", name := "ticksToFinish", desc := "()I" } : Jvm.MethodName) ({ cls := "LiftSchedulerModel", name := "ticksToFinish", desc := "()I" } : Jvm.MethodName)) ∈ BW := bw_t 1517 (by decide +kernel) rfl
theorem bw_1518 : (Jvm.Cond.code ({ cls := "LiftSchedulerModel", name := "ticksToFinish", desc := "()I" } : Jvm.MethodName) prog_7_method_112_code (2 : Nat) (Option.some Jvm.ClassFile.FieldType.int)) ∈ BW := bw_t 1518 (by decide +kernel) rfl
theorem bw_1519 : (Jvm.Cond.methodLink "LiftSchedulerModel" (306 : Nat) ({ cls := "LiftSchedulerModel", name := "forecasts", desc := "()I" } : Jvm.MethodName)) ∈ BW := bw_t 1519 (by decide +kernel) rfl
theorem bw_1521 : (Jvm.Cond.instanceMethod ({ cls := "LiftSchedulerModel", name := "forecasts", desc := "()I" } : Jvm.MethodName)) ∈ BW := bw_t 1521 (by decide +kernel) rfl
theorem bw_1522 : (Jvm.Cond.code ({ cls := "LiftSchedulerModel", name := "forecasts", desc := "()I" } : Jvm.MethodName) prog_7_method_29_code (1 : Nat) (Option.some Jvm.ClassFile.FieldType.int)) ∈ BW := bw_t 1522 (by decide +kernel) rfl
theorem bw_1523 : (Jvm.Cond.constant "LiftSchedulerModel" (107 : Nat) (99999 : Int32)) ∈ BW := bw_t 1523 (by decide +kernel) rfl
theorem bw_1524 : (Jvm.Cond.methodLink "LiftSchedulerLaw" (292 : Nat) ({ cls := "LiftSchedulerModel", name := "ticksWithPolicy", desc := "(I)I" } : Jvm.MethodName)) ∈ BW := bw_t 1524 (by decide +kernel) rfl
theorem bw_1525 : (Jvm.Cond.instanceMethod ({ cls := "LiftSchedulerModel", name := "ticksWithPolicy", desc := "(I)I" } : Jvm.MethodName)) ∈ BW := bw_t 1525 (by decide +kernel) rfl
theorem bw_1526 : (Jvm.Cond.selects "LiftSchedulerModel" ({ cls := "LiftSchedulerModel", name := "ticksWithPolicy", desc := "(I)I" } : Jvm.MethodName) ({ cls := "LiftSchedulerModel", name := "ticksWithPolicy", desc := "(I)I" } : Jvm.MethodName)) ∈ BW := bw_t 1526 (by decide +kernel) rfl
theorem bw_1527 : (Jvm.Cond.code ({ cls := "LiftSchedulerModel", name := "ticksWithPolicy", desc := "(I)I" } : Jvm.MethodName) prog_7_method_113_code (3 : Nat) (Option.some Jvm.ClassFile.FieldType.int)) ∈ BW := bw_t 1527 (by decide +kernel) rfl
theorem bw_1528 : (Jvm.Cond.methodLink "LiftSchedulerLaw" (295 : Nat) ({ cls := "LiftSchedulerModel", name := "waitWithPolicy", desc := "(I)I" } : Jvm.MethodName)) ∈ BW := bw_t 1528 (by decide +kernel) rfl
theorem bw_1529 : (Jvm.Cond.instanceMethod ({ cls := "LiftSchedulerModel", name := "waitWithPolicy", desc := "(I)I" } : Jvm.MethodName)) ∈ BW := bw_t 1529 (by decide +kernel) rfl
theorem bw_1530 : (Jvm.Cond.selects "LiftSchedulerModel" ({ cls := "LiftSchedulerModel", name := "waitWithPolicy", desc := "(I)I" } : Jvm.MethodName) ({ cls := "LiftSchedulerModel", name := "waitWithPolicy", desc := "(I)I" } : Jvm.MethodName)) ∈ BW := bw_t 1530 (by decide +kernel) rfl
theorem bw_1531 : (Jvm.Cond.code ({ cls := "LiftSchedulerModel", name := "waitWithPolicy", desc := "(I)I" } : Jvm.MethodName) prog_7_method_115_code (2 : Nat) (Option.some Jvm.ClassFile.FieldType.int)) ∈ BW := bw_t 1531 (by decide +kernel) rfl
theorem bw_1532 : (Jvm.Cond.methodLink "LiftSchedulerModel" (309 : Nat) ({ cls := "LiftSchedulerModel", name := "waitsBy", desc := "(I)I" } : Jvm.MethodName)) ∈ BW := bw_t 1532 (by decide +kernel) rfl
theorem bw_1534 : (Jvm.Cond.instanceMethod ({ cls := "LiftSchedulerModel", name := "waitsBy", desc := "(I)I" } : Jvm.MethodName)) ∈ BW := bw_t 1534 (by decide +kernel) rfl
theorem bw_1535 : (Jvm.Cond.code ({ cls := "LiftSchedulerModel", name := "waitsBy", desc := "(I)I" } : Jvm.MethodName) prog_7_method_114_code (4 : Nat) (Option.some Jvm.ClassFile.FieldType.int)) ∈ BW := bw_t 1535 (by decide +kernel) rfl
theorem bw_1536 : (Jvm.Cond.methodLink "LiftSchedulerLaw" (298 : Nat) ({ cls := "LiftSchedulerModel", name := "longestWaitWithPolicy", desc := "(I)I" } : Jvm.MethodName)) ∈ BW := bw_t 1536 (by decide +kernel) rfl
theorem bw_1537 : (Jvm.Cond.instanceMethod ({ cls := "LiftSchedulerModel", name := "longestWaitWithPolicy", desc := "(I)I" } : Jvm.MethodName)) ∈ BW := bw_t 1537 (by decide +kernel) rfl
theorem bw_1538 : (Jvm.Cond.selects "LiftSchedulerModel" ({ cls := "LiftSchedulerModel", name := "longestWaitWithPolicy", desc := "(I)I" } : Jvm.MethodName) ({ cls := "LiftSchedulerModel", name := "longestWaitWithPolicy", desc := "(I)I" } : Jvm.MethodName)) ∈ BW := bw_t 1538 (by decide +kernel) rfl
theorem bw_1539 : (Jvm.Cond.code ({ cls := "LiftSchedulerModel", name := "longestWaitWithPolicy", desc := "(I)I" } : Jvm.MethodName) prog_7_method_116_code (4 : Nat) (Option.some Jvm.ClassFile.FieldType.int)) ∈ BW := bw_t 1539 (by decide +kernel) rfl
theorem bw_1540 : (Jvm.Cond.methodLink "LiftSchedulerLaw" (302 : Nat) ({ cls := "LiftSchedulerModel", name := "bestPolicy", desc := "()I" } : Jvm.MethodName)) ∈ BW := bw_t 1540 (by decide +kernel) rfl
theorem bw_1541 : (Jvm.Cond.instanceMethod ({ cls := "LiftSchedulerModel", name := "bestPolicy", desc := "()I" } : Jvm.MethodName)) ∈ BW := bw_t 1541 (by decide +kernel) rfl
theorem bw_1542 : (Jvm.Cond.selects "LiftSchedulerModel" ({ cls := "LiftSchedulerModel", name := "bestPolicy", desc := "()I" } : Jvm.MethodName) ({ cls := "LiftSchedulerModel", name := "bestPolicy", desc := "()I" } : Jvm.MethodName)) ∈ BW := bw_t 1542 (by decide +kernel) rfl
theorem bw_1543 : (Jvm.Cond.code ({ cls := "LiftSchedulerModel", name := "bestPolicy", desc := "()I" } : Jvm.MethodName) prog_7_method_117_code (4 : Nat) (Option.some Jvm.ClassFile.FieldType.int)) ∈ BW := bw_t 1543 (by decide +kernel) rfl
theorem bw_1544 : (Jvm.Cond.methodLink "LiftSchedulerLaw" (305 : Nat) ({ cls := "LiftSchedulerModel", name := "ticksWithCapacity", desc := "(I)I" } : Jvm.MethodName)) ∈ BW := bw_t 1544 (by decide +kernel) rfl
theorem bw_1545 : (Jvm.Cond.instanceMethod ({ cls := "LiftSchedulerModel", name := "ticksWithCapacity", desc := "(I)I" } : Jvm.MethodName)) ∈ BW := bw_t 1545 (by decide +kernel) rfl
theorem bw_1546 : (Jvm.Cond.selects "LiftSchedulerModel" ({ cls := "LiftSchedulerModel", name := "ticksWithCapacity", desc := "(I)I" } : Jvm.MethodName) ({ cls := "LiftSchedulerModel", name := "ticksWithCapacity", desc := "(I)I" } : Jvm.MethodName)) ∈ BW := bw_t 1546 (by decide +kernel) rfl
theorem bw_1547 : (Jvm.Cond.code ({ cls := "LiftSchedulerModel", name := "ticksWithCapacity", desc := "(I)I" } : Jvm.MethodName) prog_7_method_119_code (3 : Nat) (Option.some Jvm.ClassFile.FieldType.int)) ∈ BW := bw_t 1547 (by decide +kernel) rfl
theorem bw_1548 : (Jvm.Cond.methodLink "LiftSchedulerModel" (312 : Nat) ({ cls := "LiftSchedulerModel", name := "noCapacity", desc := "(I)Z" } : Jvm.MethodName)) ∈ BW := bw_t 1548 (by decide +kernel) rfl
theorem bw_1550 : (Jvm.Cond.instanceMethod ({ cls := "LiftSchedulerModel", name := "noCapacity", desc := "(I)Z" } : Jvm.MethodName)) ∈ BW := bw_t 1550 (by decide +kernel) rfl
theorem bw_1551 : (Jvm.Cond.code ({ cls := "LiftSchedulerModel", name := "noCapacity", desc := "(I)Z" } : Jvm.MethodName) prog_7_method_118_code (2 : Nat) (Option.some Jvm.ClassFile.FieldType.boolean)) ∈ BW := bw_t 1551 (by decide +kernel) rfl
theorem bw_1552 : (Jvm.Cond.methodLink "LiftSchedulerLaw" (308 : Nat) ({ cls := "LiftSchedulerModel", name := "expectedAt", desc := "(I)I" } : Jvm.MethodName)) ∈ BW := bw_t 1552 (by decide +kernel) rfl
theorem bw_1553 : (Jvm.Cond.instanceMethod ({ cls := "LiftSchedulerModel", name := "expectedAt", desc := "(I)I" } : Jvm.MethodName)) ∈ BW := bw_t 1553 (by decide +kernel) rfl
theorem bw_1554 : (Jvm.Cond.selects "LiftSchedulerModel" ({ cls := "LiftSchedulerModel", name := "expectedAt", desc := "(I)I" } : Jvm.MethodName) ({ cls := "LiftSchedulerModel", name := "expectedAt", desc := "(I)I" } : Jvm.MethodName)) ∈ BW := bw_t 1554 (by decide +kernel) rfl
theorem bw_1555 : (Jvm.Cond.code ({ cls := "LiftSchedulerModel", name := "expectedAt", desc := "(I)I" } : Jvm.MethodName) prog_7_method_120_code (4 : Nat) (Option.some Jvm.ClassFile.FieldType.int)) ∈ BW := bw_t 1555 (by decide +kernel) rfl
theorem bw_1556 : (Jvm.Cond.methodLink "LiftSchedulerLaw" (312 : Nat) ({ cls := "LiftSchedulerModel", name := "addPassenger", desc := "(III)I" } : Jvm.MethodName)) ∈ BW := bw_t 1556 (by decide +kernel) rfl
theorem bw_1557 : (Jvm.Cond.instanceMethod ({ cls := "LiftSchedulerModel", name := "addPassenger", desc := "(III)I" } : Jvm.MethodName)) ∈ BW := bw_t 1557 (by decide +kernel) rfl
theorem bw_1558 : (Jvm.Cond.selects "LiftSchedulerModel" ({ cls := "LiftSchedulerModel", name := "addPassenger", desc := "(III)I" } : Jvm.MethodName) ({ cls := "LiftSchedulerModel", name := "addPassenger", desc := "(III)I" } : Jvm.MethodName)) ∈ BW := bw_t 1558 (by decide +kernel) rfl
theorem bw_1559 : (Jvm.Cond.code ({ cls := "LiftSchedulerModel", name := "addPassenger", desc := "(III)I" } : Jvm.MethodName) prog_7_method_121_code (4 : Nat) (Option.some Jvm.ClassFile.FieldType.int)) ∈ BW := bw_t 1559 (by decide +kernel) rfl
theorem bw_1560 : (Jvm.Cond.methodLink "LiftSchedulerLaw" (315 : Nat) ({ cls := "LiftSchedulerModel", name := "run", desc := "(I)I" } : Jvm.MethodName)) ∈ BW := bw_t 1560 (by decide +kernel) rfl
theorem bw_1561 : (Jvm.Cond.instanceMethod ({ cls := "LiftSchedulerModel", name := "run", desc := "(I)I" } : Jvm.MethodName)) ∈ BW := bw_t 1561 (by decide +kernel) rfl
theorem bw_1562 : (Jvm.Cond.selects "LiftSchedulerModel" ({ cls := "LiftSchedulerModel", name := "run", desc := "(I)I" } : Jvm.MethodName) ({ cls := "LiftSchedulerModel", name := "run", desc := "(I)I" } : Jvm.MethodName)) ∈ BW := bw_t 1562 (by decide +kernel) rfl
theorem bw_1563 : (Jvm.Cond.code ({ cls := "LiftSchedulerModel", name := "run", desc := "(I)I" } : Jvm.MethodName) prog_7_method_122_code (3 : Nat) (Option.some Jvm.ClassFile.FieldType.int)) ∈ BW := bw_t 1563 (by decide +kernel) rfl
theorem bw_1564 : (Jvm.Cond.methodLink "LiftSchedulerLaw" (319 : Nat) ({ cls := "LiftSchedulerModel", name := "runToEnd", desc := "()I" } : Jvm.MethodName)) ∈ BW := bw_t 1564 (by decide +kernel) rfl
theorem bw_1565 : (Jvm.Cond.instanceMethod ({ cls := "LiftSchedulerModel", name := "runToEnd", desc := "()I" } : Jvm.MethodName)) ∈ BW := bw_t 1565 (by decide +kernel) rfl
theorem bw_1566 : (Jvm.Cond.selects "LiftSchedulerModel" ({ cls := "LiftSchedulerModel", name := "runToEnd", desc := "()I" } : Jvm.MethodName) ({ cls := "LiftSchedulerModel", name := "runToEnd", desc := "()I" } : Jvm.MethodName)) ∈ BW := bw_t 1566 (by decide +kernel) rfl
theorem bw_1567 : (Jvm.Cond.code ({ cls := "LiftSchedulerModel", name := "runToEnd", desc := "()I" } : Jvm.MethodName) prog_7_method_123_code (1 : Nat) (Option.some Jvm.ClassFile.FieldType.int)) ∈ BW := bw_t 1567 (by decide +kernel) rfl
theorem bw_1568 : (Jvm.Cond.methodLink "LiftSchedulerLaw" (322 : Nat) ({ cls := "LiftSchedulerModel", name := "setPolicy", desc := "(I)I" } : Jvm.MethodName)) ∈ BW := bw_t 1568 (by decide +kernel) rfl
theorem bw_1569 : (Jvm.Cond.instanceMethod ({ cls := "LiftSchedulerModel", name := "setPolicy", desc := "(I)I" } : Jvm.MethodName)) ∈ BW := bw_t 1569 (by decide +kernel) rfl
theorem bw_1570 : (Jvm.Cond.selects "LiftSchedulerModel" ({ cls := "LiftSchedulerModel", name := "setPolicy", desc := "(I)I" } : Jvm.MethodName) ({ cls := "LiftSchedulerModel", name := "setPolicy", desc := "(I)I" } : Jvm.MethodName)) ∈ BW := bw_t 1570 (by decide +kernel) rfl
theorem bw_1571 : (Jvm.Cond.code ({ cls := "LiftSchedulerModel", name := "setPolicy", desc := "(I)I" } : Jvm.MethodName) prog_7_method_124_code (3 : Nat) (Option.some Jvm.ClassFile.FieldType.int)) ∈ BW := bw_t 1571 (by decide +kernel) rfl
theorem bw_1572 : (Jvm.Cond.methodLink "LiftSchedulerLaw" (325 : Nat) ({ cls := "LiftSchedulerModel", name := "setCapacity", desc := "(I)I" } : Jvm.MethodName)) ∈ BW := bw_t 1572 (by decide +kernel) rfl
theorem bw_1573 : (Jvm.Cond.instanceMethod ({ cls := "LiftSchedulerModel", name := "setCapacity", desc := "(I)I" } : Jvm.MethodName)) ∈ BW := bw_t 1573 (by decide +kernel) rfl
theorem bw_1574 : (Jvm.Cond.selects "LiftSchedulerModel" ({ cls := "LiftSchedulerModel", name := "setCapacity", desc := "(I)I" } : Jvm.MethodName) ({ cls := "LiftSchedulerModel", name := "setCapacity", desc := "(I)I" } : Jvm.MethodName)) ∈ BW := bw_t 1574 (by decide +kernel) rfl
theorem bw_1575 : (Jvm.Cond.code ({ cls := "LiftSchedulerModel", name := "setCapacity", desc := "(I)I" } : Jvm.MethodName) prog_7_method_125_code (3 : Nat) (Option.some Jvm.ClassFile.FieldType.int)) ∈ BW := bw_t 1575 (by decide +kernel) rfl
theorem bw_1576 : (Jvm.Cond.methodLink "LiftSchedulerLaw" (328 : Nat) ({ cls := "LiftSchedulerModel", name := "undo", desc := "()I" } : Jvm.MethodName)) ∈ BW := bw_t 1576 (by decide +kernel) rfl
theorem bw_1577 : (Jvm.Cond.instanceMethod ({ cls := "LiftSchedulerModel", name := "undo", desc := "()I" } : Jvm.MethodName)) ∈ BW := bw_t 1577 (by decide +kernel) rfl
theorem bw_1578 : (Jvm.Cond.selects "LiftSchedulerModel" ({ cls := "LiftSchedulerModel", name := "undo", desc := "()I" } : Jvm.MethodName) ({ cls := "LiftSchedulerModel", name := "undo", desc := "()I" } : Jvm.MethodName)) ∈ BW := bw_t 1578 (by decide +kernel) rfl
theorem bw_1579 : (Jvm.Cond.code ({ cls := "LiftSchedulerModel", name := "undo", desc := "()I" } : Jvm.MethodName) prog_7_method_126_code (1 : Nat) (Option.some Jvm.ClassFile.FieldType.int)) ∈ BW := bw_t 1579 (by decide +kernel) rfl
theorem bw_1580 : (Jvm.Cond.methodLink "LiftSchedulerLaw" (332 : Nat) ({ cls := "LiftSchedulerModel", name := "undoDepth", desc := "()I" } : Jvm.MethodName)) ∈ BW := bw_t 1580 (by decide +kernel) rfl
theorem bw_1581 : (Jvm.Cond.instanceMethod ({ cls := "LiftSchedulerModel", name := "undoDepth", desc := "()I" } : Jvm.MethodName)) ∈ BW := bw_t 1581 (by decide +kernel) rfl
theorem bw_1582 : (Jvm.Cond.selects "LiftSchedulerModel" ({ cls := "LiftSchedulerModel", name := "undoDepth", desc := "()I" } : Jvm.MethodName) ({ cls := "LiftSchedulerModel", name := "undoDepth", desc := "()I" } : Jvm.MethodName)) ∈ BW := bw_t 1582 (by decide +kernel) rfl
theorem bw_1583 : (Jvm.Cond.code ({ cls := "LiftSchedulerModel", name := "undoDepth", desc := "()I" } : Jvm.MethodName) prog_7_method_127_code (1 : Nat) (Option.some Jvm.ClassFile.FieldType.int)) ∈ BW := bw_t 1583 (by decide +kernel) rfl
theorem bw_1584 : (Jvm.Cond.methodLink "LiftSchedulerLaw" (335 : Nat) ({ cls := "LiftSchedulerModel", name := "save", desc := "(I)Z" } : Jvm.MethodName)) ∈ BW := bw_t 1584 (by decide +kernel) rfl
theorem bw_1585 : (Jvm.Cond.instanceMethod ({ cls := "LiftSchedulerModel", name := "save", desc := "(I)Z" } : Jvm.MethodName)) ∈ BW := bw_t 1585 (by decide +kernel) rfl
theorem bw_1586 : (Jvm.Cond.selects "LiftSchedulerModel" ({ cls := "LiftSchedulerModel", name := "save", desc := "(I)Z" } : Jvm.MethodName) ({ cls := "LiftSchedulerModel", name := "save", desc := "(I)Z" } : Jvm.MethodName)) ∈ BW := bw_t 1586 (by decide +kernel) rfl
theorem bw_1587 : (Jvm.Cond.code ({ cls := "LiftSchedulerModel", name := "save", desc := "(I)Z" } : Jvm.MethodName) prog_7_method_128_code (3 : Nat) (Option.some Jvm.ClassFile.FieldType.boolean)) ∈ BW := bw_t 1587 (by decide +kernel) rfl
theorem bw_1588 : (Jvm.Cond.methodLink "LiftSchedulerLaw" (338 : Nat) ({ cls := "LiftSchedulerModel", name := "restore", desc := "(I)I" } : Jvm.MethodName)) ∈ BW := bw_t 1588 (by decide +kernel) rfl
theorem bw_1589 : (Jvm.Cond.instanceMethod ({ cls := "LiftSchedulerModel", name := "restore", desc := "(I)I" } : Jvm.MethodName)) ∈ BW := bw_t 1589 (by decide +kernel) rfl
theorem bw_1590 : (Jvm.Cond.selects "LiftSchedulerModel" ({ cls := "LiftSchedulerModel", name := "restore", desc := "(I)I" } : Jvm.MethodName) ({ cls := "LiftSchedulerModel", name := "restore", desc := "(I)I" } : Jvm.MethodName)) ∈ BW := bw_t 1590 (by decide +kernel) rfl
theorem bw_1591 : (Jvm.Cond.code ({ cls := "LiftSchedulerModel", name := "restore", desc := "(I)I" } : Jvm.MethodName) prog_7_method_129_code (2 : Nat) (Option.some Jvm.ClassFile.FieldType.int)) ∈ BW := bw_t 1591 (by decide +kernel) rfl
theorem bw_1592 : (Jvm.Cond.methodLink "LiftSchedulerLaw" (342 : Nat) ({ cls := "LiftSchedulerModel", name := "writeStatus", desc := "()I" } : Jvm.MethodName)) ∈ BW := bw_t 1592 (by decide +kernel) rfl
theorem bw_1593 : (Jvm.Cond.instanceMethod ({ cls := "LiftSchedulerModel", name := "writeStatus", desc := "()I" } : Jvm.MethodName)) ∈ BW := bw_t 1593 (by decide +kernel) rfl
theorem bw_1594 : (Jvm.Cond.selects "LiftSchedulerModel" ({ cls := "LiftSchedulerModel", name := "writeStatus", desc := "()I" } : Jvm.MethodName) ({ cls := "LiftSchedulerModel", name := "writeStatus", desc := "()I" } : Jvm.MethodName)) ∈ BW := bw_t 1594 (by decide +kernel) rfl
theorem bw_1595 : (Jvm.Cond.code ({ cls := "LiftSchedulerModel", name := "writeStatus", desc := "()I" } : Jvm.MethodName) prog_7_method_132_code (3 : Nat) (Option.some Jvm.ClassFile.FieldType.int)) ∈ BW := bw_t 1595 (by decide +kernel) rfl
theorem bw_1596 : (Jvm.Cond.methodLink "LiftSchedulerModel" (318 : Nat) ({ cls := "LiftSchedulerModel", name := "write", desc := "(I)V" } : Jvm.MethodName)) ∈ BW := bw_t 1596 (by decide +kernel) rfl
theorem bw_1598 : (Jvm.Cond.instanceMethod ({ cls := "LiftSchedulerModel", name := "write", desc := "(I)V" } : Jvm.MethodName)) ∈ BW := bw_t 1598 (by decide +kernel) rfl
theorem bw_1599 : (Jvm.Cond.code ({ cls := "LiftSchedulerModel", name := "write", desc := "(I)V" } : Jvm.MethodName) prog_7_method_130_code (2 : Nat) (Option.none : Option Jvm.ClassFile.FieldType)) ∈ BW := bw_t 1599 (by decide +kernel) rfl
theorem bw_1600 : (Jvm.Cond.methodLink "LiftSchedulerLaw" (346 : Nat) ({ cls := "LiftSchedulerModel", name := "writeBuilding", desc := "()I" } : Jvm.MethodName)) ∈ BW := bw_t 1600 (by decide +kernel) rfl
theorem bw_1601 : (Jvm.Cond.instanceMethod ({ cls := "LiftSchedulerModel", name := "writeBuilding", desc := "()I" } : Jvm.MethodName)) ∈ BW := bw_t 1601 (by decide +kernel) rfl
theorem bw_1602 : (Jvm.Cond.selects "LiftSchedulerModel" ({ cls := "LiftSchedulerModel", name := "writeBuilding", desc := "()I" } : Jvm.MethodName) ({ cls := "LiftSchedulerModel", name := "writeBuilding", desc := "()I" } : Jvm.MethodName)) ∈ BW := bw_t 1602 (by decide +kernel) rfl
theorem bw_1603 : (Jvm.Cond.code ({ cls := "LiftSchedulerModel", name := "writeBuilding", desc := "()I" } : Jvm.MethodName) prog_7_method_133_code (2 : Nat) (Option.some Jvm.ClassFile.FieldType.int)) ∈ BW := bw_t 1603 (by decide +kernel) rfl
theorem bw_1604 : (Jvm.Cond.methodLink "LiftSchedulerModel" (321 : Nat) ({ cls := "LiftSchedulerModel", name := "writeNumber", desc := "(I)V" } : Jvm.MethodName)) ∈ BW := bw_t 1604 (by decide +kernel) rfl
theorem bw_1606 : (Jvm.Cond.instanceMethod ({ cls := "LiftSchedulerModel", name := "writeNumber", desc := "(I)V" } : Jvm.MethodName)) ∈ BW := bw_t 1606 (by decide +kernel) rfl
theorem bw_1607 : (Jvm.Cond.code ({ cls := "LiftSchedulerModel", name := "writeNumber", desc := "(I)V" } : Jvm.MethodName) prog_7_method_131_code (2 : Nat) (Option.none : Option Jvm.ClassFile.FieldType)) ∈ BW := bw_t 1607 (by decide +kernel) rfl
theorem bw_1608 : (Jvm.Cond.methodLink "LiftSchedulerLaw" (350 : Nat) ({ cls := "LiftSchedulerModel", name := "outputByte", desc := "(I)I" } : Jvm.MethodName)) ∈ BW := bw_t 1608 (by decide +kernel) rfl
theorem bw_1609 : (Jvm.Cond.instanceMethod ({ cls := "LiftSchedulerModel", name := "outputByte", desc := "(I)I" } : Jvm.MethodName)) ∈ BW := bw_t 1609 (by decide +kernel) rfl
theorem bw_1610 : (Jvm.Cond.selects "LiftSchedulerModel" ({ cls := "LiftSchedulerModel", name := "outputByte", desc := "(I)I" } : Jvm.MethodName) ({ cls := "LiftSchedulerModel", name := "outputByte", desc := "(I)I" } : Jvm.MethodName)) ∈ BW := bw_t 1610 (by decide +kernel) rfl
theorem bw_1611 : (Jvm.Cond.code ({ cls := "LiftSchedulerModel", name := "outputByte", desc := "(I)I" } : Jvm.MethodName) prog_7_method_134_code (2 : Nat) (Option.some Jvm.ClassFile.FieldType.int)) ∈ BW := bw_t 1611 (by decide +kernel) rfl
theorem bw_1612 : (Jvm.Cond.arrayClass Jvm.ClassFile.FieldType.long) ∈ BW := bw_t 1612 (by decide +kernel) rfl
theorem bw_1614 : (Jvm.Cond.fieldLink "LiftScheduler$Script" (76 : Nat) "LiftScheduler$Kind" "text" "Ljava/lang/String;") ∈ BW := bw_t 1614 (by decide +kernel) rfl
theorem bw_1615 : (Jvm.Cond.fieldLink "java/lang/String" (9 : Nat) "java/lang/String" "value" "[B") ∈ BW := bw_t 1615 (by decide +kernel) rfl
theorem bw_1616 : (Jvm.Cond.fieldLink "java/lang/String" (15 : Nat) "java/lang/String" "coder" "B") ∈ BW := bw_t 1616 (by decide +kernel) rfl
theorem bw_1617 : (Jvm.Cond.fieldLink "java/lang/Enum" (7 : Nat) "java/lang/Enum" "ordinal" "I") ∈ BW := bw_t 1617 (by decide +kernel) rfl
theorem bs_0 : Cond.selects "LiftScheduler" ⟨"LiftScheduler", "appendFour", "(I)V"⟩ ⟨"LiftScheduler", "appendFour", "(I)V"⟩ ∈ BW := bw_s 0 (by decide +kernel) rfl
theorem bs_1 : Cond.selects "LiftScheduler" ⟨"LiftScheduler", "forecast", "(II)I"⟩ ⟨"LiftScheduler", "forecast", "(II)I"⟩ ∈ BW := bw_s 1 (by decide +kernel) rfl
theorem bs_2 : Cond.selects "LiftScheduler$Simulation" ⟨"LiftScheduler$Simulation", "findFirstRiding", "()I"⟩ ⟨"LiftScheduler$Simulation", "findFirstRiding", "()I"⟩ ∈ BW := bw_s 2 (by decide +kernel) rfl
theorem bs_3 : Cond.selects "LiftScheduler$Simulation" ⟨"LiftScheduler$Simulation", "findStopBelow", "(I)I"⟩ ⟨"LiftScheduler$Simulation", "findStopBelow", "(I)I"⟩ ∈ BW := bw_s 3 (by decide +kernel) rfl
theorem bs_4 : Cond.selects "LiftScheduler$Simulation" ⟨"LiftScheduler$Simulation", "findStopAbove", "(I)I"⟩ ⟨"LiftScheduler$Simulation", "findStopAbove", "(I)I"⟩ ∈ BW := bw_s 4 (by decide +kernel) rfl
theorem bs_5 : Cond.selects "LiftScheduler$Simulation" ⟨"LiftScheduler$Simulation", "openDoors", "()V"⟩ ⟨"LiftScheduler$Simulation", "openDoors", "()V"⟩ ∈ BW := bw_s 5 (by decide +kernel) rfl
theorem bs_6 : Cond.selects "LiftScheduler$Simulation" ⟨"LiftScheduler$Simulation", "moveTowards", "(I)V"⟩ ⟨"LiftScheduler$Simulation", "moveTowards", "(I)V"⟩ ∈ BW := bw_s 6 (by decide +kernel) rfl
theorem bs_7 : Cond.selects "LiftScheduler" ⟨"LiftScheduler", "forecastWaits", "(I)I"⟩ ⟨"LiftScheduler", "forecastWaits", "(I)I"⟩ ∈ BW := bw_s 7 (by decide +kernel) rfl
theorem bs_8 : Cond.selects "LiftScheduler" ⟨"LiftScheduler", "rememberState", "()V"⟩ ⟨"LiftScheduler", "rememberState", "()V"⟩ ∈ BW := bw_s 8 (by decide +kernel) rfl
theorem bs_9 : Cond.selects "LiftScheduler" ⟨"LiftScheduler", "writeByte", "(I)V"⟩ ⟨"LiftScheduler", "writeByte", "(I)V"⟩ ∈ BW := bw_s 9 (by decide +kernel) rfl
theorem bs_10 : Cond.selects "LiftScheduler" ⟨"LiftScheduler", "writeNumber", "(I)V"⟩ ⟨"LiftScheduler", "writeNumber", "(I)V"⟩ ∈ BW := bw_s 10 (by decide +kernel) rfl
theorem bs_11 : Cond.selects "LiftScheduler$Script" ⟨"LiftScheduler$Script", "addToken", "(LLiftScheduler$Kind;II)V"⟩ ⟨"LiftScheduler$Script", "addToken", "(LLiftScheduler$Kind;II)V"⟩ ∈ BW := bw_s 11 (by decide +kernel) rfl
theorem bs_12 : Cond.selects "LiftScheduler$Script" ⟨"LiftScheduler$Script", "take", "(LLiftScheduler$Kind;)Z"⟩ ⟨"LiftScheduler$Script", "take", "(LLiftScheduler$Kind;)Z"⟩ ∈ BW := bw_s 12 (by decide +kernel) rfl
theorem bs_13 : Cond.selects "LiftScheduler$Script" ⟨"LiftScheduler$Script", "nextKind", "()LLiftScheduler$Kind;"⟩ ⟨"LiftScheduler$Script", "nextKind", "()LLiftScheduler$Kind;"⟩ ∈ BW := bw_s 13 (by decide +kernel) rfl
theorem bs_14 : Cond.selects "LiftScheduler$Script" ⟨"LiftScheduler$Script", "fail", "(II)Z"⟩ ⟨"LiftScheduler$Script", "fail", "(II)Z"⟩ ∈ BW := bw_s 14 (by decide +kernel) rfl
theorem bs_15 : Cond.selects "LiftScheduler$Script" ⟨"LiftScheduler$Script", "takeNumber", "(II)I"⟩ ⟨"LiftScheduler$Script", "takeNumber", "(II)I"⟩ ∈ BW := bw_s 15 (by decide +kernel) rfl
theorem bs_16 : Cond.selects "LiftScheduler$Script" ⟨"LiftScheduler$Script", "takePolicy", "()I"⟩ ⟨"LiftScheduler$Script", "takePolicy", "()I"⟩ ∈ BW := bw_s 16 (by decide +kernel) rfl
theorem bs_17 : Cond.selects "LiftScheduler$Script" ⟨"LiftScheduler$Script", "performRepeat", "()Z"⟩ ⟨"LiftScheduler$Script", "performRepeat", "()Z"⟩ ∈ BW := bw_s 17 (by decide +kernel) rfl
theorem bs_18 : Cond.selects "LiftScheduler$Script" ⟨"LiftScheduler$Script", "performSimple", "()Z"⟩ ⟨"LiftScheduler$Script", "performSimple", "()Z"⟩ ∈ BW := bw_s 18 (by decide +kernel) rfl
theorem bs_19 : Cond.selects "LiftScheduler$Script" ⟨"LiftScheduler$Script", "performCall", "()Z"⟩ ⟨"LiftScheduler$Script", "performCall", "()Z"⟩ ∈ BW := bw_s 19 (by decide +kernel) rfl
theorem bs_20 : Cond.selects "LiftScheduler$Script" ⟨"LiftScheduler$Script", "performRun", "()Z"⟩ ⟨"LiftScheduler$Script", "performRun", "()Z"⟩ ∈ BW := bw_s 20 (by decide +kernel) rfl
theorem bs_21 : Cond.selects "LiftScheduler$Script" ⟨"LiftScheduler$Script", "performUntil", "()Z"⟩ ⟨"LiftScheduler$Script", "performUntil", "()Z"⟩ ∈ BW := bw_s 21 (by decide +kernel) rfl
theorem bs_22 : Cond.selects "LiftScheduler$Script" ⟨"LiftScheduler$Script", "takeCounterAndValue", "()I"⟩ ⟨"LiftScheduler$Script", "takeCounterAndValue", "()I"⟩ ∈ BW := bw_s 22 (by decide +kernel) rfl
theorem bs_23 : Cond.selects "LiftScheduler$Script" ⟨"LiftScheduler$Script", "count", "(LLiftScheduler$Kind;)I"⟩ ⟨"LiftScheduler$Script", "count", "(LLiftScheduler$Kind;)I"⟩ ∈ BW := bw_s 23 (by decide +kernel) rfl
theorem bs_24 : Cond.selects "LiftScheduler$Script" ⟨"LiftScheduler$Script", "performPolicy", "()Z"⟩ ⟨"LiftScheduler$Script", "performPolicy", "()Z"⟩ ∈ BW := bw_s 24 (by decide +kernel) rfl
theorem bs_25 : Cond.selects "LiftScheduler$Script" ⟨"LiftScheduler$Script", "performCapacity", "()Z"⟩ ⟨"LiftScheduler$Script", "performCapacity", "()Z"⟩ ∈ BW := bw_s 25 (by decide +kernel) rfl
theorem bs_26 : Cond.selects "LiftScheduler$Script" ⟨"LiftScheduler$Script", "performExpect", "()Z"⟩ ⟨"LiftScheduler$Script", "performExpect", "()Z"⟩ ∈ BW := bw_s 26 (by decide +kernel) rfl
theorem bs_27 : Cond.selects "java/lang/Throwable" ⟨"java/lang/Throwable", "fillInStackTrace", "(I)Ljava/lang/Throwable;"⟩ ⟨"java/lang/Throwable", "fillInStackTrace", "(I)Ljava/lang/Throwable;"⟩ ∈ BW := bw_s 27 (by decide +kernel) rfl
theorem bs_28 : Cond.selects "LiftScheduler" ⟨"LiftScheduler", "requirePolicy", "(I)V"⟩ ⟨"LiftScheduler", "requirePolicy", "(I)V"⟩ ∈ BW := bw_s 28 (by decide +kernel) rfl
theorem bs_29 : Cond.selects "LiftScheduler" ⟨"LiftScheduler", "requirePassenger", "(I)V"⟩ ⟨"LiftScheduler", "requirePassenger", "(I)V"⟩ ∈ BW := bw_s 29 (by decide +kernel) rfl
theorem bs_30 : Cond.selects "LiftScheduler" ⟨"LiftScheduler", "requireFloor", "(I)V"⟩ ⟨"LiftScheduler", "requireFloor", "(I)V"⟩ ∈ BW := bw_s 30 (by decide +kernel) rfl
theorem bs_31 : Cond.selects "LiftScheduler" ⟨"LiftScheduler", "requireCapacity", "(I)V"⟩ ⟨"LiftScheduler", "requireCapacity", "(I)V"⟩ ∈ BW := bw_s 31 (by decide +kernel) rfl
theorem bs_32 : Cond.selects "LiftScheduler" ⟨"LiftScheduler", "requireSlot", "(I)V"⟩ ⟨"LiftScheduler", "requireSlot", "(I)V"⟩ ∈ BW := bw_s 32 (by decide +kernel) rfl
theorem bs_33 : Cond.selects "LiftSchedulerModel" ⟨"LiftSchedulerModel", "begins", "()V"⟩ ⟨"LiftSchedulerModel", "begins", "()V"⟩ ∈ BW := bw_s 33 (by decide +kernel) rfl
theorem bs_34 : Cond.selects "LiftSchedulerModel" ⟨"LiftSchedulerModel", "keeps", "(I)V"⟩ ⟨"LiftSchedulerModel", "keeps", "(I)V"⟩ ∈ BW := bw_s 34 (by decide +kernel) rfl
theorem bs_35 : Cond.selects "LiftSchedulerModel" ⟨"LiftSchedulerModel", "accepts", "(Ljava/lang/String;)Z"⟩ ⟨"LiftSchedulerModel", "accepts", "(Ljava/lang/String;)Z"⟩ ∈ BW := bw_s 35 (by decide +kernel) rfl
theorem bs_36 : Cond.selects "LiftSchedulerModel" ⟨"LiftSchedulerModel", "peek", "()I"⟩ ⟨"LiftSchedulerModel", "peek", "()I"⟩ ∈ BW := bw_s 36 (by decide +kernel) rfl
theorem bs_37 : Cond.selects "LiftSchedulerModel" ⟨"LiftSchedulerModel", "byteAt", "(I)I"⟩ ⟨"LiftSchedulerModel", "byteAt", "(I)I"⟩ ∈ BW := bw_s 37 (by decide +kernel) rfl
theorem bs_38 : Cond.selects "LiftSchedulerModel" ⟨"LiftSchedulerModel", "failed", "()Z"⟩ ⟨"LiftSchedulerModel", "failed", "()Z"⟩ ∈ BW := bw_s 38 (by decide +kernel) rfl
theorem bs_39 : Cond.selects "LiftSchedulerModel" ⟨"LiftSchedulerModel", "fail", "(II)V"⟩ ⟨"LiftSchedulerModel", "fail", "(II)V"⟩ ∈ BW := bw_s 39 (by decide +kernel) rfl
theorem bs_40 : Cond.selects "LiftSchedulerModel" ⟨"LiftSchedulerModel", "number", "(II)I"⟩ ⟨"LiftSchedulerModel", "number", "(II)I"⟩ ∈ BW := bw_s 40 (by decide +kernel) rfl
theorem bs_41 : Cond.selects "LiftSchedulerModel" ⟨"LiftSchedulerModel", "policyWord", "()I"⟩ ⟨"LiftSchedulerModel", "policyWord", "()I"⟩ ∈ BW := bw_s 41 (by decide +kernel) rfl
theorem bs_42 : Cond.selects "LiftSchedulerModel" ⟨"LiftSchedulerModel", "semicolon", "()V"⟩ ⟨"LiftSchedulerModel", "semicolon", "()V"⟩ ∈ BW := bw_s 42 (by decide +kernel) rfl
theorem bs_43 : Cond.selects "LiftSchedulerModel" ⟨"LiftSchedulerModel", "commands", "()I"⟩ ⟨"LiftSchedulerModel", "commands", "()I"⟩ ∈ BW := bw_s 43 (by decide +kernel) rfl
theorem bs_44 : Cond.selects "LiftSchedulerModel" ⟨"LiftSchedulerModel", "command", "()V"⟩ ⟨"LiftSchedulerModel", "command", "()V"⟩ ∈ BW := bw_s 44 (by decide +kernel) rfl
theorem bs_45 : Cond.selects "LiftSchedulerModel" ⟨"LiftSchedulerModel", "repeats", "()V"⟩ ⟨"LiftSchedulerModel", "repeats", "()V"⟩ ∈ BW := bw_s 45 (by decide +kernel) rfl
theorem bs_46 : Cond.selects "LiftSchedulerModel" ⟨"LiftSchedulerModel", "bracket", "(I)V"⟩ ⟨"LiftSchedulerModel", "bracket", "(I)V"⟩ ∈ BW := bw_s 46 (by decide +kernel) rfl
theorem bs_47 : Cond.selects "LiftSchedulerModel" ⟨"LiftSchedulerModel", "simple", "()V"⟩ ⟨"LiftSchedulerModel", "simple", "()V"⟩ ∈ BW := bw_s 47 (by decide +kernel) rfl
theorem bs_48 : Cond.selects "LiftSchedulerModel" ⟨"LiftSchedulerModel", "readsCall", "()V"⟩ ⟨"LiftSchedulerModel", "readsCall", "()V"⟩ ∈ BW := bw_s 48 (by decide +kernel) rfl
theorem bs_49 : Cond.selects "LiftSchedulerModel" ⟨"LiftSchedulerModel", "floorNumber", "()I"⟩ ⟨"LiftSchedulerModel", "floorNumber", "()I"⟩ ∈ BW := bw_s 49 (by decide +kernel) rfl
theorem bs_50 : Cond.selects "LiftSchedulerModel" ⟨"LiftSchedulerModel", "adds", "(III)V"⟩ ⟨"LiftSchedulerModel", "adds", "(III)V"⟩ ∈ BW := bw_s 50 (by decide +kernel) rfl
theorem bs_51 : Cond.selects "LiftSchedulerModel" ⟨"LiftSchedulerModel", "readsRun", "()V"⟩ ⟨"LiftSchedulerModel", "readsRun", "()V"⟩ ∈ BW := bw_s 51 (by decide +kernel) rfl
theorem bs_52 : Cond.selects "LiftSchedulerModel" ⟨"LiftSchedulerModel", "ticks", "()V"⟩ ⟨"LiftSchedulerModel", "ticks", "()V"⟩ ∈ BW := bw_s 52 (by decide +kernel) rfl
theorem bs_53 : Cond.selects "LiftSchedulerModel" ⟨"LiftSchedulerModel", "stops", "()I"⟩ ⟨"LiftSchedulerModel", "stops", "()I"⟩ ∈ BW := bw_s 53 (by decide +kernel) rfl
theorem bs_54 : Cond.selects "LiftSchedulerModel" ⟨"LiftSchedulerModel", "full", "()Z"⟩ ⟨"LiftSchedulerModel", "full", "()Z"⟩ ∈ BW := bw_s 54 (by decide +kernel) rfl
theorem bs_55 : Cond.selects "LiftSchedulerModel" ⟨"LiftSchedulerModel", "many", "(I)I"⟩ ⟨"LiftSchedulerModel", "many", "(I)I"⟩ ∈ BW := bw_s 55 (by decide +kernel) rfl
theorem bs_56 : Cond.selects "LiftSchedulerModel" ⟨"LiftSchedulerModel", "status", "(I)I"⟩ ⟨"LiftSchedulerModel", "status", "(I)I"⟩ ∈ BW := bw_s 56 (by decide +kernel) rfl
theorem bs_57 : Cond.selects "LiftSchedulerModel" ⟨"LiftSchedulerModel", "left", "(I)I"⟩ ⟨"LiftSchedulerModel", "left", "(I)I"⟩ ∈ BW := bw_s 57 (by decide +kernel) rfl
theorem bs_58 : Cond.selects "LiftSchedulerModel" ⟨"LiftSchedulerModel", "boarded", "(I)I"⟩ ⟨"LiftSchedulerModel", "boarded", "(I)I"⟩ ∈ BW := bw_s 58 (by decide +kernel) rfl
theorem bs_59 : Cond.selects "LiftSchedulerModel" ⟨"LiftSchedulerModel", "arrival", "(I)I"⟩ ⟨"LiftSchedulerModel", "arrival", "(I)I"⟩ ∈ BW := bw_s 59 (by decide +kernel) rfl
theorem bs_60 : Cond.selects "LiftSchedulerModel" ⟨"LiftSchedulerModel", "destination", "(I)I"⟩ ⟨"LiftSchedulerModel", "destination", "(I)I"⟩ ∈ BW := bw_s 60 (by decide +kernel) rfl
theorem bs_61 : Cond.selects "LiftSchedulerModel" ⟨"LiftSchedulerModel", "origin", "(I)I"⟩ ⟨"LiftSchedulerModel", "origin", "(I)I"⟩ ∈ BW := bw_s 61 (by decide +kernel) rfl
theorem bs_62 : Cond.selects "LiftSchedulerModel" ⟨"LiftSchedulerModel", "opens", "()V"⟩ ⟨"LiftSchedulerModel", "opens", "()V"⟩ ∈ BW := bw_s 62 (by decide +kernel) rfl
theorem bs_63 : Cond.selects "LiftSchedulerModel" ⟨"LiftSchedulerModel", "first", "(I)I"⟩ ⟨"LiftSchedulerModel", "first", "(I)I"⟩ ∈ BW := bw_s 63 (by decide +kernel) rfl
theorem bs_64 : Cond.selects "LiftSchedulerModel" ⟨"LiftSchedulerModel", "isAhead", "(II)Z"⟩ ⟨"LiftSchedulerModel", "isAhead", "(II)Z"⟩ ∈ BW := bw_s 64 (by decide +kernel) rfl
theorem bs_65 : Cond.selects "LiftSchedulerModel" ⟨"LiftSchedulerModel", "moves", "(I)V"⟩ ⟨"LiftSchedulerModel", "moves", "(I)V"⟩ ∈ BW := bw_s 65 (by decide +kernel) rfl
theorem bs_66 : Cond.selects "LiftSchedulerModel" ⟨"LiftSchedulerModel", "target", "(I)I"⟩ ⟨"LiftSchedulerModel", "target", "(I)I"⟩ ∈ BW := bw_s 66 (by decide +kernel) rfl
theorem bs_67 : Cond.selects "LiftSchedulerModel" ⟨"LiftSchedulerModel", "inOrder", "()I"⟩ ⟨"LiftSchedulerModel", "inOrder", "()I"⟩ ∈ BW := bw_s 67 (by decide +kernel) rfl
theorem bs_68 : Cond.selects "LiftSchedulerModel" ⟨"LiftSchedulerModel", "nearest", "(I)I"⟩ ⟨"LiftSchedulerModel", "nearest", "(I)I"⟩ ∈ BW := bw_s 68 (by decide +kernel) rfl
theorem bs_69 : Cond.selects "LiftSchedulerModel" ⟨"LiftSchedulerModel", "nearestIn", "(IZ)I"⟩ ⟨"LiftSchedulerModel", "nearestIn", "(IZ)I"⟩ ∈ BW := bw_s 69 (by decide +kernel) rfl
theorem bs_70 : Cond.selects "LiftSchedulerModel" ⟨"LiftSchedulerModel", "reverses", "(I)Z"⟩ ⟨"LiftSchedulerModel", "reverses", "(I)Z"⟩ ∈ BW := bw_s 70 (by decide +kernel) rfl
theorem bs_71 : Cond.selects "LiftSchedulerModel" ⟨"LiftSchedulerModel", "finishes", "(I)I"⟩ ⟨"LiftSchedulerModel", "finishes", "(I)I"⟩ ∈ BW := bw_s 71 (by decide +kernel) rfl
theorem bs_72 : Cond.selects "LiftSchedulerModel" ⟨"LiftSchedulerModel", "finished", "()Z"⟩ ⟨"LiftSchedulerModel", "finished", "()Z"⟩ ∈ BW := bw_s 72 (by decide +kernel) rfl
theorem bs_73 : Cond.selects "LiftSchedulerModel" ⟨"LiftSchedulerModel", "readsUntil", "()V"⟩ ⟨"LiftSchedulerModel", "readsUntil", "()V"⟩ ∈ BW := bw_s 73 (by decide +kernel) rfl
theorem bs_74 : Cond.selects "LiftSchedulerModel" ⟨"LiftSchedulerModel", "counterWord", "()I"⟩ ⟨"LiftSchedulerModel", "counterWord", "()I"⟩ ∈ BW := bw_s 74 (by decide +kernel) rfl
theorem bs_75 : Cond.selects "LiftSchedulerModel" ⟨"LiftSchedulerModel", "counted", "(I)I"⟩ ⟨"LiftSchedulerModel", "counted", "(I)I"⟩ ∈ BW := bw_s 75 (by decide +kernel) rfl
theorem bs_76 : Cond.selects "LiftSchedulerModel" ⟨"LiftSchedulerModel", "readsPolicy", "()V"⟩ ⟨"LiftSchedulerModel", "readsPolicy", "()V"⟩ ∈ BW := bw_s 76 (by decide +kernel) rfl
theorem bs_77 : Cond.selects "LiftSchedulerModel" ⟨"LiftSchedulerModel", "readsCapacity", "()V"⟩ ⟨"LiftSchedulerModel", "readsCapacity", "()V"⟩ ∈ BW := bw_s 77 (by decide +kernel) rfl
theorem bs_78 : Cond.selects "LiftSchedulerModel" ⟨"LiftSchedulerModel", "readsExpectation", "(I)V"⟩ ⟨"LiftSchedulerModel", "readsExpectation", "(I)V"⟩ ∈ BW := bw_s 78 (by decide +kernel) rfl
theorem bs_79 : Cond.selects "LiftSchedulerModel" ⟨"LiftSchedulerModel", "bringsBack", "(I)V"⟩ ⟨"LiftSchedulerModel", "bringsBack", "(I)V"⟩ ∈ BW := bw_s 79 (by decide +kernel) rfl
theorem bs_80 : Cond.selects "LiftSchedulerModel" ⟨"LiftSchedulerModel", "records", "()V"⟩ ⟨"LiftSchedulerModel", "records", "()V"⟩ ∈ BW := bw_s 80 (by decide +kernel) rfl
theorem bs_81 : Cond.selects "LiftSchedulerModel" ⟨"LiftSchedulerModel", "noPolicy", "(I)Z"⟩ ⟨"LiftSchedulerModel", "noPolicy", "(I)Z"⟩ ∈ BW := bw_s 81 (by decide +kernel) rfl
theorem bs_82 : Cond.selects "LiftSchedulerModel" ⟨"LiftSchedulerModel", "fails", "(ZI)Z"⟩ ⟨"LiftSchedulerModel", "fails", "(ZI)Z"⟩ ∈ BW := bw_s 82 (by decide +kernel) rfl
theorem bs_83 : Cond.selects "LiftSchedulerModel" ⟨"LiftSchedulerModel", "noPassenger", "(I)Z"⟩ ⟨"LiftSchedulerModel", "noPassenger", "(I)Z"⟩ ∈ BW := bw_s 83 (by decide +kernel) rfl
theorem bs_84 : Cond.selects "LiftSchedulerModel" ⟨"LiftSchedulerModel", "waited", "(I)I"⟩ ⟨"LiftSchedulerModel", "waited", "(I)I"⟩ ∈ BW := bw_s 84 (by decide +kernel) rfl
theorem bs_85 : Cond.selects "LiftSchedulerModel" ⟨"LiftSchedulerModel", "ridden", "(I)I"⟩ ⟨"LiftSchedulerModel", "ridden", "(I)I"⟩ ∈ BW := bw_s 85 (by decide +kernel) rfl
theorem bs_86 : Cond.selects "LiftSchedulerModel" ⟨"LiftSchedulerModel", "noFloor", "(I)Z"⟩ ⟨"LiftSchedulerModel", "noFloor", "(I)Z"⟩ ∈ BW := bw_s 86 (by decide +kernel) rfl
theorem bs_87 : Cond.selects "LiftSchedulerModel" ⟨"LiftSchedulerModel", "waiting", "(I)I"⟩ ⟨"LiftSchedulerModel", "waiting", "(I)I"⟩ ∈ BW := bw_s 87 (by decide +kernel) rfl
theorem bs_88 : Cond.selects "LiftSchedulerModel" ⟨"LiftSchedulerModel", "ahead", "(I)I"⟩ ⟨"LiftSchedulerModel", "ahead", "(I)I"⟩ ∈ BW := bw_s 88 (by decide +kernel) rfl
theorem bs_89 : Cond.selects "LiftSchedulerModel" ⟨"LiftSchedulerModel", "startingAt", "(I)I"⟩ ⟨"LiftSchedulerModel", "startingAt", "(I)I"⟩ ∈ BW := bw_s 89 (by decide +kernel) rfl
theorem bs_90 : Cond.selects "LiftSchedulerModel" ⟨"LiftSchedulerModel", "rides", "()I"⟩ ⟨"LiftSchedulerModel", "rides", "()I"⟩ ∈ BW := bw_s 90 (by decide +kernel) rfl
theorem bs_91 : Cond.selects "LiftSchedulerModel" ⟨"LiftSchedulerModel", "waits", "()I"⟩ ⟨"LiftSchedulerModel", "waits", "()I"⟩ ∈ BW := bw_s 91 (by decide +kernel) rfl
theorem bs_92 : Cond.selects "LiftSchedulerModel" ⟨"LiftSchedulerModel", "greatestWait", "()I"⟩ ⟨"LiftSchedulerModel", "greatestWait", "()I"⟩ ∈ BW := bw_s 92 (by decide +kernel) rfl
theorem bs_93 : Cond.selects "LiftSchedulerModel" ⟨"LiftSchedulerModel", "forecasts", "()I"⟩ ⟨"LiftSchedulerModel", "forecasts", "()I"⟩ ∈ BW := bw_s 93 (by decide +kernel) rfl
theorem bs_94 : Cond.selects "LiftSchedulerModel" ⟨"LiftSchedulerModel", "waitsBy", "(I)I"⟩ ⟨"LiftSchedulerModel", "waitsBy", "(I)I"⟩ ∈ BW := bw_s 94 (by decide +kernel) rfl
theorem bs_95 : Cond.selects "LiftSchedulerModel" ⟨"LiftSchedulerModel", "noCapacity", "(I)Z"⟩ ⟨"LiftSchedulerModel", "noCapacity", "(I)Z"⟩ ∈ BW := bw_s 95 (by decide +kernel) rfl
theorem bs_96 : Cond.selects "LiftSchedulerModel" ⟨"LiftSchedulerModel", "write", "(I)V"⟩ ⟨"LiftSchedulerModel", "write", "(I)V"⟩ ∈ BW := bw_s 96 (by decide +kernel) rfl
theorem bs_97 : Cond.selects "LiftSchedulerModel" ⟨"LiftSchedulerModel", "writeNumber", "(I)V"⟩ ⟨"LiftSchedulerModel", "writeNumber", "(I)V"⟩ ∈ BW := bw_s 97 (by decide +kernel) rfl
def TX1_isCounter : MT := (yX1_isCounter, cX1_isCounter, 1, (some .boolean), [])
theorem MX1_isCounter : MWv TX1_isCounter 0 := ⟨⟨⟨by decide +kernel, by decide +kernel⟩, by decide +kernel, by decide, bw_6, bw_634, rfl⟩, bw_632, bw_633⟩
def TX2_init : MT := (yX2_init, cX2_init, 1, none, [])
theorem MX2_init : MWi TX2_init 0 := ⟨⟨⟨by decide +kernel, by decide +kernel⟩, by decide +kernel, by decide, bw_3, bw_131, rfl⟩, bw_130, by decide +kernel⟩
def TX2_isSpace : MT := (yX2_isSpace, cX2_isSpace, 1, (some .boolean), [])
theorem MX2_isSpace : MWs TX2_isSpace 1 := ⟨⟨⟨by decide +kernel, by decide +kernel⟩, by decide +kernel, by decide, bw_3, bw_473, rfl⟩, bw_472⟩
def TX2_isLetter : MT := (yX2_isLetter, cX2_isLetter, 1, (some .boolean), [])
theorem MX2_isLetter : MWs TX2_isLetter 1 := ⟨⟨⟨by decide +kernel, by decide +kernel⟩, by decide +kernel, by decide, bw_3, bw_479, rfl⟩, bw_478⟩
def TX2_isDigit : MT := (yX2_isDigit, cX2_isDigit, 1, (some .boolean), [])
theorem MX2_isDigit : MWs TX2_isDigit 1 := ⟨⟨⟨by decide +kernel, by decide +kernel⟩, by decide +kernel, by decide, bw_3, bw_482, rfl⟩, bw_481⟩
def TX2_belongTogether : MT := (yX2_belongTogether, cX2_belongTogether, 2, (some .boolean), [])
theorem MX2_belongTogether : MWs TX2_belongTogether 2 := ⟨⟨⟨by decide +kernel, by decide +kernel⟩, by decide +kernel, by decide, bw_3, bw_476, rfl⟩, bw_475⟩
def TX2_numberOf : MT := (yX2_numberOf, cX2_numberOf, 5, (some .int), [])
theorem MX2_numberOf : MWs TX2_numberOf 3 := ⟨⟨⟨by decide +kernel, by decide +kernel⟩, by decide +kernel, by decide, bw_3, bw_487, rfl⟩, bw_486⟩
def TX2_addToken : MT := (yX2_addToken, cX2_addToken, 4, none, [])
theorem MX2_addToken : MWv TX2_addToken 3 := ⟨⟨⟨by decide +kernel, by decide +kernel⟩, by decide +kernel, by decide, bw_3, bw_491, rfl⟩, bw_490, bs_11⟩
def TJ0_coder_7d493 : MT := (yJ0_coder_7d493, cJ0_coder_7d493, 1, (some .byte), [])
theorem MJ0_coder_7d493 : MWv TJ0_coder_7d493 0 := ⟨⟨⟨by decide +kernel, by decide +kernel⟩, by decide +kernel, by decide, bw_7, bw_507, rfl⟩, bw_505, bw_506⟩
def TJ0_length_8abf5 : MT := (yJ0_length_8abf5, cJ0_length_8abf5, 1, (some .int), [])
theorem MJ0_length_8abf5 : MWv TJ0_length_8abf5 0 := ⟨⟨⟨by decide +kernel, by decide +kernel⟩, by decide +kernel, by decide, bw_7, bw_503, rfl⟩, bw_501, bw_502⟩
def TJ0_isLatin1_aae02 : MT := (yJ0_isLatin1_aae02, cJ0_isLatin1_aae02, 1, (some .boolean), [])
theorem MJ0_isLatin1_aae02 : MWv TJ0_isLatin1_aae02 0 := ⟨⟨⟨by decide +kernel, by decide +kernel⟩, by decide +kernel, by decide, bw_7, bw_517, rfl⟩, bw_515, bw_516⟩
def TJ3_checkIndex_8e157 : MT := (yJ3_checkIndex_8e157, cJ3_checkIndex_8e157, 3, (some .int), [])
theorem MJ3_checkIndex_8e157 : MWs TJ3_checkIndex_8e157 3 := ⟨⟨⟨by decide +kernel, by decide +kernel⟩, by decide +kernel, by decide, bw_9, bw_528, rfl⟩, bw_527⟩
def TJ0_checkIndex_df160 : MT := (yJ0_checkIndex_df160, cJ0_checkIndex_df160, 2, none, [])
theorem MJ0_checkIndex_df160 : MWs TJ0_checkIndex_df160 2 := ⟨⟨⟨by decide +kernel, by decide +kernel⟩, by decide +kernel, by decide, bw_7, bw_523, rfl⟩, bw_522⟩
def TJ1_charAt_3b067 : MT := (yJ1_charAt_3b067, cJ1_charAt_3b067, 2, (some .char), [])
theorem MJ1_charAt_3b067 : MWs TJ1_charAt_3b067 2 := ⟨⟨⟨by decide +kernel, by decide +kernel⟩, by decide +kernel, by decide, bw_8, bw_520, rfl⟩, bw_519⟩
def TJ2_length_9d52b : MT := (yJ2_length_9d52b, cJ2_length_9d52b, 1, (some .int), [])
theorem MJ2_length_9d52b : MWs TJ2_length_9d52b 1 := ⟨⟨⟨by decide +kernel, by decide +kernel⟩, by decide +kernel, by decide, bw_10, bw_537, rfl⟩, bw_536⟩
def TJ2_checkIndex_2214a : MT := (yJ2_checkIndex_2214a, cJ2_checkIndex_2214a, 2, none, [])
theorem MJ2_checkIndex_2214a : MWs TJ2_checkIndex_2214a 2 := ⟨⟨⟨by decide +kernel, by decide +kernel⟩, by decide +kernel, by decide, bw_10, bw_534, rfl⟩, bw_533⟩
def TJ2_getChar_3b067 : MT := (yJ2_getChar_3b067, cJ2_getChar_3b067, 2, (some .char), [])
theorem MJ2_getChar_3b067 : MWs TJ2_getChar_3b067 2 := ⟨⟨⟨by decide +kernel, by decide +kernel⟩, by decide +kernel, by decide, bw_10, bw_541, rfl⟩, bw_540⟩
def TJ2_charAt_3b067 : MT := (yJ2_charAt_3b067, cJ2_charAt_3b067, 2, (some .char), [])
theorem MJ2_charAt_3b067 : MWs TJ2_charAt_3b067 2 := ⟨⟨⟨by decide +kernel, by decide +kernel⟩, by decide +kernel, by decide, bw_10, bw_531, rfl⟩, bw_530⟩
def TJ0_charAt_5068e : MT := (yJ0_charAt_5068e, cJ0_charAt_5068e, 2, (some .char), [])
theorem MJ0_charAt_5068e : MWv TJ0_charAt_5068e 1 := ⟨⟨⟨by decide +kernel, by decide +kernel⟩, by decide +kernel, by decide, bw_7, bw_513, rfl⟩, bw_511, bw_512⟩
def TX2_isText : MT := (yX2_isText, cX2_isText, 5, (some .boolean), [])
theorem MX2_isText : MWs TX2_isText 4 := ⟨⟨⟨by decide +kernel, by decide +kernel⟩, by decide +kernel, by decide, bw_3, bw_499, rfl⟩, bw_498⟩
def TX2_kindOf : MT := (yX2_kindOf, cX2_kindOf, 7, (some (.object "LiftScheduler$Kind")), [])
theorem MX2_kindOf : MWs TX2_kindOf 3 := ⟨⟨⟨by decide +kernel, by decide +kernel⟩, by decide +kernel, by decide, bw_3, bw_494, rfl⟩, bw_493⟩
def TX2_readTokens : MT := (yX2_readTokens, cX2_readTokens, 5, none, [])
theorem MX2_readTokens : MWv TX2_readTokens 2 := ⟨⟨⟨by decide +kernel, by decide +kernel⟩, by decide +kernel, by decide, bw_3, bw_470, rfl⟩, bw_468, bw_469⟩
def TX2_nextKind : MT := (yX2_nextKind, cX2_nextKind, 1, (some (.object "LiftScheduler$Kind")), [])
theorem MX2_nextKind : MWv TX2_nextKind 0 := ⟨⟨⟨by decide +kernel, by decide +kernel⟩, by decide +kernel, by decide, bw_3, bw_565, rfl⟩, bw_564, bs_13⟩
def TX2_fail : MT := (yX2_fail, cX2_fail, 3, (some .boolean), [])
theorem MX2_fail : MWv TX2_fail 2 := ⟨⟨⟨by decide +kernel, by decide +kernel⟩, by decide +kernel, by decide, bw_3, bw_569, rfl⟩, bw_568, bs_14⟩
def TX2_take : MT := (yX2_take, cX2_take, 2, (some .boolean), [])
theorem MX2_take : MWv TX2_take 1 := ⟨⟨⟨by decide +kernel, by decide +kernel⟩, by decide +kernel, by decide, bw_3, bw_561, rfl⟩, bw_560, bs_12⟩
def TX2_takeNumber : MT := (yX2_takeNumber, cX2_takeNumber, 4, (some .int), [])
theorem MX2_takeNumber : MWv TX2_takeNumber 2 := ⟨⟨⟨by decide +kernel, by decide +kernel⟩, by decide +kernel, by decide, bw_3, bw_573, rfl⟩, bw_572, bs_15⟩
def TJx29ce0_ordinal_8abf5 : MT := (yJx29ce0_ordinal_8abf5, cJx29ce0_ordinal_8abf5, 1, (some .int), [])
def TX2_takePolicy : MT := (yX2_takePolicy, cX2_takePolicy, 2, (some .int), [])
theorem MX2_takePolicy : MWv TX2_takePolicy 0 := ⟨⟨⟨by decide +kernel, by decide +kernel⟩, by decide +kernel, by decide, bw_3, bw_577, rfl⟩, bw_576, bs_16⟩
def TX3_begin : MT := (yX3_begin, cX3_begin, 4, none, [])
theorem MX3_begin : MWv TX3_begin 3 := ⟨⟨⟨by decide +kernel, by decide +kernel⟩, by decide +kernel, by decide, bw_2, bw_37, rfl⟩, bw_35, bw_36⟩
def TX2_performHeader : MT := (yX2_performHeader, cX2_performHeader, 5, (some .boolean), [])
theorem MX2_performHeader : MWv TX2_performHeader 1 := ⟨⟨⟨by decide +kernel, by decide +kernel⟩, by decide +kernel, by decide, bw_3, bw_555, rfl⟩, bw_553, bw_554⟩
def TX3_addArrival : MT := (yX3_addArrival, cX3_addArrival, 5, none, [])
theorem MX3_addArrival : MWv TX3_addArrival 3 := ⟨⟨⟨by decide +kernel, by decide +kernel⟩, by decide +kernel, by decide, bw_2, bw_616, rfl⟩, bw_614, bw_615⟩
def TX2_performCall : MT := (yX2_performCall, cX2_performCall, 4, (some .boolean), [])
theorem MX2_performCall : MWv TX2_performCall 0 := ⟨⟨⟨by decide +kernel, by decide +kernel⟩, by decide +kernel, by decide, bw_3, bw_610, rfl⟩, bw_609, bs_19⟩
def TX3_findStops : MT := (yX3_findStops, cX3_findStops, 4, (some .int), [])
theorem MX3_findStops : MWv TX3_findStops 0 := ⟨⟨⟨by decide +kernel, by decide +kernel⟩, by decide +kernel, by decide, bw_2, bw_260, rfl⟩, bw_258, bw_259⟩
def TX3_findFirstRiding : MT := (yX3_findFirstRiding, cX3_findFirstRiding, 2, (some .int), [])
theorem MX3_findFirstRiding : MWv TX3_findFirstRiding 0 := ⟨⟨⟨by decide +kernel, by decide +kernel⟩, by decide +kernel, by decide, bw_2, bw_386, rfl⟩, bw_385, bs_2⟩
def TX3_findFirstWaiting : MT := (yX3_findFirstWaiting, cX3_findFirstWaiting, 3, (some .int), [])
theorem MX3_findFirstWaiting : MWv TX3_findFirstWaiting 0 := ⟨⟨⟨by decide +kernel, by decide +kernel⟩, by decide +kernel, by decide, bw_2, bw_288, rfl⟩, bw_286, bw_287⟩
def TX3_findStopBelow : MT := (yX3_findStopBelow, cX3_findStopBelow, 3, (some .int), [])
theorem MX3_findStopBelow : MWv TX3_findStopBelow 1 := ⟨⟨⟨by decide +kernel, by decide +kernel⟩, by decide +kernel, by decide, bw_2, bw_391, rfl⟩, bw_390, bs_3⟩
def TX3_findStopAbove : MT := (yX3_findStopAbove, cX3_findStopAbove, 3, (some .int), [])
theorem MX3_findStopAbove : MWv TX3_findStopAbove 1 := ⟨⟨⟨by decide +kernel, by decide +kernel⟩, by decide +kernel, by decide, bw_2, bw_395, rfl⟩, bw_394, bs_4⟩
def TX3_findTarget : MT := (yX3_findTarget, cX3_findTarget, 5, (some .int), [])
theorem MX3_findTarget : MWv TX3_findTarget 1 := ⟨⟨⟨by decide +kernel, by decide +kernel⟩, by decide +kernel, by decide, bw_2, bw_381, rfl⟩, bw_379, bw_380⟩
def TX3_openDoors : MT := (yX3_openDoors, cX3_openDoors, 3, none, [])
theorem MX3_openDoors : MWv TX3_openDoors 0 := ⟨⟨⟨by decide +kernel, by decide +kernel⟩, by decide +kernel, by decide, bw_2, bw_399, rfl⟩, bw_398, bs_5⟩
def TX3_moveTowards : MT := (yX3_moveTowards, cX3_moveTowards, 3, none, [])
theorem MX3_moveTowards : MWv TX3_moveTowards 1 := ⟨⟨⟨by decide +kernel, by decide +kernel⟩, by decide +kernel, by decide, bw_2, bw_403, rfl⟩, bw_402, bs_6⟩
def TX3_tick : MT := (yX3_tick, cX3_tick, 2, none, [])
theorem MX3_tick : MWv TX3_tick 0 := ⟨⟨⟨by decide +kernel, by decide +kernel⟩, by decide +kernel, by decide, bw_2, bw_377, rfl⟩, bw_375, bw_376⟩
def TX2_performRun : MT := (yX2_performRun, cX2_performRun, 3, (some .boolean), [])
theorem MX2_performRun : MWv TX2_performRun 0 := ⟨⟨⟨by decide +kernel, by decide +kernel⟩, by decide +kernel, by decide, bw_3, bw_620, rfl⟩, bw_619, bs_20⟩
def TX3_isOver : MT := (yX3_isOver, cX3_isOver, 1, (some .boolean), [])
theorem MX3_isOver : MWv TX3_isOver 0 := ⟨⟨⟨by decide +kernel, by decide +kernel⟩, by decide +kernel, by decide, bw_2, bw_352, rfl⟩, bw_350, bw_351⟩
def TX3_tickToEnd : MT := (yX3_tickToEnd, cX3_tickToEnd, 3, (some .int), [])
theorem MX3_tickToEnd : MWv TX3_tickToEnd 1 := ⟨⟨⟨by decide +kernel, by decide +kernel⟩, by decide +kernel, by decide, bw_2, bw_372, rfl⟩, bw_370, bw_371⟩
def TX2_takeCounterAndValue : MT := (yX2_takeCounterAndValue, cX2_takeCounterAndValue, 1, (some .int), [])
theorem MX2_takeCounterAndValue : MWv TX2_takeCounterAndValue 0 := ⟨⟨⟨by decide +kernel, by decide +kernel⟩, by decide +kernel, by decide, bw_3, bw_630, rfl⟩, bw_629, bs_22⟩
def TX3_findStatus : MT := (yX3_findStatus, cX3_findStatus, 2, (some .int), [])
theorem MX3_findStatus : MWv TX3_findStatus 1 := ⟨⟨⟨by decide +kernel, by decide +kernel⟩, by decide +kernel, by decide, bw_2, bw_434, rfl⟩, bw_432, bw_433⟩
def TX3_countWith : MT := (yX3_countWith, cX3_countWith, 4, (some .int), [])
theorem MX3_countWith : MWv TX3_countWith 1 := ⟨⟨⟨by decide +kernel, by decide +kernel⟩, by decide +kernel, by decide, bw_2, bw_654, rfl⟩, bw_652, bw_653⟩
def TX2_count : MT := (yX2_count, cX2_count, 2, (some .int), [])
theorem MX2_count : MWv TX2_count 1 := ⟨⟨⟨by decide +kernel, by decide +kernel⟩, by decide +kernel, by decide, bw_3, bw_650, rfl⟩, bw_649, bs_23⟩
def TX2_performUntil : MT := (yX2_performUntil, cX2_performUntil, 4, (some .boolean), [])
theorem MX2_performUntil : MWv TX2_performUntil 0 := ⟨⟨⟨by decide +kernel, by decide +kernel⟩, by decide +kernel, by decide, bw_3, bw_626, rfl⟩, bw_625, bs_21⟩
def TX2_performPolicy : MT := (yX2_performPolicy, cX2_performPolicy, 2, (some .boolean), [])
theorem MX2_performPolicy : MWv TX2_performPolicy 0 := ⟨⟨⟨by decide +kernel, by decide +kernel⟩, by decide +kernel, by decide, bw_3, bw_658, rfl⟩, bw_657, bs_24⟩
def TX2_performCapacity : MT := (yX2_performCapacity, cX2_performCapacity, 2, (some .boolean), [])
theorem MX2_performCapacity : MWv TX2_performCapacity 0 := ⟨⟨⟨by decide +kernel, by decide +kernel⟩, by decide +kernel, by decide, bw_3, bw_662, rfl⟩, bw_661, bs_25⟩
def TX2_performExpect : MT := (yX2_performExpect, cX2_performExpect, 4, (some .boolean), [])
theorem MX2_performExpect : MWv TX2_performExpect 0 := ⟨⟨⟨by decide +kernel, by decide +kernel⟩, by decide +kernel, by decide, bw_3, bw_666, rfl⟩, bw_665, bs_26⟩
def TX2_performSimple : MT := (yX2_performSimple, cX2_performSimple, 1, (some .boolean), [])
theorem MX2_performSimple : MWv TX2_performSimple 0 := ⟨⟨⟨by decide +kernel, by decide +kernel⟩, by decide +kernel, by decide, bw_3, bw_606, rfl⟩, bw_605, bs_18⟩
def TX2_performRepeat : MT := (yX2_performRepeat, cX2_performRepeat, 5, (some .boolean), [])
theorem MX2_performRepeat : MWv TX2_performRepeat 0 := ⟨⟨⟨by decide +kernel, by decide +kernel⟩, by decide +kernel, by decide, bw_3, bw_598, rfl⟩, bw_597, bs_17⟩
def TX2_performCommands : MT := (yX2_performCommands, cX2_performCommands, 4, (some .boolean), [])
theorem MX2_performCommands : MWv TX2_performCommands 1 := ⟨⟨⟨by decide +kernel, by decide +kernel⟩, by decide +kernel, by decide, bw_3, bw_592, rfl⟩, bw_590, bw_591⟩
def TX3_init : MT := (yX3_init, cX3_init, 1, none, [])
theorem MX3_init : MWi TX3_init 0 := ⟨⟨⟨by decide +kernel, by decide +kernel⟩, by decide +kernel, by decide, bw_2, bw_32, rfl⟩, bw_31, by decide +kernel⟩
def TX3_copyFrom : MT := (yX3_copyFrom, cX3_copyFrom, 2, none, [])
theorem MX3_copyFrom : MWv TX3_copyFrom 1 := ⟨⟨⟨by decide +kernel, by decide +kernel⟩, by decide +kernel, by decide, bw_2, bw_364, rfl⟩, bw_362, bw_363⟩
def TX3_findWait : MT := (yX3_findWait, cX3_findWait, 2, (some .int), [])
theorem MX3_findWait : MWv TX3_findWait 1 := ⟨⟨⟨by decide +kernel, by decide +kernel⟩, by decide +kernel, by decide, bw_2, bw_331, rfl⟩, bw_329, bw_330⟩
def TX3_findRide : MT := (yX3_findRide, cX3_findRide, 2, (some .int), [])
theorem MX3_findRide : MWv TX3_findRide 1 := ⟨⟨⟨by decide +kernel, by decide +kernel⟩, by decide +kernel, by decide, bw_2, bw_304, rfl⟩, bw_302, bw_303⟩
def TX3_countWaiting : MT := (yX3_countWaiting, cX3_countWaiting, 4, (some .int), [])
theorem MX3_countWaiting : MWv TX3_countWaiting 1 := ⟨⟨⟨by decide +kernel, by decide +kernel⟩, by decide +kernel, by decide, bw_2, bw_449, rfl⟩, bw_447, bw_448⟩
def TX3_sumWaits : MT := (yX3_sumWaits, cX3_sumWaits, 3, (some .int), [])
theorem MX3_sumWaits : MWv TX3_sumWaits 0 := ⟨⟨⟨by decide +kernel, by decide +kernel⟩, by decide +kernel, by decide, bw_2, bw_327, rfl⟩, bw_325, bw_326⟩
def TX3_findLongestWait : MT := (yX3_findLongestWait, cX3_findLongestWait, 3, (some .int), [])
theorem MX3_findLongestWait : MWv TX3_findLongestWait 0 := ⟨⟨⟨by decide +kernel, by decide +kernel⟩, by decide +kernel, by decide, bw_2, bw_340, rfl⟩, bw_338, bw_339⟩
def TX4_init : MT := (yX4_init, cX4_init, 2, none, [])
theorem MX4_init : MWi TX4_init 0 := ⟨⟨⟨by decide +kernel, by decide +kernel⟩, by decide +kernel, by decide, bw_1, bw_24, rfl⟩, bw_23, by decide +kernel⟩
def TX4_appendFour : MT := (yX4_appendFour, cX4_appendFour, 3, none, [])
theorem MX4_appendFour : MWv TX4_appendFour 1 := ⟨⟨⟨by decide +kernel, by decide +kernel⟩, by decide +kernel, by decide, bw_1, bw_212, rfl⟩, bw_211, bs_0⟩
def TX4_append : MT := (yX4_append, cX4_append, 6, (some .int), [])
theorem MX4_append : MWv TX4_append 5 := ⟨⟨⟨by decide +kernel, by decide +kernel⟩, by decide +kernel, by decide, bw_1, bw_208, rfl⟩, bw_206, bw_207⟩
def TX4_truncate : MT := (yX4_truncate, cX4_truncate, 2, (some .boolean), [])
theorem MX4_truncate : MWv TX4_truncate 1 := ⟨⟨⟨by decide +kernel, by decide +kernel⟩, by decide +kernel, by decide, bw_1, bw_216, rfl⟩, bw_214, bw_215⟩
def TX4_load : MT := (yX4_load, cX4_load, 2, (some .int), [])
theorem MX4_load : MWv TX4_load 0 := ⟨⟨⟨by decide +kernel, by decide +kernel⟩, by decide +kernel, by decide, bw_1, bw_466, rfl⟩, bw_464, bw_465⟩
def TX4_rememberState : MT := (yX4_rememberState, cX4_rememberState, 1, none, [])
theorem MX4_rememberState : MWv TX4_rememberState 0 := ⟨⟨⟨by decide +kernel, by decide +kernel⟩, by decide +kernel, by decide, bw_1, bw_419, rfl⟩, bw_418, bs_8⟩
def TX4_play : MT := (yX4_play, cX4_play, 1, (some .int), [])
theorem MX4_play : MWv TX4_play 0 := ⟨⟨⟨by decide +kernel, by decide +kernel⟩, by decide +kernel, by decide, bw_1, bw_740, rfl⟩, bw_738, bw_739⟩
def TX4_parseError : MT := (yX4_parseError, cX4_parseError, 1, (some .int), [])
theorem MX4_parseError : MWv TX4_parseError 0 := ⟨⟨⟨by decide +kernel, by decide +kernel⟩, by decide +kernel, by decide, bw_1, bw_220, rfl⟩, bw_218, bw_219⟩
def TX4_parseErrorPosition : MT := (yX4_parseErrorPosition, cX4_parseErrorPosition, 1, (some .int), [])
theorem MX4_parseErrorPosition : MWv TX4_parseErrorPosition 0 := ⟨⟨⟨by decide +kernel, by decide +kernel⟩, by decide +kernel, by decide, bw_1, bw_224, rfl⟩, bw_222, bw_223⟩
def TX4_floorCount : MT := (yX4_floorCount, cX4_floorCount, 1, (some .int), [])
theorem MX4_floorCount : MWv TX4_floorCount 0 := ⟨⟨⟨by decide +kernel, by decide +kernel⟩, by decide +kernel, by decide, bw_1, bw_228, rfl⟩, bw_226, bw_227⟩
def TX4_capacity : MT := (yX4_capacity, cX4_capacity, 1, (some .int), [])
theorem MX4_capacity : MWv TX4_capacity 0 := ⟨⟨⟨by decide +kernel, by decide +kernel⟩, by decide +kernel, by decide, bw_1, bw_232, rfl⟩, bw_230, bw_231⟩
def TX4_policy : MT := (yX4_policy, cX4_policy, 1, (some .int), [])
theorem MX4_policy : MWv TX4_policy 0 := ⟨⟨⟨by decide +kernel, by decide +kernel⟩, by decide +kernel, by decide, bw_1, bw_236, rfl⟩, bw_234, bw_235⟩
def TX4_time : MT := (yX4_time, cX4_time, 1, (some .int), [])
theorem MX4_time : MWv TX4_time 0 := ⟨⟨⟨by decide +kernel, by decide +kernel⟩, by decide +kernel, by decide, bw_1, bw_240, rfl⟩, bw_238, bw_239⟩
def TX4_floor : MT := (yX4_floor, cX4_floor, 1, (some .int), [])
theorem MX4_floor : MWv TX4_floor 0 := ⟨⟨⟨by decide +kernel, by decide +kernel⟩, by decide +kernel, by decide, bw_1, bw_244, rfl⟩, bw_242, bw_243⟩
def TX4_isUpward : MT := (yX4_isUpward, cX4_isUpward, 1, (some .boolean), [])
theorem MX4_isUpward : MWv TX4_isUpward 0 := ⟨⟨⟨by decide +kernel, by decide +kernel⟩, by decide +kernel, by decide, bw_1, bw_248, rfl⟩, bw_246, bw_247⟩
def TX4_isFull : MT := (yX4_isFull, cX4_isFull, 1, (some .boolean), [])
theorem MX4_isFull : MWv TX4_isFull 0 := ⟨⟨⟨by decide +kernel, by decide +kernel⟩, by decide +kernel, by decide, bw_1, bw_252, rfl⟩, bw_250, bw_251⟩
def TX4_stopMask : MT := (yX4_stopMask, cX4_stopMask, 1, (some .int), [])
theorem MX4_stopMask : MWv TX4_stopMask 0 := ⟨⟨⟨by decide +kernel, by decide +kernel⟩, by decide +kernel, by decide, bw_1, bw_256, rfl⟩, bw_254, bw_255⟩
def TX4_requirePolicy : MT := (yX4_requirePolicy, cX4_requirePolicy, 2, none, [])
theorem MX4_requirePolicy : MWv TX4_requirePolicy 1 := ⟨⟨⟨by decide +kernel, by decide +kernel⟩, by decide +kernel, by decide, bw_1, bw_752, rfl⟩, bw_751, bs_28⟩
def TX4_targetBy : MT := (yX4_targetBy, cX4_targetBy, 2, (some .int), [])
theorem MX4_targetBy : MWv TX4_targetBy 1 := ⟨⟨⟨by decide +kernel, by decide +kernel⟩, by decide +kernel, by decide, bw_1, bw_748, rfl⟩, bw_746, bw_747⟩
def TX4_distance : MT := (yX4_distance, cX4_distance, 1, (some .int), [])
theorem MX4_distance : MWv TX4_distance 0 := ⟨⟨⟨by decide +kernel, by decide +kernel⟩, by decide +kernel, by decide, bw_1, bw_264, rfl⟩, bw_262, bw_263⟩
def TX4_doorTicks : MT := (yX4_doorTicks, cX4_doorTicks, 1, (some .int), [])
theorem MX4_doorTicks : MWv TX4_doorTicks 0 := ⟨⟨⟨by decide +kernel, by decide +kernel⟩, by decide +kernel, by decide, bw_1, bw_268, rfl⟩, bw_266, bw_267⟩
def TX4_idleTicks : MT := (yX4_idleTicks, cX4_idleTicks, 1, (some .int), [])
theorem MX4_idleTicks : MWv TX4_idleTicks 0 := ⟨⟨⟨by decide +kernel, by decide +kernel⟩, by decide +kernel, by decide, bw_1, bw_272, rfl⟩, bw_270, bw_271⟩
def TX4_reversals : MT := (yX4_reversals, cX4_reversals, 1, (some .int), [])
theorem MX4_reversals : MWv TX4_reversals 0 := ⟨⟨⟨by decide +kernel, by decide +kernel⟩, by decide +kernel, by decide, bw_1, bw_276, rfl⟩, bw_274, bw_275⟩
def TX4_passengerCount : MT := (yX4_passengerCount, cX4_passengerCount, 1, (some .int), [])
theorem MX4_passengerCount : MWv TX4_passengerCount 0 := ⟨⟨⟨by decide +kernel, by decide +kernel⟩, by decide +kernel, by decide, bw_1, bw_280, rfl⟩, bw_278, bw_279⟩
def TX4_requirePassenger : MT := (yX4_requirePassenger, cX4_requirePassenger, 2, none, [])
theorem MX4_requirePassenger : MWv TX4_requirePassenger 1 := ⟨⟨⟨by decide +kernel, by decide +kernel⟩, by decide +kernel, by decide, bw_1, bw_766, rfl⟩, bw_765, bs_29⟩
def TX4_statusOf : MT := (yX4_statusOf, cX4_statusOf, 2, (some .int), [])
theorem MX4_statusOf : MWv TX4_statusOf 1 := ⟨⟨⟨by decide +kernel, by decide +kernel⟩, by decide +kernel, by decide, bw_1, bw_762, rfl⟩, bw_760, bw_761⟩
def TX4_originOf : MT := (yX4_originOf, cX4_originOf, 2, (some .int), [])
theorem MX4_originOf : MWv TX4_originOf 1 := ⟨⟨⟨by decide +kernel, by decide +kernel⟩, by decide +kernel, by decide, bw_1, bw_789, rfl⟩, bw_787, bw_788⟩
def TX4_destinationOf : MT := (yX4_destinationOf, cX4_destinationOf, 2, (some .int), [])
theorem MX4_destinationOf : MWv TX4_destinationOf 1 := ⟨⟨⟨by decide +kernel, by decide +kernel⟩, by decide +kernel, by decide, bw_1, bw_796, rfl⟩, bw_794, bw_795⟩
def TX4_arrivalOf : MT := (yX4_arrivalOf, cX4_arrivalOf, 2, (some .int), [])
theorem MX4_arrivalOf : MWv TX4_arrivalOf 1 := ⟨⟨⟨by decide +kernel, by decide +kernel⟩, by decide +kernel, by decide, bw_1, bw_803, rfl⟩, bw_801, bw_802⟩
def TX4_boardedAt : MT := (yX4_boardedAt, cX4_boardedAt, 2, (some .int), [])
theorem MX4_boardedAt : MWv TX4_boardedAt 1 := ⟨⟨⟨by decide +kernel, by decide +kernel⟩, by decide +kernel, by decide, bw_1, bw_810, rfl⟩, bw_808, bw_809⟩
def TX4_leftAt : MT := (yX4_leftAt, cX4_leftAt, 2, (some .int), [])
theorem MX4_leftAt : MWv TX4_leftAt 1 := ⟨⟨⟨by decide +kernel, by decide +kernel⟩, by decide +kernel, by decide, bw_1, bw_817, rfl⟩, bw_815, bw_816⟩
def TX4_waitOf : MT := (yX4_waitOf, cX4_waitOf, 2, (some .int), [])
theorem MX4_waitOf : MWv TX4_waitOf 1 := ⟨⟨⟨by decide +kernel, by decide +kernel⟩, by decide +kernel, by decide, bw_1, bw_824, rfl⟩, bw_822, bw_823⟩
def TX4_rideOf : MT := (yX4_rideOf, cX4_rideOf, 2, (some .int), [])
theorem MX4_rideOf : MWv TX4_rideOf 1 := ⟨⟨⟨by decide +kernel, by decide +kernel⟩, by decide +kernel, by decide, bw_1, bw_832, rfl⟩, bw_830, bw_831⟩
def TX4_detourOf : MT := (yX4_detourOf, cX4_detourOf, 3, (some .int), [])
theorem MX4_detourOf : MWv TX4_detourOf 1 := ⟨⟨⟨by decide +kernel, by decide +kernel⟩, by decide +kernel, by decide, bw_1, bw_839, rfl⟩, bw_837, bw_838⟩
def TX4_countStatus : MT := (yX4_countStatus, cX4_countStatus, 2, (some .int), [])
theorem MX4_countStatus : MWv TX4_countStatus 1 := ⟨⟨⟨by decide +kernel, by decide +kernel⟩, by decide +kernel, by decide, bw_1, bw_849, rfl⟩, bw_847, bw_848⟩
def TX4_requireFloor : MT := (yX4_requireFloor, cX4_requireFloor, 2, none, [])
theorem MX4_requireFloor : MWv TX4_requireFloor 1 := ⟨⟨⟨by decide +kernel, by decide +kernel⟩, by decide +kernel, by decide, bw_1, bw_862, rfl⟩, bw_861, bs_30⟩
def TX4_waitingAt : MT := (yX4_waitingAt, cX4_waitingAt, 2, (some .int), [])
theorem MX4_waitingAt : MWv TX4_waitingAt 1 := ⟨⟨⟨by decide +kernel, by decide +kernel⟩, by decide +kernel, by decide, bw_1, bw_858, rfl⟩, bw_856, bw_857⟩
def TX4_queueAt : MT := (yX4_queueAt, cX4_queueAt, 6, (some .int), [])
theorem MX4_queueAt : MWv TX4_queueAt 2 := ⟨⟨⟨by decide +kernel, by decide +kernel⟩, by decide +kernel, by decide, bw_1, bw_870, rfl⟩, bw_868, bw_869⟩
def TX4_firstWaiting : MT := (yX4_firstWaiting, cX4_firstWaiting, 1, (some .int), [])
theorem MX4_firstWaiting : MWv TX4_firstWaiting 0 := ⟨⟨⟨by decide +kernel, by decide +kernel⟩, by decide +kernel, by decide, bw_1, bw_284, rfl⟩, bw_282, bw_283⟩
def TX4_ridingTo : MT := (yX4_ridingTo, cX4_ridingTo, 4, (some .int), [])
theorem MX4_ridingTo : MWv TX4_ridingTo 1 := ⟨⟨⟨by decide +kernel, by decide +kernel⟩, by decide +kernel, by decide, bw_1, bw_877, rfl⟩, bw_875, bw_876⟩
def TX4_busiestOrigin : MT := (yX4_busiestOrigin, cX4_busiestOrigin, 6, (some .int), [])
theorem MX4_busiestOrigin : MWv TX4_busiestOrigin 0 := ⟨⟨⟨by decide +kernel, by decide +kernel⟩, by decide +kernel, by decide, bw_1, bw_292, rfl⟩, bw_290, bw_291⟩
def TX4_passengersBetween : MT := (yX4_passengersBetween, cX4_passengersBetween, 5, (some .int), [])
theorem MX4_passengersBetween : MWv TX4_passengersBetween 2 := ⟨⟨⟨by decide +kernel, by decide +kernel⟩, by decide +kernel, by decide, bw_1, bw_884, rfl⟩, bw_882, bw_883⟩
def TX4_nextArrival : MT := (yX4_nextArrival, cX4_nextArrival, 4, (some .int), [])
theorem MX4_nextArrival : MWv TX4_nextArrival 0 := ⟨⟨⟨by decide +kernel, by decide +kernel⟩, by decide +kernel, by decide, bw_1, bw_296, rfl⟩, bw_294, bw_295⟩
def TX4_totalRide : MT := (yX4_totalRide, cX4_totalRide, 3, (some .int), [])
theorem MX4_totalRide : MWv TX4_totalRide 0 := ⟨⟨⟨by decide +kernel, by decide +kernel⟩, by decide +kernel, by decide, bw_1, bw_300, rfl⟩, bw_298, bw_299⟩
def TX4_longestRide : MT := (yX4_longestRide, cX4_longestRide, 3, (some .int), [])
theorem MX4_longestRide : MWv TX4_longestRide 0 := ⟨⟨⟨by decide +kernel, by decide +kernel⟩, by decide +kernel, by decide, bw_1, bw_311, rfl⟩, bw_309, bw_310⟩
def TX4_lastDone : MT := (yX4_lastDone, cX4_lastDone, 4, (some .int), [])
theorem MX4_lastDone : MWv TX4_lastDone 0 := ⟨⟨⟨by decide +kernel, by decide +kernel⟩, by decide +kernel, by decide, bw_1, bw_315, rfl⟩, bw_313, bw_314⟩
def TX4_movingShare : MT := (yX4_movingShare, cX4_movingShare, 1, (some .float), [])
theorem MX4_movingShare : MWv TX4_movingShare 0 := ⟨⟨⟨by decide +kernel, by decide +kernel⟩, by decide +kernel, by decide, bw_1, bw_319, rfl⟩, bw_317, bw_318⟩
def TX4_totalWait : MT := (yX4_totalWait, cX4_totalWait, 1, (some .int), [])
theorem MX4_totalWait : MWv TX4_totalWait 0 := ⟨⟨⟨by decide +kernel, by decide +kernel⟩, by decide +kernel, by decide, bw_1, bw_323, rfl⟩, bw_321, bw_322⟩
def TX4_longestWait : MT := (yX4_longestWait, cX4_longestWait, 1, (some .int), [])
theorem MX4_longestWait : MWv TX4_longestWait 0 := ⟨⟨⟨by decide +kernel, by decide +kernel⟩, by decide +kernel, by decide, bw_1, bw_336, rfl⟩, bw_334, bw_335⟩
def TX4_meanWait : MT := (yX4_meanWait, cX4_meanWait, 2, (some .double), [])
theorem MX4_meanWait : MWv TX4_meanWait 0 := ⟨⟨⟨by decide +kernel, by decide +kernel⟩, by decide +kernel, by decide, bw_1, bw_344, rfl⟩, bw_342, bw_343⟩
def TX4_isFinished : MT := (yX4_isFinished, cX4_isFinished, 1, (some .boolean), [])
theorem MX4_isFinished : MWv TX4_isFinished 0 := ⟨⟨⟨by decide +kernel, by decide +kernel⟩, by decide +kernel, by decide, bw_1, bw_348, rfl⟩, bw_346, bw_347⟩
def TX4_forecast : MT := (yX4_forecast, cX4_forecast, 3, (some .int), [])
theorem MX4_forecast : MWv TX4_forecast 2 := ⟨⟨⟨by decide +kernel, by decide +kernel⟩, by decide +kernel, by decide, bw_1, bw_360, rfl⟩, bw_359, bs_1⟩
def TX4_ticksToFinish : MT := (yX4_ticksToFinish, cX4_ticksToFinish, 1, (some .int), [])
theorem MX4_ticksToFinish : MWv TX4_ticksToFinish 0 := ⟨⟨⟨by decide +kernel, by decide +kernel⟩, by decide +kernel, by decide, bw_1, bw_356, rfl⟩, bw_354, bw_355⟩
def TX4_ticksWithPolicy : MT := (yX4_ticksWithPolicy, cX4_ticksWithPolicy, 2, (some .int), [])
theorem MX4_ticksWithPolicy : MWv TX4_ticksWithPolicy 1 := ⟨⟨⟨by decide +kernel, by decide +kernel⟩, by decide +kernel, by decide, bw_1, bw_891, rfl⟩, bw_889, bw_890⟩
def TX4_forecastWaits : MT := (yX4_forecastWaits, cX4_forecastWaits, 2, (some .int), [])
theorem MX4_forecastWaits : MWv TX4_forecastWaits 1 := ⟨⟨⟨by decide +kernel, by decide +kernel⟩, by decide +kernel, by decide, bw_1, bw_411, rfl⟩, bw_410, bs_7⟩
def TX4_waitWithPolicy : MT := (yX4_waitWithPolicy, cX4_waitWithPolicy, 2, (some .int), [])
theorem MX4_waitWithPolicy : MWv TX4_waitWithPolicy 1 := ⟨⟨⟨by decide +kernel, by decide +kernel⟩, by decide +kernel, by decide, bw_1, bw_898, rfl⟩, bw_896, bw_897⟩
def TX4_longestWaitWithPolicy : MT := (yX4_longestWaitWithPolicy, cX4_longestWaitWithPolicy, 2, (some .int), [])
theorem MX4_longestWaitWithPolicy : MWv TX4_longestWaitWithPolicy 1 := ⟨⟨⟨by decide +kernel, by decide +kernel⟩, by decide +kernel, by decide, bw_1, bw_905, rfl⟩, bw_903, bw_904⟩
def TX4_bestPolicy : MT := (yX4_bestPolicy, cX4_bestPolicy, 5, (some .int), [])
theorem MX4_bestPolicy : MWv TX4_bestPolicy 0 := ⟨⟨⟨by decide +kernel, by decide +kernel⟩, by decide +kernel, by decide, bw_1, bw_407, rfl⟩, bw_405, bw_406⟩
def TX4_requireCapacity : MT := (yX4_requireCapacity, cX4_requireCapacity, 2, none, [])
theorem MX4_requireCapacity : MWv TX4_requireCapacity 1 := ⟨⟨⟨by decide +kernel, by decide +kernel⟩, by decide +kernel, by decide, bw_1, bw_917, rfl⟩, bw_916, bs_31⟩
def TX4_ticksWithCapacity : MT := (yX4_ticksWithCapacity, cX4_ticksWithCapacity, 2, (some .int), [])
theorem MX4_ticksWithCapacity : MWv TX4_ticksWithCapacity 1 := ⟨⟨⟨by decide +kernel, by decide +kernel⟩, by decide +kernel, by decide, bw_1, bw_913, rfl⟩, bw_911, bw_912⟩
def TX4_expectedAt : MT := (yX4_expectedAt, cX4_expectedAt, 2, (some .int), [])
theorem MX4_expectedAt : MWv TX4_expectedAt 1 := ⟨⟨⟨by decide +kernel, by decide +kernel⟩, by decide +kernel, by decide, bw_1, bw_941, rfl⟩, bw_939, bw_940⟩
def TX4_addPassenger : MT := (yX4_addPassenger, cX4_addPassenger, 4, (some .int), [])
theorem MX4_addPassenger : MWv TX4_addPassenger 3 := ⟨⟨⟨by decide +kernel, by decide +kernel⟩, by decide +kernel, by decide, bw_1, bw_948, rfl⟩, bw_946, bw_947⟩
def TX4_run : MT := (yX4_run, cX4_run, 3, (some .int), [])
theorem MX4_run : MWv TX4_run 1 := ⟨⟨⟨by decide +kernel, by decide +kernel⟩, by decide +kernel, by decide, bw_1, bw_959, rfl⟩, bw_957, bw_958⟩
def TX4_runToEnd : MT := (yX4_runToEnd, cX4_runToEnd, 1, (some .int), [])
theorem MX4_runToEnd : MWv TX4_runToEnd 0 := ⟨⟨⟨by decide +kernel, by decide +kernel⟩, by decide +kernel, by decide, bw_1, bw_415, rfl⟩, bw_413, bw_414⟩
def TX4_setPolicy : MT := (yX4_setPolicy, cX4_setPolicy, 3, (some .int), [])
theorem MX4_setPolicy : MWv TX4_setPolicy 1 := ⟨⟨⟨by decide +kernel, by decide +kernel⟩, by decide +kernel, by decide, bw_1, bw_969, rfl⟩, bw_967, bw_968⟩
def TX4_setCapacity : MT := (yX4_setCapacity, cX4_setCapacity, 3, (some .int), [])
theorem MX4_setCapacity : MWv TX4_setCapacity 1 := ⟨⟨⟨by decide +kernel, by decide +kernel⟩, by decide +kernel, by decide, bw_1, bw_976, rfl⟩, bw_974, bw_975⟩
def TX4_undo : MT := (yX4_undo, cX4_undo, 1, (some .int), [])
theorem MX4_undo : MWv TX4_undo 0 := ⟨⟨⟨by decide +kernel, by decide +kernel⟩, by decide +kernel, by decide, bw_1, bw_983, rfl⟩, bw_981, bw_982⟩
def TX4_undoDepth : MT := (yX4_undoDepth, cX4_undoDepth, 1, (some .int), [])
theorem MX4_undoDepth : MWv TX4_undoDepth 0 := ⟨⟨⟨by decide +kernel, by decide +kernel⟩, by decide +kernel, by decide, bw_1, bw_426, rfl⟩, bw_424, bw_425⟩
def TX4_requireSlot : MT := (yX4_requireSlot, cX4_requireSlot, 2, none, [])
theorem MX4_requireSlot : MWv TX4_requireSlot 1 := ⟨⟨⟨by decide +kernel, by decide +kernel⟩, by decide +kernel, by decide, bw_1, bw_995, rfl⟩, bw_994, bs_32⟩
def TX4_save : MT := (yX4_save, cX4_save, 3, (some .boolean), [])
theorem MX4_save : MWv TX4_save 1 := ⟨⟨⟨by decide +kernel, by decide +kernel⟩, by decide +kernel, by decide, bw_1, bw_991, rfl⟩, bw_989, bw_990⟩
def TX4_restore : MT := (yX4_restore, cX4_restore, 2, (some .int), [])
theorem MX4_restore : MWv TX4_restore 1 := ⟨⟨⟨by decide +kernel, by decide +kernel⟩, by decide +kernel, by decide, bw_1, bw_1003, rfl⟩, bw_1001, bw_1002⟩
def TX4_letterOf : MT := (yX4_letterOf, cX4_letterOf, 1, (some .int), [])
theorem MX4_letterOf : MWs TX4_letterOf 1 := ⟨⟨⟨by decide +kernel, by decide +kernel⟩, by decide +kernel, by decide, bw_1, bw_437, rfl⟩, bw_436⟩
def TX4_writeByte : MT := (yX4_writeByte, cX4_writeByte, 2, none, [])
theorem MX4_writeByte : MWv TX4_writeByte 1 := ⟨⟨⟨by decide +kernel, by decide +kernel⟩, by decide +kernel, by decide, bw_1, bw_441, rfl⟩, bw_440, bs_9⟩
def TX4_writeStatus : MT := (yX4_writeStatus, cX4_writeStatus, 2, (some .int), [])
theorem MX4_writeStatus : MWv TX4_writeStatus 0 := ⟨⟨⟨by decide +kernel, by decide +kernel⟩, by decide +kernel, by decide, bw_1, bw_430, rfl⟩, bw_428, bw_429⟩
def TX4_writeNumber : MT := (yX4_writeNumber, cX4_writeNumber, 2, none, [])
theorem MX4_writeNumber : MWv TX4_writeNumber 1 := ⟨⟨⟨by decide +kernel, by decide +kernel⟩, by decide +kernel, by decide, bw_1, bw_454, rfl⟩, bw_453, bs_10⟩
def TX4_writeBuilding : MT := (yX4_writeBuilding, cX4_writeBuilding, 2, (some .int), [])
theorem MX4_writeBuilding : MWv TX4_writeBuilding 0 := ⟨⟨⟨by decide +kernel, by decide +kernel⟩, by decide +kernel, by decide, bw_1, bw_445, rfl⟩, bw_443, bw_444⟩
def TX4_outputByte : MT := (yX4_outputByte, cX4_outputByte, 2, (some .int), [])
theorem MX4_outputByte : MWv TX4_outputByte 1 := ⟨⟨⟨by decide +kernel, by decide +kernel⟩, by decide +kernel, by decide, bw_1, bw_458, rfl⟩, bw_456, bw_457⟩
def TX5_init : MT := (yX5_init, cX5_init, 1, none, [])
theorem MX5_init : MWi TX5_init 0 := ⟨⟨⟨by decide +kernel, by decide +kernel⟩, by decide +kernel, by decide, bw_4, bw_1009, rfl⟩, bw_1008, by decide +kernel⟩
def TX5_thrown : MT := (yX5_thrown, cX5_thrown, 1, (some .int), [])
theorem MX5_thrown : MWv TX5_thrown 0 := ⟨⟨⟨by decide +kernel, by decide +kernel⟩, by decide +kernel, by decide, bw_4, bw_1063, rfl⟩, bw_1061, bw_1062⟩
def TX5_inRange : MT := (yX5_inRange, cX5_inRange, 3, (some .boolean), [])
theorem MX5_inRange : MWs TX5_inRange 3 := ⟨⟨⟨by decide +kernel, by decide +kernel⟩, by decide +kernel, by decide, bw_4, bw_1099, rfl⟩, bw_1098⟩
def TX5_fails : MT := (yX5_fails, cX5_fails, 3, (some .boolean), [])
theorem MX5_fails : MWv TX5_fails 2 := ⟨⟨⟨by decide +kernel, by decide +kernel⟩, by decide +kernel, by decide, bw_4, bw_1354, rfl⟩, bw_1353, bs_82⟩
def TX5_at : MT := (yX5_at, cX5_at, 1, (some .int), [])
theorem MX5_at : MWs TX5_at 1 := ⟨⟨⟨by decide +kernel, by decide +kernel⟩, by decide +kernel, by decide, bw_4, bw_1162, rfl⟩, bw_1161⟩
def TX5_arrival : MT := (yX5_arrival, cX5_arrival, 2, (some .int), [])
theorem MX5_arrival : MWv TX5_arrival 1 := ⟨⟨⟨by decide +kernel, by decide +kernel⟩, by decide +kernel, by decide, bw_4, bw_1199, rfl⟩, bw_1198, bs_59⟩
def TX5_origin : MT := (yX5_origin, cX5_origin, 2, (some .int), [])
theorem MX5_origin : MWv TX5_origin 1 := ⟨⟨⟨by decide +kernel, by decide +kernel⟩, by decide +kernel, by decide, bw_4, bw_1207, rfl⟩, bw_1206, bs_61⟩
def TX5_destination : MT := (yX5_destination, cX5_destination, 2, (some .int), [])
theorem MX5_destination : MWv TX5_destination 1 := ⟨⟨⟨by decide +kernel, by decide +kernel⟩, by decide +kernel, by decide, bw_4, bw_1203, rfl⟩, bw_1202, bs_60⟩
def TX5_boarded : MT := (yX5_boarded, cX5_boarded, 2, (some .int), [])
theorem MX5_boarded : MWv TX5_boarded 1 := ⟨⟨⟨by decide +kernel, by decide +kernel⟩, by decide +kernel, by decide, bw_4, bw_1195, rfl⟩, bw_1194, bs_58⟩
def TX5_left : MT := (yX5_left, cX5_left, 2, (some .int), [])
theorem MX5_left : MWv TX5_left 1 := ⟨⟨⟨by decide +kernel, by decide +kernel⟩, by decide +kernel, by decide, bw_4, bw_1191, rfl⟩, bw_1190, bs_57⟩
def TX5_status : MT := (yX5_status, cX5_status, 2, (some .int), [])
theorem MX5_status : MWv TX5_status 1 := ⟨⟨⟨by decide +kernel, by decide +kernel⟩, by decide +kernel, by decide, bw_4, bw_1187, rfl⟩, bw_1186, bs_56⟩
def TX5_many : MT := (yX5_many, cX5_many, 4, (some .int), [])
theorem MX5_many : MWv TX5_many 1 := ⟨⟨⟨by decide +kernel, by decide +kernel⟩, by decide +kernel, by decide, bw_4, bw_1183, rfl⟩, bw_1182, bs_55⟩
def TX5_full : MT := (yX5_full, cX5_full, 1, (some .boolean), [])
theorem MX5_full : MWv TX5_full 0 := ⟨⟨⟨by decide +kernel, by decide +kernel⟩, by decide +kernel, by decide, bw_4, bw_1179, rfl⟩, bw_1178, bs_54⟩
def TX5_finished : MT := (yX5_finished, cX5_finished, 1, (some .boolean), [])
theorem MX5_finished : MWv TX5_finished 0 := ⟨⟨⟨by decide +kernel, by decide +kernel⟩, by decide +kernel, by decide, bw_4, bw_1255, rfl⟩, bw_1254, bs_72⟩
def TX5_isAhead : MT := (yX5_isAhead, cX5_isAhead, 3, (some .boolean), [])
theorem MX5_isAhead : MWv TX5_isAhead 2 := ⟨⟨⟨by decide +kernel, by decide +kernel⟩, by decide +kernel, by decide, bw_4, bw_1222, rfl⟩, bw_1221, bs_64⟩
def TX5_first : MT := (yX5_first, cX5_first, 5, (some .int), [])
theorem MX5_first : MWv TX5_first 1 := ⟨⟨⟨by decide +kernel, by decide +kernel⟩, by decide +kernel, by decide, bw_4, bw_1218, rfl⟩, bw_1217, bs_63⟩
def TX5_adds : MT := (yX5_adds, cX5_adds, 5, none, [])
theorem MX5_adds : MWv TX5_adds 3 := ⟨⟨⟨by decide +kernel, by decide +kernel⟩, by decide +kernel, by decide, bw_4, bw_1159, rfl⟩, bw_1158, bs_50⟩
def TX5_stops : MT := (yX5_stops, cX5_stops, 4, (some .int), [])
theorem MX5_stops : MWv TX5_stops 0 := ⟨⟨⟨by decide +kernel, by decide +kernel⟩, by decide +kernel, by decide, bw_4, bw_1175, rfl⟩, bw_1174, bs_53⟩
def TX5_has : MT := (yX5_has, cX5_has, 2, (some .boolean), [])
theorem MX5_has : MWs TX5_has 2 := ⟨⟨⟨by decide +kernel, by decide +kernel⟩, by decide +kernel, by decide, bw_4, bw_1210, rfl⟩, bw_1209⟩
def TX5_nearestIn : MT := (yX5_nearestIn, cX5_nearestIn, 5, (some .int), [])
theorem MX5_nearestIn : MWv TX5_nearestIn 2 := ⟨⟨⟨by decide +kernel, by decide +kernel⟩, by decide +kernel, by decide, bw_4, bw_1242, rfl⟩, bw_1241, bs_69⟩
def TX5_nearest : MT := (yX5_nearest, cX5_nearest, 4, (some .int), [])
theorem MX5_nearest : MWv TX5_nearest 1 := ⟨⟨⟨by decide +kernel, by decide +kernel⟩, by decide +kernel, by decide, bw_4, bw_1238, rfl⟩, bw_1237, bs_68⟩
def TX5_inOrder : MT := (yX5_inOrder, cX5_inOrder, 2, (some .int), [])
theorem MX5_inOrder : MWv TX5_inOrder 0 := ⟨⟨⟨by decide +kernel, by decide +kernel⟩, by decide +kernel, by decide, bw_4, bw_1234, rfl⟩, bw_1233, bs_67⟩
def TX5_reverses : MT := (yX5_reverses, cX5_reverses, 2, (some .boolean), [])
theorem MX5_reverses : MWv TX5_reverses 1 := ⟨⟨⟨by decide +kernel, by decide +kernel⟩, by decide +kernel, by decide, bw_4, bw_1246, rfl⟩, bw_1245, bs_70⟩
def TX5_target : MT := (yX5_target, cX5_target, 3, (some .int), [])
theorem MX5_target : MWv TX5_target 1 := ⟨⟨⟨by decide +kernel, by decide +kernel⟩, by decide +kernel, by decide, bw_4, bw_1230, rfl⟩, bw_1229, bs_66⟩
def TX5_opens : MT := (yX5_opens, cX5_opens, 2, none, [])
theorem MX5_opens : MWv TX5_opens 0 := ⟨⟨⟨by decide +kernel, by decide +kernel⟩, by decide +kernel, by decide, bw_4, bw_1214, rfl⟩, bw_1213, bs_62⟩
def TX5_moves : MT := (yX5_moves, cX5_moves, 3, none, [])
theorem MX5_moves : MWv TX5_moves 1 := ⟨⟨⟨by decide +kernel, by decide +kernel⟩, by decide +kernel, by decide, bw_4, bw_1226, rfl⟩, bw_1225, bs_65⟩
def TX5_ticks : MT := (yX5_ticks, cX5_ticks, 2, none, [])
theorem MX5_ticks : MWv TX5_ticks 0 := ⟨⟨⟨by decide +kernel, by decide +kernel⟩, by decide +kernel, by decide, bw_4, bw_1171, rfl⟩, bw_1170, bs_52⟩
def TX5_finishes : MT := (yX5_finishes, cX5_finishes, 3, (some .int), [])
theorem MX5_finishes : MWv TX5_finishes 1 := ⟨⟨⟨by decide +kernel, by decide +kernel⟩, by decide +kernel, by decide, bw_4, bw_1251, rfl⟩, bw_1250, bs_71⟩
def TX5_forecasts : MT := (yX5_forecasts, cX5_forecasts, 1, (some .int), [])
theorem MX5_forecasts : MWv TX5_forecasts 0 := ⟨⟨⟨by decide +kernel, by decide +kernel⟩, by decide +kernel, by decide, bw_4, bw_1522, rfl⟩, bw_1521, bs_93⟩
def TX5_keeps : MT := (yX5_keeps, cX5_keeps, 3, none, [])
theorem MX5_keeps : MWv TX5_keeps 1 := ⟨⟨⟨by decide +kernel, by decide +kernel⟩, by decide +kernel, by decide, bw_4, bw_1083, rfl⟩, bw_1082, bs_34⟩
def TX5_bringsBack : MT := (yX5_bringsBack, cX5_bringsBack, 3, none, [])
theorem MX5_bringsBack : MWv TX5_bringsBack 1 := ⟨⟨⟨by decide +kernel, by decide +kernel⟩, by decide +kernel, by decide, bw_4, bw_1294, rfl⟩, bw_1293, bs_79⟩
def TX5_records : MT := (yX5_records, cX5_records, 2, none, [])
theorem MX5_records : MWv TX5_records 0 := ⟨⟨⟨by decide +kernel, by decide +kernel⟩, by decide +kernel, by decide, bw_4, bw_1302, rfl⟩, bw_1301, bs_80⟩
def TX5_append : MT := (yX5_append, cX5_append, 8, (some .int), [])
theorem MX5_append : MWv TX5_append 5 := ⟨⟨⟨by decide +kernel, by decide +kernel⟩, by decide +kernel, by decide, bw_4, bw_1067, rfl⟩, bw_1065, bw_1066⟩
def TX5_truncate : MT := (yX5_truncate, cX5_truncate, 2, (some .boolean), [])
theorem MX5_truncate : MWv TX5_truncate 1 := ⟨⟨⟨by decide +kernel, by decide +kernel⟩, by decide +kernel, by decide, bw_4, bw_1071, rfl⟩, bw_1069, bw_1070⟩
def TX5_byteAt : MT := (yX5_byteAt, cX5_byteAt, 2, (some .int), [])
theorem MX5_byteAt : MWv TX5_byteAt 1 := ⟨⟨⟨by decide +kernel, by decide +kernel⟩, by decide +kernel, by decide, bw_4, bw_1096, rfl⟩, bw_1095, bs_37⟩
def TX5_peek : MT := (yX5_peek, cX5_peek, 1, (some .int), [])
theorem MX5_peek : MWv TX5_peek 0 := ⟨⟨⟨by decide +kernel, by decide +kernel⟩, by decide +kernel, by decide, bw_4, bw_1092, rfl⟩, bw_1091, bs_36⟩
def TX5_failed : MT := (yX5_failed, cX5_failed, 1, (some .boolean), [])
theorem MX5_failed : MWv TX5_failed 0 := ⟨⟨⟨by decide +kernel, by decide +kernel⟩, by decide +kernel, by decide, bw_4, bw_1103, rfl⟩, bw_1102, bs_38⟩
def TX5_fail : MT := (yX5_fail, cX5_fail, 3, none, [])
theorem MX5_fail : MWv TX5_fail 2 := ⟨⟨⟨by decide +kernel, by decide +kernel⟩, by decide +kernel, by decide, bw_4, bw_1109, rfl⟩, bw_1108, bs_39⟩
def TX5_begins : MT := (yX5_begins, cX5_begins, 1, none, [])
theorem MX5_begins : MWv TX5_begins 0 := ⟨⟨⟨by decide +kernel, by decide +kernel⟩, by decide +kernel, by decide, bw_4, bw_1079, rfl⟩, bw_1078, bs_33⟩
def TX5_accepts : MT := (yX5_accepts, cX5_accepts, 6, (some .boolean), [])
theorem MX5_accepts : MWv TX5_accepts 1 := ⟨⟨⟨by decide +kernel, by decide +kernel⟩, by decide +kernel, by decide, bw_4, bw_1088, rfl⟩, bw_1087, bs_35⟩
def TX5_number : MT := (yX5_number, cX5_number, 4, (some .int), [])
theorem MX5_number : MWv TX5_number 2 := ⟨⟨⟨by decide +kernel, by decide +kernel⟩, by decide +kernel, by decide, bw_4, bw_1113, rfl⟩, bw_1112, bs_40⟩
def TX5_semicolon : MT := (yX5_semicolon, cX5_semicolon, 1, none, [])
theorem MX5_semicolon : MWv TX5_semicolon 0 := ⟨⟨⟨by decide +kernel, by decide +kernel⟩, by decide +kernel, by decide, bw_4, bw_1124, rfl⟩, bw_1123, bs_42⟩
def TX5_policyWord : MT := (yX5_policyWord, cX5_policyWord, 2, (some .int), [])
theorem MX5_policyWord : MWv TX5_policyWord 0 := ⟨⟨⟨by decide +kernel, by decide +kernel⟩, by decide +kernel, by decide, bw_4, bw_1117, rfl⟩, bw_1116, bs_41⟩
def TX5_floorNumber : MT := (yX5_floorNumber, cX5_floorNumber, 1, (some .int), [])
theorem MX5_floorNumber : MWv TX5_floorNumber 0 := ⟨⟨⟨by decide +kernel, by decide +kernel⟩, by decide +kernel, by decide, bw_4, bw_1154, rfl⟩, bw_1153, bs_49⟩
def TX5_readsCall : MT := (yX5_readsCall, cX5_readsCall, 4, none, [])
theorem MX5_readsCall : MWv TX5_readsCall 0 := ⟨⟨⟨by decide +kernel, by decide +kernel⟩, by decide +kernel, by decide, bw_4, bw_1150, rfl⟩, bw_1149, bs_48⟩
def TX5_readsRun : MT := (yX5_readsRun, cX5_readsRun, 3, none, [])
theorem MX5_readsRun : MWv TX5_readsRun 0 := ⟨⟨⟨by decide +kernel, by decide +kernel⟩, by decide +kernel, by decide, bw_4, bw_1167, rfl⟩, bw_1166, bs_51⟩
def TX5_readsCapacity : MT := (yX5_readsCapacity, cX5_readsCapacity, 2, none, [])
theorem MX5_readsCapacity : MWv TX5_readsCapacity 0 := ⟨⟨⟨by decide +kernel, by decide +kernel⟩, by decide +kernel, by decide, bw_4, bw_1285, rfl⟩, bw_1284, bs_77⟩
def TX5_readsPolicy : MT := (yX5_readsPolicy, cX5_readsPolicy, 2, none, [])
theorem MX5_readsPolicy : MWv TX5_readsPolicy 0 := ⟨⟨⟨by decide +kernel, by decide +kernel⟩, by decide +kernel, by decide, bw_4, bw_1280, rfl⟩, bw_1279, bs_76⟩
def TX5_counterWord : MT := (yX5_counterWord, cX5_counterWord, 2, (some .int), [])
theorem MX5_counterWord : MWv TX5_counterWord 0 := ⟨⟨⟨by decide +kernel, by decide +kernel⟩, by decide +kernel, by decide, bw_4, bw_1264, rfl⟩, bw_1263, bs_74⟩
def TX5_counted : MT := (yX5_counted, cX5_counted, 2, (some .int), [])
theorem MX5_counted : MWv TX5_counted 1 := ⟨⟨⟨by decide +kernel, by decide +kernel⟩, by decide +kernel, by decide, bw_4, bw_1274, rfl⟩, bw_1273, bs_75⟩
def TX5_readsUntil : MT := (yX5_readsUntil, cX5_readsUntil, 3, none, [])
theorem MX5_readsUntil : MWv TX5_readsUntil 0 := ⟨⟨⟨by decide +kernel, by decide +kernel⟩, by decide +kernel, by decide, bw_4, bw_1260, rfl⟩, bw_1259, bs_73⟩
def TX5_readsExpectation : MT := (yX5_readsExpectation, cX5_readsExpectation, 4, none, [])
theorem MX5_readsExpectation : MWv TX5_readsExpectation 1 := ⟨⟨⟨by decide +kernel, by decide +kernel⟩, by decide +kernel, by decide, bw_4, bw_1290, rfl⟩, bw_1289, bs_78⟩
def TX5_bracket : MT := (yX5_bracket, cX5_bracket, 2, none, [])
theorem MX5_bracket : MWv TX5_bracket 1 := ⟨⟨⟨by decide +kernel, by decide +kernel⟩, by decide +kernel, by decide, bw_4, bw_1141, rfl⟩, bw_1140, bs_46⟩
def TX5_simple : MT := (yX5_simple, cX5_simple, 4, none, [])
theorem MX5_simple : MWv TX5_simple 0 := ⟨⟨⟨by decide +kernel, by decide +kernel⟩, by decide +kernel, by decide, bw_4, bw_1145, rfl⟩, bw_1144, bs_47⟩
def TX5_repeats : MT := (yX5_repeats, cX5_repeats, 4, none, [])
theorem MX5_repeats : MWv TX5_repeats 0 := ⟨⟨⟨by decide +kernel, by decide +kernel⟩, by decide +kernel, by decide, bw_4, bw_1137, rfl⟩, bw_1136, bs_45⟩
def TX5_command : MT := (yX5_command, cX5_command, 1, none, [])
theorem MX5_command : MWv TX5_command 0 := ⟨⟨⟨by decide +kernel, by decide +kernel⟩, by decide +kernel, by decide, bw_4, bw_1132, rfl⟩, bw_1131, bs_44⟩
def TX5_commands : MT := (yX5_commands, cX5_commands, 1, (some .int), [])
theorem MX5_commands : MWv TX5_commands 0 := ⟨⟨⟨by decide +kernel, by decide +kernel⟩, by decide +kernel, by decide, bw_4, bw_1128, rfl⟩, bw_1127, bs_43⟩
def TX5_load : MT := (yX5_load, cX5_load, 2, (some .int), [])
theorem MX5_load : MWv TX5_load 0 := ⟨⟨⟨by decide +kernel, by decide +kernel⟩, by decide +kernel, by decide, bw_4, bw_1075, rfl⟩, bw_1073, bw_1074⟩
def TX5_play : MT := (yX5_play, cX5_play, 2, (some .int), [])
theorem MX5_play : MWv TX5_play 0 := ⟨⟨⟨by decide +kernel, by decide +kernel⟩, by decide +kernel, by decide, bw_4, bw_1298, rfl⟩, bw_1296, bw_1297⟩
def TX5_parseError : MT := (yX5_parseError, cX5_parseError, 1, (some .int), [])
theorem MX5_parseError : MWv TX5_parseError 0 := ⟨⟨⟨by decide +kernel, by decide +kernel⟩, by decide +kernel, by decide, bw_4, bw_1306, rfl⟩, bw_1304, bw_1305⟩
def TX5_parseErrorPosition : MT := (yX5_parseErrorPosition, cX5_parseErrorPosition, 1, (some .int), [])
theorem MX5_parseErrorPosition : MWv TX5_parseErrorPosition 0 := ⟨⟨⟨by decide +kernel, by decide +kernel⟩, by decide +kernel, by decide, bw_4, bw_1310, rfl⟩, bw_1308, bw_1309⟩
def TX5_noPassenger : MT := (yX5_noPassenger, cX5_noPassenger, 2, (some .boolean), [])
theorem MX5_noPassenger : MWv TX5_noPassenger 1 := ⟨⟨⟨by decide +kernel, by decide +kernel⟩, by decide +kernel, by decide, bw_4, bw_1382, rfl⟩, bw_1381, bs_83⟩
def TX5_noFloor : MT := (yX5_noFloor, cX5_noFloor, 2, (some .boolean), [])
theorem MX5_noFloor : MWv TX5_noFloor 1 := ⟨⟨⟨by decide +kernel, by decide +kernel⟩, by decide +kernel, by decide, bw_4, bw_1434, rfl⟩, bw_1433, bs_86⟩
def TX5_noPolicy : MT := (yX5_noPolicy, cX5_noPolicy, 2, (some .boolean), [])
theorem MX5_noPolicy : MWv TX5_noPolicy 1 := ⟨⟨⟨by decide +kernel, by decide +kernel⟩, by decide +kernel, by decide, bw_4, bw_1350, rfl⟩, bw_1349, bs_81⟩
def TX5_floorCount : MT := (yX5_floorCount, cX5_floorCount, 1, (some .int), [])
theorem MX5_floorCount : MWv TX5_floorCount 0 := ⟨⟨⟨by decide +kernel, by decide +kernel⟩, by decide +kernel, by decide, bw_4, bw_1314, rfl⟩, bw_1312, bw_1313⟩
def TX5_capacity : MT := (yX5_capacity, cX5_capacity, 1, (some .int), [])
theorem MX5_capacity : MWv TX5_capacity 0 := ⟨⟨⟨by decide +kernel, by decide +kernel⟩, by decide +kernel, by decide, bw_4, bw_1318, rfl⟩, bw_1316, bw_1317⟩
def TX5_policy : MT := (yX5_policy, cX5_policy, 1, (some .int), [])
theorem MX5_policy : MWv TX5_policy 0 := ⟨⟨⟨by decide +kernel, by decide +kernel⟩, by decide +kernel, by decide, bw_4, bw_1322, rfl⟩, bw_1320, bw_1321⟩
def TX5_time : MT := (yX5_time, cX5_time, 1, (some .int), [])
theorem MX5_time : MWv TX5_time 0 := ⟨⟨⟨by decide +kernel, by decide +kernel⟩, by decide +kernel, by decide, bw_4, bw_1326, rfl⟩, bw_1324, bw_1325⟩
def TX5_floor : MT := (yX5_floor, cX5_floor, 1, (some .int), [])
theorem MX5_floor : MWv TX5_floor 0 := ⟨⟨⟨by decide +kernel, by decide +kernel⟩, by decide +kernel, by decide, bw_4, bw_1330, rfl⟩, bw_1328, bw_1329⟩
def TX5_isUpward : MT := (yX5_isUpward, cX5_isUpward, 1, (some .boolean), [])
theorem MX5_isUpward : MWv TX5_isUpward 0 := ⟨⟨⟨by decide +kernel, by decide +kernel⟩, by decide +kernel, by decide, bw_4, bw_1334, rfl⟩, bw_1332, bw_1333⟩
def TX5_isFull : MT := (yX5_isFull, cX5_isFull, 1, (some .boolean), [])
theorem MX5_isFull : MWv TX5_isFull 0 := ⟨⟨⟨by decide +kernel, by decide +kernel⟩, by decide +kernel, by decide, bw_4, bw_1338, rfl⟩, bw_1336, bw_1337⟩
def TX5_stopMask : MT := (yX5_stopMask, cX5_stopMask, 1, (some .int), [])
theorem MX5_stopMask : MWv TX5_stopMask 0 := ⟨⟨⟨by decide +kernel, by decide +kernel⟩, by decide +kernel, by decide, bw_4, bw_1342, rfl⟩, bw_1340, bw_1341⟩
def TX5_targetBy : MT := (yX5_targetBy, cX5_targetBy, 2, (some .int), [])
theorem MX5_targetBy : MWv TX5_targetBy 1 := ⟨⟨⟨by decide +kernel, by decide +kernel⟩, by decide +kernel, by decide, bw_4, bw_1346, rfl⟩, bw_1344, bw_1345⟩
def TX5_distance : MT := (yX5_distance, cX5_distance, 1, (some .int), [])
theorem MX5_distance : MWv TX5_distance 0 := ⟨⟨⟨by decide +kernel, by decide +kernel⟩, by decide +kernel, by decide, bw_4, bw_1358, rfl⟩, bw_1356, bw_1357⟩
def TX5_doorTicks : MT := (yX5_doorTicks, cX5_doorTicks, 1, (some .int), [])
theorem MX5_doorTicks : MWv TX5_doorTicks 0 := ⟨⟨⟨by decide +kernel, by decide +kernel⟩, by decide +kernel, by decide, bw_4, bw_1362, rfl⟩, bw_1360, bw_1361⟩
def TX5_idleTicks : MT := (yX5_idleTicks, cX5_idleTicks, 1, (some .int), [])
theorem MX5_idleTicks : MWv TX5_idleTicks 0 := ⟨⟨⟨by decide +kernel, by decide +kernel⟩, by decide +kernel, by decide, bw_4, bw_1366, rfl⟩, bw_1364, bw_1365⟩
def TX5_reversals : MT := (yX5_reversals, cX5_reversals, 1, (some .int), [])
theorem MX5_reversals : MWv TX5_reversals 0 := ⟨⟨⟨by decide +kernel, by decide +kernel⟩, by decide +kernel, by decide, bw_4, bw_1370, rfl⟩, bw_1368, bw_1369⟩
def TX5_passengerCount : MT := (yX5_passengerCount, cX5_passengerCount, 1, (some .int), [])
theorem MX5_passengerCount : MWv TX5_passengerCount 0 := ⟨⟨⟨by decide +kernel, by decide +kernel⟩, by decide +kernel, by decide, bw_4, bw_1374, rfl⟩, bw_1372, bw_1373⟩
def TX5_statusOf : MT := (yX5_statusOf, cX5_statusOf, 2, (some .int), [])
theorem MX5_statusOf : MWv TX5_statusOf 1 := ⟨⟨⟨by decide +kernel, by decide +kernel⟩, by decide +kernel, by decide, bw_4, bw_1378, rfl⟩, bw_1376, bw_1377⟩
def TX5_originOf : MT := (yX5_originOf, cX5_originOf, 2, (some .int), [])
theorem MX5_originOf : MWv TX5_originOf 1 := ⟨⟨⟨by decide +kernel, by decide +kernel⟩, by decide +kernel, by decide, bw_4, bw_1386, rfl⟩, bw_1384, bw_1385⟩
def TX5_destinationOf : MT := (yX5_destinationOf, cX5_destinationOf, 2, (some .int), [])
theorem MX5_destinationOf : MWv TX5_destinationOf 1 := ⟨⟨⟨by decide +kernel, by decide +kernel⟩, by decide +kernel, by decide, bw_4, bw_1390, rfl⟩, bw_1388, bw_1389⟩
def TX5_arrivalOf : MT := (yX5_arrivalOf, cX5_arrivalOf, 2, (some .int), [])
theorem MX5_arrivalOf : MWv TX5_arrivalOf 1 := ⟨⟨⟨by decide +kernel, by decide +kernel⟩, by decide +kernel, by decide, bw_4, bw_1394, rfl⟩, bw_1392, bw_1393⟩
def TX5_boardedAt : MT := (yX5_boardedAt, cX5_boardedAt, 2, (some .int), [])
theorem MX5_boardedAt : MWv TX5_boardedAt 1 := ⟨⟨⟨by decide +kernel, by decide +kernel⟩, by decide +kernel, by decide, bw_4, bw_1398, rfl⟩, bw_1396, bw_1397⟩
def TX5_leftAt : MT := (yX5_leftAt, cX5_leftAt, 2, (some .int), [])
theorem MX5_leftAt : MWv TX5_leftAt 1 := ⟨⟨⟨by decide +kernel, by decide +kernel⟩, by decide +kernel, by decide, bw_4, bw_1402, rfl⟩, bw_1400, bw_1401⟩
def TX5_waited : MT := (yX5_waited, cX5_waited, 2, (some .int), [])
theorem MX5_waited : MWv TX5_waited 1 := ⟨⟨⟨by decide +kernel, by decide +kernel⟩, by decide +kernel, by decide, bw_4, bw_1410, rfl⟩, bw_1409, bs_84⟩
def TX5_ridden : MT := (yX5_ridden, cX5_ridden, 2, (some .int), [])
theorem MX5_ridden : MWv TX5_ridden 1 := ⟨⟨⟨by decide +kernel, by decide +kernel⟩, by decide +kernel, by decide, bw_4, bw_1418, rfl⟩, bw_1417, bs_85⟩
def TX5_waitOf : MT := (yX5_waitOf, cX5_waitOf, 2, (some .int), [])
theorem MX5_waitOf : MWv TX5_waitOf 1 := ⟨⟨⟨by decide +kernel, by decide +kernel⟩, by decide +kernel, by decide, bw_4, bw_1406, rfl⟩, bw_1404, bw_1405⟩
def TX5_rideOf : MT := (yX5_rideOf, cX5_rideOf, 2, (some .int), [])
theorem MX5_rideOf : MWv TX5_rideOf 1 := ⟨⟨⟨by decide +kernel, by decide +kernel⟩, by decide +kernel, by decide, bw_4, bw_1414, rfl⟩, bw_1412, bw_1413⟩
def TX5_detourOf : MT := (yX5_detourOf, cX5_detourOf, 3, (some .int), [])
theorem MX5_detourOf : MWv TX5_detourOf 1 := ⟨⟨⟨by decide +kernel, by decide +kernel⟩, by decide +kernel, by decide, bw_4, bw_1422, rfl⟩, bw_1420, bw_1421⟩
def TX5_countStatus : MT := (yX5_countStatus, cX5_countStatus, 2, (some .int), [])
theorem MX5_countStatus : MWv TX5_countStatus 1 := ⟨⟨⟨by decide +kernel, by decide +kernel⟩, by decide +kernel, by decide, bw_4, bw_1426, rfl⟩, bw_1424, bw_1425⟩
def TX5_waiting : MT := (yX5_waiting, cX5_waiting, 4, (some .int), [])
theorem MX5_waiting : MWv TX5_waiting 1 := ⟨⟨⟨by decide +kernel, by decide +kernel⟩, by decide +kernel, by decide, bw_4, bw_1438, rfl⟩, bw_1437, bs_87⟩
def TX5_waitingAt : MT := (yX5_waitingAt, cX5_waitingAt, 2, (some .int), [])
theorem MX5_waitingAt : MWv TX5_waitingAt 1 := ⟨⟨⟨by decide +kernel, by decide +kernel⟩, by decide +kernel, by decide, bw_4, bw_1430, rfl⟩, bw_1428, bw_1429⟩
def TX5_ahead : MT := (yX5_ahead, cX5_ahead, 4, (some .int), [])
theorem MX5_ahead : MWv TX5_ahead 1 := ⟨⟨⟨by decide +kernel, by decide +kernel⟩, by decide +kernel, by decide, bw_4, bw_1446, rfl⟩, bw_1445, bs_88⟩
def TX5_queueAt : MT := (yX5_queueAt, cX5_queueAt, 4, (some .int), [])
theorem MX5_queueAt : MWv TX5_queueAt 2 := ⟨⟨⟨by decide +kernel, by decide +kernel⟩, by decide +kernel, by decide, bw_4, bw_1442, rfl⟩, bw_1440, bw_1441⟩
def TX5_firstWaiting : MT := (yX5_firstWaiting, cX5_firstWaiting, 1, (some .int), [])
theorem MX5_firstWaiting : MWv TX5_firstWaiting 0 := ⟨⟨⟨by decide +kernel, by decide +kernel⟩, by decide +kernel, by decide, bw_4, bw_1450, rfl⟩, bw_1448, bw_1449⟩
def TX5_ridingTo : MT := (yX5_ridingTo, cX5_ridingTo, 4, (some .int), [])
theorem MX5_ridingTo : MWv TX5_ridingTo 1 := ⟨⟨⟨by decide +kernel, by decide +kernel⟩, by decide +kernel, by decide, bw_4, bw_1454, rfl⟩, bw_1452, bw_1453⟩
def TX5_startingAt : MT := (yX5_startingAt, cX5_startingAt, 4, (some .int), [])
theorem MX5_startingAt : MWv TX5_startingAt 1 := ⟨⟨⟨by decide +kernel, by decide +kernel⟩, by decide +kernel, by decide, bw_4, bw_1462, rfl⟩, bw_1461, bs_89⟩
def TX5_busiestOrigin : MT := (yX5_busiestOrigin, cX5_busiestOrigin, 3, (some .int), [])
theorem MX5_busiestOrigin : MWv TX5_busiestOrigin 0 := ⟨⟨⟨by decide +kernel, by decide +kernel⟩, by decide +kernel, by decide, bw_4, bw_1458, rfl⟩, bw_1456, bw_1457⟩
def TX5_passengersBetween : MT := (yX5_passengersBetween, cX5_passengersBetween, 5, (some .int), [])
theorem MX5_passengersBetween : MWv TX5_passengersBetween 2 := ⟨⟨⟨by decide +kernel, by decide +kernel⟩, by decide +kernel, by decide, bw_4, bw_1466, rfl⟩, bw_1464, bw_1465⟩
def TX5_nextArrival : MT := (yX5_nextArrival, cX5_nextArrival, 4, (some .int), [])
theorem MX5_nextArrival : MWv TX5_nextArrival 0 := ⟨⟨⟨by decide +kernel, by decide +kernel⟩, by decide +kernel, by decide, bw_4, bw_1470, rfl⟩, bw_1468, bw_1469⟩
def TX5_rides : MT := (yX5_rides, cX5_rides, 3, (some .int), [])
theorem MX5_rides : MWv TX5_rides 0 := ⟨⟨⟨by decide +kernel, by decide +kernel⟩, by decide +kernel, by decide, bw_4, bw_1478, rfl⟩, bw_1477, bs_90⟩
def TX5_waits : MT := (yX5_waits, cX5_waits, 3, (some .int), [])
theorem MX5_waits : MWv TX5_waits 0 := ⟨⟨⟨by decide +kernel, by decide +kernel⟩, by decide +kernel, by decide, bw_4, bw_1498, rfl⟩, bw_1497, bs_91⟩
def TX5_greatestWait : MT := (yX5_greatestWait, cX5_greatestWait, 3, (some .int), [])
theorem MX5_greatestWait : MWv TX5_greatestWait 0 := ⟨⟨⟨by decide +kernel, by decide +kernel⟩, by decide +kernel, by decide, bw_4, bw_1506, rfl⟩, bw_1505, bs_92⟩
def TX5_totalRide : MT := (yX5_totalRide, cX5_totalRide, 1, (some .int), [])
theorem MX5_totalRide : MWv TX5_totalRide 0 := ⟨⟨⟨by decide +kernel, by decide +kernel⟩, by decide +kernel, by decide, bw_4, bw_1474, rfl⟩, bw_1472, bw_1473⟩
def TX5_longestRide : MT := (yX5_longestRide, cX5_longestRide, 3, (some .int), [])
theorem MX5_longestRide : MWv TX5_longestRide 0 := ⟨⟨⟨by decide +kernel, by decide +kernel⟩, by decide +kernel, by decide, bw_4, bw_1482, rfl⟩, bw_1480, bw_1481⟩
def TX5_lastDone : MT := (yX5_lastDone, cX5_lastDone, 4, (some .int), [])
theorem MX5_lastDone : MWv TX5_lastDone 0 := ⟨⟨⟨by decide +kernel, by decide +kernel⟩, by decide +kernel, by decide, bw_4, bw_1486, rfl⟩, bw_1484, bw_1485⟩
def TX5_movingShare : MT := (yX5_movingShare, cX5_movingShare, 1, (some .float), [])
theorem MX5_movingShare : MWv TX5_movingShare 0 := ⟨⟨⟨by decide +kernel, by decide +kernel⟩, by decide +kernel, by decide, bw_4, bw_1490, rfl⟩, bw_1488, bw_1489⟩
def TX5_totalWait : MT := (yX5_totalWait, cX5_totalWait, 1, (some .int), [])
theorem MX5_totalWait : MWv TX5_totalWait 0 := ⟨⟨⟨by decide +kernel, by decide +kernel⟩, by decide +kernel, by decide, bw_4, bw_1494, rfl⟩, bw_1492, bw_1493⟩
def TX5_longestWait : MT := (yX5_longestWait, cX5_longestWait, 1, (some .int), [])
theorem MX5_longestWait : MWv TX5_longestWait 0 := ⟨⟨⟨by decide +kernel, by decide +kernel⟩, by decide +kernel, by decide, bw_4, bw_1502, rfl⟩, bw_1500, bw_1501⟩
def TX5_meanWait : MT := (yX5_meanWait, cX5_meanWait, 2, (some .double), [])
theorem MX5_meanWait : MWv TX5_meanWait 0 := ⟨⟨⟨by decide +kernel, by decide +kernel⟩, by decide +kernel, by decide, bw_4, bw_1510, rfl⟩, bw_1508, bw_1509⟩
def TX5_isFinished : MT := (yX5_isFinished, cX5_isFinished, 1, (some .boolean), [])
theorem MX5_isFinished : MWv TX5_isFinished 0 := ⟨⟨⟨by decide +kernel, by decide +kernel⟩, by decide +kernel, by decide, bw_4, bw_1514, rfl⟩, bw_1512, bw_1513⟩
def TX5_ticksToFinish : MT := (yX5_ticksToFinish, cX5_ticksToFinish, 2, (some .int), [])
theorem MX5_ticksToFinish : MWv TX5_ticksToFinish 0 := ⟨⟨⟨by decide +kernel, by decide +kernel⟩, by decide +kernel, by decide, bw_4, bw_1518, rfl⟩, bw_1516, bw_1517⟩
def TX5_ticksWithPolicy : MT := (yX5_ticksWithPolicy, cX5_ticksWithPolicy, 3, (some .int), [])
theorem MX5_ticksWithPolicy : MWv TX5_ticksWithPolicy 1 := ⟨⟨⟨by decide +kernel, by decide +kernel⟩, by decide +kernel, by decide, bw_4, bw_1527, rfl⟩, bw_1525, bw_1526⟩
def TX5_waitsBy : MT := (yX5_waitsBy, cX5_waitsBy, 4, (some .int), [])
theorem MX5_waitsBy : MWv TX5_waitsBy 1 := ⟨⟨⟨by decide +kernel, by decide +kernel⟩, by decide +kernel, by decide, bw_4, bw_1535, rfl⟩, bw_1534, bs_94⟩
def TX5_waitWithPolicy : MT := (yX5_waitWithPolicy, cX5_waitWithPolicy, 2, (some .int), [])
theorem MX5_waitWithPolicy : MWv TX5_waitWithPolicy 1 := ⟨⟨⟨by decide +kernel, by decide +kernel⟩, by decide +kernel, by decide, bw_4, bw_1531, rfl⟩, bw_1529, bw_1530⟩
def TX5_longestWaitWithPolicy : MT := (yX5_longestWaitWithPolicy, cX5_longestWaitWithPolicy, 4, (some .int), [])
theorem MX5_longestWaitWithPolicy : MWv TX5_longestWaitWithPolicy 1 := ⟨⟨⟨by decide +kernel, by decide +kernel⟩, by decide +kernel, by decide, bw_4, bw_1539, rfl⟩, bw_1537, bw_1538⟩
def TX5_bestPolicy : MT := (yX5_bestPolicy, cX5_bestPolicy, 4, (some .int), [])
theorem MX5_bestPolicy : MWv TX5_bestPolicy 0 := ⟨⟨⟨by decide +kernel, by decide +kernel⟩, by decide +kernel, by decide, bw_4, bw_1543, rfl⟩, bw_1541, bw_1542⟩
def TX5_noCapacity : MT := (yX5_noCapacity, cX5_noCapacity, 2, (some .boolean), [])
theorem MX5_noCapacity : MWv TX5_noCapacity 1 := ⟨⟨⟨by decide +kernel, by decide +kernel⟩, by decide +kernel, by decide, bw_4, bw_1551, rfl⟩, bw_1550, bs_95⟩
def TX5_ticksWithCapacity : MT := (yX5_ticksWithCapacity, cX5_ticksWithCapacity, 3, (some .int), [])
theorem MX5_ticksWithCapacity : MWv TX5_ticksWithCapacity 1 := ⟨⟨⟨by decide +kernel, by decide +kernel⟩, by decide +kernel, by decide, bw_4, bw_1547, rfl⟩, bw_1545, bw_1546⟩
def TX5_expectedAt : MT := (yX5_expectedAt, cX5_expectedAt, 4, (some .int), [])
theorem MX5_expectedAt : MWv TX5_expectedAt 1 := ⟨⟨⟨by decide +kernel, by decide +kernel⟩, by decide +kernel, by decide, bw_4, bw_1555, rfl⟩, bw_1553, bw_1554⟩
def TX5_addPassenger : MT := (yX5_addPassenger, cX5_addPassenger, 4, (some .int), [])
theorem MX5_addPassenger : MWv TX5_addPassenger 3 := ⟨⟨⟨by decide +kernel, by decide +kernel⟩, by decide +kernel, by decide, bw_4, bw_1559, rfl⟩, bw_1557, bw_1558⟩
def TX5_run : MT := (yX5_run, cX5_run, 3, (some .int), [])
theorem MX5_run : MWv TX5_run 1 := ⟨⟨⟨by decide +kernel, by decide +kernel⟩, by decide +kernel, by decide, bw_4, bw_1563, rfl⟩, bw_1561, bw_1562⟩
def TX5_runToEnd : MT := (yX5_runToEnd, cX5_runToEnd, 1, (some .int), [])
theorem MX5_runToEnd : MWv TX5_runToEnd 0 := ⟨⟨⟨by decide +kernel, by decide +kernel⟩, by decide +kernel, by decide, bw_4, bw_1567, rfl⟩, bw_1565, bw_1566⟩
def TX5_setPolicy : MT := (yX5_setPolicy, cX5_setPolicy, 3, (some .int), [])
theorem MX5_setPolicy : MWv TX5_setPolicy 1 := ⟨⟨⟨by decide +kernel, by decide +kernel⟩, by decide +kernel, by decide, bw_4, bw_1571, rfl⟩, bw_1569, bw_1570⟩
def TX5_setCapacity : MT := (yX5_setCapacity, cX5_setCapacity, 3, (some .int), [])
theorem MX5_setCapacity : MWv TX5_setCapacity 1 := ⟨⟨⟨by decide +kernel, by decide +kernel⟩, by decide +kernel, by decide, bw_4, bw_1575, rfl⟩, bw_1573, bw_1574⟩
def TX5_undo : MT := (yX5_undo, cX5_undo, 1, (some .int), [])
theorem MX5_undo : MWv TX5_undo 0 := ⟨⟨⟨by decide +kernel, by decide +kernel⟩, by decide +kernel, by decide, bw_4, bw_1579, rfl⟩, bw_1577, bw_1578⟩
def TX5_undoDepth : MT := (yX5_undoDepth, cX5_undoDepth, 1, (some .int), [])
theorem MX5_undoDepth : MWv TX5_undoDepth 0 := ⟨⟨⟨by decide +kernel, by decide +kernel⟩, by decide +kernel, by decide, bw_4, bw_1583, rfl⟩, bw_1581, bw_1582⟩
def TX5_save : MT := (yX5_save, cX5_save, 3, (some .boolean), [])
theorem MX5_save : MWv TX5_save 1 := ⟨⟨⟨by decide +kernel, by decide +kernel⟩, by decide +kernel, by decide, bw_4, bw_1587, rfl⟩, bw_1585, bw_1586⟩
def TX5_restore : MT := (yX5_restore, cX5_restore, 2, (some .int), [])
theorem MX5_restore : MWv TX5_restore 1 := ⟨⟨⟨by decide +kernel, by decide +kernel⟩, by decide +kernel, by decide, bw_4, bw_1591, rfl⟩, bw_1589, bw_1590⟩
def TX5_write : MT := (yX5_write, cX5_write, 2, none, [])
theorem MX5_write : MWv TX5_write 1 := ⟨⟨⟨by decide +kernel, by decide +kernel⟩, by decide +kernel, by decide, bw_4, bw_1599, rfl⟩, bw_1598, bs_96⟩
def TX5_writeNumber : MT := (yX5_writeNumber, cX5_writeNumber, 2, none, [])
theorem MX5_writeNumber : MWv TX5_writeNumber 1 := ⟨⟨⟨by decide +kernel, by decide +kernel⟩, by decide +kernel, by decide, bw_4, bw_1607, rfl⟩, bw_1606, bs_97⟩
def TX5_writeStatus : MT := (yX5_writeStatus, cX5_writeStatus, 3, (some .int), [])
theorem MX5_writeStatus : MWv TX5_writeStatus 0 := ⟨⟨⟨by decide +kernel, by decide +kernel⟩, by decide +kernel, by decide, bw_4, bw_1595, rfl⟩, bw_1593, bw_1594⟩
def TX5_writeBuilding : MT := (yX5_writeBuilding, cX5_writeBuilding, 2, (some .int), [])
theorem MX5_writeBuilding : MWv TX5_writeBuilding 0 := ⟨⟨⟨by decide +kernel, by decide +kernel⟩, by decide +kernel, by decide, bw_4, bw_1603, rfl⟩, bw_1601, bw_1602⟩
def TX5_outputByte : MT := (yX5_outputByte, cX5_outputByte, 2, (some .int), [])
theorem MX5_outputByte : MWv TX5_outputByte 1 := ⟨⟨⟨by decide +kernel, by decide +kernel⟩, by decide +kernel, by decide, bw_4, bw_1611, rfl⟩, bw_1609, bw_1610⟩
def TL_load : MT := (yL_load, cL_load, 3, (some .int), [(0, 8, 11, 13)])
def TL_play : MT := (yL_play, cL_play, 3, (some .int), [(0, 8, 11, 13)])
def TL_targetBy : MT := (yL_targetBy, cL_targetBy, 4, (some .int), [(0, 9, 12, 13)])
def TL_statusOf : MT := (yL_statusOf, cL_statusOf, 4, (some .int), [(0, 9, 12, 25)])
def TL_originOf : MT := (yL_originOf, cL_originOf, 4, (some .int), [(0, 9, 12, 25)])
def TL_destinationOf : MT := (yL_destinationOf, cL_destinationOf, 4, (some .int), [(0, 9, 12, 25)])
def TL_arrivalOf : MT := (yL_arrivalOf, cL_arrivalOf, 4, (some .int), [(0, 9, 12, 25)])
def TL_boardedAt : MT := (yL_boardedAt, cL_boardedAt, 4, (some .int), [(0, 9, 12, 25)])
def TL_leftAt : MT := (yL_leftAt, cL_leftAt, 4, (some .int), [(0, 9, 12, 25)])
def TL_waitOf : MT := (yL_waitOf, cL_waitOf, 4, (some .int), [(0, 9, 12, 25)])
def TL_rideOf : MT := (yL_rideOf, cL_rideOf, 4, (some .int), [(0, 9, 12, 25)])
def TL_detourOf : MT := (yL_detourOf, cL_detourOf, 4, (some .int), [(0, 9, 12, 25)])
def TL_countStatus : MT := (yL_countStatus, cL_countStatus, 4, (some .int), [(0, 9, 12, 13)])
def TL_waitingAt : MT := (yL_waitingAt, cL_waitingAt, 4, (some .int), [(0, 9, 12, 25)])
def TL_queueAt : MT := (yL_queueAt, cL_queueAt, 5, (some .int), [(0, 10, 13, 25)])
def TL_ridingTo : MT := (yL_ridingTo, cL_ridingTo, 4, (some .int), [(0, 9, 12, 25)])
def TL_passengersBetween : MT := (yL_passengersBetween, cL_passengersBetween, 5, (some .int), [(0, 10, 13, 25)])
def TL_ticksWithPolicy : MT := (yL_ticksWithPolicy, cL_ticksWithPolicy, 4, (some .int), [(0, 9, 12, 13)])
def TL_waitWithPolicy : MT := (yL_waitWithPolicy, cL_waitWithPolicy, 4, (some .int), [(0, 9, 12, 13)])
def TL_longestWaitWithPolicy : MT := (yL_longestWaitWithPolicy, cL_longestWaitWithPolicy, 4, (some .int), [(0, 9, 12, 13)])
def TL_ticksWithCapacity : MT := (yL_ticksWithCapacity, cL_ticksWithCapacity, 4, (some .int), [(0, 9, 12, 13), (0, 9, 15, 79)])
def TL_expectedAt : MT := (yL_expectedAt, cL_expectedAt, 4, (some .int), [(0, 9, 12, 25)])
def TL_addPassenger : MT := (yL_addPassenger, cL_addPassenger, 6, (some .int), [(0, 12, 15, 25), (0, 12, 19, 13), (0, 12, 23, 79)])
def TL_run : MT := (yL_run, cL_run, 4, (some .int), [(0, 9, 12, 13), (0, 9, 15, 79)])
def TL_setPolicy : MT := (yL_setPolicy, cL_setPolicy, 4, (some .int), [(0, 9, 12, 13)])
def TL_setCapacity : MT := (yL_setCapacity, cL_setCapacity, 4, (some .int), [(0, 9, 12, 13), (0, 9, 15, 79)])
def TL_undo : MT := (yL_undo, cL_undo, 3, (some .int), [(0, 8, 11, 79)])
def TL_save : MT := (yL_save, cL_save, 4, (some .int), [(0, 16, 19, 25)])
def TL_restore : MT := (yL_restore, cL_restore, 4, (some .int), [(0, 9, 12, 25), (0, 9, 15, 79)])
theorem inX2 : ∀ w ∈ u_ws RX2 TX2 9, w ∈ BW := by
  have h : (u_ws RX2 TX2 9).all (fun w => decide (w ∈ lw_tbl) && goodWord w) = true := by decide +kernel
  intro w hw
  have h1 := List.all_eq_true.mp h w hw
  simp only [Bool.and_eq_true, decide_eq_true_eq] at h1
  exact List.mem_filter.mpr ⟨h1.1, h1.2⟩
theorem inX3 : ∀ w ∈ u_ws RX3 TX3 19, w ∈ BW := by
  have h : (u_ws RX3 TX3 19).all (fun w => decide (w ∈ lw_tbl) && goodWord w) = true := by decide +kernel
  intro w hw
  have h1 := List.all_eq_true.mp h w hw
  simp only [Bool.and_eq_true, decide_eq_true_eq] at h1
  exact List.mem_filter.mpr ⟨h1.1, h1.2⟩
theorem inX4 : ∀ w ∈ u_ws RX4 TX4 12, w ∈ BW := by
  have h : (u_ws RX4 TX4 12).all (fun w => decide (w ∈ lw_tbl) && goodWord w) = true := by decide +kernel
  intro w hw
  have h1 := List.all_eq_true.mp h w hw
  simp only [Bool.and_eq_true, decide_eq_true_eq] at h1
  exact List.mem_filter.mpr ⟨h1.1, h1.2⟩
theorem inX5 : ∀ w ∈ u_ws RX5 TX5 16, w ∈ BW := by
  have h : (u_ws RX5 TX5 16).all (fun w => decide (w ∈ lw_tbl) && goodWord w) = true := by decide +kernel
  intro w hw
  have h1 := List.all_eq_true.mp h w hw
  simp only [Bool.and_eq_true, decide_eq_true_eq] at h1
  exact List.mem_filter.mpr ⟨h1.1, h1.2⟩
