section
-- ===== PART A: goes FIRST, ahead of the names: the tables' words, and 'selects' of the private methods out of them =====
/-- a private method of a class that the tables say can be made, by its rows of tables_1 -/
def lw_okq (q : MethodName × Nat) : Prop := (q.1.cls ≠ "java/lang/invoke/MethodHandle" ∧ q.1.cls ≠ "java/lang/invoke/VarHandle") ∧ Cond.instantiable q.1.cls q.2 ∈ tables_1 ∧ Cond.privateMethod q.1 ∈ tables_1 ∧ Cond.instanceMethod q.1 ∈ tables_1
theorem lw_p0 : lw_okq (⟨"LiftScheduler", "appendFour", "(I)V"⟩, 12) := ⟨⟨by decide +kernel, by decide +kernel⟩, List.mem_of_getElem? (i := 21) (by decide +kernel), List.mem_of_getElem? (i := 210) (by decide +kernel), List.mem_of_getElem? (i := 211) (by decide +kernel)⟩
theorem lw_p1 : lw_okq (⟨"LiftScheduler", "forecast", "(II)I"⟩, 12) := ⟨⟨by decide +kernel, by decide +kernel⟩, List.mem_of_getElem? (i := 21) (by decide +kernel), List.mem_of_getElem? (i := 358) (by decide +kernel), List.mem_of_getElem? (i := 359) (by decide +kernel)⟩
theorem lw_p2 : lw_okq (⟨"LiftScheduler$Simulation", "findFirstRiding", "()I"⟩, 19) := ⟨⟨by decide +kernel, by decide +kernel⟩, List.mem_of_getElem? (i := 29) (by decide +kernel), List.mem_of_getElem? (i := 384) (by decide +kernel), List.mem_of_getElem? (i := 385) (by decide +kernel)⟩
theorem lw_p3 : lw_okq (⟨"LiftScheduler$Simulation", "findStopBelow", "(I)I"⟩, 19) := ⟨⟨by decide +kernel, by decide +kernel⟩, List.mem_of_getElem? (i := 29) (by decide +kernel), List.mem_of_getElem? (i := 389) (by decide +kernel), List.mem_of_getElem? (i := 390) (by decide +kernel)⟩
theorem lw_p4 : lw_okq (⟨"LiftScheduler$Simulation", "findStopAbove", "(I)I"⟩, 19) := ⟨⟨by decide +kernel, by decide +kernel⟩, List.mem_of_getElem? (i := 29) (by decide +kernel), List.mem_of_getElem? (i := 393) (by decide +kernel), List.mem_of_getElem? (i := 394) (by decide +kernel)⟩
theorem lw_p5 : lw_okq (⟨"LiftScheduler$Simulation", "openDoors", "()V"⟩, 19) := ⟨⟨by decide +kernel, by decide +kernel⟩, List.mem_of_getElem? (i := 29) (by decide +kernel), List.mem_of_getElem? (i := 397) (by decide +kernel), List.mem_of_getElem? (i := 398) (by decide +kernel)⟩
theorem lw_p6 : lw_okq (⟨"LiftScheduler$Simulation", "moveTowards", "(I)V"⟩, 19) := ⟨⟨by decide +kernel, by decide +kernel⟩, List.mem_of_getElem? (i := 29) (by decide +kernel), List.mem_of_getElem? (i := 401) (by decide +kernel), List.mem_of_getElem? (i := 402) (by decide +kernel)⟩
theorem lw_p7 : lw_okq (⟨"LiftScheduler", "forecastWaits", "(I)I"⟩, 12) := ⟨⟨by decide +kernel, by decide +kernel⟩, List.mem_of_getElem? (i := 21) (by decide +kernel), List.mem_of_getElem? (i := 409) (by decide +kernel), List.mem_of_getElem? (i := 410) (by decide +kernel)⟩
theorem lw_p8 : lw_okq (⟨"LiftScheduler", "rememberState", "()V"⟩, 12) := ⟨⟨by decide +kernel, by decide +kernel⟩, List.mem_of_getElem? (i := 21) (by decide +kernel), List.mem_of_getElem? (i := 417) (by decide +kernel), List.mem_of_getElem? (i := 418) (by decide +kernel)⟩
theorem lw_p9 : lw_okq (⟨"LiftScheduler", "writeByte", "(I)V"⟩, 12) := ⟨⟨by decide +kernel, by decide +kernel⟩, List.mem_of_getElem? (i := 21) (by decide +kernel), List.mem_of_getElem? (i := 439) (by decide +kernel), List.mem_of_getElem? (i := 440) (by decide +kernel)⟩
theorem lw_p10 : lw_okq (⟨"LiftScheduler", "writeNumber", "(I)V"⟩, 12) := ⟨⟨by decide +kernel, by decide +kernel⟩, List.mem_of_getElem? (i := 21) (by decide +kernel), List.mem_of_getElem? (i := 452) (by decide +kernel), List.mem_of_getElem? (i := 453) (by decide +kernel)⟩
theorem lw_p11 : lw_okq (⟨"LiftScheduler$Script", "addToken", "(LLiftScheduler$Kind;II)V"⟩, 9) := ⟨⟨by decide +kernel, by decide +kernel⟩, List.mem_of_getElem? (i := 128) (by decide +kernel), List.mem_of_getElem? (i := 489) (by decide +kernel), List.mem_of_getElem? (i := 490) (by decide +kernel)⟩
theorem lw_p12 : lw_okq (⟨"LiftScheduler$Script", "take", "(LLiftScheduler$Kind;)Z"⟩, 9) := ⟨⟨by decide +kernel, by decide +kernel⟩, List.mem_of_getElem? (i := 128) (by decide +kernel), List.mem_of_getElem? (i := 559) (by decide +kernel), List.mem_of_getElem? (i := 560) (by decide +kernel)⟩
theorem lw_p13 : lw_okq (⟨"LiftScheduler$Script", "fail", "(II)Z"⟩, 9) := ⟨⟨by decide +kernel, by decide +kernel⟩, List.mem_of_getElem? (i := 128) (by decide +kernel), List.mem_of_getElem? (i := 563) (by decide +kernel), List.mem_of_getElem? (i := 564) (by decide +kernel)⟩
theorem lw_p14 : lw_okq (⟨"LiftScheduler$Script", "takeNumber", "(II)I"⟩, 9) := ⟨⟨by decide +kernel, by decide +kernel⟩, List.mem_of_getElem? (i := 128) (by decide +kernel), List.mem_of_getElem? (i := 567) (by decide +kernel), List.mem_of_getElem? (i := 568) (by decide +kernel)⟩
theorem lw_p15 : lw_okq (⟨"LiftScheduler$Script", "takePolicy", "()I"⟩, 9) := ⟨⟨by decide +kernel, by decide +kernel⟩, List.mem_of_getElem? (i := 128) (by decide +kernel), List.mem_of_getElem? (i := 571) (by decide +kernel), List.mem_of_getElem? (i := 572) (by decide +kernel)⟩
def lw_privs_1 : List (MethodName × Nat) := [(⟨"LiftScheduler", "appendFour", "(I)V"⟩, 12), (⟨"LiftScheduler", "forecast", "(II)I"⟩, 12), (⟨"LiftScheduler$Simulation", "findFirstRiding", "()I"⟩, 19), (⟨"LiftScheduler$Simulation", "findStopBelow", "(I)I"⟩, 19), (⟨"LiftScheduler$Simulation", "findStopAbove", "(I)I"⟩, 19), (⟨"LiftScheduler$Simulation", "openDoors", "()V"⟩, 19), (⟨"LiftScheduler$Simulation", "moveTowards", "(I)V"⟩, 19), (⟨"LiftScheduler", "forecastWaits", "(I)I"⟩, 12), (⟨"LiftScheduler", "rememberState", "()V"⟩, 12), (⟨"LiftScheduler", "writeByte", "(I)V"⟩, 12), (⟨"LiftScheduler", "writeNumber", "(I)V"⟩, 12), (⟨"LiftScheduler$Script", "addToken", "(LLiftScheduler$Kind;II)V"⟩, 9), (⟨"LiftScheduler$Script", "take", "(LLiftScheduler$Kind;)Z"⟩, 9), (⟨"LiftScheduler$Script", "fail", "(II)Z"⟩, 9), (⟨"LiftScheduler$Script", "takeNumber", "(II)I"⟩, 9), (⟨"LiftScheduler$Script", "takePolicy", "()I"⟩, 9)]
theorem lw_r1 : ∀ q ∈ lw_privs_1, lw_okq q := List.forall_mem_cons.mpr ⟨lw_p0, List.forall_mem_cons.mpr ⟨lw_p1, List.forall_mem_cons.mpr ⟨lw_p2, List.forall_mem_cons.mpr ⟨lw_p3, List.forall_mem_cons.mpr ⟨lw_p4, List.forall_mem_cons.mpr ⟨lw_p5, List.forall_mem_cons.mpr ⟨lw_p6, List.forall_mem_cons.mpr ⟨lw_p7, List.forall_mem_cons.mpr ⟨lw_p8, List.forall_mem_cons.mpr ⟨lw_p9, List.forall_mem_cons.mpr ⟨lw_p10, List.forall_mem_cons.mpr ⟨lw_p11, List.forall_mem_cons.mpr ⟨lw_p12, List.forall_mem_cons.mpr ⟨lw_p13, List.forall_mem_cons.mpr ⟨lw_p14, List.forall_mem_cons.mpr ⟨lw_p15, fun _ h => absurd h List.not_mem_nil⟩⟩⟩⟩⟩⟩⟩⟩⟩⟩⟩⟩⟩⟩⟩⟩
theorem lw_p16 : lw_okq (⟨"LiftScheduler$Script", "performRepeat", "()Z"⟩, 9) := ⟨⟨by decide +kernel, by decide +kernel⟩, List.mem_of_getElem? (i := 128) (by decide +kernel), List.mem_of_getElem? (i := 592) (by decide +kernel), List.mem_of_getElem? (i := 593) (by decide +kernel)⟩
theorem lw_p17 : lw_okq (⟨"LiftScheduler$Script", "performSimple", "()Z"⟩, 9) := ⟨⟨by decide +kernel, by decide +kernel⟩, List.mem_of_getElem? (i := 128) (by decide +kernel), List.mem_of_getElem? (i := 600) (by decide +kernel), List.mem_of_getElem? (i := 601) (by decide +kernel)⟩
theorem lw_p18 : lw_okq (⟨"LiftScheduler$Script", "performCall", "()Z"⟩, 9) := ⟨⟨by decide +kernel, by decide +kernel⟩, List.mem_of_getElem? (i := 128) (by decide +kernel), List.mem_of_getElem? (i := 604) (by decide +kernel), List.mem_of_getElem? (i := 605) (by decide +kernel)⟩
theorem lw_p19 : lw_okq (⟨"LiftScheduler$Script", "performRun", "()Z"⟩, 9) := ⟨⟨by decide +kernel, by decide +kernel⟩, List.mem_of_getElem? (i := 128) (by decide +kernel), List.mem_of_getElem? (i := 614) (by decide +kernel), List.mem_of_getElem? (i := 615) (by decide +kernel)⟩
theorem lw_p20 : lw_okq (⟨"LiftScheduler$Script", "performUntil", "()Z"⟩, 9) := ⟨⟨by decide +kernel, by decide +kernel⟩, List.mem_of_getElem? (i := 128) (by decide +kernel), List.mem_of_getElem? (i := 620) (by decide +kernel), List.mem_of_getElem? (i := 621) (by decide +kernel)⟩
theorem lw_p21 : lw_okq (⟨"LiftScheduler$Script", "takeCounterAndValue", "()I"⟩, 9) := ⟨⟨by decide +kernel, by decide +kernel⟩, List.mem_of_getElem? (i := 128) (by decide +kernel), List.mem_of_getElem? (i := 624) (by decide +kernel), List.mem_of_getElem? (i := 625) (by decide +kernel)⟩
theorem lw_p22 : lw_okq (⟨"LiftScheduler$Script", "count", "(LLiftScheduler$Kind;)I"⟩, 9) := ⟨⟨by decide +kernel, by decide +kernel⟩, List.mem_of_getElem? (i := 128) (by decide +kernel), List.mem_of_getElem? (i := 644) (by decide +kernel), List.mem_of_getElem? (i := 645) (by decide +kernel)⟩
theorem lw_p23 : lw_okq (⟨"LiftScheduler$Script", "performPolicy", "()Z"⟩, 9) := ⟨⟨by decide +kernel, by decide +kernel⟩, List.mem_of_getElem? (i := 128) (by decide +kernel), List.mem_of_getElem? (i := 652) (by decide +kernel), List.mem_of_getElem? (i := 653) (by decide +kernel)⟩
theorem lw_p24 : lw_okq (⟨"LiftScheduler$Script", "performCapacity", "()Z"⟩, 9) := ⟨⟨by decide +kernel, by decide +kernel⟩, List.mem_of_getElem? (i := 128) (by decide +kernel), List.mem_of_getElem? (i := 656) (by decide +kernel), List.mem_of_getElem? (i := 657) (by decide +kernel)⟩
theorem lw_p25 : lw_okq (⟨"LiftScheduler$Script", "performExpect", "()Z"⟩, 9) := ⟨⟨by decide +kernel, by decide +kernel⟩, List.mem_of_getElem? (i := 128) (by decide +kernel), List.mem_of_getElem? (i := 660) (by decide +kernel), List.mem_of_getElem? (i := 661) (by decide +kernel)⟩
theorem lw_p26 : lw_okq (⟨"java/lang/Throwable", "fillInStackTrace", "(I)Ljava/lang/Throwable;"⟩, 6) := ⟨⟨by decide +kernel, by decide +kernel⟩, List.mem_of_getElem? (i := 702) (by decide +kernel), List.mem_of_getElem? (i := 700) (by decide +kernel), List.mem_of_getElem? (i := 701) (by decide +kernel)⟩
theorem lw_p27 : lw_okq (⟨"LiftScheduler", "requirePolicy", "(I)V"⟩, 12) := ⟨⟨by decide +kernel, by decide +kernel⟩, List.mem_of_getElem? (i := 21) (by decide +kernel), List.mem_of_getElem? (i := 746) (by decide +kernel), List.mem_of_getElem? (i := 747) (by decide +kernel)⟩
theorem lw_p28 : lw_okq (⟨"LiftScheduler", "requirePassenger", "(I)V"⟩, 12) := ⟨⟨by decide +kernel, by decide +kernel⟩, List.mem_of_getElem? (i := 21) (by decide +kernel), List.mem_of_getElem? (i := 760) (by decide +kernel), List.mem_of_getElem? (i := 761) (by decide +kernel)⟩
theorem lw_p29 : lw_okq (⟨"LiftScheduler", "requireFloor", "(I)V"⟩, 12) := ⟨⟨by decide +kernel, by decide +kernel⟩, List.mem_of_getElem? (i := 21) (by decide +kernel), List.mem_of_getElem? (i := 856) (by decide +kernel), List.mem_of_getElem? (i := 857) (by decide +kernel)⟩
theorem lw_p30 : lw_okq (⟨"LiftScheduler", "requireCapacity", "(I)V"⟩, 12) := ⟨⟨by decide +kernel, by decide +kernel⟩, List.mem_of_getElem? (i := 21) (by decide +kernel), List.mem_of_getElem? (i := 911) (by decide +kernel), List.mem_of_getElem? (i := 912) (by decide +kernel)⟩
theorem lw_p31 : lw_okq (⟨"LiftScheduler", "requireSlot", "(I)V"⟩, 12) := ⟨⟨by decide +kernel, by decide +kernel⟩, List.mem_of_getElem? (i := 21) (by decide +kernel), List.mem_of_getElem? (i := 989) (by decide +kernel), List.mem_of_getElem? (i := 990) (by decide +kernel)⟩
def lw_privs_2 : List (MethodName × Nat) := [(⟨"LiftScheduler$Script", "performRepeat", "()Z"⟩, 9), (⟨"LiftScheduler$Script", "performSimple", "()Z"⟩, 9), (⟨"LiftScheduler$Script", "performCall", "()Z"⟩, 9), (⟨"LiftScheduler$Script", "performRun", "()Z"⟩, 9), (⟨"LiftScheduler$Script", "performUntil", "()Z"⟩, 9), (⟨"LiftScheduler$Script", "takeCounterAndValue", "()I"⟩, 9), (⟨"LiftScheduler$Script", "count", "(LLiftScheduler$Kind;)I"⟩, 9), (⟨"LiftScheduler$Script", "performPolicy", "()Z"⟩, 9), (⟨"LiftScheduler$Script", "performCapacity", "()Z"⟩, 9), (⟨"LiftScheduler$Script", "performExpect", "()Z"⟩, 9), (⟨"java/lang/Throwable", "fillInStackTrace", "(I)Ljava/lang/Throwable;"⟩, 6), (⟨"LiftScheduler", "requirePolicy", "(I)V"⟩, 12), (⟨"LiftScheduler", "requirePassenger", "(I)V"⟩, 12), (⟨"LiftScheduler", "requireFloor", "(I)V"⟩, 12), (⟨"LiftScheduler", "requireCapacity", "(I)V"⟩, 12), (⟨"LiftScheduler", "requireSlot", "(I)V"⟩, 12)]
theorem lw_r2 : ∀ q ∈ lw_privs_2, lw_okq q := List.forall_mem_cons.mpr ⟨lw_p16, List.forall_mem_cons.mpr ⟨lw_p17, List.forall_mem_cons.mpr ⟨lw_p18, List.forall_mem_cons.mpr ⟨lw_p19, List.forall_mem_cons.mpr ⟨lw_p20, List.forall_mem_cons.mpr ⟨lw_p21, List.forall_mem_cons.mpr ⟨lw_p22, List.forall_mem_cons.mpr ⟨lw_p23, List.forall_mem_cons.mpr ⟨lw_p24, List.forall_mem_cons.mpr ⟨lw_p25, List.forall_mem_cons.mpr ⟨lw_p26, List.forall_mem_cons.mpr ⟨lw_p27, List.forall_mem_cons.mpr ⟨lw_p28, List.forall_mem_cons.mpr ⟨lw_p29, List.forall_mem_cons.mpr ⟨lw_p30, List.forall_mem_cons.mpr ⟨lw_p31, fun _ h => absurd h List.not_mem_nil⟩⟩⟩⟩⟩⟩⟩⟩⟩⟩⟩⟩⟩⟩⟩⟩
theorem lw_p32 : lw_okq (⟨"LiftSchedulerModel", "begins", "()V"⟩, 16) := ⟨⟨by decide +kernel, by decide +kernel⟩, List.mem_of_getElem? (i := 1002) (by decide +kernel), List.mem_of_getElem? (i := 1073) (by decide +kernel), List.mem_of_getElem? (i := 1074) (by decide +kernel)⟩
theorem lw_p33 : lw_okq (⟨"LiftSchedulerModel", "keeps", "(I)V"⟩, 16) := ⟨⟨by decide +kernel, by decide +kernel⟩, List.mem_of_getElem? (i := 1002) (by decide +kernel), List.mem_of_getElem? (i := 1077) (by decide +kernel), List.mem_of_getElem? (i := 1078) (by decide +kernel)⟩
theorem lw_p34 : lw_okq (⟨"LiftSchedulerModel", "accepts", "(Ljava/lang/String;)Z"⟩, 16) := ⟨⟨by decide +kernel, by decide +kernel⟩, List.mem_of_getElem? (i := 1002) (by decide +kernel), List.mem_of_getElem? (i := 1082) (by decide +kernel), List.mem_of_getElem? (i := 1083) (by decide +kernel)⟩
theorem lw_p35 : lw_okq (⟨"LiftSchedulerModel", "peek", "()I"⟩, 16) := ⟨⟨by decide +kernel, by decide +kernel⟩, List.mem_of_getElem? (i := 1002) (by decide +kernel), List.mem_of_getElem? (i := 1086) (by decide +kernel), List.mem_of_getElem? (i := 1087) (by decide +kernel)⟩
theorem lw_p36 : lw_okq (⟨"LiftSchedulerModel", "byteAt", "(I)I"⟩, 16) := ⟨⟨by decide +kernel, by decide +kernel⟩, List.mem_of_getElem? (i := 1002) (by decide +kernel), List.mem_of_getElem? (i := 1090) (by decide +kernel), List.mem_of_getElem? (i := 1091) (by decide +kernel)⟩
theorem lw_p37 : lw_okq (⟨"LiftSchedulerModel", "failed", "()Z"⟩, 16) := ⟨⟨by decide +kernel, by decide +kernel⟩, List.mem_of_getElem? (i := 1002) (by decide +kernel), List.mem_of_getElem? (i := 1097) (by decide +kernel), List.mem_of_getElem? (i := 1098) (by decide +kernel)⟩
theorem lw_p38 : lw_okq (⟨"LiftSchedulerModel", "fail", "(II)V"⟩, 16) := ⟨⟨by decide +kernel, by decide +kernel⟩, List.mem_of_getElem? (i := 1002) (by decide +kernel), List.mem_of_getElem? (i := 1103) (by decide +kernel), List.mem_of_getElem? (i := 1104) (by decide +kernel)⟩
theorem lw_p39 : lw_okq (⟨"LiftSchedulerModel", "number", "(II)I"⟩, 16) := ⟨⟨by decide +kernel, by decide +kernel⟩, List.mem_of_getElem? (i := 1002) (by decide +kernel), List.mem_of_getElem? (i := 1107) (by decide +kernel), List.mem_of_getElem? (i := 1108) (by decide +kernel)⟩
theorem lw_p40 : lw_okq (⟨"LiftSchedulerModel", "policyWord", "()I"⟩, 16) := ⟨⟨by decide +kernel, by decide +kernel⟩, List.mem_of_getElem? (i := 1002) (by decide +kernel), List.mem_of_getElem? (i := 1111) (by decide +kernel), List.mem_of_getElem? (i := 1112) (by decide +kernel)⟩
theorem lw_p41 : lw_okq (⟨"LiftSchedulerModel", "semicolon", "()V"⟩, 16) := ⟨⟨by decide +kernel, by decide +kernel⟩, List.mem_of_getElem? (i := 1002) (by decide +kernel), List.mem_of_getElem? (i := 1118) (by decide +kernel), List.mem_of_getElem? (i := 1119) (by decide +kernel)⟩
theorem lw_p42 : lw_okq (⟨"LiftSchedulerModel", "commands", "()I"⟩, 16) := ⟨⟨by decide +kernel, by decide +kernel⟩, List.mem_of_getElem? (i := 1002) (by decide +kernel), List.mem_of_getElem? (i := 1122) (by decide +kernel), List.mem_of_getElem? (i := 1123) (by decide +kernel)⟩
theorem lw_p43 : lw_okq (⟨"LiftSchedulerModel", "command", "()V"⟩, 16) := ⟨⟨by decide +kernel, by decide +kernel⟩, List.mem_of_getElem? (i := 1002) (by decide +kernel), List.mem_of_getElem? (i := 1126) (by decide +kernel), List.mem_of_getElem? (i := 1127) (by decide +kernel)⟩
theorem lw_p44 : lw_okq (⟨"LiftSchedulerModel", "repeats", "()V"⟩, 16) := ⟨⟨by decide +kernel, by decide +kernel⟩, List.mem_of_getElem? (i := 1002) (by decide +kernel), List.mem_of_getElem? (i := 1131) (by decide +kernel), List.mem_of_getElem? (i := 1132) (by decide +kernel)⟩
theorem lw_p45 : lw_okq (⟨"LiftSchedulerModel", "bracket", "(I)V"⟩, 16) := ⟨⟨by decide +kernel, by decide +kernel⟩, List.mem_of_getElem? (i := 1002) (by decide +kernel), List.mem_of_getElem? (i := 1135) (by decide +kernel), List.mem_of_getElem? (i := 1136) (by decide +kernel)⟩
theorem lw_p46 : lw_okq (⟨"LiftSchedulerModel", "simple", "()V"⟩, 16) := ⟨⟨by decide +kernel, by decide +kernel⟩, List.mem_of_getElem? (i := 1002) (by decide +kernel), List.mem_of_getElem? (i := 1139) (by decide +kernel), List.mem_of_getElem? (i := 1140) (by decide +kernel)⟩
theorem lw_p47 : lw_okq (⟨"LiftSchedulerModel", "readsCall", "()V"⟩, 16) := ⟨⟨by decide +kernel, by decide +kernel⟩, List.mem_of_getElem? (i := 1002) (by decide +kernel), List.mem_of_getElem? (i := 1144) (by decide +kernel), List.mem_of_getElem? (i := 1145) (by decide +kernel)⟩
def lw_privs_3 : List (MethodName × Nat) := [(⟨"LiftSchedulerModel", "begins", "()V"⟩, 16), (⟨"LiftSchedulerModel", "keeps", "(I)V"⟩, 16), (⟨"LiftSchedulerModel", "accepts", "(Ljava/lang/String;)Z"⟩, 16), (⟨"LiftSchedulerModel", "peek", "()I"⟩, 16), (⟨"LiftSchedulerModel", "byteAt", "(I)I"⟩, 16), (⟨"LiftSchedulerModel", "failed", "()Z"⟩, 16), (⟨"LiftSchedulerModel", "fail", "(II)V"⟩, 16), (⟨"LiftSchedulerModel", "number", "(II)I"⟩, 16), (⟨"LiftSchedulerModel", "policyWord", "()I"⟩, 16), (⟨"LiftSchedulerModel", "semicolon", "()V"⟩, 16), (⟨"LiftSchedulerModel", "commands", "()I"⟩, 16), (⟨"LiftSchedulerModel", "command", "()V"⟩, 16), (⟨"LiftSchedulerModel", "repeats", "()V"⟩, 16), (⟨"LiftSchedulerModel", "bracket", "(I)V"⟩, 16), (⟨"LiftSchedulerModel", "simple", "()V"⟩, 16), (⟨"LiftSchedulerModel", "readsCall", "()V"⟩, 16)]
theorem lw_r3 : ∀ q ∈ lw_privs_3, lw_okq q := List.forall_mem_cons.mpr ⟨lw_p32, List.forall_mem_cons.mpr ⟨lw_p33, List.forall_mem_cons.mpr ⟨lw_p34, List.forall_mem_cons.mpr ⟨lw_p35, List.forall_mem_cons.mpr ⟨lw_p36, List.forall_mem_cons.mpr ⟨lw_p37, List.forall_mem_cons.mpr ⟨lw_p38, List.forall_mem_cons.mpr ⟨lw_p39, List.forall_mem_cons.mpr ⟨lw_p40, List.forall_mem_cons.mpr ⟨lw_p41, List.forall_mem_cons.mpr ⟨lw_p42, List.forall_mem_cons.mpr ⟨lw_p43, List.forall_mem_cons.mpr ⟨lw_p44, List.forall_mem_cons.mpr ⟨lw_p45, List.forall_mem_cons.mpr ⟨lw_p46, List.forall_mem_cons.mpr ⟨lw_p47, fun _ h => absurd h List.not_mem_nil⟩⟩⟩⟩⟩⟩⟩⟩⟩⟩⟩⟩⟩⟩⟩⟩
theorem lw_p48 : lw_okq (⟨"LiftSchedulerModel", "floorNumber", "()I"⟩, 16) := ⟨⟨by decide +kernel, by decide +kernel⟩, List.mem_of_getElem? (i := 1002) (by decide +kernel), List.mem_of_getElem? (i := 1148) (by decide +kernel), List.mem_of_getElem? (i := 1149) (by decide +kernel)⟩
theorem lw_p49 : lw_okq (⟨"LiftSchedulerModel", "adds", "(III)V"⟩, 16) := ⟨⟨by decide +kernel, by decide +kernel⟩, List.mem_of_getElem? (i := 1002) (by decide +kernel), List.mem_of_getElem? (i := 1153) (by decide +kernel), List.mem_of_getElem? (i := 1154) (by decide +kernel)⟩
theorem lw_p50 : lw_okq (⟨"LiftSchedulerModel", "readsRun", "()V"⟩, 16) := ⟨⟨by decide +kernel, by decide +kernel⟩, List.mem_of_getElem? (i := 1002) (by decide +kernel), List.mem_of_getElem? (i := 1161) (by decide +kernel), List.mem_of_getElem? (i := 1162) (by decide +kernel)⟩
theorem lw_p51 : lw_okq (⟨"LiftSchedulerModel", "ticks", "()V"⟩, 16) := ⟨⟨by decide +kernel, by decide +kernel⟩, List.mem_of_getElem? (i := 1002) (by decide +kernel), List.mem_of_getElem? (i := 1165) (by decide +kernel), List.mem_of_getElem? (i := 1166) (by decide +kernel)⟩
theorem lw_p52 : lw_okq (⟨"LiftSchedulerModel", "stops", "()I"⟩, 16) := ⟨⟨by decide +kernel, by decide +kernel⟩, List.mem_of_getElem? (i := 1002) (by decide +kernel), List.mem_of_getElem? (i := 1169) (by decide +kernel), List.mem_of_getElem? (i := 1170) (by decide +kernel)⟩
theorem lw_p53 : lw_okq (⟨"LiftSchedulerModel", "full", "()Z"⟩, 16) := ⟨⟨by decide +kernel, by decide +kernel⟩, List.mem_of_getElem? (i := 1002) (by decide +kernel), List.mem_of_getElem? (i := 1173) (by decide +kernel), List.mem_of_getElem? (i := 1174) (by decide +kernel)⟩
theorem lw_p54 : lw_okq (⟨"LiftSchedulerModel", "many", "(I)I"⟩, 16) := ⟨⟨by decide +kernel, by decide +kernel⟩, List.mem_of_getElem? (i := 1002) (by decide +kernel), List.mem_of_getElem? (i := 1177) (by decide +kernel), List.mem_of_getElem? (i := 1178) (by decide +kernel)⟩
theorem lw_p55 : lw_okq (⟨"LiftSchedulerModel", "status", "(I)I"⟩, 16) := ⟨⟨by decide +kernel, by decide +kernel⟩, List.mem_of_getElem? (i := 1002) (by decide +kernel), List.mem_of_getElem? (i := 1181) (by decide +kernel), List.mem_of_getElem? (i := 1182) (by decide +kernel)⟩
theorem lw_p56 : lw_okq (⟨"LiftSchedulerModel", "left", "(I)I"⟩, 16) := ⟨⟨by decide +kernel, by decide +kernel⟩, List.mem_of_getElem? (i := 1002) (by decide +kernel), List.mem_of_getElem? (i := 1185) (by decide +kernel), List.mem_of_getElem? (i := 1186) (by decide +kernel)⟩
theorem lw_p57 : lw_okq (⟨"LiftSchedulerModel", "boarded", "(I)I"⟩, 16) := ⟨⟨by decide +kernel, by decide +kernel⟩, List.mem_of_getElem? (i := 1002) (by decide +kernel), List.mem_of_getElem? (i := 1189) (by decide +kernel), List.mem_of_getElem? (i := 1190) (by decide +kernel)⟩
theorem lw_p58 : lw_okq (⟨"LiftSchedulerModel", "arrival", "(I)I"⟩, 16) := ⟨⟨by decide +kernel, by decide +kernel⟩, List.mem_of_getElem? (i := 1002) (by decide +kernel), List.mem_of_getElem? (i := 1193) (by decide +kernel), List.mem_of_getElem? (i := 1194) (by decide +kernel)⟩
theorem lw_p59 : lw_okq (⟨"LiftSchedulerModel", "destination", "(I)I"⟩, 16) := ⟨⟨by decide +kernel, by decide +kernel⟩, List.mem_of_getElem? (i := 1002) (by decide +kernel), List.mem_of_getElem? (i := 1197) (by decide +kernel), List.mem_of_getElem? (i := 1198) (by decide +kernel)⟩
theorem lw_p60 : lw_okq (⟨"LiftSchedulerModel", "origin", "(I)I"⟩, 16) := ⟨⟨by decide +kernel, by decide +kernel⟩, List.mem_of_getElem? (i := 1002) (by decide +kernel), List.mem_of_getElem? (i := 1201) (by decide +kernel), List.mem_of_getElem? (i := 1202) (by decide +kernel)⟩
theorem lw_p61 : lw_okq (⟨"LiftSchedulerModel", "opens", "()V"⟩, 16) := ⟨⟨by decide +kernel, by decide +kernel⟩, List.mem_of_getElem? (i := 1002) (by decide +kernel), List.mem_of_getElem? (i := 1208) (by decide +kernel), List.mem_of_getElem? (i := 1209) (by decide +kernel)⟩
theorem lw_p62 : lw_okq (⟨"LiftSchedulerModel", "first", "(I)I"⟩, 16) := ⟨⟨by decide +kernel, by decide +kernel⟩, List.mem_of_getElem? (i := 1002) (by decide +kernel), List.mem_of_getElem? (i := 1212) (by decide +kernel), List.mem_of_getElem? (i := 1213) (by decide +kernel)⟩
theorem lw_p63 : lw_okq (⟨"LiftSchedulerModel", "isAhead", "(II)Z"⟩, 16) := ⟨⟨by decide +kernel, by decide +kernel⟩, List.mem_of_getElem? (i := 1002) (by decide +kernel), List.mem_of_getElem? (i := 1216) (by decide +kernel), List.mem_of_getElem? (i := 1217) (by decide +kernel)⟩
def lw_privs_4 : List (MethodName × Nat) := [(⟨"LiftSchedulerModel", "floorNumber", "()I"⟩, 16), (⟨"LiftSchedulerModel", "adds", "(III)V"⟩, 16), (⟨"LiftSchedulerModel", "readsRun", "()V"⟩, 16), (⟨"LiftSchedulerModel", "ticks", "()V"⟩, 16), (⟨"LiftSchedulerModel", "stops", "()I"⟩, 16), (⟨"LiftSchedulerModel", "full", "()Z"⟩, 16), (⟨"LiftSchedulerModel", "many", "(I)I"⟩, 16), (⟨"LiftSchedulerModel", "status", "(I)I"⟩, 16), (⟨"LiftSchedulerModel", "left", "(I)I"⟩, 16), (⟨"LiftSchedulerModel", "boarded", "(I)I"⟩, 16), (⟨"LiftSchedulerModel", "arrival", "(I)I"⟩, 16), (⟨"LiftSchedulerModel", "destination", "(I)I"⟩, 16), (⟨"LiftSchedulerModel", "origin", "(I)I"⟩, 16), (⟨"LiftSchedulerModel", "opens", "()V"⟩, 16), (⟨"LiftSchedulerModel", "first", "(I)I"⟩, 16), (⟨"LiftSchedulerModel", "isAhead", "(II)Z"⟩, 16)]
theorem lw_r4 : ∀ q ∈ lw_privs_4, lw_okq q := List.forall_mem_cons.mpr ⟨lw_p48, List.forall_mem_cons.mpr ⟨lw_p49, List.forall_mem_cons.mpr ⟨lw_p50, List.forall_mem_cons.mpr ⟨lw_p51, List.forall_mem_cons.mpr ⟨lw_p52, List.forall_mem_cons.mpr ⟨lw_p53, List.forall_mem_cons.mpr ⟨lw_p54, List.forall_mem_cons.mpr ⟨lw_p55, List.forall_mem_cons.mpr ⟨lw_p56, List.forall_mem_cons.mpr ⟨lw_p57, List.forall_mem_cons.mpr ⟨lw_p58, List.forall_mem_cons.mpr ⟨lw_p59, List.forall_mem_cons.mpr ⟨lw_p60, List.forall_mem_cons.mpr ⟨lw_p61, List.forall_mem_cons.mpr ⟨lw_p62, List.forall_mem_cons.mpr ⟨lw_p63, fun _ h => absurd h List.not_mem_nil⟩⟩⟩⟩⟩⟩⟩⟩⟩⟩⟩⟩⟩⟩⟩⟩
theorem lw_p64 : lw_okq (⟨"LiftSchedulerModel", "moves", "(I)V"⟩, 16) := ⟨⟨by decide +kernel, by decide +kernel⟩, List.mem_of_getElem? (i := 1002) (by decide +kernel), List.mem_of_getElem? (i := 1220) (by decide +kernel), List.mem_of_getElem? (i := 1221) (by decide +kernel)⟩
theorem lw_p65 : lw_okq (⟨"LiftSchedulerModel", "target", "(I)I"⟩, 16) := ⟨⟨by decide +kernel, by decide +kernel⟩, List.mem_of_getElem? (i := 1002) (by decide +kernel), List.mem_of_getElem? (i := 1224) (by decide +kernel), List.mem_of_getElem? (i := 1225) (by decide +kernel)⟩
theorem lw_p66 : lw_okq (⟨"LiftSchedulerModel", "inOrder", "()I"⟩, 16) := ⟨⟨by decide +kernel, by decide +kernel⟩, List.mem_of_getElem? (i := 1002) (by decide +kernel), List.mem_of_getElem? (i := 1228) (by decide +kernel), List.mem_of_getElem? (i := 1229) (by decide +kernel)⟩
theorem lw_p67 : lw_okq (⟨"LiftSchedulerModel", "nearest", "(I)I"⟩, 16) := ⟨⟨by decide +kernel, by decide +kernel⟩, List.mem_of_getElem? (i := 1002) (by decide +kernel), List.mem_of_getElem? (i := 1232) (by decide +kernel), List.mem_of_getElem? (i := 1233) (by decide +kernel)⟩
theorem lw_p68 : lw_okq (⟨"LiftSchedulerModel", "nearestIn", "(IZ)I"⟩, 16) := ⟨⟨by decide +kernel, by decide +kernel⟩, List.mem_of_getElem? (i := 1002) (by decide +kernel), List.mem_of_getElem? (i := 1236) (by decide +kernel), List.mem_of_getElem? (i := 1237) (by decide +kernel)⟩
theorem lw_p69 : lw_okq (⟨"LiftSchedulerModel", "reverses", "(I)Z"⟩, 16) := ⟨⟨by decide +kernel, by decide +kernel⟩, List.mem_of_getElem? (i := 1002) (by decide +kernel), List.mem_of_getElem? (i := 1240) (by decide +kernel), List.mem_of_getElem? (i := 1241) (by decide +kernel)⟩
theorem lw_p70 : lw_okq (⟨"LiftSchedulerModel", "finishes", "(I)I"⟩, 16) := ⟨⟨by decide +kernel, by decide +kernel⟩, List.mem_of_getElem? (i := 1002) (by decide +kernel), List.mem_of_getElem? (i := 1245) (by decide +kernel), List.mem_of_getElem? (i := 1246) (by decide +kernel)⟩
theorem lw_p71 : lw_okq (⟨"LiftSchedulerModel", "finished", "()Z"⟩, 16) := ⟨⟨by decide +kernel, by decide +kernel⟩, List.mem_of_getElem? (i := 1002) (by decide +kernel), List.mem_of_getElem? (i := 1249) (by decide +kernel), List.mem_of_getElem? (i := 1250) (by decide +kernel)⟩
theorem lw_p72 : lw_okq (⟨"LiftSchedulerModel", "readsUntil", "()V"⟩, 16) := ⟨⟨by decide +kernel, by decide +kernel⟩, List.mem_of_getElem? (i := 1002) (by decide +kernel), List.mem_of_getElem? (i := 1254) (by decide +kernel), List.mem_of_getElem? (i := 1255) (by decide +kernel)⟩
theorem lw_p73 : lw_okq (⟨"LiftSchedulerModel", "counterWord", "()I"⟩, 16) := ⟨⟨by decide +kernel, by decide +kernel⟩, List.mem_of_getElem? (i := 1002) (by decide +kernel), List.mem_of_getElem? (i := 1258) (by decide +kernel), List.mem_of_getElem? (i := 1259) (by decide +kernel)⟩
theorem lw_p74 : lw_okq (⟨"LiftSchedulerModel", "counted", "(I)I"⟩, 16) := ⟨⟨by decide +kernel, by decide +kernel⟩, List.mem_of_getElem? (i := 1002) (by decide +kernel), List.mem_of_getElem? (i := 1268) (by decide +kernel), List.mem_of_getElem? (i := 1269) (by decide +kernel)⟩
theorem lw_p75 : lw_okq (⟨"LiftSchedulerModel", "readsPolicy", "()V"⟩, 16) := ⟨⟨by decide +kernel, by decide +kernel⟩, List.mem_of_getElem? (i := 1002) (by decide +kernel), List.mem_of_getElem? (i := 1274) (by decide +kernel), List.mem_of_getElem? (i := 1275) (by decide +kernel)⟩
theorem lw_p76 : lw_okq (⟨"LiftSchedulerModel", "readsCapacity", "()V"⟩, 16) := ⟨⟨by decide +kernel, by decide +kernel⟩, List.mem_of_getElem? (i := 1002) (by decide +kernel), List.mem_of_getElem? (i := 1279) (by decide +kernel), List.mem_of_getElem? (i := 1280) (by decide +kernel)⟩
theorem lw_p77 : lw_okq (⟨"LiftSchedulerModel", "readsExpectation", "(I)V"⟩, 16) := ⟨⟨by decide +kernel, by decide +kernel⟩, List.mem_of_getElem? (i := 1002) (by decide +kernel), List.mem_of_getElem? (i := 1284) (by decide +kernel), List.mem_of_getElem? (i := 1285) (by decide +kernel)⟩
theorem lw_p78 : lw_okq (⟨"LiftSchedulerModel", "bringsBack", "(I)V"⟩, 16) := ⟨⟨by decide +kernel, by decide +kernel⟩, List.mem_of_getElem? (i := 1002) (by decide +kernel), List.mem_of_getElem? (i := 1288) (by decide +kernel), List.mem_of_getElem? (i := 1289) (by decide +kernel)⟩
theorem lw_p79 : lw_okq (⟨"LiftSchedulerModel", "records", "()V"⟩, 16) := ⟨⟨by decide +kernel, by decide +kernel⟩, List.mem_of_getElem? (i := 1002) (by decide +kernel), List.mem_of_getElem? (i := 1296) (by decide +kernel), List.mem_of_getElem? (i := 1297) (by decide +kernel)⟩
def lw_privs_5 : List (MethodName × Nat) := [(⟨"LiftSchedulerModel", "moves", "(I)V"⟩, 16), (⟨"LiftSchedulerModel", "target", "(I)I"⟩, 16), (⟨"LiftSchedulerModel", "inOrder", "()I"⟩, 16), (⟨"LiftSchedulerModel", "nearest", "(I)I"⟩, 16), (⟨"LiftSchedulerModel", "nearestIn", "(IZ)I"⟩, 16), (⟨"LiftSchedulerModel", "reverses", "(I)Z"⟩, 16), (⟨"LiftSchedulerModel", "finishes", "(I)I"⟩, 16), (⟨"LiftSchedulerModel", "finished", "()Z"⟩, 16), (⟨"LiftSchedulerModel", "readsUntil", "()V"⟩, 16), (⟨"LiftSchedulerModel", "counterWord", "()I"⟩, 16), (⟨"LiftSchedulerModel", "counted", "(I)I"⟩, 16), (⟨"LiftSchedulerModel", "readsPolicy", "()V"⟩, 16), (⟨"LiftSchedulerModel", "readsCapacity", "()V"⟩, 16), (⟨"LiftSchedulerModel", "readsExpectation", "(I)V"⟩, 16), (⟨"LiftSchedulerModel", "bringsBack", "(I)V"⟩, 16), (⟨"LiftSchedulerModel", "records", "()V"⟩, 16)]
theorem lw_r5 : ∀ q ∈ lw_privs_5, lw_okq q := List.forall_mem_cons.mpr ⟨lw_p64, List.forall_mem_cons.mpr ⟨lw_p65, List.forall_mem_cons.mpr ⟨lw_p66, List.forall_mem_cons.mpr ⟨lw_p67, List.forall_mem_cons.mpr ⟨lw_p68, List.forall_mem_cons.mpr ⟨lw_p69, List.forall_mem_cons.mpr ⟨lw_p70, List.forall_mem_cons.mpr ⟨lw_p71, List.forall_mem_cons.mpr ⟨lw_p72, List.forall_mem_cons.mpr ⟨lw_p73, List.forall_mem_cons.mpr ⟨lw_p74, List.forall_mem_cons.mpr ⟨lw_p75, List.forall_mem_cons.mpr ⟨lw_p76, List.forall_mem_cons.mpr ⟨lw_p77, List.forall_mem_cons.mpr ⟨lw_p78, List.forall_mem_cons.mpr ⟨lw_p79, fun _ h => absurd h List.not_mem_nil⟩⟩⟩⟩⟩⟩⟩⟩⟩⟩⟩⟩⟩⟩⟩⟩
theorem lw_p80 : lw_okq (⟨"LiftSchedulerModel", "noPolicy", "(I)Z"⟩, 16) := ⟨⟨by decide +kernel, by decide +kernel⟩, List.mem_of_getElem? (i := 1002) (by decide +kernel), List.mem_of_getElem? (i := 1344) (by decide +kernel), List.mem_of_getElem? (i := 1345) (by decide +kernel)⟩
theorem lw_p81 : lw_okq (⟨"LiftSchedulerModel", "fails", "(ZI)Z"⟩, 16) := ⟨⟨by decide +kernel, by decide +kernel⟩, List.mem_of_getElem? (i := 1002) (by decide +kernel), List.mem_of_getElem? (i := 1348) (by decide +kernel), List.mem_of_getElem? (i := 1349) (by decide +kernel)⟩
theorem lw_p82 : lw_okq (⟨"LiftSchedulerModel", "noPassenger", "(I)Z"⟩, 16) := ⟨⟨by decide +kernel, by decide +kernel⟩, List.mem_of_getElem? (i := 1002) (by decide +kernel), List.mem_of_getElem? (i := 1376) (by decide +kernel), List.mem_of_getElem? (i := 1377) (by decide +kernel)⟩
theorem lw_p83 : lw_okq (⟨"LiftSchedulerModel", "waited", "(I)I"⟩, 16) := ⟨⟨by decide +kernel, by decide +kernel⟩, List.mem_of_getElem? (i := 1002) (by decide +kernel), List.mem_of_getElem? (i := 1404) (by decide +kernel), List.mem_of_getElem? (i := 1405) (by decide +kernel)⟩
theorem lw_p84 : lw_okq (⟨"LiftSchedulerModel", "ridden", "(I)I"⟩, 16) := ⟨⟨by decide +kernel, by decide +kernel⟩, List.mem_of_getElem? (i := 1002) (by decide +kernel), List.mem_of_getElem? (i := 1412) (by decide +kernel), List.mem_of_getElem? (i := 1413) (by decide +kernel)⟩
theorem lw_p85 : lw_okq (⟨"LiftSchedulerModel", "noFloor", "(I)Z"⟩, 16) := ⟨⟨by decide +kernel, by decide +kernel⟩, List.mem_of_getElem? (i := 1002) (by decide +kernel), List.mem_of_getElem? (i := 1428) (by decide +kernel), List.mem_of_getElem? (i := 1429) (by decide +kernel)⟩
theorem lw_p86 : lw_okq (⟨"LiftSchedulerModel", "waiting", "(I)I"⟩, 16) := ⟨⟨by decide +kernel, by decide +kernel⟩, List.mem_of_getElem? (i := 1002) (by decide +kernel), List.mem_of_getElem? (i := 1432) (by decide +kernel), List.mem_of_getElem? (i := 1433) (by decide +kernel)⟩
theorem lw_p87 : lw_okq (⟨"LiftSchedulerModel", "ahead", "(I)I"⟩, 16) := ⟨⟨by decide +kernel, by decide +kernel⟩, List.mem_of_getElem? (i := 1002) (by decide +kernel), List.mem_of_getElem? (i := 1440) (by decide +kernel), List.mem_of_getElem? (i := 1441) (by decide +kernel)⟩
theorem lw_p88 : lw_okq (⟨"LiftSchedulerModel", "startingAt", "(I)I"⟩, 16) := ⟨⟨by decide +kernel, by decide +kernel⟩, List.mem_of_getElem? (i := 1002) (by decide +kernel), List.mem_of_getElem? (i := 1456) (by decide +kernel), List.mem_of_getElem? (i := 1457) (by decide +kernel)⟩
theorem lw_p89 : lw_okq (⟨"LiftSchedulerModel", "rides", "()I"⟩, 16) := ⟨⟨by decide +kernel, by decide +kernel⟩, List.mem_of_getElem? (i := 1002) (by decide +kernel), List.mem_of_getElem? (i := 1472) (by decide +kernel), List.mem_of_getElem? (i := 1473) (by decide +kernel)⟩
theorem lw_p90 : lw_okq (⟨"LiftSchedulerModel", "waits", "()I"⟩, 16) := ⟨⟨by decide +kernel, by decide +kernel⟩, List.mem_of_getElem? (i := 1002) (by decide +kernel), List.mem_of_getElem? (i := 1492) (by decide +kernel), List.mem_of_getElem? (i := 1493) (by decide +kernel)⟩
theorem lw_p91 : lw_okq (⟨"LiftSchedulerModel", "greatestWait", "()I"⟩, 16) := ⟨⟨by decide +kernel, by decide +kernel⟩, List.mem_of_getElem? (i := 1002) (by decide +kernel), List.mem_of_getElem? (i := 1500) (by decide +kernel), List.mem_of_getElem? (i := 1501) (by decide +kernel)⟩
theorem lw_p92 : lw_okq (⟨"LiftSchedulerModel", "forecasts", "()I"⟩, 16) := ⟨⟨by decide +kernel, by decide +kernel⟩, List.mem_of_getElem? (i := 1002) (by decide +kernel), List.mem_of_getElem? (i := 1516) (by decide +kernel), List.mem_of_getElem? (i := 1517) (by decide +kernel)⟩
theorem lw_p93 : lw_okq (⟨"LiftSchedulerModel", "waitsBy", "(I)I"⟩, 16) := ⟨⟨by decide +kernel, by decide +kernel⟩, List.mem_of_getElem? (i := 1002) (by decide +kernel), List.mem_of_getElem? (i := 1529) (by decide +kernel), List.mem_of_getElem? (i := 1530) (by decide +kernel)⟩
theorem lw_p94 : lw_okq (⟨"LiftSchedulerModel", "noCapacity", "(I)Z"⟩, 16) := ⟨⟨by decide +kernel, by decide +kernel⟩, List.mem_of_getElem? (i := 1002) (by decide +kernel), List.mem_of_getElem? (i := 1545) (by decide +kernel), List.mem_of_getElem? (i := 1546) (by decide +kernel)⟩
theorem lw_p95 : lw_okq (⟨"LiftSchedulerModel", "write", "(I)V"⟩, 16) := ⟨⟨by decide +kernel, by decide +kernel⟩, List.mem_of_getElem? (i := 1002) (by decide +kernel), List.mem_of_getElem? (i := 1593) (by decide +kernel), List.mem_of_getElem? (i := 1594) (by decide +kernel)⟩
def lw_privs_6 : List (MethodName × Nat) := [(⟨"LiftSchedulerModel", "noPolicy", "(I)Z"⟩, 16), (⟨"LiftSchedulerModel", "fails", "(ZI)Z"⟩, 16), (⟨"LiftSchedulerModel", "noPassenger", "(I)Z"⟩, 16), (⟨"LiftSchedulerModel", "waited", "(I)I"⟩, 16), (⟨"LiftSchedulerModel", "ridden", "(I)I"⟩, 16), (⟨"LiftSchedulerModel", "noFloor", "(I)Z"⟩, 16), (⟨"LiftSchedulerModel", "waiting", "(I)I"⟩, 16), (⟨"LiftSchedulerModel", "ahead", "(I)I"⟩, 16), (⟨"LiftSchedulerModel", "startingAt", "(I)I"⟩, 16), (⟨"LiftSchedulerModel", "rides", "()I"⟩, 16), (⟨"LiftSchedulerModel", "waits", "()I"⟩, 16), (⟨"LiftSchedulerModel", "greatestWait", "()I"⟩, 16), (⟨"LiftSchedulerModel", "forecasts", "()I"⟩, 16), (⟨"LiftSchedulerModel", "waitsBy", "(I)I"⟩, 16), (⟨"LiftSchedulerModel", "noCapacity", "(I)Z"⟩, 16), (⟨"LiftSchedulerModel", "write", "(I)V"⟩, 16)]
theorem lw_r6 : ∀ q ∈ lw_privs_6, lw_okq q := List.forall_mem_cons.mpr ⟨lw_p80, List.forall_mem_cons.mpr ⟨lw_p81, List.forall_mem_cons.mpr ⟨lw_p82, List.forall_mem_cons.mpr ⟨lw_p83, List.forall_mem_cons.mpr ⟨lw_p84, List.forall_mem_cons.mpr ⟨lw_p85, List.forall_mem_cons.mpr ⟨lw_p86, List.forall_mem_cons.mpr ⟨lw_p87, List.forall_mem_cons.mpr ⟨lw_p88, List.forall_mem_cons.mpr ⟨lw_p89, List.forall_mem_cons.mpr ⟨lw_p90, List.forall_mem_cons.mpr ⟨lw_p91, List.forall_mem_cons.mpr ⟨lw_p92, List.forall_mem_cons.mpr ⟨lw_p93, List.forall_mem_cons.mpr ⟨lw_p94, List.forall_mem_cons.mpr ⟨lw_p95, fun _ h => absurd h List.not_mem_nil⟩⟩⟩⟩⟩⟩⟩⟩⟩⟩⟩⟩⟩⟩⟩⟩
theorem lw_p96 : lw_okq (⟨"LiftSchedulerModel", "writeNumber", "(I)V"⟩, 16) := ⟨⟨by decide +kernel, by decide +kernel⟩, List.mem_of_getElem? (i := 1002) (by decide +kernel), List.mem_of_getElem? (i := 1601) (by decide +kernel), List.mem_of_getElem? (i := 1602) (by decide +kernel)⟩
def lw_privs_7 : List (MethodName × Nat) := [(⟨"LiftSchedulerModel", "writeNumber", "(I)V"⟩, 16)]
theorem lw_r7 : ∀ q ∈ lw_privs_7, lw_okq q := List.forall_mem_cons.mpr ⟨lw_p96, fun _ h => absurd h List.not_mem_nil⟩
def lw_privs : List (MethodName × Nat) := lw_privs_1 ++ (lw_privs_2 ++ (lw_privs_3 ++ (lw_privs_4 ++ (lw_privs_5 ++ (lw_privs_6 ++ (lw_privs_7))))))
def lw_tbl : List Cond := k2_sels lw_privs ++ tables_1
theorem lw_privs_ok : ∀ q ∈ lw_privs, lw_okq q := by
  show ∀ q ∈ lw_privs_1 ++ (lw_privs_2 ++ (lw_privs_3 ++ (lw_privs_4 ++ (lw_privs_5 ++ (lw_privs_6 ++ (lw_privs_7)))))), lw_okq q
  exact List.forall_mem_append.mpr ⟨lw_r1, List.forall_mem_append.mpr ⟨lw_r2, List.forall_mem_append.mpr ⟨lw_r3, List.forall_mem_append.mpr ⟨lw_r4, List.forall_mem_append.mpr ⟨lw_r5, List.forall_mem_append.mpr ⟨lw_r6, lw_r7⟩⟩⟩⟩⟩⟩
/-- the streams that the claim lets the run draw from -/
abbrev lw_cs : List Choice := [Jvm.Choice.named "NaN.bits"]
theorem lw_bits : nanBits ∈ lw_cs := by first | decide | exact List.mem_cons_self | simp [lw_cs, nanBits]

/-! ===== BEGIN words of one list among another's, by their places ===== -/
theorem goodIn_r {big : List Cond} (ws : List Cond) (ps : List Nat) (hp : ws = ps.filterMap (fun i => big[i]?)) (h : ws.all goodWord = true) : GoodIn big ws := by
  intro w hw
  have h1 := List.all_eq_true.mp h w hw
  rw [hp] at hw
  obtain ⟨i, -, hi⟩ := List.mem_filterMap.mp hw
  have hm : w ∈ big := by first | exact List.mem_of_getElem? hi | exact List.getElem?_mem hi
  exact ⟨hm, good_of_word h1⟩
theorem goodIn_app {big a b : List Cond} (ha : GoodIn big a) (hb : GoodIn big b) : GoodIn big (a ++ b) := fun w h => (List.mem_append.mp h).elim (ha w) (hb w)
theorem goodIn_ca {big a b : List Cond} {c : Cond} (ha : GoodIn big (c :: a)) (hb : GoodIn big b) : GoodIn big (c :: (a ++ b)) := fun w h => (List.mem_cons.mp h).elim (fun e => ha w (List.mem_cons.mpr (Or.inl e))) (fun h => (List.mem_append.mp h).elim (fun h => ha w (List.mem_cons.mpr (Or.inr h))) (hb w))
theorem goodIn_sub {big ws : List Cond} (hm : ∀ w ∈ ws, w ∈ big) (h : ws.all goodWord = true) : GoodIn big ws := fun w hw => ⟨hm w hw, good_of_word (List.all_eq_true.mp h w hw)⟩
/-! ===== END ===== -/

/-! ===== BEGIN exceptions that leave a method, and their catching by the caller (launches without stack traces) ===== -/
section VXA
/-! The laws vx_back, vx_callV, vx_callS, vx_callSW, vx_throw0, vx_throwS follow proofs of the library, with one case more: JvmDerived/Free/Laws.lean (Back.of_free), Shelf42/LK1.lean (callV, callS), Shelf/KitTraced.lean (throwNew0V, throwNewS). -/
/-- where a method has thrown q: the class by its name, the cell, what was written, the world -/
def vx_T (XC : String → State → State → Prop) (st : State) (q : Addr) (t : State) (mc ms : Nat) (free : Addr → Prop) : Prop :=
  ∃ (E : String) (ce : Cell) (L : List Loc), XC E st t ∧ t.heap[q]? = some ce ∧ ce.vm = .none ∧ st.vm.findClass E = some ce.cls ∧ st.WarmedH t.vm ∧ st.sameButNew ({ t with vm := st.vm } : State) L mc ms ∧ ∀ z ∈ L, free z.base
def vx_Q (Qc : Array Value → State → Outcome → State → Prop) (XC : String → State → State → Prop) (mc ms : Nat) (free : Addr → Prop) : Array Value → State → Outcome → State → Prop := fun a st o t =>
  (Qc a st o t ∧ ∃ L, FrameEnd st o t L mc ms ∧ ∀ q ∈ L, free q.base) ∨ ∃ q, o = .threw q ∧ vx_T XC st q t mc ms free
/-- a callee that returns or throws -/
def vx_Met (l : Launch) (y : MethodName) (ws : List Cond) (rm : Room) (Pc : Array Value → State → Prop) (Qc : Array Value → State → Outcome → State → Prop) (XC : String → State → State → Prop) (mc ms : Nat) (free : Addr → Prop) : Prop :=
  MetFree l y (headSpec ws rm) Pc (fun _ _ _ _ _ => True) (vx_Q Qc XC mc ms free)
def vx_Post (XC : String → State → State → Prop) (mc ms : Nat) (free : Addr → Prop) : Pt → Array Value → Addr → Pt → Prop := fun A a q B =>
  ∃ (g : JFrame) (mk : MethodId) (t : State) (L : List Loc) (E : String) (ce : Cell), B.U.heap = t.heap ∧ B.U.vm = t.vm ∧ XC E (A.U.calling g mk a) t ∧ t.heap[q]? = some ce ∧ ce.vm = .none ∧ A.U.vm.findClass E = some ce.cls ∧ B.locs = A.locs ++ L ∧ (∀ z ∈ L, free z.base) ∧ B.cells = A.cells + mc ∧ B.slots = A.slots + ms
def vx_Back (l : Launch) (R : Room) (p : Program) (e : Env) (below : List Frame) (s : State) (sargs : Array Value) (y : MethodName) (len W9 : Nat)
    (Pre : Pt → Array Value → Prop) (Post : Pt → Array Value → Option Value → Pt → Prop) (PostX : Pt → Array Value → Addr → Pt → Prop) : Prop :=
  ∀ (m : MethodId) (meth : Method) (c : Code) (A : Pt) (g : JFrame) (ig : Instr) (mk : MethodId) (a : Array Value),
    Stand p l e R s m sargs below meth c A.U A.locs A.cells A.slots → g.method = m → g.locals.size = c.maxLocals → decode c.code g.pc = .ok (ig, len) →
    2 * g.monitorRoom + (g.stack.map fun v => v.category).sum ≤ W9 → A.U.methodNamed? y = some mk → Pre A a →
    (∃ (v : Option Value) (B : Pt), Stand p l e R s m sargs below meth c B.U B.locs B.cells B.slots ∧ Post A a v B ∧
      Steps p.tables e below (doInvoke e (A.U.setTop g) [] mk a).1 (B.U.setTop { g with pc := g.pc + len, stack := v.toList ++ g.stack })) ∨
    (∃ (q : Addr) (B : Pt), Stand p l e R s m sargs below meth c B.U B.locs B.cells B.slots ∧ PostX A a q B ∧
      Steps p.tables e below (doInvoke e (A.U.setTop g) [] mk a).1 ((B.U.setTop g).pushFrame (.throwing q)))
section Payer
variable {l : Launch} {R : Room} {p : Program} {e : Env} {below : List Frame} {s : State} {sargs : Array Value} {y : MethodName} {len W9 : Nat}
theorem vx_back {ws : List Cond} {rm : Room} {Pc : Array Value → State → Prop} {Qc : Array Value → State → Outcome → State → Prop} {XC : String → State → State → Prop} {mc ms : Nat} {free : Addr → Prop} {bytes : ByteArray} {maxL : Nat} {ret : Option FieldType}
    (hM : vx_Met l y ws rm Pc Qc XC mc ms free) (hblind : FrameBlind Pc) (hrc : rm.cells = mc) (hrs : rm.slots = ms)
    (hframes : rm.frames + 1 ≤ R.frames) (hlocals : W9 + (maxL + 11) + rm.locals ≤ R.locals)
    (hws : ∀ w ∈ ws, ∀ a' U, s.WarmedH U.vm → w.before a' U = true) (hcode : Cond.code y bytes maxL ret ∈ ws) (hinit : ∀ a' U, s.WarmedH U.vm → (Cond.initialized y.cls).before a' U = true) :
    vx_Back l R p e below s sargs y len W9 (PreOf R mc ms Pc) (PostOf Qc mc ms free) (vx_Post XC mc ms free) := by
  intro m meth c A g ig mk a X hg hsize hdg hW hn hp
  have h1 : (headSpec ws rm).pre.before a A.U = true := atoms_intro fun w hw => hws w hw _ _ X.warmed
  have h2 : (Cond.code y bytes maxL ret).before a A.U = true := hws _ hcode _ _ X.warmed
  have h3 : (Cond.initialized y.cls).before a A.U = true := hinit _ _ X.warmed
  have h4 : A.cells + (headSpec ws rm).room.cells ≤ R.cells := by rw [show (headSpec ws rm).room.cells = mc from hrc]; exact hp.1
  have h5 : A.slots + (headSpec ws rm).room.slots ≤ R.slots := by rw [show (headSpec ws rm).room.slots = ms from hrs]; exact hp.2.1
  have hPc : Pc a (A.U.calling g mk a) := hblind _ _ _ _ hp.2.2
  obtain ⟨U, Ls, c0, s0⟩ := A
  dsimp only [Pt.U, Pt.locs, Pt.cells, Pt.slots] at h1 h2 h3 h4 h5 X hn hPc ⊢
  obtain ⟨methY, cY, hmY, hcY, -, hlY, -, -, -, -⟩ := Cond.code_spec hn h2
  obtain ⟨kY, hkY, -⟩ := className_of_methodNamed hn
  have hinitY : kY.init = .initialized := Cond.initialized_spec (findClass_of_methodNamed hn) hkY h3
  have h : At U g.method c below := by rw [hg]; exact X.here
  have hlocals9 : W9 + (maxL + 11) + (headSpec ws rm).room.locals ≤ R.locals := hlocals
  have happ : (headSpec ws rm).appliesLoose y e.platform (U.calling g mk a) = true :=
    Spec.appliesLoose_calling (g := g) h hdg hn hkY hinitY
      (X.room_calling (g := g) (R' := (headSpec ws rm).room) hsize hmY hcY hframes (by rw [hlY]; omega) h4 h5) h1
  obtain ⟨mid, hmid⟩ := h.above
  have hfr : (U.setTop g).frames = (.java g :: mid) ++ below := by rw [State.frames_setTop' g h.top, hmid]; rfl
  obtain ⟨o, s₂, hsteps, -, hend, hq⟩ := Steps.callFree hM p X.admits X.cas X.clock (acts := []) hfr happ hPc trivial
  have hq' : vx_Q Qc XC mc ms free a (U.calling g mk a) o s₂ := hq
  rw [State.frames_setTop' g h.top] at hend
  obtain ⟨g₀, hg0⟩ := Option.isSome_iff_exists.mp h.top
  obtain ⟨r, hr⟩ := State.topJava?_eq_some.mp hg0
  have hr' : (({ U with heap := s₂.heap, slotsUsed := s₂.slotsUsed } : State).setVm s₂.vm).frames = .java g₀ :: r := hr
  rcases hq' with ⟨hqc, L, hfe, hL⟩ | ⟨q, rfl, E, ce, L, hx, hce, hcv, hcl, hW₂, hsm, hL⟩
  · obtain ⟨⟨v, rfl⟩, hW₂, e2, q2, q3, q4, q5, q6⟩ := id hfe
    have e3 : s₂ = ({ (U.calling g mk a).setFrames s₂.frames with heap := s₂.heap, slotsUsed := s₂.slotsUsed } : State).setVm s₂.vm := by
      have : s₂ = ({ s₂ with vm := (U.calling g mk a).vm } : State).setVm s₂.vm := rfl
      rw [e2] at this
      exact this
    obtain ⟨c₂, i₂, len₂, hc₂, hd₂, hf₂⟩ := hend
    have hW' : U.WarmedH s₂.vm := hW₂
    have hcc : c₂ = c := by
      have h1 : s₂.code? g.method = U.code? g.method := by
        rw [State.code?_eq, State.code?_eq, hW'.alike.method?]
      exact Option.some.inj (hc₂.symm.trans (h1.trans h.code))
    subst hcc
    have hlen : len₂ = len := by rw [hdg] at hd₂; cases hd₂; rfl
    subst hlen
    have hs₂ : s₂ = (({ U with heap := s₂.heap, slotsUsed := s₂.slotsUsed } : State).setVm s₂.vm).setTop { g with pc := g.pc + len₂, stack := v.toList ++ g.stack } := by
      refine e3.trans ?_
      rw [hf₂, State.calling_eq h.top, State.setFrames_setFrames, State.setTop_of_frames _ hr', hr]
      rfl
    have hsame : U.sameButNew ({ U with heap := s₂.heap, slotsUsed := s₂.slotsUsed } : State) L mc ms := by
      refine ⟨?_, q2, q3, q4, q5, q6⟩
      obtain ⟨t, ht, -⟩ := State.frames_cons hr
      show ({ U with heap := s₂.heap, slotsUsed := s₂.slotsUsed } : State) = { U.setFrames U.frames with heap := s₂.heap, slotsUsed := s₂.slotsUsed }
      rw [State.setFrames_self ht]
    subst hg
    refine Or.inl ⟨v, ⟨(({ U with heap := s₂.heap, slotsUsed := s₂.slotsUsed } : State).setVm s₂.vm), Ls ++ L, c0 + mc, s0 + ms⟩,
      ⟨X.admits, X.cas, X.clock, X.frames, X.room, X.hears, X.method, X.code, (X.here.setHeapUsed s₂.heap s₂.slotsUsed).setVm hW'.alike, X.tail, State.WarmedH.trans X.warmed hW', X.limits, X.bytes, X.same.trans (hsame.setVm s.vm)⟩,
      ⟨g, mk, s₂, L, rfl, rfl, hqc, rfl, hL, rfl, rfl⟩, ?_⟩
    show Steps p.tables e below _ ((({ U with heap := s₂.heap, slotsUsed := s₂.slotsUsed } : State).setVm s₂.vm).setTop { g with pc := g.pc + len₂, stack := v.toList ++ g.stack })
    rw [← hs₂]
    exact hsteps
  · obtain ⟨e2, q2, q3, q4, q5, q6⟩ := id hsm
    have e3 : s₂ = ({ (U.calling g mk a).setFrames s₂.frames with heap := s₂.heap, slotsUsed := s₂.slotsUsed } : State).setVm s₂.vm := by
      have : s₂ = ({ s₂ with vm := (U.calling g mk a).vm } : State).setVm s₂.vm := rfl
      rw [e2] at this
      exact this
    have hf₂ : s₂.frames = .throwing q :: .java g :: U.frames.tail := hend
    have hW' : U.WarmedH s₂.vm := hW₂
    have hs₂ : s₂ = ((({ U with heap := s₂.heap, slotsUsed := s₂.slotsUsed } : State).setVm s₂.vm).setTop g).pushFrame (.throwing q) := by
      refine e3.trans ?_
      rw [hf₂, State.calling_eq h.top, State.setFrames_setFrames, State.pushFrame, State.frames_setTop _ hr', State.setTop_of_frames _ hr', State.setFrames_setFrames, hr]
      rfl
    have hsame : U.sameButNew ({ U with heap := s₂.heap, slotsUsed := s₂.slotsUsed } : State) L mc ms := by
      refine ⟨?_, q2, q3, q4, q5, q6⟩
      obtain ⟨t, ht, -⟩ := State.frames_cons hr
      show ({ U with heap := s₂.heap, slotsUsed := s₂.slotsUsed } : State) = { U.setFrames U.frames with heap := s₂.heap, slotsUsed := s₂.slotsUsed }
      rw [State.setFrames_self ht]
    subst hg
    refine Or.inr ⟨q, ⟨(({ U with heap := s₂.heap, slotsUsed := s₂.slotsUsed } : State).setVm s₂.vm), Ls ++ L, c0 + mc, s0 + ms⟩,
      ⟨X.admits, X.cas, X.clock, X.frames, X.room, X.hears, X.method, X.code, (X.here.setHeapUsed s₂.heap s₂.slotsUsed).setVm hW'.alike, X.tail, State.WarmedH.trans X.warmed hW', X.limits, X.bytes, X.same.trans (hsame.setVm s.vm)⟩,
      ⟨g, mk, s₂, L, E, ce, rfl, rfl, hx, hce, hcv, hcl, rfl, hL, rfl, rfl⟩, ?_⟩
    show Steps p.tables e below _ (((({ U with heap := s₂.heap, slotsUsed := s₂.slotsUsed } : State).setVm s₂.vm).setTop g).pushFrame (.throwing q))
    rw [← hs₂]
    exact hsteps
end Payer
section Calls
variable {p : Program} {l : Launch} {e : Env} {R : Room} {s : State} {m : MethodId} {args : Array Value} {below : List Frame} {meth : Method} {c : Code} {T : State} {locs : List Loc} {cells slots : Nat}
theorem vx_callV (X : Stand p l e R s m args below meth c T locs cells slots) (hexec : p.tables.exec = Jvm.exec) {own C : String} {index : Nat} {y : MethodName} {bytes : ByteArray} {maxL : Nat} {ret : Option FieldType}
    (hown : s.vm.findClass own = some m.cls) (hlink : (Cond.methodLink own index y).before args s = true) (hinst : (Cond.instanceMethod y).before args s = true) (hsel : (Cond.selects C y y).before args s = true)
    (hcode : (Cond.code y bytes maxL ret).before args s = true) (hy : y.cls ≠ "java/lang/invoke/MethodHandle" ∧ y.cls ≠ "java/lang/invoke/VarHandle")
    {W9 : Nat} {Pre : Pt → Array Value → Prop} {Post : Pt → Array Value → Option Value → Pt → Prop} {PostX : Pt → Array Value → Addr → Pt → Prop} (hK : vx_Back l R p e below s args y 3 W9 Pre Post PostX)
    {b : Addr} {cellB : Cell} (hcell : T.heap[b]? = some cellB) (hobj : cellB.vm.isStatics = false) (hcls : s.vm.findClass C = some cellB.cls)
    {g : JFrame} (hg : g.method = m) (hsize : g.locals.size = c.maxLocals) {argsL rest : List Value} (hlen : ∀ sig, parseMethodDescriptor y.desc = some sig → argsL.length = sig.parameters.length)
    (hstack : g.stack = argsL.reverse ++ .ref b :: rest) (hW : 2 * g.monitorRoom + (rest.map fun v => v.category).sum ≤ W9) (hdg : decode c.code g.pc = .ok (.invokevirtual index, 3))
    (hpre : ∀ vm₁, s.WarmedH vm₁ → Pre ⟨T.setVm vm₁, locs, cells, slots⟩ (Value.ref b :: argsL).toArray) :
    (∃ (v : Option Value) (vm₁ : Vm) (B : Pt), s.WarmedH vm₁ ∧ Stand p l e R s m args below meth c B.U B.locs B.cells B.slots ∧ Post ⟨T.setVm vm₁, locs, cells, slots⟩ (Value.ref b :: argsL).toArray v B ∧
      ∀ target, Steps p.tables e below (B.U.setTop { g with pc := g.pc + 3, stack := v.toList ++ rest }) target → Steps p.tables e below (T.setTop g) target) ∨
    (∃ (q : Addr) (vm₁ : Vm) (B : Pt), s.WarmedH vm₁ ∧ Stand p l e R s m args below meth c B.U B.locs B.cells B.slots ∧ PostX ⟨T.setVm vm₁, locs, cells, slots⟩ (Value.ref b :: argsL).toArray q B ∧
      Steps p.tables e below (T.setTop g) ((B.U.setTop { g with stack := rest }).pushFrame (.throwing q))) := by
  obtain ⟨mk, methM, hnamed, hmethM, hstM, habM⟩ := Cond.instanceMethod_spec hinst
  obtain ⟨methM', cM, hmethM', -, -, -, -, -, -, hsigM⟩ := Cond.code_spec hnamed hcode
  cases hmethM.symm.trans hmethM'
  obtain ⟨c2, r2, m2, q1, q2, q3, q4, kP, hkP, hkPi⟩ := Cond.selects_spec hsel
  cases hcls.symm.trans q1
  cases (State.methodFound?_of_named hnamed hy).symm.trans q2
  cases hnamed.symm.trans q3
  have hselP : selectMethod e.platform s.vm cellB.cls mk = .method mk := by rw [Launch.admits_selectMethod X.admits]; exact q4
  obtain ⟨vm₁, X₁, hstep₁⟩ := X.invokevirtual hexec hown hlink hnamed hmethM hstM hkP hkPi hy (a := b) (cell := cellB) hcell
    (fun z h => by rw [h] at hobj; cases hobj) hselP hmethM habM hkP hkPi (g := g) hg (argsL := argsL) (rest := rest) (hlen _ hsigM) hstack hdg
  rcases hK m meth c ⟨T.setVm vm₁, locs, cells, slots⟩ { g with stack := rest } (.invokevirtual index) mk (Value.ref b :: argsL).toArray X₁ hg hsize hdg hW (X₁.named hnamed) (hpre vm₁ X₁.warmed) with ⟨v, B, X', hpost, hsteps⟩ | ⟨q, B, X', hpost, hsteps⟩
  · exact Or.inl ⟨v, vm₁, B, X₁.warmed, X', hpost, fun target h => hstep₁ _ fun acts => by rw [doInvoke_state]; exact hsteps.trans h⟩
  · exact Or.inr ⟨q, vm₁, B, X₁.warmed, X', hpost, hstep₁ _ fun acts => by rw [doInvoke_state]; exact hsteps⟩
theorem vx_callS (X : Stand p l e R s m args below meth c T locs cells slots) (hexec : p.tables.exec = Jvm.exec) {own : String} {index : Nat} {y : MethodName} {bytes : ByteArray} {maxL : Nat} {ret : Option FieldType}
    (hown : s.vm.findClass own = some m.cls) (hlink : (Cond.methodLink own index y).before args s = true) (hstat : (Cond.static y).before args s = true) (hinit : (Cond.initialized y.cls).before args s = true)
    (hcode : (Cond.code y bytes maxL ret).before args s = true) (hy : y.cls ≠ "java/lang/invoke/MethodHandle" ∧ y.cls ≠ "java/lang/invoke/VarHandle")
    {W9 : Nat} {Pre : Pt → Array Value → Prop} {Post : Pt → Array Value → Option Value → Pt → Prop} {PostX : Pt → Array Value → Addr → Pt → Prop} (hK : vx_Back l R p e below s args y 3 W9 Pre Post PostX)
    {g : JFrame} (hg : g.method = m) (hsize : g.locals.size = c.maxLocals) {argsL rest : List Value} (hlen : ∀ sig, parseMethodDescriptor y.desc = some sig → argsL.length = sig.parameters.length)
    (hstack : g.stack = argsL.reverse ++ rest) (hW : 2 * g.monitorRoom + (rest.map fun v => v.category).sum ≤ W9) (hdg : decode c.code g.pc = .ok (.invokestatic index, 3))
    (hpre : ∀ vm₁, s.WarmedH vm₁ → Pre ⟨T.setVm vm₁, locs, cells, slots⟩ argsL.toArray) :
    (∃ (v : Option Value) (vm₁ : Vm) (B : Pt), s.WarmedH vm₁ ∧ Stand p l e R s m args below meth c B.U B.locs B.cells B.slots ∧ Post ⟨T.setVm vm₁, locs, cells, slots⟩ argsL.toArray v B ∧
      ∀ target, Steps p.tables e below (B.U.setTop { g with pc := g.pc + 3, stack := v.toList ++ rest }) target → Steps p.tables e below (T.setTop g) target) ∨
    (∃ (q : Addr) (vm₁ : Vm) (B : Pt), s.WarmedH vm₁ ∧ Stand p l e R s m args below meth c B.U B.locs B.cells B.slots ∧ PostX ⟨T.setVm vm₁, locs, cells, slots⟩ argsL.toArray q B ∧
      Steps p.tables e below (T.setTop g) ((B.U.setTop { g with stack := rest }).pushFrame (.throwing q))) := by
  obtain ⟨mk, hnamed⟩ := Cond.code_named hcode
  obtain ⟨methM, cM, hmethM, -, -, -, -, -, -, hsigM⟩ := Cond.code_spec hnamed hcode
  have hstatic : methM.isStatic = true := Cond.static_spec hnamed hmethM hstat
  obtain ⟨kP, hkP, -⟩ := className_of_methodNamed hnamed
  have hinitP : kP.init = .initialized := Cond.initialized_spec (findClass_of_methodNamed hnamed) hkP hinit
  obtain ⟨vm₁, X₁, hstep₁⟩ := X.invokestatic hexec hown hlink hnamed hmethM hstatic hkP hinitP hy (g := g) hg (argsL := argsL) (rest := rest) (hlen _ hsigM) hstack hdg
  rcases hK m meth c ⟨T.setVm vm₁, locs, cells, slots⟩ { g with stack := rest } (.invokestatic index) mk argsL.toArray X₁ hg hsize hdg hW (X₁.named hnamed) (hpre vm₁ X₁.warmed) with ⟨v, B, X', hpost, hsteps⟩ | ⟨q, B, X', hpost, hsteps⟩
  · exact Or.inl ⟨v, vm₁, B, X₁.warmed, X', hpost, fun target h => hstep₁ _ fun acts => by rw [doInvoke_state]; exact hsteps.trans h⟩
  · exact Or.inr ⟨q, vm₁, B, X₁.warmed, X', hpost, hstep₁ _ fun acts => by rw [doInvoke_state]; exact hsteps⟩
end Calls
theorem vx_cls {s : State} {T : State} {vm₁ : Vm} {E : String} {k : ClassId} (hW : s.WarmedH vm₁) (h : (T.setVm vm₁).vm.findClass E = some k) : s.vm.findClass E = some k := by
  have h1 : vm₁.findClass E = some k := h
  rw [hW.alike.findClass] at h1
  exact h1
/-- the method's frame g, with q thrown over it -/
def vx_W (p : Program) (l : Launch) (e : Env) (R : Room) (s : State) (m : MethodId) (args : Array Value) (below : List Frame) (meth : Method) (c : Code) (H : Heap) (locs : List Loc) (cells slots : Nat) (Q : State → Prop) (g : JFrame) (q : Addr) : Prop :=
  ∀ T : State, T.heap = H → Stand p l e R s m args below meth c T locs cells slots → ∃ t, Steps p.tables e below ((T.setTop g).pushFrame (.throwing q)) t ∧ Q t
def vx_Run (p : Program) (l : Launch) (e : Env) (R : Room) (s : State) (m : MethodId) (args : Array Value) (below : List Frame) (meth : Method) (c : Code) (H : Heap) (locs : List Loc) (cells slots mc ms : Nat) (g : JFrame) (rest : List Value) (Qa : State → Outcome → State → Prop) (XC : String → State → State → Prop) (free : Addr → Prop) : Prop :=
  ∀ T : State, T.heap = H → Stand p l e R s m args below meth c T locs cells slots →
    (∃ (v : Option Value) (st₀ t T' : State) (L : List Loc), st₀.heap = H ∧ Stand p l e R s m args below meth c T' (locs ++ L) (cells + mc) (slots + ms) ∧ (∀ q ∈ L, free q.base) ∧ T'.heap = t.heap ∧ T'.vm = t.vm ∧ Qa st₀ (.returned v) t ∧
      Goes p e below T g T' { g with pc := g.pc + 3, stack := v.toList ++ rest }) ∨
    (∃ (q : Addr) (st₀ t T' : State) (L : List Loc) (E : String) (ce : Cell), st₀.heap = H ∧ Stand p l e R s m args below meth c T' (locs ++ L) (cells + mc) (slots + ms) ∧ (∀ z ∈ L, free z.base) ∧ T'.heap = t.heap ∧ T'.vm = t.vm ∧ XC E st₀ t ∧ t.heap[q]? = some ce ∧ ce.vm = .none ∧ s.vm.findClass E = some ce.cls ∧
      Steps p.tables e below (T.setTop g) ((T'.setTop { g with stack := rest }).pushFrame (.throwing q)))
def vx_X {S : Type} (px : S → Prop) (B : String → S → State → Prop) (A : Nat → Prop) : String → State → State → Prop := fun E st t => ∃ u : S, px u ∧ B E u t ∧ va_F A st t
section Runs
variable {p : Program} {l : Launch} {e : Env} {R : Room} {s : State} {m : MethodId} {args : Array Value} {below : List Frame} {meth : Method} {c : Code} {H : Heap} {locs : List Loc} {cells slots : Nat}
variable {y : MethodName} {bytes cc : ByteArray} {maxL nL mc ms n index : Nat} {ret : Option FieldType} {ws : List Cond} {rm : Room} {Pc : Array Value → State → Prop} {Qc : Array Value → State → Outcome → State → Prop} {XC : String → State → State → Prop} {free : Addr → Prop} {Ts : List Cond} {own C : String} {b : Addr} {As rest : List Value} {g : JFrame}
theorem vx_callBack (cb : CallB R s args own index y bytes maxL ret ws rm mc ms n) (hM : vx_Met l y ws rm Pc Qc XC mc ms free) (hbl : FrameBlind Pc) : vx_Back l R p e below s args y 3 8 (PreOf R mc ms Pc) (PostOf Qc mc ms free) (vx_Post XC mc ms free) := by
  obtain ⟨hrc, hrs, hfr, hlo, hws, hcw, -, hini, -⟩ := cb
  exact vx_back (bytes := bytes) (maxL := maxL) (ret := ret) hM hbl hrc hrs hfr hlo hws hcw (fun a' U hW => word_at hW (Or.inl (by first | rfl | simp [Cond.onTables, Cond.keeps, Cond.steady])) hini)
theorem vx_runV (S : CallFix p m c cc nL s args Ts own) (hM : vx_Met l y ws rm Pc Qc XC mc ms free) (cw : CallW R s args own C index y bytes maxL ret ws rm mc ms n) (hp : PreV s H C b Pc As)
    (hg : g.method = m) (hn : As.length = n) (hsize : g.locals.size = nL) (hstack : g.stack = As.reverse ++ .ref b :: rest) (hW : 2 * g.monitorRoom + (rest.map fun v => v.category).sum ≤ 8) (hdg : decode cc g.pc = .ok (.invokevirtual index, 3)) (hf : cells + mc ≤ R.cells ∧ slots + ms ≤ R.slots) :
    vx_Run p l e R s m args below meth c H locs cells slots mc ms g rest (Qc (Value.ref b :: As).toArray) XC free := by
  have hK : vx_Back l R p e below s args y 3 8 (PreOf R mc ms Pc) (PostOf Qc mc ms free) (vx_Post XC mc ms free) := vx_callBack cw.1 hM hp.1
  obtain ⟨⟨-, -, -, -, -, -, hcode, -, hy, hlen, hl⟩, hin, hse⟩ := cw
  obtain ⟨hx, hb, hml, ho, -⟩ := S
  obtain ⟨-, ⟨cellB, hcB, hoB, hclB⟩, hPc⟩ := hp
  intro T hT X
  rcases vx_callV X hx (C := C) (bytes := bytes) (maxL := maxL) (ret := ret) ho hl hin hse hcode hy hK (by rw [hT]; exact hcB) hoB hclB hg (hsize.trans hml.symm) (argsL := As) (rest := rest) (fun sig h => hn.trans (hlen sig h)) hstack hW (by rw [hb]; exact hdg)
    (fun vm₁ hW₁ => ⟨hf.1, hf.2, hPc (T.setVm vm₁) hT hW₁⟩) with ⟨v, vm₁, ⟨U', l2, c2, s2⟩, hW₁, X', ⟨g', mk, t, L, e1, e2, hq, h1, hL, h2, h3⟩, st⟩ | ⟨q, vm₁, ⟨U', l2, c2, s2⟩, hW₁, X', ⟨g', mk, t, L, E, ce, e1, e2, hq, hce, hcv, hcl, h1, hL, h2, h3⟩, st⟩
  · dsimp only [Pt.U, Pt.locs, Pt.cells, Pt.slots] at X' e1 e2 h1 h2 h3 st
    subst h1; subst h2; subst h3
    exact Or.inl ⟨v, (T.setVm vm₁).calling g' mk (Value.ref b :: As).toArray, t, U', L, hT, X', hL, e1, e2, hq, st⟩
  · dsimp only [Pt.U, Pt.locs, Pt.cells, Pt.slots] at X' e1 e2 h1 h2 h3 st hcl
    subst h1; subst h2; subst h3
    exact Or.inr ⟨q, (T.setVm vm₁).calling g' mk (Value.ref b :: As).toArray, t, U', L, E, ce, hT, X', hL, e1, e2, hq, hce, hcv, vx_cls hW₁ hcl, st⟩
theorem vx_runS (S : CallFix p m c cc nL s args Ts own) (hM : vx_Met l y ws rm Pc Qc XC mc ms free) (cw : CallB R s args own index y bytes maxL ret ws rm mc ms n ∧ (Cond.static y).before args s = true) (hp : PreS s H Pc As)
    (hg : g.method = m) (hn : As.length = n) (hsize : g.locals.size = nL) (hstack : g.stack = As.reverse ++ rest) (hW : 2 * g.monitorRoom + (rest.map fun v => v.category).sum ≤ 8) (hdg : decode cc g.pc = .ok (.invokestatic index, 3)) (hf : cells + mc ≤ R.cells ∧ slots + ms ≤ R.slots) :
    vx_Run p l e R s m args below meth c H locs cells slots mc ms g rest (Qc As.toArray) XC free := by
  have hK : vx_Back l R p e below s args y 3 8 (PreOf R mc ms Pc) (PostOf Qc mc ms free) (vx_Post XC mc ms free) := vx_callBack cw.1 hM hp.1
  obtain ⟨⟨-, -, -, -, -, -, hcode, hini, hy, hlen, hl⟩, hstt⟩ := cw
  obtain ⟨hx, hb, hml, ho, -⟩ := S
  intro T hT X
  rcases vx_callS X hx (bytes := bytes) (maxL := maxL) (ret := ret) ho hl hstt hini hcode hy hK hg (hsize.trans hml.symm) (argsL := As) (rest := rest) (fun sig h => hn.trans (hlen sig h)) hstack hW (by rw [hb]; exact hdg)
    (fun vm₁ hW₁ => ⟨hf.1, hf.2, hp.2 (T.setVm vm₁) hT hW₁⟩) with ⟨v, vm₁, ⟨U', l2, c2, s2⟩, hW₁, X', ⟨g', mk, t, L, e1, e2, hq, h1, hL, h2, h3⟩, st⟩ | ⟨q, vm₁, ⟨U', l2, c2, s2⟩, hW₁, X', ⟨g', mk, t, L, E, ce, e1, e2, hq, hce, hcv, hcl, h1, hL, h2, h3⟩, st⟩
  · dsimp only [Pt.U, Pt.locs, Pt.cells, Pt.slots] at X' e1 e2 h1 h2 h3 st
    subst h1; subst h2; subst h3
    exact Or.inl ⟨v, (T.setVm vm₁).calling g' mk As.toArray, t, U', L, hT, X', hL, e1, e2, hq, st⟩
  · dsimp only [Pt.U, Pt.locs, Pt.cells, Pt.slots] at X' e1 e2 h1 h2 h3 st hcl
    subst h1; subst h2; subst h3
    exact Or.inr ⟨q, (T.setVm vm₁).calling g' mk As.toArray, t, U', L, E, ce, hT, X', hL, e1, e2, hq, hce, hcv, vx_cls hW₁ hcl, st⟩
end Runs
section Rows
variable {p : Program} {l : Launch} {e : Env} {R : Room} {s : State} {m : MethodId} {args : Array Value} {below : List Frame} {meth : Method} {c : Code} {H : Heap} {locs : List Loc} {cells slots : Nat} {Q : State → Prop}
variable {mc ms : Nat} {free : Addr → Prop} {A0 A1 : Nat → Prop} {H0 : Heap} {a : Array Value} {pc : Nat} {ls : Array Slot} {st0 rest : List Value}
theorem vx_keep {st₀ t T' : State} {L : List Loc} (h0 : st₀.heap = H) (e1 : T'.heap = t.heap) (hS : va_S A0 H0 H locs) (hA : ∀ q, q < H.size → A1 q → A0 q) (hf : ∀ q, free q → A0 q) (hL : ∀ q ∈ L, free q.base) (hF : va_F A1 st₀ t) :
    H.size ≤ T'.heap.size ∧ (∀ q : Nat, q < H.size → ¬ A1 q → T'.heap[q]? = H[q]?) ∧ va_S A0 H0 T'.heap (locs ++ L) := by
  obtain ⟨hz, hk⟩ := hF
  rw [h0] at hz hk
  exact ⟨by rw [e1]; exact hz, fun q h1 h2 => by rw [e1]; exact hk q h1 h2,
    ⟨Nat.le_trans hS.1 (by rw [e1]; exact hz), fun q h1 h2 => by rw [e1, hk q (Nat.lt_of_lt_of_le h1 hS.1) (fun z => h2 (hA q (Nat.lt_of_lt_of_le h1 hS.1) z))]; exact hS.2.1 q h1 h2, fun q hq => by
      rcases List.mem_append.mp hq with h | h
      · exact hS.2.2 q h
      · exact hf _ (hL q h)⟩⟩
theorem vx_calli {S SX : Type} {post : Int32 → S → Prop} {px : SX → Prop} {B : S → State → Prop} {BX : String → SX → State → Prop} {AX : Nat → Prop} (hr : vx_Run p l e R s m args below meth c H locs cells slots mc ms (F0 m pc ls st0) rest (va_Qi post B A1 a) (vx_X px BX AX) free) (hS : va_S A0 H0 H locs) (hA : ∀ q, q < H.size → A1 q → A0 q) (hf : ∀ q, free q → A0 q) (hAX : ∀ q, q < H.size → AX q → A0 q)
    (kx : ∀ (E : String) (ce : Cell) (q9 : Addr) (u : SX) (t : State) (H1 : Heap) (locs1 : List Loc), t.heap = H1 → s.vm.Alike t.vm → px u → BX E u t → H.size ≤ H1.size → (∀ q : Nat, q < H.size → ¬ AX q → H1[q]? = H[q]?) → va_S A0 H0 H1 locs1 → H1[q9]? = some ce → ce.vm = .none → s.vm.findClass E = some ce.cls → vx_W p l e R s m args below meth c H1 locs1 (cells + mc) (slots + ms) Q (F0 m pc ls rest) q9)
    (kk : ∀ (r : Int32) (u : S) (t : State) (H1 : Heap) (locs1 : List Loc), t.heap = H1 → s.vm.Alike t.vm → post r u → B u t → H.size ≤ H1.size → (∀ q : Nat, q < H.size → ¬ A1 q → H1[q]? = H[q]?) → va_S A0 H0 H1 locs1 → W p l e R s m args below meth c H1 locs1 (cells + mc) (slots + ms) Q (F0 m (pc + 3) ls (.int r :: rest))) : W p l e R s m args below meth c H locs cells slots Q (F0 m pc ls st0) := by
  intro T hT X
  rcases hr T hT X with ⟨v, st₀, t, T', L, h0, X', hL, e1, e2, ⟨⟨r, u, hv, hp, hb⟩, hF⟩, st⟩ | ⟨q, st₀, t, T', L, E, ce, h0, X', hL, e1, e2, ⟨u, hp, hb, hF⟩, hce, hcv, hcl, st⟩
  · cases hv
    obtain ⟨k1, k2, k3⟩ := vx_keep h0 e1 hS hA hf hL hF
    obtain ⟨t2, a1, b1⟩ := kk r u t T'.heap (locs ++ L) e1.symm (by rw [← e2]; exact X'.warmed.alike) hp hb k1 k2 k3 T' rfl X'
    exact ⟨t2, st t2 a1, b1⟩
  · obtain ⟨k1, k2, k3⟩ := vx_keep h0 e1 hS hAX hf hL hF
    obtain ⟨t2, a1, b1⟩ := kx E ce q u t T'.heap (locs ++ L) e1.symm (by rw [← e2]; exact X'.warmed.alike) hp hb k1 k2 k3 (by rw [e1]; exact hce) hcv hcl T' rfl X'
    exact ⟨t2, st.trans a1, b1⟩
theorem vx_calll {S SX : Type} {post : Int64 → S → Prop} {px : SX → Prop} {B : S → State → Prop} {BX : String → SX → State → Prop} {AX : Nat → Prop} (hr : vx_Run p l e R s m args below meth c H locs cells slots mc ms (F0 m pc ls st0) rest (va_Ql post B A1 a) (vx_X px BX AX) free) (hS : va_S A0 H0 H locs) (hA : ∀ q, q < H.size → A1 q → A0 q) (hf : ∀ q, free q → A0 q) (hAX : ∀ q, q < H.size → AX q → A0 q)
    (kx : ∀ (E : String) (ce : Cell) (q9 : Addr) (u : SX) (t : State) (H1 : Heap) (locs1 : List Loc), t.heap = H1 → s.vm.Alike t.vm → px u → BX E u t → H.size ≤ H1.size → (∀ q : Nat, q < H.size → ¬ AX q → H1[q]? = H[q]?) → va_S A0 H0 H1 locs1 → H1[q9]? = some ce → ce.vm = .none → s.vm.findClass E = some ce.cls → vx_W p l e R s m args below meth c H1 locs1 (cells + mc) (slots + ms) Q (F0 m pc ls rest) q9)
    (kk : ∀ (r : Int64) (u : S) (t : State) (H1 : Heap) (locs1 : List Loc), t.heap = H1 → s.vm.Alike t.vm → post r u → B u t → H.size ≤ H1.size → (∀ q : Nat, q < H.size → ¬ A1 q → H1[q]? = H[q]?) → va_S A0 H0 H1 locs1 → W p l e R s m args below meth c H1 locs1 (cells + mc) (slots + ms) Q (F0 m (pc + 3) ls (.long r :: rest))) : W p l e R s m args below meth c H locs cells slots Q (F0 m pc ls st0) := by
  intro T hT X
  rcases hr T hT X with ⟨v, st₀, t, T', L, h0, X', hL, e1, e2, ⟨⟨r, u, hv, hp, hb⟩, hF⟩, st⟩ | ⟨q, st₀, t, T', L, E, ce, h0, X', hL, e1, e2, ⟨u, hp, hb, hF⟩, hce, hcv, hcl, st⟩
  · cases hv
    obtain ⟨k1, k2, k3⟩ := vx_keep h0 e1 hS hA hf hL hF
    obtain ⟨t2, a1, b1⟩ := kk r u t T'.heap (locs ++ L) e1.symm (by rw [← e2]; exact X'.warmed.alike) hp hb k1 k2 k3 T' rfl X'
    exact ⟨t2, st t2 a1, b1⟩
  · obtain ⟨k1, k2, k3⟩ := vx_keep h0 e1 hS hAX hf hL hF
    obtain ⟨t2, a1, b1⟩ := kx E ce q u t T'.heap (locs ++ L) e1.symm (by rw [← e2]; exact X'.warmed.alike) hp hb k1 k2 k3 (by rw [e1]; exact hce) hcv hcl T' rfl X'
    exact ⟨t2, st.trans a1, b1⟩
theorem vx_callf {S SX : Type} {post : UInt32 → S → Prop} {px : SX → Prop} {B : S → State → Prop} {BX : String → SX → State → Prop} {AX : Nat → Prop} (hr : vx_Run p l e R s m args below meth c H locs cells slots mc ms (F0 m pc ls st0) rest (va_Qf post B A1 a) (vx_X px BX AX) free) (hS : va_S A0 H0 H locs) (hA : ∀ q, q < H.size → A1 q → A0 q) (hf : ∀ q, free q → A0 q) (hAX : ∀ q, q < H.size → AX q → A0 q)
    (kx : ∀ (E : String) (ce : Cell) (q9 : Addr) (u : SX) (t : State) (H1 : Heap) (locs1 : List Loc), t.heap = H1 → s.vm.Alike t.vm → px u → BX E u t → H.size ≤ H1.size → (∀ q : Nat, q < H.size → ¬ AX q → H1[q]? = H[q]?) → va_S A0 H0 H1 locs1 → H1[q9]? = some ce → ce.vm = .none → s.vm.findClass E = some ce.cls → vx_W p l e R s m args below meth c H1 locs1 (cells + mc) (slots + ms) Q (F0 m pc ls rest) q9)
    (kk : ∀ (r : UInt32) (u : S) (t : State) (H1 : Heap) (locs1 : List Loc), t.heap = H1 → s.vm.Alike t.vm → post r u → B u t → H.size ≤ H1.size → (∀ q : Nat, q < H.size → ¬ A1 q → H1[q]? = H[q]?) → va_S A0 H0 H1 locs1 → W p l e R s m args below meth c H1 locs1 (cells + mc) (slots + ms) Q (F0 m (pc + 3) ls (.float r :: rest))) : W p l e R s m args below meth c H locs cells slots Q (F0 m pc ls st0) := by
  intro T hT X
  rcases hr T hT X with ⟨v, st₀, t, T', L, h0, X', hL, e1, e2, ⟨⟨r, u, hv, hp, hb⟩, hF⟩, st⟩ | ⟨q, st₀, t, T', L, E, ce, h0, X', hL, e1, e2, ⟨u, hp, hb, hF⟩, hce, hcv, hcl, st⟩
  · cases hv
    obtain ⟨k1, k2, k3⟩ := vx_keep h0 e1 hS hA hf hL hF
    obtain ⟨t2, a1, b1⟩ := kk r u t T'.heap (locs ++ L) e1.symm (by rw [← e2]; exact X'.warmed.alike) hp hb k1 k2 k3 T' rfl X'
    exact ⟨t2, st t2 a1, b1⟩
  · obtain ⟨k1, k2, k3⟩ := vx_keep h0 e1 hS hAX hf hL hF
    obtain ⟨t2, a1, b1⟩ := kx E ce q u t T'.heap (locs ++ L) e1.symm (by rw [← e2]; exact X'.warmed.alike) hp hb k1 k2 k3 (by rw [e1]; exact hce) hcv hcl T' rfl X'
    exact ⟨t2, st.trans a1, b1⟩
theorem vx_calld {S SX : Type} {post : UInt64 → S → Prop} {px : SX → Prop} {B : S → State → Prop} {BX : String → SX → State → Prop} {AX : Nat → Prop} (hr : vx_Run p l e R s m args below meth c H locs cells slots mc ms (F0 m pc ls st0) rest (va_Qd post B A1 a) (vx_X px BX AX) free) (hS : va_S A0 H0 H locs) (hA : ∀ q, q < H.size → A1 q → A0 q) (hf : ∀ q, free q → A0 q) (hAX : ∀ q, q < H.size → AX q → A0 q)
    (kx : ∀ (E : String) (ce : Cell) (q9 : Addr) (u : SX) (t : State) (H1 : Heap) (locs1 : List Loc), t.heap = H1 → s.vm.Alike t.vm → px u → BX E u t → H.size ≤ H1.size → (∀ q : Nat, q < H.size → ¬ AX q → H1[q]? = H[q]?) → va_S A0 H0 H1 locs1 → H1[q9]? = some ce → ce.vm = .none → s.vm.findClass E = some ce.cls → vx_W p l e R s m args below meth c H1 locs1 (cells + mc) (slots + ms) Q (F0 m pc ls rest) q9)
    (kk : ∀ (r : UInt64) (u : S) (t : State) (H1 : Heap) (locs1 : List Loc), t.heap = H1 → s.vm.Alike t.vm → post r u → B u t → H.size ≤ H1.size → (∀ q : Nat, q < H.size → ¬ A1 q → H1[q]? = H[q]?) → va_S A0 H0 H1 locs1 → W p l e R s m args below meth c H1 locs1 (cells + mc) (slots + ms) Q (F0 m (pc + 3) ls (.double r :: rest))) : W p l e R s m args below meth c H locs cells slots Q (F0 m pc ls st0) := by
  intro T hT X
  rcases hr T hT X with ⟨v, st₀, t, T', L, h0, X', hL, e1, e2, ⟨⟨r, u, hv, hp, hb⟩, hF⟩, st⟩ | ⟨q, st₀, t, T', L, E, ce, h0, X', hL, e1, e2, ⟨u, hp, hb, hF⟩, hce, hcv, hcl, st⟩
  · cases hv
    obtain ⟨k1, k2, k3⟩ := vx_keep h0 e1 hS hA hf hL hF
    obtain ⟨t2, a1, b1⟩ := kk r u t T'.heap (locs ++ L) e1.symm (by rw [← e2]; exact X'.warmed.alike) hp hb k1 k2 k3 T' rfl X'
    exact ⟨t2, st t2 a1, b1⟩
  · obtain ⟨k1, k2, k3⟩ := vx_keep h0 e1 hS hAX hf hL hF
    obtain ⟨t2, a1, b1⟩ := kx E ce q u t T'.heap (locs ++ L) e1.symm (by rw [← e2]; exact X'.warmed.alike) hp hb k1 k2 k3 (by rw [e1]; exact hce) hcv hcl T' rfl X'
    exact ⟨t2, st.trans a1, b1⟩
theorem vx_callv {S SX : Type} {post : S → Prop} {px : SX → Prop} {B : S → State → Prop} {BX : String → SX → State → Prop} {AX : Nat → Prop} (hr : vx_Run p l e R s m args below meth c H locs cells slots mc ms (F0 m pc ls st0) rest (va_Qv post B A1 a) (vx_X px BX AX) free) (hS : va_S A0 H0 H locs) (hA : ∀ q, q < H.size → A1 q → A0 q) (hf : ∀ q, free q → A0 q) (hAX : ∀ q, q < H.size → AX q → A0 q)
    (kx : ∀ (E : String) (ce : Cell) (q9 : Addr) (u : SX) (t : State) (H1 : Heap) (locs1 : List Loc), t.heap = H1 → s.vm.Alike t.vm → px u → BX E u t → H.size ≤ H1.size → (∀ q : Nat, q < H.size → ¬ AX q → H1[q]? = H[q]?) → va_S A0 H0 H1 locs1 → H1[q9]? = some ce → ce.vm = .none → s.vm.findClass E = some ce.cls → vx_W p l e R s m args below meth c H1 locs1 (cells + mc) (slots + ms) Q (F0 m pc ls rest) q9)
    (kk : ∀ (u : S) (t : State) (H1 : Heap) (locs1 : List Loc), t.heap = H1 → s.vm.Alike t.vm → post u → B u t → H.size ≤ H1.size → (∀ q : Nat, q < H.size → ¬ A1 q → H1[q]? = H[q]?) → va_S A0 H0 H1 locs1 → W p l e R s m args below meth c H1 locs1 (cells + mc) (slots + ms) Q (F0 m (pc + 3) ls (rest))) : W p l e R s m args below meth c H locs cells slots Q (F0 m pc ls st0) := by
  intro T hT X
  rcases hr T hT X with ⟨v, st₀, t, T', L, h0, X', hL, e1, e2, ⟨⟨u, hv, hp, hb⟩, hF⟩, st⟩ | ⟨q, st₀, t, T', L, E, ce, h0, X', hL, e1, e2, ⟨u, hp, hb, hF⟩, hce, hcv, hcl, st⟩
  · cases hv
    obtain ⟨k1, k2, k3⟩ := vx_keep h0 e1 hS hA hf hL hF
    obtain ⟨t2, a1, b1⟩ := kk u t T'.heap (locs ++ L) e1.symm (by rw [← e2]; exact X'.warmed.alike) hp hb k1 k2 k3 T' rfl X'
    exact ⟨t2, st t2 a1, b1⟩
  · obtain ⟨k1, k2, k3⟩ := vx_keep h0 e1 hS hAX hf hL hF
    obtain ⟨t2, a1, b1⟩ := kx E ce q u t T'.heap (locs ++ L) e1.symm (by rw [← e2]; exact X'.warmed.alike) hp hb k1 k2 k3 (by rw [e1]; exact hce) hcv hcl T' rfl X'
    exact ⟨t2, st.trans a1, b1⟩
/-- caught by the row x of this method's table; the rows ahead don't take it -/
theorem vx_catch {own name : String} {E : String} {ce : Cell} {q : Addr} (hown : s.vm.findClass own = some m.cls) (pre : List ExceptionTableEntry) (x : ExceptionTableEntry) (suf : List ExceptionTableEntry) (hsplit : c.exceptionTable.toList = pre ++ x :: suf)
    (hpass : ∀ z ∈ pre, covers z pc = false ∨ (z.catchType ≠ 0 ∧ ∃ nm : String, (Cond.classLink own z.catchType nm).before args s = true ∧ va_Nc E nm s)) (hx : covers x pc = true) (h0 : x.catchType ≠ 0)
    (hlink : (Cond.classLink own x.catchType name).before args s = true) (hcast : (Cond.castable E name).before args s = true) (hcell : H[q]? = some ce) (hv : ce.vm = .none) (hcl : s.vm.findClass E = some ce.cls)
    (kk : W p l e R s m args below meth c H locs cells slots Q (F0 m x.handlerPc ls [.ref q])) : vx_W p l e R s m args below meth c H locs cells slots Q (F0 m pc ls rest) q := by
  intro T hT X
  have hpl : e.platform.magicAccessors = ({} : Platform).magicAccessors := by rw [X.admits.platform]
  obtain ⟨c3, c4, hc3, hc4, hasg⟩ := Cond.castable_spec hcast
  cases Option.some.inj (hc3.symm.trans hcl)
  obtain ⟨c5, hc5, hcl5⟩ := Cond.classLink_spec hown hlink e.platform hpl
  cases Option.some.inj (hc4.symm.trans hc5)
  obtain ⟨vm', X', st⟩ := X.thenCaughtThrough q (g := F0 m pc ls rest) rfl (Steps.refl _) (by rw [hT]; exact hcell) (by rw [hv]; rfl) (by obtain ⟨k9, h9, -⟩ := Vm.findClass_spec hcl; exact ⟨k9, h9⟩) pre x suf hsplit
    (fun z hz => by
      rcases hpass z hz with h | ⟨hz0, nm, hl1, hn1⟩
      · exact Or.inl h
      · obtain ⟨c6, hc6, hcl6⟩ := Cond.classLink_spec hown hl1 e.platform hpl
        obtain ⟨a8, b8, h1, h2, h3⟩ := hn1
        cases Option.some.inj (h1.symm.trans hcl)
        cases Option.some.inj (h2.symm.trans hc6)
        exact Or.inr ⟨hz0, _, hcl6, h3⟩) hx (Or.inr ⟨h0, c4, hcl5, hasg⟩)
  obtain ⟨t, a1, b1⟩ := kk (T.setVm vm') hT X'
  exact ⟨t, st.trans a1, b1⟩
end Rows
section Ends
variable {p : Program} {l : Launch} {e : Env} {R : Room} {s : State} {m : MethodId} {args : Array Value} {below : List Frame} {meth : Method} {c : Code} {H : Heap} {locs : List Loc} {cells slots : Nat} {Q : State → Prop}
variable {mc ms : Nat} {free : Addr → Prop} {A0 A1 : Nat → Prop} {H0 : Heap} {a : Array Value} {ls : Array Slot} {st0 rest : List Value}
variable {Qc : Array Value → State → Outcome → State → Prop} {XC : String → State → State → Prop}
/-- what a body that may throw owes at its end -/
def vx_MQ (below : List Frame) (Qc : Array Value → State → Outcome → State → Prop) (XC : String → State → State → Prop) (a : Array Value) (s : State) (mc ms : Nat) (free : Addr → Prop) : State → Prop := fun t =>
  ∃ o, t.status = .running ∧ Ended t below o ∧ vx_Q Qc XC mc ms free a s o t
theorem vx_ret {g : JFrame} {mc ms : Nat} (k : W p l e R s m args below meth c H locs cells slots (MQ below Qc args s mc ms free) g) : W p l e R s m args below meth c H locs cells slots (vx_MQ below Qc XC args s mc ms free) g := by
  intro T hT X
  obtain ⟨t, a1, o, b1, b2, b3, b4⟩ := k T hT X
  exact ⟨t, a1, o, b1, b2, Or.inl ⟨b3, b4⟩⟩
/-- not caught here: it goes on to the caller -/
theorem vx_widen {g : JFrame} {q : Addr} {k n : Nat} (h1 : cells ≤ k) (h2 : slots ≤ n) (kk : vx_W p l e R s m args below meth c H locs k n Q g q) : vx_W p l e R s m args below meth c H locs cells slots Q g q := fun T hT X => kk T hT (stand_widen X h1 h2)
theorem vx_out {pc : Nat} {E : String} {ce : Cell} {q : Addr} {mc ms : Nat} (hout : ∀ x ∈ c.exceptionTable.toList, covers x pc = false) (hlocks : meth.locks = false) (hcell : H[q]? = some ce) (hv : ce.vm = .none) (hcl : s.vm.findClass E = some ce.cls)
    (hx : ∀ t : State, t.heap = H → s.vm.Alike t.vm → XC E s t) (hf : ∀ z ∈ locs, free z.base) (hc : cells ≤ mc) (hs : slots ≤ ms) :
    vx_W p l e R s m args below meth c H locs cells slots (vx_MQ below Qc XC args s mc ms free) (F0 m pc ls rest) q := by
  intro T hT X
  obtain ⟨st1, hrun, hend, hW, hsm⟩ := X.leaveThrown q (g := F0 m pc ls rest) rfl rfl rfl hout hlocks
  have hcell9 : (T.setFrames (.throwing q :: below)).heap[q]? = some ce := by
    show T.heap[q]? = some ce
    rw [hT]; exact hcell
  exact ⟨_, st1, .threw q, hrun, hend, Or.inr ⟨q, rfl, E, ce, locs, hx _ hT hW.alike, hcell9, hv, hcl, hW, hsm.mono hc hs, hf⟩⟩
theorem vx_frame {U : State} {k n : Nat} (h : s.sameButNew ({ U with vm := s.vm } : State) locs k n) : s.heap.size ≤ U.heap.size ∧ ∀ q : Nat, q < s.heap.size → (∀ z ∈ locs, z.base ≠ q) → U.heap[q]? = s.heap[q]? := by
  obtain ⟨-, h2, -, -, -, h6⟩ := h
  refine ⟨h2, fun q hq hz => ?_⟩
  obtain ⟨c9, e1, e2, e3, e4⟩ := h6 q _ (Array.getElem?_eq_getElem hq)
  have hs : c9.slots = (s.heap[q]).slots := Array.ext_getElem? fun i => e4 i fun hm => hz _ hm rfl
  have h9 : c9 = s.heap[q] := by
    rw [hs] at e2
    exact e2
  have e5 : U.heap[q]? = some c9 := e1
  rw [e5, h9, Array.getElem?_eq_getElem hq]
/-- the words of a throw but the four that speak of the heap -/
def vx_no (w : Cond) : Bool := decide (w ≠ .isRef (.static Bundle.tN "UNASSIGNED_STACK" Bundle.steD)) && decide (w ≠ .isRef (.static Bundle.tN "SUPPRESSED_SENTINEL" Bundle.listD)) && decide (w ≠ .laysStatic Bundle.tN "UNASSIGNED_STACK" Bundle.steD) && decide (w ≠ .laysStatic Bundle.tN "SUPPRESSED_SENTINEL" Bundle.listD)
def vx_at0 (own : String) (ic : Nat) (X : String) (names : List String) : List Cond := (Bundle.ownAtoms0 own ic X names).filter vx_no
def vx_atS (own : String) (ic : Nat) (X : String) (names : List String) : List Cond := (Bundle.ownAtoms own ic X names).filter vx_no
/-- a word that the tables alone decide, or a good one -/
def vx_ot (w : Cond) : Bool := w.onTables || goodWord w
theorem vx_ot_at {args a' : Array Value} {s U : State} {w : Cond} (hW : s.WarmedH U.vm) (hvm : s.vm = U.vm) (hg : vx_ot w = true) (h : w.before args s = true) : w.before a' U = true := by
  simp only [vx_ot, Bool.or_eq_true] at hg
  rcases hg with hg | hg
  · exact va_tabs hg hvm h
  · exact word_at hW (good_of_word hg) h
/-- a list's words: the good ones out of the method's own list, the others by premises of their own -/
theorem vx_hat {args : Array Value} {s : State} {L B : List Cond} (h1 : ∀ w ∈ L.filter goodWord, w.before args s = true) (h2 : ∀ w ∈ L.filter (fun w => !goodWord w), w ∈ B) (h3 : ∀ w ∈ B, w.before args s = true) : ∀ w ∈ L, w.before args s = true := by
  intro w hw
  by_cases g : goodWord w = true
  · exact h1 w (List.mem_filter.mpr ⟨hw, g⟩)
  · refine h3 w (h2 w (List.mem_filter.mpr ⟨hw, ?_⟩))
    show (!goodWord w) = true
    cases hgw : goodWord w
    · rfl
    · exact absurd hgw g
theorem vx_c {args : Array Value} {s : State} {w : Cond} {B : List Cond} (h : w.before args s = true) (t : ∀ w ∈ B, w.before args s = true) : ∀ w' ∈ w :: B, w'.before args s = true := fun w' h' => (List.mem_cons.mp h').elim (fun e => by rw [e]; exact h) (t w')
theorem vx_n {args : Array Value} {s : State} : ∀ w ∈ ([] : List Cond), w.before args s = true := fun _ h => nomatch h
theorem vx_own {args : Array Value} {s : State} {L : List Cond} (h1 : ∀ w ∈ L.filter vx_no, w.before args s = true)
    (hU : (Cond.isRef (.static Bundle.tN "UNASSIGNED_STACK" Bundle.steD)).before args s = true) (hN : (Cond.isRef (.static Bundle.tN "SUPPRESSED_SENTINEL" Bundle.listD)).before args s = true)
    (lU : (Cond.laysStatic Bundle.tN "UNASSIGNED_STACK" Bundle.steD).before args s = true) (lN : (Cond.laysStatic Bundle.tN "SUPPRESSED_SENTINEL" Bundle.listD).before args s = true) : ∀ w ∈ L, w.before args s = true := by
  intro w hw
  by_cases e1 : w = .isRef (.static Bundle.tN "UNASSIGNED_STACK" Bundle.steD)
  · rw [e1]; exact hU
  · by_cases e2 : w = .isRef (.static Bundle.tN "SUPPRESSED_SENTINEL" Bundle.listD)
    · rw [e2]; exact hN
    · by_cases e3 : w = .laysStatic Bundle.tN "UNASSIGNED_STACK" Bundle.steD
      · rw [e3]; exact lU
      · by_cases e4 : w = .laysStatic Bundle.tN "SUPPRESSED_SENTINEL" Bundle.listD
        · rw [e4]; exact lN
        · exact h1 w (List.mem_filter.mpr ⟨hw, by unfold vx_no; rw [decide_eq_true e1, decide_eq_true e2, decide_eq_true e3, decide_eq_true e4]; rfl⟩)
/-- where a static field lies, its class's statics cell in H -/
def vx_L (C n d : String) (A : Nat → Prop) (U : State) (H : Heap) : Prop := ∃ (c : ClassId) (k : Class) (i : Nat) (f : Field) (a : Nat) (cell : Cell), U.vm.findClass C = some c ∧ U.fieldFound? C n d = some (c, k, i, f) ∧ f.isStatic = true ∧ k.statics = some a ∧ H[a]? = some cell ∧ cell.vm.isStatics = true ∧ cell.cls = c ∧ f.slot < cell.slots.size ∧ k.staticTypes[f.slot]? = some f.type ∧ ¬ A a
theorem vx_L.moved {C n d : String} {A : Nat → Prop} {u U : State} {H : Heap} (hvm : u.vm.Alike U.vm) (h : vx_L C n d A u H) : vx_L C n d A U H := by
  obtain ⟨c, k, i, f, a, cell, h1, h2, h3, h4, h5, h6, h7, h8, h9, h10⟩ := h
  obtain ⟨k', hi', he⟩ := State.fieldFound?_setVm hvm h2
  exact ⟨c, k', i, f, a, cell, by rw [hvm.findClass]; exact h1, hi', h3, by rw [he]; exact h4, h5, h6, h7, h8, by rw [he]; exact h9, h10⟩
theorem vx_L.kept {C n d : String} {A : Nat → Prop} {U : State} {H H1 : Heap} (h : vx_L C n d A U H) (hq : ∀ a : Nat, a < H.size → ¬ A a → H1[a]? = H[a]?) : vx_L C n d A U H1 := by
  obtain ⟨c, k, i, f, a, cell, h1, h2, h3, h4, h5, h6, h7, h8, h9, h10⟩ := h
  exact ⟨c, k, i, f, a, cell, h1, h2, h3, h4, by rw [hq a (Array.getElem?_eq_some_iff.mp h5).1 h10]; exact h5, h6, h7, h8, h9, h10⟩
theorem vx_L.narrow {C n d : String} {A B : Nat → Prop} {U : State} {H : Heap} (h : vx_L C n d A U H) (hAB : ∀ q, B q → A q) : vx_L C n d B U H := by
  obtain ⟨c, k, i, f, a, cell, h1, h2, h3, h4, h5, h6, h7, h8, h9, h10⟩ := h
  exact ⟨c, k, i, f, a, cell, h1, h2, h3, h4, h5, h6, h7, h8, h9, fun z => h10 (hAB _ z)⟩
theorem vx_L.word {C n d : String} {A : Nat → Prop} {s : State} {args : Array Value} (h : vx_L C n d A s s.heap) : (Cond.laysStatic C n d).before args s = true := by
  obtain ⟨c, k, i, f, a, cell, h1, h2, h3, h4, h5, h6, h7, h8, h9, -⟩ := h
  show (Cond.laysStatic C n d).holds args s none s [] = true
  exact Cond.laysStatic_of h1 h2 h3 h4 h5 h6 h7 h8 h9
/-- .. and what it holds: null or some reference -/
def vx_Zq (C n d : String) (A : Nat → Prop) (U : State) (H : Heap) : Prop := va_Zq C n d A U H ∧ vx_L C n d A U H
theorem vx_Zq.moved {C n d : String} {A : Nat → Prop} {u U : State} {H : Heap} (hvm : u.vm.Alike U.vm) (h : vx_Zq C n d A u H) : vx_Zq C n d A U H := ⟨va_Zq.moved hvm h.1, vx_L.moved hvm h.2⟩
theorem vx_Zq.kept {C n d : String} {A : Nat → Prop} {U : State} {H H1 : Heap} (h : vx_Zq C n d A U H) (hq : ∀ a : Nat, a < H.size → ¬ A a → H1[a]? = H[a]?) : vx_Zq C n d A U H1 := ⟨va_Zq.kept h.1 hq, vx_L.kept h.2 hq⟩
theorem vx_Zq.narrow {C n d : String} {A B : Nat → Prop} {U : State} {H : Heap} (h : vx_Zq C n d A U H) (hAB : ∀ q, B q → A q) : vx_Zq C n d B U H := ⟨va_Zq.narrow h.1 hAB, vx_L.narrow h.2 hAB⟩
theorem vx_Zqof {args : Array Value} {s : State} {C n d : String} {A : Nat → Prop} (hl : (Cond.laysStatic C n d).before args s = true) (hini : (Cond.initialized C).before args s = true) (h : (Cond.isRef (.static C n d)).before args s = true) (hA : ∀ a : Nat, a < s.heap.size → ¬ A a) : vx_Zq C n d A s s.heap := by
  refine ⟨va_Zqof hl hini h hA, ?_⟩
  obtain ⟨c, k, i, f, a, cell, h1, h2, h3, h4, h5, h6, h7, h8, h9⟩ := Cond.laysStatic_spec hl
  exact ⟨c, k, i, f, a, cell, h1, h2, h3, h4, h5, h6, h7, h8, h9, hA a (Array.getElem?_eq_some_iff.mp h5).1⟩
theorem vx_isRef {C n d : String} {v : Value} {A : Nat → Prop} {s : State} {args : Array Value} (h : va_Z C n d v A s s.heap) (hv : v.isRef = true) : (Cond.isRef (.static C n d)).before args s = true := by
  obtain ⟨cf, kf, fi, f, a, cell, h1, h2, h3, h4, h5, h6, h7, -⟩ := h
  have he : (Term.static C n d).eval args s none [] s = some v := by
    simp [Term.eval, State.fieldNamed?, h1, h2, h4, h5, h6, h7]
  simp only [Cond.before, Cond.holds, Cond.value, he]
  cases v <;> simp_all [Value.isRef]
theorem vx_isRefq {C n d : String} {A : Nat → Prop} {s : State} {args : Array Value} (h : va_Zq C n d A s s.heap) : (Cond.isRef (.static C n d)).before args s = true := by
  rcases h with h | ⟨t, h⟩
  · exact vx_isRef h rfl
  · exact vx_isRef h rfl
/-- the same frame, seen from here: as if the method were called anew in this heap -/
theorem vx_rebase {T : State} (X : Stand p l e R s m args below meth c T locs cells slots) {R' : Room} (hf : R'.frames ≤ R.frames) (hl : R'.locals ≤ R.locals) (hc : cells + R'.cells ≤ R.cells) (hs : slots + R'.slots ≤ R.slots) :
    Stand p l e R' ((T.setVm s.vm).setFrames (.invoking m args :: below)) m args below meth c T [] 0 0 := by
  have htop : (T.setVm s.vm).topJava?.isSome := X.here.top
  have hF : ((T.setVm s.vm).setFrames (.invoking m args :: below)).frames = .invoking m args :: below := State.frames_setFrames _ (State.cur_lt_of_top htop)
  obtain ⟨g₀, hg0⟩ := Option.isSome_iff_exists.mp htop
  obtain ⟨r, hr⟩ := State.topJava?_eq_some.mp hg0
  have hl9 : e.platform.stackLimits (T.setVm s.vm).me = e.platform.stackLimits s.me := X.limits
  have hb9 : (T.setVm s.vm).me.stackBytes = s.me.stackBytes := X.bytes
  refine ⟨X.admits, X.cas, X.clock, hF, ?_, X.hears, X.method, X.code, X.here, X.tail, X.warmed, ?_, ?_, ?_⟩
  · have h := X.room
    have hU : ((T.setVm s.vm).setFrames (.invoking m args :: below)).localsInUse = s.localsInUse := by
      rw [State.localsInUse_invoking hF (meth := meth) (c := c) X.method X.code, State.localsInUse_invoking X.frames X.method X.code]
    simp only [State.hasRoom, Bool.and_eq_true, decide_eq_true_eq] at h ⊢
    obtain ⟨⟨⟨⟨h1, h2, h3, h4, h5, h6⟩, h7⟩, h8⟩, h9⟩ := h
    rw [X.frames, List.length_cons] at h2 h3
    have q1 := X.heapSize
    have q2 := X.used
    simp only [hF, hU, List.length_cons, State.stackLimits_setFrames, State.stackBytes_setFrames, hl9, hb9]
    refine ⟨⟨⟨⟨by omega, by omega, by omega, by omega, by omega, h6⟩, ?_⟩, ?_⟩, X.book⟩
    · show T.heap.size + R'.cells ≤ e.platform.maxCells
      omega
    · show T.slotsUsed + R'.slots ≤ e.platform.maxSlots
      omega
  · rw [State.stackLimits_setFrames]; rfl
  · rw [State.stackBytes_setFrames]; rfl
  · refine ⟨?_, Nat.le_refl _, Nat.le_refl _, ?_, ?_, fun a c9 h9 => ⟨c9, h9, rfl, rfl, fun _ _ => rfl⟩⟩
    · obtain ⟨t, ht, -⟩ := State.frames_cons hr
      show T.setVm s.vm = { ((T.setVm s.vm).setFrames (.invoking m args :: below)).setFrames (T.setVm s.vm).frames with heap := T.heap, slotsUsed := T.slotsUsed }
      rw [State.setFrames_setFrames, State.setFrames_self ht]
      rfl
    · show T.slotsUsed = T.slotsUsed + ((T.heap.toList.drop T.heap.size).map (·.slots.size)).sum
      rw [List.drop_eq_nil_of_le (Nat.le_of_eq Array.length_toList)]
      rfl
    · show ((T.heap.toList.drop T.heap.size).map (·.slots.size)).sum ≤ 0
      rw [List.drop_eq_nil_of_le (Nat.le_of_eq Array.length_toList)]
      exact Nat.le_refl _
/-- 'throw new E()': new; dup; invokespecial; athrow -/
theorem vx_throw0 {cc : ByteArray} {pc : Nat} (hexec : p.tables.exec = Jvm.exec) (hb : c.code = cc) (hl : l.stackTraces = false) {own cls : String} {names : List String} {ik ic mc ms : Nat} {A : Nat → Prop}
    (hown : s.vm.findClass own = some m.cls) (hcls : Bundle.fit cls = true) (hnames : ∀ n ∈ names, Bundle.fit n = true)
    (hk : (Cond.classLink own ik cls).before args s = true) (hini : (Cond.initialized cls).before args s = true) (hat : ∀ w ∈ vx_at0 own ic cls names, w.before args s = true)
    (hgood : ∀ w ∈ Cond.classLink own ik cls :: Cond.initialized cls :: vx_at0 own ic cls names, vx_ot w = true)
    (hU : vx_Zq Bundle.tN "UNASSIGNED_STACK" Bundle.steD A s s.heap) (hN : vx_Zq Bundle.tN "SUPPRESSED_SENTINEL" Bundle.listD A s s.heap) (hS : va_S A s.heap H locs) (hsize : ls.size = c.maxLocals)
    (d0 : decode cc pc = .ok (.new ik, 3)) (d3 : decode cc (pc + 3) = .ok (.dup, 1)) (d4 : decode cc (pc + 4) = .ok (.invokespecial ic, 3)) (d7 : decode cc (pc + 7) = .ok (.athrow, 1))
    (hout : ∀ x ∈ c.exceptionTable.toList, covers x (pc + 7) = false)
    (hRframes : names.length + 3 < R.frames) (hRlocals : (rest.map fun v => v.category).sum + (13 * (names.length + 1) + 42) ≤ R.locals) (hRcells : cells + 1 ≤ R.cells) (hRslots : slots + 6 ≤ R.slots) (hlocks : meth.locks = false)
    (hx : ∀ t : State, s.vm.Alike t.vm → H.size ≤ t.heap.size → (∀ q : Nat, q < H.size → t.heap[q]? = H[q]?) → XC cls s t)
    (hf : ∀ z ∈ locs, free z.base) (hc : cells + 1 ≤ mc) (hs : slots + 6 ≤ ms) :
    W p l e R s m args below meth c H locs cells slots (vx_MQ below Qc XC args s mc ms free) (F0 m pc ls rest) := by
  intro T hT X
  have htr : e.platform.stackTraces = false := (show e.platform.stackTraces = l.stackTraces by rw [X.admits.platform]).trans hl
  have Y := vx_rebase X (R' := { frames := R.frames, locals := R.locals, cells := 1, slots := 6 }) (Nat.le_refl _) (Nat.le_refl _) hRcells hRslots
  obtain ⟨s', hA⟩ : ∃ z, z = (T.setVm s.vm).setFrames (.invoking m args :: below) := ⟨_, rfl⟩
  rw [← hA] at Y
  have hvm : s'.vm = s.vm := by rw [hA]; rfl
  have hhp : s'.heap = H := by rw [hA]; exact hT
  have hW0 : s.WarmedH s'.vm := by rw [hvm]; exact State.WarmedH.refl s
  have hat' : ∀ w ∈ vx_at0 own ic cls names, w.before args s' = true := fun w hw => vx_ot_at hW0 hvm.symm (hgood w (List.mem_cons_of_mem _ (List.mem_cons_of_mem _ hw))) (hat w hw)
  have hk' : (Cond.classLink own ik cls).before args s' = true := vx_ot_at hW0 hvm.symm (hgood _ List.mem_cons_self) hk
  have hini' : (Cond.initialized cls).before args s' = true := vx_ot_at hW0 hvm.symm (hgood _ (List.mem_cons_of_mem _ List.mem_cons_self)) hini
  have hU' : vx_Zq Bundle.tN "UNASSIGNED_STACK" Bundle.steD A s' s'.heap := by rw [hhp]; exact vx_Zq.moved hW0.alike (hU.kept hS.2.1)
  have hN' : vx_Zq Bundle.tN "SUPPRESSED_SENTINEL" Bundle.listD A s' s'.heap := by rw [hhp]; exact vx_Zq.moved hW0.alike (hN.kept hS.2.1)
  have h : ∀ w ∈ Bundle.ownAtoms0 own ic cls names, w.before args s' = true := vx_own hat' (vx_isRefq hU'.1) (vx_isRefq hN'.1) hU'.2.word hN'.2.word
  have hown' : s'.vm.findClass own = some m.cls := by rw [hvm]; exact hown
  have hins : (Cond.instantiable cls 6).before args s' = true := h _ (by simp [Bundle.ownAtoms0])
  obtain ⟨vm₁, cX, kX, hfX, hkX, -, -, X₁, st1⟩ := Y.newCold hexec (own := own) (C := cls) (index := ik) (n := 6) hown' hk' hins hini'
    (g := F0 m pc ls rest) rfl (by rw [hb]; exact d0) (Nat.le_refl _) (Nat.le_refl _)
  generalize hT1 : (T.setVm vm₁).pushCell { cls := cX, slots := kX.instanceTypes.map defaultValue, vm := .none } = T1 at X₁ st1
  have hcat : (Value.ref T.heap.size).category = 1 := rfl
  have hcellA : T1.heap[T.heap.size]? = some (freshCell cX kX) := by rw [← hT1]; exact State.heap_pushCell_size _ _
  have d3' : decode c.code (pc + 3) = .ok (.dup, 1) := by rw [hb]; exact d3
  obtain ⟨U, hsteps, hrun, hend, hW, hsame, ce, hce, hO⟩ := X₁.ctorThrow0 hexec htr (own := own) (cls := cls) (names := names) (ic := ic) hown' hcls hnames h (fun x hx => nomatch hx) hfX hkX hcellA (by rw [hhp, hT]; exact Nat.le_refl _)
    (g := { method := m, pc := pc + 4, locals := ls, stack := .ref T.heap.size :: .ref T.heap.size :: rest, locked := none }) rfl hsize rfl rfl (rest := rest) rfl
    (by rw [hb]; exact d4) (by rw [hb]; exact d7) hout hRframes (by simp only [List.map_cons, List.sum_cons, hcat]; omega) hlocks
  obtain ⟨f1, f2⟩ := vx_frame hsame
  rw [hhp] at f1 f2
  have hWs : s.WarmedH U.vm := State.WarmedH.trans hW0 hW
  have hcl : s.vm.findClass cls = some ce.cls := by
    have h9 := hO.cls
    rw [hvm] at h9
    exact h9
  have hall : s.sameButNew ({ U with vm := s.vm } : State) locs mc ms := by
    subst hA
    obtain ⟨e1, e2⟩ := hsame
    rw [State.setFrames_setFrames] at e1
    have h2 : (T.setVm s.vm).sameButNew ({ U with vm := s.vm } : State) [] (0 + 1) (0 + 6) := ⟨e1, e2⟩
    have h3 := X.same.trans h2
    rw [List.append_nil] at h3
    exact h3.mono hc hs
  refine ⟨U, ?_, .threw T.heap.size, hrun, hend, Or.inr ⟨T.heap.size, rfl, cls, ce, locs, hx U hWs.alike f1 (fun q hq => f2 q hq (fun z hz => nomatch hz)), hce, hO.vm, hcl, hWs, hall, hf⟩⟩
  refine st1 _ ?_
  show Steps p.tables e below (T1.setTop { method := m, pc := pc + 3, locals := ls, stack := .ref T.heap.size :: rest, locked := none }) _
  jvm_step X₁.here [X₁.here.top, hexec, d3', Value.category]
  exact hsteps
/-- 'throw new E("text")': new; dup; ldc; invokespecial; athrow -/
theorem vx_throwS {cc : ByteArray} {pc : Nat} (hexec : p.tables.exec = Jvm.exec) (hb : c.code = cc) (hl : l.stackTraces = false) {own cls text : String} {names : List String} {ik is ic mc ms sa : Nat} {A : Nat → Prop}
    (hown : s.vm.findClass own = some m.cls) (hcls : Bundle.fit cls = true) (hnames : ∀ n ∈ names, Bundle.fit n = true)
    (hk : (Cond.classLink own ik cls).before args s = true) (hini : (Cond.initialized cls).before args s = true) (hstr : vk_R own is text sa s) (hat : ∀ w ∈ vx_atS own ic cls names, w.before args s = true)
    (hgood : ∀ w ∈ Cond.classLink own ik cls :: Cond.initialized cls :: vx_atS own ic cls names, vx_ot w = true)
    (hU : vx_Zq Bundle.tN "UNASSIGNED_STACK" Bundle.steD A s s.heap) (hN : vx_Zq Bundle.tN "SUPPRESSED_SENTINEL" Bundle.listD A s s.heap) (hS : va_S A s.heap H locs) (hsize : ls.size = c.maxLocals)
    (d0 : decode cc pc = .ok (.new ik, 3)) (d3 : decode cc (pc + 3) = .ok (.dup, 1)) (d4 : decode cc (pc + 4) = .ok (.ldc is, 2)) (d6 : decode cc (pc + 6) = .ok (.invokespecial ic, 3)) (d9 : decode cc (pc + 9) = .ok (.athrow, 1))
    (hout : ∀ x ∈ c.exceptionTable.toList, covers x (pc + 9) = false)
    (hRframes : names.length + 3 < R.frames) (hRlocals : (rest.map fun v => v.category).sum + (13 * (names.length + 1) + 43) ≤ R.locals) (hRcells : cells + 1 ≤ R.cells) (hRslots : slots + 6 ≤ R.slots) (hlocks : meth.locks = false)
    (hx : ∀ t : State, s.vm.Alike t.vm → H.size ≤ t.heap.size → (∀ q : Nat, q < H.size → t.heap[q]? = H[q]?) → XC cls s t)
    (hf : ∀ z ∈ locs, free z.base) (hc : cells + 1 ≤ mc) (hs : slots + 6 ≤ ms) :
    W p l e R s m args below meth c H locs cells slots (vx_MQ below Qc XC args s mc ms free) (F0 m pc ls rest) := by
  intro T hT X
  have htr : e.platform.stackTraces = false := (show e.platform.stackTraces = l.stackTraces by rw [X.admits.platform]).trans hl
  have Y := vx_rebase X (R' := { frames := R.frames, locals := R.locals, cells := 1, slots := 6 }) (Nat.le_refl _) (Nat.le_refl _) hRcells hRslots
  obtain ⟨s', hA⟩ : ∃ z, z = (T.setVm s.vm).setFrames (.invoking m args :: below) := ⟨_, rfl⟩
  rw [← hA] at Y
  have hvm : s'.vm = s.vm := by rw [hA]; rfl
  have hhp : s'.heap = H := by rw [hA]; exact hT
  have hW0 : s.WarmedH s'.vm := by rw [hvm]; exact State.WarmedH.refl s
  have hat' : ∀ w ∈ vx_atS own ic cls names, w.before args s' = true := fun w hw => vx_ot_at hW0 hvm.symm (hgood w (List.mem_cons_of_mem _ (List.mem_cons_of_mem _ hw))) (hat w hw)
  have hk' : (Cond.classLink own ik cls).before args s' = true := vx_ot_at hW0 hvm.symm (hgood _ List.mem_cons_self) hk
  have hini' : (Cond.initialized cls).before args s' = true := vx_ot_at hW0 hvm.symm (hgood _ (List.mem_cons_of_mem _ List.mem_cons_self)) hini
  have hU' : vx_Zq Bundle.tN "UNASSIGNED_STACK" Bundle.steD A s' s'.heap := by rw [hhp]; exact vx_Zq.moved hW0.alike (hU.kept hS.2.1)
  have hN' : vx_Zq Bundle.tN "SUPPRESSED_SENTINEL" Bundle.listD A s' s'.heap := by rw [hhp]; exact vx_Zq.moved hW0.alike (hN.kept hS.2.1)
  have h : ∀ w ∈ Bundle.ownAtoms own ic cls names, w.before args s' = true := vx_own hat' (vx_isRefq hU'.1) (vx_isRefq hN'.1) hU'.2.word hN'.2.word
  have hown' : s'.vm.findClass own = some m.cls := by rw [hvm]; exact hown
  have hins : (Cond.instantiable cls 6).before args s' = true := h _ (by simp [Bundle.ownAtoms])
  obtain ⟨vm₁, cX, kX, hfX, hkX, -, -, X₁, st1⟩ := Y.newCold hexec (own := own) (C := cls) (index := ik) (n := 6) hown' hk' hins hini'
    (g := F0 m pc ls rest) rfl (by rw [hb]; exact d0) (Nat.le_refl _) (Nat.le_refl _)
  generalize hT1 : (T.setVm vm₁).pushCell { cls := cX, slots := kX.instanceTypes.map defaultValue, vm := .none } = T1 at X₁ st1
  have hcat : (Value.ref T.heap.size).category = 1 := rfl
  have hcellA : T1.heap[T.heap.size]? = some (freshCell cX kX) := by rw [← hT1]; exact State.heap_pushCell_size _ _
  have d3' : decode c.code (pc + 3) = .ok (.dup, 1) := by rw [hb]; exact d3
  have d4' : decode c.code (pc + 4) = .ok (.ldc is, 2) := by rw [hb]; exact d4
  have hstr' : vk_R own is text sa s' := vk_R.warm hW0 hstr
  obtain ⟨U, hsteps, hrun, hend, hW, hsame, ce, hce, hO⟩ := X₁.ctorThrowS hexec htr (own := own) (cls := cls) (names := names) (ic := ic) hown' hcls hnames h (fun x hx => nomatch hx) hfX hkX hcellA (by rw [hhp, hT]; exact Nat.le_refl _) (msg := .ref sa) rfl
    (g := { method := m, pc := pc + 6, locals := ls, stack := .ref sa :: .ref T.heap.size :: .ref T.heap.size :: rest, locked := none }) rfl hsize rfl rfl (rest := rest) rfl
    (by rw [hb]; exact d6) (by rw [hb]; exact d9) hout hRframes (by simp only [List.map_cons, List.sum_cons, hcat]; omega) hlocks
  obtain ⟨f1, f2⟩ := vx_frame hsame
  rw [hhp] at f1 f2
  have hWs : s.WarmedH U.vm := State.WarmedH.trans hW0 hW
  have hcl : s.vm.findClass cls = some ce.cls := by
    have h9 := hO.cls
    rw [hvm] at h9
    exact h9
  have hall : s.sameButNew ({ U with vm := s.vm } : State) locs mc ms := by
    subst hA
    obtain ⟨e1, e2⟩ := hsame
    rw [State.setFrames_setFrames] at e1
    have h2 : (T.setVm s.vm).sameButNew ({ U with vm := s.vm } : State) [] (0 + 1) (0 + 6) := ⟨e1, e2⟩
    have h3 := X.same.trans h2
    rw [List.append_nil] at h3
    exact h3.mono hc hs
  refine ⟨U, ?_, .threw T.heap.size, hrun, hend, Or.inr ⟨T.heap.size, rfl, cls, ce, locs, hx U hWs.alike f1 (fun q hq => f2 q hq (fun z hz => nomatch hz)), hce, hO.vm, hcl, hWs, hall, hf⟩⟩
  refine st1 _ ?_
  show Steps p.tables e below (T1.setTop { method := m, pc := pc + 3, locals := ls, stack := .ref T.heap.size :: rest, locked := none }) _
  jvm_step X₁.here [X₁.here.top, hexec, d3', Value.category]
  exact X₁.ldcString hexec (own := own) (text := text) (index := is) (a := sa) hown' hstr'.1 hstr'.2
    (g := { method := m, pc := pc + 4, locals := ls, stack := .ref T.heap.size :: .ref T.heap.size :: rest, locked := none }) rfl d4' _ hsteps
/-- 'throw new E("text")', the text by a wide index -/
theorem vx_throwSW {cc : ByteArray} {pc : Nat} (hexec : p.tables.exec = Jvm.exec) (hb : c.code = cc) (hl : l.stackTraces = false) {own cls text : String} {names : List String} {ik is ic mc ms sa : Nat} {A : Nat → Prop}
    (hown : s.vm.findClass own = some m.cls) (hcls : Bundle.fit cls = true) (hnames : ∀ n ∈ names, Bundle.fit n = true)
    (hk : (Cond.classLink own ik cls).before args s = true) (hini : (Cond.initialized cls).before args s = true) (hstr : vk_R own is text sa s) (hat : ∀ w ∈ vx_atS own ic cls names, w.before args s = true)
    (hgood : ∀ w ∈ Cond.classLink own ik cls :: Cond.initialized cls :: vx_atS own ic cls names, vx_ot w = true)
    (hU : vx_Zq Bundle.tN "UNASSIGNED_STACK" Bundle.steD A s s.heap) (hN : vx_Zq Bundle.tN "SUPPRESSED_SENTINEL" Bundle.listD A s s.heap) (hS : va_S A s.heap H locs) (hsize : ls.size = c.maxLocals)
    (d0 : decode cc pc = .ok (.new ik, 3)) (d3 : decode cc (pc + 3) = .ok (.dup, 1)) (d4 : decode cc (pc + 4) = .ok (.ldc_w is, 3)) (d7 : decode cc (pc + 7) = .ok (.invokespecial ic, 3)) (d10 : decode cc (pc + 10) = .ok (.athrow, 1))
    (hout : ∀ x ∈ c.exceptionTable.toList, covers x (pc + 10) = false)
    (hRframes : names.length + 3 < R.frames) (hRlocals : (rest.map fun v => v.category).sum + (13 * (names.length + 1) + 43) ≤ R.locals) (hRcells : cells + 1 ≤ R.cells) (hRslots : slots + 6 ≤ R.slots) (hlocks : meth.locks = false)
    (hx : ∀ t : State, s.vm.Alike t.vm → H.size ≤ t.heap.size → (∀ q : Nat, q < H.size → t.heap[q]? = H[q]?) → XC cls s t)
    (hf : ∀ z ∈ locs, free z.base) (hc : cells + 1 ≤ mc) (hs : slots + 6 ≤ ms) :
    W p l e R s m args below meth c H locs cells slots (vx_MQ below Qc XC args s mc ms free) (F0 m pc ls rest) := by
  intro T hT X
  have htr : e.platform.stackTraces = false := (show e.platform.stackTraces = l.stackTraces by rw [X.admits.platform]).trans hl
  have Y := vx_rebase X (R' := { frames := R.frames, locals := R.locals, cells := 1, slots := 6 }) (Nat.le_refl _) (Nat.le_refl _) hRcells hRslots
  obtain ⟨s', hA⟩ : ∃ z, z = (T.setVm s.vm).setFrames (.invoking m args :: below) := ⟨_, rfl⟩
  rw [← hA] at Y
  have hvm : s'.vm = s.vm := by rw [hA]; rfl
  have hhp : s'.heap = H := by rw [hA]; exact hT
  have hW0 : s.WarmedH s'.vm := by rw [hvm]; exact State.WarmedH.refl s
  have hat' : ∀ w ∈ vx_atS own ic cls names, w.before args s' = true := fun w hw => vx_ot_at hW0 hvm.symm (hgood w (List.mem_cons_of_mem _ (List.mem_cons_of_mem _ hw))) (hat w hw)
  have hk' : (Cond.classLink own ik cls).before args s' = true := vx_ot_at hW0 hvm.symm (hgood _ List.mem_cons_self) hk
  have hini' : (Cond.initialized cls).before args s' = true := vx_ot_at hW0 hvm.symm (hgood _ (List.mem_cons_of_mem _ List.mem_cons_self)) hini
  have hU' : vx_Zq Bundle.tN "UNASSIGNED_STACK" Bundle.steD A s' s'.heap := by rw [hhp]; exact vx_Zq.moved hW0.alike (hU.kept hS.2.1)
  have hN' : vx_Zq Bundle.tN "SUPPRESSED_SENTINEL" Bundle.listD A s' s'.heap := by rw [hhp]; exact vx_Zq.moved hW0.alike (hN.kept hS.2.1)
  have h : ∀ w ∈ Bundle.ownAtoms own ic cls names, w.before args s' = true := vx_own hat' (vx_isRefq hU'.1) (vx_isRefq hN'.1) hU'.2.word hN'.2.word
  have hown' : s'.vm.findClass own = some m.cls := by rw [hvm]; exact hown
  have hins : (Cond.instantiable cls 6).before args s' = true := h _ (by simp [Bundle.ownAtoms])
  obtain ⟨vm₁, cX, kX, hfX, hkX, -, -, X₁, st1⟩ := Y.newCold hexec (own := own) (C := cls) (index := ik) (n := 6) hown' hk' hins hini'
    (g := F0 m pc ls rest) rfl (by rw [hb]; exact d0) (Nat.le_refl _) (Nat.le_refl _)
  generalize hT1 : (T.setVm vm₁).pushCell { cls := cX, slots := kX.instanceTypes.map defaultValue, vm := .none } = T1 at X₁ st1
  have hcat : (Value.ref T.heap.size).category = 1 := rfl
  have hcellA : T1.heap[T.heap.size]? = some (freshCell cX kX) := by rw [← hT1]; exact State.heap_pushCell_size _ _
  have d3' : decode c.code (pc + 3) = .ok (.dup, 1) := by rw [hb]; exact d3
  have d4' : decode c.code (pc + 4) = .ok (.ldc_w is, 3) := by rw [hb]; exact d4
  have hstr' : vk_R own is text sa s' := vk_R.warm hW0 hstr
  obtain ⟨U, hsteps, hrun, hend, hW, hsame, ce, hce, hO⟩ := X₁.ctorThrowS hexec htr (own := own) (cls := cls) (names := names) (ic := ic) hown' hcls hnames h (fun x hx => nomatch hx) hfX hkX hcellA (by rw [hhp, hT]; exact Nat.le_refl _) (msg := .ref sa) rfl
    (g := { method := m, pc := pc + 7, locals := ls, stack := .ref sa :: .ref T.heap.size :: .ref T.heap.size :: rest, locked := none }) rfl hsize rfl rfl (rest := rest) rfl
    (by rw [hb]; exact d7) (by rw [hb]; exact d10) hout hRframes (by simp only [List.map_cons, List.sum_cons, hcat]; omega) hlocks
  obtain ⟨f1, f2⟩ := vx_frame hsame
  rw [hhp] at f1 f2
  have hWs : s.WarmedH U.vm := State.WarmedH.trans hW0 hW
  have hcl : s.vm.findClass cls = some ce.cls := by
    have h9 := hO.cls
    rw [hvm] at h9
    exact h9
  have hall : s.sameButNew ({ U with vm := s.vm } : State) locs mc ms := by
    subst hA
    obtain ⟨e1, e2⟩ := hsame
    rw [State.setFrames_setFrames] at e1
    have h2 : (T.setVm s.vm).sameButNew ({ U with vm := s.vm } : State) [] (0 + 1) (0 + 6) := ⟨e1, e2⟩
    have h3 := X.same.trans h2
    rw [List.append_nil] at h3
    exact h3.mono hc hs
  refine ⟨U, ?_, .threw T.heap.size, hrun, hend, Or.inr ⟨T.heap.size, rfl, cls, ce, locs, hx U hWs.alike f1 (fun q hq => f2 q hq (fun z hz => nomatch hz)), hce, hO.vm, hcl, hWs, hall, hf⟩⟩
  refine st1 _ ?_
  show Steps p.tables e below (T1.setTop { method := m, pc := pc + 3, locals := ls, stack := .ref T.heap.size :: rest, locked := none }) _
  jvm_step X₁.here [X₁.here.top, hexec, d3', Value.category]
  exact X₁.ldcStringW hexec (own := own) (text := text) (index := is) (a := sa) hown' hstr'.1 hstr'.2
    (g := { method := m, pc := pc + 4, locals := ls, stack := .ref T.heap.size :: .ref T.heap.size :: rest, locked := none }) rfl d4' _ hsteps
end Ends
section Bodies
variable {l : Launch}
theorem vx_ofW {y : MethodName} {ws ws' : List Cond} {rm : Room} {Pc : Array Value → State → Prop} {Qc : Array Value → State → Outcome → State → Prop} {XC : String → State → State → Prop} {mc ms : Nat} {free : Addr → Prop} {cc : ByteArray} {maxL : Nat} {ret : Option FieldType}
    (hy : plainName y.cls = true) (hw : ws = Cond.code y cc maxL ret :: ws')
    (body : ∀ p e s m args below meth c s₁, BodyLoose p l y (headSpec ws rm) cc maxL ret e s m args below meth c s₁ → c.maxLocals = maxL → (∀ x ∈ c.exceptionTable.toList, False) → Pc args s →
      W p l e (headSpec ws rm).room s m args below meth c s.heap [] 0 0 (vx_MQ below Qc XC args s mc ms free) (entryFrame m args maxL)) : vx_Met l y ws rm Pc Qc XC mc ms free := by
  refine MetFree.of_bodyS (code := cc) (maxLocals := maxL) (ret := ret) hy ?_ ?_
  · intro args s m h hn
    obtain ⟨meth, c, h1, h2, h3, h4, h5, h6, -, -⟩ := Cond.code_spec hn (atoms_spec (ws := ws) h _ (by rw [hw]; exact List.mem_cons_self))
    exact ⟨meth, c, h1, h2, h3, h4, h5, h6⟩
  · intro p e s m args below meth c s₁ B hml hP _
    have hh0 : s₁.heap = s.heap := by rw [B.state]; rfl
    have ht : ∀ x ∈ c.exceptionTable.toList, False := by
      obtain ⟨meth9, c9, h1, h2, -, -, -, -, h7, -⟩ := Cond.code_spec B.named (atoms_spec (ws := ws) B.pre _ (by rw [hw]; exact List.mem_cons_self))
      cases Option.some.inj (h1.symm.trans B.method)
      cases Option.some.inj (h2.symm.trans (Stand.of_body B).code)
      intro x hx
      rw [Array.isEmpty_iff.mp h7] at hx
      cases hx
    obtain ⟨t, a1, o, b1, b2, b3⟩ := body p e s m args below meth c s₁ B hml ht hP s₁ hh0 (Stand.of_body B)
    exact ⟨t, o, a1, b1, b2, b3⟩
/-- the table of a body with handlers -/
theorem vx_table {p : Program} {x y : MethodName} {S : Spec} {cc bytes : ByteArray} {maxL maxL' : Nat} {ret ret' : Option FieldType} {e : Env} {s s₁ : State} {m : MethodId} {args : Array Value} {below : List Frame} {meth : Method} {c : Code} {hh : List (Nat × Nat × Nat × Nat)}
    (B : BodyLoose p l y S cc maxL ret e s m args below meth c s₁) (h : (Cond.codeWith y bytes maxL' ret' hh).before args s = true) : c.exceptionTable.toList = tableOf hh := by
  obtain ⟨m9, meth9, c9, hn9, h1, h2, -, -, h6, -⟩ := Cond.codeWith_spec h
  cases Option.some.inj (hn9.symm.trans B.named)
  cases Option.some.inj (h1.symm.trans B.method)
  cases Option.some.inj (h2.symm.trans (Stand.of_body B).code)
  rw [← h6, table_eq]
end Bodies
end VXA
/-! ===== END ===== -/
/-! ===== BEGIN a static call of a method with an exception table ===== -/
section VXS
variable {p : Program} {l : Launch} {e : Env} {R : Room} {s : State} {m : MethodId} {args : Array Value} {below : List Frame} {meth : Method} {c : Code} {T : State} {H : Heap} {locs : List Loc} {cells slots : Nat}
abbrev vx_CSW (R : Room) (s : State) (args : Array Value) (own : String) (index : Nat) (y : MethodName) (bytes : ByteArray) (maxL : Nat) (ret : Option FieldType) (hh : List (Nat × Nat × Nat × Nat)) (ws : List Cond) (rm : Room) (mc ms n : Nat) : Prop :=
  (rm.cells = mc ∧ rm.slots = ms ∧ rm.frames + 1 ≤ R.frames ∧ 8 + (maxL + 11) + rm.locals ≤ R.locals ∧ (∀ w ∈ ws, ∀ (a' : Array Value) (U : State), s.WarmedH U.vm → w.before a' U = true) ∧ Cond.codeWith y bytes maxL ret hh ∈ ws) ∧
  (Cond.codeWith y bytes maxL ret hh).before args s = true ∧ (Cond.initialized y.cls).before args s = true ∧ (y.cls ≠ "java/lang/invoke/MethodHandle" ∧ y.cls ≠ "java/lang/invoke/VarHandle") ∧
  (∀ sig, parseMethodDescriptor y.desc = some sig → n = sig.parameters.length) ∧ (Cond.methodLink own index y).before args s = true ∧ (Cond.static y).before args s = true
theorem vx_cwSW {own : String} {index maxL mc ms : Nat} {y : MethodName} {bytes : ByteArray} {ret : Option FieldType} {hh : List (Nat × Nat × Nat × Nat)} {Ts ws ws' : List Cond} {rm : Room} (n : Nat) (ht : ∀ w ∈ Ts, w.before args s = true) (hT : GoodIn Ts (va_wsS own index y ws)) (hw : ws = Cond.codeWith y bytes maxL ret hh :: ws') (hrc : rm.cells = mc) (hrs : rm.slots = ms)
    (hd : y.cls ≠ "java/lang/invoke/MethodHandle" ∧ y.cls ≠ "java/lang/invoke/VarHandle" ∧ (parseMethodDescriptor y.desc).map (fun d => d.parameters.length) = some n) (hR : rm.frames + 1 ≤ R.frames ∧ 8 + (maxL + 11) + rm.locals ≤ R.locals) :
    vx_CSW R s args own index y bytes maxL ret hh ws rm mc ms n := by
  have ok : ∀ w ∈ va_wsS own index y ws, w.before args s = true := fun w h => ht w (hT w h).1
  have hG : GoodIn Ts ws := fun w h => hT w (by unfold va_wsS; exact List.mem_append_right _ h)
  have hc : Cond.codeWith y bytes maxL ret hh ∈ ws := by rw [hw]; exact List.mem_cons_self
  refine ⟨⟨hrc, hrs, hR.1, hR.2, pay_in ht hG, hc⟩, ht _ (hG _ hc).1, ok _ (by simp [va_wsS]), ⟨hd.1, hd.2.1⟩, fun sig h => ?_, ok _ (by simp [va_wsS]), ok _ (by simp [va_wsS])⟩
  have h2 := hd.2.2
  rw [h] at h2
  exact (Option.some.inj h2).symm
theorem vx_callSW (X : Stand p l e R s m args below meth c T locs cells slots) (hexec : p.tables.exec = Jvm.exec) {own : String} {index : Nat} {y : MethodName} {bytes : ByteArray} {maxL : Nat} {ret : Option FieldType} {hh : List (Nat × Nat × Nat × Nat)}
    (hown : s.vm.findClass own = some m.cls) (hlink : (Cond.methodLink own index y).before args s = true) (hstat : (Cond.static y).before args s = true) (hinit : (Cond.initialized y.cls).before args s = true)
    (hcode : (Cond.codeWith y bytes maxL ret hh).before args s = true) (hy : y.cls ≠ "java/lang/invoke/MethodHandle" ∧ y.cls ≠ "java/lang/invoke/VarHandle")
    {W9 : Nat} {Pre : Pt → Array Value → Prop} {Post : Pt → Array Value → Option Value → Pt → Prop} (hK : Back l R p e below s args y 3 W9 Pre Post)
    {g : JFrame} (hg : g.method = m) (hsize : g.locals.size = c.maxLocals) {argsL rest : List Value} (hlen : ∀ sig, parseMethodDescriptor y.desc = some sig → argsL.length = sig.parameters.length)
    (hstack : g.stack = argsL.reverse ++ rest) (hW : 2 * g.monitorRoom + (rest.map fun v => v.category).sum ≤ W9) (hdg : decode c.code g.pc = .ok (.invokestatic index, 3))
    (hpre : ∀ vm₁, s.WarmedH vm₁ → Pre ⟨T.setVm vm₁, locs, cells, slots⟩ argsL.toArray) :
    ∃ (v : Option Value) (vm₁ : Vm) (B : Pt), s.WarmedH vm₁ ∧ Stand p l e R s m args below meth c B.U B.locs B.cells B.slots ∧ Post ⟨T.setVm vm₁, locs, cells, slots⟩ argsL.toArray v B ∧
      ∀ target, Steps p.tables e below (B.U.setTop { g with pc := g.pc + 3, stack := v.toList ++ rest }) target → Steps p.tables e below (T.setTop g) target := by
  obtain ⟨mk, methM, cM, hnamed, hmethM, -, -, -, -, -, -, hsigM⟩ := Cond.codeWith_spec hcode
  have hstatic : methM.isStatic = true := Cond.static_spec hnamed hmethM hstat
  obtain ⟨kP, hkP, -⟩ := className_of_methodNamed hnamed
  have hinitP : kP.init = .initialized := Cond.initialized_spec (findClass_of_methodNamed hnamed) hkP hinit
  obtain ⟨vm₁, X₁, hstep₁⟩ := X.invokestatic hexec hown hlink hnamed hmethM hstatic hkP hinitP hy (g := g) hg (argsL := argsL) (rest := rest) (hlen _ hsigM) hstack hdg
  obtain ⟨v, B, X', hpost, hsteps⟩ := hK m meth c ⟨T.setVm vm₁, locs, cells, slots⟩ { g with stack := rest } (.invokestatic index) mk argsL.toArray X₁ hg hsize hdg hW (X₁.named hnamed) (hpre vm₁ X₁.warmed)
  exact ⟨v, vm₁, B, X₁.warmed, X', hpost, fun target h => hstep₁ _ fun acts => by rw [doInvoke_state]; exact hsteps.trans h⟩
theorem vx_runSW {y : MethodName} {bytes cc : ByteArray} {maxL nL mc ms n index : Nat} {ret : Option FieldType} {hh : List (Nat × Nat × Nat × Nat)} {ws : List Cond} {rm : Room} {Pc : Array Value → State → Prop} {Qc : Array Value → State → Outcome → State → Prop} {free : Addr → Prop} {Ts : List Cond} {own : String} {As rest : List Value} {g : JFrame}
    (S : CallFix p m c cc nL s args Ts own) (hM : Met l y ws rm Pc Qc mc ms free) (cw : vx_CSW R s args own index y bytes maxL ret hh ws rm mc ms n) (hp : PreS s H Pc As)
    (hg : g.method = m) (hn : As.length = n) (hsize : g.locals.size = nL) (hstack : g.stack = As.reverse ++ rest) (hW : 2 * g.monitorRoom + (rest.map fun v => v.category).sum ≤ 8) (hdg : decode cc g.pc = .ok (.invokestatic index, 3)) (hf : cells + mc ≤ R.cells ∧ slots + ms ≤ R.slots) :
    va_Run p l e R s m args below meth c H locs cells slots mc ms g rest (Qc As.toArray) (free) := by
  obtain ⟨⟨hrc, hrs, hfr, hlo, hws, hcw⟩, hcode, hini, hy, hlen, hl, hstt⟩ := cw
  have hK : Back l R p e below s args y 3 8 (PreOf R mc ms Pc) (PostOf Qc mc ms free) := va_backW (hh := hh) (bytes := bytes) (maxL := maxL) (ret := ret) hM hp.1 hrc hrs hfr hlo hws hcw (fun a' U hW => word_at hW (Or.inl (by first | rfl | simp [Cond.onTables, Cond.keeps, Cond.steady])) hini)
  obtain ⟨hx, hb, hml, ho, -⟩ := S
  intro T hT X
  obtain ⟨v, vm₁, ⟨U', l2, c2, s2⟩, hW₁, X', ⟨g', mk, t, L, e1, e2, hq, h1, hL, h2, h3⟩, st⟩ := vx_callSW X hx (hh := hh) (bytes := bytes) (maxL := maxL) (ret := ret) ho hl hstt hini hcode hy hK hg (hsize.trans hml.symm) (argsL := As) (rest := rest) (fun sig h => hn.trans (hlen sig h)) hstack hW (by rw [hb]; exact hdg)
    (fun vm₁ hW₁ => ⟨hf.1, hf.2, hp.2 (T.setVm vm₁) hT hW₁⟩)
  dsimp only [Pt.U, Pt.locs, Pt.cells, Pt.slots] at X' e1 e2 h1 h2 h3 st
  subst h1; subst h2; subst h3
  exact ⟨v, (T.setVm vm₁).calling g' mk As.toArray, t, U', L, hT, X', hL, e1, e2, hq, st⟩
/-- not caught here, past rows that name other classes: it goes on to the caller -/
theorem vx_outP {p : Program} {l : Launch} {e : Env} {R : Room} {s : State} {m : MethodId} {args : Array Value} {below : List Frame} {meth : Method} {c : Code} {H : Heap} {locs : List Loc} {cells slots : Nat} {free : Addr → Prop} {ls : Array Slot} {rest : List Value} {Qc : Array Value → State → Outcome → State → Prop} {XC : String → State → State → Prop}
    {pc : Nat} {own E : String} {ce : Cell} {q : Addr} {mc ms : Nat} (hown : s.vm.findClass own = some m.cls) (hlocks : meth.locks = false)
    (hpass : ∀ z ∈ c.exceptionTable.toList, covers z pc = false ∨ (z.catchType ≠ 0 ∧ ∃ nm : String, (Cond.classLink own z.catchType nm).before args s = true ∧ va_Nc E nm s)) (hcell : H[q]? = some ce) (hv : ce.vm = .none) (hcl : s.vm.findClass E = some ce.cls)
    (hx : ∀ t : State, t.heap = H → s.vm.Alike t.vm → XC E s t) (hf : ∀ z ∈ locs, free z.base) (hc : cells ≤ mc) (hs : slots ≤ ms) :
    vx_W p l e R s m args below meth c H locs cells slots (vx_MQ below Qc XC args s mc ms free) (F0 m pc ls rest) q := by
  intro T hT X
  have hpl : e.platform.magicAccessors = ({} : Platform).magicAccessors := by rw [X.admits.platform]
  obtain ⟨vm', hW', X', st⟩ := X.outThrough hlocks q (g := F0 m pc ls rest) rfl rfl rfl (cell := ce) (by rw [hT]; exact hcell) (by rw [hv]; rfl)
    (by obtain ⟨k9, h9, -⟩ := Vm.findClass_spec hcl; exact ⟨k9, h9⟩) (fun z hz => by
      rcases hpass z hz with h | ⟨hz0, nm, hl1, hn1⟩
      · exact Or.inl h
      · obtain ⟨c6, hc6, hcl6⟩ := Cond.classLink_spec hown hl1 e.platform hpl
        obtain ⟨a8, b8, h1, h2, h3⟩ := hn1
        cases Option.some.inj (h1.symm.trans hcl)
        cases Option.some.inj (h2.symm.trans hc6)
        exact Or.inr ⟨hz0, _, hcl6, h3⟩)
  obtain ⟨g₀, hfr⟩ := X'.frames_eq
  have hcell9 : ((T.setVm vm').setFrames (.throwing q :: below)).heap[q]? = some ce := by
    show T.heap[q]? = some ce
    rw [hT]; exact hcell
  have hend : Ended ((T.setVm vm').setFrames (.throwing q :: below)) below (.threw q) := State.frames_setFrames _ (State.cur_lt_of_frames hfr)
  refine ⟨(T.setVm vm').setFrames (.throwing q :: below), ?_, .threw q, X'.here.running, hend, Or.inr ⟨q, rfl, E, ce, locs, hx _ hT (X'.ends _).1.alike, hcell9, hv, hcl, (X'.ends _).1, (X'.ends _).2.mono hc hs, hf⟩⟩
  rw [X.pushThrowing_eq]
  exact st
/-- a thing of a world lies in the heap -/
theorem vx_lt {D : va_G} {cl : List vw_C} {ws : va_W} {H1 : Heap} (h : va_P D cl ws H1) {k : Nat} {q : Nat × va_E} (hk : ws[k]? = some q) : q.1 < H1.size := (h k q hk).lt
end VXS
/-! ===== END ===== -/
/-! ===== BEGIN methods with a table of their own: called by a name, returning or throwing ===== -/
section VXH
/-! vx_backW, vx_callVX, vx_callSX, vx_callVW, vx_runVW, vx_runVX, vx_runSX, vx_ofWH follow the same proofs as their sisters above (Free/Laws.lean, Shelf42/LK1.lean); vx_outP calls Shelf42/NT130.lean (outThrough). -/
section
variable {l : Launch} {R : Room} {p : Program} {e : Env} {below : List Frame} {s : State} {sargs : Array Value} {y : MethodName} {len W9 : Nat}
theorem vx_backW {ws : List Cond} {rm : Room} {Pc : Array Value → State → Prop} {Qc : Array Value → State → Outcome → State → Prop} {XC : String → State → State → Prop} {mc ms : Nat} {free : Addr → Prop} {bytes : ByteArray} {maxL : Nat} {ret : Option FieldType} {hh : List (Nat × Nat × Nat × Nat)}
    (hM : vx_Met l y ws rm Pc Qc XC mc ms free) (hblind : FrameBlind Pc) (hrc : rm.cells = mc) (hrs : rm.slots = ms)
    (hframes : rm.frames + 1 ≤ R.frames) (hlocals : W9 + (maxL + 11) + rm.locals ≤ R.locals)
    (hws : ∀ w ∈ ws, ∀ a' U, s.WarmedH U.vm → w.before a' U = true) (hcode : Cond.codeWith y bytes maxL ret hh ∈ ws) (hinit : ∀ a' U, s.WarmedH U.vm → (Cond.initialized y.cls).before a' U = true) :
    vx_Back l R p e below s sargs y len W9 (PreOf R mc ms Pc) (PostOf Qc mc ms free) (vx_Post XC mc ms free) := by
  intro m meth c A g ig mk a X hg hsize hdg hW hn hp
  have h1 : (headSpec ws rm).pre.before a A.U = true := atoms_intro fun w hw => hws w hw _ _ X.warmed
  have h2 : (Cond.codeWith y bytes maxL ret hh).before a A.U = true := hws _ hcode _ _ X.warmed
  have h3 : (Cond.initialized y.cls).before a A.U = true := hinit _ _ X.warmed
  have h4 : A.cells + (headSpec ws rm).room.cells ≤ R.cells := by rw [show (headSpec ws rm).room.cells = mc from hrc]; exact hp.1
  have h5 : A.slots + (headSpec ws rm).room.slots ≤ R.slots := by rw [show (headSpec ws rm).room.slots = ms from hrs]; exact hp.2.1
  have hPc : Pc a (A.U.calling g mk a) := hblind _ _ _ _ hp.2.2
  obtain ⟨U, Ls, c0, s0⟩ := A
  dsimp only [Pt.U, Pt.locs, Pt.cells, Pt.slots] at h1 h2 h3 h4 h5 X hn hPc ⊢
  obtain ⟨m9, methY, cY, hn9, hmY, hcY, -, hlY, -⟩ := Cond.codeWith_spec h2
  cases Option.some.inj (hn9.symm.trans hn)
  obtain ⟨kY, hkY, -⟩ := className_of_methodNamed hn
  have hinitY : kY.init = .initialized := Cond.initialized_spec (findClass_of_methodNamed hn) hkY h3
  have h : At U g.method c below := by rw [hg]; exact X.here
  have hlocals9 : W9 + (maxL + 11) + (headSpec ws rm).room.locals ≤ R.locals := hlocals
  have happ : (headSpec ws rm).appliesLoose y e.platform (U.calling g mk a) = true :=
    Spec.appliesLoose_calling (g := g) h hdg hn hkY hinitY
      (X.room_calling (g := g) (R' := (headSpec ws rm).room) hsize hmY hcY hframes (by rw [hlY]; omega) h4 h5) h1
  obtain ⟨mid, hmid⟩ := h.above
  have hfr : (U.setTop g).frames = (.java g :: mid) ++ below := by rw [State.frames_setTop' g h.top, hmid]; rfl
  obtain ⟨o, s₂, hsteps, -, hend, hq⟩ := Steps.callFree hM p X.admits X.cas X.clock (acts := []) hfr happ hPc trivial
  have hq' : vx_Q Qc XC mc ms free a (U.calling g mk a) o s₂ := hq
  rw [State.frames_setTop' g h.top] at hend
  obtain ⟨g₀, hg0⟩ := Option.isSome_iff_exists.mp h.top
  obtain ⟨r, hr⟩ := State.topJava?_eq_some.mp hg0
  have hr' : (({ U with heap := s₂.heap, slotsUsed := s₂.slotsUsed } : State).setVm s₂.vm).frames = .java g₀ :: r := hr
  rcases hq' with ⟨hqc, L, hfe, hL⟩ | ⟨q, rfl, E, ce, L, hx, hce, hcv, hcl, hW₂, hsm, hL⟩
  · obtain ⟨⟨v, rfl⟩, hW₂, e2, q2, q3, q4, q5, q6⟩ := id hfe
    have e3 : s₂ = ({ (U.calling g mk a).setFrames s₂.frames with heap := s₂.heap, slotsUsed := s₂.slotsUsed } : State).setVm s₂.vm := by
      have : s₂ = ({ s₂ with vm := (U.calling g mk a).vm } : State).setVm s₂.vm := rfl
      rw [e2] at this
      exact this
    obtain ⟨c₂, i₂, len₂, hc₂, hd₂, hf₂⟩ := hend
    have hW' : U.WarmedH s₂.vm := hW₂
    have hcc : c₂ = c := by
      have h1 : s₂.code? g.method = U.code? g.method := by
        rw [State.code?_eq, State.code?_eq, hW'.alike.method?]
      exact Option.some.inj (hc₂.symm.trans (h1.trans h.code))
    subst hcc
    have hlen : len₂ = len := by rw [hdg] at hd₂; cases hd₂; rfl
    subst hlen
    have hs₂ : s₂ = (({ U with heap := s₂.heap, slotsUsed := s₂.slotsUsed } : State).setVm s₂.vm).setTop { g with pc := g.pc + len₂, stack := v.toList ++ g.stack } := by
      refine e3.trans ?_
      rw [hf₂, State.calling_eq h.top, State.setFrames_setFrames, State.setTop_of_frames _ hr', hr]
      rfl
    have hsame : U.sameButNew ({ U with heap := s₂.heap, slotsUsed := s₂.slotsUsed } : State) L mc ms := by
      refine ⟨?_, q2, q3, q4, q5, q6⟩
      obtain ⟨t, ht, -⟩ := State.frames_cons hr
      show ({ U with heap := s₂.heap, slotsUsed := s₂.slotsUsed } : State) = { U.setFrames U.frames with heap := s₂.heap, slotsUsed := s₂.slotsUsed }
      rw [State.setFrames_self ht]
    subst hg
    refine Or.inl ⟨v, ⟨(({ U with heap := s₂.heap, slotsUsed := s₂.slotsUsed } : State).setVm s₂.vm), Ls ++ L, c0 + mc, s0 + ms⟩,
      ⟨X.admits, X.cas, X.clock, X.frames, X.room, X.hears, X.method, X.code, (X.here.setHeapUsed s₂.heap s₂.slotsUsed).setVm hW'.alike, X.tail, State.WarmedH.trans X.warmed hW', X.limits, X.bytes, X.same.trans (hsame.setVm s.vm)⟩,
      ⟨g, mk, s₂, L, rfl, rfl, hqc, rfl, hL, rfl, rfl⟩, ?_⟩
    show Steps p.tables e below _ ((({ U with heap := s₂.heap, slotsUsed := s₂.slotsUsed } : State).setVm s₂.vm).setTop { g with pc := g.pc + len₂, stack := v.toList ++ g.stack })
    rw [← hs₂]
    exact hsteps
  · obtain ⟨e2, q2, q3, q4, q5, q6⟩ := id hsm
    have e3 : s₂ = ({ (U.calling g mk a).setFrames s₂.frames with heap := s₂.heap, slotsUsed := s₂.slotsUsed } : State).setVm s₂.vm := by
      have : s₂ = ({ s₂ with vm := (U.calling g mk a).vm } : State).setVm s₂.vm := rfl
      rw [e2] at this
      exact this
    have hf₂ : s₂.frames = .throwing q :: .java g :: U.frames.tail := hend
    have hW' : U.WarmedH s₂.vm := hW₂
    have hs₂ : s₂ = ((({ U with heap := s₂.heap, slotsUsed := s₂.slotsUsed } : State).setVm s₂.vm).setTop g).pushFrame (.throwing q) := by
      refine e3.trans ?_
      rw [hf₂, State.calling_eq h.top, State.setFrames_setFrames, State.pushFrame, State.frames_setTop _ hr', State.setTop_of_frames _ hr', State.setFrames_setFrames, hr]
      rfl
    have hsame : U.sameButNew ({ U with heap := s₂.heap, slotsUsed := s₂.slotsUsed } : State) L mc ms := by
      refine ⟨?_, q2, q3, q4, q5, q6⟩
      obtain ⟨t, ht, -⟩ := State.frames_cons hr
      show ({ U with heap := s₂.heap, slotsUsed := s₂.slotsUsed } : State) = { U.setFrames U.frames with heap := s₂.heap, slotsUsed := s₂.slotsUsed }
      rw [State.setFrames_self ht]
    subst hg
    refine Or.inr ⟨q, ⟨(({ U with heap := s₂.heap, slotsUsed := s₂.slotsUsed } : State).setVm s₂.vm), Ls ++ L, c0 + mc, s0 + ms⟩,
      ⟨X.admits, X.cas, X.clock, X.frames, X.room, X.hears, X.method, X.code, (X.here.setHeapUsed s₂.heap s₂.slotsUsed).setVm hW'.alike, X.tail, State.WarmedH.trans X.warmed hW', X.limits, X.bytes, X.same.trans (hsame.setVm s.vm)⟩,
      ⟨g, mk, s₂, L, E, ce, rfl, rfl, hx, hce, hcv, hcl, rfl, hL, rfl, rfl⟩, ?_⟩
    show Steps p.tables e below _ (((({ U with heap := s₂.heap, slotsUsed := s₂.slotsUsed } : State).setVm s₂.vm).setTop g).pushFrame (.throwing q))
    rw [← hs₂]
    exact hsteps
end
variable {p : Program} {l : Launch} {e : Env} {R : Room} {s : State} {m : MethodId} {args : Array Value} {below : List Frame} {meth : Method} {c : Code} {T : State} {H : Heap} {locs : List Loc} {cells slots : Nat}
theorem vx_callVX (X : Stand p l e R s m args below meth c T locs cells slots) (hexec : p.tables.exec = Jvm.exec) {own C : String} {index : Nat} {y : MethodName} {bytes : ByteArray} {maxL : Nat} {ret : Option FieldType} {hh : List (Nat × Nat × Nat × Nat)}
    (hown : s.vm.findClass own = some m.cls) (hlink : (Cond.methodLink own index y).before args s = true) (hinst : (Cond.instanceMethod y).before args s = true) (hsel : (Cond.selects C y y).before args s = true)
    (hcode : (Cond.codeWith y bytes maxL ret hh).before args s = true) (hy : y.cls ≠ "java/lang/invoke/MethodHandle" ∧ y.cls ≠ "java/lang/invoke/VarHandle")
    {W9 : Nat} {Pre : Pt → Array Value → Prop} {Post : Pt → Array Value → Option Value → Pt → Prop} {PostX : Pt → Array Value → Addr → Pt → Prop} (hK : vx_Back l R p e below s args y 3 W9 Pre Post PostX)
    {b : Addr} {cellB : Cell} (hcell : T.heap[b]? = some cellB) (hobj : cellB.vm.isStatics = false) (hcls : s.vm.findClass C = some cellB.cls)
    {g : JFrame} (hg : g.method = m) (hsize : g.locals.size = c.maxLocals) {argsL rest : List Value} (hlen : ∀ sig, parseMethodDescriptor y.desc = some sig → argsL.length = sig.parameters.length)
    (hstack : g.stack = argsL.reverse ++ .ref b :: rest) (hW : 2 * g.monitorRoom + (rest.map fun v => v.category).sum ≤ W9) (hdg : decode c.code g.pc = .ok (.invokevirtual index, 3))
    (hpre : ∀ vm₁, s.WarmedH vm₁ → Pre ⟨T.setVm vm₁, locs, cells, slots⟩ (Value.ref b :: argsL).toArray) :
    (∃ (v : Option Value) (vm₁ : Vm) (B : Pt), s.WarmedH vm₁ ∧ Stand p l e R s m args below meth c B.U B.locs B.cells B.slots ∧ Post ⟨T.setVm vm₁, locs, cells, slots⟩ (Value.ref b :: argsL).toArray v B ∧
      ∀ target, Steps p.tables e below (B.U.setTop { g with pc := g.pc + 3, stack := v.toList ++ rest }) target → Steps p.tables e below (T.setTop g) target) ∨
    (∃ (q : Addr) (vm₁ : Vm) (B : Pt), s.WarmedH vm₁ ∧ Stand p l e R s m args below meth c B.U B.locs B.cells B.slots ∧ PostX ⟨T.setVm vm₁, locs, cells, slots⟩ (Value.ref b :: argsL).toArray q B ∧
      Steps p.tables e below (T.setTop g) ((B.U.setTop { g with stack := rest }).pushFrame (.throwing q))) := by
  obtain ⟨mk, methM, hnamed, hmethM, hstM, habM⟩ := Cond.instanceMethod_spec hinst
  obtain ⟨m8, methM', cM, hn8, hmethM', -, -, -, -, -, -, hsigM⟩ := Cond.codeWith_spec hcode
  cases Option.some.inj (hn8.symm.trans hnamed)
  cases hmethM.symm.trans hmethM'
  obtain ⟨c2, r2, m2, q1, q2, q3, q4, kP, hkP, hkPi⟩ := Cond.selects_spec hsel
  cases hcls.symm.trans q1
  cases (State.methodFound?_of_named hnamed hy).symm.trans q2
  cases hnamed.symm.trans q3
  have hselP : selectMethod e.platform s.vm cellB.cls mk = .method mk := by rw [Launch.admits_selectMethod X.admits]; exact q4
  obtain ⟨vm₁, X₁, hstep₁⟩ := X.invokevirtual hexec hown hlink hnamed hmethM hstM hkP hkPi hy (a := b) (cell := cellB) hcell
    (fun z h => by rw [h] at hobj; cases hobj) hselP hmethM habM hkP hkPi (g := g) hg (argsL := argsL) (rest := rest) (hlen _ hsigM) hstack hdg
  rcases hK m meth c ⟨T.setVm vm₁, locs, cells, slots⟩ { g with stack := rest } (.invokevirtual index) mk (Value.ref b :: argsL).toArray X₁ hg hsize hdg hW (X₁.named hnamed) (hpre vm₁ X₁.warmed) with ⟨v, B, X', hpost, hsteps⟩ | ⟨q, B, X', hpost, hsteps⟩
  · exact Or.inl ⟨v, vm₁, B, X₁.warmed, X', hpost, fun target h => hstep₁ _ fun acts => by rw [doInvoke_state]; exact hsteps.trans h⟩
  · exact Or.inr ⟨q, vm₁, B, X₁.warmed, X', hpost, hstep₁ _ fun acts => by rw [doInvoke_state]; exact hsteps⟩
theorem vx_callSX (X : Stand p l e R s m args below meth c T locs cells slots) (hexec : p.tables.exec = Jvm.exec) {own : String} {index : Nat} {y : MethodName} {bytes : ByteArray} {maxL : Nat} {ret : Option FieldType} {hh : List (Nat × Nat × Nat × Nat)}
    (hown : s.vm.findClass own = some m.cls) (hlink : (Cond.methodLink own index y).before args s = true) (hstat : (Cond.static y).before args s = true) (hinit : (Cond.initialized y.cls).before args s = true)
    (hcode : (Cond.codeWith y bytes maxL ret hh).before args s = true) (hy : y.cls ≠ "java/lang/invoke/MethodHandle" ∧ y.cls ≠ "java/lang/invoke/VarHandle")
    {W9 : Nat} {Pre : Pt → Array Value → Prop} {Post : Pt → Array Value → Option Value → Pt → Prop} {PostX : Pt → Array Value → Addr → Pt → Prop} (hK : vx_Back l R p e below s args y 3 W9 Pre Post PostX)
    {g : JFrame} (hg : g.method = m) (hsize : g.locals.size = c.maxLocals) {argsL rest : List Value} (hlen : ∀ sig, parseMethodDescriptor y.desc = some sig → argsL.length = sig.parameters.length)
    (hstack : g.stack = argsL.reverse ++ rest) (hW : 2 * g.monitorRoom + (rest.map fun v => v.category).sum ≤ W9) (hdg : decode c.code g.pc = .ok (.invokestatic index, 3))
    (hpre : ∀ vm₁, s.WarmedH vm₁ → Pre ⟨T.setVm vm₁, locs, cells, slots⟩ argsL.toArray) :
    (∃ (v : Option Value) (vm₁ : Vm) (B : Pt), s.WarmedH vm₁ ∧ Stand p l e R s m args below meth c B.U B.locs B.cells B.slots ∧ Post ⟨T.setVm vm₁, locs, cells, slots⟩ argsL.toArray v B ∧
      ∀ target, Steps p.tables e below (B.U.setTop { g with pc := g.pc + 3, stack := v.toList ++ rest }) target → Steps p.tables e below (T.setTop g) target) ∨
    (∃ (q : Addr) (vm₁ : Vm) (B : Pt), s.WarmedH vm₁ ∧ Stand p l e R s m args below meth c B.U B.locs B.cells B.slots ∧ PostX ⟨T.setVm vm₁, locs, cells, slots⟩ argsL.toArray q B ∧
      Steps p.tables e below (T.setTop g) ((B.U.setTop { g with stack := rest }).pushFrame (.throwing q))) := by
  obtain ⟨mk, methM, cM, hnamed, hmethM, -, -, -, -, -, -, hsigM⟩ := Cond.codeWith_spec hcode
  have hstatic : methM.isStatic = true := Cond.static_spec hnamed hmethM hstat
  obtain ⟨kP, hkP, -⟩ := className_of_methodNamed hnamed
  have hinitP : kP.init = .initialized := Cond.initialized_spec (findClass_of_methodNamed hnamed) hkP hinit
  obtain ⟨vm₁, X₁, hstep₁⟩ := X.invokestatic hexec hown hlink hnamed hmethM hstatic hkP hinitP hy (g := g) hg (argsL := argsL) (rest := rest) (hlen _ hsigM) hstack hdg
  rcases hK m meth c ⟨T.setVm vm₁, locs, cells, slots⟩ { g with stack := rest } (.invokestatic index) mk argsL.toArray X₁ hg hsize hdg hW (X₁.named hnamed) (hpre vm₁ X₁.warmed) with ⟨v, B, X', hpost, hsteps⟩ | ⟨q, B, X', hpost, hsteps⟩
  · exact Or.inl ⟨v, vm₁, B, X₁.warmed, X', hpost, fun target h => hstep₁ _ fun acts => by rw [doInvoke_state]; exact hsteps.trans h⟩
  · exact Or.inr ⟨q, vm₁, B, X₁.warmed, X', hpost, hstep₁ _ fun acts => by rw [doInvoke_state]; exact hsteps⟩
theorem vx_callVW (X : Stand p l e R s m args below meth c T locs cells slots) (hexec : p.tables.exec = Jvm.exec) {own C : String} {index : Nat} {y : MethodName} {bytes : ByteArray} {maxL : Nat} {ret : Option FieldType} {hh : List (Nat × Nat × Nat × Nat)}
    (hown : s.vm.findClass own = some m.cls) (hlink : (Cond.methodLink own index y).before args s = true) (hinst : (Cond.instanceMethod y).before args s = true) (hsel : (Cond.selects C y y).before args s = true)
    (hcode : (Cond.codeWith y bytes maxL ret hh).before args s = true) (hy : y.cls ≠ "java/lang/invoke/MethodHandle" ∧ y.cls ≠ "java/lang/invoke/VarHandle")
    {W9 : Nat} {Pre : Pt → Array Value → Prop} {Post : Pt → Array Value → Option Value → Pt → Prop} (hK : Back l R p e below s args y 3 W9 Pre Post)
    {b : Addr} {cellB : Cell} (hcell : T.heap[b]? = some cellB) (hobj : cellB.vm.isStatics = false) (hcls : s.vm.findClass C = some cellB.cls)
    {g : JFrame} (hg : g.method = m) (hsize : g.locals.size = c.maxLocals) {argsL rest : List Value} (hlen : ∀ sig, parseMethodDescriptor y.desc = some sig → argsL.length = sig.parameters.length)
    (hstack : g.stack = argsL.reverse ++ .ref b :: rest) (hW : 2 * g.monitorRoom + (rest.map fun v => v.category).sum ≤ W9) (hdg : decode c.code g.pc = .ok (.invokevirtual index, 3))
    (hpre : ∀ vm₁, s.WarmedH vm₁ → Pre ⟨T.setVm vm₁, locs, cells, slots⟩ (Value.ref b :: argsL).toArray) :
    ∃ (v : Option Value) (vm₁ : Vm) (B : Pt), s.WarmedH vm₁ ∧ Stand p l e R s m args below meth c B.U B.locs B.cells B.slots ∧ Post ⟨T.setVm vm₁, locs, cells, slots⟩ (Value.ref b :: argsL).toArray v B ∧
      ∀ target, Steps p.tables e below (B.U.setTop { g with pc := g.pc + 3, stack := v.toList ++ rest }) target → Steps p.tables e below (T.setTop g) target := by
  obtain ⟨mk, methM, hnamed, hmethM, hstM, habM⟩ := Cond.instanceMethod_spec hinst
  obtain ⟨m8, methM', cM, hn8, hmethM', -, -, -, -, -, -, hsigM⟩ := Cond.codeWith_spec hcode
  cases Option.some.inj (hn8.symm.trans hnamed)
  cases hmethM.symm.trans hmethM'
  obtain ⟨c2, r2, m2, q1, q2, q3, q4, kP, hkP, hkPi⟩ := Cond.selects_spec hsel
  cases hcls.symm.trans q1
  cases (State.methodFound?_of_named hnamed hy).symm.trans q2
  cases hnamed.symm.trans q3
  have hselP : selectMethod e.platform s.vm cellB.cls mk = .method mk := by rw [Launch.admits_selectMethod X.admits]; exact q4
  obtain ⟨vm₁, X₁, hstep₁⟩ := X.invokevirtual hexec hown hlink hnamed hmethM hstM hkP hkPi hy (a := b) (cell := cellB) hcell
    (fun z h => by rw [h] at hobj; cases hobj) hselP hmethM habM hkP hkPi (g := g) hg (argsL := argsL) (rest := rest) (hlen _ hsigM) hstack hdg
  obtain ⟨v, B, X', hpost, hsteps⟩ := hK m meth c ⟨T.setVm vm₁, locs, cells, slots⟩ { g with stack := rest } (.invokevirtual index) mk (Value.ref b :: argsL).toArray X₁ hg hsize hdg hW (X₁.named hnamed) (hpre vm₁ X₁.warmed)
  exact ⟨v, vm₁, B, X₁.warmed, X', hpost, fun target h => hstep₁ _ fun acts => by rw [doInvoke_state]; exact hsteps.trans h⟩
abbrev vx_CVW (R : Room) (s : State) (args : Array Value) (own C : String) (index : Nat) (y : MethodName) (bytes : ByteArray) (maxL : Nat) (ret : Option FieldType) (hh : List (Nat × Nat × Nat × Nat)) (ws : List Cond) (rm : Room) (mc ms n : Nat) : Prop :=
  (rm.cells = mc ∧ rm.slots = ms ∧ rm.frames + 1 ≤ R.frames ∧ 8 + (maxL + 11) + rm.locals ≤ R.locals ∧ (∀ w ∈ ws, ∀ (a' : Array Value) (U : State), s.WarmedH U.vm → w.before a' U = true) ∧ Cond.codeWith y bytes maxL ret hh ∈ ws) ∧
  (Cond.codeWith y bytes maxL ret hh).before args s = true ∧ (Cond.initialized y.cls).before args s = true ∧ (y.cls ≠ "java/lang/invoke/MethodHandle" ∧ y.cls ≠ "java/lang/invoke/VarHandle") ∧
  (∀ sig, parseMethodDescriptor y.desc = some sig → n = sig.parameters.length) ∧ (Cond.methodLink own index y).before args s = true ∧ (Cond.instanceMethod y).before args s = true ∧ (Cond.selects C y y).before args s = true
theorem vx_cwVW {own C : String} {index maxL mc ms : Nat} {y : MethodName} {bytes : ByteArray} {ret : Option FieldType} {hh : List (Nat × Nat × Nat × Nat)} {Ts ws ws' : List Cond} {rm : Room} (n : Nat) (ht : ∀ w ∈ Ts, w.before args s = true) (hT : GoodIn Ts (wsV own index C y ws)) (hw : ws = Cond.codeWith y bytes maxL ret hh :: ws') (hrc : rm.cells = mc) (hrs : rm.slots = ms)
    (hd : y.cls = C ∧ y.cls ≠ "java/lang/invoke/MethodHandle" ∧ y.cls ≠ "java/lang/invoke/VarHandle" ∧ (parseMethodDescriptor y.desc).map (fun d => d.parameters.length) = some n) (hR : rm.frames + 1 ≤ R.frames ∧ 8 + (maxL + 11) + rm.locals ≤ R.locals) :
    vx_CVW R s args own C index y bytes maxL ret hh ws rm mc ms n := by
  obtain ⟨hC, hd⟩ := hd
  subst hC
  have ok : ∀ w ∈ wsV own index y.cls y ws, w.before args s = true := fun w h => ht w (hT w h).1
  have hG : GoodIn Ts ws := fun w h => hT w (by unfold wsV; exact List.mem_append_right _ h)
  have hc : Cond.codeWith y bytes maxL ret hh ∈ ws := by rw [hw]; exact List.mem_cons_self
  refine ⟨⟨hrc, hrs, hR.1, hR.2, pay_in ht hG, hc⟩, ht _ (hG _ hc).1, ok _ (by simp [wsV]), ⟨hd.1, hd.2.1⟩, fun sig h => ?_, ok _ (by simp [wsV]), ok _ (by simp [wsV]), ok _ (by simp [wsV])⟩
  have h2 := hd.2.2
  rw [h] at h2
  exact (Option.some.inj h2).symm
theorem vx_runVW {y : MethodName} {bytes cc : ByteArray} {maxL nL mc ms n index : Nat} {ret : Option FieldType} {hh : List (Nat × Nat × Nat × Nat)} {ws : List Cond} {rm : Room} {Pc : Array Value → State → Prop} {Qc : Array Value → State → Outcome → State → Prop} {free : Addr → Prop} {Ts : List Cond} {own C : String} {b : Addr} {As rest : List Value} {g : JFrame}
    (S : CallFix p m c cc nL s args Ts own) (hM : Met l y ws rm Pc Qc mc ms free) (cw : vx_CVW R s args own C index y bytes maxL ret hh ws rm mc ms n) (hp : PreV s H C b Pc As)
    (hg : g.method = m) (hn : As.length = n) (hsize : g.locals.size = nL) (hstack : g.stack = As.reverse ++ .ref b :: rest) (hW : 2 * g.monitorRoom + (rest.map fun v => v.category).sum ≤ 8) (hdg : decode cc g.pc = .ok (.invokevirtual index, 3)) (hf : cells + mc ≤ R.cells ∧ slots + ms ≤ R.slots) :
    va_Run p l e R s m args below meth c H locs cells slots mc ms g rest (Qc (Value.ref b :: As).toArray) free := by
  obtain ⟨⟨hrc, hrs, hfr, hlo, hws, hcw⟩, hcode, hini, hy, hlen, hl, hin, hse⟩ := cw
  have hK : Back l R p e below s args y 3 8 (PreOf R mc ms Pc) (PostOf Qc mc ms free) := va_backW (hh := hh) (bytes := bytes) (maxL := maxL) (ret := ret) hM hp.1 hrc hrs hfr hlo hws hcw (fun a' U hW => word_at hW (Or.inl (by first | rfl | simp [Cond.onTables, Cond.keeps, Cond.steady])) hini)
  obtain ⟨hx, hb, hml, ho, -⟩ := S
  obtain ⟨-, ⟨cellB, hcB, hoB, hclB⟩, hPc⟩ := hp
  intro T hT X
  obtain ⟨v, vm₁, ⟨U', l2, c2, s2⟩, hW₁, X', ⟨g', mk, t, L, e1, e2, hq, h1, hL, h2, h3⟩, st⟩ := vx_callVW X hx (C := C) (hh := hh) (bytes := bytes) (maxL := maxL) (ret := ret) ho hl hin hse hcode hy hK (by rw [hT]; exact hcB) hoB hclB hg (hsize.trans hml.symm) (argsL := As) (rest := rest) (fun sig h => hn.trans (hlen sig h)) hstack hW (by rw [hb]; exact hdg)
    (fun vm₁ hW₁ => ⟨hf.1, hf.2, hPc (T.setVm vm₁) hT hW₁⟩)
  dsimp only [Pt.U, Pt.locs, Pt.cells, Pt.slots] at X' e1 e2 h1 h2 h3 st
  subst h1; subst h2; subst h3
  exact ⟨v, (T.setVm vm₁).calling g' mk (Value.ref b :: As).toArray, t, U', L, hT, X', hL, e1, e2, hq, st⟩
section
variable {y : MethodName} {bytes cc : ByteArray} {maxL nL mc ms n index : Nat} {ret : Option FieldType} {ws : List Cond} {rm : Room} {Pc : Array Value → State → Prop} {Qc : Array Value → State → Outcome → State → Prop} {XC : String → State → State → Prop} {free : Addr → Prop} {Ts : List Cond} {own C : String} {b : Addr} {As rest : List Value} {g : JFrame}
theorem vx_runVX {hh : List (Nat × Nat × Nat × Nat)} (S : CallFix p m c cc nL s args Ts own) (hM : vx_Met l y ws rm Pc Qc XC mc ms free) (cw : vx_CVW R s args own C index y bytes maxL ret hh ws rm mc ms n) (hp : PreV s H C b Pc As)
    (hg : g.method = m) (hn : As.length = n) (hsize : g.locals.size = nL) (hstack : g.stack = As.reverse ++ .ref b :: rest) (hW : 2 * g.monitorRoom + (rest.map fun v => v.category).sum ≤ 8) (hdg : decode cc g.pc = .ok (.invokevirtual index, 3)) (hf : cells + mc ≤ R.cells ∧ slots + ms ≤ R.slots) :
    vx_Run p l e R s m args below meth c H locs cells slots mc ms g rest (Qc (Value.ref b :: As).toArray) XC free := by
  obtain ⟨⟨hrc, hrs, hfr, hlo, hws, hcw⟩, hcode, hini, hy, hlen, hl, hin, hse⟩ := cw
  have hK : vx_Back l R p e below s args y 3 8 (PreOf R mc ms Pc) (PostOf Qc mc ms free) (vx_Post XC mc ms free) := vx_backW (hh := hh) (bytes := bytes) (maxL := maxL) (ret := ret) hM hp.1 hrc hrs hfr hlo hws hcw (fun a' U hW => word_at hW (Or.inl (by first | rfl | simp [Cond.onTables, Cond.keeps, Cond.steady])) hini)
  obtain ⟨hx, hb, hml, ho, -⟩ := S
  obtain ⟨-, ⟨cellB, hcB, hoB, hclB⟩, hPc⟩ := hp
  intro T hT X
  rcases vx_callVX X hx (C := C) (hh := hh) (bytes := bytes) (maxL := maxL) (ret := ret) ho hl hin hse hcode hy hK (by rw [hT]; exact hcB) hoB hclB hg (hsize.trans hml.symm) (argsL := As) (rest := rest) (fun sig h => hn.trans (hlen sig h)) hstack hW (by rw [hb]; exact hdg)
    (fun vm₁ hW₁ => ⟨hf.1, hf.2, hPc (T.setVm vm₁) hT hW₁⟩) with ⟨v, vm₁, ⟨U', l2, c2, s2⟩, hW₁, X', ⟨g', mk, t, L, e1, e2, hq, h1, hL, h2, h3⟩, st⟩ | ⟨q, vm₁, ⟨U', l2, c2, s2⟩, hW₁, X', ⟨g', mk, t, L, E, ce, e1, e2, hq, hce, hcv, hcl, h1, hL, h2, h3⟩, st⟩
  · dsimp only [Pt.U, Pt.locs, Pt.cells, Pt.slots] at X' e1 e2 h1 h2 h3 st
    subst h1; subst h2; subst h3
    exact Or.inl ⟨v, (T.setVm vm₁).calling g' mk (Value.ref b :: As).toArray, t, U', L, hT, X', hL, e1, e2, hq, st⟩
  · dsimp only [Pt.U, Pt.locs, Pt.cells, Pt.slots] at X' e1 e2 h1 h2 h3 st hcl
    subst h1; subst h2; subst h3
    exact Or.inr ⟨q, (T.setVm vm₁).calling g' mk (Value.ref b :: As).toArray, t, U', L, E, ce, hT, X', hL, e1, e2, hq, hce, hcv, vx_cls hW₁ hcl, st⟩
theorem vx_runSX {hh : List (Nat × Nat × Nat × Nat)} (S : CallFix p m c cc nL s args Ts own) (hM : vx_Met l y ws rm Pc Qc XC mc ms free) (cw : vx_CSW R s args own index y bytes maxL ret hh ws rm mc ms n) (hp : PreS s H Pc As)
    (hg : g.method = m) (hn : As.length = n) (hsize : g.locals.size = nL) (hstack : g.stack = As.reverse ++ rest) (hW : 2 * g.monitorRoom + (rest.map fun v => v.category).sum ≤ 8) (hdg : decode cc g.pc = .ok (.invokestatic index, 3)) (hf : cells + mc ≤ R.cells ∧ slots + ms ≤ R.slots) :
    vx_Run p l e R s m args below meth c H locs cells slots mc ms g rest (Qc As.toArray) XC free := by
  obtain ⟨⟨hrc, hrs, hfr, hlo, hws, hcw⟩, hcode, hini, hy, hlen, hl, hstt⟩ := cw
  have hK : vx_Back l R p e below s args y 3 8 (PreOf R mc ms Pc) (PostOf Qc mc ms free) (vx_Post XC mc ms free) := vx_backW (hh := hh) (bytes := bytes) (maxL := maxL) (ret := ret) hM hp.1 hrc hrs hfr hlo hws hcw (fun a' U hW => word_at hW (Or.inl (by first | rfl | simp [Cond.onTables, Cond.keeps, Cond.steady])) hini)
  obtain ⟨hx, hb, hml, ho, -⟩ := S
  intro T hT X
  rcases vx_callSX X hx (hh := hh) (bytes := bytes) (maxL := maxL) (ret := ret) ho hl hstt hini hcode hy hK hg (hsize.trans hml.symm) (argsL := As) (rest := rest) (fun sig h => hn.trans (hlen sig h)) hstack hW (by rw [hb]; exact hdg)
    (fun vm₁ hW₁ => ⟨hf.1, hf.2, hp.2 (T.setVm vm₁) hT hW₁⟩) with ⟨v, vm₁, ⟨U', l2, c2, s2⟩, hW₁, X', ⟨g', mk, t, L, e1, e2, hq, h1, hL, h2, h3⟩, st⟩ | ⟨q, vm₁, ⟨U', l2, c2, s2⟩, hW₁, X', ⟨g', mk, t, L, E, ce, e1, e2, hq, hce, hcv, hcl, h1, hL, h2, h3⟩, st⟩
  · dsimp only [Pt.U, Pt.locs, Pt.cells, Pt.slots] at X' e1 e2 h1 h2 h3 st
    subst h1; subst h2; subst h3
    exact Or.inl ⟨v, (T.setVm vm₁).calling g' mk As.toArray, t, U', L, hT, X', hL, e1, e2, hq, st⟩
  · dsimp only [Pt.U, Pt.locs, Pt.cells, Pt.slots] at X' e1 e2 h1 h2 h3 st hcl
    subst h1; subst h2; subst h3
    exact Or.inr ⟨q, (T.setVm vm₁).calling g' mk As.toArray, t, U', L, E, ce, hT, X', hL, e1, e2, hq, hce, hcv, vx_cls hW₁ hcl, st⟩
end
end VXH
theorem vx_ofWH {l : Launch} {y : MethodName} {ws ws' : List Cond} {rm : Room} {Pc : Array Value → State → Prop} {Qc : Array Value → State → Outcome → State → Prop} {XC : String → State → State → Prop} {mc ms : Nat} {free : Addr → Prop} {cc : ByteArray} {maxL : Nat} {ret : Option FieldType} {hh : List (Nat × Nat × Nat × Nat)}
    (hy : plainName y.cls = true) (hw : ws = Cond.codeWith y cc maxL ret hh :: ws')
    (body : ∀ p e s m args below meth c s₁, BodyLoose p l y (headSpec ws rm) cc maxL ret e s m args below meth c s₁ → c.maxLocals = maxL → Pc args s →
      W p l e (headSpec ws rm).room s m args below meth c s.heap [] 0 0 (vx_MQ below Qc XC args s mc ms free) (entryFrame m args maxL)) : vx_Met l y ws rm Pc Qc XC mc ms free := by
  refine MetFree.of_bodyS (code := cc) (maxLocals := maxL) (ret := ret) hy ?_ ?_
  · intro args s m h hn
    obtain ⟨m9, meth, c, hn9, h1, h2, h3, h4, -, h5, h6, -⟩ := Cond.codeWith_spec (atoms_spec (ws := ws) h _ (by rw [hw]; exact List.mem_cons_self))
    cases hn.symm.trans hn9
    exact ⟨meth, c, h1, h2, h3, h4, h5, h6⟩
  · intro p e s m args below meth c s₁ B hml hP _
    have hh0 : s₁.heap = s.heap := by rw [B.state]; rfl
    obtain ⟨t, a1, o, b1, b2, b3⟩ := body p e s m args below meth c s₁ B hml hP s₁ hh0 (Stand.of_body B)
    exact ⟨t, o, a1, b1, b2, b3⟩
/-! ===== END ===== -/
end
section
def RX0 : String := "LiftScheduler$1"
def TX0 : u_T := fun k => match k with
  | _ => ("", "", "", false)
def tyX0 : Nat → FieldType := fun k => match k with
  | _ => .int
abbrev wsX00 : List Cond := u_ws RX0 TX0 0
theorem nmX0 : ∀ a, a < 0 → ∀ b, b < 0 → a ≠ b → (TX0 a).2.1 ≠ (TX0 b).2.1 := by decide +kernel
theorem tyX0_ok : ∀ k, k < 0 → parseFieldDescriptor (TX0 k).2.2.1 = some (tyX0 k) := by decide +kernel
def RX1 : String := "LiftScheduler$Kind"
def TX1 : u_T := fun k => match k with
  | _ => ("", "", "", false)
def tyX1 : Nat → FieldType := fun k => match k with
  | _ => .int
abbrev wsX10 : List Cond := u_ws RX1 TX1 0
theorem nmX1 : ∀ a, a < 0 → ∀ b, b < 0 → a ≠ b → (TX1 a).2.1 ≠ (TX1 b).2.1 := by decide +kernel
theorem tyX1_ok : ∀ k, k < 0 → parseFieldDescriptor (TX1 k).2.2.1 = some (tyX1 k) := by decide +kernel
abbrev cX1_isCounter : ByteArray := prog_3_method_4_code
def yX1_isCounter : MethodName := ⟨RX1, "isCounter", "()Z"⟩
def RX2 : String := "LiftScheduler$Script"
def TX2 : u_T := fun k => match k with
  | 0 => ("LiftScheduler$Script", "kinds", "[LLiftScheduler$Kind;", true)
  | 1 => ("LiftScheduler$Script", "starts", "[I", true)
  | 2 => ("LiftScheduler$Script", "values", "[I", true)
  | 3 => ("LiftScheduler$Script", "tokens", "I", false)
  | 4 => ("LiftScheduler$Script", "at", "I", false)
  | 5 => ("LiftScheduler$Script", "simulation", "LLiftScheduler$Simulation;", false)
  | 6 => ("LiftScheduler$Script", "executed", "I", false)
  | 7 => ("LiftScheduler$Script", "errorCode", "I", false)
  | _ => ("LiftScheduler$Script", "errorPosition", "I", false)
def tyX2 : Nat → FieldType := fun k => match k with
  | 0 => .array (.object "LiftScheduler$Kind")
  | 1 => .array .int
  | 2 => .array .int
  | 3 => .int
  | 4 => .int
  | 5 => .object "LiftScheduler$Simulation"
  | 6 => .int
  | 7 => .int
  | _ => .int
abbrev wsX20 : List Cond := u_ws RX2 TX2 9
theorem nmX2 : ∀ a, a < 9 → ∀ b, b < 9 → a ≠ b → (TX2 a).2.1 ≠ (TX2 b).2.1 := by decide +kernel
theorem tyX2_ok : ∀ k, k < 9 → parseFieldDescriptor (TX2 k).2.2.1 = some (tyX2 k) := by decide +kernel
abbrev cX2_init : ByteArray := prog_4_method_1_code
def yX2_init : MethodName := ⟨RX2, "<init>", "()V"⟩
abbrev cX2_readTokens : ByteArray := prog_4_method_2_code
def yX2_readTokens : MethodName := ⟨RX2, "readTokens", "([BI)V"⟩
abbrev cX2_addToken : ByteArray := prog_4_method_3_code
def yX2_addToken : MethodName := ⟨RX2, "addToken", "(LLiftScheduler$Kind;II)V"⟩
abbrev cX2_isSpace : ByteArray := prog_4_method_4_code
def yX2_isSpace : MethodName := ⟨RX2, "isSpace", "(I)Z"⟩
abbrev cX2_isDigit : ByteArray := prog_4_method_5_code
def yX2_isDigit : MethodName := ⟨RX2, "isDigit", "(I)Z"⟩
abbrev cX2_isLetter : ByteArray := prog_4_method_6_code
def yX2_isLetter : MethodName := ⟨RX2, "isLetter", "(I)Z"⟩
abbrev cX2_belongTogether : ByteArray := prog_4_method_7_code
def yX2_belongTogether : MethodName := ⟨RX2, "belongTogether", "(II)Z"⟩
abbrev cX2_numberOf : ByteArray := prog_4_method_8_code
def yX2_numberOf : MethodName := ⟨RX2, "numberOf", "([BII)I"⟩
abbrev cX2_kindOf : ByteArray := prog_4_method_9_code
def yX2_kindOf : MethodName := ⟨RX2, "kindOf", "([BII)LLiftScheduler$Kind;"⟩
abbrev cX2_isText : ByteArray := prog_4_method_10_code
def yX2_isText : MethodName := ⟨RX2, "isText", "(Ljava/lang/String;[BII)Z"⟩
abbrev cX2_performHeader : ByteArray := prog_4_method_11_code
def yX2_performHeader : MethodName := ⟨RX2, "performHeader", "(LLiftScheduler$Simulation;)Z"⟩
abbrev cX2_performCommands : ByteArray := prog_4_method_12_code
def yX2_performCommands : MethodName := ⟨RX2, "performCommands", "(LLiftScheduler$Simulation;)Z"⟩
abbrev cX2_performRepeat : ByteArray := prog_4_method_13_code
def yX2_performRepeat : MethodName := ⟨RX2, "performRepeat", "()Z"⟩
abbrev cX2_performSimple : ByteArray := prog_4_method_14_code
def yX2_performSimple : MethodName := ⟨RX2, "performSimple", "()Z"⟩
abbrev cX2_performCall : ByteArray := prog_4_method_15_code
def yX2_performCall : MethodName := ⟨RX2, "performCall", "()Z"⟩
abbrev cX2_performRun : ByteArray := prog_4_method_16_code
def yX2_performRun : MethodName := ⟨RX2, "performRun", "()Z"⟩
abbrev cX2_performUntil : ByteArray := prog_4_method_17_code
def yX2_performUntil : MethodName := ⟨RX2, "performUntil", "()Z"⟩
abbrev cX2_performPolicy : ByteArray := prog_4_method_18_code
def yX2_performPolicy : MethodName := ⟨RX2, "performPolicy", "()Z"⟩
abbrev cX2_performCapacity : ByteArray := prog_4_method_19_code
def yX2_performCapacity : MethodName := ⟨RX2, "performCapacity", "()Z"⟩
abbrev cX2_performExpect : ByteArray := prog_4_method_20_code
def yX2_performExpect : MethodName := ⟨RX2, "performExpect", "()Z"⟩
abbrev cX2_count : ByteArray := prog_4_method_21_code
def yX2_count : MethodName := ⟨RX2, "count", "(LLiftScheduler$Kind;)I"⟩
abbrev cX2_take : ByteArray := prog_4_method_22_code
def yX2_take : MethodName := ⟨RX2, "take", "(LLiftScheduler$Kind;)Z"⟩
abbrev cX2_takeNumber : ByteArray := prog_4_method_23_code
def yX2_takeNumber : MethodName := ⟨RX2, "takeNumber", "(II)I"⟩
abbrev cX2_takePolicy : ByteArray := prog_4_method_24_code
def yX2_takePolicy : MethodName := ⟨RX2, "takePolicy", "()I"⟩
abbrev cX2_takeCounterAndValue : ByteArray := prog_4_method_25_code
def yX2_takeCounterAndValue : MethodName := ⟨RX2, "takeCounterAndValue", "()I"⟩
abbrev cX2_fail : ByteArray := prog_4_method_26_code
def yX2_fail : MethodName := ⟨RX2, "fail", "(II)Z"⟩
def RX3 : String := "LiftScheduler$Simulation"
def TX3 : u_T := fun k => match k with
  | 0 => ("LiftScheduler$Simulation", "floors", "I", false)
  | 1 => ("LiftScheduler$Simulation", "capacity", "I", false)
  | 2 => ("LiftScheduler$Simulation", "policy", "I", false)
  | 3 => ("LiftScheduler$Simulation", "time", "I", false)
  | 4 => ("LiftScheduler$Simulation", "floor", "I", false)
  | 5 => ("LiftScheduler$Simulation", "upward", "Z", false)
  | 6 => ("LiftScheduler$Simulation", "distance", "I", false)
  | 7 => ("LiftScheduler$Simulation", "doorTicks", "I", false)
  | 8 => ("LiftScheduler$Simulation", "idleTicks", "I", false)
  | 9 => ("LiftScheduler$Simulation", "reversals", "I", false)
  | 10 => ("LiftScheduler$Simulation", "count", "I", false)
  | 11 => ("LiftScheduler$Simulation", "riding", "I", false)
  | 12 => ("LiftScheduler$Simulation", "done", "I", false)
  | 13 => ("LiftScheduler$Simulation", "origin", "[I", true)
  | 14 => ("LiftScheduler$Simulation", "destination", "[I", true)
  | 15 => ("LiftScheduler$Simulation", "arrival", "[I", true)
  | 16 => ("LiftScheduler$Simulation", "boarded", "[I", true)
  | 17 => ("LiftScheduler$Simulation", "left", "[I", true)
  | _ => ("LiftScheduler$Simulation", "queue", "[I", true)
def tyX3 : Nat → FieldType := fun k => match k with
  | 0 => .int
  | 1 => .int
  | 2 => .int
  | 3 => .int
  | 4 => .int
  | 5 => .boolean
  | 6 => .int
  | 7 => .int
  | 8 => .int
  | 9 => .int
  | 10 => .int
  | 11 => .int
  | 12 => .int
  | 13 => .array .int
  | 14 => .array .int
  | 15 => .array .int
  | 16 => .array .int
  | 17 => .array .int
  | _ => .array .int
abbrev wsX30 : List Cond := u_ws RX3 TX3 19
theorem nmX3 : ∀ a, a < 19 → ∀ b, b < 19 → a ≠ b → (TX3 a).2.1 ≠ (TX3 b).2.1 := by decide +kernel
theorem tyX3_ok : ∀ k, k < 19 → parseFieldDescriptor (TX3 k).2.2.1 = some (tyX3 k) := by decide +kernel
abbrev cX3_init : ByteArray := prog_5_method_1_code
def yX3_init : MethodName := ⟨RX3, "<init>", "()V"⟩
abbrev cX3_begin : ByteArray := prog_5_method_2_code
def yX3_begin : MethodName := ⟨RX3, "begin", "(III)V"⟩
abbrev cX3_copyFrom : ByteArray := prog_5_method_3_code
def yX3_copyFrom : MethodName := ⟨RX3, "copyFrom", "(LLiftScheduler$Simulation;)V"⟩
abbrev cX3_addArrival : ByteArray := prog_5_method_4_code
def yX3_addArrival : MethodName := ⟨RX3, "addArrival", "(III)V"⟩
abbrev cX3_findStatus : ByteArray := prog_5_method_5_code
def yX3_findStatus : MethodName := ⟨RX3, "findStatus", "(I)I"⟩
abbrev cX3_findWait : ByteArray := prog_5_method_6_code
def yX3_findWait : MethodName := ⟨RX3, "findWait", "(I)I"⟩
abbrev cX3_findRide : ByteArray := prog_5_method_7_code
def yX3_findRide : MethodName := ⟨RX3, "findRide", "(I)I"⟩
abbrev cX3_countWith : ByteArray := prog_5_method_8_code
def yX3_countWith : MethodName := ⟨RX3, "countWith", "(I)I"⟩
abbrev cX3_countWaiting : ByteArray := prog_5_method_9_code
def yX3_countWaiting : MethodName := ⟨RX3, "countWaiting", "(I)I"⟩
abbrev cX3_findFirstWaiting : ByteArray := prog_5_method_10_code
def yX3_findFirstWaiting : MethodName := ⟨RX3, "findFirstWaiting", "()I"⟩
abbrev cX3_sumWaits : ByteArray := prog_5_method_11_code
def yX3_sumWaits : MethodName := ⟨RX3, "sumWaits", "()I"⟩
abbrev cX3_findLongestWait : ByteArray := prog_5_method_12_code
def yX3_findLongestWait : MethodName := ⟨RX3, "findLongestWait", "()I"⟩
abbrev cX3_isOver : ByteArray := prog_5_method_13_code
def yX3_isOver : MethodName := ⟨RX3, "isOver", "()Z"⟩
abbrev cX3_findStops : ByteArray := prog_5_method_14_code
def yX3_findStops : MethodName := ⟨RX3, "findStops", "()I"⟩
abbrev cX3_findTarget : ByteArray := prog_5_method_15_code
def yX3_findTarget : MethodName := ⟨RX3, "findTarget", "(I)I"⟩
abbrev cX3_findFirstRiding : ByteArray := prog_5_method_16_code
def yX3_findFirstRiding : MethodName := ⟨RX3, "findFirstRiding", "()I"⟩
abbrev cX3_findStopBelow : ByteArray := prog_5_method_17_code
def yX3_findStopBelow : MethodName := ⟨RX3, "findStopBelow", "(I)I"⟩
abbrev cX3_findStopAbove : ByteArray := prog_5_method_18_code
def yX3_findStopAbove : MethodName := ⟨RX3, "findStopAbove", "(I)I"⟩
abbrev cX3_tick : ByteArray := prog_5_method_19_code
def yX3_tick : MethodName := ⟨RX3, "tick", "()V"⟩
abbrev cX3_tickToEnd : ByteArray := prog_5_method_20_code
def yX3_tickToEnd : MethodName := ⟨RX3, "tickToEnd", "(I)I"⟩
abbrev cX3_openDoors : ByteArray := prog_5_method_21_code
def yX3_openDoors : MethodName := ⟨RX3, "openDoors", "()V"⟩
abbrev cX3_moveTowards : ByteArray := prog_5_method_22_code
def yX3_moveTowards : MethodName := ⟨RX3, "moveTowards", "(I)V"⟩
def RX4 : String := "LiftScheduler"
def TX4 : u_T := fun k => match k with
  | 0 => ("LiftScheduler", "now", "LLiftScheduler$Simulation;", true)
  | 1 => ("LiftScheduler", "trial", "LLiftScheduler$Simulation;", true)
  | 2 => ("LiftScheduler", "past", "[LLiftScheduler$Simulation;", true)
  | 3 => ("LiftScheduler", "nextPast", "I", false)
  | 4 => ("LiftScheduler", "changes", "I", false)
  | 5 => ("LiftScheduler", "slots", "[LLiftScheduler$Simulation;", true)
  | 6 => ("LiftScheduler", "slotFilled", "[Z", true)
  | 7 => ("LiftScheduler", "input", "[B", true)
  | 8 => ("LiftScheduler", "inputLength", "I", false)
  | 9 => ("LiftScheduler", "script", "LLiftScheduler$Script;", true)
  | 10 => ("LiftScheduler", "output", "[B", true)
  | _ => ("LiftScheduler", "outputLength", "I", false)
def tyX4 : Nat → FieldType := fun k => match k with
  | 0 => .object "LiftScheduler$Simulation"
  | 1 => .object "LiftScheduler$Simulation"
  | 2 => .array (.object "LiftScheduler$Simulation")
  | 3 => .int
  | 4 => .int
  | 5 => .array (.object "LiftScheduler$Simulation")
  | 6 => .array .boolean
  | 7 => .array .byte
  | 8 => .int
  | 9 => .object "LiftScheduler$Script"
  | 10 => .array .byte
  | _ => .int
abbrev wsX40 : List Cond := u_ws RX4 TX4 12
theorem nmX4 : ∀ a, a < 12 → ∀ b, b < 12 → a ≠ b → (TX4 a).2.1 ≠ (TX4 b).2.1 := by decide +kernel
theorem tyX4_ok : ∀ k, k < 12 → parseFieldDescriptor (TX4 k).2.2.1 = some (tyX4 k) := by decide +kernel
abbrev cX4_init : ByteArray := prog_1_method_1_code
def yX4_init : MethodName := ⟨RX4, "<init>", "()V"⟩
abbrev cX4_append : ByteArray := prog_1_method_2_code
def yX4_append : MethodName := ⟨RX4, "append", "(IIIII)I"⟩
abbrev cX4_appendFour : ByteArray := prog_1_method_3_code
def yX4_appendFour : MethodName := ⟨RX4, "appendFour", "(I)V"⟩
abbrev cX4_truncate : ByteArray := prog_1_method_4_code
def yX4_truncate : MethodName := ⟨RX4, "truncate", "(I)Z"⟩
abbrev cX4_load : ByteArray := prog_1_method_5_code
def yX4_load : MethodName := ⟨RX4, "load", "()I"⟩
abbrev cX4_play : ByteArray := prog_1_method_6_code
def yX4_play : MethodName := ⟨RX4, "play", "()I"⟩
abbrev cX4_parseError : ByteArray := prog_1_method_7_code
def yX4_parseError : MethodName := ⟨RX4, "parseError", "()I"⟩
abbrev cX4_parseErrorPosition : ByteArray := prog_1_method_8_code
def yX4_parseErrorPosition : MethodName := ⟨RX4, "parseErrorPosition", "()I"⟩
abbrev cX4_floorCount : ByteArray := prog_1_method_9_code
def yX4_floorCount : MethodName := ⟨RX4, "floorCount", "()I"⟩
abbrev cX4_capacity : ByteArray := prog_1_method_10_code
def yX4_capacity : MethodName := ⟨RX4, "capacity", "()I"⟩
abbrev cX4_policy : ByteArray := prog_1_method_11_code
def yX4_policy : MethodName := ⟨RX4, "policy", "()I"⟩
abbrev cX4_time : ByteArray := prog_1_method_12_code
def yX4_time : MethodName := ⟨RX4, "time", "()I"⟩
abbrev cX4_floor : ByteArray := prog_1_method_13_code
def yX4_floor : MethodName := ⟨RX4, "floor", "()I"⟩
abbrev cX4_isUpward : ByteArray := prog_1_method_14_code
def yX4_isUpward : MethodName := ⟨RX4, "isUpward", "()Z"⟩
abbrev cX4_isFull : ByteArray := prog_1_method_15_code
def yX4_isFull : MethodName := ⟨RX4, "isFull", "()Z"⟩
abbrev cX4_stopMask : ByteArray := prog_1_method_16_code
def yX4_stopMask : MethodName := ⟨RX4, "stopMask", "()I"⟩
abbrev cX4_targetBy : ByteArray := prog_1_method_17_code
def yX4_targetBy : MethodName := ⟨RX4, "targetBy", "(I)I"⟩
abbrev cX4_distance : ByteArray := prog_1_method_18_code
def yX4_distance : MethodName := ⟨RX4, "distance", "()I"⟩
abbrev cX4_doorTicks : ByteArray := prog_1_method_19_code
def yX4_doorTicks : MethodName := ⟨RX4, "doorTicks", "()I"⟩
abbrev cX4_idleTicks : ByteArray := prog_1_method_20_code
def yX4_idleTicks : MethodName := ⟨RX4, "idleTicks", "()I"⟩
abbrev cX4_reversals : ByteArray := prog_1_method_21_code
def yX4_reversals : MethodName := ⟨RX4, "reversals", "()I"⟩
abbrev cX4_passengerCount : ByteArray := prog_1_method_22_code
def yX4_passengerCount : MethodName := ⟨RX4, "passengerCount", "()I"⟩
abbrev cX4_statusOf : ByteArray := prog_1_method_23_code
def yX4_statusOf : MethodName := ⟨RX4, "statusOf", "(I)I"⟩
abbrev cX4_originOf : ByteArray := prog_1_method_24_code
def yX4_originOf : MethodName := ⟨RX4, "originOf", "(I)I"⟩
abbrev cX4_destinationOf : ByteArray := prog_1_method_25_code
def yX4_destinationOf : MethodName := ⟨RX4, "destinationOf", "(I)I"⟩
abbrev cX4_arrivalOf : ByteArray := prog_1_method_26_code
def yX4_arrivalOf : MethodName := ⟨RX4, "arrivalOf", "(I)I"⟩
abbrev cX4_boardedAt : ByteArray := prog_1_method_27_code
def yX4_boardedAt : MethodName := ⟨RX4, "boardedAt", "(I)I"⟩
abbrev cX4_leftAt : ByteArray := prog_1_method_28_code
def yX4_leftAt : MethodName := ⟨RX4, "leftAt", "(I)I"⟩
abbrev cX4_waitOf : ByteArray := prog_1_method_29_code
def yX4_waitOf : MethodName := ⟨RX4, "waitOf", "(I)I"⟩
abbrev cX4_rideOf : ByteArray := prog_1_method_30_code
def yX4_rideOf : MethodName := ⟨RX4, "rideOf", "(I)I"⟩
abbrev cX4_detourOf : ByteArray := prog_1_method_31_code
def yX4_detourOf : MethodName := ⟨RX4, "detourOf", "(I)I"⟩
abbrev cX4_countStatus : ByteArray := prog_1_method_32_code
def yX4_countStatus : MethodName := ⟨RX4, "countStatus", "(I)I"⟩
abbrev cX4_waitingAt : ByteArray := prog_1_method_33_code
def yX4_waitingAt : MethodName := ⟨RX4, "waitingAt", "(I)I"⟩
abbrev cX4_queueAt : ByteArray := prog_1_method_34_code
def yX4_queueAt : MethodName := ⟨RX4, "queueAt", "(II)I"⟩
abbrev cX4_firstWaiting : ByteArray := prog_1_method_35_code
def yX4_firstWaiting : MethodName := ⟨RX4, "firstWaiting", "()I"⟩
abbrev cX4_ridingTo : ByteArray := prog_1_method_36_code
def yX4_ridingTo : MethodName := ⟨RX4, "ridingTo", "(I)I"⟩
abbrev cX4_busiestOrigin : ByteArray := prog_1_method_37_code
def yX4_busiestOrigin : MethodName := ⟨RX4, "busiestOrigin", "()I"⟩
abbrev cX4_passengersBetween : ByteArray := prog_1_method_38_code
def yX4_passengersBetween : MethodName := ⟨RX4, "passengersBetween", "(II)I"⟩
abbrev cX4_nextArrival : ByteArray := prog_1_method_39_code
def yX4_nextArrival : MethodName := ⟨RX4, "nextArrival", "()I"⟩
abbrev cX4_totalRide : ByteArray := prog_1_method_40_code
def yX4_totalRide : MethodName := ⟨RX4, "totalRide", "()I"⟩
abbrev cX4_longestRide : ByteArray := prog_1_method_41_code
def yX4_longestRide : MethodName := ⟨RX4, "longestRide", "()I"⟩
abbrev cX4_lastDone : ByteArray := prog_1_method_42_code
def yX4_lastDone : MethodName := ⟨RX4, "lastDone", "()I"⟩
abbrev cX4_movingShare : ByteArray := prog_1_method_43_code
def yX4_movingShare : MethodName := ⟨RX4, "movingShare", "()F"⟩
abbrev cX4_totalWait : ByteArray := prog_1_method_44_code
def yX4_totalWait : MethodName := ⟨RX4, "totalWait", "()I"⟩
abbrev cX4_longestWait : ByteArray := prog_1_method_45_code
def yX4_longestWait : MethodName := ⟨RX4, "longestWait", "()I"⟩
abbrev cX4_meanWait : ByteArray := prog_1_method_46_code
def yX4_meanWait : MethodName := ⟨RX4, "meanWait", "()D"⟩
abbrev cX4_isFinished : ByteArray := prog_1_method_47_code
def yX4_isFinished : MethodName := ⟨RX4, "isFinished", "()Z"⟩
abbrev cX4_ticksToFinish : ByteArray := prog_1_method_48_code
def yX4_ticksToFinish : MethodName := ⟨RX4, "ticksToFinish", "()I"⟩
abbrev cX4_ticksWithPolicy : ByteArray := prog_1_method_49_code
def yX4_ticksWithPolicy : MethodName := ⟨RX4, "ticksWithPolicy", "(I)I"⟩
abbrev cX4_waitWithPolicy : ByteArray := prog_1_method_50_code
def yX4_waitWithPolicy : MethodName := ⟨RX4, "waitWithPolicy", "(I)I"⟩
abbrev cX4_longestWaitWithPolicy : ByteArray := prog_1_method_51_code
def yX4_longestWaitWithPolicy : MethodName := ⟨RX4, "longestWaitWithPolicy", "(I)I"⟩
abbrev cX4_bestPolicy : ByteArray := prog_1_method_52_code
def yX4_bestPolicy : MethodName := ⟨RX4, "bestPolicy", "()I"⟩
abbrev cX4_ticksWithCapacity : ByteArray := prog_1_method_53_code
def yX4_ticksWithCapacity : MethodName := ⟨RX4, "ticksWithCapacity", "(I)I"⟩
abbrev cX4_expectedAt : ByteArray := prog_1_method_54_code
def yX4_expectedAt : MethodName := ⟨RX4, "expectedAt", "(I)I"⟩
abbrev cX4_forecast : ByteArray := prog_1_method_55_code
def yX4_forecast : MethodName := ⟨RX4, "forecast", "(II)I"⟩
abbrev cX4_forecastWaits : ByteArray := prog_1_method_56_code
def yX4_forecastWaits : MethodName := ⟨RX4, "forecastWaits", "(I)I"⟩
abbrev cX4_addPassenger : ByteArray := prog_1_method_57_code
def yX4_addPassenger : MethodName := ⟨RX4, "addPassenger", "(III)I"⟩
abbrev cX4_run : ByteArray := prog_1_method_58_code
def yX4_run : MethodName := ⟨RX4, "run", "(I)I"⟩
abbrev cX4_runToEnd : ByteArray := prog_1_method_59_code
def yX4_runToEnd : MethodName := ⟨RX4, "runToEnd", "()I"⟩
abbrev cX4_setPolicy : ByteArray := prog_1_method_60_code
def yX4_setPolicy : MethodName := ⟨RX4, "setPolicy", "(I)I"⟩
abbrev cX4_setCapacity : ByteArray := prog_1_method_61_code
def yX4_setCapacity : MethodName := ⟨RX4, "setCapacity", "(I)I"⟩
abbrev cX4_undo : ByteArray := prog_1_method_62_code
def yX4_undo : MethodName := ⟨RX4, "undo", "()I"⟩
abbrev cX4_undoDepth : ByteArray := prog_1_method_63_code
def yX4_undoDepth : MethodName := ⟨RX4, "undoDepth", "()I"⟩
abbrev cX4_rememberState : ByteArray := prog_1_method_64_code
def yX4_rememberState : MethodName := ⟨RX4, "rememberState", "()V"⟩
abbrev cX4_save : ByteArray := prog_1_method_65_code
def yX4_save : MethodName := ⟨RX4, "save", "(I)Z"⟩
abbrev cX4_restore : ByteArray := prog_1_method_66_code
def yX4_restore : MethodName := ⟨RX4, "restore", "(I)I"⟩
abbrev cX4_writeStatus : ByteArray := prog_1_method_67_code
def yX4_writeStatus : MethodName := ⟨RX4, "writeStatus", "()I"⟩
abbrev cX4_writeBuilding : ByteArray := prog_1_method_68_code
def yX4_writeBuilding : MethodName := ⟨RX4, "writeBuilding", "()I"⟩
abbrev cX4_outputByte : ByteArray := prog_1_method_69_code
def yX4_outputByte : MethodName := ⟨RX4, "outputByte", "(I)I"⟩
abbrev cX4_letterOf : ByteArray := prog_1_method_70_code
def yX4_letterOf : MethodName := ⟨RX4, "letterOf", "(I)I"⟩
abbrev cX4_writeNumber : ByteArray := prog_1_method_71_code
def yX4_writeNumber : MethodName := ⟨RX4, "writeNumber", "(I)V"⟩
abbrev cX4_writeByte : ByteArray := prog_1_method_72_code
def yX4_writeByte : MethodName := ⟨RX4, "writeByte", "(I)V"⟩
abbrev cX4_requirePassenger : ByteArray := prog_1_method_73_code
def yX4_requirePassenger : MethodName := ⟨RX4, "requirePassenger", "(I)V"⟩
abbrev cX4_requireFloor : ByteArray := prog_1_method_74_code
def yX4_requireFloor : MethodName := ⟨RX4, "requireFloor", "(I)V"⟩
abbrev cX4_requirePolicy : ByteArray := prog_1_method_75_code
def yX4_requirePolicy : MethodName := ⟨RX4, "requirePolicy", "(I)V"⟩
abbrev cX4_requireCapacity : ByteArray := prog_1_method_76_code
def yX4_requireCapacity : MethodName := ⟨RX4, "requireCapacity", "(I)V"⟩
abbrev cX4_requireSlot : ByteArray := prog_1_method_77_code
def yX4_requireSlot : MethodName := ⟨RX4, "requireSlot", "(I)V"⟩
def RX5 : String := "LiftSchedulerModel"
def TX5 : u_T := fun k => match k with
  | 0 => ("LiftSchedulerModel", "thrown", "I", false)
  | 1 => ("LiftSchedulerModel", "s", "[I", true)
  | 2 => ("LiftSchedulerModel", "kept", "[I", true)
  | 3 => ("LiftSchedulerModel", "recorded", "I", false)
  | 4 => ("LiftSchedulerModel", "usedA", "Z", false)
  | 5 => ("LiftSchedulerModel", "usedB", "Z", false)
  | 6 => ("LiftSchedulerModel", "buffer", "[B", true)
  | 7 => ("LiftSchedulerModel", "buffered", "I", false)
  | 8 => ("LiftSchedulerModel", "end", "I", false)
  | 9 => ("LiftSchedulerModel", "here", "I", false)
  | 10 => ("LiftSchedulerModel", "errorPosition", "I", false)
  | 11 => ("LiftSchedulerModel", "error", "I", false)
  | 12 => ("LiftSchedulerModel", "begin", "I", false)
  | 13 => ("LiftSchedulerModel", "executed", "I", false)
  | 14 => ("LiftSchedulerModel", "output", "[B", true)
  | _ => ("LiftSchedulerModel", "written", "I", false)
def tyX5 : Nat → FieldType := fun k => match k with
  | 0 => .int
  | 1 => .array .int
  | 2 => .array .int
  | 3 => .int
  | 4 => .boolean
  | 5 => .boolean
  | 6 => .array .byte
  | 7 => .int
  | 8 => .int
  | 9 => .int
  | 10 => .int
  | 11 => .int
  | 12 => .int
  | 13 => .int
  | 14 => .array .byte
  | _ => .int
abbrev wsX50 : List Cond := u_ws RX5 TX5 16
theorem nmX5 : ∀ a, a < 16 → ∀ b, b < 16 → a ≠ b → (TX5 a).2.1 ≠ (TX5 b).2.1 := by decide +kernel
theorem tyX5_ok : ∀ k, k < 16 → parseFieldDescriptor (TX5 k).2.2.1 = some (tyX5 k) := by decide +kernel
abbrev cX5_init : ByteArray := prog_7_method_1_code
def yX5_init : MethodName := ⟨RX5, "<init>", "()V"⟩
abbrev cX5_thrown : ByteArray := prog_7_method_2_code
def yX5_thrown : MethodName := ⟨RX5, "thrown", "()I"⟩
abbrev cX5_inRange : ByteArray := prog_7_method_3_code
def yX5_inRange : MethodName := ⟨RX5, "inRange", "(III)Z"⟩
abbrev cX5_fails : ByteArray := prog_7_method_4_code
def yX5_fails : MethodName := ⟨RX5, "fails", "(ZI)Z"⟩
abbrev cX5_at : ByteArray := prog_7_method_5_code
def yX5_at : MethodName := ⟨RX5, "at", "(I)I"⟩
abbrev cX5_arrival : ByteArray := prog_7_method_6_code
def yX5_arrival : MethodName := ⟨RX5, "arrival", "(I)I"⟩
abbrev cX5_origin : ByteArray := prog_7_method_7_code
def yX5_origin : MethodName := ⟨RX5, "origin", "(I)I"⟩
abbrev cX5_destination : ByteArray := prog_7_method_8_code
def yX5_destination : MethodName := ⟨RX5, "destination", "(I)I"⟩
abbrev cX5_boarded : ByteArray := prog_7_method_9_code
def yX5_boarded : MethodName := ⟨RX5, "boarded", "(I)I"⟩
abbrev cX5_left : ByteArray := prog_7_method_10_code
def yX5_left : MethodName := ⟨RX5, "left", "(I)I"⟩
abbrev cX5_status : ByteArray := prog_7_method_11_code
def yX5_status : MethodName := ⟨RX5, "status", "(I)I"⟩
abbrev cX5_many : ByteArray := prog_7_method_12_code
def yX5_many : MethodName := ⟨RX5, "many", "(I)I"⟩
abbrev cX5_full : ByteArray := prog_7_method_13_code
def yX5_full : MethodName := ⟨RX5, "full", "()Z"⟩
abbrev cX5_finished : ByteArray := prog_7_method_14_code
def yX5_finished : MethodName := ⟨RX5, "finished", "()Z"⟩
abbrev cX5_isAhead : ByteArray := prog_7_method_15_code
def yX5_isAhead : MethodName := ⟨RX5, "isAhead", "(II)Z"⟩
abbrev cX5_first : ByteArray := prog_7_method_16_code
def yX5_first : MethodName := ⟨RX5, "first", "(I)I"⟩
abbrev cX5_adds : ByteArray := prog_7_method_17_code
def yX5_adds : MethodName := ⟨RX5, "adds", "(III)V"⟩
abbrev cX5_stops : ByteArray := prog_7_method_18_code
def yX5_stops : MethodName := ⟨RX5, "stops", "()I"⟩
abbrev cX5_has : ByteArray := prog_7_method_19_code
def yX5_has : MethodName := ⟨RX5, "has", "(II)Z"⟩
abbrev cX5_nearestIn : ByteArray := prog_7_method_20_code
def yX5_nearestIn : MethodName := ⟨RX5, "nearestIn", "(IZ)I"⟩
abbrev cX5_nearest : ByteArray := prog_7_method_21_code
def yX5_nearest : MethodName := ⟨RX5, "nearest", "(I)I"⟩
abbrev cX5_inOrder : ByteArray := prog_7_method_22_code
def yX5_inOrder : MethodName := ⟨RX5, "inOrder", "()I"⟩
abbrev cX5_reverses : ByteArray := prog_7_method_23_code
def yX5_reverses : MethodName := ⟨RX5, "reverses", "(I)Z"⟩
abbrev cX5_target : ByteArray := prog_7_method_24_code
def yX5_target : MethodName := ⟨RX5, "target", "(I)I"⟩
abbrev cX5_opens : ByteArray := prog_7_method_25_code
def yX5_opens : MethodName := ⟨RX5, "opens", "()V"⟩
abbrev cX5_moves : ByteArray := prog_7_method_26_code
def yX5_moves : MethodName := ⟨RX5, "moves", "(I)V"⟩
abbrev cX5_ticks : ByteArray := prog_7_method_27_code
def yX5_ticks : MethodName := ⟨RX5, "ticks", "()V"⟩
abbrev cX5_finishes : ByteArray := prog_7_method_28_code
def yX5_finishes : MethodName := ⟨RX5, "finishes", "(I)I"⟩
abbrev cX5_forecasts : ByteArray := prog_7_method_29_code
def yX5_forecasts : MethodName := ⟨RX5, "forecasts", "()I"⟩
abbrev cX5_keeps : ByteArray := prog_7_method_30_code
def yX5_keeps : MethodName := ⟨RX5, "keeps", "(I)V"⟩
abbrev cX5_bringsBack : ByteArray := prog_7_method_31_code
def yX5_bringsBack : MethodName := ⟨RX5, "bringsBack", "(I)V"⟩
abbrev cX5_records : ByteArray := prog_7_method_32_code
def yX5_records : MethodName := ⟨RX5, "records", "()V"⟩
abbrev cX5_append : ByteArray := prog_7_method_33_code
def yX5_append : MethodName := ⟨RX5, "append", "(IIIII)I"⟩
abbrev cX5_truncate : ByteArray := prog_7_method_34_code
def yX5_truncate : MethodName := ⟨RX5, "truncate", "(I)Z"⟩
abbrev cX5_byteAt : ByteArray := prog_7_method_35_code
def yX5_byteAt : MethodName := ⟨RX5, "byteAt", "(I)I"⟩
abbrev cX5_peek : ByteArray := prog_7_method_36_code
def yX5_peek : MethodName := ⟨RX5, "peek", "()I"⟩
abbrev cX5_failed : ByteArray := prog_7_method_37_code
def yX5_failed : MethodName := ⟨RX5, "failed", "()Z"⟩
abbrev cX5_fail : ByteArray := prog_7_method_38_code
def yX5_fail : MethodName := ⟨RX5, "fail", "(II)V"⟩
abbrev cX5_begins : ByteArray := prog_7_method_39_code
def yX5_begins : MethodName := ⟨RX5, "begins", "()V"⟩
abbrev cX5_accepts : ByteArray := prog_7_method_40_code
def yX5_accepts : MethodName := ⟨RX5, "accepts", "(Ljava/lang/String;)Z"⟩
abbrev cX5_number : ByteArray := prog_7_method_41_code
def yX5_number : MethodName := ⟨RX5, "number", "(II)I"⟩
abbrev cX5_semicolon : ByteArray := prog_7_method_42_code
def yX5_semicolon : MethodName := ⟨RX5, "semicolon", "()V"⟩
abbrev cX5_policyWord : ByteArray := prog_7_method_43_code
def yX5_policyWord : MethodName := ⟨RX5, "policyWord", "()I"⟩
abbrev cX5_floorNumber : ByteArray := prog_7_method_44_code
def yX5_floorNumber : MethodName := ⟨RX5, "floorNumber", "()I"⟩
abbrev cX5_readsCall : ByteArray := prog_7_method_45_code
def yX5_readsCall : MethodName := ⟨RX5, "readsCall", "()V"⟩
abbrev cX5_readsRun : ByteArray := prog_7_method_46_code
def yX5_readsRun : MethodName := ⟨RX5, "readsRun", "()V"⟩
abbrev cX5_readsCapacity : ByteArray := prog_7_method_47_code
def yX5_readsCapacity : MethodName := ⟨RX5, "readsCapacity", "()V"⟩
abbrev cX5_readsPolicy : ByteArray := prog_7_method_48_code
def yX5_readsPolicy : MethodName := ⟨RX5, "readsPolicy", "()V"⟩
abbrev cX5_counterWord : ByteArray := prog_7_method_49_code
def yX5_counterWord : MethodName := ⟨RX5, "counterWord", "()I"⟩
abbrev cX5_counted : ByteArray := prog_7_method_50_code
def yX5_counted : MethodName := ⟨RX5, "counted", "(I)I"⟩
abbrev cX5_readsUntil : ByteArray := prog_7_method_51_code
def yX5_readsUntil : MethodName := ⟨RX5, "readsUntil", "()V"⟩
abbrev cX5_readsExpectation : ByteArray := prog_7_method_52_code
def yX5_readsExpectation : MethodName := ⟨RX5, "readsExpectation", "(I)V"⟩
abbrev cX5_bracket : ByteArray := prog_7_method_53_code
def yX5_bracket : MethodName := ⟨RX5, "bracket", "(I)V"⟩
abbrev cX5_repeats : ByteArray := prog_7_method_54_code
def yX5_repeats : MethodName := ⟨RX5, "repeats", "()V"⟩
abbrev cX5_command : ByteArray := prog_7_method_55_code
def yX5_command : MethodName := ⟨RX5, "command", "()V"⟩
abbrev cX5_simple : ByteArray := prog_7_method_56_code
def yX5_simple : MethodName := ⟨RX5, "simple", "()V"⟩
abbrev cX5_commands : ByteArray := prog_7_method_57_code
def yX5_commands : MethodName := ⟨RX5, "commands", "()I"⟩
abbrev cX5_load : ByteArray := prog_7_method_58_code
def yX5_load : MethodName := ⟨RX5, "load", "()I"⟩
abbrev cX5_play : ByteArray := prog_7_method_59_code
def yX5_play : MethodName := ⟨RX5, "play", "()I"⟩
abbrev cX5_parseError : ByteArray := prog_7_method_60_code
def yX5_parseError : MethodName := ⟨RX5, "parseError", "()I"⟩
abbrev cX5_parseErrorPosition : ByteArray := prog_7_method_61_code
def yX5_parseErrorPosition : MethodName := ⟨RX5, "parseErrorPosition", "()I"⟩
abbrev cX5_noPassenger : ByteArray := prog_7_method_62_code
def yX5_noPassenger : MethodName := ⟨RX5, "noPassenger", "(I)Z"⟩
abbrev cX5_noFloor : ByteArray := prog_7_method_63_code
def yX5_noFloor : MethodName := ⟨RX5, "noFloor", "(I)Z"⟩
abbrev cX5_noPolicy : ByteArray := prog_7_method_64_code
def yX5_noPolicy : MethodName := ⟨RX5, "noPolicy", "(I)Z"⟩
abbrev cX5_floorCount : ByteArray := prog_7_method_65_code
def yX5_floorCount : MethodName := ⟨RX5, "floorCount", "()I"⟩
abbrev cX5_capacity : ByteArray := prog_7_method_66_code
def yX5_capacity : MethodName := ⟨RX5, "capacity", "()I"⟩
abbrev cX5_policy : ByteArray := prog_7_method_67_code
def yX5_policy : MethodName := ⟨RX5, "policy", "()I"⟩
abbrev cX5_time : ByteArray := prog_7_method_68_code
def yX5_time : MethodName := ⟨RX5, "time", "()I"⟩
abbrev cX5_floor : ByteArray := prog_7_method_69_code
def yX5_floor : MethodName := ⟨RX5, "floor", "()I"⟩
abbrev cX5_isUpward : ByteArray := prog_7_method_70_code
def yX5_isUpward : MethodName := ⟨RX5, "isUpward", "()Z"⟩
abbrev cX5_isFull : ByteArray := prog_7_method_71_code
def yX5_isFull : MethodName := ⟨RX5, "isFull", "()Z"⟩
abbrev cX5_stopMask : ByteArray := prog_7_method_72_code
def yX5_stopMask : MethodName := ⟨RX5, "stopMask", "()I"⟩
abbrev cX5_targetBy : ByteArray := prog_7_method_73_code
def yX5_targetBy : MethodName := ⟨RX5, "targetBy", "(I)I"⟩
abbrev cX5_distance : ByteArray := prog_7_method_74_code
def yX5_distance : MethodName := ⟨RX5, "distance", "()I"⟩
abbrev cX5_doorTicks : ByteArray := prog_7_method_75_code
def yX5_doorTicks : MethodName := ⟨RX5, "doorTicks", "()I"⟩
abbrev cX5_idleTicks : ByteArray := prog_7_method_76_code
def yX5_idleTicks : MethodName := ⟨RX5, "idleTicks", "()I"⟩
abbrev cX5_reversals : ByteArray := prog_7_method_77_code
def yX5_reversals : MethodName := ⟨RX5, "reversals", "()I"⟩
abbrev cX5_passengerCount : ByteArray := prog_7_method_78_code
def yX5_passengerCount : MethodName := ⟨RX5, "passengerCount", "()I"⟩
abbrev cX5_statusOf : ByteArray := prog_7_method_79_code
def yX5_statusOf : MethodName := ⟨RX5, "statusOf", "(I)I"⟩
abbrev cX5_originOf : ByteArray := prog_7_method_80_code
def yX5_originOf : MethodName := ⟨RX5, "originOf", "(I)I"⟩
abbrev cX5_destinationOf : ByteArray := prog_7_method_81_code
def yX5_destinationOf : MethodName := ⟨RX5, "destinationOf", "(I)I"⟩
abbrev cX5_arrivalOf : ByteArray := prog_7_method_82_code
def yX5_arrivalOf : MethodName := ⟨RX5, "arrivalOf", "(I)I"⟩
abbrev cX5_boardedAt : ByteArray := prog_7_method_83_code
def yX5_boardedAt : MethodName := ⟨RX5, "boardedAt", "(I)I"⟩
abbrev cX5_leftAt : ByteArray := prog_7_method_84_code
def yX5_leftAt : MethodName := ⟨RX5, "leftAt", "(I)I"⟩
abbrev cX5_waited : ByteArray := prog_7_method_85_code
def yX5_waited : MethodName := ⟨RX5, "waited", "(I)I"⟩
abbrev cX5_ridden : ByteArray := prog_7_method_86_code
def yX5_ridden : MethodName := ⟨RX5, "ridden", "(I)I"⟩
abbrev cX5_waitOf : ByteArray := prog_7_method_87_code
def yX5_waitOf : MethodName := ⟨RX5, "waitOf", "(I)I"⟩
abbrev cX5_rideOf : ByteArray := prog_7_method_88_code
def yX5_rideOf : MethodName := ⟨RX5, "rideOf", "(I)I"⟩
abbrev cX5_detourOf : ByteArray := prog_7_method_89_code
def yX5_detourOf : MethodName := ⟨RX5, "detourOf", "(I)I"⟩
abbrev cX5_countStatus : ByteArray := prog_7_method_90_code
def yX5_countStatus : MethodName := ⟨RX5, "countStatus", "(I)I"⟩
abbrev cX5_waiting : ByteArray := prog_7_method_91_code
def yX5_waiting : MethodName := ⟨RX5, "waiting", "(I)I"⟩
abbrev cX5_waitingAt : ByteArray := prog_7_method_92_code
def yX5_waitingAt : MethodName := ⟨RX5, "waitingAt", "(I)I"⟩
abbrev cX5_ahead : ByteArray := prog_7_method_93_code
def yX5_ahead : MethodName := ⟨RX5, "ahead", "(I)I"⟩
abbrev cX5_queueAt : ByteArray := prog_7_method_94_code
def yX5_queueAt : MethodName := ⟨RX5, "queueAt", "(II)I"⟩
abbrev cX5_firstWaiting : ByteArray := prog_7_method_95_code
def yX5_firstWaiting : MethodName := ⟨RX5, "firstWaiting", "()I"⟩
abbrev cX5_ridingTo : ByteArray := prog_7_method_96_code
def yX5_ridingTo : MethodName := ⟨RX5, "ridingTo", "(I)I"⟩
abbrev cX5_startingAt : ByteArray := prog_7_method_97_code
def yX5_startingAt : MethodName := ⟨RX5, "startingAt", "(I)I"⟩
abbrev cX5_busiestOrigin : ByteArray := prog_7_method_98_code
def yX5_busiestOrigin : MethodName := ⟨RX5, "busiestOrigin", "()I"⟩
abbrev cX5_passengersBetween : ByteArray := prog_7_method_99_code
def yX5_passengersBetween : MethodName := ⟨RX5, "passengersBetween", "(II)I"⟩
abbrev cX5_nextArrival : ByteArray := prog_7_method_100_code
def yX5_nextArrival : MethodName := ⟨RX5, "nextArrival", "()I"⟩
abbrev cX5_rides : ByteArray := prog_7_method_101_code
def yX5_rides : MethodName := ⟨RX5, "rides", "()I"⟩
abbrev cX5_waits : ByteArray := prog_7_method_102_code
def yX5_waits : MethodName := ⟨RX5, "waits", "()I"⟩
abbrev cX5_greatestWait : ByteArray := prog_7_method_103_code
def yX5_greatestWait : MethodName := ⟨RX5, "greatestWait", "()I"⟩
abbrev cX5_totalRide : ByteArray := prog_7_method_104_code
def yX5_totalRide : MethodName := ⟨RX5, "totalRide", "()I"⟩
abbrev cX5_longestRide : ByteArray := prog_7_method_105_code
def yX5_longestRide : MethodName := ⟨RX5, "longestRide", "()I"⟩
abbrev cX5_lastDone : ByteArray := prog_7_method_106_code
def yX5_lastDone : MethodName := ⟨RX5, "lastDone", "()I"⟩
abbrev cX5_movingShare : ByteArray := prog_7_method_107_code
def yX5_movingShare : MethodName := ⟨RX5, "movingShare", "()F"⟩
abbrev cX5_totalWait : ByteArray := prog_7_method_108_code
def yX5_totalWait : MethodName := ⟨RX5, "totalWait", "()I"⟩
abbrev cX5_longestWait : ByteArray := prog_7_method_109_code
def yX5_longestWait : MethodName := ⟨RX5, "longestWait", "()I"⟩
abbrev cX5_meanWait : ByteArray := prog_7_method_110_code
def yX5_meanWait : MethodName := ⟨RX5, "meanWait", "()D"⟩
abbrev cX5_isFinished : ByteArray := prog_7_method_111_code
def yX5_isFinished : MethodName := ⟨RX5, "isFinished", "()Z"⟩
abbrev cX5_ticksToFinish : ByteArray := prog_7_method_112_code
def yX5_ticksToFinish : MethodName := ⟨RX5, "ticksToFinish", "()I"⟩
abbrev cX5_ticksWithPolicy : ByteArray := prog_7_method_113_code
def yX5_ticksWithPolicy : MethodName := ⟨RX5, "ticksWithPolicy", "(I)I"⟩
abbrev cX5_waitsBy : ByteArray := prog_7_method_114_code
def yX5_waitsBy : MethodName := ⟨RX5, "waitsBy", "(I)I"⟩
abbrev cX5_waitWithPolicy : ByteArray := prog_7_method_115_code
def yX5_waitWithPolicy : MethodName := ⟨RX5, "waitWithPolicy", "(I)I"⟩
abbrev cX5_longestWaitWithPolicy : ByteArray := prog_7_method_116_code
def yX5_longestWaitWithPolicy : MethodName := ⟨RX5, "longestWaitWithPolicy", "(I)I"⟩
abbrev cX5_bestPolicy : ByteArray := prog_7_method_117_code
def yX5_bestPolicy : MethodName := ⟨RX5, "bestPolicy", "()I"⟩
abbrev cX5_noCapacity : ByteArray := prog_7_method_118_code
def yX5_noCapacity : MethodName := ⟨RX5, "noCapacity", "(I)Z"⟩
abbrev cX5_ticksWithCapacity : ByteArray := prog_7_method_119_code
def yX5_ticksWithCapacity : MethodName := ⟨RX5, "ticksWithCapacity", "(I)I"⟩
abbrev cX5_expectedAt : ByteArray := prog_7_method_120_code
def yX5_expectedAt : MethodName := ⟨RX5, "expectedAt", "(I)I"⟩
abbrev cX5_addPassenger : ByteArray := prog_7_method_121_code
def yX5_addPassenger : MethodName := ⟨RX5, "addPassenger", "(III)I"⟩
abbrev cX5_run : ByteArray := prog_7_method_122_code
def yX5_run : MethodName := ⟨RX5, "run", "(I)I"⟩
abbrev cX5_runToEnd : ByteArray := prog_7_method_123_code
def yX5_runToEnd : MethodName := ⟨RX5, "runToEnd", "()I"⟩
abbrev cX5_setPolicy : ByteArray := prog_7_method_124_code
def yX5_setPolicy : MethodName := ⟨RX5, "setPolicy", "(I)I"⟩
abbrev cX5_setCapacity : ByteArray := prog_7_method_125_code
def yX5_setCapacity : MethodName := ⟨RX5, "setCapacity", "(I)I"⟩
abbrev cX5_undo : ByteArray := prog_7_method_126_code
def yX5_undo : MethodName := ⟨RX5, "undo", "()I"⟩
abbrev cX5_undoDepth : ByteArray := prog_7_method_127_code
def yX5_undoDepth : MethodName := ⟨RX5, "undoDepth", "()I"⟩
abbrev cX5_save : ByteArray := prog_7_method_128_code
def yX5_save : MethodName := ⟨RX5, "save", "(I)Z"⟩
abbrev cX5_restore : ByteArray := prog_7_method_129_code
def yX5_restore : MethodName := ⟨RX5, "restore", "(I)I"⟩
abbrev cX5_write : ByteArray := prog_7_method_130_code
def yX5_write : MethodName := ⟨RX5, "write", "(I)V"⟩
abbrev cX5_writeNumber : ByteArray := prog_7_method_131_code
def yX5_writeNumber : MethodName := ⟨RX5, "writeNumber", "(I)V"⟩
abbrev cX5_writeStatus : ByteArray := prog_7_method_132_code
def yX5_writeStatus : MethodName := ⟨RX5, "writeStatus", "()I"⟩
abbrev cX5_writeBuilding : ByteArray := prog_7_method_133_code
def yX5_writeBuilding : MethodName := ⟨RX5, "writeBuilding", "()I"⟩
abbrev cX5_outputByte : ByteArray := prog_7_method_134_code
def yX5_outputByte : MethodName := ⟨RX5, "outputByte", "(I)I"⟩
def RJx29ce0 : String := "java/lang/Enum"
def TJx29ce0 : u_T := fun k => match k with
  | _ => ("", "", "", false)
def tyJx29ce0 : Nat → FieldType := fun k => match k with
  | _ => .int
abbrev wsJx29ce00 : List Cond := u_ws RJx29ce0 TJx29ce0 0
theorem nmJx29ce0 : ∀ a, a < 0 → ∀ b, b < 0 → a ≠ b → (TJx29ce0 a).2.1 ≠ (TJx29ce0 b).2.1 := by decide +kernel
theorem tyJx29ce0_ok : ∀ k, k < 0 → parseFieldDescriptor (TJx29ce0 k).2.2.1 = some (tyJx29ce0 k) := by decide +kernel
abbrev cJx29ce0_ordinal_8abf5 : ByteArray := prog_8_method_2_code
def yJx29ce0_ordinal_8abf5 : MethodName := ⟨RJx29ce0, "ordinal", "()I"⟩
def RJ9 : String := "java/lang/Math"
def TJ9 : u_T := fun k => match k with
  | _ => ("", "", "", false)
def tyJ9 : Nat → FieldType := fun k => match k with
  | _ => .int
abbrev wsJ90 : List Cond := u_ws RJ9 TJ9 0
theorem nmJ9 : ∀ a, a < 0 → ∀ b, b < 0 → a ≠ b → (TJ9 a).2.1 ≠ (TJ9 b).2.1 := by decide +kernel
theorem tyJ9_ok : ∀ k, k < 0 → parseFieldDescriptor (TJ9 k).2.2.1 = some (tyJ9 k) := by decide +kernel
abbrev cJ9_abs_0f7a4 : ByteArray := prog_13_method_59_code
def yJ9_abs_0f7a4 : MethodName := ⟨RJ9, "abs", "(I)I"⟩
abbrev cJ9_max_7cf53 : ByteArray := prog_13_method_65_code
def yJ9_max_7cf53 : MethodName := ⟨RJ9, "max", "(II)I"⟩
abbrev cJ9_min_7cf53 : ByteArray := prog_13_method_69_code
def yJ9_min_7cf53 : MethodName := ⟨RJ9, "min", "(II)I"⟩
def RJ0 : String := "java/lang/String"
def TJ0 : u_T := fun k => match k with
  | _ => ("", "", "", false)
def tyJ0 : Nat → FieldType := fun k => match k with
  | _ => .int
abbrev wsJ00 : List Cond := u_ws RJ0 TJ0 0
theorem nmJ0 : ∀ a, a < 0 → ∀ b, b < 0 → a ≠ b → (TJ0 a).2.1 ≠ (TJ0 b).2.1 := by decide +kernel
theorem tyJ0_ok : ∀ k, k < 0 → parseFieldDescriptor (TJ0 k).2.2.1 = some (tyJ0 k) := by decide +kernel
abbrev cJ0_length_8abf5 : ByteArray := prog_15_method_54_code
def yJ0_length_8abf5 : MethodName := ⟨RJ0, "length", "()I"⟩
abbrev cJ0_charAt_5068e : ByteArray := prog_15_method_56_code
def yJ0_charAt_5068e : MethodName := ⟨RJ0, "charAt", "(I)C"⟩
abbrev cJ0_coder_7d493 : ByteArray := prog_15_method_152_code
def yJ0_coder_7d493 : MethodName := ⟨RJ0, "coder", "()B"⟩
abbrev cJ0_isLatin1_aae02 : ByteArray := prog_15_method_154_code
def yJ0_isLatin1_aae02 : MethodName := ⟨RJ0, "isLatin1", "()Z"⟩
abbrev cJ0_checkIndex_df160 : ByteArray := prog_15_method_155_code
def yJ0_checkIndex_df160 : MethodName := ⟨RJ0, "checkIndex", "(II)V"⟩
def RJ1 : String := "java/lang/StringLatin1"
def TJ1 : u_T := fun k => match k with
  | _ => ("", "", "", false)
def tyJ1 : Nat → FieldType := fun k => match k with
  | _ => .int
abbrev wsJ10 : List Cond := u_ws RJ1 TJ1 0
theorem nmJ1 : ∀ a, a < 0 → ∀ b, b < 0 → a ≠ b → (TJ1 a).2.1 ≠ (TJ1 b).2.1 := by decide +kernel
theorem tyJ1_ok : ∀ k, k < 0 → parseFieldDescriptor (TJ1 k).2.2.1 = some (tyJ1 k) := by decide +kernel
abbrev cJ1_charAt_3b067 : ByteArray := prog_16_method_2_code
def yJ1_charAt_3b067 : MethodName := ⟨RJ1, "charAt", "([BI)C"⟩
def RJ2 : String := "java/lang/StringUTF16"
def TJ2 : u_T := fun k => match k with
  | _ => ("", "", "", false)
def tyJ2 : Nat → FieldType := fun k => match k with
  | _ => .int
abbrev wsJ20 : List Cond := u_ws RJ2 TJ2 0
theorem nmJ2 : ∀ a, a < 0 → ∀ b, b < 0 → a ≠ b → (TJ2 a).2.1 ≠ (TJ2 b).2.1 := by decide +kernel
theorem tyJ2_ok : ∀ k, k < 0 → parseFieldDescriptor (TJ2 k).2.2.1 = some (tyJ2 k) := by decide +kernel
abbrev cJ2_getChar_3b067 : ByteArray := prog_17_method_5_code
def yJ2_getChar_3b067 : MethodName := ⟨RJ2, "getChar", "([BI)C"⟩
abbrev cJ2_length_9d52b : ByteArray := prog_17_method_6_code
def yJ2_length_9d52b : MethodName := ⟨RJ2, "length", "([B)I"⟩
abbrev cJ2_charAt_3b067 : ByteArray := prog_17_method_83_code
def yJ2_charAt_3b067 : MethodName := ⟨RJ2, "charAt", "([BI)C"⟩
abbrev cJ2_checkIndex_2214a : ByteArray := prog_17_method_91_code
def yJ2_checkIndex_2214a : MethodName := ⟨RJ2, "checkIndex", "(I[B)V"⟩
def RJ10 : String := "java/lang/System"
def TJ10 : u_T := fun k => match k with
  | _ => ("", "", "", false)
def tyJ10 : Nat → FieldType := fun k => match k with
  | _ => .int
abbrev wsJ100 : List Cond := u_ws RJ10 TJ10 0
theorem nmJ10 : ∀ a, a < 0 → ∀ b, b < 0 → a ≠ b → (TJ10 a).2.1 ≠ (TJ10 b).2.1 := by decide +kernel
theorem tyJ10_ok : ∀ k, k < 0 → parseFieldDescriptor (TJ10 k).2.2.1 = some (tyJ10 k) := by decide +kernel
def RJ3 : String := "jdk/internal/util/Preconditions"
def TJ3 : u_T := fun k => match k with
  | _ => ("", "", "", false)
def tyJ3 : Nat → FieldType := fun k => match k with
  | _ => .int
abbrev wsJ30 : List Cond := u_ws RJ3 TJ3 0
theorem nmJ3 : ∀ a, a < 0 → ∀ b, b < 0 → a ≠ b → (TJ3 a).2.1 ≠ (TJ3 b).2.1 := by decide +kernel
theorem tyJ3_ok : ∀ k, k < 0 → parseFieldDescriptor (TJ3 k).2.2.1 = some (tyJ3 k) := by decide +kernel
abbrev cJ3_checkIndex_8e157 : ByteArray := prog_20_method_11_code
def yJ3_checkIndex_8e157 : MethodName := ⟨RJ3, "checkIndex", "(IILjava/util/function/BiFunction;)I"⟩
def RL : String := "LiftSchedulerLaw"
abbrev cL_load : ByteArray := method_3_code
def yL_load : MethodName := ⟨RL, "load", "(LLiftScheduler;[J)I"⟩
abbrev cL_play : ByteArray := method_4_code
def yL_play : MethodName := ⟨RL, "play", "(LLiftScheduler;[J)I"⟩
abbrev cL_targetBy : ByteArray := method_5_code
def yL_targetBy : MethodName := ⟨RL, "targetBy", "(LLiftScheduler;I[J)I"⟩
abbrev cL_statusOf : ByteArray := method_6_code
def yL_statusOf : MethodName := ⟨RL, "statusOf", "(LLiftScheduler;I[J)I"⟩
abbrev cL_originOf : ByteArray := method_7_code
def yL_originOf : MethodName := ⟨RL, "originOf", "(LLiftScheduler;I[J)I"⟩
abbrev cL_destinationOf : ByteArray := method_8_code
def yL_destinationOf : MethodName := ⟨RL, "destinationOf", "(LLiftScheduler;I[J)I"⟩
abbrev cL_arrivalOf : ByteArray := method_9_code
def yL_arrivalOf : MethodName := ⟨RL, "arrivalOf", "(LLiftScheduler;I[J)I"⟩
abbrev cL_boardedAt : ByteArray := method_10_code
def yL_boardedAt : MethodName := ⟨RL, "boardedAt", "(LLiftScheduler;I[J)I"⟩
abbrev cL_leftAt : ByteArray := method_11_code
def yL_leftAt : MethodName := ⟨RL, "leftAt", "(LLiftScheduler;I[J)I"⟩
abbrev cL_waitOf : ByteArray := method_12_code
def yL_waitOf : MethodName := ⟨RL, "waitOf", "(LLiftScheduler;I[J)I"⟩
abbrev cL_rideOf : ByteArray := method_13_code
def yL_rideOf : MethodName := ⟨RL, "rideOf", "(LLiftScheduler;I[J)I"⟩
abbrev cL_detourOf : ByteArray := method_14_code
def yL_detourOf : MethodName := ⟨RL, "detourOf", "(LLiftScheduler;I[J)I"⟩
abbrev cL_countStatus : ByteArray := method_15_code
def yL_countStatus : MethodName := ⟨RL, "countStatus", "(LLiftScheduler;I[J)I"⟩
abbrev cL_waitingAt : ByteArray := method_16_code
def yL_waitingAt : MethodName := ⟨RL, "waitingAt", "(LLiftScheduler;I[J)I"⟩
abbrev cL_queueAt : ByteArray := method_17_code
def yL_queueAt : MethodName := ⟨RL, "queueAt", "(LLiftScheduler;II[J)I"⟩
abbrev cL_ridingTo : ByteArray := method_18_code
def yL_ridingTo : MethodName := ⟨RL, "ridingTo", "(LLiftScheduler;I[J)I"⟩
abbrev cL_passengersBetween : ByteArray := method_19_code
def yL_passengersBetween : MethodName := ⟨RL, "passengersBetween", "(LLiftScheduler;II[J)I"⟩
abbrev cL_ticksWithPolicy : ByteArray := method_20_code
def yL_ticksWithPolicy : MethodName := ⟨RL, "ticksWithPolicy", "(LLiftScheduler;I[J)I"⟩
abbrev cL_waitWithPolicy : ByteArray := method_21_code
def yL_waitWithPolicy : MethodName := ⟨RL, "waitWithPolicy", "(LLiftScheduler;I[J)I"⟩
abbrev cL_longestWaitWithPolicy : ByteArray := method_22_code
def yL_longestWaitWithPolicy : MethodName := ⟨RL, "longestWaitWithPolicy", "(LLiftScheduler;I[J)I"⟩
abbrev cL_ticksWithCapacity : ByteArray := method_23_code
def yL_ticksWithCapacity : MethodName := ⟨RL, "ticksWithCapacity", "(LLiftScheduler;I[J)I"⟩
abbrev cL_expectedAt : ByteArray := method_24_code
def yL_expectedAt : MethodName := ⟨RL, "expectedAt", "(LLiftScheduler;I[J)I"⟩
abbrev cL_addPassenger : ByteArray := method_25_code
def yL_addPassenger : MethodName := ⟨RL, "addPassenger", "(LLiftScheduler;III[J)I"⟩
abbrev cL_run : ByteArray := method_26_code
def yL_run : MethodName := ⟨RL, "run", "(LLiftScheduler;I[J)I"⟩
abbrev cL_setPolicy : ByteArray := method_27_code
def yL_setPolicy : MethodName := ⟨RL, "setPolicy", "(LLiftScheduler;I[J)I"⟩
abbrev cL_setCapacity : ByteArray := method_28_code
def yL_setCapacity : MethodName := ⟨RL, "setCapacity", "(LLiftScheduler;I[J)I"⟩
abbrev cL_undo : ByteArray := method_29_code
def yL_undo : MethodName := ⟨RL, "undo", "(LLiftScheduler;[J)I"⟩
abbrev cL_save : ByteArray := method_30_code
def yL_save : MethodName := ⟨RL, "save", "(LLiftScheduler;I[J)I"⟩
abbrev cL_restore : ByteArray := method_31_code
def yL_restore : MethodName := ⟨RL, "restore", "(LLiftScheduler;I[J)I"⟩
abbrev cL_law : ByteArray := code
def yL_law : MethodName := ⟨RL, "law", "([I)Z"⟩
abbrev vwCl : List vw_C := [(RX2, TX2, 9), (RX3, TX3, 19), (RX4, TX4, 12), (RX5, TX5, 16)]
end
section
theorem dX1_isCounter_0 : decode cX1_isCounter 0 = .ok (.aload_n 0, 1) := by decide +kernel
theorem dX1_isCounter_1 : decode cX1_isCounter 1 = .ok (.getstatic 46, 3) := by decide +kernel
theorem dX1_isCounter_4 : decode cX1_isCounter 4 = .ok (.if_acmp .eq 38, 3) := by decide +kernel
theorem dX1_isCounter_7 : decode cX1_isCounter 7 = .ok (.aload_n 0, 1) := by decide +kernel
theorem dX1_isCounter_8 : decode cX1_isCounter 8 = .ok (.getstatic 49, 3) := by decide +kernel
theorem dX1_isCounter_11 : decode cX1_isCounter 11 = .ok (.if_acmp .eq 31, 3) := by decide +kernel
theorem dX1_isCounter_14 : decode cX1_isCounter 14 = .ok (.aload_n 0, 1) := by decide +kernel
theorem dX1_isCounter_15 : decode cX1_isCounter 15 = .ok (.getstatic 52, 3) := by decide +kernel
theorem dX1_isCounter_18 : decode cX1_isCounter 18 = .ok (.if_acmp .eq 24, 3) := by decide +kernel
theorem dX1_isCounter_21 : decode cX1_isCounter 21 = .ok (.aload_n 0, 1) := by decide +kernel
theorem dX1_isCounter_22 : decode cX1_isCounter 22 = .ok (.getstatic 55, 3) := by decide +kernel
theorem dX1_isCounter_25 : decode cX1_isCounter 25 = .ok (.if_acmp .eq 17, 3) := by decide +kernel
theorem dX1_isCounter_28 : decode cX1_isCounter 28 = .ok (.aload_n 0, 1) := by decide +kernel
theorem dX1_isCounter_29 : decode cX1_isCounter 29 = .ok (.getstatic 58, 3) := by decide +kernel
theorem dX1_isCounter_32 : decode cX1_isCounter 32 = .ok (.if_acmp .eq 10, 3) := by decide +kernel
theorem dX1_isCounter_35 : decode cX1_isCounter 35 = .ok (.aload_n 0, 1) := by decide +kernel
theorem dX1_isCounter_36 : decode cX1_isCounter 36 = .ok (.getstatic 61, 3) := by decide +kernel
theorem dX1_isCounter_39 : decode cX1_isCounter 39 = .ok (.if_acmp .ne 7, 3) := by decide +kernel
theorem dX1_isCounter_42 : decode cX1_isCounter 42 = .ok (.iconst 1, 1) := by decide +kernel
theorem dX1_isCounter_43 : decode cX1_isCounter 43 = .ok (.goto 4, 3) := by decide +kernel
theorem dX1_isCounter_46 : decode cX1_isCounter 46 = .ok (.iconst 0, 1) := by decide +kernel
theorem dX1_isCounter_47 : decode cX1_isCounter 47 = .ok (.ireturn, 1) := by decide +kernel
theorem dX2_init_0 : decode cX2_init 0 = .ok (.aload_n 0, 1) := by decide +kernel
theorem dX2_init_1 : decode cX2_init 1 = .ok (.invokespecial 3, 3) := by decide +kernel
theorem dX2_init_4 : decode cX2_init 4 = .ok (.aload_n 0, 1) := by decide +kernel
theorem dX2_init_5 : decode cX2_init 5 = .ok (.sipush 501, 3) := by decide +kernel
theorem dX2_init_8 : decode cX2_init 8 = .ok (.anewarray 11, 3) := by decide +kernel
theorem dX2_init_11 : decode cX2_init 11 = .ok (.putfield 13, 3) := by decide +kernel
theorem dX2_init_14 : decode cX2_init 14 = .ok (.aload_n 0, 1) := by decide +kernel
theorem dX2_init_15 : decode cX2_init 15 = .ok (.sipush 501, 3) := by decide +kernel
theorem dX2_init_18 : decode cX2_init 18 = .ok (.newarray .int, 2) := by decide +kernel
theorem dX2_init_20 : decode cX2_init 20 = .ok (.putfield 17, 3) := by decide +kernel
theorem dX2_init_23 : decode cX2_init 23 = .ok (.aload_n 0, 1) := by decide +kernel
theorem dX2_init_24 : decode cX2_init 24 = .ok (.sipush 501, 3) := by decide +kernel
theorem dX2_init_27 : decode cX2_init 27 = .ok (.newarray .int, 2) := by decide +kernel
theorem dX2_init_29 : decode cX2_init 29 = .ok (.putfield 21, 3) := by decide +kernel
theorem dX2_init_32 : decode cX2_init 32 = .ok (.aload_n 0, 1) := by decide +kernel
theorem dX2_init_33 : decode cX2_init 33 = .ok (.iconst 0, 1) := by decide +kernel
theorem dX2_init_34 : decode cX2_init 34 = .ok (.putfield 24, 3) := by decide +kernel
theorem dX2_init_37 : decode cX2_init 37 = .ok (.aload_n 0, 1) := by decide +kernel
theorem dX2_init_38 : decode cX2_init 38 = .ok (.iconst 0, 1) := by decide +kernel
theorem dX2_init_39 : decode cX2_init 39 = .ok (.putfield 28, 3) := by decide +kernel
theorem dX2_init_42 : decode cX2_init 42 = .ok (.aload_n 0, 1) := by decide +kernel
theorem dX2_init_43 : decode cX2_init 43 = .ok (.iconst 0, 1) := by decide +kernel
theorem dX2_init_44 : decode cX2_init 44 = .ok (.putfield 31, 3) := by decide +kernel
theorem dX2_init_47 : decode cX2_init 47 = .ok (.aload_n 0, 1) := by decide +kernel
theorem dX2_init_48 : decode cX2_init 48 = .ok (.iconst 0, 1) := by decide +kernel
theorem dX2_init_49 : decode cX2_init 49 = .ok (.putfield 34, 3) := by decide +kernel
theorem dX2_init_52 : decode cX2_init 52 = .ok (.aload_n 0, 1) := by decide +kernel
theorem dX2_init_53 : decode cX2_init 53 = .ok (.iconst (-1), 1) := by decide +kernel
theorem dX2_init_54 : decode cX2_init 54 = .ok (.putfield 37, 3) := by decide +kernel
theorem dX2_init_57 : decode cX2_init 57 = .ok (.return_, 1) := by decide +kernel
theorem dX2_readTokens_0 : decode cX2_readTokens 0 = .ok (.aload_n 0, 1) := by decide +kernel
theorem dX2_readTokens_1 : decode cX2_readTokens 1 = .ok (.iconst 0, 1) := by decide +kernel
theorem dX2_readTokens_2 : decode cX2_readTokens 2 = .ok (.putfield 24, 3) := by decide +kernel
theorem dX2_readTokens_5 : decode cX2_readTokens 5 = .ok (.iconst 0, 1) := by decide +kernel
theorem dX2_readTokens_6 : decode cX2_readTokens 6 = .ok (.istore_n 3, 1) := by decide +kernel
theorem dX2_readTokens_7 : decode cX2_readTokens 7 = .ok (.iload_n 3, 1) := by decide +kernel
theorem dX2_readTokens_8 : decode cX2_readTokens 8 = .ok (.iload_n 2, 1) := by decide +kernel
theorem dX2_readTokens_9 : decode cX2_readTokens 9 = .ok (.if_icmp .ge 92, 3) := by decide +kernel
theorem dX2_readTokens_12 : decode cX2_readTokens 12 = .ok (.iload_n 3, 1) := by decide +kernel
theorem dX2_readTokens_13 : decode cX2_readTokens 13 = .ok (.istore 4, 2) := by decide +kernel
theorem dX2_readTokens_15 : decode cX2_readTokens 15 = .ok (.iinc 3 1, 3) := by decide +kernel
theorem dX2_readTokens_18 : decode cX2_readTokens 18 = .ok (.aload_n 1, 1) := by decide +kernel
theorem dX2_readTokens_19 : decode cX2_readTokens 19 = .ok (.iload 4, 2) := by decide +kernel
theorem dX2_readTokens_21 : decode cX2_readTokens 21 = .ok (.baload, 1) := by decide +kernel
theorem dX2_readTokens_22 : decode cX2_readTokens 22 = .ok (.invokestatic 40, 3) := by decide +kernel
theorem dX2_readTokens_25 : decode cX2_readTokens 25 = .ok (.ifCond .eq 6, 3) := by decide +kernel
theorem dX2_readTokens_28 : decode cX2_readTokens 28 = .ok (.goto (-21), 3) := by decide +kernel
theorem dX2_readTokens_31 : decode cX2_readTokens 31 = .ok (.iload_n 3, 1) := by decide +kernel
theorem dX2_readTokens_32 : decode cX2_readTokens 32 = .ok (.iload_n 2, 1) := by decide +kernel
theorem dX2_readTokens_33 : decode cX2_readTokens 33 = .ok (.if_icmp .ge 22, 3) := by decide +kernel
theorem dX2_readTokens_36 : decode cX2_readTokens 36 = .ok (.aload_n 1, 1) := by decide +kernel
theorem dX2_readTokens_37 : decode cX2_readTokens 37 = .ok (.iload 4, 2) := by decide +kernel
theorem dX2_readTokens_39 : decode cX2_readTokens 39 = .ok (.baload, 1) := by decide +kernel
theorem dX2_readTokens_40 : decode cX2_readTokens 40 = .ok (.aload_n 1, 1) := by decide +kernel
theorem dX2_readTokens_41 : decode cX2_readTokens 41 = .ok (.iload_n 3, 1) := by decide +kernel
theorem dX2_readTokens_42 : decode cX2_readTokens 42 = .ok (.baload, 1) := by decide +kernel
theorem dX2_readTokens_43 : decode cX2_readTokens 43 = .ok (.invokestatic 44, 3) := by decide +kernel
theorem dX2_readTokens_46 : decode cX2_readTokens 46 = .ok (.ifCond .eq 9, 3) := by decide +kernel
theorem dX2_readTokens_49 : decode cX2_readTokens 49 = .ok (.iinc 3 1, 3) := by decide +kernel
theorem dX2_readTokens_52 : decode cX2_readTokens 52 = .ok (.goto (-21), 3) := by decide +kernel
theorem dX2_readTokens_55 : decode cX2_readTokens 55 = .ok (.aload_n 1, 1) := by decide +kernel
theorem dX2_readTokens_56 : decode cX2_readTokens 56 = .ok (.iload 4, 2) := by decide +kernel
theorem dX2_readTokens_58 : decode cX2_readTokens 58 = .ok (.baload, 1) := by decide +kernel
theorem dX2_readTokens_59 : decode cX2_readTokens 59 = .ok (.invokestatic 48, 3) := by decide +kernel
theorem dX2_readTokens_62 : decode cX2_readTokens 62 = .ok (.ifCond .eq 22, 3) := by decide +kernel
theorem dX2_readTokens_65 : decode cX2_readTokens 65 = .ok (.aload_n 0, 1) := by decide +kernel
theorem dX2_readTokens_66 : decode cX2_readTokens 66 = .ok (.getstatic 51, 3) := by decide +kernel
theorem dX2_readTokens_69 : decode cX2_readTokens 69 = .ok (.iload 4, 2) := by decide +kernel
theorem dX2_readTokens_71 : decode cX2_readTokens 71 = .ok (.aload_n 1, 1) := by decide +kernel
theorem dX2_readTokens_72 : decode cX2_readTokens 72 = .ok (.iload 4, 2) := by decide +kernel
theorem dX2_readTokens_74 : decode cX2_readTokens 74 = .ok (.iload_n 3, 1) := by decide +kernel
theorem dX2_readTokens_75 : decode cX2_readTokens 75 = .ok (.invokestatic 55, 3) := by decide +kernel
theorem dX2_readTokens_78 : decode cX2_readTokens 78 = .ok (.invokevirtual 59, 3) := by decide +kernel
theorem dX2_readTokens_81 : decode cX2_readTokens 81 = .ok (.goto 17, 3) := by decide +kernel
theorem dX2_readTokens_84 : decode cX2_readTokens 84 = .ok (.aload_n 0, 1) := by decide +kernel
theorem dX2_readTokens_85 : decode cX2_readTokens 85 = .ok (.aload_n 1, 1) := by decide +kernel
theorem dX2_readTokens_86 : decode cX2_readTokens 86 = .ok (.iload 4, 2) := by decide +kernel
theorem dX2_readTokens_88 : decode cX2_readTokens 88 = .ok (.iload_n 3, 1) := by decide +kernel
theorem dX2_readTokens_89 : decode cX2_readTokens 89 = .ok (.invokestatic 63, 3) := by decide +kernel
theorem dX2_readTokens_92 : decode cX2_readTokens 92 = .ok (.iload 4, 2) := by decide +kernel
theorem dX2_readTokens_94 : decode cX2_readTokens 94 = .ok (.iconst 0, 1) := by decide +kernel
theorem dX2_readTokens_95 : decode cX2_readTokens 95 = .ok (.invokevirtual 59, 3) := by decide +kernel
theorem dX2_readTokens_98 : decode cX2_readTokens 98 = .ok (.goto (-91), 3) := by decide +kernel
theorem dX2_readTokens_101 : decode cX2_readTokens 101 = .ok (.aload_n 0, 1) := by decide +kernel
theorem dX2_readTokens_102 : decode cX2_readTokens 102 = .ok (.getstatic 67, 3) := by decide +kernel
theorem dX2_readTokens_105 : decode cX2_readTokens 105 = .ok (.iload_n 2, 1) := by decide +kernel
theorem dX2_readTokens_106 : decode cX2_readTokens 106 = .ok (.iconst 0, 1) := by decide +kernel
theorem dX2_readTokens_107 : decode cX2_readTokens 107 = .ok (.invokevirtual 59, 3) := by decide +kernel
theorem dX2_readTokens_110 : decode cX2_readTokens 110 = .ok (.aload_n 0, 1) := by decide +kernel
theorem dX2_readTokens_111 : decode cX2_readTokens 111 = .ok (.iconst 0, 1) := by decide +kernel
theorem dX2_readTokens_112 : decode cX2_readTokens 112 = .ok (.putfield 28, 3) := by decide +kernel
theorem dX2_readTokens_115 : decode cX2_readTokens 115 = .ok (.aload_n 0, 1) := by decide +kernel
theorem dX2_readTokens_116 : decode cX2_readTokens 116 = .ok (.iconst 0, 1) := by decide +kernel
theorem dX2_readTokens_117 : decode cX2_readTokens 117 = .ok (.putfield 31, 3) := by decide +kernel
theorem dX2_readTokens_120 : decode cX2_readTokens 120 = .ok (.aload_n 0, 1) := by decide +kernel
theorem dX2_readTokens_121 : decode cX2_readTokens 121 = .ok (.iconst 0, 1) := by decide +kernel
theorem dX2_readTokens_122 : decode cX2_readTokens 122 = .ok (.putfield 34, 3) := by decide +kernel
theorem dX2_readTokens_125 : decode cX2_readTokens 125 = .ok (.aload_n 0, 1) := by decide +kernel
theorem dX2_readTokens_126 : decode cX2_readTokens 126 = .ok (.iconst (-1), 1) := by decide +kernel
theorem dX2_readTokens_127 : decode cX2_readTokens 127 = .ok (.putfield 37, 3) := by decide +kernel
theorem dX2_readTokens_130 : decode cX2_readTokens 130 = .ok (.return_, 1) := by decide +kernel
theorem dX2_addToken_0 : decode cX2_addToken 0 = .ok (.aload_n 0, 1) := by decide +kernel
theorem dX2_addToken_1 : decode cX2_addToken 1 = .ok (.getfield 24, 3) := by decide +kernel
theorem dX2_addToken_4 : decode cX2_addToken 4 = .ok (.sipush 501, 3) := by decide +kernel
theorem dX2_addToken_7 : decode cX2_addToken 7 = .ok (.if_icmp .ge 43, 3) := by decide +kernel
theorem dX2_addToken_10 : decode cX2_addToken 10 = .ok (.aload_n 0, 1) := by decide +kernel
theorem dX2_addToken_11 : decode cX2_addToken 11 = .ok (.getfield 13, 3) := by decide +kernel
theorem dX2_addToken_14 : decode cX2_addToken 14 = .ok (.aload_n 0, 1) := by decide +kernel
theorem dX2_addToken_15 : decode cX2_addToken 15 = .ok (.getfield 24, 3) := by decide +kernel
theorem dX2_addToken_18 : decode cX2_addToken 18 = .ok (.aload_n 1, 1) := by decide +kernel
theorem dX2_addToken_19 : decode cX2_addToken 19 = .ok (.aastore, 1) := by decide +kernel
theorem dX2_addToken_20 : decode cX2_addToken 20 = .ok (.aload_n 0, 1) := by decide +kernel
theorem dX2_addToken_21 : decode cX2_addToken 21 = .ok (.getfield 17, 3) := by decide +kernel
theorem dX2_addToken_24 : decode cX2_addToken 24 = .ok (.aload_n 0, 1) := by decide +kernel
theorem dX2_addToken_25 : decode cX2_addToken 25 = .ok (.getfield 24, 3) := by decide +kernel
theorem dX2_addToken_28 : decode cX2_addToken 28 = .ok (.iload_n 2, 1) := by decide +kernel
theorem dX2_addToken_29 : decode cX2_addToken 29 = .ok (.iastore, 1) := by decide +kernel
theorem dX2_addToken_30 : decode cX2_addToken 30 = .ok (.aload_n 0, 1) := by decide +kernel
theorem dX2_addToken_31 : decode cX2_addToken 31 = .ok (.getfield 21, 3) := by decide +kernel
theorem dX2_addToken_34 : decode cX2_addToken 34 = .ok (.aload_n 0, 1) := by decide +kernel
theorem dX2_addToken_35 : decode cX2_addToken 35 = .ok (.getfield 24, 3) := by decide +kernel
theorem dX2_addToken_38 : decode cX2_addToken 38 = .ok (.iload_n 3, 1) := by decide +kernel
theorem dX2_addToken_39 : decode cX2_addToken 39 = .ok (.iastore, 1) := by decide +kernel
theorem dX2_addToken_40 : decode cX2_addToken 40 = .ok (.aload_n 0, 1) := by decide +kernel
theorem dX2_addToken_41 : decode cX2_addToken 41 = .ok (.dup, 1) := by decide +kernel
theorem dX2_addToken_42 : decode cX2_addToken 42 = .ok (.getfield 24, 3) := by decide +kernel
theorem dX2_addToken_45 : decode cX2_addToken 45 = .ok (.iconst 1, 1) := by decide +kernel
theorem dX2_addToken_46 : decode cX2_addToken 46 = .ok (.iadd, 1) := by decide +kernel
theorem dX2_addToken_47 : decode cX2_addToken 47 = .ok (.putfield 24, 3) := by decide +kernel
theorem dX2_addToken_50 : decode cX2_addToken 50 = .ok (.return_, 1) := by decide +kernel
theorem dX2_isSpace_0 : decode cX2_isSpace 0 = .ok (.iload_n 0, 1) := by decide +kernel
theorem dX2_isSpace_1 : decode cX2_isSpace 1 = .ok (.bipush 32, 2) := by decide +kernel
theorem dX2_isSpace_3 : decode cX2_isSpace 3 = .ok (.if_icmp .eq 15, 3) := by decide +kernel
theorem dX2_isSpace_6 : decode cX2_isSpace 6 = .ok (.iload_n 0, 1) := by decide +kernel
theorem dX2_isSpace_7 : decode cX2_isSpace 7 = .ok (.bipush 9, 2) := by decide +kernel
theorem dX2_isSpace_9 : decode cX2_isSpace 9 = .ok (.if_icmp .eq 9, 3) := by decide +kernel
theorem dX2_isSpace_12 : decode cX2_isSpace 12 = .ok (.iload_n 0, 1) := by decide +kernel
theorem dX2_isSpace_13 : decode cX2_isSpace 13 = .ok (.bipush 10, 2) := by decide +kernel
theorem dX2_isSpace_15 : decode cX2_isSpace 15 = .ok (.if_icmp .ne 7, 3) := by decide +kernel
theorem dX2_isSpace_18 : decode cX2_isSpace 18 = .ok (.iconst 1, 1) := by decide +kernel
theorem dX2_isSpace_19 : decode cX2_isSpace 19 = .ok (.goto 4, 3) := by decide +kernel
theorem dX2_isSpace_22 : decode cX2_isSpace 22 = .ok (.iconst 0, 1) := by decide +kernel
theorem dX2_isSpace_23 : decode cX2_isSpace 23 = .ok (.ireturn, 1) := by decide +kernel
theorem dX2_isDigit_0 : decode cX2_isDigit 0 = .ok (.iload_n 0, 1) := by decide +kernel
theorem dX2_isDigit_1 : decode cX2_isDigit 1 = .ok (.bipush 48, 2) := by decide +kernel
theorem dX2_isDigit_3 : decode cX2_isDigit 3 = .ok (.if_icmp .lt 13, 3) := by decide +kernel
theorem dX2_isDigit_6 : decode cX2_isDigit 6 = .ok (.iload_n 0, 1) := by decide +kernel
theorem dX2_isDigit_7 : decode cX2_isDigit 7 = .ok (.bipush 57, 2) := by decide +kernel
theorem dX2_isDigit_9 : decode cX2_isDigit 9 = .ok (.if_icmp .gt 7, 3) := by decide +kernel
theorem dX2_isDigit_12 : decode cX2_isDigit 12 = .ok (.iconst 1, 1) := by decide +kernel
theorem dX2_isDigit_13 : decode cX2_isDigit 13 = .ok (.goto 4, 3) := by decide +kernel
theorem dX2_isDigit_16 : decode cX2_isDigit 16 = .ok (.iconst 0, 1) := by decide +kernel
theorem dX2_isDigit_17 : decode cX2_isDigit 17 = .ok (.ireturn, 1) := by decide +kernel
theorem dX2_isLetter_0 : decode cX2_isLetter 0 = .ok (.iload_n 0, 1) := by decide +kernel
theorem dX2_isLetter_1 : decode cX2_isLetter 1 = .ok (.bipush 97, 2) := by decide +kernel
theorem dX2_isLetter_3 : decode cX2_isLetter 3 = .ok (.if_icmp .lt 13, 3) := by decide +kernel
theorem dX2_isLetter_6 : decode cX2_isLetter 6 = .ok (.iload_n 0, 1) := by decide +kernel
theorem dX2_isLetter_7 : decode cX2_isLetter 7 = .ok (.bipush 122, 2) := by decide +kernel
theorem dX2_isLetter_9 : decode cX2_isLetter 9 = .ok (.if_icmp .gt 7, 3) := by decide +kernel
theorem dX2_isLetter_12 : decode cX2_isLetter 12 = .ok (.iconst 1, 1) := by decide +kernel
theorem dX2_isLetter_13 : decode cX2_isLetter 13 = .ok (.goto 4, 3) := by decide +kernel
theorem dX2_isLetter_16 : decode cX2_isLetter 16 = .ok (.iconst 0, 1) := by decide +kernel
theorem dX2_isLetter_17 : decode cX2_isLetter 17 = .ok (.ireturn, 1) := by decide +kernel
theorem dX2_belongTogether_0 : decode cX2_belongTogether 0 = .ok (.iload_n 0, 1) := by decide +kernel
theorem dX2_belongTogether_1 : decode cX2_belongTogether 1 = .ok (.invokestatic 70, 3) := by decide +kernel
theorem dX2_belongTogether_4 : decode cX2_belongTogether 4 = .ok (.ifCond .eq 10, 3) := by decide +kernel
theorem dX2_belongTogether_7 : decode cX2_belongTogether 7 = .ok (.iload_n 1, 1) := by decide +kernel
theorem dX2_belongTogether_8 : decode cX2_belongTogether 8 = .ok (.invokestatic 70, 3) := by decide +kernel
theorem dX2_belongTogether_11 : decode cX2_belongTogether 11 = .ok (.ifCond .ne 17, 3) := by decide +kernel
theorem dX2_belongTogether_14 : decode cX2_belongTogether 14 = .ok (.iload_n 0, 1) := by decide +kernel
theorem dX2_belongTogether_15 : decode cX2_belongTogether 15 = .ok (.invokestatic 48, 3) := by decide +kernel
theorem dX2_belongTogether_18 : decode cX2_belongTogether 18 = .ok (.ifCond .eq 14, 3) := by decide +kernel
theorem dX2_belongTogether_21 : decode cX2_belongTogether 21 = .ok (.iload_n 1, 1) := by decide +kernel
theorem dX2_belongTogether_22 : decode cX2_belongTogether 22 = .ok (.invokestatic 48, 3) := by decide +kernel
theorem dX2_belongTogether_25 : decode cX2_belongTogether 25 = .ok (.ifCond .eq 7, 3) := by decide +kernel
theorem dX2_belongTogether_28 : decode cX2_belongTogether 28 = .ok (.iconst 1, 1) := by decide +kernel
theorem dX2_belongTogether_29 : decode cX2_belongTogether 29 = .ok (.goto 4, 3) := by decide +kernel
theorem dX2_belongTogether_32 : decode cX2_belongTogether 32 = .ok (.iconst 0, 1) := by decide +kernel
theorem dX2_belongTogether_33 : decode cX2_belongTogether 33 = .ok (.ireturn, 1) := by decide +kernel
theorem dX2_numberOf_0 : decode cX2_numberOf 0 = .ok (.iload_n 2, 1) := by decide +kernel
theorem dX2_numberOf_1 : decode cX2_numberOf 1 = .ok (.iload_n 1, 1) := by decide +kernel
theorem dX2_numberOf_2 : decode cX2_numberOf 2 = .ok (.isub, 1) := by decide +kernel
theorem dX2_numberOf_3 : decode cX2_numberOf 3 = .ok (.iconst 3, 1) := by decide +kernel
theorem dX2_numberOf_4 : decode cX2_numberOf 4 = .ok (.if_icmp .le 7, 3) := by decide +kernel
theorem dX2_numberOf_7 : decode cX2_numberOf 7 = .ok (.sipush 1000, 3) := by decide +kernel
theorem dX2_numberOf_10 : decode cX2_numberOf 10 = .ok (.ireturn, 1) := by decide +kernel
theorem dX2_numberOf_11 : decode cX2_numberOf 11 = .ok (.iconst 0, 1) := by decide +kernel
theorem dX2_numberOf_12 : decode cX2_numberOf 12 = .ok (.istore_n 3, 1) := by decide +kernel
theorem dX2_numberOf_13 : decode cX2_numberOf 13 = .ok (.iload_n 1, 1) := by decide +kernel
theorem dX2_numberOf_14 : decode cX2_numberOf 14 = .ok (.istore 4, 2) := by decide +kernel
theorem dX2_numberOf_16 : decode cX2_numberOf 16 = .ok (.iload 4, 2) := by decide +kernel
theorem dX2_numberOf_18 : decode cX2_numberOf 18 = .ok (.iload_n 2, 1) := by decide +kernel
theorem dX2_numberOf_19 : decode cX2_numberOf 19 = .ok (.if_icmp .ge 22, 3) := by decide +kernel
theorem dX2_numberOf_22 : decode cX2_numberOf 22 = .ok (.iload_n 3, 1) := by decide +kernel
theorem dX2_numberOf_23 : decode cX2_numberOf 23 = .ok (.bipush 10, 2) := by decide +kernel
theorem dX2_numberOf_25 : decode cX2_numberOf 25 = .ok (.imul, 1) := by decide +kernel
theorem dX2_numberOf_26 : decode cX2_numberOf 26 = .ok (.aload_n 0, 1) := by decide +kernel
theorem dX2_numberOf_27 : decode cX2_numberOf 27 = .ok (.iload 4, 2) := by decide +kernel
theorem dX2_numberOf_29 : decode cX2_numberOf 29 = .ok (.baload, 1) := by decide +kernel
theorem dX2_numberOf_30 : decode cX2_numberOf 30 = .ok (.iadd, 1) := by decide +kernel
theorem dX2_numberOf_31 : decode cX2_numberOf 31 = .ok (.bipush 48, 2) := by decide +kernel
theorem dX2_numberOf_33 : decode cX2_numberOf 33 = .ok (.isub, 1) := by decide +kernel
theorem dX2_numberOf_34 : decode cX2_numberOf 34 = .ok (.istore_n 3, 1) := by decide +kernel
theorem dX2_numberOf_35 : decode cX2_numberOf 35 = .ok (.iinc 4 1, 3) := by decide +kernel
theorem dX2_numberOf_38 : decode cX2_numberOf 38 = .ok (.goto (-22), 3) := by decide +kernel
theorem dX2_numberOf_41 : decode cX2_numberOf 41 = .ok (.iload_n 3, 1) := by decide +kernel
theorem dX2_numberOf_42 : decode cX2_numberOf 42 = .ok (.ireturn, 1) := by decide +kernel
theorem dX2_kindOf_0 : decode cX2_kindOf 0 = .ok (.getstatic 73, 3) := by decide +kernel
theorem dX2_kindOf_3 : decode cX2_kindOf 3 = .ok (.astore_n 3, 1) := by decide +kernel
theorem dX2_kindOf_4 : decode cX2_kindOf 4 = .ok (.aload_n 3, 1) := by decide +kernel
theorem dX2_kindOf_5 : decode cX2_kindOf 5 = .ok (.arraylength, 1) := by decide +kernel
theorem dX2_kindOf_6 : decode cX2_kindOf 6 = .ok (.istore 4, 2) := by decide +kernel
theorem dX2_kindOf_8 : decode cX2_kindOf 8 = .ok (.iconst 0, 1) := by decide +kernel
theorem dX2_kindOf_9 : decode cX2_kindOf 9 = .ok (.istore 5, 2) := by decide +kernel
theorem dX2_kindOf_11 : decode cX2_kindOf 11 = .ok (.iload 5, 2) := by decide +kernel
theorem dX2_kindOf_13 : decode cX2_kindOf 13 = .ok (.iload 4, 2) := by decide +kernel
theorem dX2_kindOf_15 : decode cX2_kindOf 15 = .ok (.if_icmp .ge 32, 3) := by decide +kernel
theorem dX2_kindOf_18 : decode cX2_kindOf 18 = .ok (.aload_n 3, 1) := by decide +kernel
theorem dX2_kindOf_19 : decode cX2_kindOf 19 = .ok (.iload 5, 2) := by decide +kernel
theorem dX2_kindOf_21 : decode cX2_kindOf 21 = .ok (.aaload, 1) := by decide +kernel
theorem dX2_kindOf_22 : decode cX2_kindOf 22 = .ok (.astore 6, 2) := by decide +kernel
theorem dX2_kindOf_24 : decode cX2_kindOf 24 = .ok (.aload 6, 2) := by decide +kernel
theorem dX2_kindOf_26 : decode cX2_kindOf 26 = .ok (.getfield 76, 3) := by decide +kernel
theorem dX2_kindOf_29 : decode cX2_kindOf 29 = .ok (.aload_n 0, 1) := by decide +kernel
theorem dX2_kindOf_30 : decode cX2_kindOf 30 = .ok (.iload_n 1, 1) := by decide +kernel
theorem dX2_kindOf_31 : decode cX2_kindOf 31 = .ok (.iload_n 2, 1) := by decide +kernel
theorem dX2_kindOf_32 : decode cX2_kindOf 32 = .ok (.invokestatic 80, 3) := by decide +kernel
theorem dX2_kindOf_35 : decode cX2_kindOf 35 = .ok (.ifCond .eq 6, 3) := by decide +kernel
theorem dX2_kindOf_38 : decode cX2_kindOf 38 = .ok (.aload 6, 2) := by decide +kernel
theorem dX2_kindOf_40 : decode cX2_kindOf 40 = .ok (.areturn, 1) := by decide +kernel
theorem dX2_kindOf_41 : decode cX2_kindOf 41 = .ok (.iinc 5 1, 3) := by decide +kernel
theorem dX2_kindOf_44 : decode cX2_kindOf 44 = .ok (.goto (-33), 3) := by decide +kernel
theorem dX2_kindOf_47 : decode cX2_kindOf 47 = .ok (.getstatic 84, 3) := by decide +kernel
theorem dX2_kindOf_50 : decode cX2_kindOf 50 = .ok (.areturn, 1) := by decide +kernel
theorem dX2_isText_0 : decode cX2_isText 0 = .ok (.aload_n 0, 1) := by decide +kernel
theorem dX2_isText_1 : decode cX2_isText 1 = .ok (.invokevirtual 87, 3) := by decide +kernel
theorem dX2_isText_4 : decode cX2_isText 4 = .ok (.iload_n 3, 1) := by decide +kernel
theorem dX2_isText_5 : decode cX2_isText 5 = .ok (.iload_n 2, 1) := by decide +kernel
theorem dX2_isText_6 : decode cX2_isText 6 = .ok (.isub, 1) := by decide +kernel
theorem dX2_isText_7 : decode cX2_isText 7 = .ok (.if_icmp .eq 5, 3) := by decide +kernel
theorem dX2_isText_10 : decode cX2_isText 10 = .ok (.iconst 0, 1) := by decide +kernel
theorem dX2_isText_11 : decode cX2_isText 11 = .ok (.ireturn, 1) := by decide +kernel
theorem dX2_isText_12 : decode cX2_isText 12 = .ok (.iload_n 2, 1) := by decide +kernel
theorem dX2_isText_13 : decode cX2_isText 13 = .ok (.istore 4, 2) := by decide +kernel
theorem dX2_isText_15 : decode cX2_isText 15 = .ok (.iload 4, 2) := by decide +kernel
theorem dX2_isText_17 : decode cX2_isText 17 = .ok (.iload_n 3, 1) := by decide +kernel
theorem dX2_isText_18 : decode cX2_isText 18 = .ok (.if_icmp .ge 26, 3) := by decide +kernel
theorem dX2_isText_21 : decode cX2_isText 21 = .ok (.aload_n 0, 1) := by decide +kernel
theorem dX2_isText_22 : decode cX2_isText 22 = .ok (.iload 4, 2) := by decide +kernel
theorem dX2_isText_24 : decode cX2_isText 24 = .ok (.iload_n 2, 1) := by decide +kernel
theorem dX2_isText_25 : decode cX2_isText 25 = .ok (.isub, 1) := by decide +kernel
theorem dX2_isText_26 : decode cX2_isText 26 = .ok (.invokevirtual 93, 3) := by decide +kernel
theorem dX2_isText_29 : decode cX2_isText 29 = .ok (.aload_n 1, 1) := by decide +kernel
theorem dX2_isText_30 : decode cX2_isText 30 = .ok (.iload 4, 2) := by decide +kernel
theorem dX2_isText_32 : decode cX2_isText 32 = .ok (.baload, 1) := by decide +kernel
theorem dX2_isText_33 : decode cX2_isText 33 = .ok (.if_icmp .eq 5, 3) := by decide +kernel
theorem dX2_isText_36 : decode cX2_isText 36 = .ok (.iconst 0, 1) := by decide +kernel
theorem dX2_isText_37 : decode cX2_isText 37 = .ok (.ireturn, 1) := by decide +kernel
theorem dX2_isText_38 : decode cX2_isText 38 = .ok (.iinc 4 1, 3) := by decide +kernel
theorem dX2_isText_41 : decode cX2_isText 41 = .ok (.goto (-26), 3) := by decide +kernel
theorem dX2_isText_44 : decode cX2_isText 44 = .ok (.iconst 1, 1) := by decide +kernel
theorem dX2_isText_45 : decode cX2_isText 45 = .ok (.ireturn, 1) := by decide +kernel
theorem dX2_performHeader_0 : decode cX2_performHeader 0 = .ok (.aload_n 0, 1) := by decide +kernel
theorem dX2_performHeader_1 : decode cX2_performHeader 1 = .ok (.getstatic 97, 3) := by decide +kernel
theorem dX2_performHeader_4 : decode cX2_performHeader 4 = .ok (.invokevirtual 100, 3) := by decide +kernel
theorem dX2_performHeader_7 : decode cX2_performHeader 7 = .ok (.ifCond .ne 5, 3) := by decide +kernel
theorem dX2_performHeader_10 : decode cX2_performHeader 10 = .ok (.iconst 0, 1) := by decide +kernel
theorem dX2_performHeader_11 : decode cX2_performHeader 11 = .ok (.ireturn, 1) := by decide +kernel
theorem dX2_performHeader_12 : decode cX2_performHeader 12 = .ok (.aload_n 0, 1) := by decide +kernel
theorem dX2_performHeader_13 : decode cX2_performHeader 13 = .ok (.iconst 2, 1) := by decide +kernel
theorem dX2_performHeader_14 : decode cX2_performHeader 14 = .ok (.bipush 20, 2) := by decide +kernel
theorem dX2_performHeader_16 : decode cX2_performHeader 16 = .ok (.invokevirtual 104, 3) := by decide +kernel
theorem dX2_performHeader_19 : decode cX2_performHeader 19 = .ok (.istore_n 2, 1) := by decide +kernel
theorem dX2_performHeader_20 : decode cX2_performHeader 20 = .ok (.iload_n 2, 1) := by decide +kernel
theorem dX2_performHeader_21 : decode cX2_performHeader 21 = .ok (.iconst (-1), 1) := by decide +kernel
theorem dX2_performHeader_22 : decode cX2_performHeader 22 = .ok (.if_icmp .ne 5, 3) := by decide +kernel
theorem dX2_performHeader_25 : decode cX2_performHeader 25 = .ok (.iconst 0, 1) := by decide +kernel
theorem dX2_performHeader_26 : decode cX2_performHeader 26 = .ok (.ireturn, 1) := by decide +kernel
theorem dX2_performHeader_27 : decode cX2_performHeader 27 = .ok (.aload_n 0, 1) := by decide +kernel
theorem dX2_performHeader_28 : decode cX2_performHeader 28 = .ok (.iconst 1, 1) := by decide +kernel
theorem dX2_performHeader_29 : decode cX2_performHeader 29 = .ok (.bipush 8, 2) := by decide +kernel
theorem dX2_performHeader_31 : decode cX2_performHeader 31 = .ok (.invokevirtual 104, 3) := by decide +kernel
theorem dX2_performHeader_34 : decode cX2_performHeader 34 = .ok (.istore_n 3, 1) := by decide +kernel
theorem dX2_performHeader_35 : decode cX2_performHeader 35 = .ok (.iload_n 3, 1) := by decide +kernel
theorem dX2_performHeader_36 : decode cX2_performHeader 36 = .ok (.iconst (-1), 1) := by decide +kernel
theorem dX2_performHeader_37 : decode cX2_performHeader 37 = .ok (.if_icmp .ne 5, 3) := by decide +kernel
theorem dX2_performHeader_40 : decode cX2_performHeader 40 = .ok (.iconst 0, 1) := by decide +kernel
theorem dX2_performHeader_41 : decode cX2_performHeader 41 = .ok (.ireturn, 1) := by decide +kernel
theorem dX2_performHeader_42 : decode cX2_performHeader 42 = .ok (.aload_n 0, 1) := by decide +kernel
theorem dX2_performHeader_43 : decode cX2_performHeader 43 = .ok (.invokevirtual 108, 3) := by decide +kernel
theorem dX2_performHeader_46 : decode cX2_performHeader 46 = .ok (.istore 4, 2) := by decide +kernel
theorem dX2_performHeader_48 : decode cX2_performHeader 48 = .ok (.iload 4, 2) := by decide +kernel
theorem dX2_performHeader_50 : decode cX2_performHeader 50 = .ok (.iconst (-1), 1) := by decide +kernel
theorem dX2_performHeader_51 : decode cX2_performHeader 51 = .ok (.if_icmp .ne 5, 3) := by decide +kernel
theorem dX2_performHeader_54 : decode cX2_performHeader 54 = .ok (.iconst 0, 1) := by decide +kernel
theorem dX2_performHeader_55 : decode cX2_performHeader 55 = .ok (.ireturn, 1) := by decide +kernel
theorem dX2_performHeader_56 : decode cX2_performHeader 56 = .ok (.aload_n 1, 1) := by decide +kernel
theorem dX2_performHeader_57 : decode cX2_performHeader 57 = .ok (.iload_n 2, 1) := by decide +kernel
theorem dX2_performHeader_58 : decode cX2_performHeader 58 = .ok (.iload_n 3, 1) := by decide +kernel
theorem dX2_performHeader_59 : decode cX2_performHeader 59 = .ok (.iload 4, 2) := by decide +kernel
theorem dX2_performHeader_61 : decode cX2_performHeader 61 = .ok (.invokevirtual 111, 3) := by decide +kernel
theorem dX2_performHeader_64 : decode cX2_performHeader 64 = .ok (.aload_n 0, 1) := by decide +kernel
theorem dX2_performHeader_65 : decode cX2_performHeader 65 = .ok (.getstatic 117, 3) := by decide +kernel
theorem dX2_performHeader_68 : decode cX2_performHeader 68 = .ok (.invokevirtual 100, 3) := by decide +kernel
theorem dX2_performHeader_71 : decode cX2_performHeader 71 = .ok (.ireturn, 1) := by decide +kernel
theorem dX2_performCommands_0 : decode cX2_performCommands 0 = .ok (.aload_n 0, 1) := by decide +kernel
theorem dX2_performCommands_1 : decode cX2_performCommands 1 = .ok (.aload_n 1, 1) := by decide +kernel
theorem dX2_performCommands_2 : decode cX2_performCommands 2 = .ok (.putfield 120, 3) := by decide +kernel
theorem dX2_performCommands_5 : decode cX2_performCommands 5 = .ok (.iconst 0, 1) := by decide +kernel
theorem dX2_performCommands_6 : decode cX2_performCommands 6 = .ok (.istore_n 2, 1) := by decide +kernel
theorem dX2_performCommands_7 : decode cX2_performCommands 7 = .ok (.iload_n 2, 1) := by decide +kernel
theorem dX2_performCommands_8 : decode cX2_performCommands 8 = .ok (.sipush 501, 3) := by decide +kernel
theorem dX2_performCommands_11 : decode cX2_performCommands 11 = .ok (.if_icmp .ge 67, 3) := by decide +kernel
theorem dX2_performCommands_14 : decode cX2_performCommands 14 = .ok (.aload_n 0, 1) := by decide +kernel
theorem dX2_performCommands_15 : decode cX2_performCommands 15 = .ok (.getfield 13, 3) := by decide +kernel
theorem dX2_performCommands_18 : decode cX2_performCommands 18 = .ok (.aload_n 0, 1) := by decide +kernel
theorem dX2_performCommands_19 : decode cX2_performCommands 19 = .ok (.getfield 28, 3) := by decide +kernel
theorem dX2_performCommands_22 : decode cX2_performCommands 22 = .ok (.aaload, 1) := by decide +kernel
theorem dX2_performCommands_23 : decode cX2_performCommands 23 = .ok (.getstatic 67, 3) := by decide +kernel
theorem dX2_performCommands_26 : decode cX2_performCommands 26 = .ok (.if_acmp .eq 52, 3) := by decide +kernel
theorem dX2_performCommands_29 : decode cX2_performCommands 29 = .ok (.aload_n 0, 1) := by decide +kernel
theorem dX2_performCommands_30 : decode cX2_performCommands 30 = .ok (.getfield 13, 3) := by decide +kernel
theorem dX2_performCommands_33 : decode cX2_performCommands 33 = .ok (.aload_n 0, 1) := by decide +kernel
theorem dX2_performCommands_34 : decode cX2_performCommands 34 = .ok (.getfield 28, 3) := by decide +kernel
theorem dX2_performCommands_37 : decode cX2_performCommands 37 = .ok (.aaload, 1) := by decide +kernel
theorem dX2_performCommands_38 : decode cX2_performCommands 38 = .ok (.getstatic 124, 3) := by decide +kernel
theorem dX2_performCommands_41 : decode cX2_performCommands 41 = .ok (.if_acmp .ne 10, 3) := by decide +kernel
theorem dX2_performCommands_44 : decode cX2_performCommands 44 = .ok (.aload_n 0, 1) := by decide +kernel
theorem dX2_performCommands_45 : decode cX2_performCommands 45 = .ok (.invokevirtual 127, 3) := by decide +kernel
theorem dX2_performCommands_48 : decode cX2_performCommands 48 = .ok (.goto 7, 3) := by decide +kernel
theorem dX2_performCommands_51 : decode cX2_performCommands 51 = .ok (.aload_n 0, 1) := by decide +kernel
theorem dX2_performCommands_52 : decode cX2_performCommands 52 = .ok (.invokevirtual 131, 3) := by decide +kernel
theorem dX2_performCommands_55 : decode cX2_performCommands 55 = .ok (.istore_n 3, 1) := by decide +kernel
theorem dX2_performCommands_56 : decode cX2_performCommands 56 = .ok (.iload_n 3, 1) := by decide +kernel
theorem dX2_performCommands_57 : decode cX2_performCommands 57 = .ok (.ifCond .eq 13, 3) := by decide +kernel
theorem dX2_performCommands_60 : decode cX2_performCommands 60 = .ok (.aload_n 0, 1) := by decide +kernel
theorem dX2_performCommands_61 : decode cX2_performCommands 61 = .ok (.getstatic 117, 3) := by decide +kernel
theorem dX2_performCommands_64 : decode cX2_performCommands 64 = .ok (.invokevirtual 100, 3) := by decide +kernel
theorem dX2_performCommands_67 : decode cX2_performCommands 67 = .ok (.ifCond .ne 5, 3) := by decide +kernel
theorem dX2_performCommands_70 : decode cX2_performCommands 70 = .ok (.iconst 0, 1) := by decide +kernel
theorem dX2_performCommands_71 : decode cX2_performCommands 71 = .ok (.ireturn, 1) := by decide +kernel
theorem dX2_performCommands_72 : decode cX2_performCommands 72 = .ok (.iinc 2 1, 3) := by decide +kernel
theorem dX2_performCommands_75 : decode cX2_performCommands 75 = .ok (.goto (-68), 3) := by decide +kernel
theorem dX2_performCommands_78 : decode cX2_performCommands 78 = .ok (.iconst 1, 1) := by decide +kernel
theorem dX2_performCommands_79 : decode cX2_performCommands 79 = .ok (.ireturn, 1) := by decide +kernel
theorem dX2_performRepeat_0 : decode cX2_performRepeat 0 = .ok (.aload_n 0, 1) := by decide +kernel
theorem dX2_performRepeat_1 : decode cX2_performRepeat 1 = .ok (.dup, 1) := by decide +kernel
theorem dX2_performRepeat_2 : decode cX2_performRepeat 2 = .ok (.getfield 28, 3) := by decide +kernel
theorem dX2_performRepeat_5 : decode cX2_performRepeat 5 = .ok (.iconst 1, 1) := by decide +kernel
theorem dX2_performRepeat_6 : decode cX2_performRepeat 6 = .ok (.iadd, 1) := by decide +kernel
theorem dX2_performRepeat_7 : decode cX2_performRepeat 7 = .ok (.putfield 28, 3) := by decide +kernel
theorem dX2_performRepeat_10 : decode cX2_performRepeat 10 = .ok (.aload_n 0, 1) := by decide +kernel
theorem dX2_performRepeat_11 : decode cX2_performRepeat 11 = .ok (.iconst 1, 1) := by decide +kernel
theorem dX2_performRepeat_12 : decode cX2_performRepeat 12 = .ok (.bipush 9, 2) := by decide +kernel
theorem dX2_performRepeat_14 : decode cX2_performRepeat 14 = .ok (.invokevirtual 104, 3) := by decide +kernel
theorem dX2_performRepeat_17 : decode cX2_performRepeat 17 = .ok (.istore_n 1, 1) := by decide +kernel
theorem dX2_performRepeat_18 : decode cX2_performRepeat 18 = .ok (.iload_n 1, 1) := by decide +kernel
theorem dX2_performRepeat_19 : decode cX2_performRepeat 19 = .ok (.iconst (-1), 1) := by decide +kernel
theorem dX2_performRepeat_20 : decode cX2_performRepeat 20 = .ok (.if_icmp .eq 13, 3) := by decide +kernel
theorem dX2_performRepeat_23 : decode cX2_performRepeat 23 = .ok (.aload_n 0, 1) := by decide +kernel
theorem dX2_performRepeat_24 : decode cX2_performRepeat 24 = .ok (.getstatic 134, 3) := by decide +kernel
theorem dX2_performRepeat_27 : decode cX2_performRepeat 27 = .ok (.invokevirtual 100, 3) := by decide +kernel
theorem dX2_performRepeat_30 : decode cX2_performRepeat 30 = .ok (.ifCond .ne 5, 3) := by decide +kernel
theorem dX2_performRepeat_33 : decode cX2_performRepeat 33 = .ok (.iconst 0, 1) := by decide +kernel
theorem dX2_performRepeat_34 : decode cX2_performRepeat 34 = .ok (.ireturn, 1) := by decide +kernel
theorem dX2_performRepeat_35 : decode cX2_performRepeat 35 = .ok (.aload_n 0, 1) := by decide +kernel
theorem dX2_performRepeat_36 : decode cX2_performRepeat 36 = .ok (.getfield 28, 3) := by decide +kernel
theorem dX2_performRepeat_39 : decode cX2_performRepeat 39 = .ok (.istore_n 2, 1) := by decide +kernel
theorem dX2_performRepeat_40 : decode cX2_performRepeat 40 = .ok (.iconst 0, 1) := by decide +kernel
theorem dX2_performRepeat_41 : decode cX2_performRepeat 41 = .ok (.istore_n 3, 1) := by decide +kernel
theorem dX2_performRepeat_42 : decode cX2_performRepeat 42 = .ok (.iload_n 3, 1) := by decide +kernel
theorem dX2_performRepeat_43 : decode cX2_performRepeat 43 = .ok (.iload_n 1, 1) := by decide +kernel
theorem dX2_performRepeat_44 : decode cX2_performRepeat 44 = .ok (.if_icmp .ge 65, 3) := by decide +kernel
theorem dX2_performRepeat_47 : decode cX2_performRepeat 47 = .ok (.aload_n 0, 1) := by decide +kernel
theorem dX2_performRepeat_48 : decode cX2_performRepeat 48 = .ok (.iload_n 2, 1) := by decide +kernel
theorem dX2_performRepeat_49 : decode cX2_performRepeat 49 = .ok (.putfield 28, 3) := by decide +kernel
theorem dX2_performRepeat_52 : decode cX2_performRepeat 52 = .ok (.iconst 0, 1) := by decide +kernel
theorem dX2_performRepeat_53 : decode cX2_performRepeat 53 = .ok (.istore 4, 2) := by decide +kernel
theorem dX2_performRepeat_55 : decode cX2_performRepeat 55 = .ok (.iload 4, 2) := by decide +kernel
theorem dX2_performRepeat_57 : decode cX2_performRepeat 57 = .ok (.sipush 501, 3) := by decide +kernel
theorem dX2_performRepeat_60 : decode cX2_performRepeat 60 = .ok (.if_icmp .ge 43, 3) := by decide +kernel
theorem dX2_performRepeat_63 : decode cX2_performRepeat 63 = .ok (.aload_n 0, 1) := by decide +kernel
theorem dX2_performRepeat_64 : decode cX2_performRepeat 64 = .ok (.getfield 13, 3) := by decide +kernel
theorem dX2_performRepeat_67 : decode cX2_performRepeat 67 = .ok (.aload_n 0, 1) := by decide +kernel
theorem dX2_performRepeat_68 : decode cX2_performRepeat 68 = .ok (.getfield 28, 3) := by decide +kernel
theorem dX2_performRepeat_71 : decode cX2_performRepeat 71 = .ok (.aaload, 1) := by decide +kernel
theorem dX2_performRepeat_72 : decode cX2_performRepeat 72 = .ok (.getstatic 137, 3) := by decide +kernel
theorem dX2_performRepeat_75 : decode cX2_performRepeat 75 = .ok (.if_acmp .eq 28, 3) := by decide +kernel
theorem dX2_performRepeat_78 : decode cX2_performRepeat 78 = .ok (.aload_n 0, 1) := by decide +kernel
theorem dX2_performRepeat_79 : decode cX2_performRepeat 79 = .ok (.invokevirtual 131, 3) := by decide +kernel
theorem dX2_performRepeat_82 : decode cX2_performRepeat 82 = .ok (.ifCond .eq 13, 3) := by decide +kernel
theorem dX2_performRepeat_85 : decode cX2_performRepeat 85 = .ok (.aload_n 0, 1) := by decide +kernel
theorem dX2_performRepeat_86 : decode cX2_performRepeat 86 = .ok (.getstatic 117, 3) := by decide +kernel
theorem dX2_performRepeat_89 : decode cX2_performRepeat 89 = .ok (.invokevirtual 100, 3) := by decide +kernel
theorem dX2_performRepeat_92 : decode cX2_performRepeat 92 = .ok (.ifCond .ne 5, 3) := by decide +kernel
theorem dX2_performRepeat_95 : decode cX2_performRepeat 95 = .ok (.iconst 0, 1) := by decide +kernel
theorem dX2_performRepeat_96 : decode cX2_performRepeat 96 = .ok (.ireturn, 1) := by decide +kernel
theorem dX2_performRepeat_97 : decode cX2_performRepeat 97 = .ok (.iinc 4 1, 3) := by decide +kernel
theorem dX2_performRepeat_100 : decode cX2_performRepeat 100 = .ok (.goto (-45), 3) := by decide +kernel
theorem dX2_performRepeat_103 : decode cX2_performRepeat 103 = .ok (.iinc 3 1, 3) := by decide +kernel
theorem dX2_performRepeat_106 : decode cX2_performRepeat 106 = .ok (.goto (-64), 3) := by decide +kernel
theorem dX2_performRepeat_109 : decode cX2_performRepeat 109 = .ok (.aload_n 0, 1) := by decide +kernel
theorem dX2_performRepeat_110 : decode cX2_performRepeat 110 = .ok (.getstatic 137, 3) := by decide +kernel
theorem dX2_performRepeat_113 : decode cX2_performRepeat 113 = .ok (.invokevirtual 100, 3) := by decide +kernel
theorem dX2_performRepeat_116 : decode cX2_performRepeat 116 = .ok (.ireturn, 1) := by decide +kernel
theorem dX2_performSimple_0 : decode cX2_performSimple 0 = .ok (.aload_n 0, 1) := by decide +kernel
theorem dX2_performSimple_1 : decode cX2_performSimple 1 = .ok (.dup, 1) := by decide +kernel
theorem dX2_performSimple_2 : decode cX2_performSimple 2 = .ok (.getfield 31, 3) := by decide +kernel
theorem dX2_performSimple_5 : decode cX2_performSimple 5 = .ok (.iconst 1, 1) := by decide +kernel
theorem dX2_performSimple_6 : decode cX2_performSimple 6 = .ok (.iadd, 1) := by decide +kernel
theorem dX2_performSimple_7 : decode cX2_performSimple 7 = .ok (.putfield 31, 3) := by decide +kernel
theorem dX2_performSimple_10 : decode cX2_performSimple 10 = .ok (.getstatic 140, 3) := by decide +kernel
theorem dX2_performSimple_13 : decode cX2_performSimple 13 = .ok (.aload_n 0, 1) := by decide +kernel
theorem dX2_performSimple_14 : decode cX2_performSimple 14 = .ok (.getfield 13, 3) := by decide +kernel
theorem dX2_performSimple_17 : decode cX2_performSimple 17 = .ok (.aload_n 0, 1) := by decide +kernel
theorem dX2_performSimple_18 : decode cX2_performSimple 18 = .ok (.getfield 28, 3) := by decide +kernel
theorem dX2_performSimple_21 : decode cX2_performSimple 21 = .ok (.aaload, 1) := by decide +kernel
theorem dX2_performSimple_22 : decode cX2_performSimple 22 = .ok (.invokevirtual 145, 3) := by decide +kernel
theorem dX2_performSimple_25 : decode cX2_performSimple 25 = .ok (.iaload, 1) := by decide +kernel
theorem dX2_performSimple_26 : decode cX2_performSimple 26 = .ok (.tableswitch 141 1 8 #[46, 51, 56, 87, 92, 126, 131, 136], 46) := by decide +kernel
theorem dX2_performSimple_72 : decode cX2_performSimple 72 = .ok (.aload_n 0, 1) := by decide +kernel
theorem dX2_performSimple_73 : decode cX2_performSimple 73 = .ok (.invokevirtual 148, 3) := by decide +kernel
theorem dX2_performSimple_76 : decode cX2_performSimple 76 = .ok (.ireturn, 1) := by decide +kernel
theorem dX2_performSimple_77 : decode cX2_performSimple 77 = .ok (.aload_n 0, 1) := by decide +kernel
theorem dX2_performSimple_78 : decode cX2_performSimple 78 = .ok (.invokevirtual 151, 3) := by decide +kernel
theorem dX2_performSimple_81 : decode cX2_performSimple 81 = .ok (.ireturn, 1) := by decide +kernel
theorem dX2_performSimple_82 : decode cX2_performSimple 82 = .ok (.aload_n 0, 1) := by decide +kernel
theorem dX2_performSimple_83 : decode cX2_performSimple 83 = .ok (.dup, 1) := by decide +kernel
theorem dX2_performSimple_84 : decode cX2_performSimple 84 = .ok (.getfield 28, 3) := by decide +kernel
theorem dX2_performSimple_87 : decode cX2_performSimple 87 = .ok (.iconst 1, 1) := by decide +kernel
theorem dX2_performSimple_88 : decode cX2_performSimple 88 = .ok (.iadd, 1) := by decide +kernel
theorem dX2_performSimple_89 : decode cX2_performSimple 89 = .ok (.putfield 28, 3) := by decide +kernel
theorem dX2_performSimple_92 : decode cX2_performSimple 92 = .ok (.aload_n 0, 1) := by decide +kernel
theorem dX2_performSimple_93 : decode cX2_performSimple 93 = .ok (.getfield 120, 3) := by decide +kernel
theorem dX2_performSimple_96 : decode cX2_performSimple 96 = .ok (.sipush 999, 3) := by decide +kernel
theorem dX2_performSimple_99 : decode cX2_performSimple 99 = .ok (.aload_n 0, 1) := by decide +kernel
theorem dX2_performSimple_100 : decode cX2_performSimple 100 = .ok (.getfield 120, 3) := by decide +kernel
theorem dX2_performSimple_103 : decode cX2_performSimple 103 = .ok (.getfield 154, 3) := by decide +kernel
theorem dX2_performSimple_106 : decode cX2_performSimple 106 = .ok (.isub, 1) := by decide +kernel
theorem dX2_performSimple_107 : decode cX2_performSimple 107 = .ok (.invokevirtual 157, 3) := by decide +kernel
theorem dX2_performSimple_110 : decode cX2_performSimple 110 = .ok (.pop, 1) := by decide +kernel
theorem dX2_performSimple_111 : decode cX2_performSimple 111 = .ok (.iconst 1, 1) := by decide +kernel
theorem dX2_performSimple_112 : decode cX2_performSimple 112 = .ok (.ireturn, 1) := by decide +kernel
theorem dX2_performSimple_113 : decode cX2_performSimple 113 = .ok (.aload_n 0, 1) := by decide +kernel
theorem dX2_performSimple_114 : decode cX2_performSimple 114 = .ok (.invokevirtual 161, 3) := by decide +kernel
theorem dX2_performSimple_117 : decode cX2_performSimple 117 = .ok (.ireturn, 1) := by decide +kernel
theorem dX2_performSimple_118 : decode cX2_performSimple 118 = .ok (.aload_n 0, 1) := by decide +kernel
theorem dX2_performSimple_119 : decode cX2_performSimple 119 = .ok (.dup, 1) := by decide +kernel
theorem dX2_performSimple_120 : decode cX2_performSimple 120 = .ok (.getfield 28, 3) := by decide +kernel
theorem dX2_performSimple_123 : decode cX2_performSimple 123 = .ok (.iconst 1, 1) := by decide +kernel
theorem dX2_performSimple_124 : decode cX2_performSimple 124 = .ok (.iadd, 1) := by decide +kernel
theorem dX2_performSimple_125 : decode cX2_performSimple 125 = .ok (.putfield 28, 3) := by decide +kernel
theorem dX2_performSimple_128 : decode cX2_performSimple 128 = .ok (.aload_n 0, 1) := by decide +kernel
theorem dX2_performSimple_129 : decode cX2_performSimple 129 = .ok (.getfield 120, 3) := by decide +kernel
theorem dX2_performSimple_132 : decode cX2_performSimple 132 = .ok (.aload_n 0, 1) := by decide +kernel
theorem dX2_performSimple_133 : decode cX2_performSimple 133 = .ok (.getfield 120, 3) := by decide +kernel
theorem dX2_performSimple_136 : decode cX2_performSimple 136 = .ok (.getfield 164, 3) := by decide +kernel
theorem dX2_performSimple_139 : decode cX2_performSimple 139 = .ok (.ifCond .ne 7, 3) := by decide +kernel
theorem dX2_performSimple_142 : decode cX2_performSimple 142 = .ok (.iconst 1, 1) := by decide +kernel
theorem dX2_performSimple_143 : decode cX2_performSimple 143 = .ok (.goto 4, 3) := by decide +kernel
theorem dX2_performSimple_146 : decode cX2_performSimple 146 = .ok (.iconst 0, 1) := by decide +kernel
theorem dX2_performSimple_147 : decode cX2_performSimple 147 = .ok (.putfield 164, 3) := by decide +kernel
theorem dX2_performSimple_150 : decode cX2_performSimple 150 = .ok (.iconst 1, 1) := by decide +kernel
theorem dX2_performSimple_151 : decode cX2_performSimple 151 = .ok (.ireturn, 1) := by decide +kernel
theorem dX2_performSimple_152 : decode cX2_performSimple 152 = .ok (.aload_n 0, 1) := by decide +kernel
theorem dX2_performSimple_153 : decode cX2_performSimple 153 = .ok (.invokevirtual 168, 3) := by decide +kernel
theorem dX2_performSimple_156 : decode cX2_performSimple 156 = .ok (.ireturn, 1) := by decide +kernel
theorem dX2_performSimple_157 : decode cX2_performSimple 157 = .ok (.aload_n 0, 1) := by decide +kernel
theorem dX2_performSimple_158 : decode cX2_performSimple 158 = .ok (.invokevirtual 171, 3) := by decide +kernel
theorem dX2_performSimple_161 : decode cX2_performSimple 161 = .ok (.ireturn, 1) := by decide +kernel
theorem dX2_performSimple_162 : decode cX2_performSimple 162 = .ok (.aload_n 0, 1) := by decide +kernel
theorem dX2_performSimple_163 : decode cX2_performSimple 163 = .ok (.invokevirtual 174, 3) := by decide +kernel
theorem dX2_performSimple_166 : decode cX2_performSimple 166 = .ok (.ireturn, 1) := by decide +kernel
theorem dX2_performSimple_167 : decode cX2_performSimple 167 = .ok (.aload_n 0, 1) := by decide +kernel
theorem dX2_performSimple_168 : decode cX2_performSimple 168 = .ok (.iconst 1, 1) := by decide +kernel
theorem dX2_performSimple_169 : decode cX2_performSimple 169 = .ok (.aload_n 0, 1) := by decide +kernel
theorem dX2_performSimple_170 : decode cX2_performSimple 170 = .ok (.getfield 28, 3) := by decide +kernel
theorem dX2_performSimple_173 : decode cX2_performSimple 173 = .ok (.invokevirtual 177, 3) := by decide +kernel
theorem dX2_performSimple_176 : decode cX2_performSimple 176 = .ok (.ireturn, 1) := by decide +kernel
theorem dX2_performCall_0 : decode cX2_performCall 0 = .ok (.aload_n 0, 1) := by decide +kernel
theorem dX2_performCall_1 : decode cX2_performCall 1 = .ok (.getfield 120, 3) := by decide +kernel
theorem dX2_performCall_4 : decode cX2_performCall 4 = .ok (.getfield 180, 3) := by decide +kernel
theorem dX2_performCall_7 : decode cX2_performCall 7 = .ok (.bipush 40, 2) := by decide +kernel
theorem dX2_performCall_9 : decode cX2_performCall 9 = .ok (.if_icmp .lt 13, 3) := by decide +kernel
theorem dX2_performCall_12 : decode cX2_performCall 12 = .ok (.aload_n 0, 1) := by decide +kernel
theorem dX2_performCall_13 : decode cX2_performCall 13 = .ok (.iconst 3, 1) := by decide +kernel
theorem dX2_performCall_14 : decode cX2_performCall 14 = .ok (.aload_n 0, 1) := by decide +kernel
theorem dX2_performCall_15 : decode cX2_performCall 15 = .ok (.getfield 28, 3) := by decide +kernel
theorem dX2_performCall_18 : decode cX2_performCall 18 = .ok (.invokevirtual 177, 3) := by decide +kernel
theorem dX2_performCall_21 : decode cX2_performCall 21 = .ok (.ireturn, 1) := by decide +kernel
theorem dX2_performCall_22 : decode cX2_performCall 22 = .ok (.aload_n 0, 1) := by decide +kernel
theorem dX2_performCall_23 : decode cX2_performCall 23 = .ok (.dup, 1) := by decide +kernel
theorem dX2_performCall_24 : decode cX2_performCall 24 = .ok (.getfield 28, 3) := by decide +kernel
theorem dX2_performCall_27 : decode cX2_performCall 27 = .ok (.iconst 1, 1) := by decide +kernel
theorem dX2_performCall_28 : decode cX2_performCall 28 = .ok (.iadd, 1) := by decide +kernel
theorem dX2_performCall_29 : decode cX2_performCall 29 = .ok (.putfield 28, 3) := by decide +kernel
theorem dX2_performCall_32 : decode cX2_performCall 32 = .ok (.aload_n 0, 1) := by decide +kernel
theorem dX2_performCall_33 : decode cX2_performCall 33 = .ok (.iconst 0, 1) := by decide +kernel
theorem dX2_performCall_34 : decode cX2_performCall 34 = .ok (.aload_n 0, 1) := by decide +kernel
theorem dX2_performCall_35 : decode cX2_performCall 35 = .ok (.getfield 120, 3) := by decide +kernel
theorem dX2_performCall_38 : decode cX2_performCall 38 = .ok (.getfield 183, 3) := by decide +kernel
theorem dX2_performCall_41 : decode cX2_performCall 41 = .ok (.iconst 1, 1) := by decide +kernel
theorem dX2_performCall_42 : decode cX2_performCall 42 = .ok (.isub, 1) := by decide +kernel
theorem dX2_performCall_43 : decode cX2_performCall 43 = .ok (.invokevirtual 104, 3) := by decide +kernel
theorem dX2_performCall_46 : decode cX2_performCall 46 = .ok (.istore_n 1, 1) := by decide +kernel
theorem dX2_performCall_47 : decode cX2_performCall 47 = .ok (.iload_n 1, 1) := by decide +kernel
theorem dX2_performCall_48 : decode cX2_performCall 48 = .ok (.iconst (-1), 1) := by decide +kernel
theorem dX2_performCall_49 : decode cX2_performCall 49 = .ok (.if_icmp .ne 5, 3) := by decide +kernel
theorem dX2_performCall_52 : decode cX2_performCall 52 = .ok (.iconst 0, 1) := by decide +kernel
theorem dX2_performCall_53 : decode cX2_performCall 53 = .ok (.ireturn, 1) := by decide +kernel
theorem dX2_performCall_54 : decode cX2_performCall 54 = .ok (.aload_n 0, 1) := by decide +kernel
theorem dX2_performCall_55 : decode cX2_performCall 55 = .ok (.iconst 0, 1) := by decide +kernel
theorem dX2_performCall_56 : decode cX2_performCall 56 = .ok (.aload_n 0, 1) := by decide +kernel
theorem dX2_performCall_57 : decode cX2_performCall 57 = .ok (.getfield 120, 3) := by decide +kernel
theorem dX2_performCall_60 : decode cX2_performCall 60 = .ok (.getfield 183, 3) := by decide +kernel
theorem dX2_performCall_63 : decode cX2_performCall 63 = .ok (.iconst 1, 1) := by decide +kernel
theorem dX2_performCall_64 : decode cX2_performCall 64 = .ok (.isub, 1) := by decide +kernel
theorem dX2_performCall_65 : decode cX2_performCall 65 = .ok (.invokevirtual 104, 3) := by decide +kernel
theorem dX2_performCall_68 : decode cX2_performCall 68 = .ok (.istore_n 2, 1) := by decide +kernel
theorem dX2_performCall_69 : decode cX2_performCall 69 = .ok (.iload_n 2, 1) := by decide +kernel
theorem dX2_performCall_70 : decode cX2_performCall 70 = .ok (.iconst (-1), 1) := by decide +kernel
theorem dX2_performCall_71 : decode cX2_performCall 71 = .ok (.if_icmp .ne 5, 3) := by decide +kernel
theorem dX2_performCall_74 : decode cX2_performCall 74 = .ok (.iconst 0, 1) := by decide +kernel
theorem dX2_performCall_75 : decode cX2_performCall 75 = .ok (.ireturn, 1) := by decide +kernel
theorem dX2_performCall_76 : decode cX2_performCall 76 = .ok (.iload_n 2, 1) := by decide +kernel
theorem dX2_performCall_77 : decode cX2_performCall 77 = .ok (.iload_n 1, 1) := by decide +kernel
theorem dX2_performCall_78 : decode cX2_performCall 78 = .ok (.if_icmp .ne 15, 3) := by decide +kernel
theorem dX2_performCall_81 : decode cX2_performCall 81 = .ok (.aload_n 0, 1) := by decide +kernel
theorem dX2_performCall_82 : decode cX2_performCall 82 = .ok (.iconst 2, 1) := by decide +kernel
theorem dX2_performCall_83 : decode cX2_performCall 83 = .ok (.aload_n 0, 1) := by decide +kernel
theorem dX2_performCall_84 : decode cX2_performCall 84 = .ok (.getfield 28, 3) := by decide +kernel
theorem dX2_performCall_87 : decode cX2_performCall 87 = .ok (.iconst 1, 1) := by decide +kernel
theorem dX2_performCall_88 : decode cX2_performCall 88 = .ok (.isub, 1) := by decide +kernel
theorem dX2_performCall_89 : decode cX2_performCall 89 = .ok (.invokevirtual 177, 3) := by decide +kernel
theorem dX2_performCall_92 : decode cX2_performCall 92 = .ok (.ireturn, 1) := by decide +kernel
theorem dX2_performCall_93 : decode cX2_performCall 93 = .ok (.aload_n 0, 1) := by decide +kernel
theorem dX2_performCall_94 : decode cX2_performCall 94 = .ok (.getfield 120, 3) := by decide +kernel
theorem dX2_performCall_97 : decode cX2_performCall 97 = .ok (.getfield 154, 3) := by decide +kernel
theorem dX2_performCall_100 : decode cX2_performCall 100 = .ok (.istore_n 3, 1) := by decide +kernel
theorem dX2_performCall_101 : decode cX2_performCall 101 = .ok (.aload_n 0, 1) := by decide +kernel
theorem dX2_performCall_102 : decode cX2_performCall 102 = .ok (.getfield 13, 3) := by decide +kernel
theorem dX2_performCall_105 : decode cX2_performCall 105 = .ok (.aload_n 0, 1) := by decide +kernel
theorem dX2_performCall_106 : decode cX2_performCall 106 = .ok (.getfield 28, 3) := by decide +kernel
theorem dX2_performCall_109 : decode cX2_performCall 109 = .ok (.aaload, 1) := by decide +kernel
theorem dX2_performCall_110 : decode cX2_performCall 110 = .ok (.getstatic 186, 3) := by decide +kernel
theorem dX2_performCall_113 : decode cX2_performCall 113 = .ok (.if_acmp .ne 35, 3) := by decide +kernel
theorem dX2_performCall_116 : decode cX2_performCall 116 = .ok (.aload_n 0, 1) := by decide +kernel
theorem dX2_performCall_117 : decode cX2_performCall 117 = .ok (.dup, 1) := by decide +kernel
theorem dX2_performCall_118 : decode cX2_performCall 118 = .ok (.getfield 28, 3) := by decide +kernel
theorem dX2_performCall_121 : decode cX2_performCall 121 = .ok (.iconst 1, 1) := by decide +kernel
theorem dX2_performCall_122 : decode cX2_performCall 122 = .ok (.iadd, 1) := by decide +kernel
theorem dX2_performCall_123 : decode cX2_performCall 123 = .ok (.putfield 28, 3) := by decide +kernel
theorem dX2_performCall_126 : decode cX2_performCall 126 = .ok (.aload_n 0, 1) := by decide +kernel
theorem dX2_performCall_127 : decode cX2_performCall 127 = .ok (.aload_n 0, 1) := by decide +kernel
theorem dX2_performCall_128 : decode cX2_performCall 128 = .ok (.getfield 120, 3) := by decide +kernel
theorem dX2_performCall_131 : decode cX2_performCall 131 = .ok (.getfield 154, 3) := by decide +kernel
theorem dX2_performCall_134 : decode cX2_performCall 134 = .ok (.sipush 999, 3) := by decide +kernel
theorem dX2_performCall_137 : decode cX2_performCall 137 = .ok (.invokevirtual 104, 3) := by decide +kernel
theorem dX2_performCall_140 : decode cX2_performCall 140 = .ok (.istore_n 3, 1) := by decide +kernel
theorem dX2_performCall_141 : decode cX2_performCall 141 = .ok (.iload_n 3, 1) := by decide +kernel
theorem dX2_performCall_142 : decode cX2_performCall 142 = .ok (.iconst (-1), 1) := by decide +kernel
theorem dX2_performCall_143 : decode cX2_performCall 143 = .ok (.if_icmp .ne 5, 3) := by decide +kernel
theorem dX2_performCall_146 : decode cX2_performCall 146 = .ok (.iconst 0, 1) := by decide +kernel
theorem dX2_performCall_147 : decode cX2_performCall 147 = .ok (.ireturn, 1) := by decide +kernel
theorem dX2_performCall_148 : decode cX2_performCall 148 = .ok (.aload_n 0, 1) := by decide +kernel
theorem dX2_performCall_149 : decode cX2_performCall 149 = .ok (.getfield 120, 3) := by decide +kernel
theorem dX2_performCall_152 : decode cX2_performCall 152 = .ok (.iload_n 1, 1) := by decide +kernel
theorem dX2_performCall_153 : decode cX2_performCall 153 = .ok (.iload_n 2, 1) := by decide +kernel
theorem dX2_performCall_154 : decode cX2_performCall 154 = .ok (.iload_n 3, 1) := by decide +kernel
theorem dX2_performCall_155 : decode cX2_performCall 155 = .ok (.invokevirtual 189, 3) := by decide +kernel
theorem dX2_performCall_158 : decode cX2_performCall 158 = .ok (.iconst 1, 1) := by decide +kernel
theorem dX2_performCall_159 : decode cX2_performCall 159 = .ok (.ireturn, 1) := by decide +kernel
theorem dX2_performRun_0 : decode cX2_performRun 0 = .ok (.aload_n 0, 1) := by decide +kernel
theorem dX2_performRun_1 : decode cX2_performRun 1 = .ok (.dup, 1) := by decide +kernel
theorem dX2_performRun_2 : decode cX2_performRun 2 = .ok (.getfield 28, 3) := by decide +kernel
theorem dX2_performRun_5 : decode cX2_performRun 5 = .ok (.iconst 1, 1) := by decide +kernel
theorem dX2_performRun_6 : decode cX2_performRun 6 = .ok (.iadd, 1) := by decide +kernel
theorem dX2_performRun_7 : decode cX2_performRun 7 = .ok (.putfield 28, 3) := by decide +kernel
theorem dX2_performRun_10 : decode cX2_performRun 10 = .ok (.aload_n 0, 1) := by decide +kernel
theorem dX2_performRun_11 : decode cX2_performRun 11 = .ok (.iconst 1, 1) := by decide +kernel
theorem dX2_performRun_12 : decode cX2_performRun 12 = .ok (.sipush 999, 3) := by decide +kernel
theorem dX2_performRun_15 : decode cX2_performRun 15 = .ok (.invokevirtual 104, 3) := by decide +kernel
theorem dX2_performRun_18 : decode cX2_performRun 18 = .ok (.istore_n 1, 1) := by decide +kernel
theorem dX2_performRun_19 : decode cX2_performRun 19 = .ok (.iload_n 1, 1) := by decide +kernel
theorem dX2_performRun_20 : decode cX2_performRun 20 = .ok (.iconst (-1), 1) := by decide +kernel
theorem dX2_performRun_21 : decode cX2_performRun 21 = .ok (.if_icmp .ne 5, 3) := by decide +kernel
theorem dX2_performRun_24 : decode cX2_performRun 24 = .ok (.iconst 0, 1) := by decide +kernel
theorem dX2_performRun_25 : decode cX2_performRun 25 = .ok (.ireturn, 1) := by decide +kernel
theorem dX2_performRun_26 : decode cX2_performRun 26 = .ok (.aload_n 0, 1) := by decide +kernel
theorem dX2_performRun_27 : decode cX2_performRun 27 = .ok (.getfield 120, 3) := by decide +kernel
theorem dX2_performRun_30 : decode cX2_performRun 30 = .ok (.getfield 154, 3) := by decide +kernel
theorem dX2_performRun_33 : decode cX2_performRun 33 = .ok (.iload_n 1, 1) := by decide +kernel
theorem dX2_performRun_34 : decode cX2_performRun 34 = .ok (.iadd, 1) := by decide +kernel
theorem dX2_performRun_35 : decode cX2_performRun 35 = .ok (.sipush 999, 3) := by decide +kernel
theorem dX2_performRun_38 : decode cX2_performRun 38 = .ok (.if_icmp .le 15, 3) := by decide +kernel
theorem dX2_performRun_41 : decode cX2_performRun 41 = .ok (.aload_n 0, 1) := by decide +kernel
theorem dX2_performRun_42 : decode cX2_performRun 42 = .ok (.iconst 4, 1) := by decide +kernel
theorem dX2_performRun_43 : decode cX2_performRun 43 = .ok (.aload_n 0, 1) := by decide +kernel
theorem dX2_performRun_44 : decode cX2_performRun 44 = .ok (.getfield 28, 3) := by decide +kernel
theorem dX2_performRun_47 : decode cX2_performRun 47 = .ok (.iconst 1, 1) := by decide +kernel
theorem dX2_performRun_48 : decode cX2_performRun 48 = .ok (.isub, 1) := by decide +kernel
theorem dX2_performRun_49 : decode cX2_performRun 49 = .ok (.invokevirtual 177, 3) := by decide +kernel
theorem dX2_performRun_52 : decode cX2_performRun 52 = .ok (.ireturn, 1) := by decide +kernel
theorem dX2_performRun_53 : decode cX2_performRun 53 = .ok (.iconst 0, 1) := by decide +kernel
theorem dX2_performRun_54 : decode cX2_performRun 54 = .ok (.istore_n 2, 1) := by decide +kernel
theorem dX2_performRun_55 : decode cX2_performRun 55 = .ok (.iload_n 2, 1) := by decide +kernel
theorem dX2_performRun_56 : decode cX2_performRun 56 = .ok (.iload_n 1, 1) := by decide +kernel
theorem dX2_performRun_57 : decode cX2_performRun 57 = .ok (.if_icmp .ge 16, 3) := by decide +kernel
theorem dX2_performRun_60 : decode cX2_performRun 60 = .ok (.aload_n 0, 1) := by decide +kernel
theorem dX2_performRun_61 : decode cX2_performRun 61 = .ok (.getfield 120, 3) := by decide +kernel
theorem dX2_performRun_64 : decode cX2_performRun 64 = .ok (.invokevirtual 192, 3) := by decide +kernel
theorem dX2_performRun_67 : decode cX2_performRun 67 = .ok (.iinc 2 1, 3) := by decide +kernel
theorem dX2_performRun_70 : decode cX2_performRun 70 = .ok (.goto (-15), 3) := by decide +kernel
theorem dX2_performRun_73 : decode cX2_performRun 73 = .ok (.iconst 1, 1) := by decide +kernel
theorem dX2_performRun_74 : decode cX2_performRun 74 = .ok (.ireturn, 1) := by decide +kernel
theorem dX2_performUntil_0 : decode cX2_performUntil 0 = .ok (.aload_n 0, 1) := by decide +kernel
theorem dX2_performUntil_1 : decode cX2_performUntil 1 = .ok (.dup, 1) := by decide +kernel
theorem dX2_performUntil_2 : decode cX2_performUntil 2 = .ok (.getfield 28, 3) := by decide +kernel
theorem dX2_performUntil_5 : decode cX2_performUntil 5 = .ok (.iconst 1, 1) := by decide +kernel
theorem dX2_performUntil_6 : decode cX2_performUntil 6 = .ok (.iadd, 1) := by decide +kernel
theorem dX2_performUntil_7 : decode cX2_performUntil 7 = .ok (.putfield 28, 3) := by decide +kernel
theorem dX2_performUntil_10 : decode cX2_performUntil 10 = .ok (.aload_n 0, 1) := by decide +kernel
theorem dX2_performUntil_11 : decode cX2_performUntil 11 = .ok (.getfield 13, 3) := by decide +kernel
theorem dX2_performUntil_14 : decode cX2_performUntil 14 = .ok (.aload_n 0, 1) := by decide +kernel
theorem dX2_performUntil_15 : decode cX2_performUntil 15 = .ok (.getfield 28, 3) := by decide +kernel
theorem dX2_performUntil_18 : decode cX2_performUntil 18 = .ok (.aaload, 1) := by decide +kernel
theorem dX2_performUntil_19 : decode cX2_performUntil 19 = .ok (.astore_n 1, 1) := by decide +kernel
theorem dX2_performUntil_20 : decode cX2_performUntil 20 = .ok (.aload_n 0, 1) := by decide +kernel
theorem dX2_performUntil_21 : decode cX2_performUntil 21 = .ok (.invokevirtual 195, 3) := by decide +kernel
theorem dX2_performUntil_24 : decode cX2_performUntil 24 = .ok (.istore_n 2, 1) := by decide +kernel
theorem dX2_performUntil_25 : decode cX2_performUntil 25 = .ok (.iload_n 2, 1) := by decide +kernel
theorem dX2_performUntil_26 : decode cX2_performUntil 26 = .ok (.iconst (-1), 1) := by decide +kernel
theorem dX2_performUntil_27 : decode cX2_performUntil 27 = .ok (.if_icmp .ne 5, 3) := by decide +kernel
theorem dX2_performUntil_30 : decode cX2_performUntil 30 = .ok (.iconst 0, 1) := by decide +kernel
theorem dX2_performUntil_31 : decode cX2_performUntil 31 = .ok (.ireturn, 1) := by decide +kernel
theorem dX2_performUntil_32 : decode cX2_performUntil 32 = .ok (.aload_n 0, 1) := by decide +kernel
theorem dX2_performUntil_33 : decode cX2_performUntil 33 = .ok (.getfield 120, 3) := by decide +kernel
theorem dX2_performUntil_36 : decode cX2_performUntil 36 = .ok (.getfield 154, 3) := by decide +kernel
theorem dX2_performUntil_39 : decode cX2_performUntil 39 = .ok (.istore_n 3, 1) := by decide +kernel
theorem dX2_performUntil_40 : decode cX2_performUntil 40 = .ok (.iload_n 3, 1) := by decide +kernel
theorem dX2_performUntil_41 : decode cX2_performUntil 41 = .ok (.sipush 999, 3) := by decide +kernel
theorem dX2_performUntil_44 : decode cX2_performUntil 44 = .ok (.if_icmp .ge 25, 3) := by decide +kernel
theorem dX2_performUntil_47 : decode cX2_performUntil 47 = .ok (.aload_n 0, 1) := by decide +kernel
theorem dX2_performUntil_48 : decode cX2_performUntil 48 = .ok (.aload_n 1, 1) := by decide +kernel
theorem dX2_performUntil_49 : decode cX2_performUntil 49 = .ok (.invokevirtual 198, 3) := by decide +kernel
theorem dX2_performUntil_52 : decode cX2_performUntil 52 = .ok (.iload_n 2, 1) := by decide +kernel
theorem dX2_performUntil_53 : decode cX2_performUntil 53 = .ok (.if_icmp .ge 16, 3) := by decide +kernel
theorem dX2_performUntil_56 : decode cX2_performUntil 56 = .ok (.aload_n 0, 1) := by decide +kernel
theorem dX2_performUntil_57 : decode cX2_performUntil 57 = .ok (.getfield 120, 3) := by decide +kernel
theorem dX2_performUntil_60 : decode cX2_performUntil 60 = .ok (.invokevirtual 192, 3) := by decide +kernel
theorem dX2_performUntil_63 : decode cX2_performUntil 63 = .ok (.iinc 3 1, 3) := by decide +kernel
theorem dX2_performUntil_66 : decode cX2_performUntil 66 = .ok (.goto (-26), 3) := by decide +kernel
theorem dX2_performUntil_69 : decode cX2_performUntil 69 = .ok (.aload_n 0, 1) := by decide +kernel
theorem dX2_performUntil_70 : decode cX2_performUntil 70 = .ok (.aload_n 1, 1) := by decide +kernel
theorem dX2_performUntil_71 : decode cX2_performUntil 71 = .ok (.invokevirtual 198, 3) := by decide +kernel
theorem dX2_performUntil_74 : decode cX2_performUntil 74 = .ok (.iload_n 2, 1) := by decide +kernel
theorem dX2_performUntil_75 : decode cX2_performUntil 75 = .ok (.if_icmp .ge 15, 3) := by decide +kernel
theorem dX2_performUntil_78 : decode cX2_performUntil 78 = .ok (.aload_n 0, 1) := by decide +kernel
theorem dX2_performUntil_79 : decode cX2_performUntil 79 = .ok (.iconst 4, 1) := by decide +kernel
theorem dX2_performUntil_80 : decode cX2_performUntil 80 = .ok (.aload_n 0, 1) := by decide +kernel
theorem dX2_performUntil_81 : decode cX2_performUntil 81 = .ok (.getfield 28, 3) := by decide +kernel
theorem dX2_performUntil_84 : decode cX2_performUntil 84 = .ok (.iconst 1, 1) := by decide +kernel
theorem dX2_performUntil_85 : decode cX2_performUntil 85 = .ok (.isub, 1) := by decide +kernel
theorem dX2_performUntil_86 : decode cX2_performUntil 86 = .ok (.invokevirtual 177, 3) := by decide +kernel
theorem dX2_performUntil_89 : decode cX2_performUntil 89 = .ok (.ireturn, 1) := by decide +kernel
theorem dX2_performUntil_90 : decode cX2_performUntil 90 = .ok (.iconst 1, 1) := by decide +kernel
theorem dX2_performUntil_91 : decode cX2_performUntil 91 = .ok (.ireturn, 1) := by decide +kernel
theorem dX2_performPolicy_0 : decode cX2_performPolicy 0 = .ok (.aload_n 0, 1) := by decide +kernel
theorem dX2_performPolicy_1 : decode cX2_performPolicy 1 = .ok (.dup, 1) := by decide +kernel
theorem dX2_performPolicy_2 : decode cX2_performPolicy 2 = .ok (.getfield 28, 3) := by decide +kernel
theorem dX2_performPolicy_5 : decode cX2_performPolicy 5 = .ok (.iconst 1, 1) := by decide +kernel
theorem dX2_performPolicy_6 : decode cX2_performPolicy 6 = .ok (.iadd, 1) := by decide +kernel
theorem dX2_performPolicy_7 : decode cX2_performPolicy 7 = .ok (.putfield 28, 3) := by decide +kernel
theorem dX2_performPolicy_10 : decode cX2_performPolicy 10 = .ok (.aload_n 0, 1) := by decide +kernel
theorem dX2_performPolicy_11 : decode cX2_performPolicy 11 = .ok (.invokevirtual 108, 3) := by decide +kernel
theorem dX2_performPolicy_14 : decode cX2_performPolicy 14 = .ok (.istore_n 1, 1) := by decide +kernel
theorem dX2_performPolicy_15 : decode cX2_performPolicy 15 = .ok (.iload_n 1, 1) := by decide +kernel
theorem dX2_performPolicy_16 : decode cX2_performPolicy 16 = .ok (.iconst (-1), 1) := by decide +kernel
theorem dX2_performPolicy_17 : decode cX2_performPolicy 17 = .ok (.if_icmp .ne 5, 3) := by decide +kernel
theorem dX2_performPolicy_20 : decode cX2_performPolicy 20 = .ok (.iconst 0, 1) := by decide +kernel
theorem dX2_performPolicy_21 : decode cX2_performPolicy 21 = .ok (.ireturn, 1) := by decide +kernel
theorem dX2_performPolicy_22 : decode cX2_performPolicy 22 = .ok (.aload_n 0, 1) := by decide +kernel
theorem dX2_performPolicy_23 : decode cX2_performPolicy 23 = .ok (.getfield 120, 3) := by decide +kernel
theorem dX2_performPolicy_26 : decode cX2_performPolicy 26 = .ok (.iload_n 1, 1) := by decide +kernel
theorem dX2_performPolicy_27 : decode cX2_performPolicy 27 = .ok (.putfield 201, 3) := by decide +kernel
theorem dX2_performPolicy_30 : decode cX2_performPolicy 30 = .ok (.iconst 1, 1) := by decide +kernel
theorem dX2_performPolicy_31 : decode cX2_performPolicy 31 = .ok (.ireturn, 1) := by decide +kernel
theorem dX2_performCapacity_0 : decode cX2_performCapacity 0 = .ok (.aload_n 0, 1) := by decide +kernel
theorem dX2_performCapacity_1 : decode cX2_performCapacity 1 = .ok (.dup, 1) := by decide +kernel
theorem dX2_performCapacity_2 : decode cX2_performCapacity 2 = .ok (.getfield 28, 3) := by decide +kernel
theorem dX2_performCapacity_5 : decode cX2_performCapacity 5 = .ok (.iconst 1, 1) := by decide +kernel
theorem dX2_performCapacity_6 : decode cX2_performCapacity 6 = .ok (.iadd, 1) := by decide +kernel
theorem dX2_performCapacity_7 : decode cX2_performCapacity 7 = .ok (.putfield 28, 3) := by decide +kernel
theorem dX2_performCapacity_10 : decode cX2_performCapacity 10 = .ok (.aload_n 0, 1) := by decide +kernel
theorem dX2_performCapacity_11 : decode cX2_performCapacity 11 = .ok (.iconst 1, 1) := by decide +kernel
theorem dX2_performCapacity_12 : decode cX2_performCapacity 12 = .ok (.bipush 8, 2) := by decide +kernel
theorem dX2_performCapacity_14 : decode cX2_performCapacity 14 = .ok (.invokevirtual 104, 3) := by decide +kernel
theorem dX2_performCapacity_17 : decode cX2_performCapacity 17 = .ok (.istore_n 1, 1) := by decide +kernel
theorem dX2_performCapacity_18 : decode cX2_performCapacity 18 = .ok (.iload_n 1, 1) := by decide +kernel
theorem dX2_performCapacity_19 : decode cX2_performCapacity 19 = .ok (.iconst (-1), 1) := by decide +kernel
theorem dX2_performCapacity_20 : decode cX2_performCapacity 20 = .ok (.if_icmp .ne 5, 3) := by decide +kernel
theorem dX2_performCapacity_23 : decode cX2_performCapacity 23 = .ok (.iconst 0, 1) := by decide +kernel
theorem dX2_performCapacity_24 : decode cX2_performCapacity 24 = .ok (.ireturn, 1) := by decide +kernel
theorem dX2_performCapacity_25 : decode cX2_performCapacity 25 = .ok (.aload_n 0, 1) := by decide +kernel
theorem dX2_performCapacity_26 : decode cX2_performCapacity 26 = .ok (.getfield 120, 3) := by decide +kernel
theorem dX2_performCapacity_29 : decode cX2_performCapacity 29 = .ok (.getfield 204, 3) := by decide +kernel
theorem dX2_performCapacity_32 : decode cX2_performCapacity 32 = .ok (.iload_n 1, 1) := by decide +kernel
theorem dX2_performCapacity_33 : decode cX2_performCapacity 33 = .ok (.if_icmp .le 15, 3) := by decide +kernel
theorem dX2_performCapacity_36 : decode cX2_performCapacity 36 = .ok (.aload_n 0, 1) := by decide +kernel
theorem dX2_performCapacity_37 : decode cX2_performCapacity 37 = .ok (.iconst 4, 1) := by decide +kernel
theorem dX2_performCapacity_38 : decode cX2_performCapacity 38 = .ok (.aload_n 0, 1) := by decide +kernel
theorem dX2_performCapacity_39 : decode cX2_performCapacity 39 = .ok (.getfield 28, 3) := by decide +kernel
theorem dX2_performCapacity_42 : decode cX2_performCapacity 42 = .ok (.iconst 1, 1) := by decide +kernel
theorem dX2_performCapacity_43 : decode cX2_performCapacity 43 = .ok (.isub, 1) := by decide +kernel
theorem dX2_performCapacity_44 : decode cX2_performCapacity 44 = .ok (.invokevirtual 177, 3) := by decide +kernel
theorem dX2_performCapacity_47 : decode cX2_performCapacity 47 = .ok (.ireturn, 1) := by decide +kernel
theorem dX2_performCapacity_48 : decode cX2_performCapacity 48 = .ok (.aload_n 0, 1) := by decide +kernel
theorem dX2_performCapacity_49 : decode cX2_performCapacity 49 = .ok (.getfield 120, 3) := by decide +kernel
theorem dX2_performCapacity_52 : decode cX2_performCapacity 52 = .ok (.iload_n 1, 1) := by decide +kernel
theorem dX2_performCapacity_53 : decode cX2_performCapacity 53 = .ok (.putfield 207, 3) := by decide +kernel
theorem dX2_performCapacity_56 : decode cX2_performCapacity 56 = .ok (.iconst 1, 1) := by decide +kernel
theorem dX2_performCapacity_57 : decode cX2_performCapacity 57 = .ok (.ireturn, 1) := by decide +kernel
theorem dX2_performExpect_0 : decode cX2_performExpect 0 = .ok (.aload_n 0, 1) := by decide +kernel
theorem dX2_performExpect_1 : decode cX2_performExpect 1 = .ok (.getfield 28, 3) := by decide +kernel
theorem dX2_performExpect_4 : decode cX2_performExpect 4 = .ok (.istore_n 1, 1) := by decide +kernel
theorem dX2_performExpect_5 : decode cX2_performExpect 5 = .ok (.aload_n 0, 1) := by decide +kernel
theorem dX2_performExpect_6 : decode cX2_performExpect 6 = .ok (.dup, 1) := by decide +kernel
theorem dX2_performExpect_7 : decode cX2_performExpect 7 = .ok (.getfield 28, 3) := by decide +kernel
theorem dX2_performExpect_10 : decode cX2_performExpect 10 = .ok (.iconst 1, 1) := by decide +kernel
theorem dX2_performExpect_11 : decode cX2_performExpect 11 = .ok (.iadd, 1) := by decide +kernel
theorem dX2_performExpect_12 : decode cX2_performExpect 12 = .ok (.putfield 28, 3) := by decide +kernel
theorem dX2_performExpect_15 : decode cX2_performExpect 15 = .ok (.aload_n 0, 1) := by decide +kernel
theorem dX2_performExpect_16 : decode cX2_performExpect 16 = .ok (.getfield 13, 3) := by decide +kernel
theorem dX2_performExpect_19 : decode cX2_performExpect 19 = .ok (.aload_n 0, 1) := by decide +kernel
theorem dX2_performExpect_20 : decode cX2_performExpect 20 = .ok (.getfield 28, 3) := by decide +kernel
theorem dX2_performExpect_23 : decode cX2_performExpect 23 = .ok (.aaload, 1) := by decide +kernel
theorem dX2_performExpect_24 : decode cX2_performExpect 24 = .ok (.astore_n 2, 1) := by decide +kernel
theorem dX2_performExpect_25 : decode cX2_performExpect 25 = .ok (.aload_n 0, 1) := by decide +kernel
theorem dX2_performExpect_26 : decode cX2_performExpect 26 = .ok (.invokevirtual 195, 3) := by decide +kernel
theorem dX2_performExpect_29 : decode cX2_performExpect 29 = .ok (.istore_n 3, 1) := by decide +kernel
theorem dX2_performExpect_30 : decode cX2_performExpect 30 = .ok (.iload_n 3, 1) := by decide +kernel
theorem dX2_performExpect_31 : decode cX2_performExpect 31 = .ok (.iconst (-1), 1) := by decide +kernel
theorem dX2_performExpect_32 : decode cX2_performExpect 32 = .ok (.if_icmp .ne 5, 3) := by decide +kernel
theorem dX2_performExpect_35 : decode cX2_performExpect 35 = .ok (.iconst 0, 1) := by decide +kernel
theorem dX2_performExpect_36 : decode cX2_performExpect 36 = .ok (.ireturn, 1) := by decide +kernel
theorem dX2_performExpect_37 : decode cX2_performExpect 37 = .ok (.aload_n 0, 1) := by decide +kernel
theorem dX2_performExpect_38 : decode cX2_performExpect 38 = .ok (.aload_n 2, 1) := by decide +kernel
theorem dX2_performExpect_39 : decode cX2_performExpect 39 = .ok (.invokevirtual 198, 3) := by decide +kernel
theorem dX2_performExpect_42 : decode cX2_performExpect 42 = .ok (.iload_n 3, 1) := by decide +kernel
theorem dX2_performExpect_43 : decode cX2_performExpect 43 = .ok (.if_icmp .eq 10, 3) := by decide +kernel
theorem dX2_performExpect_46 : decode cX2_performExpect 46 = .ok (.aload_n 0, 1) := by decide +kernel
theorem dX2_performExpect_47 : decode cX2_performExpect 47 = .ok (.iconst 5, 1) := by decide +kernel
theorem dX2_performExpect_48 : decode cX2_performExpect 48 = .ok (.iload_n 1, 1) := by decide +kernel
theorem dX2_performExpect_49 : decode cX2_performExpect 49 = .ok (.invokevirtual 177, 3) := by decide +kernel
theorem dX2_performExpect_52 : decode cX2_performExpect 52 = .ok (.ireturn, 1) := by decide +kernel
theorem dX2_performExpect_53 : decode cX2_performExpect 53 = .ok (.iconst 1, 1) := by decide +kernel
theorem dX2_performExpect_54 : decode cX2_performExpect 54 = .ok (.ireturn, 1) := by decide +kernel
theorem dX2_count_0 : decode cX2_count 0 = .ok (.getstatic 140, 3) := by decide +kernel
theorem dX2_count_3 : decode cX2_count 3 = .ok (.aload_n 1, 1) := by decide +kernel
theorem dX2_count_4 : decode cX2_count 4 = .ok (.invokevirtual 145, 3) := by decide +kernel
theorem dX2_count_7 : decode cX2_count 7 = .ok (.iaload, 1) := by decide +kernel
theorem dX2_count_8 : decode cX2_count 8 = .ok (.tableswitch 77 9 13 #[36, 44, 52, 61, 69], 36) := by decide +kernel
theorem dX2_count_44 : decode cX2_count 44 = .ok (.aload_n 0, 1) := by decide +kernel
theorem dX2_count_45 : decode cX2_count 45 = .ok (.getfield 120, 3) := by decide +kernel
theorem dX2_count_48 : decode cX2_count 48 = .ok (.getfield 210, 3) := by decide +kernel
theorem dX2_count_51 : decode cX2_count 51 = .ok (.ireturn, 1) := by decide +kernel
theorem dX2_count_52 : decode cX2_count 52 = .ok (.aload_n 0, 1) := by decide +kernel
theorem dX2_count_53 : decode cX2_count 53 = .ok (.getfield 120, 3) := by decide +kernel
theorem dX2_count_56 : decode cX2_count 56 = .ok (.getfield 204, 3) := by decide +kernel
theorem dX2_count_59 : decode cX2_count 59 = .ok (.ireturn, 1) := by decide +kernel
theorem dX2_count_60 : decode cX2_count 60 = .ok (.aload_n 0, 1) := by decide +kernel
theorem dX2_count_61 : decode cX2_count 61 = .ok (.getfield 120, 3) := by decide +kernel
theorem dX2_count_64 : decode cX2_count 64 = .ok (.iconst 1, 1) := by decide +kernel
theorem dX2_count_65 : decode cX2_count 65 = .ok (.invokevirtual 213, 3) := by decide +kernel
theorem dX2_count_68 : decode cX2_count 68 = .ok (.ireturn, 1) := by decide +kernel
theorem dX2_count_69 : decode cX2_count 69 = .ok (.aload_n 0, 1) := by decide +kernel
theorem dX2_count_70 : decode cX2_count 70 = .ok (.getfield 120, 3) := by decide +kernel
theorem dX2_count_73 : decode cX2_count 73 = .ok (.getfield 216, 3) := by decide +kernel
theorem dX2_count_76 : decode cX2_count 76 = .ok (.ireturn, 1) := by decide +kernel
theorem dX2_count_77 : decode cX2_count 77 = .ok (.aload_n 0, 1) := by decide +kernel
theorem dX2_count_78 : decode cX2_count 78 = .ok (.getfield 120, 3) := by decide +kernel
theorem dX2_count_81 : decode cX2_count 81 = .ok (.getfield 219, 3) := by decide +kernel
theorem dX2_count_84 : decode cX2_count 84 = .ok (.ireturn, 1) := by decide +kernel
theorem dX2_count_85 : decode cX2_count 85 = .ok (.aload_n 0, 1) := by decide +kernel
theorem dX2_count_86 : decode cX2_count 86 = .ok (.getfield 120, 3) := by decide +kernel
theorem dX2_count_89 : decode cX2_count 89 = .ok (.getfield 154, 3) := by decide +kernel
theorem dX2_count_92 : decode cX2_count 92 = .ok (.ireturn, 1) := by decide +kernel
theorem dX2_take_0 : decode cX2_take 0 = .ok (.aload_n 0, 1) := by decide +kernel
theorem dX2_take_1 : decode cX2_take 1 = .ok (.getfield 13, 3) := by decide +kernel
theorem dX2_take_4 : decode cX2_take 4 = .ok (.aload_n 0, 1) := by decide +kernel
theorem dX2_take_5 : decode cX2_take 5 = .ok (.getfield 28, 3) := by decide +kernel
theorem dX2_take_8 : decode cX2_take 8 = .ok (.aaload, 1) := by decide +kernel
theorem dX2_take_9 : decode cX2_take 9 = .ok (.aload_n 1, 1) := by decide +kernel
theorem dX2_take_10 : decode cX2_take 10 = .ok (.if_acmp .eq 13, 3) := by decide +kernel
theorem dX2_take_13 : decode cX2_take 13 = .ok (.aload_n 0, 1) := by decide +kernel
theorem dX2_take_14 : decode cX2_take 14 = .ok (.iconst 1, 1) := by decide +kernel
theorem dX2_take_15 : decode cX2_take 15 = .ok (.aload_n 0, 1) := by decide +kernel
theorem dX2_take_16 : decode cX2_take 16 = .ok (.getfield 28, 3) := by decide +kernel
theorem dX2_take_19 : decode cX2_take 19 = .ok (.invokevirtual 177, 3) := by decide +kernel
theorem dX2_take_22 : decode cX2_take 22 = .ok (.ireturn, 1) := by decide +kernel
theorem dX2_take_23 : decode cX2_take 23 = .ok (.aload_n 0, 1) := by decide +kernel
theorem dX2_take_24 : decode cX2_take 24 = .ok (.dup, 1) := by decide +kernel
theorem dX2_take_25 : decode cX2_take 25 = .ok (.getfield 28, 3) := by decide +kernel
theorem dX2_take_28 : decode cX2_take 28 = .ok (.iconst 1, 1) := by decide +kernel
theorem dX2_take_29 : decode cX2_take 29 = .ok (.iadd, 1) := by decide +kernel
theorem dX2_take_30 : decode cX2_take 30 = .ok (.putfield 28, 3) := by decide +kernel
theorem dX2_take_33 : decode cX2_take 33 = .ok (.iconst 1, 1) := by decide +kernel
theorem dX2_take_34 : decode cX2_take 34 = .ok (.ireturn, 1) := by decide +kernel
theorem dX2_takeNumber_0 : decode cX2_takeNumber 0 = .ok (.aload_n 0, 1) := by decide +kernel
theorem dX2_takeNumber_1 : decode cX2_takeNumber 1 = .ok (.getfield 13, 3) := by decide +kernel
theorem dX2_takeNumber_4 : decode cX2_takeNumber 4 = .ok (.aload_n 0, 1) := by decide +kernel
theorem dX2_takeNumber_5 : decode cX2_takeNumber 5 = .ok (.getfield 28, 3) := by decide +kernel
theorem dX2_takeNumber_8 : decode cX2_takeNumber 8 = .ok (.aaload, 1) := by decide +kernel
theorem dX2_takeNumber_9 : decode cX2_takeNumber 9 = .ok (.getstatic 51, 3) := by decide +kernel
theorem dX2_takeNumber_12 : decode cX2_takeNumber 12 = .ok (.if_acmp .eq 15, 3) := by decide +kernel
theorem dX2_takeNumber_15 : decode cX2_takeNumber 15 = .ok (.aload_n 0, 1) := by decide +kernel
theorem dX2_takeNumber_16 : decode cX2_takeNumber 16 = .ok (.iconst 1, 1) := by decide +kernel
theorem dX2_takeNumber_17 : decode cX2_takeNumber 17 = .ok (.aload_n 0, 1) := by decide +kernel
theorem dX2_takeNumber_18 : decode cX2_takeNumber 18 = .ok (.getfield 28, 3) := by decide +kernel
theorem dX2_takeNumber_21 : decode cX2_takeNumber 21 = .ok (.invokevirtual 177, 3) := by decide +kernel
theorem dX2_takeNumber_24 : decode cX2_takeNumber 24 = .ok (.pop, 1) := by decide +kernel
theorem dX2_takeNumber_25 : decode cX2_takeNumber 25 = .ok (.iconst (-1), 1) := by decide +kernel
theorem dX2_takeNumber_26 : decode cX2_takeNumber 26 = .ok (.ireturn, 1) := by decide +kernel
theorem dX2_takeNumber_27 : decode cX2_takeNumber 27 = .ok (.aload_n 0, 1) := by decide +kernel
theorem dX2_takeNumber_28 : decode cX2_takeNumber 28 = .ok (.getfield 21, 3) := by decide +kernel
theorem dX2_takeNumber_31 : decode cX2_takeNumber 31 = .ok (.aload_n 0, 1) := by decide +kernel
theorem dX2_takeNumber_32 : decode cX2_takeNumber 32 = .ok (.getfield 28, 3) := by decide +kernel
theorem dX2_takeNumber_35 : decode cX2_takeNumber 35 = .ok (.iaload, 1) := by decide +kernel
theorem dX2_takeNumber_36 : decode cX2_takeNumber 36 = .ok (.istore_n 3, 1) := by decide +kernel
theorem dX2_takeNumber_37 : decode cX2_takeNumber 37 = .ok (.iload_n 3, 1) := by decide +kernel
theorem dX2_takeNumber_38 : decode cX2_takeNumber 38 = .ok (.iload_n 1, 1) := by decide +kernel
theorem dX2_takeNumber_39 : decode cX2_takeNumber 39 = .ok (.if_icmp .lt 8, 3) := by decide +kernel
theorem dX2_takeNumber_42 : decode cX2_takeNumber 42 = .ok (.iload_n 3, 1) := by decide +kernel
theorem dX2_takeNumber_43 : decode cX2_takeNumber 43 = .ok (.iload_n 2, 1) := by decide +kernel
theorem dX2_takeNumber_44 : decode cX2_takeNumber 44 = .ok (.if_icmp .le 15, 3) := by decide +kernel
theorem dX2_takeNumber_47 : decode cX2_takeNumber 47 = .ok (.aload_n 0, 1) := by decide +kernel
theorem dX2_takeNumber_48 : decode cX2_takeNumber 48 = .ok (.iconst 2, 1) := by decide +kernel
theorem dX2_takeNumber_49 : decode cX2_takeNumber 49 = .ok (.aload_n 0, 1) := by decide +kernel
theorem dX2_takeNumber_50 : decode cX2_takeNumber 50 = .ok (.getfield 28, 3) := by decide +kernel
theorem dX2_takeNumber_53 : decode cX2_takeNumber 53 = .ok (.invokevirtual 177, 3) := by decide +kernel
theorem dX2_takeNumber_56 : decode cX2_takeNumber 56 = .ok (.pop, 1) := by decide +kernel
theorem dX2_takeNumber_57 : decode cX2_takeNumber 57 = .ok (.iconst (-1), 1) := by decide +kernel
theorem dX2_takeNumber_58 : decode cX2_takeNumber 58 = .ok (.ireturn, 1) := by decide +kernel
theorem dX2_takeNumber_59 : decode cX2_takeNumber 59 = .ok (.aload_n 0, 1) := by decide +kernel
theorem dX2_takeNumber_60 : decode cX2_takeNumber 60 = .ok (.dup, 1) := by decide +kernel
theorem dX2_takeNumber_61 : decode cX2_takeNumber 61 = .ok (.getfield 28, 3) := by decide +kernel
theorem dX2_takeNumber_64 : decode cX2_takeNumber 64 = .ok (.iconst 1, 1) := by decide +kernel
theorem dX2_takeNumber_65 : decode cX2_takeNumber 65 = .ok (.iadd, 1) := by decide +kernel
theorem dX2_takeNumber_66 : decode cX2_takeNumber 66 = .ok (.putfield 28, 3) := by decide +kernel
theorem dX2_takeNumber_69 : decode cX2_takeNumber 69 = .ok (.iload_n 3, 1) := by decide +kernel
theorem dX2_takeNumber_70 : decode cX2_takeNumber 70 = .ok (.ireturn, 1) := by decide +kernel
theorem dX2_takePolicy_0 : decode cX2_takePolicy 0 = .ok (.iconst (-1), 1) := by decide +kernel
theorem dX2_takePolicy_1 : decode cX2_takePolicy 1 = .ok (.istore_n 1, 1) := by decide +kernel
theorem dX2_takePolicy_2 : decode cX2_takePolicy 2 = .ok (.getstatic 140, 3) := by decide +kernel
theorem dX2_takePolicy_5 : decode cX2_takePolicy 5 = .ok (.aload_n 0, 1) := by decide +kernel
theorem dX2_takePolicy_6 : decode cX2_takePolicy 6 = .ok (.getfield 13, 3) := by decide +kernel
theorem dX2_takePolicy_9 : decode cX2_takePolicy 9 = .ok (.aload_n 0, 1) := by decide +kernel
theorem dX2_takePolicy_10 : decode cX2_takePolicy 10 = .ok (.getfield 28, 3) := by decide +kernel
theorem dX2_takePolicy_13 : decode cX2_takePolicy 13 = .ok (.aaload, 1) := by decide +kernel
theorem dX2_takePolicy_14 : decode cX2_takePolicy 14 = .ok (.invokevirtual 145, 3) := by decide +kernel
theorem dX2_takePolicy_17 : decode cX2_takePolicy 17 = .ok (.iaload, 1) := by decide +kernel
theorem dX2_takePolicy_18 : decode cX2_takePolicy 18 = .ok (.tableswitch 41 14 16 #[26, 31, 36], 26) := by decide +kernel
theorem dX2_takePolicy_44 : decode cX2_takePolicy 44 = .ok (.iconst 0, 1) := by decide +kernel
theorem dX2_takePolicy_45 : decode cX2_takePolicy 45 = .ok (.istore_n 1, 1) := by decide +kernel
theorem dX2_takePolicy_46 : decode cX2_takePolicy 46 = .ok (.goto 25, 3) := by decide +kernel
theorem dX2_takePolicy_49 : decode cX2_takePolicy 49 = .ok (.iconst 1, 1) := by decide +kernel
theorem dX2_takePolicy_50 : decode cX2_takePolicy 50 = .ok (.istore_n 1, 1) := by decide +kernel
theorem dX2_takePolicy_51 : decode cX2_takePolicy 51 = .ok (.goto 20, 3) := by decide +kernel
theorem dX2_takePolicy_54 : decode cX2_takePolicy 54 = .ok (.iconst 2, 1) := by decide +kernel
theorem dX2_takePolicy_55 : decode cX2_takePolicy 55 = .ok (.istore_n 1, 1) := by decide +kernel
theorem dX2_takePolicy_56 : decode cX2_takePolicy 56 = .ok (.goto 15, 3) := by decide +kernel
theorem dX2_takePolicy_59 : decode cX2_takePolicy 59 = .ok (.aload_n 0, 1) := by decide +kernel
theorem dX2_takePolicy_60 : decode cX2_takePolicy 60 = .ok (.iconst 1, 1) := by decide +kernel
theorem dX2_takePolicy_61 : decode cX2_takePolicy 61 = .ok (.aload_n 0, 1) := by decide +kernel
theorem dX2_takePolicy_62 : decode cX2_takePolicy 62 = .ok (.getfield 28, 3) := by decide +kernel
theorem dX2_takePolicy_65 : decode cX2_takePolicy 65 = .ok (.invokevirtual 177, 3) := by decide +kernel
theorem dX2_takePolicy_68 : decode cX2_takePolicy 68 = .ok (.pop, 1) := by decide +kernel
theorem dX2_takePolicy_69 : decode cX2_takePolicy 69 = .ok (.iconst (-1), 1) := by decide +kernel
theorem dX2_takePolicy_70 : decode cX2_takePolicy 70 = .ok (.ireturn, 1) := by decide +kernel
theorem dX2_takePolicy_71 : decode cX2_takePolicy 71 = .ok (.aload_n 0, 1) := by decide +kernel
theorem dX2_takePolicy_72 : decode cX2_takePolicy 72 = .ok (.dup, 1) := by decide +kernel
theorem dX2_takePolicy_73 : decode cX2_takePolicy 73 = .ok (.getfield 28, 3) := by decide +kernel
theorem dX2_takePolicy_76 : decode cX2_takePolicy 76 = .ok (.iconst 1, 1) := by decide +kernel
theorem dX2_takePolicy_77 : decode cX2_takePolicy 77 = .ok (.iadd, 1) := by decide +kernel
theorem dX2_takePolicy_78 : decode cX2_takePolicy 78 = .ok (.putfield 28, 3) := by decide +kernel
theorem dX2_takePolicy_81 : decode cX2_takePolicy 81 = .ok (.iload_n 1, 1) := by decide +kernel
theorem dX2_takePolicy_82 : decode cX2_takePolicy 82 = .ok (.ireturn, 1) := by decide +kernel
theorem dX2_takeCounterAndValue_0 : decode cX2_takeCounterAndValue 0 = .ok (.aload_n 0, 1) := by decide +kernel
theorem dX2_takeCounterAndValue_1 : decode cX2_takeCounterAndValue 1 = .ok (.getfield 13, 3) := by decide +kernel
theorem dX2_takeCounterAndValue_4 : decode cX2_takeCounterAndValue 4 = .ok (.aload_n 0, 1) := by decide +kernel
theorem dX2_takeCounterAndValue_5 : decode cX2_takeCounterAndValue 5 = .ok (.getfield 28, 3) := by decide +kernel
theorem dX2_takeCounterAndValue_8 : decode cX2_takeCounterAndValue 8 = .ok (.aaload, 1) := by decide +kernel
theorem dX2_takeCounterAndValue_9 : decode cX2_takeCounterAndValue 9 = .ok (.invokevirtual 222, 3) := by decide +kernel
theorem dX2_takeCounterAndValue_12 : decode cX2_takeCounterAndValue 12 = .ok (.ifCond .ne 15, 3) := by decide +kernel
theorem dX2_takeCounterAndValue_15 : decode cX2_takeCounterAndValue 15 = .ok (.aload_n 0, 1) := by decide +kernel
theorem dX2_takeCounterAndValue_16 : decode cX2_takeCounterAndValue 16 = .ok (.iconst 1, 1) := by decide +kernel
theorem dX2_takeCounterAndValue_17 : decode cX2_takeCounterAndValue 17 = .ok (.aload_n 0, 1) := by decide +kernel
theorem dX2_takeCounterAndValue_18 : decode cX2_takeCounterAndValue 18 = .ok (.getfield 28, 3) := by decide +kernel
theorem dX2_takeCounterAndValue_21 : decode cX2_takeCounterAndValue 21 = .ok (.invokevirtual 177, 3) := by decide +kernel
theorem dX2_takeCounterAndValue_24 : decode cX2_takeCounterAndValue 24 = .ok (.pop, 1) := by decide +kernel
theorem dX2_takeCounterAndValue_25 : decode cX2_takeCounterAndValue 25 = .ok (.iconst (-1), 1) := by decide +kernel
theorem dX2_takeCounterAndValue_26 : decode cX2_takeCounterAndValue 26 = .ok (.ireturn, 1) := by decide +kernel
theorem dX2_takeCounterAndValue_27 : decode cX2_takeCounterAndValue 27 = .ok (.aload_n 0, 1) := by decide +kernel
theorem dX2_takeCounterAndValue_28 : decode cX2_takeCounterAndValue 28 = .ok (.dup, 1) := by decide +kernel
theorem dX2_takeCounterAndValue_29 : decode cX2_takeCounterAndValue 29 = .ok (.getfield 28, 3) := by decide +kernel
theorem dX2_takeCounterAndValue_32 : decode cX2_takeCounterAndValue 32 = .ok (.iconst 1, 1) := by decide +kernel
theorem dX2_takeCounterAndValue_33 : decode cX2_takeCounterAndValue 33 = .ok (.iadd, 1) := by decide +kernel
theorem dX2_takeCounterAndValue_34 : decode cX2_takeCounterAndValue 34 = .ok (.putfield 28, 3) := by decide +kernel
theorem dX2_takeCounterAndValue_37 : decode cX2_takeCounterAndValue 37 = .ok (.aload_n 0, 1) := by decide +kernel
theorem dX2_takeCounterAndValue_38 : decode cX2_takeCounterAndValue 38 = .ok (.iconst 0, 1) := by decide +kernel
theorem dX2_takeCounterAndValue_39 : decode cX2_takeCounterAndValue 39 = .ok (.sipush 999, 3) := by decide +kernel
theorem dX2_takeCounterAndValue_42 : decode cX2_takeCounterAndValue 42 = .ok (.invokevirtual 104, 3) := by decide +kernel
theorem dX2_takeCounterAndValue_45 : decode cX2_takeCounterAndValue 45 = .ok (.ireturn, 1) := by decide +kernel
theorem dX2_fail_0 : decode cX2_fail 0 = .ok (.aload_n 0, 1) := by decide +kernel
theorem dX2_fail_1 : decode cX2_fail 1 = .ok (.iload_n 1, 1) := by decide +kernel
theorem dX2_fail_2 : decode cX2_fail 2 = .ok (.putfield 34, 3) := by decide +kernel
theorem dX2_fail_5 : decode cX2_fail 5 = .ok (.aload_n 0, 1) := by decide +kernel
theorem dX2_fail_6 : decode cX2_fail 6 = .ok (.aload_n 0, 1) := by decide +kernel
theorem dX2_fail_7 : decode cX2_fail 7 = .ok (.getfield 17, 3) := by decide +kernel
theorem dX2_fail_10 : decode cX2_fail 10 = .ok (.iload_n 2, 1) := by decide +kernel
theorem dX2_fail_11 : decode cX2_fail 11 = .ok (.iaload, 1) := by decide +kernel
theorem dX2_fail_12 : decode cX2_fail 12 = .ok (.putfield 37, 3) := by decide +kernel
theorem dX2_fail_15 : decode cX2_fail 15 = .ok (.iconst 0, 1) := by decide +kernel
theorem dX2_fail_16 : decode cX2_fail 16 = .ok (.ireturn, 1) := by decide +kernel
theorem dX3_init_0 : decode cX3_init 0 = .ok (.aload_n 0, 1) := by decide +kernel
theorem dX3_init_1 : decode cX3_init 1 = .ok (.invokespecial 3, 3) := by decide +kernel
theorem dX3_init_4 : decode cX3_init 4 = .ok (.aload_n 0, 1) := by decide +kernel
theorem dX3_init_5 : decode cX3_init 5 = .ok (.bipush 40, 2) := by decide +kernel
theorem dX3_init_7 : decode cX3_init 7 = .ok (.newarray .int, 2) := by decide +kernel
theorem dX3_init_9 : decode cX3_init 9 = .ok (.putfield 9, 3) := by decide +kernel
theorem dX3_init_12 : decode cX3_init 12 = .ok (.aload_n 0, 1) := by decide +kernel
theorem dX3_init_13 : decode cX3_init 13 = .ok (.bipush 40, 2) := by decide +kernel
theorem dX3_init_15 : decode cX3_init 15 = .ok (.newarray .int, 2) := by decide +kernel
theorem dX3_init_17 : decode cX3_init 17 = .ok (.putfield 15, 3) := by decide +kernel
theorem dX3_init_20 : decode cX3_init 20 = .ok (.aload_n 0, 1) := by decide +kernel
theorem dX3_init_21 : decode cX3_init 21 = .ok (.bipush 40, 2) := by decide +kernel
theorem dX3_init_23 : decode cX3_init 23 = .ok (.newarray .int, 2) := by decide +kernel
theorem dX3_init_25 : decode cX3_init 25 = .ok (.putfield 18, 3) := by decide +kernel
theorem dX3_init_28 : decode cX3_init 28 = .ok (.aload_n 0, 1) := by decide +kernel
theorem dX3_init_29 : decode cX3_init 29 = .ok (.bipush 40, 2) := by decide +kernel
theorem dX3_init_31 : decode cX3_init 31 = .ok (.newarray .int, 2) := by decide +kernel
theorem dX3_init_33 : decode cX3_init 33 = .ok (.putfield 21, 3) := by decide +kernel
theorem dX3_init_36 : decode cX3_init 36 = .ok (.aload_n 0, 1) := by decide +kernel
theorem dX3_init_37 : decode cX3_init 37 = .ok (.bipush 40, 2) := by decide +kernel
theorem dX3_init_39 : decode cX3_init 39 = .ok (.newarray .int, 2) := by decide +kernel
theorem dX3_init_41 : decode cX3_init 41 = .ok (.putfield 24, 3) := by decide +kernel
theorem dX3_init_44 : decode cX3_init 44 = .ok (.aload_n 0, 1) := by decide +kernel
theorem dX3_init_45 : decode cX3_init 45 = .ok (.bipush 40, 2) := by decide +kernel
theorem dX3_init_47 : decode cX3_init 47 = .ok (.newarray .int, 2) := by decide +kernel
theorem dX3_init_49 : decode cX3_init 49 = .ok (.putfield 27, 3) := by decide +kernel
theorem dX3_init_52 : decode cX3_init 52 = .ok (.aload_n 0, 1) := by decide +kernel
theorem dX3_init_53 : decode cX3_init 53 = .ok (.bipush 10, 2) := by decide +kernel
theorem dX3_init_55 : decode cX3_init 55 = .ok (.iconst 4, 1) := by decide +kernel
theorem dX3_init_56 : decode cX3_init 56 = .ok (.iconst 2, 1) := by decide +kernel
theorem dX3_init_57 : decode cX3_init 57 = .ok (.invokevirtual 30, 3) := by decide +kernel
theorem dX3_init_60 : decode cX3_init 60 = .ok (.return_, 1) := by decide +kernel
theorem dX3_begin_0 : decode cX3_begin 0 = .ok (.aload_n 0, 1) := by decide +kernel
theorem dX3_begin_1 : decode cX3_begin 1 = .ok (.iload_n 1, 1) := by decide +kernel
theorem dX3_begin_2 : decode cX3_begin 2 = .ok (.putfield 34, 3) := by decide +kernel
theorem dX3_begin_5 : decode cX3_begin 5 = .ok (.aload_n 0, 1) := by decide +kernel
theorem dX3_begin_6 : decode cX3_begin 6 = .ok (.iload_n 2, 1) := by decide +kernel
theorem dX3_begin_7 : decode cX3_begin 7 = .ok (.putfield 38, 3) := by decide +kernel
theorem dX3_begin_10 : decode cX3_begin 10 = .ok (.aload_n 0, 1) := by decide +kernel
theorem dX3_begin_11 : decode cX3_begin 11 = .ok (.iload_n 3, 1) := by decide +kernel
theorem dX3_begin_12 : decode cX3_begin 12 = .ok (.putfield 41, 3) := by decide +kernel
theorem dX3_begin_15 : decode cX3_begin 15 = .ok (.aload_n 0, 1) := by decide +kernel
theorem dX3_begin_16 : decode cX3_begin 16 = .ok (.iconst 0, 1) := by decide +kernel
theorem dX3_begin_17 : decode cX3_begin 17 = .ok (.putfield 44, 3) := by decide +kernel
theorem dX3_begin_20 : decode cX3_begin 20 = .ok (.aload_n 0, 1) := by decide +kernel
theorem dX3_begin_21 : decode cX3_begin 21 = .ok (.iconst 0, 1) := by decide +kernel
theorem dX3_begin_22 : decode cX3_begin 22 = .ok (.putfield 47, 3) := by decide +kernel
theorem dX3_begin_25 : decode cX3_begin 25 = .ok (.aload_n 0, 1) := by decide +kernel
theorem dX3_begin_26 : decode cX3_begin 26 = .ok (.iconst 1, 1) := by decide +kernel
theorem dX3_begin_27 : decode cX3_begin 27 = .ok (.putfield 50, 3) := by decide +kernel
theorem dX3_begin_30 : decode cX3_begin 30 = .ok (.aload_n 0, 1) := by decide +kernel
theorem dX3_begin_31 : decode cX3_begin 31 = .ok (.iconst 0, 1) := by decide +kernel
theorem dX3_begin_32 : decode cX3_begin 32 = .ok (.putfield 54, 3) := by decide +kernel
theorem dX3_begin_35 : decode cX3_begin 35 = .ok (.aload_n 0, 1) := by decide +kernel
theorem dX3_begin_36 : decode cX3_begin 36 = .ok (.iconst 0, 1) := by decide +kernel
theorem dX3_begin_37 : decode cX3_begin 37 = .ok (.putfield 57, 3) := by decide +kernel
theorem dX3_begin_40 : decode cX3_begin 40 = .ok (.aload_n 0, 1) := by decide +kernel
theorem dX3_begin_41 : decode cX3_begin 41 = .ok (.iconst 0, 1) := by decide +kernel
theorem dX3_begin_42 : decode cX3_begin 42 = .ok (.putfield 60, 3) := by decide +kernel
theorem dX3_begin_45 : decode cX3_begin 45 = .ok (.aload_n 0, 1) := by decide +kernel
theorem dX3_begin_46 : decode cX3_begin 46 = .ok (.iconst 0, 1) := by decide +kernel
theorem dX3_begin_47 : decode cX3_begin 47 = .ok (.putfield 63, 3) := by decide +kernel
theorem dX3_begin_50 : decode cX3_begin 50 = .ok (.aload_n 0, 1) := by decide +kernel
theorem dX3_begin_51 : decode cX3_begin 51 = .ok (.iconst 0, 1) := by decide +kernel
theorem dX3_begin_52 : decode cX3_begin 52 = .ok (.putfield 66, 3) := by decide +kernel
theorem dX3_begin_55 : decode cX3_begin 55 = .ok (.aload_n 0, 1) := by decide +kernel
theorem dX3_begin_56 : decode cX3_begin 56 = .ok (.iconst 0, 1) := by decide +kernel
theorem dX3_begin_57 : decode cX3_begin 57 = .ok (.putfield 69, 3) := by decide +kernel
theorem dX3_begin_60 : decode cX3_begin 60 = .ok (.aload_n 0, 1) := by decide +kernel
theorem dX3_begin_61 : decode cX3_begin 61 = .ok (.iconst 0, 1) := by decide +kernel
theorem dX3_begin_62 : decode cX3_begin 62 = .ok (.putfield 72, 3) := by decide +kernel
theorem dX3_begin_65 : decode cX3_begin 65 = .ok (.return_, 1) := by decide +kernel
theorem dX3_copyFrom_0 : decode cX3_copyFrom 0 = .ok (.aload_n 0, 1) := by decide +kernel
theorem dX3_copyFrom_1 : decode cX3_copyFrom 1 = .ok (.aload_n 1, 1) := by decide +kernel
theorem dX3_copyFrom_2 : decode cX3_copyFrom 2 = .ok (.getfield 34, 3) := by decide +kernel
theorem dX3_copyFrom_5 : decode cX3_copyFrom 5 = .ok (.putfield 34, 3) := by decide +kernel
theorem dX3_copyFrom_8 : decode cX3_copyFrom 8 = .ok (.aload_n 0, 1) := by decide +kernel
theorem dX3_copyFrom_9 : decode cX3_copyFrom 9 = .ok (.aload_n 1, 1) := by decide +kernel
theorem dX3_copyFrom_10 : decode cX3_copyFrom 10 = .ok (.getfield 38, 3) := by decide +kernel
theorem dX3_copyFrom_13 : decode cX3_copyFrom 13 = .ok (.putfield 38, 3) := by decide +kernel
theorem dX3_copyFrom_16 : decode cX3_copyFrom 16 = .ok (.aload_n 0, 1) := by decide +kernel
theorem dX3_copyFrom_17 : decode cX3_copyFrom 17 = .ok (.aload_n 1, 1) := by decide +kernel
theorem dX3_copyFrom_18 : decode cX3_copyFrom 18 = .ok (.getfield 41, 3) := by decide +kernel
theorem dX3_copyFrom_21 : decode cX3_copyFrom 21 = .ok (.putfield 41, 3) := by decide +kernel
theorem dX3_copyFrom_24 : decode cX3_copyFrom 24 = .ok (.aload_n 0, 1) := by decide +kernel
theorem dX3_copyFrom_25 : decode cX3_copyFrom 25 = .ok (.aload_n 1, 1) := by decide +kernel
theorem dX3_copyFrom_26 : decode cX3_copyFrom 26 = .ok (.getfield 44, 3) := by decide +kernel
theorem dX3_copyFrom_29 : decode cX3_copyFrom 29 = .ok (.putfield 44, 3) := by decide +kernel
theorem dX3_copyFrom_32 : decode cX3_copyFrom 32 = .ok (.aload_n 0, 1) := by decide +kernel
theorem dX3_copyFrom_33 : decode cX3_copyFrom 33 = .ok (.aload_n 1, 1) := by decide +kernel
theorem dX3_copyFrom_34 : decode cX3_copyFrom 34 = .ok (.getfield 47, 3) := by decide +kernel
theorem dX3_copyFrom_37 : decode cX3_copyFrom 37 = .ok (.putfield 47, 3) := by decide +kernel
theorem dX3_copyFrom_40 : decode cX3_copyFrom 40 = .ok (.aload_n 0, 1) := by decide +kernel
theorem dX3_copyFrom_41 : decode cX3_copyFrom 41 = .ok (.aload_n 1, 1) := by decide +kernel
theorem dX3_copyFrom_42 : decode cX3_copyFrom 42 = .ok (.getfield 50, 3) := by decide +kernel
theorem dX3_copyFrom_45 : decode cX3_copyFrom 45 = .ok (.putfield 50, 3) := by decide +kernel
theorem dX3_copyFrom_48 : decode cX3_copyFrom 48 = .ok (.aload_n 0, 1) := by decide +kernel
theorem dX3_copyFrom_49 : decode cX3_copyFrom 49 = .ok (.aload_n 1, 1) := by decide +kernel
theorem dX3_copyFrom_50 : decode cX3_copyFrom 50 = .ok (.getfield 54, 3) := by decide +kernel
theorem dX3_copyFrom_53 : decode cX3_copyFrom 53 = .ok (.putfield 54, 3) := by decide +kernel
theorem dX3_copyFrom_56 : decode cX3_copyFrom 56 = .ok (.aload_n 0, 1) := by decide +kernel
theorem dX3_copyFrom_57 : decode cX3_copyFrom 57 = .ok (.aload_n 1, 1) := by decide +kernel
theorem dX3_copyFrom_58 : decode cX3_copyFrom 58 = .ok (.getfield 57, 3) := by decide +kernel
theorem dX3_copyFrom_61 : decode cX3_copyFrom 61 = .ok (.putfield 57, 3) := by decide +kernel
theorem dX3_copyFrom_64 : decode cX3_copyFrom 64 = .ok (.aload_n 0, 1) := by decide +kernel
theorem dX3_copyFrom_65 : decode cX3_copyFrom 65 = .ok (.aload_n 1, 1) := by decide +kernel
theorem dX3_copyFrom_66 : decode cX3_copyFrom 66 = .ok (.getfield 60, 3) := by decide +kernel
theorem dX3_copyFrom_69 : decode cX3_copyFrom 69 = .ok (.putfield 60, 3) := by decide +kernel
theorem dX3_copyFrom_72 : decode cX3_copyFrom 72 = .ok (.aload_n 0, 1) := by decide +kernel
theorem dX3_copyFrom_73 : decode cX3_copyFrom 73 = .ok (.aload_n 1, 1) := by decide +kernel
theorem dX3_copyFrom_74 : decode cX3_copyFrom 74 = .ok (.getfield 63, 3) := by decide +kernel
theorem dX3_copyFrom_77 : decode cX3_copyFrom 77 = .ok (.putfield 63, 3) := by decide +kernel
theorem dX3_copyFrom_80 : decode cX3_copyFrom 80 = .ok (.aload_n 0, 1) := by decide +kernel
theorem dX3_copyFrom_81 : decode cX3_copyFrom 81 = .ok (.aload_n 1, 1) := by decide +kernel
theorem dX3_copyFrom_82 : decode cX3_copyFrom 82 = .ok (.getfield 66, 3) := by decide +kernel
theorem dX3_copyFrom_85 : decode cX3_copyFrom 85 = .ok (.putfield 66, 3) := by decide +kernel
theorem dX3_copyFrom_88 : decode cX3_copyFrom 88 = .ok (.aload_n 0, 1) := by decide +kernel
theorem dX3_copyFrom_89 : decode cX3_copyFrom 89 = .ok (.aload_n 1, 1) := by decide +kernel
theorem dX3_copyFrom_90 : decode cX3_copyFrom 90 = .ok (.getfield 69, 3) := by decide +kernel
theorem dX3_copyFrom_93 : decode cX3_copyFrom 93 = .ok (.putfield 69, 3) := by decide +kernel
theorem dX3_copyFrom_96 : decode cX3_copyFrom 96 = .ok (.aload_n 0, 1) := by decide +kernel
theorem dX3_copyFrom_97 : decode cX3_copyFrom 97 = .ok (.aload_n 1, 1) := by decide +kernel
theorem dX3_copyFrom_98 : decode cX3_copyFrom 98 = .ok (.getfield 72, 3) := by decide +kernel
theorem dX3_copyFrom_101 : decode cX3_copyFrom 101 = .ok (.putfield 72, 3) := by decide +kernel
theorem dX3_copyFrom_104 : decode cX3_copyFrom 104 = .ok (.aload_n 1, 1) := by decide +kernel
theorem dX3_copyFrom_105 : decode cX3_copyFrom 105 = .ok (.getfield 9, 3) := by decide +kernel
theorem dX3_copyFrom_108 : decode cX3_copyFrom 108 = .ok (.iconst 0, 1) := by decide +kernel
theorem dX3_copyFrom_109 : decode cX3_copyFrom 109 = .ok (.aload_n 0, 1) := by decide +kernel
theorem dX3_copyFrom_110 : decode cX3_copyFrom 110 = .ok (.getfield 9, 3) := by decide +kernel
theorem dX3_copyFrom_113 : decode cX3_copyFrom 113 = .ok (.iconst 0, 1) := by decide +kernel
theorem dX3_copyFrom_114 : decode cX3_copyFrom 114 = .ok (.aload_n 0, 1) := by decide +kernel
theorem dX3_copyFrom_115 : decode cX3_copyFrom 115 = .ok (.getfield 66, 3) := by decide +kernel
theorem dX3_copyFrom_118 : decode cX3_copyFrom 118 = .ok (.invokestatic 75, 3) := by decide +kernel
theorem dX3_copyFrom_121 : decode cX3_copyFrom 121 = .ok (.aload_n 1, 1) := by decide +kernel
theorem dX3_copyFrom_122 : decode cX3_copyFrom 122 = .ok (.getfield 15, 3) := by decide +kernel
theorem dX3_copyFrom_125 : decode cX3_copyFrom 125 = .ok (.iconst 0, 1) := by decide +kernel
theorem dX3_copyFrom_126 : decode cX3_copyFrom 126 = .ok (.aload_n 0, 1) := by decide +kernel
theorem dX3_copyFrom_127 : decode cX3_copyFrom 127 = .ok (.getfield 15, 3) := by decide +kernel
theorem dX3_copyFrom_130 : decode cX3_copyFrom 130 = .ok (.iconst 0, 1) := by decide +kernel
theorem dX3_copyFrom_131 : decode cX3_copyFrom 131 = .ok (.aload_n 0, 1) := by decide +kernel
theorem dX3_copyFrom_132 : decode cX3_copyFrom 132 = .ok (.getfield 66, 3) := by decide +kernel
theorem dX3_copyFrom_135 : decode cX3_copyFrom 135 = .ok (.invokestatic 75, 3) := by decide +kernel
theorem dX3_copyFrom_138 : decode cX3_copyFrom 138 = .ok (.aload_n 1, 1) := by decide +kernel
theorem dX3_copyFrom_139 : decode cX3_copyFrom 139 = .ok (.getfield 18, 3) := by decide +kernel
theorem dX3_copyFrom_142 : decode cX3_copyFrom 142 = .ok (.iconst 0, 1) := by decide +kernel
theorem dX3_copyFrom_143 : decode cX3_copyFrom 143 = .ok (.aload_n 0, 1) := by decide +kernel
theorem dX3_copyFrom_144 : decode cX3_copyFrom 144 = .ok (.getfield 18, 3) := by decide +kernel
theorem dX3_copyFrom_147 : decode cX3_copyFrom 147 = .ok (.iconst 0, 1) := by decide +kernel
theorem dX3_copyFrom_148 : decode cX3_copyFrom 148 = .ok (.aload_n 0, 1) := by decide +kernel
theorem dX3_copyFrom_149 : decode cX3_copyFrom 149 = .ok (.getfield 66, 3) := by decide +kernel
theorem dX3_copyFrom_152 : decode cX3_copyFrom 152 = .ok (.invokestatic 75, 3) := by decide +kernel
theorem dX3_copyFrom_155 : decode cX3_copyFrom 155 = .ok (.aload_n 1, 1) := by decide +kernel
theorem dX3_copyFrom_156 : decode cX3_copyFrom 156 = .ok (.getfield 21, 3) := by decide +kernel
theorem dX3_copyFrom_159 : decode cX3_copyFrom 159 = .ok (.iconst 0, 1) := by decide +kernel
theorem dX3_copyFrom_160 : decode cX3_copyFrom 160 = .ok (.aload_n 0, 1) := by decide +kernel
theorem dX3_copyFrom_161 : decode cX3_copyFrom 161 = .ok (.getfield 21, 3) := by decide +kernel
theorem dX3_copyFrom_164 : decode cX3_copyFrom 164 = .ok (.iconst 0, 1) := by decide +kernel
theorem dX3_copyFrom_165 : decode cX3_copyFrom 165 = .ok (.aload_n 0, 1) := by decide +kernel
theorem dX3_copyFrom_166 : decode cX3_copyFrom 166 = .ok (.getfield 66, 3) := by decide +kernel
theorem dX3_copyFrom_169 : decode cX3_copyFrom 169 = .ok (.invokestatic 75, 3) := by decide +kernel
theorem dX3_copyFrom_172 : decode cX3_copyFrom 172 = .ok (.aload_n 1, 1) := by decide +kernel
theorem dX3_copyFrom_173 : decode cX3_copyFrom 173 = .ok (.getfield 24, 3) := by decide +kernel
theorem dX3_copyFrom_176 : decode cX3_copyFrom 176 = .ok (.iconst 0, 1) := by decide +kernel
theorem dX3_copyFrom_177 : decode cX3_copyFrom 177 = .ok (.aload_n 0, 1) := by decide +kernel
theorem dX3_copyFrom_178 : decode cX3_copyFrom 178 = .ok (.getfield 24, 3) := by decide +kernel
theorem dX3_copyFrom_181 : decode cX3_copyFrom 181 = .ok (.iconst 0, 1) := by decide +kernel
theorem dX3_copyFrom_182 : decode cX3_copyFrom 182 = .ok (.aload_n 0, 1) := by decide +kernel
theorem dX3_copyFrom_183 : decode cX3_copyFrom 183 = .ok (.getfield 66, 3) := by decide +kernel
theorem dX3_copyFrom_186 : decode cX3_copyFrom 186 = .ok (.invokestatic 75, 3) := by decide +kernel
theorem dX3_copyFrom_189 : decode cX3_copyFrom 189 = .ok (.aload_n 1, 1) := by decide +kernel
theorem dX3_copyFrom_190 : decode cX3_copyFrom 190 = .ok (.getfield 27, 3) := by decide +kernel
theorem dX3_copyFrom_193 : decode cX3_copyFrom 193 = .ok (.iconst 0, 1) := by decide +kernel
theorem dX3_copyFrom_194 : decode cX3_copyFrom 194 = .ok (.aload_n 0, 1) := by decide +kernel
theorem dX3_copyFrom_195 : decode cX3_copyFrom 195 = .ok (.getfield 27, 3) := by decide +kernel
theorem dX3_copyFrom_198 : decode cX3_copyFrom 198 = .ok (.iconst 0, 1) := by decide +kernel
theorem dX3_copyFrom_199 : decode cX3_copyFrom 199 = .ok (.aload_n 0, 1) := by decide +kernel
theorem dX3_copyFrom_200 : decode cX3_copyFrom 200 = .ok (.getfield 66, 3) := by decide +kernel
theorem dX3_copyFrom_203 : decode cX3_copyFrom 203 = .ok (.invokestatic 75, 3) := by decide +kernel
theorem dX3_copyFrom_206 : decode cX3_copyFrom 206 = .ok (.return_, 1) := by decide +kernel
theorem dX3_addArrival_0 : decode cX3_addArrival 0 = .ok (.aload_n 0, 1) := by decide +kernel
theorem dX3_addArrival_1 : decode cX3_addArrival 1 = .ok (.getfield 66, 3) := by decide +kernel
theorem dX3_addArrival_4 : decode cX3_addArrival 4 = .ok (.bipush 40, 2) := by decide +kernel
theorem dX3_addArrival_6 : decode cX3_addArrival 6 = .ok (.if_icmp .lt 4, 3) := by decide +kernel
theorem dX3_addArrival_9 : decode cX3_addArrival 9 = .ok (.return_, 1) := by decide +kernel
theorem dX3_addArrival_10 : decode cX3_addArrival 10 = .ok (.aload_n 0, 1) := by decide +kernel
theorem dX3_addArrival_11 : decode cX3_addArrival 11 = .ok (.getfield 9, 3) := by decide +kernel
theorem dX3_addArrival_14 : decode cX3_addArrival 14 = .ok (.aload_n 0, 1) := by decide +kernel
theorem dX3_addArrival_15 : decode cX3_addArrival 15 = .ok (.getfield 66, 3) := by decide +kernel
theorem dX3_addArrival_18 : decode cX3_addArrival 18 = .ok (.iload_n 1, 1) := by decide +kernel
theorem dX3_addArrival_19 : decode cX3_addArrival 19 = .ok (.iastore, 1) := by decide +kernel
theorem dX3_addArrival_20 : decode cX3_addArrival 20 = .ok (.aload_n 0, 1) := by decide +kernel
theorem dX3_addArrival_21 : decode cX3_addArrival 21 = .ok (.getfield 15, 3) := by decide +kernel
theorem dX3_addArrival_24 : decode cX3_addArrival 24 = .ok (.aload_n 0, 1) := by decide +kernel
theorem dX3_addArrival_25 : decode cX3_addArrival 25 = .ok (.getfield 66, 3) := by decide +kernel
theorem dX3_addArrival_28 : decode cX3_addArrival 28 = .ok (.iload_n 2, 1) := by decide +kernel
theorem dX3_addArrival_29 : decode cX3_addArrival 29 = .ok (.iastore, 1) := by decide +kernel
theorem dX3_addArrival_30 : decode cX3_addArrival 30 = .ok (.aload_n 0, 1) := by decide +kernel
theorem dX3_addArrival_31 : decode cX3_addArrival 31 = .ok (.getfield 18, 3) := by decide +kernel
theorem dX3_addArrival_34 : decode cX3_addArrival 34 = .ok (.aload_n 0, 1) := by decide +kernel
theorem dX3_addArrival_35 : decode cX3_addArrival 35 = .ok (.getfield 66, 3) := by decide +kernel
theorem dX3_addArrival_38 : decode cX3_addArrival 38 = .ok (.iload_n 3, 1) := by decide +kernel
theorem dX3_addArrival_39 : decode cX3_addArrival 39 = .ok (.iastore, 1) := by decide +kernel
theorem dX3_addArrival_40 : decode cX3_addArrival 40 = .ok (.aload_n 0, 1) := by decide +kernel
theorem dX3_addArrival_41 : decode cX3_addArrival 41 = .ok (.getfield 21, 3) := by decide +kernel
theorem dX3_addArrival_44 : decode cX3_addArrival 44 = .ok (.aload_n 0, 1) := by decide +kernel
theorem dX3_addArrival_45 : decode cX3_addArrival 45 = .ok (.getfield 66, 3) := by decide +kernel
theorem dX3_addArrival_48 : decode cX3_addArrival 48 = .ok (.iconst (-1), 1) := by decide +kernel
theorem dX3_addArrival_49 : decode cX3_addArrival 49 = .ok (.iastore, 1) := by decide +kernel
theorem dX3_addArrival_50 : decode cX3_addArrival 50 = .ok (.aload_n 0, 1) := by decide +kernel
theorem dX3_addArrival_51 : decode cX3_addArrival 51 = .ok (.getfield 24, 3) := by decide +kernel
theorem dX3_addArrival_54 : decode cX3_addArrival 54 = .ok (.aload_n 0, 1) := by decide +kernel
theorem dX3_addArrival_55 : decode cX3_addArrival 55 = .ok (.getfield 66, 3) := by decide +kernel
theorem dX3_addArrival_58 : decode cX3_addArrival 58 = .ok (.iconst (-1), 1) := by decide +kernel
theorem dX3_addArrival_59 : decode cX3_addArrival 59 = .ok (.iastore, 1) := by decide +kernel
theorem dX3_addArrival_60 : decode cX3_addArrival 60 = .ok (.aload_n 0, 1) := by decide +kernel
theorem dX3_addArrival_61 : decode cX3_addArrival 61 = .ok (.getfield 66, 3) := by decide +kernel
theorem dX3_addArrival_64 : decode cX3_addArrival 64 = .ok (.istore 4, 2) := by decide +kernel
theorem dX3_addArrival_66 : decode cX3_addArrival 66 = .ok (.iload 4, 2) := by decide +kernel
theorem dX3_addArrival_68 : decode cX3_addArrival 68 = .ok (.ifCond .le 43, 3) := by decide +kernel
theorem dX3_addArrival_71 : decode cX3_addArrival 71 = .ok (.aload_n 0, 1) := by decide +kernel
theorem dX3_addArrival_72 : decode cX3_addArrival 72 = .ok (.getfield 18, 3) := by decide +kernel
theorem dX3_addArrival_75 : decode cX3_addArrival 75 = .ok (.aload_n 0, 1) := by decide +kernel
theorem dX3_addArrival_76 : decode cX3_addArrival 76 = .ok (.getfield 27, 3) := by decide +kernel
theorem dX3_addArrival_79 : decode cX3_addArrival 79 = .ok (.iload 4, 2) := by decide +kernel
theorem dX3_addArrival_81 : decode cX3_addArrival 81 = .ok (.iconst 1, 1) := by decide +kernel
theorem dX3_addArrival_82 : decode cX3_addArrival 82 = .ok (.isub, 1) := by decide +kernel
theorem dX3_addArrival_83 : decode cX3_addArrival 83 = .ok (.iaload, 1) := by decide +kernel
theorem dX3_addArrival_84 : decode cX3_addArrival 84 = .ok (.iaload, 1) := by decide +kernel
theorem dX3_addArrival_85 : decode cX3_addArrival 85 = .ok (.iload_n 3, 1) := by decide +kernel
theorem dX3_addArrival_86 : decode cX3_addArrival 86 = .ok (.if_icmp .le 25, 3) := by decide +kernel
theorem dX3_addArrival_89 : decode cX3_addArrival 89 = .ok (.aload_n 0, 1) := by decide +kernel
theorem dX3_addArrival_90 : decode cX3_addArrival 90 = .ok (.getfield 27, 3) := by decide +kernel
theorem dX3_addArrival_93 : decode cX3_addArrival 93 = .ok (.iload 4, 2) := by decide +kernel
theorem dX3_addArrival_95 : decode cX3_addArrival 95 = .ok (.aload_n 0, 1) := by decide +kernel
theorem dX3_addArrival_96 : decode cX3_addArrival 96 = .ok (.getfield 27, 3) := by decide +kernel
theorem dX3_addArrival_99 : decode cX3_addArrival 99 = .ok (.iload 4, 2) := by decide +kernel
theorem dX3_addArrival_101 : decode cX3_addArrival 101 = .ok (.iconst 1, 1) := by decide +kernel
theorem dX3_addArrival_102 : decode cX3_addArrival 102 = .ok (.isub, 1) := by decide +kernel
theorem dX3_addArrival_103 : decode cX3_addArrival 103 = .ok (.iaload, 1) := by decide +kernel
theorem dX3_addArrival_104 : decode cX3_addArrival 104 = .ok (.iastore, 1) := by decide +kernel
theorem dX3_addArrival_105 : decode cX3_addArrival 105 = .ok (.iinc 4 (-1), 3) := by decide +kernel
theorem dX3_addArrival_108 : decode cX3_addArrival 108 = .ok (.goto (-42), 3) := by decide +kernel
theorem dX3_addArrival_111 : decode cX3_addArrival 111 = .ok (.aload_n 0, 1) := by decide +kernel
theorem dX3_addArrival_112 : decode cX3_addArrival 112 = .ok (.getfield 27, 3) := by decide +kernel
theorem dX3_addArrival_115 : decode cX3_addArrival 115 = .ok (.iload 4, 2) := by decide +kernel
theorem dX3_addArrival_117 : decode cX3_addArrival 117 = .ok (.aload_n 0, 1) := by decide +kernel
theorem dX3_addArrival_118 : decode cX3_addArrival 118 = .ok (.getfield 66, 3) := by decide +kernel
theorem dX3_addArrival_121 : decode cX3_addArrival 121 = .ok (.iastore, 1) := by decide +kernel
theorem dX3_addArrival_122 : decode cX3_addArrival 122 = .ok (.aload_n 0, 1) := by decide +kernel
theorem dX3_addArrival_123 : decode cX3_addArrival 123 = .ok (.dup, 1) := by decide +kernel
theorem dX3_addArrival_124 : decode cX3_addArrival 124 = .ok (.getfield 66, 3) := by decide +kernel
theorem dX3_addArrival_127 : decode cX3_addArrival 127 = .ok (.iconst 1, 1) := by decide +kernel
theorem dX3_addArrival_128 : decode cX3_addArrival 128 = .ok (.iadd, 1) := by decide +kernel
theorem dX3_addArrival_129 : decode cX3_addArrival 129 = .ok (.putfield 66, 3) := by decide +kernel
theorem dX3_addArrival_132 : decode cX3_addArrival 132 = .ok (.return_, 1) := by decide +kernel
theorem dX3_findStatus_0 : decode cX3_findStatus 0 = .ok (.aload_n 0, 1) := by decide +kernel
theorem dX3_findStatus_1 : decode cX3_findStatus 1 = .ok (.getfield 24, 3) := by decide +kernel
theorem dX3_findStatus_4 : decode cX3_findStatus 4 = .ok (.iload_n 1, 1) := by decide +kernel
theorem dX3_findStatus_5 : decode cX3_findStatus 5 = .ok (.iaload, 1) := by decide +kernel
theorem dX3_findStatus_6 : decode cX3_findStatus 6 = .ok (.iconst (-1), 1) := by decide +kernel
theorem dX3_findStatus_7 : decode cX3_findStatus 7 = .ok (.if_icmp .eq 5, 3) := by decide +kernel
theorem dX3_findStatus_10 : decode cX3_findStatus 10 = .ok (.iconst 3, 1) := by decide +kernel
theorem dX3_findStatus_11 : decode cX3_findStatus 11 = .ok (.ireturn, 1) := by decide +kernel
theorem dX3_findStatus_12 : decode cX3_findStatus 12 = .ok (.aload_n 0, 1) := by decide +kernel
theorem dX3_findStatus_13 : decode cX3_findStatus 13 = .ok (.getfield 21, 3) := by decide +kernel
theorem dX3_findStatus_16 : decode cX3_findStatus 16 = .ok (.iload_n 1, 1) := by decide +kernel
theorem dX3_findStatus_17 : decode cX3_findStatus 17 = .ok (.iaload, 1) := by decide +kernel
theorem dX3_findStatus_18 : decode cX3_findStatus 18 = .ok (.iconst (-1), 1) := by decide +kernel
theorem dX3_findStatus_19 : decode cX3_findStatus 19 = .ok (.if_icmp .eq 5, 3) := by decide +kernel
theorem dX3_findStatus_22 : decode cX3_findStatus 22 = .ok (.iconst 2, 1) := by decide +kernel
theorem dX3_findStatus_23 : decode cX3_findStatus 23 = .ok (.ireturn, 1) := by decide +kernel
theorem dX3_findStatus_24 : decode cX3_findStatus 24 = .ok (.aload_n 0, 1) := by decide +kernel
theorem dX3_findStatus_25 : decode cX3_findStatus 25 = .ok (.getfield 18, 3) := by decide +kernel
theorem dX3_findStatus_28 : decode cX3_findStatus 28 = .ok (.iload_n 1, 1) := by decide +kernel
theorem dX3_findStatus_29 : decode cX3_findStatus 29 = .ok (.iaload, 1) := by decide +kernel
theorem dX3_findStatus_30 : decode cX3_findStatus 30 = .ok (.aload_n 0, 1) := by decide +kernel
theorem dX3_findStatus_31 : decode cX3_findStatus 31 = .ok (.getfield 44, 3) := by decide +kernel
theorem dX3_findStatus_34 : decode cX3_findStatus 34 = .ok (.if_icmp .gt 7, 3) := by decide +kernel
theorem dX3_findStatus_37 : decode cX3_findStatus 37 = .ok (.iconst 1, 1) := by decide +kernel
theorem dX3_findStatus_38 : decode cX3_findStatus 38 = .ok (.goto 4, 3) := by decide +kernel
theorem dX3_findStatus_41 : decode cX3_findStatus 41 = .ok (.iconst 0, 1) := by decide +kernel
theorem dX3_findStatus_42 : decode cX3_findStatus 42 = .ok (.ireturn, 1) := by decide +kernel
theorem dX3_findWait_0 : decode cX3_findWait 0 = .ok (.aload_n 0, 1) := by decide +kernel
theorem dX3_findWait_1 : decode cX3_findWait 1 = .ok (.getfield 21, 3) := by decide +kernel
theorem dX3_findWait_4 : decode cX3_findWait 4 = .ok (.iload_n 1, 1) := by decide +kernel
theorem dX3_findWait_5 : decode cX3_findWait 5 = .ok (.iaload, 1) := by decide +kernel
theorem dX3_findWait_6 : decode cX3_findWait 6 = .ok (.iconst (-1), 1) := by decide +kernel
theorem dX3_findWait_7 : decode cX3_findWait 7 = .ok (.if_icmp .ne 7, 3) := by decide +kernel
theorem dX3_findWait_10 : decode cX3_findWait 10 = .ok (.iconst (-1), 1) := by decide +kernel
theorem dX3_findWait_11 : decode cX3_findWait 11 = .ok (.goto 16, 3) := by decide +kernel
theorem dX3_findWait_14 : decode cX3_findWait 14 = .ok (.aload_n 0, 1) := by decide +kernel
theorem dX3_findWait_15 : decode cX3_findWait 15 = .ok (.getfield 21, 3) := by decide +kernel
theorem dX3_findWait_18 : decode cX3_findWait 18 = .ok (.iload_n 1, 1) := by decide +kernel
theorem dX3_findWait_19 : decode cX3_findWait 19 = .ok (.iaload, 1) := by decide +kernel
theorem dX3_findWait_20 : decode cX3_findWait 20 = .ok (.aload_n 0, 1) := by decide +kernel
theorem dX3_findWait_21 : decode cX3_findWait 21 = .ok (.getfield 18, 3) := by decide +kernel
theorem dX3_findWait_24 : decode cX3_findWait 24 = .ok (.iload_n 1, 1) := by decide +kernel
theorem dX3_findWait_25 : decode cX3_findWait 25 = .ok (.iaload, 1) := by decide +kernel
theorem dX3_findWait_26 : decode cX3_findWait 26 = .ok (.isub, 1) := by decide +kernel
theorem dX3_findWait_27 : decode cX3_findWait 27 = .ok (.ireturn, 1) := by decide +kernel
theorem dX3_findRide_0 : decode cX3_findRide 0 = .ok (.aload_n 0, 1) := by decide +kernel
theorem dX3_findRide_1 : decode cX3_findRide 1 = .ok (.getfield 24, 3) := by decide +kernel
theorem dX3_findRide_4 : decode cX3_findRide 4 = .ok (.iload_n 1, 1) := by decide +kernel
theorem dX3_findRide_5 : decode cX3_findRide 5 = .ok (.iaload, 1) := by decide +kernel
theorem dX3_findRide_6 : decode cX3_findRide 6 = .ok (.iconst (-1), 1) := by decide +kernel
theorem dX3_findRide_7 : decode cX3_findRide 7 = .ok (.if_icmp .ne 7, 3) := by decide +kernel
theorem dX3_findRide_10 : decode cX3_findRide 10 = .ok (.iconst (-1), 1) := by decide +kernel
theorem dX3_findRide_11 : decode cX3_findRide 11 = .ok (.goto 16, 3) := by decide +kernel
theorem dX3_findRide_14 : decode cX3_findRide 14 = .ok (.aload_n 0, 1) := by decide +kernel
theorem dX3_findRide_15 : decode cX3_findRide 15 = .ok (.getfield 24, 3) := by decide +kernel
theorem dX3_findRide_18 : decode cX3_findRide 18 = .ok (.iload_n 1, 1) := by decide +kernel
theorem dX3_findRide_19 : decode cX3_findRide 19 = .ok (.iaload, 1) := by decide +kernel
theorem dX3_findRide_20 : decode cX3_findRide 20 = .ok (.aload_n 0, 1) := by decide +kernel
theorem dX3_findRide_21 : decode cX3_findRide 21 = .ok (.getfield 21, 3) := by decide +kernel
theorem dX3_findRide_24 : decode cX3_findRide 24 = .ok (.iload_n 1, 1) := by decide +kernel
theorem dX3_findRide_25 : decode cX3_findRide 25 = .ok (.iaload, 1) := by decide +kernel
theorem dX3_findRide_26 : decode cX3_findRide 26 = .ok (.isub, 1) := by decide +kernel
theorem dX3_findRide_27 : decode cX3_findRide 27 = .ok (.ireturn, 1) := by decide +kernel
theorem dX3_countWith_0 : decode cX3_countWith 0 = .ok (.iconst 0, 1) := by decide +kernel
theorem dX3_countWith_1 : decode cX3_countWith 1 = .ok (.istore_n 2, 1) := by decide +kernel
theorem dX3_countWith_2 : decode cX3_countWith 2 = .ok (.iconst 0, 1) := by decide +kernel
theorem dX3_countWith_3 : decode cX3_countWith 3 = .ok (.istore_n 3, 1) := by decide +kernel
theorem dX3_countWith_4 : decode cX3_countWith 4 = .ok (.iload_n 3, 1) := by decide +kernel
theorem dX3_countWith_5 : decode cX3_countWith 5 = .ok (.aload_n 0, 1) := by decide +kernel
theorem dX3_countWith_6 : decode cX3_countWith 6 = .ok (.getfield 66, 3) := by decide +kernel
theorem dX3_countWith_9 : decode cX3_countWith 9 = .ok (.if_icmp .ge 21, 3) := by decide +kernel
theorem dX3_countWith_12 : decode cX3_countWith 12 = .ok (.aload_n 0, 1) := by decide +kernel
theorem dX3_countWith_13 : decode cX3_countWith 13 = .ok (.iload_n 3, 1) := by decide +kernel
theorem dX3_countWith_14 : decode cX3_countWith 14 = .ok (.invokevirtual 81, 3) := by decide +kernel
theorem dX3_countWith_17 : decode cX3_countWith 17 = .ok (.iload_n 1, 1) := by decide +kernel
theorem dX3_countWith_18 : decode cX3_countWith 18 = .ok (.if_icmp .ne 6, 3) := by decide +kernel
theorem dX3_countWith_21 : decode cX3_countWith 21 = .ok (.iinc 2 1, 3) := by decide +kernel
theorem dX3_countWith_24 : decode cX3_countWith 24 = .ok (.iinc 3 1, 3) := by decide +kernel
theorem dX3_countWith_27 : decode cX3_countWith 27 = .ok (.goto (-23), 3) := by decide +kernel
theorem dX3_countWith_30 : decode cX3_countWith 30 = .ok (.iload_n 2, 1) := by decide +kernel
theorem dX3_countWith_31 : decode cX3_countWith 31 = .ok (.ireturn, 1) := by decide +kernel
theorem dX3_countWaiting_0 : decode cX3_countWaiting 0 = .ok (.iconst 0, 1) := by decide +kernel
theorem dX3_countWaiting_1 : decode cX3_countWaiting 1 = .ok (.istore_n 2, 1) := by decide +kernel
theorem dX3_countWaiting_2 : decode cX3_countWaiting 2 = .ok (.iconst 0, 1) := by decide +kernel
theorem dX3_countWaiting_3 : decode cX3_countWaiting 3 = .ok (.istore_n 3, 1) := by decide +kernel
theorem dX3_countWaiting_4 : decode cX3_countWaiting 4 = .ok (.iload_n 3, 1) := by decide +kernel
theorem dX3_countWaiting_5 : decode cX3_countWaiting 5 = .ok (.aload_n 0, 1) := by decide +kernel
theorem dX3_countWaiting_6 : decode cX3_countWaiting 6 = .ok (.getfield 66, 3) := by decide +kernel
theorem dX3_countWaiting_9 : decode cX3_countWaiting 9 = .ok (.if_icmp .ge 31, 3) := by decide +kernel
theorem dX3_countWaiting_12 : decode cX3_countWaiting 12 = .ok (.aload_n 0, 1) := by decide +kernel
theorem dX3_countWaiting_13 : decode cX3_countWaiting 13 = .ok (.getfield 9, 3) := by decide +kernel
theorem dX3_countWaiting_16 : decode cX3_countWaiting 16 = .ok (.iload_n 3, 1) := by decide +kernel
theorem dX3_countWaiting_17 : decode cX3_countWaiting 17 = .ok (.iaload, 1) := by decide +kernel
theorem dX3_countWaiting_18 : decode cX3_countWaiting 18 = .ok (.iload_n 1, 1) := by decide +kernel
theorem dX3_countWaiting_19 : decode cX3_countWaiting 19 = .ok (.if_icmp .ne 15, 3) := by decide +kernel
theorem dX3_countWaiting_22 : decode cX3_countWaiting 22 = .ok (.aload_n 0, 1) := by decide +kernel
theorem dX3_countWaiting_23 : decode cX3_countWaiting 23 = .ok (.iload_n 3, 1) := by decide +kernel
theorem dX3_countWaiting_24 : decode cX3_countWaiting 24 = .ok (.invokevirtual 81, 3) := by decide +kernel
theorem dX3_countWaiting_27 : decode cX3_countWaiting 27 = .ok (.iconst 1, 1) := by decide +kernel
theorem dX3_countWaiting_28 : decode cX3_countWaiting 28 = .ok (.if_icmp .ne 6, 3) := by decide +kernel
theorem dX3_countWaiting_31 : decode cX3_countWaiting 31 = .ok (.iinc 2 1, 3) := by decide +kernel
theorem dX3_countWaiting_34 : decode cX3_countWaiting 34 = .ok (.iinc 3 1, 3) := by decide +kernel
theorem dX3_countWaiting_37 : decode cX3_countWaiting 37 = .ok (.goto (-33), 3) := by decide +kernel
theorem dX3_countWaiting_40 : decode cX3_countWaiting 40 = .ok (.iload_n 2, 1) := by decide +kernel
theorem dX3_countWaiting_41 : decode cX3_countWaiting 41 = .ok (.ireturn, 1) := by decide +kernel
theorem dX3_findFirstWaiting_0 : decode cX3_findFirstWaiting 0 = .ok (.iconst 0, 1) := by decide +kernel
theorem dX3_findFirstWaiting_1 : decode cX3_findFirstWaiting 1 = .ok (.istore_n 1, 1) := by decide +kernel
theorem dX3_findFirstWaiting_2 : decode cX3_findFirstWaiting 2 = .ok (.iload_n 1, 1) := by decide +kernel
theorem dX3_findFirstWaiting_3 : decode cX3_findFirstWaiting 3 = .ok (.aload_n 0, 1) := by decide +kernel
theorem dX3_findFirstWaiting_4 : decode cX3_findFirstWaiting 4 = .ok (.getfield 66, 3) := by decide +kernel
theorem dX3_findFirstWaiting_7 : decode cX3_findFirstWaiting 7 = .ok (.if_icmp .ge 45, 3) := by decide +kernel
theorem dX3_findFirstWaiting_10 : decode cX3_findFirstWaiting 10 = .ok (.aload_n 0, 1) := by decide +kernel
theorem dX3_findFirstWaiting_11 : decode cX3_findFirstWaiting 11 = .ok (.getfield 27, 3) := by decide +kernel
theorem dX3_findFirstWaiting_14 : decode cX3_findFirstWaiting 14 = .ok (.iload_n 1, 1) := by decide +kernel
theorem dX3_findFirstWaiting_15 : decode cX3_findFirstWaiting 15 = .ok (.iaload, 1) := by decide +kernel
theorem dX3_findFirstWaiting_16 : decode cX3_findFirstWaiting 16 = .ok (.istore_n 2, 1) := by decide +kernel
theorem dX3_findFirstWaiting_17 : decode cX3_findFirstWaiting 17 = .ok (.aload_n 0, 1) := by decide +kernel
theorem dX3_findFirstWaiting_18 : decode cX3_findFirstWaiting 18 = .ok (.getfield 21, 3) := by decide +kernel
theorem dX3_findFirstWaiting_21 : decode cX3_findFirstWaiting 21 = .ok (.iload_n 2, 1) := by decide +kernel
theorem dX3_findFirstWaiting_22 : decode cX3_findFirstWaiting 22 = .ok (.iaload, 1) := by decide +kernel
theorem dX3_findFirstWaiting_23 : decode cX3_findFirstWaiting 23 = .ok (.iconst (-1), 1) := by decide +kernel
theorem dX3_findFirstWaiting_24 : decode cX3_findFirstWaiting 24 = .ok (.if_icmp .ne 22, 3) := by decide +kernel
theorem dX3_findFirstWaiting_27 : decode cX3_findFirstWaiting 27 = .ok (.aload_n 0, 1) := by decide +kernel
theorem dX3_findFirstWaiting_28 : decode cX3_findFirstWaiting 28 = .ok (.getfield 18, 3) := by decide +kernel
theorem dX3_findFirstWaiting_31 : decode cX3_findFirstWaiting 31 = .ok (.iload_n 2, 1) := by decide +kernel
theorem dX3_findFirstWaiting_32 : decode cX3_findFirstWaiting 32 = .ok (.iaload, 1) := by decide +kernel
theorem dX3_findFirstWaiting_33 : decode cX3_findFirstWaiting 33 = .ok (.aload_n 0, 1) := by decide +kernel
theorem dX3_findFirstWaiting_34 : decode cX3_findFirstWaiting 34 = .ok (.getfield 44, 3) := by decide +kernel
theorem dX3_findFirstWaiting_37 : decode cX3_findFirstWaiting 37 = .ok (.if_icmp .gt 7, 3) := by decide +kernel
theorem dX3_findFirstWaiting_40 : decode cX3_findFirstWaiting 40 = .ok (.iload_n 2, 1) := by decide +kernel
theorem dX3_findFirstWaiting_41 : decode cX3_findFirstWaiting 41 = .ok (.goto 4, 3) := by decide +kernel
theorem dX3_findFirstWaiting_44 : decode cX3_findFirstWaiting 44 = .ok (.iconst (-1), 1) := by decide +kernel
theorem dX3_findFirstWaiting_45 : decode cX3_findFirstWaiting 45 = .ok (.ireturn, 1) := by decide +kernel
theorem dX3_findFirstWaiting_46 : decode cX3_findFirstWaiting 46 = .ok (.iinc 1 1, 3) := by decide +kernel
theorem dX3_findFirstWaiting_49 : decode cX3_findFirstWaiting 49 = .ok (.goto (-47), 3) := by decide +kernel
theorem dX3_findFirstWaiting_52 : decode cX3_findFirstWaiting 52 = .ok (.iconst (-1), 1) := by decide +kernel
theorem dX3_findFirstWaiting_53 : decode cX3_findFirstWaiting 53 = .ok (.ireturn, 1) := by decide +kernel
theorem dX3_sumWaits_0 : decode cX3_sumWaits 0 = .ok (.iconst 0, 1) := by decide +kernel
theorem dX3_sumWaits_1 : decode cX3_sumWaits 1 = .ok (.istore_n 1, 1) := by decide +kernel
theorem dX3_sumWaits_2 : decode cX3_sumWaits 2 = .ok (.iconst 0, 1) := by decide +kernel
theorem dX3_sumWaits_3 : decode cX3_sumWaits 3 = .ok (.istore_n 2, 1) := by decide +kernel
theorem dX3_sumWaits_4 : decode cX3_sumWaits 4 = .ok (.iload_n 2, 1) := by decide +kernel
theorem dX3_sumWaits_5 : decode cX3_sumWaits 5 = .ok (.aload_n 0, 1) := by decide +kernel
theorem dX3_sumWaits_6 : decode cX3_sumWaits 6 = .ok (.getfield 66, 3) := by decide +kernel
theorem dX3_sumWaits_9 : decode cX3_sumWaits 9 = .ok (.if_icmp .ge 21, 3) := by decide +kernel
theorem dX3_sumWaits_12 : decode cX3_sumWaits 12 = .ok (.iload_n 1, 1) := by decide +kernel
theorem dX3_sumWaits_13 : decode cX3_sumWaits 13 = .ok (.aload_n 0, 1) := by decide +kernel
theorem dX3_sumWaits_14 : decode cX3_sumWaits 14 = .ok (.iload_n 2, 1) := by decide +kernel
theorem dX3_sumWaits_15 : decode cX3_sumWaits 15 = .ok (.invokevirtual 85, 3) := by decide +kernel
theorem dX3_sumWaits_18 : decode cX3_sumWaits 18 = .ok (.iconst 0, 1) := by decide +kernel
theorem dX3_sumWaits_19 : decode cX3_sumWaits 19 = .ok (.invokestatic 88, 3) := by decide +kernel
theorem dX3_sumWaits_22 : decode cX3_sumWaits 22 = .ok (.iadd, 1) := by decide +kernel
theorem dX3_sumWaits_23 : decode cX3_sumWaits 23 = .ok (.istore_n 1, 1) := by decide +kernel
theorem dX3_sumWaits_24 : decode cX3_sumWaits 24 = .ok (.iinc 2 1, 3) := by decide +kernel
theorem dX3_sumWaits_27 : decode cX3_sumWaits 27 = .ok (.goto (-23), 3) := by decide +kernel
theorem dX3_sumWaits_30 : decode cX3_sumWaits 30 = .ok (.iload_n 1, 1) := by decide +kernel
theorem dX3_sumWaits_31 : decode cX3_sumWaits 31 = .ok (.ireturn, 1) := by decide +kernel
theorem dX3_findLongestWait_0 : decode cX3_findLongestWait 0 = .ok (.iconst 0, 1) := by decide +kernel
theorem dX3_findLongestWait_1 : decode cX3_findLongestWait 1 = .ok (.istore_n 1, 1) := by decide +kernel
theorem dX3_findLongestWait_2 : decode cX3_findLongestWait 2 = .ok (.iconst 0, 1) := by decide +kernel
theorem dX3_findLongestWait_3 : decode cX3_findLongestWait 3 = .ok (.istore_n 2, 1) := by decide +kernel
theorem dX3_findLongestWait_4 : decode cX3_findLongestWait 4 = .ok (.iload_n 2, 1) := by decide +kernel
theorem dX3_findLongestWait_5 : decode cX3_findLongestWait 5 = .ok (.aload_n 0, 1) := by decide +kernel
theorem dX3_findLongestWait_6 : decode cX3_findLongestWait 6 = .ok (.getfield 66, 3) := by decide +kernel
theorem dX3_findLongestWait_9 : decode cX3_findLongestWait 9 = .ok (.if_icmp .ge 19, 3) := by decide +kernel
theorem dX3_findLongestWait_12 : decode cX3_findLongestWait 12 = .ok (.iload_n 1, 1) := by decide +kernel
theorem dX3_findLongestWait_13 : decode cX3_findLongestWait 13 = .ok (.aload_n 0, 1) := by decide +kernel
theorem dX3_findLongestWait_14 : decode cX3_findLongestWait 14 = .ok (.iload_n 2, 1) := by decide +kernel
theorem dX3_findLongestWait_15 : decode cX3_findLongestWait 15 = .ok (.invokevirtual 85, 3) := by decide +kernel
theorem dX3_findLongestWait_18 : decode cX3_findLongestWait 18 = .ok (.invokestatic 88, 3) := by decide +kernel
theorem dX3_findLongestWait_21 : decode cX3_findLongestWait 21 = .ok (.istore_n 1, 1) := by decide +kernel
theorem dX3_findLongestWait_22 : decode cX3_findLongestWait 22 = .ok (.iinc 2 1, 3) := by decide +kernel
theorem dX3_findLongestWait_25 : decode cX3_findLongestWait 25 = .ok (.goto (-21), 3) := by decide +kernel
theorem dX3_findLongestWait_28 : decode cX3_findLongestWait 28 = .ok (.iload_n 1, 1) := by decide +kernel
theorem dX3_findLongestWait_29 : decode cX3_findLongestWait 29 = .ok (.ireturn, 1) := by decide +kernel
theorem dX3_isOver_0 : decode cX3_isOver 0 = .ok (.aload_n 0, 1) := by decide +kernel
theorem dX3_isOver_1 : decode cX3_isOver 1 = .ok (.getfield 72, 3) := by decide +kernel
theorem dX3_isOver_4 : decode cX3_isOver 4 = .ok (.aload_n 0, 1) := by decide +kernel
theorem dX3_isOver_5 : decode cX3_isOver 5 = .ok (.getfield 66, 3) := by decide +kernel
theorem dX3_isOver_8 : decode cX3_isOver 8 = .ok (.if_icmp .ne 7, 3) := by decide +kernel
theorem dX3_isOver_11 : decode cX3_isOver 11 = .ok (.iconst 1, 1) := by decide +kernel
theorem dX3_isOver_12 : decode cX3_isOver 12 = .ok (.goto 4, 3) := by decide +kernel
theorem dX3_isOver_15 : decode cX3_isOver 15 = .ok (.iconst 0, 1) := by decide +kernel
theorem dX3_isOver_16 : decode cX3_isOver 16 = .ok (.ireturn, 1) := by decide +kernel
theorem dX3_findStops_0 : decode cX3_findStops 0 = .ok (.aload_n 0, 1) := by decide +kernel
theorem dX3_findStops_1 : decode cX3_findStops 1 = .ok (.getfield 69, 3) := by decide +kernel
theorem dX3_findStops_4 : decode cX3_findStops 4 = .ok (.aload_n 0, 1) := by decide +kernel
theorem dX3_findStops_5 : decode cX3_findStops 5 = .ok (.getfield 38, 3) := by decide +kernel
theorem dX3_findStops_8 : decode cX3_findStops 8 = .ok (.if_icmp .ge 7, 3) := by decide +kernel
theorem dX3_findStops_11 : decode cX3_findStops 11 = .ok (.iconst 1, 1) := by decide +kernel
theorem dX3_findStops_12 : decode cX3_findStops 12 = .ok (.goto 4, 3) := by decide +kernel
theorem dX3_findStops_15 : decode cX3_findStops 15 = .ok (.iconst 0, 1) := by decide +kernel
theorem dX3_findStops_16 : decode cX3_findStops 16 = .ok (.istore_n 1, 1) := by decide +kernel
theorem dX3_findStops_17 : decode cX3_findStops 17 = .ok (.iconst 0, 1) := by decide +kernel
theorem dX3_findStops_18 : decode cX3_findStops 18 = .ok (.istore_n 2, 1) := by decide +kernel
theorem dX3_findStops_19 : decode cX3_findStops 19 = .ok (.iconst 0, 1) := by decide +kernel
theorem dX3_findStops_20 : decode cX3_findStops 20 = .ok (.istore_n 3, 1) := by decide +kernel
theorem dX3_findStops_21 : decode cX3_findStops 21 = .ok (.iload_n 3, 1) := by decide +kernel
theorem dX3_findStops_22 : decode cX3_findStops 22 = .ok (.aload_n 0, 1) := by decide +kernel
theorem dX3_findStops_23 : decode cX3_findStops 23 = .ok (.getfield 66, 3) := by decide +kernel
theorem dX3_findStops_26 : decode cX3_findStops 26 = .ok (.if_icmp .ge 74, 3) := by decide +kernel
theorem dX3_findStops_29 : decode cX3_findStops 29 = .ok (.aload_n 0, 1) := by decide +kernel
theorem dX3_findStops_30 : decode cX3_findStops 30 = .ok (.getfield 24, 3) := by decide +kernel
theorem dX3_findStops_33 : decode cX3_findStops 33 = .ok (.iload_n 3, 1) := by decide +kernel
theorem dX3_findStops_34 : decode cX3_findStops 34 = .ok (.iaload, 1) := by decide +kernel
theorem dX3_findStops_35 : decode cX3_findStops 35 = .ok (.iconst (-1), 1) := by decide +kernel
theorem dX3_findStops_36 : decode cX3_findStops 36 = .ok (.if_icmp .eq 6, 3) := by decide +kernel
theorem dX3_findStops_39 : decode cX3_findStops 39 = .ok (.goto 55, 3) := by decide +kernel
theorem dX3_findStops_42 : decode cX3_findStops 42 = .ok (.aload_n 0, 1) := by decide +kernel
theorem dX3_findStops_43 : decode cX3_findStops 43 = .ok (.getfield 21, 3) := by decide +kernel
theorem dX3_findStops_46 : decode cX3_findStops 46 = .ok (.iload_n 3, 1) := by decide +kernel
theorem dX3_findStops_47 : decode cX3_findStops 47 = .ok (.iaload, 1) := by decide +kernel
theorem dX3_findStops_48 : decode cX3_findStops 48 = .ok (.iconst (-1), 1) := by decide +kernel
theorem dX3_findStops_49 : decode cX3_findStops 49 = .ok (.if_icmp .eq 17, 3) := by decide +kernel
theorem dX3_findStops_52 : decode cX3_findStops 52 = .ok (.iload_n 2, 1) := by decide +kernel
theorem dX3_findStops_53 : decode cX3_findStops 53 = .ok (.iconst 1, 1) := by decide +kernel
theorem dX3_findStops_54 : decode cX3_findStops 54 = .ok (.aload_n 0, 1) := by decide +kernel
theorem dX3_findStops_55 : decode cX3_findStops 55 = .ok (.getfield 15, 3) := by decide +kernel
theorem dX3_findStops_58 : decode cX3_findStops 58 = .ok (.iload_n 3, 1) := by decide +kernel
theorem dX3_findStops_59 : decode cX3_findStops 59 = .ok (.iaload, 1) := by decide +kernel
theorem dX3_findStops_60 : decode cX3_findStops 60 = .ok (.ishl, 1) := by decide +kernel
theorem dX3_findStops_61 : decode cX3_findStops 61 = .ok (.ior, 1) := by decide +kernel
theorem dX3_findStops_62 : decode cX3_findStops 62 = .ok (.istore_n 2, 1) := by decide +kernel
theorem dX3_findStops_63 : decode cX3_findStops 63 = .ok (.goto 31, 3) := by decide +kernel
theorem dX3_findStops_66 : decode cX3_findStops 66 = .ok (.iload_n 1, 1) := by decide +kernel
theorem dX3_findStops_67 : decode cX3_findStops 67 = .ok (.ifCond .eq 27, 3) := by decide +kernel
theorem dX3_findStops_70 : decode cX3_findStops 70 = .ok (.aload_n 0, 1) := by decide +kernel
theorem dX3_findStops_71 : decode cX3_findStops 71 = .ok (.getfield 18, 3) := by decide +kernel
theorem dX3_findStops_74 : decode cX3_findStops 74 = .ok (.iload_n 3, 1) := by decide +kernel
theorem dX3_findStops_75 : decode cX3_findStops 75 = .ok (.iaload, 1) := by decide +kernel
theorem dX3_findStops_76 : decode cX3_findStops 76 = .ok (.aload_n 0, 1) := by decide +kernel
theorem dX3_findStops_77 : decode cX3_findStops 77 = .ok (.getfield 44, 3) := by decide +kernel
theorem dX3_findStops_80 : decode cX3_findStops 80 = .ok (.if_icmp .gt 14, 3) := by decide +kernel
theorem dX3_findStops_83 : decode cX3_findStops 83 = .ok (.iload_n 2, 1) := by decide +kernel
theorem dX3_findStops_84 : decode cX3_findStops 84 = .ok (.iconst 1, 1) := by decide +kernel
theorem dX3_findStops_85 : decode cX3_findStops 85 = .ok (.aload_n 0, 1) := by decide +kernel
theorem dX3_findStops_86 : decode cX3_findStops 86 = .ok (.getfield 9, 3) := by decide +kernel
theorem dX3_findStops_89 : decode cX3_findStops 89 = .ok (.iload_n 3, 1) := by decide +kernel
theorem dX3_findStops_90 : decode cX3_findStops 90 = .ok (.iaload, 1) := by decide +kernel
theorem dX3_findStops_91 : decode cX3_findStops 91 = .ok (.ishl, 1) := by decide +kernel
theorem dX3_findStops_92 : decode cX3_findStops 92 = .ok (.ior, 1) := by decide +kernel
theorem dX3_findStops_93 : decode cX3_findStops 93 = .ok (.istore_n 2, 1) := by decide +kernel
theorem dX3_findStops_94 : decode cX3_findStops 94 = .ok (.iinc 3 1, 3) := by decide +kernel
theorem dX3_findStops_97 : decode cX3_findStops 97 = .ok (.goto (-76), 3) := by decide +kernel
theorem dX3_findStops_100 : decode cX3_findStops 100 = .ok (.iload_n 2, 1) := by decide +kernel
theorem dX3_findStops_101 : decode cX3_findStops 101 = .ok (.ireturn, 1) := by decide +kernel
theorem dX3_findTarget_0 : decode cX3_findTarget 0 = .ok (.aload_n 0, 1) := by decide +kernel
theorem dX3_findTarget_1 : decode cX3_findTarget 1 = .ok (.invokevirtual 94, 3) := by decide +kernel
theorem dX3_findTarget_4 : decode cX3_findTarget 4 = .ok (.istore_n 2, 1) := by decide +kernel
theorem dX3_findTarget_5 : decode cX3_findTarget 5 = .ok (.iload_n 2, 1) := by decide +kernel
theorem dX3_findTarget_6 : decode cX3_findTarget 6 = .ok (.ifCond .ne 5, 3) := by decide +kernel
theorem dX3_findTarget_9 : decode cX3_findTarget 9 = .ok (.iconst (-1), 1) := by decide +kernel
theorem dX3_findTarget_10 : decode cX3_findTarget 10 = .ok (.ireturn, 1) := by decide +kernel
theorem dX3_findTarget_11 : decode cX3_findTarget 11 = .ok (.iload_n 2, 1) := by decide +kernel
theorem dX3_findTarget_12 : decode cX3_findTarget 12 = .ok (.aload_n 0, 1) := by decide +kernel
theorem dX3_findTarget_13 : decode cX3_findTarget 13 = .ok (.getfield 47, 3) := by decide +kernel
theorem dX3_findTarget_16 : decode cX3_findTarget 16 = .ok (.ishr, 1) := by decide +kernel
theorem dX3_findTarget_17 : decode cX3_findTarget 17 = .ok (.iconst 1, 1) := by decide +kernel
theorem dX3_findTarget_18 : decode cX3_findTarget 18 = .ok (.iand, 1) := by decide +kernel
theorem dX3_findTarget_19 : decode cX3_findTarget 19 = .ok (.ifCond .eq 8, 3) := by decide +kernel
theorem dX3_findTarget_22 : decode cX3_findTarget 22 = .ok (.aload_n 0, 1) := by decide +kernel
theorem dX3_findTarget_23 : decode cX3_findTarget 23 = .ok (.getfield 47, 3) := by decide +kernel
theorem dX3_findTarget_26 : decode cX3_findTarget 26 = .ok (.ireturn, 1) := by decide +kernel
theorem dX3_findTarget_27 : decode cX3_findTarget 27 = .ok (.iload_n 1, 1) := by decide +kernel
theorem dX3_findTarget_28 : decode cX3_findTarget 28 = .ok (.ifCond .ne 54, 3) := by decide +kernel
theorem dX3_findTarget_31 : decode cX3_findTarget 31 = .ok (.aload_n 0, 1) := by decide +kernel
theorem dX3_findTarget_32 : decode cX3_findTarget 32 = .ok (.invokevirtual 98, 3) := by decide +kernel
theorem dX3_findTarget_35 : decode cX3_findTarget 35 = .ok (.istore_n 3, 1) := by decide +kernel
theorem dX3_findTarget_36 : decode cX3_findTarget 36 = .ok (.iload_n 3, 1) := by decide +kernel
theorem dX3_findTarget_37 : decode cX3_findTarget 37 = .ok (.iconst (-1), 1) := by decide +kernel
theorem dX3_findTarget_38 : decode cX3_findTarget 38 = .ok (.if_icmp .ne 10, 3) := by decide +kernel
theorem dX3_findTarget_41 : decode cX3_findTarget 41 = .ok (.aload_n 0, 1) := by decide +kernel
theorem dX3_findTarget_42 : decode cX3_findTarget 42 = .ok (.invokevirtual 101, 3) := by decide +kernel
theorem dX3_findTarget_45 : decode cX3_findTarget 45 = .ok (.goto 4, 3) := by decide +kernel
theorem dX3_findTarget_48 : decode cX3_findTarget 48 = .ok (.iload_n 3, 1) := by decide +kernel
theorem dX3_findTarget_49 : decode cX3_findTarget 49 = .ok (.istore 4, 2) := by decide +kernel
theorem dX3_findTarget_51 : decode cX3_findTarget 51 = .ok (.iload 4, 2) := by decide +kernel
theorem dX3_findTarget_53 : decode cX3_findTarget 53 = .ok (.iconst (-1), 1) := by decide +kernel
theorem dX3_findTarget_54 : decode cX3_findTarget 54 = .ok (.if_icmp .ne 5, 3) := by decide +kernel
theorem dX3_findTarget_57 : decode cX3_findTarget 57 = .ok (.iconst (-1), 1) := by decide +kernel
theorem dX3_findTarget_58 : decode cX3_findTarget 58 = .ok (.ireturn, 1) := by decide +kernel
theorem dX3_findTarget_59 : decode cX3_findTarget 59 = .ok (.iload_n 3, 1) := by decide +kernel
theorem dX3_findTarget_60 : decode cX3_findTarget 60 = .ok (.iconst (-1), 1) := by decide +kernel
theorem dX3_findTarget_61 : decode cX3_findTarget 61 = .ok (.if_icmp .ne 13, 3) := by decide +kernel
theorem dX3_findTarget_64 : decode cX3_findTarget 64 = .ok (.aload_n 0, 1) := by decide +kernel
theorem dX3_findTarget_65 : decode cX3_findTarget 65 = .ok (.getfield 9, 3) := by decide +kernel
theorem dX3_findTarget_68 : decode cX3_findTarget 68 = .ok (.iload 4, 2) := by decide +kernel
theorem dX3_findTarget_70 : decode cX3_findTarget 70 = .ok (.iaload, 1) := by decide +kernel
theorem dX3_findTarget_71 : decode cX3_findTarget 71 = .ok (.goto 10, 3) := by decide +kernel
theorem dX3_findTarget_74 : decode cX3_findTarget 74 = .ok (.aload_n 0, 1) := by decide +kernel
theorem dX3_findTarget_75 : decode cX3_findTarget 75 = .ok (.getfield 15, 3) := by decide +kernel
theorem dX3_findTarget_78 : decode cX3_findTarget 78 = .ok (.iload 4, 2) := by decide +kernel
theorem dX3_findTarget_80 : decode cX3_findTarget 80 = .ok (.iaload, 1) := by decide +kernel
theorem dX3_findTarget_81 : decode cX3_findTarget 81 = .ok (.ireturn, 1) := by decide +kernel
theorem dX3_findTarget_82 : decode cX3_findTarget 82 = .ok (.aload_n 0, 1) := by decide +kernel
theorem dX3_findTarget_83 : decode cX3_findTarget 83 = .ok (.iload_n 2, 1) := by decide +kernel
theorem dX3_findTarget_84 : decode cX3_findTarget 84 = .ok (.invokevirtual 104, 3) := by decide +kernel
theorem dX3_findTarget_87 : decode cX3_findTarget 87 = .ok (.istore_n 3, 1) := by decide +kernel
theorem dX3_findTarget_88 : decode cX3_findTarget 88 = .ok (.aload_n 0, 1) := by decide +kernel
theorem dX3_findTarget_89 : decode cX3_findTarget 89 = .ok (.iload_n 2, 1) := by decide +kernel
theorem dX3_findTarget_90 : decode cX3_findTarget 90 = .ok (.invokevirtual 107, 3) := by decide +kernel
theorem dX3_findTarget_93 : decode cX3_findTarget 93 = .ok (.istore 4, 2) := by decide +kernel
theorem dX3_findTarget_95 : decode cX3_findTarget 95 = .ok (.iload_n 3, 1) := by decide +kernel
theorem dX3_findTarget_96 : decode cX3_findTarget 96 = .ok (.iconst (-1), 1) := by decide +kernel
theorem dX3_findTarget_97 : decode cX3_findTarget 97 = .ok (.if_icmp .ne 6, 3) := by decide +kernel
theorem dX3_findTarget_100 : decode cX3_findTarget 100 = .ok (.iload 4, 2) := by decide +kernel
theorem dX3_findTarget_102 : decode cX3_findTarget 102 = .ok (.ireturn, 1) := by decide +kernel
theorem dX3_findTarget_103 : decode cX3_findTarget 103 = .ok (.iload 4, 2) := by decide +kernel
theorem dX3_findTarget_105 : decode cX3_findTarget 105 = .ok (.iconst (-1), 1) := by decide +kernel
theorem dX3_findTarget_106 : decode cX3_findTarget 106 = .ok (.if_icmp .ne 5, 3) := by decide +kernel
theorem dX3_findTarget_109 : decode cX3_findTarget 109 = .ok (.iload_n 3, 1) := by decide +kernel
theorem dX3_findTarget_110 : decode cX3_findTarget 110 = .ok (.ireturn, 1) := by decide +kernel
theorem dX3_findTarget_111 : decode cX3_findTarget 111 = .ok (.iload_n 1, 1) := by decide +kernel
theorem dX3_findTarget_112 : decode cX3_findTarget 112 = .ok (.iconst 2, 1) := by decide +kernel
theorem dX3_findTarget_113 : decode cX3_findTarget 113 = .ok (.if_icmp .ne 17, 3) := by decide +kernel
theorem dX3_findTarget_116 : decode cX3_findTarget 116 = .ok (.aload_n 0, 1) := by decide +kernel
theorem dX3_findTarget_117 : decode cX3_findTarget 117 = .ok (.getfield 50, 3) := by decide +kernel
theorem dX3_findTarget_120 : decode cX3_findTarget 120 = .ok (.ifCond .eq 8, 3) := by decide +kernel
theorem dX3_findTarget_123 : decode cX3_findTarget 123 = .ok (.iload 4, 2) := by decide +kernel
theorem dX3_findTarget_125 : decode cX3_findTarget 125 = .ok (.goto 4, 3) := by decide +kernel
theorem dX3_findTarget_128 : decode cX3_findTarget 128 = .ok (.iload_n 3, 1) := by decide +kernel
theorem dX3_findTarget_129 : decode cX3_findTarget 129 = .ok (.ireturn, 1) := by decide +kernel
theorem dX3_findTarget_130 : decode cX3_findTarget 130 = .ok (.aload_n 0, 1) := by decide +kernel
theorem dX3_findTarget_131 : decode cX3_findTarget 131 = .ok (.getfield 47, 3) := by decide +kernel
theorem dX3_findTarget_134 : decode cX3_findTarget 134 = .ok (.iload_n 3, 1) := by decide +kernel
theorem dX3_findTarget_135 : decode cX3_findTarget 135 = .ok (.isub, 1) := by decide +kernel
theorem dX3_findTarget_136 : decode cX3_findTarget 136 = .ok (.iload 4, 2) := by decide +kernel
theorem dX3_findTarget_138 : decode cX3_findTarget 138 = .ok (.aload_n 0, 1) := by decide +kernel
theorem dX3_findTarget_139 : decode cX3_findTarget 139 = .ok (.getfield 47, 3) := by decide +kernel
theorem dX3_findTarget_142 : decode cX3_findTarget 142 = .ok (.isub, 1) := by decide +kernel
theorem dX3_findTarget_143 : decode cX3_findTarget 143 = .ok (.if_icmp .gt 7, 3) := by decide +kernel
theorem dX3_findTarget_146 : decode cX3_findTarget 146 = .ok (.iload_n 3, 1) := by decide +kernel
theorem dX3_findTarget_147 : decode cX3_findTarget 147 = .ok (.goto 5, 3) := by decide +kernel
theorem dX3_findTarget_150 : decode cX3_findTarget 150 = .ok (.iload 4, 2) := by decide +kernel
theorem dX3_findTarget_152 : decode cX3_findTarget 152 = .ok (.ireturn, 1) := by decide +kernel
theorem dX3_findFirstRiding_0 : decode cX3_findFirstRiding 0 = .ok (.iconst 0, 1) := by decide +kernel
theorem dX3_findFirstRiding_1 : decode cX3_findFirstRiding 1 = .ok (.istore_n 1, 1) := by decide +kernel
theorem dX3_findFirstRiding_2 : decode cX3_findFirstRiding 2 = .ok (.iload_n 1, 1) := by decide +kernel
theorem dX3_findFirstRiding_3 : decode cX3_findFirstRiding 3 = .ok (.aload_n 0, 1) := by decide +kernel
theorem dX3_findFirstRiding_4 : decode cX3_findFirstRiding 4 = .ok (.getfield 66, 3) := by decide +kernel
theorem dX3_findFirstRiding_7 : decode cX3_findFirstRiding 7 = .ok (.if_icmp .ge 31, 3) := by decide +kernel
theorem dX3_findFirstRiding_10 : decode cX3_findFirstRiding 10 = .ok (.aload_n 0, 1) := by decide +kernel
theorem dX3_findFirstRiding_11 : decode cX3_findFirstRiding 11 = .ok (.getfield 21, 3) := by decide +kernel
theorem dX3_findFirstRiding_14 : decode cX3_findFirstRiding 14 = .ok (.iload_n 1, 1) := by decide +kernel
theorem dX3_findFirstRiding_15 : decode cX3_findFirstRiding 15 = .ok (.iaload, 1) := by decide +kernel
theorem dX3_findFirstRiding_16 : decode cX3_findFirstRiding 16 = .ok (.iconst (-1), 1) := by decide +kernel
theorem dX3_findFirstRiding_17 : decode cX3_findFirstRiding 17 = .ok (.if_icmp .eq 15, 3) := by decide +kernel
theorem dX3_findFirstRiding_20 : decode cX3_findFirstRiding 20 = .ok (.aload_n 0, 1) := by decide +kernel
theorem dX3_findFirstRiding_21 : decode cX3_findFirstRiding 21 = .ok (.getfield 24, 3) := by decide +kernel
theorem dX3_findFirstRiding_24 : decode cX3_findFirstRiding 24 = .ok (.iload_n 1, 1) := by decide +kernel
theorem dX3_findFirstRiding_25 : decode cX3_findFirstRiding 25 = .ok (.iaload, 1) := by decide +kernel
theorem dX3_findFirstRiding_26 : decode cX3_findFirstRiding 26 = .ok (.iconst (-1), 1) := by decide +kernel
theorem dX3_findFirstRiding_27 : decode cX3_findFirstRiding 27 = .ok (.if_icmp .ne 5, 3) := by decide +kernel
theorem dX3_findFirstRiding_30 : decode cX3_findFirstRiding 30 = .ok (.iload_n 1, 1) := by decide +kernel
theorem dX3_findFirstRiding_31 : decode cX3_findFirstRiding 31 = .ok (.ireturn, 1) := by decide +kernel
theorem dX3_findFirstRiding_32 : decode cX3_findFirstRiding 32 = .ok (.iinc 1 1, 3) := by decide +kernel
theorem dX3_findFirstRiding_35 : decode cX3_findFirstRiding 35 = .ok (.goto (-33), 3) := by decide +kernel
theorem dX3_findFirstRiding_38 : decode cX3_findFirstRiding 38 = .ok (.iconst (-1), 1) := by decide +kernel
theorem dX3_findFirstRiding_39 : decode cX3_findFirstRiding 39 = .ok (.ireturn, 1) := by decide +kernel
theorem dX3_findStopBelow_0 : decode cX3_findStopBelow 0 = .ok (.aload_n 0, 1) := by decide +kernel
theorem dX3_findStopBelow_1 : decode cX3_findStopBelow 1 = .ok (.getfield 47, 3) := by decide +kernel
theorem dX3_findStopBelow_4 : decode cX3_findStopBelow 4 = .ok (.iconst 1, 1) := by decide +kernel
theorem dX3_findStopBelow_5 : decode cX3_findStopBelow 5 = .ok (.isub, 1) := by decide +kernel
theorem dX3_findStopBelow_6 : decode cX3_findStopBelow 6 = .ok (.istore_n 2, 1) := by decide +kernel
theorem dX3_findStopBelow_7 : decode cX3_findStopBelow 7 = .ok (.iload_n 2, 1) := by decide +kernel
theorem dX3_findStopBelow_8 : decode cX3_findStopBelow 8 = .ok (.ifCond .lt 19, 3) := by decide +kernel
theorem dX3_findStopBelow_11 : decode cX3_findStopBelow 11 = .ok (.iload_n 1, 1) := by decide +kernel
theorem dX3_findStopBelow_12 : decode cX3_findStopBelow 12 = .ok (.iload_n 2, 1) := by decide +kernel
theorem dX3_findStopBelow_13 : decode cX3_findStopBelow 13 = .ok (.ishr, 1) := by decide +kernel
theorem dX3_findStopBelow_14 : decode cX3_findStopBelow 14 = .ok (.iconst 1, 1) := by decide +kernel
theorem dX3_findStopBelow_15 : decode cX3_findStopBelow 15 = .ok (.iand, 1) := by decide +kernel
theorem dX3_findStopBelow_16 : decode cX3_findStopBelow 16 = .ok (.ifCond .eq 5, 3) := by decide +kernel
theorem dX3_findStopBelow_19 : decode cX3_findStopBelow 19 = .ok (.iload_n 2, 1) := by decide +kernel
theorem dX3_findStopBelow_20 : decode cX3_findStopBelow 20 = .ok (.ireturn, 1) := by decide +kernel
theorem dX3_findStopBelow_21 : decode cX3_findStopBelow 21 = .ok (.iinc 2 (-1), 3) := by decide +kernel
theorem dX3_findStopBelow_24 : decode cX3_findStopBelow 24 = .ok (.goto (-17), 3) := by decide +kernel
theorem dX3_findStopBelow_27 : decode cX3_findStopBelow 27 = .ok (.iconst (-1), 1) := by decide +kernel
theorem dX3_findStopBelow_28 : decode cX3_findStopBelow 28 = .ok (.ireturn, 1) := by decide +kernel
theorem dX3_findStopAbove_0 : decode cX3_findStopAbove 0 = .ok (.aload_n 0, 1) := by decide +kernel
theorem dX3_findStopAbove_1 : decode cX3_findStopAbove 1 = .ok (.getfield 47, 3) := by decide +kernel
theorem dX3_findStopAbove_4 : decode cX3_findStopAbove 4 = .ok (.iconst 1, 1) := by decide +kernel
theorem dX3_findStopAbove_5 : decode cX3_findStopAbove 5 = .ok (.iadd, 1) := by decide +kernel
theorem dX3_findStopAbove_6 : decode cX3_findStopAbove 6 = .ok (.istore_n 2, 1) := by decide +kernel
theorem dX3_findStopAbove_7 : decode cX3_findStopAbove 7 = .ok (.iload_n 2, 1) := by decide +kernel
theorem dX3_findStopAbove_8 : decode cX3_findStopAbove 8 = .ok (.aload_n 0, 1) := by decide +kernel
theorem dX3_findStopAbove_9 : decode cX3_findStopAbove 9 = .ok (.getfield 34, 3) := by decide +kernel
theorem dX3_findStopAbove_12 : decode cX3_findStopAbove 12 = .ok (.if_icmp .ge 19, 3) := by decide +kernel
theorem dX3_findStopAbove_15 : decode cX3_findStopAbove 15 = .ok (.iload_n 1, 1) := by decide +kernel
theorem dX3_findStopAbove_16 : decode cX3_findStopAbove 16 = .ok (.iload_n 2, 1) := by decide +kernel
theorem dX3_findStopAbove_17 : decode cX3_findStopAbove 17 = .ok (.ishr, 1) := by decide +kernel
theorem dX3_findStopAbove_18 : decode cX3_findStopAbove 18 = .ok (.iconst 1, 1) := by decide +kernel
theorem dX3_findStopAbove_19 : decode cX3_findStopAbove 19 = .ok (.iand, 1) := by decide +kernel
theorem dX3_findStopAbove_20 : decode cX3_findStopAbove 20 = .ok (.ifCond .eq 5, 3) := by decide +kernel
theorem dX3_findStopAbove_23 : decode cX3_findStopAbove 23 = .ok (.iload_n 2, 1) := by decide +kernel
theorem dX3_findStopAbove_24 : decode cX3_findStopAbove 24 = .ok (.ireturn, 1) := by decide +kernel
theorem dX3_findStopAbove_25 : decode cX3_findStopAbove 25 = .ok (.iinc 2 1, 3) := by decide +kernel
theorem dX3_findStopAbove_28 : decode cX3_findStopAbove 28 = .ok (.goto (-21), 3) := by decide +kernel
theorem dX3_findStopAbove_31 : decode cX3_findStopAbove 31 = .ok (.iconst (-1), 1) := by decide +kernel
theorem dX3_findStopAbove_32 : decode cX3_findStopAbove 32 = .ok (.ireturn, 1) := by decide +kernel
theorem dX3_tick_0 : decode cX3_tick 0 = .ok (.aload_n 0, 1) := by decide +kernel
theorem dX3_tick_1 : decode cX3_tick 1 = .ok (.aload_n 0, 1) := by decide +kernel
theorem dX3_tick_2 : decode cX3_tick 2 = .ok (.getfield 41, 3) := by decide +kernel
theorem dX3_tick_5 : decode cX3_tick 5 = .ok (.invokevirtual 110, 3) := by decide +kernel
theorem dX3_tick_8 : decode cX3_tick 8 = .ok (.istore_n 1, 1) := by decide +kernel
theorem dX3_tick_9 : decode cX3_tick 9 = .ok (.iload_n 1, 1) := by decide +kernel
theorem dX3_tick_10 : decode cX3_tick 10 = .ok (.iconst (-1), 1) := by decide +kernel
theorem dX3_tick_11 : decode cX3_tick 11 = .ok (.if_icmp .ne 16, 3) := by decide +kernel
theorem dX3_tick_14 : decode cX3_tick 14 = .ok (.aload_n 0, 1) := by decide +kernel
theorem dX3_tick_15 : decode cX3_tick 15 = .ok (.dup, 1) := by decide +kernel
theorem dX3_tick_16 : decode cX3_tick 16 = .ok (.getfield 60, 3) := by decide +kernel
theorem dX3_tick_19 : decode cX3_tick 19 = .ok (.iconst 1, 1) := by decide +kernel
theorem dX3_tick_20 : decode cX3_tick 20 = .ok (.iadd, 1) := by decide +kernel
theorem dX3_tick_21 : decode cX3_tick 21 = .ok (.putfield 60, 3) := by decide +kernel
theorem dX3_tick_24 : decode cX3_tick 24 = .ok (.goto 23, 3) := by decide +kernel
theorem dX3_tick_27 : decode cX3_tick 27 = .ok (.iload_n 1, 1) := by decide +kernel
theorem dX3_tick_28 : decode cX3_tick 28 = .ok (.aload_n 0, 1) := by decide +kernel
theorem dX3_tick_29 : decode cX3_tick 29 = .ok (.getfield 47, 3) := by decide +kernel
theorem dX3_tick_32 : decode cX3_tick 32 = .ok (.if_icmp .ne 10, 3) := by decide +kernel
theorem dX3_tick_35 : decode cX3_tick 35 = .ok (.aload_n 0, 1) := by decide +kernel
theorem dX3_tick_36 : decode cX3_tick 36 = .ok (.invokevirtual 113, 3) := by decide +kernel
theorem dX3_tick_39 : decode cX3_tick 39 = .ok (.goto 8, 3) := by decide +kernel
theorem dX3_tick_42 : decode cX3_tick 42 = .ok (.aload_n 0, 1) := by decide +kernel
theorem dX3_tick_43 : decode cX3_tick 43 = .ok (.iload_n 1, 1) := by decide +kernel
theorem dX3_tick_44 : decode cX3_tick 44 = .ok (.invokevirtual 116, 3) := by decide +kernel
theorem dX3_tick_47 : decode cX3_tick 47 = .ok (.aload_n 0, 1) := by decide +kernel
theorem dX3_tick_48 : decode cX3_tick 48 = .ok (.dup, 1) := by decide +kernel
theorem dX3_tick_49 : decode cX3_tick 49 = .ok (.getfield 44, 3) := by decide +kernel
theorem dX3_tick_52 : decode cX3_tick 52 = .ok (.iconst 1, 1) := by decide +kernel
theorem dX3_tick_53 : decode cX3_tick 53 = .ok (.iadd, 1) := by decide +kernel
theorem dX3_tick_54 : decode cX3_tick 54 = .ok (.putfield 44, 3) := by decide +kernel
theorem dX3_tick_57 : decode cX3_tick 57 = .ok (.return_, 1) := by decide +kernel
theorem dX3_tickToEnd_0 : decode cX3_tickToEnd 0 = .ok (.iconst 0, 1) := by decide +kernel
theorem dX3_tickToEnd_1 : decode cX3_tickToEnd 1 = .ok (.istore_n 2, 1) := by decide +kernel
theorem dX3_tickToEnd_2 : decode cX3_tickToEnd 2 = .ok (.iload_n 2, 1) := by decide +kernel
theorem dX3_tickToEnd_3 : decode cX3_tickToEnd 3 = .ok (.iload_n 1, 1) := by decide +kernel
theorem dX3_tickToEnd_4 : decode cX3_tickToEnd 4 = .ok (.if_icmp .ge 20, 3) := by decide +kernel
theorem dX3_tickToEnd_7 : decode cX3_tickToEnd 7 = .ok (.aload_n 0, 1) := by decide +kernel
theorem dX3_tickToEnd_8 : decode cX3_tickToEnd 8 = .ok (.invokevirtual 120, 3) := by decide +kernel
theorem dX3_tickToEnd_11 : decode cX3_tickToEnd 11 = .ok (.ifCond .ne 13, 3) := by decide +kernel
theorem dX3_tickToEnd_14 : decode cX3_tickToEnd 14 = .ok (.aload_n 0, 1) := by decide +kernel
theorem dX3_tickToEnd_15 : decode cX3_tickToEnd 15 = .ok (.invokevirtual 124, 3) := by decide +kernel
theorem dX3_tickToEnd_18 : decode cX3_tickToEnd 18 = .ok (.iinc 2 1, 3) := by decide +kernel
theorem dX3_tickToEnd_21 : decode cX3_tickToEnd 21 = .ok (.goto (-19), 3) := by decide +kernel
theorem dX3_tickToEnd_24 : decode cX3_tickToEnd 24 = .ok (.iload_n 2, 1) := by decide +kernel
theorem dX3_tickToEnd_25 : decode cX3_tickToEnd 25 = .ok (.ireturn, 1) := by decide +kernel
theorem dX3_openDoors_0 : decode cX3_openDoors 0 = .ok (.iconst 0, 1) := by decide +kernel
theorem dX3_openDoors_1 : decode cX3_openDoors 1 = .ok (.istore_n 1, 1) := by decide +kernel
theorem dX3_openDoors_2 : decode cX3_openDoors 2 = .ok (.iload_n 1, 1) := by decide +kernel
theorem dX3_openDoors_3 : decode cX3_openDoors 3 = .ok (.aload_n 0, 1) := by decide +kernel
theorem dX3_openDoors_4 : decode cX3_openDoors 4 = .ok (.getfield 66, 3) := by decide +kernel
theorem dX3_openDoors_7 : decode cX3_openDoors 7 = .ok (.if_icmp .ge 72, 3) := by decide +kernel
theorem dX3_openDoors_10 : decode cX3_openDoors 10 = .ok (.aload_n 0, 1) := by decide +kernel
theorem dX3_openDoors_11 : decode cX3_openDoors 11 = .ok (.getfield 15, 3) := by decide +kernel
theorem dX3_openDoors_14 : decode cX3_openDoors 14 = .ok (.iload_n 1, 1) := by decide +kernel
theorem dX3_openDoors_15 : decode cX3_openDoors 15 = .ok (.iaload, 1) := by decide +kernel
theorem dX3_openDoors_16 : decode cX3_openDoors 16 = .ok (.aload_n 0, 1) := by decide +kernel
theorem dX3_openDoors_17 : decode cX3_openDoors 17 = .ok (.getfield 47, 3) := by decide +kernel
theorem dX3_openDoors_20 : decode cX3_openDoors 20 = .ok (.if_icmp .ne 53, 3) := by decide +kernel
theorem dX3_openDoors_23 : decode cX3_openDoors 23 = .ok (.aload_n 0, 1) := by decide +kernel
theorem dX3_openDoors_24 : decode cX3_openDoors 24 = .ok (.getfield 21, 3) := by decide +kernel
theorem dX3_openDoors_27 : decode cX3_openDoors 27 = .ok (.iload_n 1, 1) := by decide +kernel
theorem dX3_openDoors_28 : decode cX3_openDoors 28 = .ok (.iaload, 1) := by decide +kernel
theorem dX3_openDoors_29 : decode cX3_openDoors 29 = .ok (.iconst (-1), 1) := by decide +kernel
theorem dX3_openDoors_30 : decode cX3_openDoors 30 = .ok (.if_icmp .eq 43, 3) := by decide +kernel
theorem dX3_openDoors_33 : decode cX3_openDoors 33 = .ok (.aload_n 0, 1) := by decide +kernel
theorem dX3_openDoors_34 : decode cX3_openDoors 34 = .ok (.getfield 24, 3) := by decide +kernel
theorem dX3_openDoors_37 : decode cX3_openDoors 37 = .ok (.iload_n 1, 1) := by decide +kernel
theorem dX3_openDoors_38 : decode cX3_openDoors 38 = .ok (.iaload, 1) := by decide +kernel
theorem dX3_openDoors_39 : decode cX3_openDoors 39 = .ok (.iconst (-1), 1) := by decide +kernel
theorem dX3_openDoors_40 : decode cX3_openDoors 40 = .ok (.if_icmp .ne 33, 3) := by decide +kernel
theorem dX3_openDoors_43 : decode cX3_openDoors 43 = .ok (.aload_n 0, 1) := by decide +kernel
theorem dX3_openDoors_44 : decode cX3_openDoors 44 = .ok (.getfield 24, 3) := by decide +kernel
theorem dX3_openDoors_47 : decode cX3_openDoors 47 = .ok (.iload_n 1, 1) := by decide +kernel
theorem dX3_openDoors_48 : decode cX3_openDoors 48 = .ok (.aload_n 0, 1) := by decide +kernel
theorem dX3_openDoors_49 : decode cX3_openDoors 49 = .ok (.getfield 44, 3) := by decide +kernel
theorem dX3_openDoors_52 : decode cX3_openDoors 52 = .ok (.iastore, 1) := by decide +kernel
theorem dX3_openDoors_53 : decode cX3_openDoors 53 = .ok (.aload_n 0, 1) := by decide +kernel
theorem dX3_openDoors_54 : decode cX3_openDoors 54 = .ok (.dup, 1) := by decide +kernel
theorem dX3_openDoors_55 : decode cX3_openDoors 55 = .ok (.getfield 69, 3) := by decide +kernel
theorem dX3_openDoors_58 : decode cX3_openDoors 58 = .ok (.iconst 1, 1) := by decide +kernel
theorem dX3_openDoors_59 : decode cX3_openDoors 59 = .ok (.isub, 1) := by decide +kernel
theorem dX3_openDoors_60 : decode cX3_openDoors 60 = .ok (.putfield 69, 3) := by decide +kernel
theorem dX3_openDoors_63 : decode cX3_openDoors 63 = .ok (.aload_n 0, 1) := by decide +kernel
theorem dX3_openDoors_64 : decode cX3_openDoors 64 = .ok (.dup, 1) := by decide +kernel
theorem dX3_openDoors_65 : decode cX3_openDoors 65 = .ok (.getfield 72, 3) := by decide +kernel
theorem dX3_openDoors_68 : decode cX3_openDoors 68 = .ok (.iconst 1, 1) := by decide +kernel
theorem dX3_openDoors_69 : decode cX3_openDoors 69 = .ok (.iadd, 1) := by decide +kernel
theorem dX3_openDoors_70 : decode cX3_openDoors 70 = .ok (.putfield 72, 3) := by decide +kernel
theorem dX3_openDoors_73 : decode cX3_openDoors 73 = .ok (.iinc 1 1, 3) := by decide +kernel
theorem dX3_openDoors_76 : decode cX3_openDoors 76 = .ok (.goto (-74), 3) := by decide +kernel
theorem dX3_openDoors_79 : decode cX3_openDoors 79 = .ok (.iconst 0, 1) := by decide +kernel
theorem dX3_openDoors_80 : decode cX3_openDoors 80 = .ok (.istore_n 1, 1) := by decide +kernel
theorem dX3_openDoors_81 : decode cX3_openDoors 81 = .ok (.iload_n 1, 1) := by decide +kernel
theorem dX3_openDoors_82 : decode cX3_openDoors 82 = .ok (.aload_n 0, 1) := by decide +kernel
theorem dX3_openDoors_83 : decode cX3_openDoors 83 = .ok (.getfield 66, 3) := by decide +kernel
theorem dX3_openDoors_86 : decode cX3_openDoors 86 = .ok (.if_icmp .ge 83, 3) := by decide +kernel
theorem dX3_openDoors_89 : decode cX3_openDoors 89 = .ok (.aload_n 0, 1) := by decide +kernel
theorem dX3_openDoors_90 : decode cX3_openDoors 90 = .ok (.getfield 69, 3) := by decide +kernel
theorem dX3_openDoors_93 : decode cX3_openDoors 93 = .ok (.aload_n 0, 1) := by decide +kernel
theorem dX3_openDoors_94 : decode cX3_openDoors 94 = .ok (.getfield 38, 3) := by decide +kernel
theorem dX3_openDoors_97 : decode cX3_openDoors 97 = .ok (.if_icmp .ge 72, 3) := by decide +kernel
theorem dX3_openDoors_100 : decode cX3_openDoors 100 = .ok (.aload_n 0, 1) := by decide +kernel
theorem dX3_openDoors_101 : decode cX3_openDoors 101 = .ok (.getfield 27, 3) := by decide +kernel
theorem dX3_openDoors_104 : decode cX3_openDoors 104 = .ok (.iload_n 1, 1) := by decide +kernel
theorem dX3_openDoors_105 : decode cX3_openDoors 105 = .ok (.iaload, 1) := by decide +kernel
theorem dX3_openDoors_106 : decode cX3_openDoors 106 = .ok (.istore_n 2, 1) := by decide +kernel
theorem dX3_openDoors_107 : decode cX3_openDoors 107 = .ok (.aload_n 0, 1) := by decide +kernel
theorem dX3_openDoors_108 : decode cX3_openDoors 108 = .ok (.getfield 9, 3) := by decide +kernel
theorem dX3_openDoors_111 : decode cX3_openDoors 111 = .ok (.iload_n 2, 1) := by decide +kernel
theorem dX3_openDoors_112 : decode cX3_openDoors 112 = .ok (.iaload, 1) := by decide +kernel
theorem dX3_openDoors_113 : decode cX3_openDoors 113 = .ok (.aload_n 0, 1) := by decide +kernel
theorem dX3_openDoors_114 : decode cX3_openDoors 114 = .ok (.getfield 47, 3) := by decide +kernel
theorem dX3_openDoors_117 : decode cX3_openDoors 117 = .ok (.if_icmp .ne 46, 3) := by decide +kernel
theorem dX3_openDoors_120 : decode cX3_openDoors 120 = .ok (.aload_n 0, 1) := by decide +kernel
theorem dX3_openDoors_121 : decode cX3_openDoors 121 = .ok (.getfield 21, 3) := by decide +kernel
theorem dX3_openDoors_124 : decode cX3_openDoors 124 = .ok (.iload_n 2, 1) := by decide +kernel
theorem dX3_openDoors_125 : decode cX3_openDoors 125 = .ok (.iaload, 1) := by decide +kernel
theorem dX3_openDoors_126 : decode cX3_openDoors 126 = .ok (.iconst (-1), 1) := by decide +kernel
theorem dX3_openDoors_127 : decode cX3_openDoors 127 = .ok (.if_icmp .ne 36, 3) := by decide +kernel
theorem dX3_openDoors_130 : decode cX3_openDoors 130 = .ok (.aload_n 0, 1) := by decide +kernel
theorem dX3_openDoors_131 : decode cX3_openDoors 131 = .ok (.getfield 18, 3) := by decide +kernel
theorem dX3_openDoors_134 : decode cX3_openDoors 134 = .ok (.iload_n 2, 1) := by decide +kernel
theorem dX3_openDoors_135 : decode cX3_openDoors 135 = .ok (.iaload, 1) := by decide +kernel
theorem dX3_openDoors_136 : decode cX3_openDoors 136 = .ok (.aload_n 0, 1) := by decide +kernel
theorem dX3_openDoors_137 : decode cX3_openDoors 137 = .ok (.getfield 44, 3) := by decide +kernel
theorem dX3_openDoors_140 : decode cX3_openDoors 140 = .ok (.if_icmp .gt 23, 3) := by decide +kernel
theorem dX3_openDoors_143 : decode cX3_openDoors 143 = .ok (.aload_n 0, 1) := by decide +kernel
theorem dX3_openDoors_144 : decode cX3_openDoors 144 = .ok (.getfield 21, 3) := by decide +kernel
theorem dX3_openDoors_147 : decode cX3_openDoors 147 = .ok (.iload_n 2, 1) := by decide +kernel
theorem dX3_openDoors_148 : decode cX3_openDoors 148 = .ok (.aload_n 0, 1) := by decide +kernel
theorem dX3_openDoors_149 : decode cX3_openDoors 149 = .ok (.getfield 44, 3) := by decide +kernel
theorem dX3_openDoors_152 : decode cX3_openDoors 152 = .ok (.iastore, 1) := by decide +kernel
theorem dX3_openDoors_153 : decode cX3_openDoors 153 = .ok (.aload_n 0, 1) := by decide +kernel
theorem dX3_openDoors_154 : decode cX3_openDoors 154 = .ok (.dup, 1) := by decide +kernel
theorem dX3_openDoors_155 : decode cX3_openDoors 155 = .ok (.getfield 69, 3) := by decide +kernel
theorem dX3_openDoors_158 : decode cX3_openDoors 158 = .ok (.iconst 1, 1) := by decide +kernel
theorem dX3_openDoors_159 : decode cX3_openDoors 159 = .ok (.iadd, 1) := by decide +kernel
theorem dX3_openDoors_160 : decode cX3_openDoors 160 = .ok (.putfield 69, 3) := by decide +kernel
theorem dX3_openDoors_163 : decode cX3_openDoors 163 = .ok (.iinc 1 1, 3) := by decide +kernel
theorem dX3_openDoors_166 : decode cX3_openDoors 166 = .ok (.goto (-85), 3) := by decide +kernel
theorem dX3_openDoors_169 : decode cX3_openDoors 169 = .ok (.aload_n 0, 1) := by decide +kernel
theorem dX3_openDoors_170 : decode cX3_openDoors 170 = .ok (.dup, 1) := by decide +kernel
theorem dX3_openDoors_171 : decode cX3_openDoors 171 = .ok (.getfield 57, 3) := by decide +kernel
theorem dX3_openDoors_174 : decode cX3_openDoors 174 = .ok (.iconst 1, 1) := by decide +kernel
theorem dX3_openDoors_175 : decode cX3_openDoors 175 = .ok (.iadd, 1) := by decide +kernel
theorem dX3_openDoors_176 : decode cX3_openDoors 176 = .ok (.putfield 57, 3) := by decide +kernel
theorem dX3_openDoors_179 : decode cX3_openDoors 179 = .ok (.return_, 1) := by decide +kernel
theorem dX3_moveTowards_0 : decode cX3_moveTowards 0 = .ok (.iload_n 1, 1) := by decide +kernel
theorem dX3_moveTowards_1 : decode cX3_moveTowards 1 = .ok (.aload_n 0, 1) := by decide +kernel
theorem dX3_moveTowards_2 : decode cX3_moveTowards 2 = .ok (.getfield 47, 3) := by decide +kernel
theorem dX3_moveTowards_5 : decode cX3_moveTowards 5 = .ok (.if_icmp .le 7, 3) := by decide +kernel
theorem dX3_moveTowards_8 : decode cX3_moveTowards 8 = .ok (.iconst 1, 1) := by decide +kernel
theorem dX3_moveTowards_9 : decode cX3_moveTowards 9 = .ok (.goto 4, 3) := by decide +kernel
theorem dX3_moveTowards_12 : decode cX3_moveTowards 12 = .ok (.iconst 0, 1) := by decide +kernel
theorem dX3_moveTowards_13 : decode cX3_moveTowards 13 = .ok (.istore_n 2, 1) := by decide +kernel
theorem dX3_moveTowards_14 : decode cX3_moveTowards 14 = .ok (.aload_n 0, 1) := by decide +kernel
theorem dX3_moveTowards_15 : decode cX3_moveTowards 15 = .ok (.getfield 41, 3) := by decide +kernel
theorem dX3_moveTowards_18 : decode cX3_moveTowards 18 = .ok (.iconst 2, 1) := by decide +kernel
theorem dX3_moveTowards_19 : decode cX3_moveTowards 19 = .ok (.if_icmp .ne 26, 3) := by decide +kernel
theorem dX3_moveTowards_22 : decode cX3_moveTowards 22 = .ok (.iload_n 2, 1) := by decide +kernel
theorem dX3_moveTowards_23 : decode cX3_moveTowards 23 = .ok (.aload_n 0, 1) := by decide +kernel
theorem dX3_moveTowards_24 : decode cX3_moveTowards 24 = .ok (.getfield 50, 3) := by decide +kernel
theorem dX3_moveTowards_27 : decode cX3_moveTowards 27 = .ok (.if_icmp .eq 18, 3) := by decide +kernel
theorem dX3_moveTowards_30 : decode cX3_moveTowards 30 = .ok (.aload_n 0, 1) := by decide +kernel
theorem dX3_moveTowards_31 : decode cX3_moveTowards 31 = .ok (.iload_n 2, 1) := by decide +kernel
theorem dX3_moveTowards_32 : decode cX3_moveTowards 32 = .ok (.putfield 50, 3) := by decide +kernel
theorem dX3_moveTowards_35 : decode cX3_moveTowards 35 = .ok (.aload_n 0, 1) := by decide +kernel
theorem dX3_moveTowards_36 : decode cX3_moveTowards 36 = .ok (.dup, 1) := by decide +kernel
theorem dX3_moveTowards_37 : decode cX3_moveTowards 37 = .ok (.getfield 63, 3) := by decide +kernel
theorem dX3_moveTowards_40 : decode cX3_moveTowards 40 = .ok (.iconst 1, 1) := by decide +kernel
theorem dX3_moveTowards_41 : decode cX3_moveTowards 41 = .ok (.iadd, 1) := by decide +kernel
theorem dX3_moveTowards_42 : decode cX3_moveTowards 42 = .ok (.putfield 63, 3) := by decide +kernel
theorem dX3_moveTowards_45 : decode cX3_moveTowards 45 = .ok (.aload_n 0, 1) := by decide +kernel
theorem dX3_moveTowards_46 : decode cX3_moveTowards 46 = .ok (.dup, 1) := by decide +kernel
theorem dX3_moveTowards_47 : decode cX3_moveTowards 47 = .ok (.getfield 47, 3) := by decide +kernel
theorem dX3_moveTowards_50 : decode cX3_moveTowards 50 = .ok (.iload_n 2, 1) := by decide +kernel
theorem dX3_moveTowards_51 : decode cX3_moveTowards 51 = .ok (.ifCond .eq 7, 3) := by decide +kernel
theorem dX3_moveTowards_54 : decode cX3_moveTowards 54 = .ok (.iconst 1, 1) := by decide +kernel
theorem dX3_moveTowards_55 : decode cX3_moveTowards 55 = .ok (.goto 4, 3) := by decide +kernel
theorem dX3_moveTowards_58 : decode cX3_moveTowards 58 = .ok (.iconst (-1), 1) := by decide +kernel
theorem dX3_moveTowards_59 : decode cX3_moveTowards 59 = .ok (.iadd, 1) := by decide +kernel
theorem dX3_moveTowards_60 : decode cX3_moveTowards 60 = .ok (.putfield 47, 3) := by decide +kernel
theorem dX3_moveTowards_63 : decode cX3_moveTowards 63 = .ok (.aload_n 0, 1) := by decide +kernel
theorem dX3_moveTowards_64 : decode cX3_moveTowards 64 = .ok (.dup, 1) := by decide +kernel
theorem dX3_moveTowards_65 : decode cX3_moveTowards 65 = .ok (.getfield 54, 3) := by decide +kernel
theorem dX3_moveTowards_68 : decode cX3_moveTowards 68 = .ok (.iconst 1, 1) := by decide +kernel
theorem dX3_moveTowards_69 : decode cX3_moveTowards 69 = .ok (.iadd, 1) := by decide +kernel
theorem dX3_moveTowards_70 : decode cX3_moveTowards 70 = .ok (.putfield 54, 3) := by decide +kernel
theorem dX3_moveTowards_73 : decode cX3_moveTowards 73 = .ok (.return_, 1) := by decide +kernel
theorem dX4_init_0 : decode cX4_init 0 = .ok (.aload_n 0, 1) := by decide +kernel
theorem dX4_init_1 : decode cX4_init 1 = .ok (.invokespecial 1, 3) := by decide +kernel
theorem dX4_init_4 : decode cX4_init 4 = .ok (.aload_n 0, 1) := by decide +kernel
theorem dX4_init_5 : decode cX4_init 5 = .ok (.new 7, 3) := by decide +kernel
theorem dX4_init_8 : decode cX4_init 8 = .ok (.dup, 1) := by decide +kernel
theorem dX4_init_9 : decode cX4_init 9 = .ok (.invokespecial 9, 3) := by decide +kernel
theorem dX4_init_12 : decode cX4_init 12 = .ok (.putfield 10, 3) := by decide +kernel
theorem dX4_init_15 : decode cX4_init 15 = .ok (.aload_n 0, 1) := by decide +kernel
theorem dX4_init_16 : decode cX4_init 16 = .ok (.new 7, 3) := by decide +kernel
theorem dX4_init_19 : decode cX4_init 19 = .ok (.dup, 1) := by decide +kernel
theorem dX4_init_20 : decode cX4_init 20 = .ok (.invokespecial 9, 3) := by decide +kernel
theorem dX4_init_23 : decode cX4_init 23 = .ok (.putfield 16, 3) := by decide +kernel
theorem dX4_init_26 : decode cX4_init 26 = .ok (.aload_n 0, 1) := by decide +kernel
theorem dX4_init_27 : decode cX4_init 27 = .ok (.bipush 8, 2) := by decide +kernel
theorem dX4_init_29 : decode cX4_init 29 = .ok (.anewarray 7, 3) := by decide +kernel
theorem dX4_init_32 : decode cX4_init 32 = .ok (.putfield 19, 3) := by decide +kernel
theorem dX4_init_35 : decode cX4_init 35 = .ok (.aload_n 0, 1) := by decide +kernel
theorem dX4_init_36 : decode cX4_init 36 = .ok (.iconst 0, 1) := by decide +kernel
theorem dX4_init_37 : decode cX4_init 37 = .ok (.putfield 23, 3) := by decide +kernel
theorem dX4_init_40 : decode cX4_init 40 = .ok (.aload_n 0, 1) := by decide +kernel
theorem dX4_init_41 : decode cX4_init 41 = .ok (.iconst 0, 1) := by decide +kernel
theorem dX4_init_42 : decode cX4_init 42 = .ok (.putfield 27, 3) := by decide +kernel
theorem dX4_init_45 : decode cX4_init 45 = .ok (.aload_n 0, 1) := by decide +kernel
theorem dX4_init_46 : decode cX4_init 46 = .ok (.iconst 2, 1) := by decide +kernel
theorem dX4_init_47 : decode cX4_init 47 = .ok (.anewarray 7, 3) := by decide +kernel
theorem dX4_init_50 : decode cX4_init 50 = .ok (.putfield 30, 3) := by decide +kernel
theorem dX4_init_53 : decode cX4_init 53 = .ok (.aload_n 0, 1) := by decide +kernel
theorem dX4_init_54 : decode cX4_init 54 = .ok (.iconst 2, 1) := by decide +kernel
theorem dX4_init_55 : decode cX4_init 55 = .ok (.newarray .boolean, 2) := by decide +kernel
theorem dX4_init_57 : decode cX4_init 57 = .ok (.putfield 33, 3) := by decide +kernel
theorem dX4_init_60 : decode cX4_init 60 = .ok (.aload_n 0, 1) := by decide +kernel
theorem dX4_init_61 : decode cX4_init 61 = .ok (.sipush 500, 3) := by decide +kernel
theorem dX4_init_64 : decode cX4_init 64 = .ok (.newarray .byte, 2) := by decide +kernel
theorem dX4_init_66 : decode cX4_init 66 = .ok (.putfield 37, 3) := by decide +kernel
theorem dX4_init_69 : decode cX4_init 69 = .ok (.aload_n 0, 1) := by decide +kernel
theorem dX4_init_70 : decode cX4_init 70 = .ok (.iconst 0, 1) := by decide +kernel
theorem dX4_init_71 : decode cX4_init 71 = .ok (.putfield 41, 3) := by decide +kernel
theorem dX4_init_74 : decode cX4_init 74 = .ok (.aload_n 0, 1) := by decide +kernel
theorem dX4_init_75 : decode cX4_init 75 = .ok (.new 44, 3) := by decide +kernel
theorem dX4_init_78 : decode cX4_init 78 = .ok (.dup, 1) := by decide +kernel
theorem dX4_init_79 : decode cX4_init 79 = .ok (.invokespecial 46, 3) := by decide +kernel
theorem dX4_init_82 : decode cX4_init 82 = .ok (.putfield 47, 3) := by decide +kernel
theorem dX4_init_85 : decode cX4_init 85 = .ok (.aload_n 0, 1) := by decide +kernel
theorem dX4_init_86 : decode cX4_init 86 = .ok (.bipush 64, 2) := by decide +kernel
theorem dX4_init_88 : decode cX4_init 88 = .ok (.newarray .byte, 2) := by decide +kernel
theorem dX4_init_90 : decode cX4_init 90 = .ok (.putfield 51, 3) := by decide +kernel
theorem dX4_init_93 : decode cX4_init 93 = .ok (.aload_n 0, 1) := by decide +kernel
theorem dX4_init_94 : decode cX4_init 94 = .ok (.iconst 0, 1) := by decide +kernel
theorem dX4_init_95 : decode cX4_init 95 = .ok (.putfield 54, 3) := by decide +kernel
theorem dX4_init_98 : decode cX4_init 98 = .ok (.iconst 0, 1) := by decide +kernel
theorem dX4_init_99 : decode cX4_init 99 = .ok (.istore_n 1, 1) := by decide +kernel
theorem dX4_init_100 : decode cX4_init 100 = .ok (.iload_n 1, 1) := by decide +kernel
theorem dX4_init_101 : decode cX4_init 101 = .ok (.bipush 8, 2) := by decide +kernel
theorem dX4_init_103 : decode cX4_init 103 = .ok (.if_icmp .ge 22, 3) := by decide +kernel
theorem dX4_init_106 : decode cX4_init 106 = .ok (.aload_n 0, 1) := by decide +kernel
theorem dX4_init_107 : decode cX4_init 107 = .ok (.getfield 19, 3) := by decide +kernel
theorem dX4_init_110 : decode cX4_init 110 = .ok (.iload_n 1, 1) := by decide +kernel
theorem dX4_init_111 : decode cX4_init 111 = .ok (.new 7, 3) := by decide +kernel
theorem dX4_init_114 : decode cX4_init 114 = .ok (.dup, 1) := by decide +kernel
theorem dX4_init_115 : decode cX4_init 115 = .ok (.invokespecial 9, 3) := by decide +kernel
theorem dX4_init_118 : decode cX4_init 118 = .ok (.aastore, 1) := by decide +kernel
theorem dX4_init_119 : decode cX4_init 119 = .ok (.iinc 1 1, 3) := by decide +kernel
theorem dX4_init_122 : decode cX4_init 122 = .ok (.goto (-22), 3) := by decide +kernel
theorem dX4_init_125 : decode cX4_init 125 = .ok (.iconst 0, 1) := by decide +kernel
theorem dX4_init_126 : decode cX4_init 126 = .ok (.istore_n 1, 1) := by decide +kernel
theorem dX4_init_127 : decode cX4_init 127 = .ok (.iload_n 1, 1) := by decide +kernel
theorem dX4_init_128 : decode cX4_init 128 = .ok (.iconst 2, 1) := by decide +kernel
theorem dX4_init_129 : decode cX4_init 129 = .ok (.if_icmp .ge 22, 3) := by decide +kernel
theorem dX4_init_132 : decode cX4_init 132 = .ok (.aload_n 0, 1) := by decide +kernel
theorem dX4_init_133 : decode cX4_init 133 = .ok (.getfield 30, 3) := by decide +kernel
theorem dX4_init_136 : decode cX4_init 136 = .ok (.iload_n 1, 1) := by decide +kernel
theorem dX4_init_137 : decode cX4_init 137 = .ok (.new 7, 3) := by decide +kernel
theorem dX4_init_140 : decode cX4_init 140 = .ok (.dup, 1) := by decide +kernel
theorem dX4_init_141 : decode cX4_init 141 = .ok (.invokespecial 9, 3) := by decide +kernel
theorem dX4_init_144 : decode cX4_init 144 = .ok (.aastore, 1) := by decide +kernel
theorem dX4_init_145 : decode cX4_init 145 = .ok (.iinc 1 1, 3) := by decide +kernel
theorem dX4_init_148 : decode cX4_init 148 = .ok (.goto (-21), 3) := by decide +kernel
theorem dX4_init_151 : decode cX4_init 151 = .ok (.return_, 1) := by decide +kernel
theorem dX4_append_0 : decode cX4_append 0 = .ok (.aload_n 0, 1) := by decide +kernel
theorem dX4_append_1 : decode cX4_append 1 = .ok (.getfield 41, 3) := by decide +kernel
theorem dX4_append_4 : decode cX4_append 4 = .ok (.bipush 20, 2) := by decide +kernel
theorem dX4_append_6 : decode cX4_append 6 = .ok (.iadd, 1) := by decide +kernel
theorem dX4_append_7 : decode cX4_append 7 = .ok (.sipush 500, 3) := by decide +kernel
theorem dX4_append_10 : decode cX4_append 10 = .ok (.if_icmp .le 5, 3) := by decide +kernel
theorem dX4_append_13 : decode cX4_append 13 = .ok (.iconst (-1), 1) := by decide +kernel
theorem dX4_append_14 : decode cX4_append 14 = .ok (.ireturn, 1) := by decide +kernel
theorem dX4_append_15 : decode cX4_append 15 = .ok (.aload_n 0, 1) := by decide +kernel
theorem dX4_append_16 : decode cX4_append 16 = .ok (.iload_n 1, 1) := by decide +kernel
theorem dX4_append_17 : decode cX4_append 17 = .ok (.invokevirtual 57, 3) := by decide +kernel
theorem dX4_append_20 : decode cX4_append 20 = .ok (.aload_n 0, 1) := by decide +kernel
theorem dX4_append_21 : decode cX4_append 21 = .ok (.iload_n 2, 1) := by decide +kernel
theorem dX4_append_22 : decode cX4_append 22 = .ok (.invokevirtual 57, 3) := by decide +kernel
theorem dX4_append_25 : decode cX4_append 25 = .ok (.aload_n 0, 1) := by decide +kernel
theorem dX4_append_26 : decode cX4_append 26 = .ok (.iload_n 3, 1) := by decide +kernel
theorem dX4_append_27 : decode cX4_append 27 = .ok (.invokevirtual 57, 3) := by decide +kernel
theorem dX4_append_30 : decode cX4_append 30 = .ok (.aload_n 0, 1) := by decide +kernel
theorem dX4_append_31 : decode cX4_append 31 = .ok (.iload 4, 2) := by decide +kernel
theorem dX4_append_33 : decode cX4_append 33 = .ok (.invokevirtual 57, 3) := by decide +kernel
theorem dX4_append_36 : decode cX4_append 36 = .ok (.aload_n 0, 1) := by decide +kernel
theorem dX4_append_37 : decode cX4_append 37 = .ok (.iload 5, 2) := by decide +kernel
theorem dX4_append_39 : decode cX4_append 39 = .ok (.invokevirtual 57, 3) := by decide +kernel
theorem dX4_append_42 : decode cX4_append 42 = .ok (.aload_n 0, 1) := by decide +kernel
theorem dX4_append_43 : decode cX4_append 43 = .ok (.getfield 41, 3) := by decide +kernel
theorem dX4_append_46 : decode cX4_append 46 = .ok (.ireturn, 1) := by decide +kernel
theorem dX4_appendFour_0 : decode cX4_appendFour 0 = .ok (.bipush 24, 2) := by decide +kernel
theorem dX4_appendFour_2 : decode cX4_appendFour 2 = .ok (.istore_n 2, 1) := by decide +kernel
theorem dX4_appendFour_3 : decode cX4_appendFour 3 = .ok (.iload_n 2, 1) := by decide +kernel
theorem dX4_appendFour_4 : decode cX4_appendFour 4 = .ok (.ifCond .lt 42, 3) := by decide +kernel
theorem dX4_appendFour_7 : decode cX4_appendFour 7 = .ok (.aload_n 0, 1) := by decide +kernel
theorem dX4_appendFour_8 : decode cX4_appendFour 8 = .ok (.getfield 41, 3) := by decide +kernel
theorem dX4_appendFour_11 : decode cX4_appendFour 11 = .ok (.sipush 500, 3) := by decide +kernel
theorem dX4_appendFour_14 : decode cX4_appendFour 14 = .ok (.if_icmp .ge 26, 3) := by decide +kernel
theorem dX4_appendFour_17 : decode cX4_appendFour 17 = .ok (.aload_n 0, 1) := by decide +kernel
theorem dX4_appendFour_18 : decode cX4_appendFour 18 = .ok (.getfield 37, 3) := by decide +kernel
theorem dX4_appendFour_21 : decode cX4_appendFour 21 = .ok (.aload_n 0, 1) := by decide +kernel
theorem dX4_appendFour_22 : decode cX4_appendFour 22 = .ok (.getfield 41, 3) := by decide +kernel
theorem dX4_appendFour_25 : decode cX4_appendFour 25 = .ok (.iload_n 1, 1) := by decide +kernel
theorem dX4_appendFour_26 : decode cX4_appendFour 26 = .ok (.iload_n 2, 1) := by decide +kernel
theorem dX4_appendFour_27 : decode cX4_appendFour 27 = .ok (.iushr, 1) := by decide +kernel
theorem dX4_appendFour_28 : decode cX4_appendFour 28 = .ok (.i2b, 1) := by decide +kernel
theorem dX4_appendFour_29 : decode cX4_appendFour 29 = .ok (.bastore, 1) := by decide +kernel
theorem dX4_appendFour_30 : decode cX4_appendFour 30 = .ok (.aload_n 0, 1) := by decide +kernel
theorem dX4_appendFour_31 : decode cX4_appendFour 31 = .ok (.dup, 1) := by decide +kernel
theorem dX4_appendFour_32 : decode cX4_appendFour 32 = .ok (.getfield 41, 3) := by decide +kernel
theorem dX4_appendFour_35 : decode cX4_appendFour 35 = .ok (.iconst 1, 1) := by decide +kernel
theorem dX4_appendFour_36 : decode cX4_appendFour 36 = .ok (.iadd, 1) := by decide +kernel
theorem dX4_appendFour_37 : decode cX4_appendFour 37 = .ok (.putfield 41, 3) := by decide +kernel
theorem dX4_appendFour_40 : decode cX4_appendFour 40 = .ok (.iinc 2 (-8), 3) := by decide +kernel
theorem dX4_appendFour_43 : decode cX4_appendFour 43 = .ok (.goto (-40), 3) := by decide +kernel
theorem dX4_appendFour_46 : decode cX4_appendFour 46 = .ok (.return_, 1) := by decide +kernel
theorem dX4_truncate_0 : decode cX4_truncate 0 = .ok (.iload_n 1, 1) := by decide +kernel
theorem dX4_truncate_1 : decode cX4_truncate 1 = .ok (.ifCond .lt 11, 3) := by decide +kernel
theorem dX4_truncate_4 : decode cX4_truncate 4 = .ok (.iload_n 1, 1) := by decide +kernel
theorem dX4_truncate_5 : decode cX4_truncate 5 = .ok (.aload_n 0, 1) := by decide +kernel
theorem dX4_truncate_6 : decode cX4_truncate 6 = .ok (.getfield 41, 3) := by decide +kernel
theorem dX4_truncate_9 : decode cX4_truncate 9 = .ok (.if_icmp .le 5, 3) := by decide +kernel
theorem dX4_truncate_12 : decode cX4_truncate 12 = .ok (.iconst 0, 1) := by decide +kernel
theorem dX4_truncate_13 : decode cX4_truncate 13 = .ok (.ireturn, 1) := by decide +kernel
theorem dX4_truncate_14 : decode cX4_truncate 14 = .ok (.aload_n 0, 1) := by decide +kernel
theorem dX4_truncate_15 : decode cX4_truncate 15 = .ok (.iload_n 1, 1) := by decide +kernel
theorem dX4_truncate_16 : decode cX4_truncate 16 = .ok (.putfield 41, 3) := by decide +kernel
theorem dX4_truncate_19 : decode cX4_truncate 19 = .ok (.iconst 1, 1) := by decide +kernel
theorem dX4_truncate_20 : decode cX4_truncate 20 = .ok (.ireturn, 1) := by decide +kernel
theorem dX4_load_0 : decode cX4_load 0 = .ok (.aload_n 0, 1) := by decide +kernel
theorem dX4_load_1 : decode cX4_load 1 = .ok (.getfield 47, 3) := by decide +kernel
theorem dX4_load_4 : decode cX4_load 4 = .ok (.aload_n 0, 1) := by decide +kernel
theorem dX4_load_5 : decode cX4_load 5 = .ok (.getfield 37, 3) := by decide +kernel
theorem dX4_load_8 : decode cX4_load 8 = .ok (.aload_n 0, 1) := by decide +kernel
theorem dX4_load_9 : decode cX4_load 9 = .ok (.getfield 41, 3) := by decide +kernel
theorem dX4_load_12 : decode cX4_load 12 = .ok (.invokevirtual 61, 3) := by decide +kernel
theorem dX4_load_15 : decode cX4_load 15 = .ok (.aload_n 0, 1) := by decide +kernel
theorem dX4_load_16 : decode cX4_load 16 = .ok (.iconst 0, 1) := by decide +kernel
theorem dX4_load_17 : decode cX4_load 17 = .ok (.putfield 41, 3) := by decide +kernel
theorem dX4_load_20 : decode cX4_load 20 = .ok (.aload_n 0, 1) := by decide +kernel
theorem dX4_load_21 : decode cX4_load 21 = .ok (.getfield 47, 3) := by decide +kernel
theorem dX4_load_24 : decode cX4_load 24 = .ok (.aload_n 0, 1) := by decide +kernel
theorem dX4_load_25 : decode cX4_load 25 = .ok (.getfield 16, 3) := by decide +kernel
theorem dX4_load_28 : decode cX4_load 28 = .ok (.invokevirtual 65, 3) := by decide +kernel
theorem dX4_load_31 : decode cX4_load 31 = .ok (.ifCond .eq 17, 3) := by decide +kernel
theorem dX4_load_34 : decode cX4_load 34 = .ok (.aload_n 0, 1) := by decide +kernel
theorem dX4_load_35 : decode cX4_load 35 = .ok (.getfield 47, 3) := by decide +kernel
theorem dX4_load_38 : decode cX4_load 38 = .ok (.aload_n 0, 1) := by decide +kernel
theorem dX4_load_39 : decode cX4_load 39 = .ok (.getfield 16, 3) := by decide +kernel
theorem dX4_load_42 : decode cX4_load 42 = .ok (.invokevirtual 69, 3) := by decide +kernel
theorem dX4_load_45 : decode cX4_load 45 = .ok (.ifCond .ne 13, 3) := by decide +kernel
theorem dX4_load_48 : decode cX4_load 48 = .ok (.new 72, 3) := by decide +kernel
theorem dX4_load_51 : decode cX4_load 51 = .ok (.dup, 1) := by decide +kernel
theorem dX4_load_52 : decode cX4_load 52 = .ok (.ldc 74, 2) := by decide +kernel
theorem dX4_load_54 : decode cX4_load 54 = .ok (.invokespecial 76, 3) := by decide +kernel
theorem dX4_load_57 : decode cX4_load 57 = .ok (.athrow, 1) := by decide +kernel
theorem dX4_load_58 : decode cX4_load 58 = .ok (.aload_n 0, 1) := by decide +kernel
theorem dX4_load_59 : decode cX4_load 59 = .ok (.getfield 10, 3) := by decide +kernel
theorem dX4_load_62 : decode cX4_load 62 = .ok (.aload_n 0, 1) := by decide +kernel
theorem dX4_load_63 : decode cX4_load 63 = .ok (.getfield 16, 3) := by decide +kernel
theorem dX4_load_66 : decode cX4_load 66 = .ok (.invokevirtual 79, 3) := by decide +kernel
theorem dX4_load_69 : decode cX4_load 69 = .ok (.aload_n 0, 1) := by decide +kernel
theorem dX4_load_70 : decode cX4_load 70 = .ok (.iconst 0, 1) := by decide +kernel
theorem dX4_load_71 : decode cX4_load 71 = .ok (.putfield 27, 3) := by decide +kernel
theorem dX4_load_74 : decode cX4_load 74 = .ok (.iconst 0, 1) := by decide +kernel
theorem dX4_load_75 : decode cX4_load 75 = .ok (.istore_n 1, 1) := by decide +kernel
theorem dX4_load_76 : decode cX4_load 76 = .ok (.iload_n 1, 1) := by decide +kernel
theorem dX4_load_77 : decode cX4_load 77 = .ok (.iconst 2, 1) := by decide +kernel
theorem dX4_load_78 : decode cX4_load 78 = .ok (.if_icmp .ge 16, 3) := by decide +kernel
theorem dX4_load_81 : decode cX4_load 81 = .ok (.aload_n 0, 1) := by decide +kernel
theorem dX4_load_82 : decode cX4_load 82 = .ok (.getfield 33, 3) := by decide +kernel
theorem dX4_load_85 : decode cX4_load 85 = .ok (.iload_n 1, 1) := by decide +kernel
theorem dX4_load_86 : decode cX4_load 86 = .ok (.iconst 0, 1) := by decide +kernel
theorem dX4_load_87 : decode cX4_load 87 = .ok (.bastore, 1) := by decide +kernel
theorem dX4_load_88 : decode cX4_load 88 = .ok (.iinc 1 1, 3) := by decide +kernel
theorem dX4_load_91 : decode cX4_load 91 = .ok (.goto (-15), 3) := by decide +kernel
theorem dX4_load_94 : decode cX4_load 94 = .ok (.aload_n 0, 1) := by decide +kernel
theorem dX4_load_95 : decode cX4_load 95 = .ok (.getfield 10, 3) := by decide +kernel
theorem dX4_load_98 : decode cX4_load 98 = .ok (.getfield 83, 3) := by decide +kernel
theorem dX4_load_101 : decode cX4_load 101 = .ok (.ireturn, 1) := by decide +kernel
theorem dX4_play_0 : decode cX4_play 0 = .ok (.aload_n 0, 1) := by decide +kernel
theorem dX4_play_1 : decode cX4_play 1 = .ok (.getfield 47, 3) := by decide +kernel
theorem dX4_play_4 : decode cX4_play 4 = .ok (.aload_n 0, 1) := by decide +kernel
theorem dX4_play_5 : decode cX4_play 5 = .ok (.getfield 37, 3) := by decide +kernel
theorem dX4_play_8 : decode cX4_play 8 = .ok (.aload_n 0, 1) := by decide +kernel
theorem dX4_play_9 : decode cX4_play 9 = .ok (.getfield 41, 3) := by decide +kernel
theorem dX4_play_12 : decode cX4_play 12 = .ok (.invokevirtual 61, 3) := by decide +kernel
theorem dX4_play_15 : decode cX4_play 15 = .ok (.aload_n 0, 1) := by decide +kernel
theorem dX4_play_16 : decode cX4_play 16 = .ok (.iconst 0, 1) := by decide +kernel
theorem dX4_play_17 : decode cX4_play 17 = .ok (.putfield 41, 3) := by decide +kernel
theorem dX4_play_20 : decode cX4_play 20 = .ok (.aload_n 0, 1) := by decide +kernel
theorem dX4_play_21 : decode cX4_play 21 = .ok (.getfield 16, 3) := by decide +kernel
theorem dX4_play_24 : decode cX4_play 24 = .ok (.aload_n 0, 1) := by decide +kernel
theorem dX4_play_25 : decode cX4_play 25 = .ok (.getfield 10, 3) := by decide +kernel
theorem dX4_play_28 : decode cX4_play 28 = .ok (.invokevirtual 79, 3) := by decide +kernel
theorem dX4_play_31 : decode cX4_play 31 = .ok (.aload_n 0, 1) := by decide +kernel
theorem dX4_play_32 : decode cX4_play 32 = .ok (.getfield 47, 3) := by decide +kernel
theorem dX4_play_35 : decode cX4_play 35 = .ok (.aload_n 0, 1) := by decide +kernel
theorem dX4_play_36 : decode cX4_play 36 = .ok (.getfield 16, 3) := by decide +kernel
theorem dX4_play_39 : decode cX4_play 39 = .ok (.invokevirtual 69, 3) := by decide +kernel
theorem dX4_play_42 : decode cX4_play 42 = .ok (.ifCond .ne 13, 3) := by decide +kernel
theorem dX4_play_45 : decode cX4_play 45 = .ok (.new 72, 3) := by decide +kernel
theorem dX4_play_48 : decode cX4_play 48 = .ok (.dup, 1) := by decide +kernel
theorem dX4_play_49 : decode cX4_play 49 = .ok (.ldc 86, 2) := by decide +kernel
theorem dX4_play_51 : decode cX4_play 51 = .ok (.invokespecial 76, 3) := by decide +kernel
theorem dX4_play_54 : decode cX4_play 54 = .ok (.athrow, 1) := by decide +kernel
theorem dX4_play_55 : decode cX4_play 55 = .ok (.aload_n 0, 1) := by decide +kernel
theorem dX4_play_56 : decode cX4_play 56 = .ok (.invokevirtual 88, 3) := by decide +kernel
theorem dX4_play_59 : decode cX4_play 59 = .ok (.aload_n 0, 1) := by decide +kernel
theorem dX4_play_60 : decode cX4_play 60 = .ok (.getfield 10, 3) := by decide +kernel
theorem dX4_play_63 : decode cX4_play 63 = .ok (.aload_n 0, 1) := by decide +kernel
theorem dX4_play_64 : decode cX4_play 64 = .ok (.getfield 16, 3) := by decide +kernel
theorem dX4_play_67 : decode cX4_play 67 = .ok (.invokevirtual 79, 3) := by decide +kernel
theorem dX4_play_70 : decode cX4_play 70 = .ok (.aload_n 0, 1) := by decide +kernel
theorem dX4_play_71 : decode cX4_play 71 = .ok (.getfield 47, 3) := by decide +kernel
theorem dX4_play_74 : decode cX4_play 74 = .ok (.getfield 91, 3) := by decide +kernel
theorem dX4_play_77 : decode cX4_play 77 = .ok (.ireturn, 1) := by decide +kernel
theorem dX4_parseError_0 : decode cX4_parseError 0 = .ok (.aload_n 0, 1) := by decide +kernel
theorem dX4_parseError_1 : decode cX4_parseError 1 = .ok (.getfield 47, 3) := by decide +kernel
theorem dX4_parseError_4 : decode cX4_parseError 4 = .ok (.getfield 94, 3) := by decide +kernel
theorem dX4_parseError_7 : decode cX4_parseError 7 = .ok (.ireturn, 1) := by decide +kernel
theorem dX4_parseErrorPosition_0 : decode cX4_parseErrorPosition 0 = .ok (.aload_n 0, 1) := by decide +kernel
theorem dX4_parseErrorPosition_1 : decode cX4_parseErrorPosition 1 = .ok (.getfield 47, 3) := by decide +kernel
theorem dX4_parseErrorPosition_4 : decode cX4_parseErrorPosition 4 = .ok (.getfield 97, 3) := by decide +kernel
theorem dX4_parseErrorPosition_7 : decode cX4_parseErrorPosition 7 = .ok (.ireturn, 1) := by decide +kernel
theorem dX4_floorCount_0 : decode cX4_floorCount 0 = .ok (.aload_n 0, 1) := by decide +kernel
theorem dX4_floorCount_1 : decode cX4_floorCount 1 = .ok (.getfield 10, 3) := by decide +kernel
theorem dX4_floorCount_4 : decode cX4_floorCount 4 = .ok (.getfield 100, 3) := by decide +kernel
theorem dX4_floorCount_7 : decode cX4_floorCount 7 = .ok (.ireturn, 1) := by decide +kernel
theorem dX4_capacity_0 : decode cX4_capacity 0 = .ok (.aload_n 0, 1) := by decide +kernel
theorem dX4_capacity_1 : decode cX4_capacity 1 = .ok (.getfield 10, 3) := by decide +kernel
theorem dX4_capacity_4 : decode cX4_capacity 4 = .ok (.getfield 103, 3) := by decide +kernel
theorem dX4_capacity_7 : decode cX4_capacity 7 = .ok (.ireturn, 1) := by decide +kernel
theorem dX4_policy_0 : decode cX4_policy 0 = .ok (.aload_n 0, 1) := by decide +kernel
theorem dX4_policy_1 : decode cX4_policy 1 = .ok (.getfield 10, 3) := by decide +kernel
theorem dX4_policy_4 : decode cX4_policy 4 = .ok (.getfield 106, 3) := by decide +kernel
theorem dX4_policy_7 : decode cX4_policy 7 = .ok (.ireturn, 1) := by decide +kernel
theorem dX4_time_0 : decode cX4_time 0 = .ok (.aload_n 0, 1) := by decide +kernel
theorem dX4_time_1 : decode cX4_time 1 = .ok (.getfield 10, 3) := by decide +kernel
theorem dX4_time_4 : decode cX4_time 4 = .ok (.getfield 109, 3) := by decide +kernel
theorem dX4_time_7 : decode cX4_time 7 = .ok (.ireturn, 1) := by decide +kernel
theorem dX4_floor_0 : decode cX4_floor 0 = .ok (.aload_n 0, 1) := by decide +kernel
theorem dX4_floor_1 : decode cX4_floor 1 = .ok (.getfield 10, 3) := by decide +kernel
theorem dX4_floor_4 : decode cX4_floor 4 = .ok (.getfield 112, 3) := by decide +kernel
theorem dX4_floor_7 : decode cX4_floor 7 = .ok (.ireturn, 1) := by decide +kernel
theorem dX4_isUpward_0 : decode cX4_isUpward 0 = .ok (.aload_n 0, 1) := by decide +kernel
theorem dX4_isUpward_1 : decode cX4_isUpward 1 = .ok (.getfield 10, 3) := by decide +kernel
theorem dX4_isUpward_4 : decode cX4_isUpward 4 = .ok (.getfield 115, 3) := by decide +kernel
theorem dX4_isUpward_7 : decode cX4_isUpward 7 = .ok (.ireturn, 1) := by decide +kernel
theorem dX4_isFull_0 : decode cX4_isFull 0 = .ok (.aload_n 0, 1) := by decide +kernel
theorem dX4_isFull_1 : decode cX4_isFull 1 = .ok (.getfield 10, 3) := by decide +kernel
theorem dX4_isFull_4 : decode cX4_isFull 4 = .ok (.getfield 119, 3) := by decide +kernel
theorem dX4_isFull_7 : decode cX4_isFull 7 = .ok (.aload_n 0, 1) := by decide +kernel
theorem dX4_isFull_8 : decode cX4_isFull 8 = .ok (.getfield 10, 3) := by decide +kernel
theorem dX4_isFull_11 : decode cX4_isFull 11 = .ok (.getfield 103, 3) := by decide +kernel
theorem dX4_isFull_14 : decode cX4_isFull 14 = .ok (.if_icmp .ne 7, 3) := by decide +kernel
theorem dX4_isFull_17 : decode cX4_isFull 17 = .ok (.iconst 1, 1) := by decide +kernel
theorem dX4_isFull_18 : decode cX4_isFull 18 = .ok (.goto 4, 3) := by decide +kernel
theorem dX4_isFull_21 : decode cX4_isFull 21 = .ok (.iconst 0, 1) := by decide +kernel
theorem dX4_isFull_22 : decode cX4_isFull 22 = .ok (.ireturn, 1) := by decide +kernel
theorem dX4_stopMask_0 : decode cX4_stopMask 0 = .ok (.aload_n 0, 1) := by decide +kernel
theorem dX4_stopMask_1 : decode cX4_stopMask 1 = .ok (.getfield 10, 3) := by decide +kernel
theorem dX4_stopMask_4 : decode cX4_stopMask 4 = .ok (.invokevirtual 122, 3) := by decide +kernel
theorem dX4_stopMask_7 : decode cX4_stopMask 7 = .ok (.ireturn, 1) := by decide +kernel
theorem dX4_targetBy_0 : decode cX4_targetBy 0 = .ok (.aload_n 0, 1) := by decide +kernel
theorem dX4_targetBy_1 : decode cX4_targetBy 1 = .ok (.iload_n 1, 1) := by decide +kernel
theorem dX4_targetBy_2 : decode cX4_targetBy 2 = .ok (.invokevirtual 126, 3) := by decide +kernel
theorem dX4_targetBy_5 : decode cX4_targetBy 5 = .ok (.aload_n 0, 1) := by decide +kernel
theorem dX4_targetBy_6 : decode cX4_targetBy 6 = .ok (.getfield 10, 3) := by decide +kernel
theorem dX4_targetBy_9 : decode cX4_targetBy 9 = .ok (.iload_n 1, 1) := by decide +kernel
theorem dX4_targetBy_10 : decode cX4_targetBy 10 = .ok (.invokevirtual 129, 3) := by decide +kernel
theorem dX4_targetBy_13 : decode cX4_targetBy 13 = .ok (.ireturn, 1) := by decide +kernel
theorem dX4_distance_0 : decode cX4_distance 0 = .ok (.aload_n 0, 1) := by decide +kernel
theorem dX4_distance_1 : decode cX4_distance 1 = .ok (.getfield 10, 3) := by decide +kernel
theorem dX4_distance_4 : decode cX4_distance 4 = .ok (.getfield 133, 3) := by decide +kernel
theorem dX4_distance_7 : decode cX4_distance 7 = .ok (.ireturn, 1) := by decide +kernel
theorem dX4_doorTicks_0 : decode cX4_doorTicks 0 = .ok (.aload_n 0, 1) := by decide +kernel
theorem dX4_doorTicks_1 : decode cX4_doorTicks 1 = .ok (.getfield 10, 3) := by decide +kernel
theorem dX4_doorTicks_4 : decode cX4_doorTicks 4 = .ok (.getfield 136, 3) := by decide +kernel
theorem dX4_doorTicks_7 : decode cX4_doorTicks 7 = .ok (.ireturn, 1) := by decide +kernel
theorem dX4_idleTicks_0 : decode cX4_idleTicks 0 = .ok (.aload_n 0, 1) := by decide +kernel
theorem dX4_idleTicks_1 : decode cX4_idleTicks 1 = .ok (.getfield 10, 3) := by decide +kernel
theorem dX4_idleTicks_4 : decode cX4_idleTicks 4 = .ok (.getfield 139, 3) := by decide +kernel
theorem dX4_idleTicks_7 : decode cX4_idleTicks 7 = .ok (.ireturn, 1) := by decide +kernel
theorem dX4_reversals_0 : decode cX4_reversals 0 = .ok (.aload_n 0, 1) := by decide +kernel
theorem dX4_reversals_1 : decode cX4_reversals 1 = .ok (.getfield 10, 3) := by decide +kernel
theorem dX4_reversals_4 : decode cX4_reversals 4 = .ok (.getfield 142, 3) := by decide +kernel
theorem dX4_reversals_7 : decode cX4_reversals 7 = .ok (.ireturn, 1) := by decide +kernel
theorem dX4_passengerCount_0 : decode cX4_passengerCount 0 = .ok (.aload_n 0, 1) := by decide +kernel
theorem dX4_passengerCount_1 : decode cX4_passengerCount 1 = .ok (.getfield 10, 3) := by decide +kernel
theorem dX4_passengerCount_4 : decode cX4_passengerCount 4 = .ok (.getfield 83, 3) := by decide +kernel
theorem dX4_passengerCount_7 : decode cX4_passengerCount 7 = .ok (.ireturn, 1) := by decide +kernel
theorem dX4_statusOf_0 : decode cX4_statusOf 0 = .ok (.aload_n 0, 1) := by decide +kernel
theorem dX4_statusOf_1 : decode cX4_statusOf 1 = .ok (.iload_n 1, 1) := by decide +kernel
theorem dX4_statusOf_2 : decode cX4_statusOf 2 = .ok (.invokevirtual 145, 3) := by decide +kernel
theorem dX4_statusOf_5 : decode cX4_statusOf 5 = .ok (.aload_n 0, 1) := by decide +kernel
theorem dX4_statusOf_6 : decode cX4_statusOf 6 = .ok (.getfield 10, 3) := by decide +kernel
theorem dX4_statusOf_9 : decode cX4_statusOf 9 = .ok (.iload_n 1, 1) := by decide +kernel
theorem dX4_statusOf_10 : decode cX4_statusOf 10 = .ok (.invokevirtual 148, 3) := by decide +kernel
theorem dX4_statusOf_13 : decode cX4_statusOf 13 = .ok (.ireturn, 1) := by decide +kernel
theorem dX4_originOf_0 : decode cX4_originOf 0 = .ok (.aload_n 0, 1) := by decide +kernel
theorem dX4_originOf_1 : decode cX4_originOf 1 = .ok (.iload_n 1, 1) := by decide +kernel
theorem dX4_originOf_2 : decode cX4_originOf 2 = .ok (.invokevirtual 145, 3) := by decide +kernel
theorem dX4_originOf_5 : decode cX4_originOf 5 = .ok (.aload_n 0, 1) := by decide +kernel
theorem dX4_originOf_6 : decode cX4_originOf 6 = .ok (.getfield 10, 3) := by decide +kernel
theorem dX4_originOf_9 : decode cX4_originOf 9 = .ok (.getfield 151, 3) := by decide +kernel
theorem dX4_originOf_12 : decode cX4_originOf 12 = .ok (.iload_n 1, 1) := by decide +kernel
theorem dX4_originOf_13 : decode cX4_originOf 13 = .ok (.iaload, 1) := by decide +kernel
theorem dX4_originOf_14 : decode cX4_originOf 14 = .ok (.ireturn, 1) := by decide +kernel
theorem dX4_destinationOf_0 : decode cX4_destinationOf 0 = .ok (.aload_n 0, 1) := by decide +kernel
theorem dX4_destinationOf_1 : decode cX4_destinationOf 1 = .ok (.iload_n 1, 1) := by decide +kernel
theorem dX4_destinationOf_2 : decode cX4_destinationOf 2 = .ok (.invokevirtual 145, 3) := by decide +kernel
theorem dX4_destinationOf_5 : decode cX4_destinationOf 5 = .ok (.aload_n 0, 1) := by decide +kernel
theorem dX4_destinationOf_6 : decode cX4_destinationOf 6 = .ok (.getfield 10, 3) := by decide +kernel
theorem dX4_destinationOf_9 : decode cX4_destinationOf 9 = .ok (.getfield 155, 3) := by decide +kernel
theorem dX4_destinationOf_12 : decode cX4_destinationOf 12 = .ok (.iload_n 1, 1) := by decide +kernel
theorem dX4_destinationOf_13 : decode cX4_destinationOf 13 = .ok (.iaload, 1) := by decide +kernel
theorem dX4_destinationOf_14 : decode cX4_destinationOf 14 = .ok (.ireturn, 1) := by decide +kernel
theorem dX4_arrivalOf_0 : decode cX4_arrivalOf 0 = .ok (.aload_n 0, 1) := by decide +kernel
theorem dX4_arrivalOf_1 : decode cX4_arrivalOf 1 = .ok (.iload_n 1, 1) := by decide +kernel
theorem dX4_arrivalOf_2 : decode cX4_arrivalOf 2 = .ok (.invokevirtual 145, 3) := by decide +kernel
theorem dX4_arrivalOf_5 : decode cX4_arrivalOf 5 = .ok (.aload_n 0, 1) := by decide +kernel
theorem dX4_arrivalOf_6 : decode cX4_arrivalOf 6 = .ok (.getfield 10, 3) := by decide +kernel
theorem dX4_arrivalOf_9 : decode cX4_arrivalOf 9 = .ok (.getfield 158, 3) := by decide +kernel
theorem dX4_arrivalOf_12 : decode cX4_arrivalOf 12 = .ok (.iload_n 1, 1) := by decide +kernel
theorem dX4_arrivalOf_13 : decode cX4_arrivalOf 13 = .ok (.iaload, 1) := by decide +kernel
theorem dX4_arrivalOf_14 : decode cX4_arrivalOf 14 = .ok (.ireturn, 1) := by decide +kernel
theorem dX4_boardedAt_0 : decode cX4_boardedAt 0 = .ok (.aload_n 0, 1) := by decide +kernel
theorem dX4_boardedAt_1 : decode cX4_boardedAt 1 = .ok (.iload_n 1, 1) := by decide +kernel
theorem dX4_boardedAt_2 : decode cX4_boardedAt 2 = .ok (.invokevirtual 145, 3) := by decide +kernel
theorem dX4_boardedAt_5 : decode cX4_boardedAt 5 = .ok (.aload_n 0, 1) := by decide +kernel
theorem dX4_boardedAt_6 : decode cX4_boardedAt 6 = .ok (.getfield 10, 3) := by decide +kernel
theorem dX4_boardedAt_9 : decode cX4_boardedAt 9 = .ok (.getfield 161, 3) := by decide +kernel
theorem dX4_boardedAt_12 : decode cX4_boardedAt 12 = .ok (.iload_n 1, 1) := by decide +kernel
theorem dX4_boardedAt_13 : decode cX4_boardedAt 13 = .ok (.iaload, 1) := by decide +kernel
theorem dX4_boardedAt_14 : decode cX4_boardedAt 14 = .ok (.ireturn, 1) := by decide +kernel
theorem dX4_leftAt_0 : decode cX4_leftAt 0 = .ok (.aload_n 0, 1) := by decide +kernel
theorem dX4_leftAt_1 : decode cX4_leftAt 1 = .ok (.iload_n 1, 1) := by decide +kernel
theorem dX4_leftAt_2 : decode cX4_leftAt 2 = .ok (.invokevirtual 145, 3) := by decide +kernel
theorem dX4_leftAt_5 : decode cX4_leftAt 5 = .ok (.aload_n 0, 1) := by decide +kernel
theorem dX4_leftAt_6 : decode cX4_leftAt 6 = .ok (.getfield 10, 3) := by decide +kernel
theorem dX4_leftAt_9 : decode cX4_leftAt 9 = .ok (.getfield 164, 3) := by decide +kernel
theorem dX4_leftAt_12 : decode cX4_leftAt 12 = .ok (.iload_n 1, 1) := by decide +kernel
theorem dX4_leftAt_13 : decode cX4_leftAt 13 = .ok (.iaload, 1) := by decide +kernel
theorem dX4_leftAt_14 : decode cX4_leftAt 14 = .ok (.ireturn, 1) := by decide +kernel
theorem dX4_waitOf_0 : decode cX4_waitOf 0 = .ok (.aload_n 0, 1) := by decide +kernel
theorem dX4_waitOf_1 : decode cX4_waitOf 1 = .ok (.iload_n 1, 1) := by decide +kernel
theorem dX4_waitOf_2 : decode cX4_waitOf 2 = .ok (.invokevirtual 145, 3) := by decide +kernel
theorem dX4_waitOf_5 : decode cX4_waitOf 5 = .ok (.aload_n 0, 1) := by decide +kernel
theorem dX4_waitOf_6 : decode cX4_waitOf 6 = .ok (.getfield 10, 3) := by decide +kernel
theorem dX4_waitOf_9 : decode cX4_waitOf 9 = .ok (.iload_n 1, 1) := by decide +kernel
theorem dX4_waitOf_10 : decode cX4_waitOf 10 = .ok (.invokevirtual 167, 3) := by decide +kernel
theorem dX4_waitOf_13 : decode cX4_waitOf 13 = .ok (.ireturn, 1) := by decide +kernel
theorem dX4_rideOf_0 : decode cX4_rideOf 0 = .ok (.aload_n 0, 1) := by decide +kernel
theorem dX4_rideOf_1 : decode cX4_rideOf 1 = .ok (.iload_n 1, 1) := by decide +kernel
theorem dX4_rideOf_2 : decode cX4_rideOf 2 = .ok (.invokevirtual 145, 3) := by decide +kernel
theorem dX4_rideOf_5 : decode cX4_rideOf 5 = .ok (.aload_n 0, 1) := by decide +kernel
theorem dX4_rideOf_6 : decode cX4_rideOf 6 = .ok (.getfield 10, 3) := by decide +kernel
theorem dX4_rideOf_9 : decode cX4_rideOf 9 = .ok (.iload_n 1, 1) := by decide +kernel
theorem dX4_rideOf_10 : decode cX4_rideOf 10 = .ok (.invokevirtual 170, 3) := by decide +kernel
theorem dX4_rideOf_13 : decode cX4_rideOf 13 = .ok (.ireturn, 1) := by decide +kernel
theorem dX4_detourOf_0 : decode cX4_detourOf 0 = .ok (.aload_n 0, 1) := by decide +kernel
theorem dX4_detourOf_1 : decode cX4_detourOf 1 = .ok (.iload_n 1, 1) := by decide +kernel
theorem dX4_detourOf_2 : decode cX4_detourOf 2 = .ok (.invokevirtual 145, 3) := by decide +kernel
theorem dX4_detourOf_5 : decode cX4_detourOf 5 = .ok (.aload_n 0, 1) := by decide +kernel
theorem dX4_detourOf_6 : decode cX4_detourOf 6 = .ok (.getfield 10, 3) := by decide +kernel
theorem dX4_detourOf_9 : decode cX4_detourOf 9 = .ok (.iload_n 1, 1) := by decide +kernel
theorem dX4_detourOf_10 : decode cX4_detourOf 10 = .ok (.invokevirtual 170, 3) := by decide +kernel
theorem dX4_detourOf_13 : decode cX4_detourOf 13 = .ok (.istore_n 2, 1) := by decide +kernel
theorem dX4_detourOf_14 : decode cX4_detourOf 14 = .ok (.iload_n 2, 1) := by decide +kernel
theorem dX4_detourOf_15 : decode cX4_detourOf 15 = .ok (.iconst (-1), 1) := by decide +kernel
theorem dX4_detourOf_16 : decode cX4_detourOf 16 = .ok (.if_icmp .ne 5, 3) := by decide +kernel
theorem dX4_detourOf_19 : decode cX4_detourOf 19 = .ok (.iconst (-1), 1) := by decide +kernel
theorem dX4_detourOf_20 : decode cX4_detourOf 20 = .ok (.ireturn, 1) := by decide +kernel
theorem dX4_detourOf_21 : decode cX4_detourOf 21 = .ok (.iload_n 2, 1) := by decide +kernel
theorem dX4_detourOf_22 : decode cX4_detourOf 22 = .ok (.iconst 1, 1) := by decide +kernel
theorem dX4_detourOf_23 : decode cX4_detourOf 23 = .ok (.isub, 1) := by decide +kernel
theorem dX4_detourOf_24 : decode cX4_detourOf 24 = .ok (.aload_n 0, 1) := by decide +kernel
theorem dX4_detourOf_25 : decode cX4_detourOf 25 = .ok (.getfield 10, 3) := by decide +kernel
theorem dX4_detourOf_28 : decode cX4_detourOf 28 = .ok (.getfield 151, 3) := by decide +kernel
theorem dX4_detourOf_31 : decode cX4_detourOf 31 = .ok (.iload_n 1, 1) := by decide +kernel
theorem dX4_detourOf_32 : decode cX4_detourOf 32 = .ok (.iaload, 1) := by decide +kernel
theorem dX4_detourOf_33 : decode cX4_detourOf 33 = .ok (.aload_n 0, 1) := by decide +kernel
theorem dX4_detourOf_34 : decode cX4_detourOf 34 = .ok (.getfield 10, 3) := by decide +kernel
theorem dX4_detourOf_37 : decode cX4_detourOf 37 = .ok (.getfield 155, 3) := by decide +kernel
theorem dX4_detourOf_40 : decode cX4_detourOf 40 = .ok (.iload_n 1, 1) := by decide +kernel
theorem dX4_detourOf_41 : decode cX4_detourOf 41 = .ok (.iaload, 1) := by decide +kernel
theorem dX4_detourOf_42 : decode cX4_detourOf 42 = .ok (.isub, 1) := by decide +kernel
theorem dX4_detourOf_43 : decode cX4_detourOf 43 = .ok (.invokestatic 173, 3) := by decide +kernel
theorem dX4_detourOf_46 : decode cX4_detourOf 46 = .ok (.isub, 1) := by decide +kernel
theorem dX4_detourOf_47 : decode cX4_detourOf 47 = .ok (.ireturn, 1) := by decide +kernel
theorem dX4_countStatus_0 : decode cX4_countStatus 0 = .ok (.iload_n 1, 1) := by decide +kernel
theorem dX4_countStatus_1 : decode cX4_countStatus 1 = .ok (.ifCond .lt 8, 3) := by decide +kernel
theorem dX4_countStatus_4 : decode cX4_countStatus 4 = .ok (.iload_n 1, 1) := by decide +kernel
theorem dX4_countStatus_5 : decode cX4_countStatus 5 = .ok (.iconst 3, 1) := by decide +kernel
theorem dX4_countStatus_6 : decode cX4_countStatus 6 = .ok (.if_icmp .le 13, 3) := by decide +kernel
end
section
theorem dX4_countStatus_9 : decode cX4_countStatus 9 = .ok (.new 72, 3) := by decide +kernel
theorem dX4_countStatus_12 : decode cX4_countStatus 12 = .ok (.dup, 1) := by decide +kernel
theorem dX4_countStatus_13 : decode cX4_countStatus 13 = .ok (.ldc 178, 2) := by decide +kernel
theorem dX4_countStatus_15 : decode cX4_countStatus 15 = .ok (.invokespecial 76, 3) := by decide +kernel
theorem dX4_countStatus_18 : decode cX4_countStatus 18 = .ok (.athrow, 1) := by decide +kernel
theorem dX4_countStatus_19 : decode cX4_countStatus 19 = .ok (.aload_n 0, 1) := by decide +kernel
theorem dX4_countStatus_20 : decode cX4_countStatus 20 = .ok (.getfield 10, 3) := by decide +kernel
theorem dX4_countStatus_23 : decode cX4_countStatus 23 = .ok (.iload_n 1, 1) := by decide +kernel
theorem dX4_countStatus_24 : decode cX4_countStatus 24 = .ok (.invokevirtual 180, 3) := by decide +kernel
theorem dX4_countStatus_27 : decode cX4_countStatus 27 = .ok (.ireturn, 1) := by decide +kernel
theorem dX4_waitingAt_0 : decode cX4_waitingAt 0 = .ok (.aload_n 0, 1) := by decide +kernel
theorem dX4_waitingAt_1 : decode cX4_waitingAt 1 = .ok (.iload_n 1, 1) := by decide +kernel
theorem dX4_waitingAt_2 : decode cX4_waitingAt 2 = .ok (.invokevirtual 183, 3) := by decide +kernel
theorem dX4_waitingAt_5 : decode cX4_waitingAt 5 = .ok (.aload_n 0, 1) := by decide +kernel
theorem dX4_waitingAt_6 : decode cX4_waitingAt 6 = .ok (.getfield 10, 3) := by decide +kernel
theorem dX4_waitingAt_9 : decode cX4_waitingAt 9 = .ok (.iload_n 1, 1) := by decide +kernel
theorem dX4_waitingAt_10 : decode cX4_waitingAt 10 = .ok (.invokevirtual 186, 3) := by decide +kernel
theorem dX4_waitingAt_13 : decode cX4_waitingAt 13 = .ok (.ireturn, 1) := by decide +kernel
theorem dX4_queueAt_0 : decode cX4_queueAt 0 = .ok (.aload_n 0, 1) := by decide +kernel
theorem dX4_queueAt_1 : decode cX4_queueAt 1 = .ok (.iload_n 1, 1) := by decide +kernel
theorem dX4_queueAt_2 : decode cX4_queueAt 2 = .ok (.invokevirtual 183, 3) := by decide +kernel
theorem dX4_queueAt_5 : decode cX4_queueAt 5 = .ok (.iconst 0, 1) := by decide +kernel
theorem dX4_queueAt_6 : decode cX4_queueAt 6 = .ok (.istore_n 3, 1) := by decide +kernel
theorem dX4_queueAt_7 : decode cX4_queueAt 7 = .ok (.iconst 0, 1) := by decide +kernel
theorem dX4_queueAt_8 : decode cX4_queueAt 8 = .ok (.istore 4, 2) := by decide +kernel
theorem dX4_queueAt_10 : decode cX4_queueAt 10 = .ok (.iload 4, 2) := by decide +kernel
theorem dX4_queueAt_12 : decode cX4_queueAt 12 = .ok (.aload_n 0, 1) := by decide +kernel
theorem dX4_queueAt_13 : decode cX4_queueAt 13 = .ok (.getfield 10, 3) := by decide +kernel
theorem dX4_queueAt_16 : decode cX4_queueAt 16 = .ok (.getfield 83, 3) := by decide +kernel
theorem dX4_queueAt_19 : decode cX4_queueAt 19 = .ok (.if_icmp .ge 59, 3) := by decide +kernel
theorem dX4_queueAt_22 : decode cX4_queueAt 22 = .ok (.aload_n 0, 1) := by decide +kernel
theorem dX4_queueAt_23 : decode cX4_queueAt 23 = .ok (.getfield 10, 3) := by decide +kernel
theorem dX4_queueAt_26 : decode cX4_queueAt 26 = .ok (.getfield 189, 3) := by decide +kernel
theorem dX4_queueAt_29 : decode cX4_queueAt 29 = .ok (.iload 4, 2) := by decide +kernel
theorem dX4_queueAt_31 : decode cX4_queueAt 31 = .ok (.iaload, 1) := by decide +kernel
theorem dX4_queueAt_32 : decode cX4_queueAt 32 = .ok (.istore 5, 2) := by decide +kernel
theorem dX4_queueAt_34 : decode cX4_queueAt 34 = .ok (.aload_n 0, 1) := by decide +kernel
theorem dX4_queueAt_35 : decode cX4_queueAt 35 = .ok (.getfield 10, 3) := by decide +kernel
theorem dX4_queueAt_38 : decode cX4_queueAt 38 = .ok (.getfield 151, 3) := by decide +kernel
theorem dX4_queueAt_41 : decode cX4_queueAt 41 = .ok (.iload 5, 2) := by decide +kernel
theorem dX4_queueAt_43 : decode cX4_queueAt 43 = .ok (.iaload, 1) := by decide +kernel
theorem dX4_queueAt_44 : decode cX4_queueAt 44 = .ok (.iload_n 1, 1) := by decide +kernel
theorem dX4_queueAt_45 : decode cX4_queueAt 45 = .ok (.if_icmp .ne 27, 3) := by decide +kernel
theorem dX4_queueAt_48 : decode cX4_queueAt 48 = .ok (.aload_n 0, 1) := by decide +kernel
theorem dX4_queueAt_49 : decode cX4_queueAt 49 = .ok (.getfield 10, 3) := by decide +kernel
theorem dX4_queueAt_52 : decode cX4_queueAt 52 = .ok (.iload 5, 2) := by decide +kernel
theorem dX4_queueAt_54 : decode cX4_queueAt 54 = .ok (.invokevirtual 148, 3) := by decide +kernel
theorem dX4_queueAt_57 : decode cX4_queueAt 57 = .ok (.iconst 1, 1) := by decide +kernel
theorem dX4_queueAt_58 : decode cX4_queueAt 58 = .ok (.if_icmp .ne 14, 3) := by decide +kernel
theorem dX4_queueAt_61 : decode cX4_queueAt 61 = .ok (.iload_n 3, 1) := by decide +kernel
theorem dX4_queueAt_62 : decode cX4_queueAt 62 = .ok (.iload_n 2, 1) := by decide +kernel
theorem dX4_queueAt_63 : decode cX4_queueAt 63 = .ok (.if_icmp .ne 6, 3) := by decide +kernel
theorem dX4_queueAt_66 : decode cX4_queueAt 66 = .ok (.iload 5, 2) := by decide +kernel
theorem dX4_queueAt_68 : decode cX4_queueAt 68 = .ok (.ireturn, 1) := by decide +kernel
theorem dX4_queueAt_69 : decode cX4_queueAt 69 = .ok (.iinc 3 1, 3) := by decide +kernel
theorem dX4_queueAt_72 : decode cX4_queueAt 72 = .ok (.iinc 4 1, 3) := by decide +kernel
theorem dX4_queueAt_75 : decode cX4_queueAt 75 = .ok (.goto (-65), 3) := by decide +kernel
theorem dX4_queueAt_78 : decode cX4_queueAt 78 = .ok (.iconst (-1), 1) := by decide +kernel
theorem dX4_queueAt_79 : decode cX4_queueAt 79 = .ok (.ireturn, 1) := by decide +kernel
theorem dX4_firstWaiting_0 : decode cX4_firstWaiting 0 = .ok (.aload_n 0, 1) := by decide +kernel
theorem dX4_firstWaiting_1 : decode cX4_firstWaiting 1 = .ok (.getfield 10, 3) := by decide +kernel
theorem dX4_firstWaiting_4 : decode cX4_firstWaiting 4 = .ok (.invokevirtual 192, 3) := by decide +kernel
theorem dX4_firstWaiting_7 : decode cX4_firstWaiting 7 = .ok (.ireturn, 1) := by decide +kernel
theorem dX4_ridingTo_0 : decode cX4_ridingTo 0 = .ok (.aload_n 0, 1) := by decide +kernel
theorem dX4_ridingTo_1 : decode cX4_ridingTo 1 = .ok (.iload_n 1, 1) := by decide +kernel
theorem dX4_ridingTo_2 : decode cX4_ridingTo 2 = .ok (.invokevirtual 183, 3) := by decide +kernel
theorem dX4_ridingTo_5 : decode cX4_ridingTo 5 = .ok (.iconst 0, 1) := by decide +kernel
theorem dX4_ridingTo_6 : decode cX4_ridingTo 6 = .ok (.istore_n 2, 1) := by decide +kernel
theorem dX4_ridingTo_7 : decode cX4_ridingTo 7 = .ok (.iconst 0, 1) := by decide +kernel
theorem dX4_ridingTo_8 : decode cX4_ridingTo 8 = .ok (.istore_n 3, 1) := by decide +kernel
theorem dX4_ridingTo_9 : decode cX4_ridingTo 9 = .ok (.iload_n 3, 1) := by decide +kernel
theorem dX4_ridingTo_10 : decode cX4_ridingTo 10 = .ok (.aload_n 0, 1) := by decide +kernel
theorem dX4_ridingTo_11 : decode cX4_ridingTo 11 = .ok (.getfield 10, 3) := by decide +kernel
theorem dX4_ridingTo_14 : decode cX4_ridingTo 14 = .ok (.getfield 83, 3) := by decide +kernel
theorem dX4_ridingTo_17 : decode cX4_ridingTo 17 = .ok (.if_icmp .ge 37, 3) := by decide +kernel
theorem dX4_ridingTo_20 : decode cX4_ridingTo 20 = .ok (.aload_n 0, 1) := by decide +kernel
theorem dX4_ridingTo_21 : decode cX4_ridingTo 21 = .ok (.getfield 10, 3) := by decide +kernel
theorem dX4_ridingTo_24 : decode cX4_ridingTo 24 = .ok (.getfield 155, 3) := by decide +kernel
theorem dX4_ridingTo_27 : decode cX4_ridingTo 27 = .ok (.iload_n 3, 1) := by decide +kernel
theorem dX4_ridingTo_28 : decode cX4_ridingTo 28 = .ok (.iaload, 1) := by decide +kernel
theorem dX4_ridingTo_29 : decode cX4_ridingTo 29 = .ok (.iload_n 1, 1) := by decide +kernel
theorem dX4_ridingTo_30 : decode cX4_ridingTo 30 = .ok (.if_icmp .ne 18, 3) := by decide +kernel
theorem dX4_ridingTo_33 : decode cX4_ridingTo 33 = .ok (.aload_n 0, 1) := by decide +kernel
theorem dX4_ridingTo_34 : decode cX4_ridingTo 34 = .ok (.getfield 10, 3) := by decide +kernel
theorem dX4_ridingTo_37 : decode cX4_ridingTo 37 = .ok (.iload_n 3, 1) := by decide +kernel
theorem dX4_ridingTo_38 : decode cX4_ridingTo 38 = .ok (.invokevirtual 148, 3) := by decide +kernel
theorem dX4_ridingTo_41 : decode cX4_ridingTo 41 = .ok (.iconst 2, 1) := by decide +kernel
theorem dX4_ridingTo_42 : decode cX4_ridingTo 42 = .ok (.if_icmp .ne 6, 3) := by decide +kernel
theorem dX4_ridingTo_45 : decode cX4_ridingTo 45 = .ok (.iinc 2 1, 3) := by decide +kernel
theorem dX4_ridingTo_48 : decode cX4_ridingTo 48 = .ok (.iinc 3 1, 3) := by decide +kernel
theorem dX4_ridingTo_51 : decode cX4_ridingTo 51 = .ok (.goto (-42), 3) := by decide +kernel
theorem dX4_ridingTo_54 : decode cX4_ridingTo 54 = .ok (.iload_n 2, 1) := by decide +kernel
theorem dX4_ridingTo_55 : decode cX4_ridingTo 55 = .ok (.ireturn, 1) := by decide +kernel
theorem dX4_busiestOrigin_0 : decode cX4_busiestOrigin 0 = .ok (.iconst (-1), 1) := by decide +kernel
theorem dX4_busiestOrigin_1 : decode cX4_busiestOrigin 1 = .ok (.istore_n 1, 1) := by decide +kernel
theorem dX4_busiestOrigin_2 : decode cX4_busiestOrigin 2 = .ok (.iconst 0, 1) := by decide +kernel
theorem dX4_busiestOrigin_3 : decode cX4_busiestOrigin 3 = .ok (.istore_n 2, 1) := by decide +kernel
theorem dX4_busiestOrigin_4 : decode cX4_busiestOrigin 4 = .ok (.iconst 0, 1) := by decide +kernel
theorem dX4_busiestOrigin_5 : decode cX4_busiestOrigin 5 = .ok (.istore_n 3, 1) := by decide +kernel
theorem dX4_busiestOrigin_6 : decode cX4_busiestOrigin 6 = .ok (.iload_n 3, 1) := by decide +kernel
theorem dX4_busiestOrigin_7 : decode cX4_busiestOrigin 7 = .ok (.aload_n 0, 1) := by decide +kernel
theorem dX4_busiestOrigin_8 : decode cX4_busiestOrigin 8 = .ok (.getfield 10, 3) := by decide +kernel
theorem dX4_busiestOrigin_11 : decode cX4_busiestOrigin 11 = .ok (.getfield 100, 3) := by decide +kernel
theorem dX4_busiestOrigin_14 : decode cX4_busiestOrigin 14 = .ok (.if_icmp .ge 61, 3) := by decide +kernel
theorem dX4_busiestOrigin_17 : decode cX4_busiestOrigin 17 = .ok (.iconst 0, 1) := by decide +kernel
theorem dX4_busiestOrigin_18 : decode cX4_busiestOrigin 18 = .ok (.istore 4, 2) := by decide +kernel
theorem dX4_busiestOrigin_20 : decode cX4_busiestOrigin 20 = .ok (.iconst 0, 1) := by decide +kernel
theorem dX4_busiestOrigin_21 : decode cX4_busiestOrigin 21 = .ok (.istore 5, 2) := by decide +kernel
theorem dX4_busiestOrigin_23 : decode cX4_busiestOrigin 23 = .ok (.iload 5, 2) := by decide +kernel
theorem dX4_busiestOrigin_25 : decode cX4_busiestOrigin 25 = .ok (.aload_n 0, 1) := by decide +kernel
theorem dX4_busiestOrigin_26 : decode cX4_busiestOrigin 26 = .ok (.getfield 10, 3) := by decide +kernel
theorem dX4_busiestOrigin_29 : decode cX4_busiestOrigin 29 = .ok (.getfield 83, 3) := by decide +kernel
theorem dX4_busiestOrigin_32 : decode cX4_busiestOrigin 32 = .ok (.if_icmp .ge 26, 3) := by decide +kernel
theorem dX4_busiestOrigin_35 : decode cX4_busiestOrigin 35 = .ok (.aload_n 0, 1) := by decide +kernel
theorem dX4_busiestOrigin_36 : decode cX4_busiestOrigin 36 = .ok (.getfield 10, 3) := by decide +kernel
theorem dX4_busiestOrigin_39 : decode cX4_busiestOrigin 39 = .ok (.getfield 151, 3) := by decide +kernel
theorem dX4_busiestOrigin_42 : decode cX4_busiestOrigin 42 = .ok (.iload 5, 2) := by decide +kernel
theorem dX4_busiestOrigin_44 : decode cX4_busiestOrigin 44 = .ok (.iaload, 1) := by decide +kernel
theorem dX4_busiestOrigin_45 : decode cX4_busiestOrigin 45 = .ok (.iload_n 3, 1) := by decide +kernel
theorem dX4_busiestOrigin_46 : decode cX4_busiestOrigin 46 = .ok (.if_icmp .ne 6, 3) := by decide +kernel
theorem dX4_busiestOrigin_49 : decode cX4_busiestOrigin 49 = .ok (.iinc 4 1, 3) := by decide +kernel
theorem dX4_busiestOrigin_52 : decode cX4_busiestOrigin 52 = .ok (.iinc 5 1, 3) := by decide +kernel
theorem dX4_busiestOrigin_55 : decode cX4_busiestOrigin 55 = .ok (.goto (-32), 3) := by decide +kernel
theorem dX4_busiestOrigin_58 : decode cX4_busiestOrigin 58 = .ok (.iload 4, 2) := by decide +kernel
theorem dX4_busiestOrigin_60 : decode cX4_busiestOrigin 60 = .ok (.iload_n 2, 1) := by decide +kernel
theorem dX4_busiestOrigin_61 : decode cX4_busiestOrigin 61 = .ok (.if_icmp .le 8, 3) := by decide +kernel
theorem dX4_busiestOrigin_64 : decode cX4_busiestOrigin 64 = .ok (.iload 4, 2) := by decide +kernel
theorem dX4_busiestOrigin_66 : decode cX4_busiestOrigin 66 = .ok (.istore_n 2, 1) := by decide +kernel
theorem dX4_busiestOrigin_67 : decode cX4_busiestOrigin 67 = .ok (.iload_n 3, 1) := by decide +kernel
theorem dX4_busiestOrigin_68 : decode cX4_busiestOrigin 68 = .ok (.istore_n 1, 1) := by decide +kernel
theorem dX4_busiestOrigin_69 : decode cX4_busiestOrigin 69 = .ok (.iinc 3 1, 3) := by decide +kernel
theorem dX4_busiestOrigin_72 : decode cX4_busiestOrigin 72 = .ok (.goto (-66), 3) := by decide +kernel
theorem dX4_busiestOrigin_75 : decode cX4_busiestOrigin 75 = .ok (.iload_n 1, 1) := by decide +kernel
theorem dX4_busiestOrigin_76 : decode cX4_busiestOrigin 76 = .ok (.ireturn, 1) := by decide +kernel
theorem dX4_passengersBetween_0 : decode cX4_passengersBetween 0 = .ok (.aload_n 0, 1) := by decide +kernel
theorem dX4_passengersBetween_1 : decode cX4_passengersBetween 1 = .ok (.iload_n 1, 1) := by decide +kernel
theorem dX4_passengersBetween_2 : decode cX4_passengersBetween 2 = .ok (.invokevirtual 183, 3) := by decide +kernel
theorem dX4_passengersBetween_5 : decode cX4_passengersBetween 5 = .ok (.aload_n 0, 1) := by decide +kernel
theorem dX4_passengersBetween_6 : decode cX4_passengersBetween 6 = .ok (.iload_n 2, 1) := by decide +kernel
theorem dX4_passengersBetween_7 : decode cX4_passengersBetween 7 = .ok (.invokevirtual 183, 3) := by decide +kernel
theorem dX4_passengersBetween_10 : decode cX4_passengersBetween 10 = .ok (.iconst 0, 1) := by decide +kernel
theorem dX4_passengersBetween_11 : decode cX4_passengersBetween 11 = .ok (.istore_n 3, 1) := by decide +kernel
theorem dX4_passengersBetween_12 : decode cX4_passengersBetween 12 = .ok (.iconst 0, 1) := by decide +kernel
theorem dX4_passengersBetween_13 : decode cX4_passengersBetween 13 = .ok (.istore 4, 2) := by decide +kernel
theorem dX4_passengersBetween_15 : decode cX4_passengersBetween 15 = .ok (.iload 4, 2) := by decide +kernel
theorem dX4_passengersBetween_17 : decode cX4_passengersBetween 17 = .ok (.aload_n 0, 1) := by decide +kernel
theorem dX4_passengersBetween_18 : decode cX4_passengersBetween 18 = .ok (.getfield 10, 3) := by decide +kernel
theorem dX4_passengersBetween_21 : decode cX4_passengersBetween 21 = .ok (.getfield 83, 3) := by decide +kernel
theorem dX4_passengersBetween_24 : decode cX4_passengersBetween 24 = .ok (.if_icmp .ge 40, 3) := by decide +kernel
theorem dX4_passengersBetween_27 : decode cX4_passengersBetween 27 = .ok (.aload_n 0, 1) := by decide +kernel
theorem dX4_passengersBetween_28 : decode cX4_passengersBetween 28 = .ok (.getfield 10, 3) := by decide +kernel
theorem dX4_passengersBetween_31 : decode cX4_passengersBetween 31 = .ok (.getfield 151, 3) := by decide +kernel
theorem dX4_passengersBetween_34 : decode cX4_passengersBetween 34 = .ok (.iload 4, 2) := by decide +kernel
theorem dX4_passengersBetween_36 : decode cX4_passengersBetween 36 = .ok (.iaload, 1) := by decide +kernel
theorem dX4_passengersBetween_37 : decode cX4_passengersBetween 37 = .ok (.iload_n 1, 1) := by decide +kernel
theorem dX4_passengersBetween_38 : decode cX4_passengersBetween 38 = .ok (.if_icmp .ne 20, 3) := by decide +kernel
theorem dX4_passengersBetween_41 : decode cX4_passengersBetween 41 = .ok (.aload_n 0, 1) := by decide +kernel
theorem dX4_passengersBetween_42 : decode cX4_passengersBetween 42 = .ok (.getfield 10, 3) := by decide +kernel
theorem dX4_passengersBetween_45 : decode cX4_passengersBetween 45 = .ok (.getfield 155, 3) := by decide +kernel
theorem dX4_passengersBetween_48 : decode cX4_passengersBetween 48 = .ok (.iload 4, 2) := by decide +kernel
theorem dX4_passengersBetween_50 : decode cX4_passengersBetween 50 = .ok (.iaload, 1) := by decide +kernel
theorem dX4_passengersBetween_51 : decode cX4_passengersBetween 51 = .ok (.iload_n 2, 1) := by decide +kernel
theorem dX4_passengersBetween_52 : decode cX4_passengersBetween 52 = .ok (.if_icmp .ne 6, 3) := by decide +kernel
theorem dX4_passengersBetween_55 : decode cX4_passengersBetween 55 = .ok (.iinc 3 1, 3) := by decide +kernel
theorem dX4_passengersBetween_58 : decode cX4_passengersBetween 58 = .ok (.iinc 4 1, 3) := by decide +kernel
theorem dX4_passengersBetween_61 : decode cX4_passengersBetween 61 = .ok (.goto (-46), 3) := by decide +kernel
theorem dX4_passengersBetween_64 : decode cX4_passengersBetween 64 = .ok (.iload_n 3, 1) := by decide +kernel
theorem dX4_passengersBetween_65 : decode cX4_passengersBetween 65 = .ok (.ireturn, 1) := by decide +kernel
theorem dX4_nextArrival_0 : decode cX4_nextArrival 0 = .ok (.iconst (-1), 1) := by decide +kernel
theorem dX4_nextArrival_1 : decode cX4_nextArrival 1 = .ok (.istore_n 1, 1) := by decide +kernel
theorem dX4_nextArrival_2 : decode cX4_nextArrival 2 = .ok (.iconst 0, 1) := by decide +kernel
theorem dX4_nextArrival_3 : decode cX4_nextArrival 3 = .ok (.istore_n 2, 1) := by decide +kernel
theorem dX4_nextArrival_4 : decode cX4_nextArrival 4 = .ok (.iload_n 2, 1) := by decide +kernel
theorem dX4_nextArrival_5 : decode cX4_nextArrival 5 = .ok (.aload_n 0, 1) := by decide +kernel
theorem dX4_nextArrival_6 : decode cX4_nextArrival 6 = .ok (.getfield 10, 3) := by decide +kernel
theorem dX4_nextArrival_9 : decode cX4_nextArrival 9 = .ok (.getfield 83, 3) := by decide +kernel
theorem dX4_nextArrival_12 : decode cX4_nextArrival 12 = .ok (.if_icmp .ge 42, 3) := by decide +kernel
theorem dX4_nextArrival_15 : decode cX4_nextArrival 15 = .ok (.aload_n 0, 1) := by decide +kernel
theorem dX4_nextArrival_16 : decode cX4_nextArrival 16 = .ok (.getfield 10, 3) := by decide +kernel
theorem dX4_nextArrival_19 : decode cX4_nextArrival 19 = .ok (.getfield 158, 3) := by decide +kernel
theorem dX4_nextArrival_22 : decode cX4_nextArrival 22 = .ok (.iload_n 2, 1) := by decide +kernel
theorem dX4_nextArrival_23 : decode cX4_nextArrival 23 = .ok (.iaload, 1) := by decide +kernel
theorem dX4_nextArrival_24 : decode cX4_nextArrival 24 = .ok (.istore_n 3, 1) := by decide +kernel
theorem dX4_nextArrival_25 : decode cX4_nextArrival 25 = .ok (.iload_n 3, 1) := by decide +kernel
theorem dX4_nextArrival_26 : decode cX4_nextArrival 26 = .ok (.aload_n 0, 1) := by decide +kernel
theorem dX4_nextArrival_27 : decode cX4_nextArrival 27 = .ok (.getfield 10, 3) := by decide +kernel
theorem dX4_nextArrival_30 : decode cX4_nextArrival 30 = .ok (.getfield 109, 3) := by decide +kernel
theorem dX4_nextArrival_33 : decode cX4_nextArrival 33 = .ok (.if_icmp .le 15, 3) := by decide +kernel
theorem dX4_nextArrival_36 : decode cX4_nextArrival 36 = .ok (.iload_n 1, 1) := by decide +kernel
theorem dX4_nextArrival_37 : decode cX4_nextArrival 37 = .ok (.iconst (-1), 1) := by decide +kernel
theorem dX4_nextArrival_38 : decode cX4_nextArrival 38 = .ok (.if_icmp .eq 8, 3) := by decide +kernel
theorem dX4_nextArrival_41 : decode cX4_nextArrival 41 = .ok (.iload_n 3, 1) := by decide +kernel
theorem dX4_nextArrival_42 : decode cX4_nextArrival 42 = .ok (.iload_n 1, 1) := by decide +kernel
theorem dX4_nextArrival_43 : decode cX4_nextArrival 43 = .ok (.if_icmp .ge 5, 3) := by decide +kernel
theorem dX4_nextArrival_46 : decode cX4_nextArrival 46 = .ok (.iload_n 3, 1) := by decide +kernel
theorem dX4_nextArrival_47 : decode cX4_nextArrival 47 = .ok (.istore_n 1, 1) := by decide +kernel
theorem dX4_nextArrival_48 : decode cX4_nextArrival 48 = .ok (.iinc 2 1, 3) := by decide +kernel
theorem dX4_nextArrival_51 : decode cX4_nextArrival 51 = .ok (.goto (-47), 3) := by decide +kernel
theorem dX4_nextArrival_54 : decode cX4_nextArrival 54 = .ok (.iload_n 1, 1) := by decide +kernel
theorem dX4_nextArrival_55 : decode cX4_nextArrival 55 = .ok (.ireturn, 1) := by decide +kernel
theorem dX4_totalRide_0 : decode cX4_totalRide 0 = .ok (.iconst 0, 1) := by decide +kernel
theorem dX4_totalRide_1 : decode cX4_totalRide 1 = .ok (.istore_n 1, 1) := by decide +kernel
theorem dX4_totalRide_2 : decode cX4_totalRide 2 = .ok (.iconst 0, 1) := by decide +kernel
theorem dX4_totalRide_3 : decode cX4_totalRide 3 = .ok (.istore_n 2, 1) := by decide +kernel
theorem dX4_totalRide_4 : decode cX4_totalRide 4 = .ok (.iload_n 2, 1) := by decide +kernel
theorem dX4_totalRide_5 : decode cX4_totalRide 5 = .ok (.aload_n 0, 1) := by decide +kernel
theorem dX4_totalRide_6 : decode cX4_totalRide 6 = .ok (.getfield 10, 3) := by decide +kernel
theorem dX4_totalRide_9 : decode cX4_totalRide 9 = .ok (.getfield 83, 3) := by decide +kernel
theorem dX4_totalRide_12 : decode cX4_totalRide 12 = .ok (.if_icmp .ge 24, 3) := by decide +kernel
theorem dX4_totalRide_15 : decode cX4_totalRide 15 = .ok (.iload_n 1, 1) := by decide +kernel
theorem dX4_totalRide_16 : decode cX4_totalRide 16 = .ok (.aload_n 0, 1) := by decide +kernel
theorem dX4_totalRide_17 : decode cX4_totalRide 17 = .ok (.getfield 10, 3) := by decide +kernel
theorem dX4_totalRide_20 : decode cX4_totalRide 20 = .ok (.iload_n 2, 1) := by decide +kernel
theorem dX4_totalRide_21 : decode cX4_totalRide 21 = .ok (.invokevirtual 170, 3) := by decide +kernel
theorem dX4_totalRide_24 : decode cX4_totalRide 24 = .ok (.iconst 0, 1) := by decide +kernel
theorem dX4_totalRide_25 : decode cX4_totalRide 25 = .ok (.invokestatic 195, 3) := by decide +kernel
theorem dX4_totalRide_28 : decode cX4_totalRide 28 = .ok (.iadd, 1) := by decide +kernel
theorem dX4_totalRide_29 : decode cX4_totalRide 29 = .ok (.istore_n 1, 1) := by decide +kernel
theorem dX4_totalRide_30 : decode cX4_totalRide 30 = .ok (.iinc 2 1, 3) := by decide +kernel
theorem dX4_totalRide_33 : decode cX4_totalRide 33 = .ok (.goto (-29), 3) := by decide +kernel
theorem dX4_totalRide_36 : decode cX4_totalRide 36 = .ok (.iload_n 1, 1) := by decide +kernel
theorem dX4_totalRide_37 : decode cX4_totalRide 37 = .ok (.ireturn, 1) := by decide +kernel
theorem dX4_longestRide_0 : decode cX4_longestRide 0 = .ok (.iconst 0, 1) := by decide +kernel
theorem dX4_longestRide_1 : decode cX4_longestRide 1 = .ok (.istore_n 1, 1) := by decide +kernel
theorem dX4_longestRide_2 : decode cX4_longestRide 2 = .ok (.iconst 0, 1) := by decide +kernel
theorem dX4_longestRide_3 : decode cX4_longestRide 3 = .ok (.istore_n 2, 1) := by decide +kernel
theorem dX4_longestRide_4 : decode cX4_longestRide 4 = .ok (.iload_n 2, 1) := by decide +kernel
theorem dX4_longestRide_5 : decode cX4_longestRide 5 = .ok (.aload_n 0, 1) := by decide +kernel
theorem dX4_longestRide_6 : decode cX4_longestRide 6 = .ok (.getfield 10, 3) := by decide +kernel
theorem dX4_longestRide_9 : decode cX4_longestRide 9 = .ok (.getfield 83, 3) := by decide +kernel
theorem dX4_longestRide_12 : decode cX4_longestRide 12 = .ok (.if_icmp .ge 22, 3) := by decide +kernel
theorem dX4_longestRide_15 : decode cX4_longestRide 15 = .ok (.iload_n 1, 1) := by decide +kernel
theorem dX4_longestRide_16 : decode cX4_longestRide 16 = .ok (.aload_n 0, 1) := by decide +kernel
theorem dX4_longestRide_17 : decode cX4_longestRide 17 = .ok (.getfield 10, 3) := by decide +kernel
theorem dX4_longestRide_20 : decode cX4_longestRide 20 = .ok (.iload_n 2, 1) := by decide +kernel
theorem dX4_longestRide_21 : decode cX4_longestRide 21 = .ok (.invokevirtual 170, 3) := by decide +kernel
theorem dX4_longestRide_24 : decode cX4_longestRide 24 = .ok (.invokestatic 195, 3) := by decide +kernel
theorem dX4_longestRide_27 : decode cX4_longestRide 27 = .ok (.istore_n 1, 1) := by decide +kernel
theorem dX4_longestRide_28 : decode cX4_longestRide 28 = .ok (.iinc 2 1, 3) := by decide +kernel
theorem dX4_longestRide_31 : decode cX4_longestRide 31 = .ok (.goto (-27), 3) := by decide +kernel
theorem dX4_longestRide_34 : decode cX4_longestRide 34 = .ok (.iload_n 1, 1) := by decide +kernel
theorem dX4_longestRide_35 : decode cX4_longestRide 35 = .ok (.ireturn, 1) := by decide +kernel
theorem dX4_lastDone_0 : decode cX4_lastDone 0 = .ok (.iconst (-1), 1) := by decide +kernel
theorem dX4_lastDone_1 : decode cX4_lastDone 1 = .ok (.istore_n 1, 1) := by decide +kernel
theorem dX4_lastDone_2 : decode cX4_lastDone 2 = .ok (.iconst (-1), 1) := by decide +kernel
theorem dX4_lastDone_3 : decode cX4_lastDone 3 = .ok (.istore_n 2, 1) := by decide +kernel
theorem dX4_lastDone_4 : decode cX4_lastDone 4 = .ok (.iconst 0, 1) := by decide +kernel
theorem dX4_lastDone_5 : decode cX4_lastDone 5 = .ok (.istore_n 3, 1) := by decide +kernel
theorem dX4_lastDone_6 : decode cX4_lastDone 6 = .ok (.iload_n 3, 1) := by decide +kernel
theorem dX4_lastDone_7 : decode cX4_lastDone 7 = .ok (.aload_n 0, 1) := by decide +kernel
theorem dX4_lastDone_8 : decode cX4_lastDone 8 = .ok (.getfield 10, 3) := by decide +kernel
theorem dX4_lastDone_11 : decode cX4_lastDone 11 = .ok (.getfield 83, 3) := by decide +kernel
theorem dX4_lastDone_14 : decode cX4_lastDone 14 = .ok (.if_icmp .ge 34, 3) := by decide +kernel
theorem dX4_lastDone_17 : decode cX4_lastDone 17 = .ok (.aload_n 0, 1) := by decide +kernel
theorem dX4_lastDone_18 : decode cX4_lastDone 18 = .ok (.getfield 10, 3) := by decide +kernel
theorem dX4_lastDone_21 : decode cX4_lastDone 21 = .ok (.getfield 164, 3) := by decide +kernel
theorem dX4_lastDone_24 : decode cX4_lastDone 24 = .ok (.iload_n 3, 1) := by decide +kernel
theorem dX4_lastDone_25 : decode cX4_lastDone 25 = .ok (.iaload, 1) := by decide +kernel
theorem dX4_lastDone_26 : decode cX4_lastDone 26 = .ok (.iload_n 2, 1) := by decide +kernel
theorem dX4_lastDone_27 : decode cX4_lastDone 27 = .ok (.if_icmp .le 15, 3) := by decide +kernel
theorem dX4_lastDone_30 : decode cX4_lastDone 30 = .ok (.aload_n 0, 1) := by decide +kernel
theorem dX4_lastDone_31 : decode cX4_lastDone 31 = .ok (.getfield 10, 3) := by decide +kernel
theorem dX4_lastDone_34 : decode cX4_lastDone 34 = .ok (.getfield 164, 3) := by decide +kernel
theorem dX4_lastDone_37 : decode cX4_lastDone 37 = .ok (.iload_n 3, 1) := by decide +kernel
theorem dX4_lastDone_38 : decode cX4_lastDone 38 = .ok (.iaload, 1) := by decide +kernel
theorem dX4_lastDone_39 : decode cX4_lastDone 39 = .ok (.istore_n 2, 1) := by decide +kernel
theorem dX4_lastDone_40 : decode cX4_lastDone 40 = .ok (.iload_n 3, 1) := by decide +kernel
theorem dX4_lastDone_41 : decode cX4_lastDone 41 = .ok (.istore_n 1, 1) := by decide +kernel
theorem dX4_lastDone_42 : decode cX4_lastDone 42 = .ok (.iinc 3 1, 3) := by decide +kernel
theorem dX4_lastDone_45 : decode cX4_lastDone 45 = .ok (.goto (-39), 3) := by decide +kernel
theorem dX4_lastDone_48 : decode cX4_lastDone 48 = .ok (.iload_n 1, 1) := by decide +kernel
theorem dX4_lastDone_49 : decode cX4_lastDone 49 = .ok (.ireturn, 1) := by decide +kernel
theorem dX4_movingShare_0 : decode cX4_movingShare 0 = .ok (.aload_n 0, 1) := by decide +kernel
theorem dX4_movingShare_1 : decode cX4_movingShare 1 = .ok (.getfield 10, 3) := by decide +kernel
theorem dX4_movingShare_4 : decode cX4_movingShare 4 = .ok (.getfield 109, 3) := by decide +kernel
theorem dX4_movingShare_7 : decode cX4_movingShare 7 = .ok (.ifCond .ne 5, 3) := by decide +kernel
theorem dX4_movingShare_10 : decode cX4_movingShare 10 = .ok (.fconst 0, 1) := by decide +kernel
theorem dX4_movingShare_11 : decode cX4_movingShare 11 = .ok (.freturn, 1) := by decide +kernel
theorem dX4_movingShare_12 : decode cX4_movingShare 12 = .ok (.aload_n 0, 1) := by decide +kernel
theorem dX4_movingShare_13 : decode cX4_movingShare 13 = .ok (.getfield 10, 3) := by decide +kernel
theorem dX4_movingShare_16 : decode cX4_movingShare 16 = .ok (.getfield 133, 3) := by decide +kernel
theorem dX4_movingShare_19 : decode cX4_movingShare 19 = .ok (.i2f, 1) := by decide +kernel
theorem dX4_movingShare_20 : decode cX4_movingShare 20 = .ok (.aload_n 0, 1) := by decide +kernel
theorem dX4_movingShare_21 : decode cX4_movingShare 21 = .ok (.getfield 10, 3) := by decide +kernel
theorem dX4_movingShare_24 : decode cX4_movingShare 24 = .ok (.getfield 109, 3) := by decide +kernel
theorem dX4_movingShare_27 : decode cX4_movingShare 27 = .ok (.i2f, 1) := by decide +kernel
theorem dX4_movingShare_28 : decode cX4_movingShare 28 = .ok (.fdiv, 1) := by decide +kernel
theorem dX4_movingShare_29 : decode cX4_movingShare 29 = .ok (.freturn, 1) := by decide +kernel
theorem dX4_totalWait_0 : decode cX4_totalWait 0 = .ok (.aload_n 0, 1) := by decide +kernel
theorem dX4_totalWait_1 : decode cX4_totalWait 1 = .ok (.getfield 10, 3) := by decide +kernel
theorem dX4_totalWait_4 : decode cX4_totalWait 4 = .ok (.invokevirtual 199, 3) := by decide +kernel
theorem dX4_totalWait_7 : decode cX4_totalWait 7 = .ok (.ireturn, 1) := by decide +kernel
theorem dX4_longestWait_0 : decode cX4_longestWait 0 = .ok (.aload_n 0, 1) := by decide +kernel
theorem dX4_longestWait_1 : decode cX4_longestWait 1 = .ok (.getfield 10, 3) := by decide +kernel
theorem dX4_longestWait_4 : decode cX4_longestWait 4 = .ok (.invokevirtual 202, 3) := by decide +kernel
theorem dX4_longestWait_7 : decode cX4_longestWait 7 = .ok (.ireturn, 1) := by decide +kernel
theorem dX4_meanWait_0 : decode cX4_meanWait 0 = .ok (.aload_n 0, 1) := by decide +kernel
theorem dX4_meanWait_1 : decode cX4_meanWait 1 = .ok (.getfield 10, 3) := by decide +kernel
theorem dX4_meanWait_4 : decode cX4_meanWait 4 = .ok (.getfield 119, 3) := by decide +kernel
theorem dX4_meanWait_7 : decode cX4_meanWait 7 = .ok (.aload_n 0, 1) := by decide +kernel
theorem dX4_meanWait_8 : decode cX4_meanWait 8 = .ok (.getfield 10, 3) := by decide +kernel
theorem dX4_meanWait_11 : decode cX4_meanWait 11 = .ok (.getfield 205, 3) := by decide +kernel
theorem dX4_meanWait_14 : decode cX4_meanWait 14 = .ok (.iadd, 1) := by decide +kernel
theorem dX4_meanWait_15 : decode cX4_meanWait 15 = .ok (.istore_n 1, 1) := by decide +kernel
theorem dX4_meanWait_16 : decode cX4_meanWait 16 = .ok (.iload_n 1, 1) := by decide +kernel
theorem dX4_meanWait_17 : decode cX4_meanWait 17 = .ok (.ifCond .ne 5, 3) := by decide +kernel
theorem dX4_meanWait_20 : decode cX4_meanWait 20 = .ok (.dconst 0, 1) := by decide +kernel
theorem dX4_meanWait_21 : decode cX4_meanWait 21 = .ok (.dreturn, 1) := by decide +kernel
theorem dX4_meanWait_22 : decode cX4_meanWait 22 = .ok (.aload_n 0, 1) := by decide +kernel
theorem dX4_meanWait_23 : decode cX4_meanWait 23 = .ok (.getfield 10, 3) := by decide +kernel
theorem dX4_meanWait_26 : decode cX4_meanWait 26 = .ok (.invokevirtual 199, 3) := by decide +kernel
theorem dX4_meanWait_29 : decode cX4_meanWait 29 = .ok (.i2d, 1) := by decide +kernel
theorem dX4_meanWait_30 : decode cX4_meanWait 30 = .ok (.iload_n 1, 1) := by decide +kernel
theorem dX4_meanWait_31 : decode cX4_meanWait 31 = .ok (.i2d, 1) := by decide +kernel
theorem dX4_meanWait_32 : decode cX4_meanWait 32 = .ok (.ddiv, 1) := by decide +kernel
theorem dX4_meanWait_33 : decode cX4_meanWait 33 = .ok (.dreturn, 1) := by decide +kernel
theorem dX4_isFinished_0 : decode cX4_isFinished 0 = .ok (.aload_n 0, 1) := by decide +kernel
theorem dX4_isFinished_1 : decode cX4_isFinished 1 = .ok (.getfield 10, 3) := by decide +kernel
theorem dX4_isFinished_4 : decode cX4_isFinished 4 = .ok (.invokevirtual 208, 3) := by decide +kernel
theorem dX4_isFinished_7 : decode cX4_isFinished 7 = .ok (.ireturn, 1) := by decide +kernel
theorem dX4_ticksToFinish_0 : decode cX4_ticksToFinish 0 = .ok (.aload_n 0, 1) := by decide +kernel
theorem dX4_ticksToFinish_1 : decode cX4_ticksToFinish 1 = .ok (.aload_n 0, 1) := by decide +kernel
theorem dX4_ticksToFinish_2 : decode cX4_ticksToFinish 2 = .ok (.getfield 10, 3) := by decide +kernel
theorem dX4_ticksToFinish_5 : decode cX4_ticksToFinish 5 = .ok (.getfield 106, 3) := by decide +kernel
theorem dX4_ticksToFinish_8 : decode cX4_ticksToFinish 8 = .ok (.aload_n 0, 1) := by decide +kernel
theorem dX4_ticksToFinish_9 : decode cX4_ticksToFinish 9 = .ok (.getfield 10, 3) := by decide +kernel
theorem dX4_ticksToFinish_12 : decode cX4_ticksToFinish 12 = .ok (.getfield 103, 3) := by decide +kernel
theorem dX4_ticksToFinish_15 : decode cX4_ticksToFinish 15 = .ok (.invokevirtual 212, 3) := by decide +kernel
theorem dX4_ticksToFinish_18 : decode cX4_ticksToFinish 18 = .ok (.ireturn, 1) := by decide +kernel
theorem dX4_ticksWithPolicy_0 : decode cX4_ticksWithPolicy 0 = .ok (.aload_n 0, 1) := by decide +kernel
theorem dX4_ticksWithPolicy_1 : decode cX4_ticksWithPolicy 1 = .ok (.iload_n 1, 1) := by decide +kernel
theorem dX4_ticksWithPolicy_2 : decode cX4_ticksWithPolicy 2 = .ok (.invokevirtual 126, 3) := by decide +kernel
theorem dX4_ticksWithPolicy_5 : decode cX4_ticksWithPolicy 5 = .ok (.aload_n 0, 1) := by decide +kernel
theorem dX4_ticksWithPolicy_6 : decode cX4_ticksWithPolicy 6 = .ok (.iload_n 1, 1) := by decide +kernel
theorem dX4_ticksWithPolicy_7 : decode cX4_ticksWithPolicy 7 = .ok (.aload_n 0, 1) := by decide +kernel
theorem dX4_ticksWithPolicy_8 : decode cX4_ticksWithPolicy 8 = .ok (.getfield 10, 3) := by decide +kernel
theorem dX4_ticksWithPolicy_11 : decode cX4_ticksWithPolicy 11 = .ok (.getfield 103, 3) := by decide +kernel
theorem dX4_ticksWithPolicy_14 : decode cX4_ticksWithPolicy 14 = .ok (.invokevirtual 212, 3) := by decide +kernel
theorem dX4_ticksWithPolicy_17 : decode cX4_ticksWithPolicy 17 = .ok (.ireturn, 1) := by decide +kernel
theorem dX4_waitWithPolicy_0 : decode cX4_waitWithPolicy 0 = .ok (.aload_n 0, 1) := by decide +kernel
theorem dX4_waitWithPolicy_1 : decode cX4_waitWithPolicy 1 = .ok (.iload_n 1, 1) := by decide +kernel
theorem dX4_waitWithPolicy_2 : decode cX4_waitWithPolicy 2 = .ok (.invokevirtual 126, 3) := by decide +kernel
theorem dX4_waitWithPolicy_5 : decode cX4_waitWithPolicy 5 = .ok (.aload_n 0, 1) := by decide +kernel
theorem dX4_waitWithPolicy_6 : decode cX4_waitWithPolicy 6 = .ok (.iload_n 1, 1) := by decide +kernel
theorem dX4_waitWithPolicy_7 : decode cX4_waitWithPolicy 7 = .ok (.invokevirtual 215, 3) := by decide +kernel
theorem dX4_waitWithPolicy_10 : decode cX4_waitWithPolicy 10 = .ok (.ireturn, 1) := by decide +kernel
theorem dX4_longestWaitWithPolicy_0 : decode cX4_longestWaitWithPolicy 0 = .ok (.aload_n 0, 1) := by decide +kernel
theorem dX4_longestWaitWithPolicy_1 : decode cX4_longestWaitWithPolicy 1 = .ok (.iload_n 1, 1) := by decide +kernel
theorem dX4_longestWaitWithPolicy_2 : decode cX4_longestWaitWithPolicy 2 = .ok (.invokevirtual 126, 3) := by decide +kernel
theorem dX4_longestWaitWithPolicy_5 : decode cX4_longestWaitWithPolicy 5 = .ok (.aload_n 0, 1) := by decide +kernel
theorem dX4_longestWaitWithPolicy_6 : decode cX4_longestWaitWithPolicy 6 = .ok (.iload_n 1, 1) := by decide +kernel
theorem dX4_longestWaitWithPolicy_7 : decode cX4_longestWaitWithPolicy 7 = .ok (.aload_n 0, 1) := by decide +kernel
theorem dX4_longestWaitWithPolicy_8 : decode cX4_longestWaitWithPolicy 8 = .ok (.getfield 10, 3) := by decide +kernel
theorem dX4_longestWaitWithPolicy_11 : decode cX4_longestWaitWithPolicy 11 = .ok (.getfield 103, 3) := by decide +kernel
theorem dX4_longestWaitWithPolicy_14 : decode cX4_longestWaitWithPolicy 14 = .ok (.invokevirtual 212, 3) := by decide +kernel
theorem dX4_longestWaitWithPolicy_17 : decode cX4_longestWaitWithPolicy 17 = .ok (.pop, 1) := by decide +kernel
theorem dX4_longestWaitWithPolicy_18 : decode cX4_longestWaitWithPolicy 18 = .ok (.aload_n 0, 1) := by decide +kernel
theorem dX4_longestWaitWithPolicy_19 : decode cX4_longestWaitWithPolicy 19 = .ok (.getfield 16, 3) := by decide +kernel
theorem dX4_longestWaitWithPolicy_22 : decode cX4_longestWaitWithPolicy 22 = .ok (.invokevirtual 202, 3) := by decide +kernel
theorem dX4_longestWaitWithPolicy_25 : decode cX4_longestWaitWithPolicy 25 = .ok (.ireturn, 1) := by decide +kernel
theorem dX4_bestPolicy_0 : decode cX4_bestPolicy 0 = .ok (.iconst 0, 1) := by decide +kernel
theorem dX4_bestPolicy_1 : decode cX4_bestPolicy 1 = .ok (.istore_n 1, 1) := by decide +kernel
theorem dX4_bestPolicy_2 : decode cX4_bestPolicy 2 = .ok (.aload_n 0, 1) := by decide +kernel
theorem dX4_bestPolicy_3 : decode cX4_bestPolicy 3 = .ok (.iconst 0, 1) := by decide +kernel
theorem dX4_bestPolicy_4 : decode cX4_bestPolicy 4 = .ok (.invokevirtual 215, 3) := by decide +kernel
theorem dX4_bestPolicy_7 : decode cX4_bestPolicy 7 = .ok (.istore_n 2, 1) := by decide +kernel
theorem dX4_bestPolicy_8 : decode cX4_bestPolicy 8 = .ok (.iconst 1, 1) := by decide +kernel
theorem dX4_bestPolicy_9 : decode cX4_bestPolicy 9 = .ok (.istore_n 3, 1) := by decide +kernel
theorem dX4_bestPolicy_10 : decode cX4_bestPolicy 10 = .ok (.iload_n 3, 1) := by decide +kernel
theorem dX4_bestPolicy_11 : decode cX4_bestPolicy 11 = .ok (.iconst 2, 1) := by decide +kernel
theorem dX4_bestPolicy_12 : decode cX4_bestPolicy 12 = .ok (.if_icmp .gt 27, 3) := by decide +kernel
theorem dX4_bestPolicy_15 : decode cX4_bestPolicy 15 = .ok (.aload_n 0, 1) := by decide +kernel
theorem dX4_bestPolicy_16 : decode cX4_bestPolicy 16 = .ok (.iload_n 3, 1) := by decide +kernel
theorem dX4_bestPolicy_17 : decode cX4_bestPolicy 17 = .ok (.invokevirtual 215, 3) := by decide +kernel
theorem dX4_bestPolicy_20 : decode cX4_bestPolicy 20 = .ok (.istore 4, 2) := by decide +kernel
theorem dX4_bestPolicy_22 : decode cX4_bestPolicy 22 = .ok (.iload 4, 2) := by decide +kernel
theorem dX4_bestPolicy_24 : decode cX4_bestPolicy 24 = .ok (.iload_n 2, 1) := by decide +kernel
theorem dX4_bestPolicy_25 : decode cX4_bestPolicy 25 = .ok (.if_icmp .ge 8, 3) := by decide +kernel
theorem dX4_bestPolicy_28 : decode cX4_bestPolicy 28 = .ok (.iload 4, 2) := by decide +kernel
theorem dX4_bestPolicy_30 : decode cX4_bestPolicy 30 = .ok (.istore_n 2, 1) := by decide +kernel
theorem dX4_bestPolicy_31 : decode cX4_bestPolicy 31 = .ok (.iload_n 3, 1) := by decide +kernel
theorem dX4_bestPolicy_32 : decode cX4_bestPolicy 32 = .ok (.istore_n 1, 1) := by decide +kernel
theorem dX4_bestPolicy_33 : decode cX4_bestPolicy 33 = .ok (.iinc 3 1, 3) := by decide +kernel
theorem dX4_bestPolicy_36 : decode cX4_bestPolicy 36 = .ok (.goto (-26), 3) := by decide +kernel
theorem dX4_bestPolicy_39 : decode cX4_bestPolicy 39 = .ok (.iload_n 1, 1) := by decide +kernel
theorem dX4_bestPolicy_40 : decode cX4_bestPolicy 40 = .ok (.ireturn, 1) := by decide +kernel
theorem dX4_ticksWithCapacity_0 : decode cX4_ticksWithCapacity 0 = .ok (.aload_n 0, 1) := by decide +kernel
theorem dX4_ticksWithCapacity_1 : decode cX4_ticksWithCapacity 1 = .ok (.iload_n 1, 1) := by decide +kernel
theorem dX4_ticksWithCapacity_2 : decode cX4_ticksWithCapacity 2 = .ok (.invokevirtual 218, 3) := by decide +kernel
theorem dX4_ticksWithCapacity_5 : decode cX4_ticksWithCapacity 5 = .ok (.aload_n 0, 1) := by decide +kernel
theorem dX4_ticksWithCapacity_6 : decode cX4_ticksWithCapacity 6 = .ok (.aload_n 0, 1) := by decide +kernel
theorem dX4_ticksWithCapacity_7 : decode cX4_ticksWithCapacity 7 = .ok (.getfield 10, 3) := by decide +kernel
theorem dX4_ticksWithCapacity_10 : decode cX4_ticksWithCapacity 10 = .ok (.getfield 106, 3) := by decide +kernel
theorem dX4_ticksWithCapacity_13 : decode cX4_ticksWithCapacity 13 = .ok (.iload_n 1, 1) := by decide +kernel
theorem dX4_ticksWithCapacity_14 : decode cX4_ticksWithCapacity 14 = .ok (.invokevirtual 212, 3) := by decide +kernel
theorem dX4_ticksWithCapacity_17 : decode cX4_ticksWithCapacity 17 = .ok (.ireturn, 1) := by decide +kernel
theorem dX4_expectedAt_0 : decode cX4_expectedAt 0 = .ok (.aload_n 0, 1) := by decide +kernel
theorem dX4_expectedAt_1 : decode cX4_expectedAt 1 = .ok (.iload_n 1, 1) := by decide +kernel
theorem dX4_expectedAt_2 : decode cX4_expectedAt 2 = .ok (.invokevirtual 145, 3) := by decide +kernel
theorem dX4_expectedAt_5 : decode cX4_expectedAt 5 = .ok (.aload_n 0, 1) := by decide +kernel
theorem dX4_expectedAt_6 : decode cX4_expectedAt 6 = .ok (.aload_n 0, 1) := by decide +kernel
theorem dX4_expectedAt_7 : decode cX4_expectedAt 7 = .ok (.getfield 10, 3) := by decide +kernel
theorem dX4_expectedAt_10 : decode cX4_expectedAt 10 = .ok (.getfield 106, 3) := by decide +kernel
theorem dX4_expectedAt_13 : decode cX4_expectedAt 13 = .ok (.aload_n 0, 1) := by decide +kernel
theorem dX4_expectedAt_14 : decode cX4_expectedAt 14 = .ok (.getfield 10, 3) := by decide +kernel
theorem dX4_expectedAt_17 : decode cX4_expectedAt 17 = .ok (.getfield 103, 3) := by decide +kernel
theorem dX4_expectedAt_20 : decode cX4_expectedAt 20 = .ok (.invokevirtual 212, 3) := by decide +kernel
theorem dX4_expectedAt_23 : decode cX4_expectedAt 23 = .ok (.pop, 1) := by decide +kernel
theorem dX4_expectedAt_24 : decode cX4_expectedAt 24 = .ok (.aload_n 0, 1) := by decide +kernel
theorem dX4_expectedAt_25 : decode cX4_expectedAt 25 = .ok (.getfield 16, 3) := by decide +kernel
theorem dX4_expectedAt_28 : decode cX4_expectedAt 28 = .ok (.getfield 164, 3) := by decide +kernel
theorem dX4_expectedAt_31 : decode cX4_expectedAt 31 = .ok (.iload_n 1, 1) := by decide +kernel
theorem dX4_expectedAt_32 : decode cX4_expectedAt 32 = .ok (.iaload, 1) := by decide +kernel
theorem dX4_expectedAt_33 : decode cX4_expectedAt 33 = .ok (.ireturn, 1) := by decide +kernel
theorem dX4_forecast_0 : decode cX4_forecast 0 = .ok (.aload_n 0, 1) := by decide +kernel
theorem dX4_forecast_1 : decode cX4_forecast 1 = .ok (.getfield 16, 3) := by decide +kernel
theorem dX4_forecast_4 : decode cX4_forecast 4 = .ok (.aload_n 0, 1) := by decide +kernel
theorem dX4_forecast_5 : decode cX4_forecast 5 = .ok (.getfield 10, 3) := by decide +kernel
theorem dX4_forecast_8 : decode cX4_forecast 8 = .ok (.invokevirtual 79, 3) := by decide +kernel
theorem dX4_forecast_11 : decode cX4_forecast 11 = .ok (.aload_n 0, 1) := by decide +kernel
theorem dX4_forecast_12 : decode cX4_forecast 12 = .ok (.getfield 16, 3) := by decide +kernel
theorem dX4_forecast_15 : decode cX4_forecast 15 = .ok (.iload_n 1, 1) := by decide +kernel
theorem dX4_forecast_16 : decode cX4_forecast 16 = .ok (.putfield 106, 3) := by decide +kernel
theorem dX4_forecast_19 : decode cX4_forecast 19 = .ok (.aload_n 0, 1) := by decide +kernel
theorem dX4_forecast_20 : decode cX4_forecast 20 = .ok (.getfield 16, 3) := by decide +kernel
theorem dX4_forecast_23 : decode cX4_forecast 23 = .ok (.iload_n 2, 1) := by decide +kernel
theorem dX4_forecast_24 : decode cX4_forecast 24 = .ok (.putfield 103, 3) := by decide +kernel
theorem dX4_forecast_27 : decode cX4_forecast 27 = .ok (.aload_n 0, 1) := by decide +kernel
theorem dX4_forecast_28 : decode cX4_forecast 28 = .ok (.getfield 16, 3) := by decide +kernel
theorem dX4_forecast_31 : decode cX4_forecast 31 = .ok (.ldc 221, 2) := by decide +kernel
theorem dX4_forecast_33 : decode cX4_forecast 33 = .ok (.invokevirtual 222, 3) := by decide +kernel
theorem dX4_forecast_36 : decode cX4_forecast 36 = .ok (.ireturn, 1) := by decide +kernel
theorem dX4_forecastWaits_0 : decode cX4_forecastWaits 0 = .ok (.aload_n 0, 1) := by decide +kernel
theorem dX4_forecastWaits_1 : decode cX4_forecastWaits 1 = .ok (.iload_n 1, 1) := by decide +kernel
theorem dX4_forecastWaits_2 : decode cX4_forecastWaits 2 = .ok (.aload_n 0, 1) := by decide +kernel
theorem dX4_forecastWaits_3 : decode cX4_forecastWaits 3 = .ok (.getfield 10, 3) := by decide +kernel
theorem dX4_forecastWaits_6 : decode cX4_forecastWaits 6 = .ok (.getfield 103, 3) := by decide +kernel
theorem dX4_forecastWaits_9 : decode cX4_forecastWaits 9 = .ok (.invokevirtual 212, 3) := by decide +kernel
theorem dX4_forecastWaits_12 : decode cX4_forecastWaits 12 = .ok (.pop, 1) := by decide +kernel
theorem dX4_forecastWaits_13 : decode cX4_forecastWaits 13 = .ok (.aload_n 0, 1) := by decide +kernel
theorem dX4_forecastWaits_14 : decode cX4_forecastWaits 14 = .ok (.getfield 16, 3) := by decide +kernel
theorem dX4_forecastWaits_17 : decode cX4_forecastWaits 17 = .ok (.invokevirtual 199, 3) := by decide +kernel
theorem dX4_forecastWaits_20 : decode cX4_forecastWaits 20 = .ok (.ireturn, 1) := by decide +kernel
theorem dX4_addPassenger_0 : decode cX4_addPassenger 0 = .ok (.aload_n 0, 1) := by decide +kernel
theorem dX4_addPassenger_1 : decode cX4_addPassenger 1 = .ok (.iload_n 1, 1) := by decide +kernel
theorem dX4_addPassenger_2 : decode cX4_addPassenger 2 = .ok (.invokevirtual 183, 3) := by decide +kernel
theorem dX4_addPassenger_5 : decode cX4_addPassenger 5 = .ok (.aload_n 0, 1) := by decide +kernel
theorem dX4_addPassenger_6 : decode cX4_addPassenger 6 = .ok (.iload_n 2, 1) := by decide +kernel
theorem dX4_addPassenger_7 : decode cX4_addPassenger 7 = .ok (.invokevirtual 183, 3) := by decide +kernel
theorem dX4_addPassenger_10 : decode cX4_addPassenger 10 = .ok (.iload_n 2, 1) := by decide +kernel
theorem dX4_addPassenger_11 : decode cX4_addPassenger 11 = .ok (.iload_n 1, 1) := by decide +kernel
theorem dX4_addPassenger_12 : decode cX4_addPassenger 12 = .ok (.if_icmp .ne 13, 3) := by decide +kernel
theorem dX4_addPassenger_15 : decode cX4_addPassenger 15 = .ok (.new 72, 3) := by decide +kernel
theorem dX4_addPassenger_18 : decode cX4_addPassenger 18 = .ok (.dup, 1) := by decide +kernel
theorem dX4_addPassenger_19 : decode cX4_addPassenger 19 = .ok (.ldc 225, 2) := by decide +kernel
theorem dX4_addPassenger_21 : decode cX4_addPassenger 21 = .ok (.invokespecial 76, 3) := by decide +kernel
theorem dX4_addPassenger_24 : decode cX4_addPassenger 24 = .ok (.athrow, 1) := by decide +kernel
theorem dX4_addPassenger_25 : decode cX4_addPassenger 25 = .ok (.iload_n 3, 1) := by decide +kernel
theorem dX4_addPassenger_26 : decode cX4_addPassenger 26 = .ok (.aload_n 0, 1) := by decide +kernel
theorem dX4_addPassenger_27 : decode cX4_addPassenger 27 = .ok (.getfield 10, 3) := by decide +kernel
theorem dX4_addPassenger_30 : decode cX4_addPassenger 30 = .ok (.getfield 109, 3) := by decide +kernel
theorem dX4_addPassenger_33 : decode cX4_addPassenger 33 = .ok (.if_icmp .lt 10, 3) := by decide +kernel
theorem dX4_addPassenger_36 : decode cX4_addPassenger 36 = .ok (.iload_n 3, 1) := by decide +kernel
theorem dX4_addPassenger_37 : decode cX4_addPassenger 37 = .ok (.sipush 999, 3) := by decide +kernel
theorem dX4_addPassenger_40 : decode cX4_addPassenger 40 = .ok (.if_icmp .le 13, 3) := by decide +kernel
theorem dX4_addPassenger_43 : decode cX4_addPassenger 43 = .ok (.new 72, 3) := by decide +kernel
theorem dX4_addPassenger_46 : decode cX4_addPassenger 46 = .ok (.dup, 1) := by decide +kernel
theorem dX4_addPassenger_47 : decode cX4_addPassenger 47 = .ok (.ldc 227, 2) := by decide +kernel
theorem dX4_addPassenger_49 : decode cX4_addPassenger 49 = .ok (.invokespecial 76, 3) := by decide +kernel
theorem dX4_addPassenger_52 : decode cX4_addPassenger 52 = .ok (.athrow, 1) := by decide +kernel
theorem dX4_addPassenger_53 : decode cX4_addPassenger 53 = .ok (.aload_n 0, 1) := by decide +kernel
theorem dX4_addPassenger_54 : decode cX4_addPassenger 54 = .ok (.getfield 10, 3) := by decide +kernel
theorem dX4_addPassenger_57 : decode cX4_addPassenger 57 = .ok (.getfield 83, 3) := by decide +kernel
theorem dX4_addPassenger_60 : decode cX4_addPassenger 60 = .ok (.bipush 40, 2) := by decide +kernel
theorem dX4_addPassenger_62 : decode cX4_addPassenger 62 = .ok (.if_icmp .lt 13, 3) := by decide +kernel
theorem dX4_addPassenger_65 : decode cX4_addPassenger 65 = .ok (.new 229, 3) := by decide +kernel
theorem dX4_addPassenger_68 : decode cX4_addPassenger 68 = .ok (.dup, 1) := by decide +kernel
theorem dX4_addPassenger_69 : decode cX4_addPassenger 69 = .ok (.ldc 231, 2) := by decide +kernel
theorem dX4_addPassenger_71 : decode cX4_addPassenger 71 = .ok (.invokespecial 233, 3) := by decide +kernel
theorem dX4_addPassenger_74 : decode cX4_addPassenger 74 = .ok (.athrow, 1) := by decide +kernel
theorem dX4_addPassenger_75 : decode cX4_addPassenger 75 = .ok (.aload_n 0, 1) := by decide +kernel
theorem dX4_addPassenger_76 : decode cX4_addPassenger 76 = .ok (.invokevirtual 88, 3) := by decide +kernel
theorem dX4_addPassenger_79 : decode cX4_addPassenger 79 = .ok (.aload_n 0, 1) := by decide +kernel
theorem dX4_addPassenger_80 : decode cX4_addPassenger 80 = .ok (.getfield 10, 3) := by decide +kernel
theorem dX4_addPassenger_83 : decode cX4_addPassenger 83 = .ok (.iload_n 1, 1) := by decide +kernel
theorem dX4_addPassenger_84 : decode cX4_addPassenger 84 = .ok (.iload_n 2, 1) := by decide +kernel
theorem dX4_addPassenger_85 : decode cX4_addPassenger 85 = .ok (.iload_n 3, 1) := by decide +kernel
theorem dX4_addPassenger_86 : decode cX4_addPassenger 86 = .ok (.invokevirtual 234, 3) := by decide +kernel
theorem dX4_addPassenger_89 : decode cX4_addPassenger 89 = .ok (.aload_n 0, 1) := by decide +kernel
theorem dX4_addPassenger_90 : decode cX4_addPassenger 90 = .ok (.getfield 10, 3) := by decide +kernel
theorem dX4_addPassenger_93 : decode cX4_addPassenger 93 = .ok (.getfield 83, 3) := by decide +kernel
theorem dX4_addPassenger_96 : decode cX4_addPassenger 96 = .ok (.iconst 1, 1) := by decide +kernel
theorem dX4_addPassenger_97 : decode cX4_addPassenger 97 = .ok (.isub, 1) := by decide +kernel
theorem dX4_addPassenger_98 : decode cX4_addPassenger 98 = .ok (.ireturn, 1) := by decide +kernel
theorem dX4_run_0 : decode cX4_run 0 = .ok (.iload_n 1, 1) := by decide +kernel
theorem dX4_run_1 : decode cX4_run 1 = .ok (.iconst 1, 1) := by decide +kernel
theorem dX4_run_2 : decode cX4_run 2 = .ok (.if_icmp .lt 10, 3) := by decide +kernel
theorem dX4_run_5 : decode cX4_run 5 = .ok (.iload_n 1, 1) := by decide +kernel
theorem dX4_run_6 : decode cX4_run 6 = .ok (.sipush 999, 3) := by decide +kernel
theorem dX4_run_9 : decode cX4_run 9 = .ok (.if_icmp .le 13, 3) := by decide +kernel
theorem dX4_run_12 : decode cX4_run 12 = .ok (.new 72, 3) := by decide +kernel
theorem dX4_run_15 : decode cX4_run 15 = .ok (.dup, 1) := by decide +kernel
theorem dX4_run_16 : decode cX4_run 16 = .ok (.ldc 238, 2) := by decide +kernel
theorem dX4_run_18 : decode cX4_run 18 = .ok (.invokespecial 76, 3) := by decide +kernel
theorem dX4_run_21 : decode cX4_run 21 = .ok (.athrow, 1) := by decide +kernel
theorem dX4_run_22 : decode cX4_run 22 = .ok (.aload_n 0, 1) := by decide +kernel
theorem dX4_run_23 : decode cX4_run 23 = .ok (.getfield 10, 3) := by decide +kernel
theorem dX4_run_26 : decode cX4_run 26 = .ok (.getfield 109, 3) := by decide +kernel
theorem dX4_run_29 : decode cX4_run 29 = .ok (.iload_n 1, 1) := by decide +kernel
theorem dX4_run_30 : decode cX4_run 30 = .ok (.iadd, 1) := by decide +kernel
theorem dX4_run_31 : decode cX4_run 31 = .ok (.sipush 999, 3) := by decide +kernel
theorem dX4_run_34 : decode cX4_run 34 = .ok (.if_icmp .le 13, 3) := by decide +kernel
theorem dX4_run_37 : decode cX4_run 37 = .ok (.new 229, 3) := by decide +kernel
theorem dX4_run_40 : decode cX4_run 40 = .ok (.dup, 1) := by decide +kernel
theorem dX4_run_41 : decode cX4_run 41 = .ok (.ldc 240, 2) := by decide +kernel
theorem dX4_run_43 : decode cX4_run 43 = .ok (.invokespecial 233, 3) := by decide +kernel
theorem dX4_run_46 : decode cX4_run 46 = .ok (.athrow, 1) := by decide +kernel
theorem dX4_run_47 : decode cX4_run 47 = .ok (.aload_n 0, 1) := by decide +kernel
theorem dX4_run_48 : decode cX4_run 48 = .ok (.invokevirtual 88, 3) := by decide +kernel
theorem dX4_run_51 : decode cX4_run 51 = .ok (.iconst 0, 1) := by decide +kernel
theorem dX4_run_52 : decode cX4_run 52 = .ok (.istore_n 2, 1) := by decide +kernel
theorem dX4_run_53 : decode cX4_run 53 = .ok (.iload_n 2, 1) := by decide +kernel
theorem dX4_run_54 : decode cX4_run 54 = .ok (.iload_n 1, 1) := by decide +kernel
theorem dX4_run_55 : decode cX4_run 55 = .ok (.if_icmp .ge 16, 3) := by decide +kernel
theorem dX4_run_58 : decode cX4_run 58 = .ok (.aload_n 0, 1) := by decide +kernel
theorem dX4_run_59 : decode cX4_run 59 = .ok (.getfield 10, 3) := by decide +kernel
theorem dX4_run_62 : decode cX4_run 62 = .ok (.invokevirtual 242, 3) := by decide +kernel
theorem dX4_run_65 : decode cX4_run 65 = .ok (.iinc 2 1, 3) := by decide +kernel
theorem dX4_run_68 : decode cX4_run 68 = .ok (.goto (-15), 3) := by decide +kernel
theorem dX4_run_71 : decode cX4_run 71 = .ok (.aload_n 0, 1) := by decide +kernel
theorem dX4_run_72 : decode cX4_run 72 = .ok (.getfield 10, 3) := by decide +kernel
theorem dX4_run_75 : decode cX4_run 75 = .ok (.getfield 112, 3) := by decide +kernel
theorem dX4_run_78 : decode cX4_run 78 = .ok (.ireturn, 1) := by decide +kernel
theorem dX4_runToEnd_0 : decode cX4_runToEnd 0 = .ok (.aload_n 0, 1) := by decide +kernel
theorem dX4_runToEnd_1 : decode cX4_runToEnd 1 = .ok (.invokevirtual 88, 3) := by decide +kernel
theorem dX4_runToEnd_4 : decode cX4_runToEnd 4 = .ok (.aload_n 0, 1) := by decide +kernel
theorem dX4_runToEnd_5 : decode cX4_runToEnd 5 = .ok (.getfield 10, 3) := by decide +kernel
theorem dX4_runToEnd_8 : decode cX4_runToEnd 8 = .ok (.sipush 999, 3) := by decide +kernel
theorem dX4_runToEnd_11 : decode cX4_runToEnd 11 = .ok (.aload_n 0, 1) := by decide +kernel
theorem dX4_runToEnd_12 : decode cX4_runToEnd 12 = .ok (.getfield 10, 3) := by decide +kernel
theorem dX4_runToEnd_15 : decode cX4_runToEnd 15 = .ok (.getfield 109, 3) := by decide +kernel
theorem dX4_runToEnd_18 : decode cX4_runToEnd 18 = .ok (.isub, 1) := by decide +kernel
theorem dX4_runToEnd_19 : decode cX4_runToEnd 19 = .ok (.invokevirtual 222, 3) := by decide +kernel
theorem dX4_runToEnd_22 : decode cX4_runToEnd 22 = .ok (.ireturn, 1) := by decide +kernel
theorem dX4_setPolicy_0 : decode cX4_setPolicy 0 = .ok (.aload_n 0, 1) := by decide +kernel
theorem dX4_setPolicy_1 : decode cX4_setPolicy 1 = .ok (.iload_n 1, 1) := by decide +kernel
theorem dX4_setPolicy_2 : decode cX4_setPolicy 2 = .ok (.invokevirtual 126, 3) := by decide +kernel
theorem dX4_setPolicy_5 : decode cX4_setPolicy 5 = .ok (.aload_n 0, 1) := by decide +kernel
theorem dX4_setPolicy_6 : decode cX4_setPolicy 6 = .ok (.invokevirtual 88, 3) := by decide +kernel
theorem dX4_setPolicy_9 : decode cX4_setPolicy 9 = .ok (.aload_n 0, 1) := by decide +kernel
theorem dX4_setPolicy_10 : decode cX4_setPolicy 10 = .ok (.getfield 10, 3) := by decide +kernel
theorem dX4_setPolicy_13 : decode cX4_setPolicy 13 = .ok (.getfield 106, 3) := by decide +kernel
theorem dX4_setPolicy_16 : decode cX4_setPolicy 16 = .ok (.istore_n 2, 1) := by decide +kernel
theorem dX4_setPolicy_17 : decode cX4_setPolicy 17 = .ok (.aload_n 0, 1) := by decide +kernel
theorem dX4_setPolicy_18 : decode cX4_setPolicy 18 = .ok (.getfield 10, 3) := by decide +kernel
theorem dX4_setPolicy_21 : decode cX4_setPolicy 21 = .ok (.iload_n 1, 1) := by decide +kernel
theorem dX4_setPolicy_22 : decode cX4_setPolicy 22 = .ok (.putfield 106, 3) := by decide +kernel
theorem dX4_setPolicy_25 : decode cX4_setPolicy 25 = .ok (.iload_n 2, 1) := by decide +kernel
theorem dX4_setPolicy_26 : decode cX4_setPolicy 26 = .ok (.ireturn, 1) := by decide +kernel
theorem dX4_setCapacity_0 : decode cX4_setCapacity 0 = .ok (.aload_n 0, 1) := by decide +kernel
theorem dX4_setCapacity_1 : decode cX4_setCapacity 1 = .ok (.iload_n 1, 1) := by decide +kernel
theorem dX4_setCapacity_2 : decode cX4_setCapacity 2 = .ok (.invokevirtual 218, 3) := by decide +kernel
theorem dX4_setCapacity_5 : decode cX4_setCapacity 5 = .ok (.aload_n 0, 1) := by decide +kernel
theorem dX4_setCapacity_6 : decode cX4_setCapacity 6 = .ok (.invokevirtual 88, 3) := by decide +kernel
theorem dX4_setCapacity_9 : decode cX4_setCapacity 9 = .ok (.aload_n 0, 1) := by decide +kernel
theorem dX4_setCapacity_10 : decode cX4_setCapacity 10 = .ok (.getfield 10, 3) := by decide +kernel
theorem dX4_setCapacity_13 : decode cX4_setCapacity 13 = .ok (.getfield 103, 3) := by decide +kernel
theorem dX4_setCapacity_16 : decode cX4_setCapacity 16 = .ok (.istore_n 2, 1) := by decide +kernel
theorem dX4_setCapacity_17 : decode cX4_setCapacity 17 = .ok (.aload_n 0, 1) := by decide +kernel
theorem dX4_setCapacity_18 : decode cX4_setCapacity 18 = .ok (.getfield 10, 3) := by decide +kernel
theorem dX4_setCapacity_21 : decode cX4_setCapacity 21 = .ok (.iload_n 1, 1) := by decide +kernel
theorem dX4_setCapacity_22 : decode cX4_setCapacity 22 = .ok (.putfield 103, 3) := by decide +kernel
theorem dX4_setCapacity_25 : decode cX4_setCapacity 25 = .ok (.iload_n 2, 1) := by decide +kernel
theorem dX4_setCapacity_26 : decode cX4_setCapacity 26 = .ok (.ireturn, 1) := by decide +kernel
theorem dX4_undo_0 : decode cX4_undo 0 = .ok (.aload_n 0, 1) := by decide +kernel
theorem dX4_undo_1 : decode cX4_undo 1 = .ok (.getfield 27, 3) := by decide +kernel
theorem dX4_undo_4 : decode cX4_undo 4 = .ok (.ifCond .ne 13, 3) := by decide +kernel
theorem dX4_undo_7 : decode cX4_undo 7 = .ok (.new 229, 3) := by decide +kernel
theorem dX4_undo_10 : decode cX4_undo 10 = .ok (.dup, 1) := by decide +kernel
theorem dX4_undo_11 : decode cX4_undo 11 = .ok (.ldc 245, 2) := by decide +kernel
theorem dX4_undo_13 : decode cX4_undo 13 = .ok (.invokespecial 233, 3) := by decide +kernel
theorem dX4_undo_16 : decode cX4_undo 16 = .ok (.athrow, 1) := by decide +kernel
theorem dX4_undo_17 : decode cX4_undo 17 = .ok (.aload_n 0, 1) := by decide +kernel
theorem dX4_undo_18 : decode cX4_undo 18 = .ok (.aload_n 0, 1) := by decide +kernel
theorem dX4_undo_19 : decode cX4_undo 19 = .ok (.getfield 23, 3) := by decide +kernel
theorem dX4_undo_22 : decode cX4_undo 22 = .ok (.bipush 8, 2) := by decide +kernel
theorem dX4_undo_24 : decode cX4_undo 24 = .ok (.iadd, 1) := by decide +kernel
theorem dX4_undo_25 : decode cX4_undo 25 = .ok (.iconst 1, 1) := by decide +kernel
theorem dX4_undo_26 : decode cX4_undo 26 = .ok (.isub, 1) := by decide +kernel
theorem dX4_undo_27 : decode cX4_undo 27 = .ok (.bipush 8, 2) := by decide +kernel
theorem dX4_undo_29 : decode cX4_undo 29 = .ok (.irem, 1) := by decide +kernel
theorem dX4_undo_30 : decode cX4_undo 30 = .ok (.putfield 23, 3) := by decide +kernel
theorem dX4_undo_33 : decode cX4_undo 33 = .ok (.aload_n 0, 1) := by decide +kernel
theorem dX4_undo_34 : decode cX4_undo 34 = .ok (.dup, 1) := by decide +kernel
theorem dX4_undo_35 : decode cX4_undo 35 = .ok (.getfield 27, 3) := by decide +kernel
theorem dX4_undo_38 : decode cX4_undo 38 = .ok (.iconst 1, 1) := by decide +kernel
theorem dX4_undo_39 : decode cX4_undo 39 = .ok (.isub, 1) := by decide +kernel
theorem dX4_undo_40 : decode cX4_undo 40 = .ok (.putfield 27, 3) := by decide +kernel
theorem dX4_undo_43 : decode cX4_undo 43 = .ok (.aload_n 0, 1) := by decide +kernel
theorem dX4_undo_44 : decode cX4_undo 44 = .ok (.getfield 10, 3) := by decide +kernel
theorem dX4_undo_47 : decode cX4_undo 47 = .ok (.aload_n 0, 1) := by decide +kernel
theorem dX4_undo_48 : decode cX4_undo 48 = .ok (.getfield 19, 3) := by decide +kernel
theorem dX4_undo_51 : decode cX4_undo 51 = .ok (.aload_n 0, 1) := by decide +kernel
theorem dX4_undo_52 : decode cX4_undo 52 = .ok (.getfield 23, 3) := by decide +kernel
theorem dX4_undo_55 : decode cX4_undo 55 = .ok (.aaload, 1) := by decide +kernel
theorem dX4_undo_56 : decode cX4_undo 56 = .ok (.invokevirtual 79, 3) := by decide +kernel
theorem dX4_undo_59 : decode cX4_undo 59 = .ok (.aload_n 0, 1) := by decide +kernel
theorem dX4_undo_60 : decode cX4_undo 60 = .ok (.getfield 27, 3) := by decide +kernel
theorem dX4_undo_63 : decode cX4_undo 63 = .ok (.ireturn, 1) := by decide +kernel
theorem dX4_undoDepth_0 : decode cX4_undoDepth 0 = .ok (.aload_n 0, 1) := by decide +kernel
theorem dX4_undoDepth_1 : decode cX4_undoDepth 1 = .ok (.getfield 27, 3) := by decide +kernel
theorem dX4_undoDepth_4 : decode cX4_undoDepth 4 = .ok (.ireturn, 1) := by decide +kernel
theorem dX4_rememberState_0 : decode cX4_rememberState 0 = .ok (.aload_n 0, 1) := by decide +kernel
theorem dX4_rememberState_1 : decode cX4_rememberState 1 = .ok (.getfield 19, 3) := by decide +kernel
theorem dX4_rememberState_4 : decode cX4_rememberState 4 = .ok (.aload_n 0, 1) := by decide +kernel
theorem dX4_rememberState_5 : decode cX4_rememberState 5 = .ok (.getfield 23, 3) := by decide +kernel
theorem dX4_rememberState_8 : decode cX4_rememberState 8 = .ok (.aaload, 1) := by decide +kernel
theorem dX4_rememberState_9 : decode cX4_rememberState 9 = .ok (.aload_n 0, 1) := by decide +kernel
theorem dX4_rememberState_10 : decode cX4_rememberState 10 = .ok (.getfield 10, 3) := by decide +kernel
theorem dX4_rememberState_13 : decode cX4_rememberState 13 = .ok (.invokevirtual 79, 3) := by decide +kernel
theorem dX4_rememberState_16 : decode cX4_rememberState 16 = .ok (.aload_n 0, 1) := by decide +kernel
theorem dX4_rememberState_17 : decode cX4_rememberState 17 = .ok (.aload_n 0, 1) := by decide +kernel
theorem dX4_rememberState_18 : decode cX4_rememberState 18 = .ok (.getfield 23, 3) := by decide +kernel
theorem dX4_rememberState_21 : decode cX4_rememberState 21 = .ok (.iconst 1, 1) := by decide +kernel
theorem dX4_rememberState_22 : decode cX4_rememberState 22 = .ok (.iadd, 1) := by decide +kernel
theorem dX4_rememberState_23 : decode cX4_rememberState 23 = .ok (.bipush 8, 2) := by decide +kernel
theorem dX4_rememberState_25 : decode cX4_rememberState 25 = .ok (.irem, 1) := by decide +kernel
theorem dX4_rememberState_26 : decode cX4_rememberState 26 = .ok (.putfield 23, 3) := by decide +kernel
theorem dX4_rememberState_29 : decode cX4_rememberState 29 = .ok (.aload_n 0, 1) := by decide +kernel
theorem dX4_rememberState_30 : decode cX4_rememberState 30 = .ok (.aload_n 0, 1) := by decide +kernel
theorem dX4_rememberState_31 : decode cX4_rememberState 31 = .ok (.getfield 27, 3) := by decide +kernel
theorem dX4_rememberState_34 : decode cX4_rememberState 34 = .ok (.iconst 1, 1) := by decide +kernel
theorem dX4_rememberState_35 : decode cX4_rememberState 35 = .ok (.iadd, 1) := by decide +kernel
theorem dX4_rememberState_36 : decode cX4_rememberState 36 = .ok (.bipush 8, 2) := by decide +kernel
theorem dX4_rememberState_38 : decode cX4_rememberState 38 = .ok (.invokestatic 247, 3) := by decide +kernel
theorem dX4_rememberState_41 : decode cX4_rememberState 41 = .ok (.putfield 27, 3) := by decide +kernel
theorem dX4_rememberState_44 : decode cX4_rememberState 44 = .ok (.return_, 1) := by decide +kernel
theorem dX4_save_0 : decode cX4_save 0 = .ok (.aload_n 0, 1) := by decide +kernel
theorem dX4_save_1 : decode cX4_save 1 = .ok (.iload_n 1, 1) := by decide +kernel
theorem dX4_save_2 : decode cX4_save 2 = .ok (.invokevirtual 250, 3) := by decide +kernel
theorem dX4_save_5 : decode cX4_save 5 = .ok (.aload_n 0, 1) := by decide +kernel
theorem dX4_save_6 : decode cX4_save 6 = .ok (.getfield 33, 3) := by decide +kernel
theorem dX4_save_9 : decode cX4_save 9 = .ok (.iload_n 1, 1) := by decide +kernel
theorem dX4_save_10 : decode cX4_save 10 = .ok (.baload, 1) := by decide +kernel
theorem dX4_save_11 : decode cX4_save 11 = .ok (.ifCond .ne 7, 3) := by decide +kernel
theorem dX4_save_14 : decode cX4_save 14 = .ok (.iconst 1, 1) := by decide +kernel
theorem dX4_save_15 : decode cX4_save 15 = .ok (.goto 4, 3) := by decide +kernel
theorem dX4_save_18 : decode cX4_save 18 = .ok (.iconst 0, 1) := by decide +kernel
theorem dX4_save_19 : decode cX4_save 19 = .ok (.istore_n 2, 1) := by decide +kernel
theorem dX4_save_20 : decode cX4_save 20 = .ok (.aload_n 0, 1) := by decide +kernel
theorem dX4_save_21 : decode cX4_save 21 = .ok (.getfield 30, 3) := by decide +kernel
theorem dX4_save_24 : decode cX4_save 24 = .ok (.iload_n 1, 1) := by decide +kernel
theorem dX4_save_25 : decode cX4_save 25 = .ok (.aaload, 1) := by decide +kernel
theorem dX4_save_26 : decode cX4_save 26 = .ok (.aload_n 0, 1) := by decide +kernel
theorem dX4_save_27 : decode cX4_save 27 = .ok (.getfield 10, 3) := by decide +kernel
theorem dX4_save_30 : decode cX4_save 30 = .ok (.invokevirtual 79, 3) := by decide +kernel
theorem dX4_save_33 : decode cX4_save 33 = .ok (.aload_n 0, 1) := by decide +kernel
theorem dX4_save_34 : decode cX4_save 34 = .ok (.getfield 33, 3) := by decide +kernel
theorem dX4_save_37 : decode cX4_save 37 = .ok (.iload_n 1, 1) := by decide +kernel
theorem dX4_save_38 : decode cX4_save 38 = .ok (.iconst 1, 1) := by decide +kernel
theorem dX4_save_39 : decode cX4_save 39 = .ok (.bastore, 1) := by decide +kernel
theorem dX4_save_40 : decode cX4_save 40 = .ok (.iload_n 2, 1) := by decide +kernel
theorem dX4_save_41 : decode cX4_save 41 = .ok (.ireturn, 1) := by decide +kernel
theorem dX4_restore_0 : decode cX4_restore 0 = .ok (.aload_n 0, 1) := by decide +kernel
theorem dX4_restore_1 : decode cX4_restore 1 = .ok (.iload_n 1, 1) := by decide +kernel
theorem dX4_restore_2 : decode cX4_restore 2 = .ok (.invokevirtual 250, 3) := by decide +kernel
theorem dX4_restore_5 : decode cX4_restore 5 = .ok (.aload_n 0, 1) := by decide +kernel
theorem dX4_restore_6 : decode cX4_restore 6 = .ok (.getfield 33, 3) := by decide +kernel
theorem dX4_restore_9 : decode cX4_restore 9 = .ok (.iload_n 1, 1) := by decide +kernel
theorem dX4_restore_10 : decode cX4_restore 10 = .ok (.baload, 1) := by decide +kernel
theorem dX4_restore_11 : decode cX4_restore 11 = .ok (.ifCond .ne 13, 3) := by decide +kernel
theorem dX4_restore_14 : decode cX4_restore 14 = .ok (.new 229, 3) := by decide +kernel
theorem dX4_restore_17 : decode cX4_restore 17 = .ok (.dup, 1) := by decide +kernel
theorem dX4_restore_18 : decode cX4_restore 18 = .ok (.ldc 253, 2) := by decide +kernel
theorem dX4_restore_20 : decode cX4_restore 20 = .ok (.invokespecial 233, 3) := by decide +kernel
theorem dX4_restore_23 : decode cX4_restore 23 = .ok (.athrow, 1) := by decide +kernel
theorem dX4_restore_24 : decode cX4_restore 24 = .ok (.aload_n 0, 1) := by decide +kernel
theorem dX4_restore_25 : decode cX4_restore 25 = .ok (.getfield 10, 3) := by decide +kernel
theorem dX4_restore_28 : decode cX4_restore 28 = .ok (.aload_n 0, 1) := by decide +kernel
theorem dX4_restore_29 : decode cX4_restore 29 = .ok (.getfield 30, 3) := by decide +kernel
theorem dX4_restore_32 : decode cX4_restore 32 = .ok (.iload_n 1, 1) := by decide +kernel
theorem dX4_restore_33 : decode cX4_restore 33 = .ok (.aaload, 1) := by decide +kernel
theorem dX4_restore_34 : decode cX4_restore 34 = .ok (.invokevirtual 79, 3) := by decide +kernel
theorem dX4_restore_37 : decode cX4_restore 37 = .ok (.aload_n 0, 1) := by decide +kernel
theorem dX4_restore_38 : decode cX4_restore 38 = .ok (.iconst 0, 1) := by decide +kernel
theorem dX4_restore_39 : decode cX4_restore 39 = .ok (.putfield 27, 3) := by decide +kernel
theorem dX4_restore_42 : decode cX4_restore 42 = .ok (.aload_n 0, 1) := by decide +kernel
theorem dX4_restore_43 : decode cX4_restore 43 = .ok (.getfield 10, 3) := by decide +kernel
theorem dX4_restore_46 : decode cX4_restore 46 = .ok (.getfield 109, 3) := by decide +kernel
theorem dX4_restore_49 : decode cX4_restore 49 = .ok (.ireturn, 1) := by decide +kernel
theorem dX4_writeStatus_0 : decode cX4_writeStatus 0 = .ok (.aload_n 0, 1) := by decide +kernel
theorem dX4_writeStatus_1 : decode cX4_writeStatus 1 = .ok (.iconst 0, 1) := by decide +kernel
theorem dX4_writeStatus_2 : decode cX4_writeStatus 2 = .ok (.putfield 54, 3) := by decide +kernel
theorem dX4_writeStatus_5 : decode cX4_writeStatus 5 = .ok (.iconst 0, 1) := by decide +kernel
theorem dX4_writeStatus_6 : decode cX4_writeStatus 6 = .ok (.istore_n 1, 1) := by decide +kernel
theorem dX4_writeStatus_7 : decode cX4_writeStatus 7 = .ok (.iload_n 1, 1) := by decide +kernel
theorem dX4_writeStatus_8 : decode cX4_writeStatus 8 = .ok (.aload_n 0, 1) := by decide +kernel
theorem dX4_writeStatus_9 : decode cX4_writeStatus 9 = .ok (.getfield 10, 3) := by decide +kernel
theorem dX4_writeStatus_12 : decode cX4_writeStatus 12 = .ok (.getfield 83, 3) := by decide +kernel
theorem dX4_writeStatus_15 : decode cX4_writeStatus 15 = .ok (.if_icmp .ge 24, 3) := by decide +kernel
theorem dX4_writeStatus_18 : decode cX4_writeStatus 18 = .ok (.aload_n 0, 1) := by decide +kernel
theorem dX4_writeStatus_19 : decode cX4_writeStatus 19 = .ok (.aload_n 0, 1) := by decide +kernel
theorem dX4_writeStatus_20 : decode cX4_writeStatus 20 = .ok (.getfield 10, 3) := by decide +kernel
theorem dX4_writeStatus_23 : decode cX4_writeStatus 23 = .ok (.iload_n 1, 1) := by decide +kernel
theorem dX4_writeStatus_24 : decode cX4_writeStatus 24 = .ok (.invokevirtual 148, 3) := by decide +kernel
theorem dX4_writeStatus_27 : decode cX4_writeStatus 27 = .ok (.invokestatic 255, 3) := by decide +kernel
theorem dX4_writeStatus_30 : decode cX4_writeStatus 30 = .ok (.invokevirtual 258, 3) := by decide +kernel
theorem dX4_writeStatus_33 : decode cX4_writeStatus 33 = .ok (.iinc 1 1, 3) := by decide +kernel
theorem dX4_writeStatus_36 : decode cX4_writeStatus 36 = .ok (.goto (-29), 3) := by decide +kernel
theorem dX4_writeStatus_39 : decode cX4_writeStatus 39 = .ok (.aload_n 0, 1) := by decide +kernel
theorem dX4_writeStatus_40 : decode cX4_writeStatus 40 = .ok (.getfield 54, 3) := by decide +kernel
theorem dX4_writeStatus_43 : decode cX4_writeStatus 43 = .ok (.ireturn, 1) := by decide +kernel
theorem dX4_writeBuilding_0 : decode cX4_writeBuilding 0 = .ok (.aload_n 0, 1) := by decide +kernel
theorem dX4_writeBuilding_1 : decode cX4_writeBuilding 1 = .ok (.iconst 0, 1) := by decide +kernel
theorem dX4_writeBuilding_2 : decode cX4_writeBuilding 2 = .ok (.putfield 54, 3) := by decide +kernel
theorem dX4_writeBuilding_5 : decode cX4_writeBuilding 5 = .ok (.iconst 0, 1) := by decide +kernel
theorem dX4_writeBuilding_6 : decode cX4_writeBuilding 6 = .ok (.istore_n 1, 1) := by decide +kernel
theorem dX4_writeBuilding_7 : decode cX4_writeBuilding 7 = .ok (.iload_n 1, 1) := by decide +kernel
theorem dX4_writeBuilding_8 : decode cX4_writeBuilding 8 = .ok (.aload_n 0, 1) := by decide +kernel
theorem dX4_writeBuilding_9 : decode cX4_writeBuilding 9 = .ok (.getfield 10, 3) := by decide +kernel
theorem dX4_writeBuilding_12 : decode cX4_writeBuilding 12 = .ok (.getfield 100, 3) := by decide +kernel
theorem dX4_writeBuilding_15 : decode cX4_writeBuilding 15 = .ok (.if_icmp .ge 59, 3) := by decide +kernel
theorem dX4_writeBuilding_18 : decode cX4_writeBuilding 18 = .ok (.iload_n 1, 1) := by decide +kernel
theorem dX4_writeBuilding_19 : decode cX4_writeBuilding 19 = .ok (.ifCond .le 9, 3) := by decide +kernel
theorem dX4_writeBuilding_22 : decode cX4_writeBuilding 22 = .ok (.aload_n 0, 1) := by decide +kernel
theorem dX4_writeBuilding_23 : decode cX4_writeBuilding 23 = .ok (.bipush 44, 2) := by decide +kernel
theorem dX4_writeBuilding_25 : decode cX4_writeBuilding 25 = .ok (.invokevirtual 258, 3) := by decide +kernel
theorem dX4_writeBuilding_28 : decode cX4_writeBuilding 28 = .ok (.aload_n 0, 1) := by decide +kernel
theorem dX4_writeBuilding_29 : decode cX4_writeBuilding 29 = .ok (.aload_n 0, 1) := by decide +kernel
theorem dX4_writeBuilding_30 : decode cX4_writeBuilding 30 = .ok (.getfield 10, 3) := by decide +kernel
theorem dX4_writeBuilding_33 : decode cX4_writeBuilding 33 = .ok (.iload_n 1, 1) := by decide +kernel
theorem dX4_writeBuilding_34 : decode cX4_writeBuilding 34 = .ok (.invokevirtual 186, 3) := by decide +kernel
theorem dX4_writeBuilding_37 : decode cX4_writeBuilding 37 = .ok (.invokevirtual 261, 3) := by decide +kernel
theorem dX4_writeBuilding_40 : decode cX4_writeBuilding 40 = .ok (.iload_n 1, 1) := by decide +kernel
theorem dX4_writeBuilding_41 : decode cX4_writeBuilding 41 = .ok (.aload_n 0, 1) := by decide +kernel
theorem dX4_writeBuilding_42 : decode cX4_writeBuilding 42 = .ok (.getfield 10, 3) := by decide +kernel
theorem dX4_writeBuilding_45 : decode cX4_writeBuilding 45 = .ok (.getfield 112, 3) := by decide +kernel
theorem dX4_writeBuilding_48 : decode cX4_writeBuilding 48 = .ok (.if_icmp .ne 20, 3) := by decide +kernel
theorem dX4_writeBuilding_51 : decode cX4_writeBuilding 51 = .ok (.aload_n 0, 1) := by decide +kernel
theorem dX4_writeBuilding_52 : decode cX4_writeBuilding 52 = .ok (.bipush 42, 2) := by decide +kernel
theorem dX4_writeBuilding_54 : decode cX4_writeBuilding 54 = .ok (.invokevirtual 258, 3) := by decide +kernel
theorem dX4_writeBuilding_57 : decode cX4_writeBuilding 57 = .ok (.aload_n 0, 1) := by decide +kernel
theorem dX4_writeBuilding_58 : decode cX4_writeBuilding 58 = .ok (.aload_n 0, 1) := by decide +kernel
theorem dX4_writeBuilding_59 : decode cX4_writeBuilding 59 = .ok (.getfield 10, 3) := by decide +kernel
theorem dX4_writeBuilding_62 : decode cX4_writeBuilding 62 = .ok (.getfield 119, 3) := by decide +kernel
theorem dX4_writeBuilding_65 : decode cX4_writeBuilding 65 = .ok (.invokevirtual 261, 3) := by decide +kernel
theorem dX4_writeBuilding_68 : decode cX4_writeBuilding 68 = .ok (.iinc 1 1, 3) := by decide +kernel
theorem dX4_writeBuilding_71 : decode cX4_writeBuilding 71 = .ok (.goto (-64), 3) := by decide +kernel
theorem dX4_writeBuilding_74 : decode cX4_writeBuilding 74 = .ok (.aload_n 0, 1) := by decide +kernel
theorem dX4_writeBuilding_75 : decode cX4_writeBuilding 75 = .ok (.getfield 54, 3) := by decide +kernel
theorem dX4_writeBuilding_78 : decode cX4_writeBuilding 78 = .ok (.ireturn, 1) := by decide +kernel
theorem dX4_outputByte_0 : decode cX4_outputByte 0 = .ok (.iload_n 1, 1) := by decide +kernel
theorem dX4_outputByte_1 : decode cX4_outputByte 1 = .ok (.ifCond .lt 11, 3) := by decide +kernel
theorem dX4_outputByte_4 : decode cX4_outputByte 4 = .ok (.iload_n 1, 1) := by decide +kernel
theorem dX4_outputByte_5 : decode cX4_outputByte 5 = .ok (.aload_n 0, 1) := by decide +kernel
theorem dX4_outputByte_6 : decode cX4_outputByte 6 = .ok (.getfield 54, 3) := by decide +kernel
theorem dX4_outputByte_9 : decode cX4_outputByte 9 = .ok (.if_icmp .lt 5, 3) := by decide +kernel
theorem dX4_outputByte_12 : decode cX4_outputByte 12 = .ok (.iconst (-1), 1) := by decide +kernel
theorem dX4_outputByte_13 : decode cX4_outputByte 13 = .ok (.ireturn, 1) := by decide +kernel
theorem dX4_outputByte_14 : decode cX4_outputByte 14 = .ok (.aload_n 0, 1) := by decide +kernel
theorem dX4_outputByte_15 : decode cX4_outputByte 15 = .ok (.getfield 51, 3) := by decide +kernel
theorem dX4_outputByte_18 : decode cX4_outputByte 18 = .ok (.iload_n 1, 1) := by decide +kernel
theorem dX4_outputByte_19 : decode cX4_outputByte 19 = .ok (.baload, 1) := by decide +kernel
theorem dX4_outputByte_20 : decode cX4_outputByte 20 = .ok (.ireturn, 1) := by decide +kernel
theorem dX4_letterOf_0 : decode cX4_letterOf 0 = .ok (.iload_n 0, 1) := by decide +kernel
theorem dX4_letterOf_1 : decode cX4_letterOf 1 = .ok (.tableswitch 36 1 3 #[27, 30, 33], 27) := by decide +kernel
theorem dX4_letterOf_28 : decode cX4_letterOf 28 = .ok (.bipush 119, 2) := by decide +kernel
theorem dX4_letterOf_30 : decode cX4_letterOf 30 = .ok (.ireturn, 1) := by decide +kernel
theorem dX4_letterOf_31 : decode cX4_letterOf 31 = .ok (.bipush 114, 2) := by decide +kernel
theorem dX4_letterOf_33 : decode cX4_letterOf 33 = .ok (.ireturn, 1) := by decide +kernel
theorem dX4_letterOf_34 : decode cX4_letterOf 34 = .ok (.bipush 100, 2) := by decide +kernel
theorem dX4_letterOf_36 : decode cX4_letterOf 36 = .ok (.ireturn, 1) := by decide +kernel
theorem dX4_letterOf_37 : decode cX4_letterOf 37 = .ok (.bipush 46, 2) := by decide +kernel
theorem dX4_letterOf_39 : decode cX4_letterOf 39 = .ok (.ireturn, 1) := by decide +kernel
theorem dX4_writeNumber_0 : decode cX4_writeNumber 0 = .ok (.iload_n 1, 1) := by decide +kernel
theorem dX4_writeNumber_1 : decode cX4_writeNumber 1 = .ok (.bipush 10, 2) := by decide +kernel
theorem dX4_writeNumber_3 : decode cX4_writeNumber 3 = .ok (.if_icmp .lt 14, 3) := by decide +kernel
theorem dX4_writeNumber_6 : decode cX4_writeNumber 6 = .ok (.aload_n 0, 1) := by decide +kernel
theorem dX4_writeNumber_7 : decode cX4_writeNumber 7 = .ok (.bipush 48, 2) := by decide +kernel
theorem dX4_writeNumber_9 : decode cX4_writeNumber 9 = .ok (.iload_n 1, 1) := by decide +kernel
theorem dX4_writeNumber_10 : decode cX4_writeNumber 10 = .ok (.bipush 10, 2) := by decide +kernel
theorem dX4_writeNumber_12 : decode cX4_writeNumber 12 = .ok (.idiv, 1) := by decide +kernel
theorem dX4_writeNumber_13 : decode cX4_writeNumber 13 = .ok (.iadd, 1) := by decide +kernel
theorem dX4_writeNumber_14 : decode cX4_writeNumber 14 = .ok (.invokevirtual 258, 3) := by decide +kernel
theorem dX4_writeNumber_17 : decode cX4_writeNumber 17 = .ok (.aload_n 0, 1) := by decide +kernel
theorem dX4_writeNumber_18 : decode cX4_writeNumber 18 = .ok (.bipush 48, 2) := by decide +kernel
theorem dX4_writeNumber_20 : decode cX4_writeNumber 20 = .ok (.iload_n 1, 1) := by decide +kernel
theorem dX4_writeNumber_21 : decode cX4_writeNumber 21 = .ok (.bipush 10, 2) := by decide +kernel
theorem dX4_writeNumber_23 : decode cX4_writeNumber 23 = .ok (.irem, 1) := by decide +kernel
theorem dX4_writeNumber_24 : decode cX4_writeNumber 24 = .ok (.iadd, 1) := by decide +kernel
theorem dX4_writeNumber_25 : decode cX4_writeNumber 25 = .ok (.invokevirtual 258, 3) := by decide +kernel
theorem dX4_writeNumber_28 : decode cX4_writeNumber 28 = .ok (.return_, 1) := by decide +kernel
theorem dX4_writeByte_0 : decode cX4_writeByte 0 = .ok (.aload_n 0, 1) := by decide +kernel
theorem dX4_writeByte_1 : decode cX4_writeByte 1 = .ok (.getfield 54, 3) := by decide +kernel
theorem dX4_writeByte_4 : decode cX4_writeByte 4 = .ok (.bipush 64, 2) := by decide +kernel
theorem dX4_writeByte_6 : decode cX4_writeByte 6 = .ok (.if_icmp .ge 24, 3) := by decide +kernel
theorem dX4_writeByte_9 : decode cX4_writeByte 9 = .ok (.aload_n 0, 1) := by decide +kernel
theorem dX4_writeByte_10 : decode cX4_writeByte 10 = .ok (.getfield 51, 3) := by decide +kernel
theorem dX4_writeByte_13 : decode cX4_writeByte 13 = .ok (.aload_n 0, 1) := by decide +kernel
theorem dX4_writeByte_14 : decode cX4_writeByte 14 = .ok (.getfield 54, 3) := by decide +kernel
theorem dX4_writeByte_17 : decode cX4_writeByte 17 = .ok (.iload_n 1, 1) := by decide +kernel
theorem dX4_writeByte_18 : decode cX4_writeByte 18 = .ok (.i2b, 1) := by decide +kernel
theorem dX4_writeByte_19 : decode cX4_writeByte 19 = .ok (.bastore, 1) := by decide +kernel
theorem dX4_writeByte_20 : decode cX4_writeByte 20 = .ok (.aload_n 0, 1) := by decide +kernel
theorem dX4_writeByte_21 : decode cX4_writeByte 21 = .ok (.dup, 1) := by decide +kernel
theorem dX4_writeByte_22 : decode cX4_writeByte 22 = .ok (.getfield 54, 3) := by decide +kernel
theorem dX4_writeByte_25 : decode cX4_writeByte 25 = .ok (.iconst 1, 1) := by decide +kernel
theorem dX4_writeByte_26 : decode cX4_writeByte 26 = .ok (.iadd, 1) := by decide +kernel
theorem dX4_writeByte_27 : decode cX4_writeByte 27 = .ok (.putfield 54, 3) := by decide +kernel
theorem dX4_writeByte_30 : decode cX4_writeByte 30 = .ok (.return_, 1) := by decide +kernel
theorem dX4_requirePassenger_0 : decode cX4_requirePassenger 0 = .ok (.iload_n 1, 1) := by decide +kernel
theorem dX4_requirePassenger_1 : decode cX4_requirePassenger 1 = .ok (.ifCond .lt 14, 3) := by decide +kernel
theorem dX4_requirePassenger_4 : decode cX4_requirePassenger 4 = .ok (.iload_n 1, 1) := by decide +kernel
theorem dX4_requirePassenger_5 : decode cX4_requirePassenger 5 = .ok (.aload_n 0, 1) := by decide +kernel
theorem dX4_requirePassenger_6 : decode cX4_requirePassenger 6 = .ok (.getfield 10, 3) := by decide +kernel
theorem dX4_requirePassenger_9 : decode cX4_requirePassenger 9 = .ok (.getfield 83, 3) := by decide +kernel
theorem dX4_requirePassenger_12 : decode cX4_requirePassenger 12 = .ok (.if_icmp .lt 14, 3) := by decide +kernel
theorem dX4_requirePassenger_15 : decode cX4_requirePassenger 15 = .ok (.new 264, 3) := by decide +kernel
theorem dX4_requirePassenger_18 : decode cX4_requirePassenger 18 = .ok (.dup, 1) := by decide +kernel
theorem dX4_requirePassenger_19 : decode cX4_requirePassenger 19 = .ok (.ldc_w 266, 3) := by decide +kernel
theorem dX4_requirePassenger_22 : decode cX4_requirePassenger 22 = .ok (.invokespecial 268, 3) := by decide +kernel
theorem dX4_requirePassenger_25 : decode cX4_requirePassenger 25 = .ok (.athrow, 1) := by decide +kernel
theorem dX4_requirePassenger_26 : decode cX4_requirePassenger 26 = .ok (.return_, 1) := by decide +kernel
theorem dX4_requireFloor_0 : decode cX4_requireFloor 0 = .ok (.iload_n 1, 1) := by decide +kernel
theorem dX4_requireFloor_1 : decode cX4_requireFloor 1 = .ok (.ifCond .lt 14, 3) := by decide +kernel
theorem dX4_requireFloor_4 : decode cX4_requireFloor 4 = .ok (.iload_n 1, 1) := by decide +kernel
theorem dX4_requireFloor_5 : decode cX4_requireFloor 5 = .ok (.aload_n 0, 1) := by decide +kernel
theorem dX4_requireFloor_6 : decode cX4_requireFloor 6 = .ok (.getfield 10, 3) := by decide +kernel
theorem dX4_requireFloor_9 : decode cX4_requireFloor 9 = .ok (.getfield 100, 3) := by decide +kernel
theorem dX4_requireFloor_12 : decode cX4_requireFloor 12 = .ok (.if_icmp .lt 14, 3) := by decide +kernel
theorem dX4_requireFloor_15 : decode cX4_requireFloor 15 = .ok (.new 264, 3) := by decide +kernel
theorem dX4_requireFloor_18 : decode cX4_requireFloor 18 = .ok (.dup, 1) := by decide +kernel
theorem dX4_requireFloor_19 : decode cX4_requireFloor 19 = .ok (.ldc_w 269, 3) := by decide +kernel
theorem dX4_requireFloor_22 : decode cX4_requireFloor 22 = .ok (.invokespecial 268, 3) := by decide +kernel
theorem dX4_requireFloor_25 : decode cX4_requireFloor 25 = .ok (.athrow, 1) := by decide +kernel
theorem dX4_requireFloor_26 : decode cX4_requireFloor 26 = .ok (.return_, 1) := by decide +kernel
theorem dX4_requirePolicy_0 : decode cX4_requirePolicy 0 = .ok (.iload_n 1, 1) := by decide +kernel
theorem dX4_requirePolicy_1 : decode cX4_requirePolicy 1 = .ok (.ifCond .lt 8, 3) := by decide +kernel
theorem dX4_requirePolicy_4 : decode cX4_requirePolicy 4 = .ok (.iload_n 1, 1) := by decide +kernel
theorem dX4_requirePolicy_5 : decode cX4_requirePolicy 5 = .ok (.iconst 2, 1) := by decide +kernel
theorem dX4_requirePolicy_6 : decode cX4_requirePolicy 6 = .ok (.if_icmp .le 14, 3) := by decide +kernel
theorem dX4_requirePolicy_9 : decode cX4_requirePolicy 9 = .ok (.new 72, 3) := by decide +kernel
theorem dX4_requirePolicy_12 : decode cX4_requirePolicy 12 = .ok (.dup, 1) := by decide +kernel
theorem dX4_requirePolicy_13 : decode cX4_requirePolicy 13 = .ok (.ldc_w 271, 3) := by decide +kernel
theorem dX4_requirePolicy_16 : decode cX4_requirePolicy 16 = .ok (.invokespecial 76, 3) := by decide +kernel
theorem dX4_requirePolicy_19 : decode cX4_requirePolicy 19 = .ok (.athrow, 1) := by decide +kernel
theorem dX4_requirePolicy_20 : decode cX4_requirePolicy 20 = .ok (.return_, 1) := by decide +kernel
theorem dX4_requireCapacity_0 : decode cX4_requireCapacity 0 = .ok (.iload_n 1, 1) := by decide +kernel
theorem dX4_requireCapacity_1 : decode cX4_requireCapacity 1 = .ok (.iconst 1, 1) := by decide +kernel
theorem dX4_requireCapacity_2 : decode cX4_requireCapacity 2 = .ok (.if_icmp .lt 9, 3) := by decide +kernel
theorem dX4_requireCapacity_5 : decode cX4_requireCapacity 5 = .ok (.iload_n 1, 1) := by decide +kernel
theorem dX4_requireCapacity_6 : decode cX4_requireCapacity 6 = .ok (.bipush 8, 2) := by decide +kernel
theorem dX4_requireCapacity_8 : decode cX4_requireCapacity 8 = .ok (.if_icmp .le 14, 3) := by decide +kernel
theorem dX4_requireCapacity_11 : decode cX4_requireCapacity 11 = .ok (.new 72, 3) := by decide +kernel
theorem dX4_requireCapacity_14 : decode cX4_requireCapacity 14 = .ok (.dup, 1) := by decide +kernel
theorem dX4_requireCapacity_15 : decode cX4_requireCapacity 15 = .ok (.ldc_w 273, 3) := by decide +kernel
theorem dX4_requireCapacity_18 : decode cX4_requireCapacity 18 = .ok (.invokespecial 76, 3) := by decide +kernel
theorem dX4_requireCapacity_21 : decode cX4_requireCapacity 21 = .ok (.athrow, 1) := by decide +kernel
theorem dX4_requireCapacity_22 : decode cX4_requireCapacity 22 = .ok (.aload_n 0, 1) := by decide +kernel
theorem dX4_requireCapacity_23 : decode cX4_requireCapacity 23 = .ok (.getfield 10, 3) := by decide +kernel
theorem dX4_requireCapacity_26 : decode cX4_requireCapacity 26 = .ok (.getfield 119, 3) := by decide +kernel
theorem dX4_requireCapacity_29 : decode cX4_requireCapacity 29 = .ok (.iload_n 1, 1) := by decide +kernel
theorem dX4_requireCapacity_30 : decode cX4_requireCapacity 30 = .ok (.if_icmp .le 14, 3) := by decide +kernel
theorem dX4_requireCapacity_33 : decode cX4_requireCapacity 33 = .ok (.new 229, 3) := by decide +kernel
theorem dX4_requireCapacity_36 : decode cX4_requireCapacity 36 = .ok (.dup, 1) := by decide +kernel
theorem dX4_requireCapacity_37 : decode cX4_requireCapacity 37 = .ok (.ldc_w 275, 3) := by decide +kernel
theorem dX4_requireCapacity_40 : decode cX4_requireCapacity 40 = .ok (.invokespecial 233, 3) := by decide +kernel
theorem dX4_requireCapacity_43 : decode cX4_requireCapacity 43 = .ok (.athrow, 1) := by decide +kernel
theorem dX4_requireCapacity_44 : decode cX4_requireCapacity 44 = .ok (.return_, 1) := by decide +kernel
theorem dX4_requireSlot_0 : decode cX4_requireSlot 0 = .ok (.iload_n 1, 1) := by decide +kernel
theorem dX4_requireSlot_1 : decode cX4_requireSlot 1 = .ok (.ifCond .lt 8, 3) := by decide +kernel
theorem dX4_requireSlot_4 : decode cX4_requireSlot 4 = .ok (.iload_n 1, 1) := by decide +kernel
theorem dX4_requireSlot_5 : decode cX4_requireSlot 5 = .ok (.iconst 2, 1) := by decide +kernel
theorem dX4_requireSlot_6 : decode cX4_requireSlot 6 = .ok (.if_icmp .lt 14, 3) := by decide +kernel
theorem dX4_requireSlot_9 : decode cX4_requireSlot 9 = .ok (.new 264, 3) := by decide +kernel
theorem dX4_requireSlot_12 : decode cX4_requireSlot 12 = .ok (.dup, 1) := by decide +kernel
theorem dX4_requireSlot_13 : decode cX4_requireSlot 13 = .ok (.ldc_w 277, 3) := by decide +kernel
theorem dX4_requireSlot_16 : decode cX4_requireSlot 16 = .ok (.invokespecial 268, 3) := by decide +kernel
theorem dX4_requireSlot_19 : decode cX4_requireSlot 19 = .ok (.athrow, 1) := by decide +kernel
theorem dX4_requireSlot_20 : decode cX4_requireSlot 20 = .ok (.return_, 1) := by decide +kernel
theorem dX5_init_0 : decode cX5_init 0 = .ok (.aload_n 0, 1) := by decide +kernel
theorem dX5_init_1 : decode cX5_init 1 = .ok (.invokespecial 1, 3) := by decide +kernel
theorem dX5_init_4 : decode cX5_init 4 = .ok (.aload_n 0, 1) := by decide +kernel
theorem dX5_init_5 : decode cX5_init 5 = .ok (.sipush 211, 3) := by decide +kernel
theorem dX5_init_8 : decode cX5_init 8 = .ok (.newarray .int, 2) := by decide +kernel
theorem dX5_init_10 : decode cX5_init 10 = .ok (.putfield 7, 3) := by decide +kernel
theorem dX5_init_13 : decode cX5_init 13 = .ok (.aload_n 0, 1) := by decide +kernel
theorem dX5_init_14 : decode cX5_init 14 = .ok (.sipush 2532, 3) := by decide +kernel
theorem dX5_init_17 : decode cX5_init 17 = .ok (.newarray .int, 2) := by decide +kernel
theorem dX5_init_19 : decode cX5_init 19 = .ok (.putfield 13, 3) := by decide +kernel
theorem dX5_init_22 : decode cX5_init 22 = .ok (.aload_n 0, 1) := by decide +kernel
theorem dX5_init_23 : decode cX5_init 23 = .ok (.sipush 500, 3) := by decide +kernel
theorem dX5_init_26 : decode cX5_init 26 = .ok (.newarray .byte, 2) := by decide +kernel
theorem dX5_init_28 : decode cX5_init 28 = .ok (.putfield 16, 3) := by decide +kernel
theorem dX5_init_31 : decode cX5_init 31 = .ok (.aload_n 0, 1) := by decide +kernel
theorem dX5_init_32 : decode cX5_init 32 = .ok (.iconst (-1), 1) := by decide +kernel
theorem dX5_init_33 : decode cX5_init 33 = .ok (.putfield 20, 3) := by decide +kernel
theorem dX5_init_36 : decode cX5_init 36 = .ok (.aload_n 0, 1) := by decide +kernel
theorem dX5_init_37 : decode cX5_init 37 = .ok (.bipush 80, 2) := by decide +kernel
theorem dX5_init_39 : decode cX5_init 39 = .ok (.newarray .byte, 2) := by decide +kernel
theorem dX5_init_41 : decode cX5_init 41 = .ok (.putfield 24, 3) := by decide +kernel
theorem dX5_init_44 : decode cX5_init 44 = .ok (.aload_n 0, 1) := by decide +kernel
theorem dX5_init_45 : decode cX5_init 45 = .ok (.getfield 7, 3) := by decide +kernel
theorem dX5_init_48 : decode cX5_init 48 = .ok (.iconst 0, 1) := by decide +kernel
theorem dX5_init_49 : decode cX5_init 49 = .ok (.bipush 10, 2) := by decide +kernel
theorem dX5_init_51 : decode cX5_init 51 = .ok (.iastore, 1) := by decide +kernel
theorem dX5_init_52 : decode cX5_init 52 = .ok (.aload_n 0, 1) := by decide +kernel
theorem dX5_init_53 : decode cX5_init 53 = .ok (.getfield 7, 3) := by decide +kernel
theorem dX5_init_56 : decode cX5_init 56 = .ok (.iconst 1, 1) := by decide +kernel
theorem dX5_init_57 : decode cX5_init 57 = .ok (.iconst 4, 1) := by decide +kernel
theorem dX5_init_58 : decode cX5_init 58 = .ok (.iastore, 1) := by decide +kernel
theorem dX5_init_59 : decode cX5_init 59 = .ok (.aload_n 0, 1) := by decide +kernel
theorem dX5_init_60 : decode cX5_init 60 = .ok (.getfield 7, 3) := by decide +kernel
theorem dX5_init_63 : decode cX5_init 63 = .ok (.iconst 2, 1) := by decide +kernel
theorem dX5_init_64 : decode cX5_init 64 = .ok (.iconst 2, 1) := by decide +kernel
theorem dX5_init_65 : decode cX5_init 65 = .ok (.iastore, 1) := by decide +kernel
theorem dX5_init_66 : decode cX5_init 66 = .ok (.aload_n 0, 1) := by decide +kernel
theorem dX5_init_67 : decode cX5_init 67 = .ok (.getfield 7, 3) := by decide +kernel
theorem dX5_init_70 : decode cX5_init 70 = .ok (.iconst 5, 1) := by decide +kernel
theorem dX5_init_71 : decode cX5_init 71 = .ok (.iconst 1, 1) := by decide +kernel
theorem dX5_init_72 : decode cX5_init 72 = .ok (.iastore, 1) := by decide +kernel
theorem dX5_init_73 : decode cX5_init 73 = .ok (.return_, 1) := by decide +kernel
theorem dX5_thrown_0 : decode cX5_thrown 0 = .ok (.aload_n 0, 1) := by decide +kernel
theorem dX5_thrown_1 : decode cX5_thrown 1 = .ok (.getfield 27, 3) := by decide +kernel
theorem dX5_thrown_4 : decode cX5_thrown 4 = .ok (.ireturn, 1) := by decide +kernel
theorem dX5_inRange_0 : decode cX5_inRange 0 = .ok (.iload_n 0, 1) := by decide +kernel
theorem dX5_inRange_1 : decode cX5_inRange 1 = .ok (.iload_n 1, 1) := by decide +kernel
theorem dX5_inRange_2 : decode cX5_inRange 2 = .ok (.if_icmp .lt 12, 3) := by decide +kernel
theorem dX5_inRange_5 : decode cX5_inRange 5 = .ok (.iload_n 0, 1) := by decide +kernel
theorem dX5_inRange_6 : decode cX5_inRange 6 = .ok (.iload_n 2, 1) := by decide +kernel
theorem dX5_inRange_7 : decode cX5_inRange 7 = .ok (.if_icmp .gt 7, 3) := by decide +kernel
theorem dX5_inRange_10 : decode cX5_inRange 10 = .ok (.iconst 1, 1) := by decide +kernel
theorem dX5_inRange_11 : decode cX5_inRange 11 = .ok (.goto 4, 3) := by decide +kernel
theorem dX5_inRange_14 : decode cX5_inRange 14 = .ok (.iconst 0, 1) := by decide +kernel
theorem dX5_inRange_15 : decode cX5_inRange 15 = .ok (.ireturn, 1) := by decide +kernel
theorem dX5_fails_0 : decode cX5_fails 0 = .ok (.iload_n 1, 1) := by decide +kernel
theorem dX5_fails_1 : decode cX5_fails 1 = .ok (.ifCond .eq 8, 3) := by decide +kernel
theorem dX5_fails_4 : decode cX5_fails 4 = .ok (.aload_n 0, 1) := by decide +kernel
theorem dX5_fails_5 : decode cX5_fails 5 = .ok (.iload_n 2, 1) := by decide +kernel
theorem dX5_fails_6 : decode cX5_fails 6 = .ok (.putfield 27, 3) := by decide +kernel
theorem dX5_fails_9 : decode cX5_fails 9 = .ok (.iload_n 1, 1) := by decide +kernel
theorem dX5_fails_10 : decode cX5_fails 10 = .ok (.ireturn, 1) := by decide +kernel
theorem dX5_at_0 : decode cX5_at 0 = .ok (.bipush 11, 2) := by decide +kernel
theorem dX5_at_2 : decode cX5_at 2 = .ok (.iconst 5, 1) := by decide +kernel
theorem dX5_at_3 : decode cX5_at 3 = .ok (.iload_n 0, 1) := by decide +kernel
theorem dX5_at_4 : decode cX5_at 4 = .ok (.imul, 1) := by decide +kernel
theorem dX5_at_5 : decode cX5_at 5 = .ok (.iadd, 1) := by decide +kernel
theorem dX5_at_6 : decode cX5_at 6 = .ok (.ireturn, 1) := by decide +kernel
theorem dX5_arrival_0 : decode cX5_arrival 0 = .ok (.aload_n 0, 1) := by decide +kernel
theorem dX5_arrival_1 : decode cX5_arrival 1 = .ok (.getfield 7, 3) := by decide +kernel
theorem dX5_arrival_4 : decode cX5_arrival 4 = .ok (.iload_n 1, 1) := by decide +kernel
theorem dX5_arrival_5 : decode cX5_arrival 5 = .ok (.invokestatic 30, 3) := by decide +kernel
theorem dX5_arrival_8 : decode cX5_arrival 8 = .ok (.iaload, 1) := by decide +kernel
theorem dX5_arrival_9 : decode cX5_arrival 9 = .ok (.ireturn, 1) := by decide +kernel
theorem dX5_origin_0 : decode cX5_origin 0 = .ok (.aload_n 0, 1) := by decide +kernel
theorem dX5_origin_1 : decode cX5_origin 1 = .ok (.getfield 7, 3) := by decide +kernel
theorem dX5_origin_4 : decode cX5_origin 4 = .ok (.iload_n 1, 1) := by decide +kernel
theorem dX5_origin_5 : decode cX5_origin 5 = .ok (.invokestatic 30, 3) := by decide +kernel
theorem dX5_origin_8 : decode cX5_origin 8 = .ok (.iconst 1, 1) := by decide +kernel
theorem dX5_origin_9 : decode cX5_origin 9 = .ok (.iadd, 1) := by decide +kernel
theorem dX5_origin_10 : decode cX5_origin 10 = .ok (.iaload, 1) := by decide +kernel
theorem dX5_origin_11 : decode cX5_origin 11 = .ok (.ireturn, 1) := by decide +kernel
theorem dX5_destination_0 : decode cX5_destination 0 = .ok (.aload_n 0, 1) := by decide +kernel
theorem dX5_destination_1 : decode cX5_destination 1 = .ok (.getfield 7, 3) := by decide +kernel
theorem dX5_destination_4 : decode cX5_destination 4 = .ok (.iload_n 1, 1) := by decide +kernel
theorem dX5_destination_5 : decode cX5_destination 5 = .ok (.invokestatic 30, 3) := by decide +kernel
theorem dX5_destination_8 : decode cX5_destination 8 = .ok (.iconst 2, 1) := by decide +kernel
theorem dX5_destination_9 : decode cX5_destination 9 = .ok (.iadd, 1) := by decide +kernel
theorem dX5_destination_10 : decode cX5_destination 10 = .ok (.iaload, 1) := by decide +kernel
theorem dX5_destination_11 : decode cX5_destination 11 = .ok (.ireturn, 1) := by decide +kernel
theorem dX5_boarded_0 : decode cX5_boarded 0 = .ok (.aload_n 0, 1) := by decide +kernel
theorem dX5_boarded_1 : decode cX5_boarded 1 = .ok (.getfield 7, 3) := by decide +kernel
theorem dX5_boarded_4 : decode cX5_boarded 4 = .ok (.iload_n 1, 1) := by decide +kernel
theorem dX5_boarded_5 : decode cX5_boarded 5 = .ok (.invokestatic 30, 3) := by decide +kernel
theorem dX5_boarded_8 : decode cX5_boarded 8 = .ok (.iconst 3, 1) := by decide +kernel
theorem dX5_boarded_9 : decode cX5_boarded 9 = .ok (.iadd, 1) := by decide +kernel
theorem dX5_boarded_10 : decode cX5_boarded 10 = .ok (.iaload, 1) := by decide +kernel
theorem dX5_boarded_11 : decode cX5_boarded 11 = .ok (.ireturn, 1) := by decide +kernel
theorem dX5_left_0 : decode cX5_left 0 = .ok (.aload_n 0, 1) := by decide +kernel
theorem dX5_left_1 : decode cX5_left 1 = .ok (.getfield 7, 3) := by decide +kernel
theorem dX5_left_4 : decode cX5_left 4 = .ok (.iload_n 1, 1) := by decide +kernel
theorem dX5_left_5 : decode cX5_left 5 = .ok (.invokestatic 30, 3) := by decide +kernel
theorem dX5_left_8 : decode cX5_left 8 = .ok (.iconst 4, 1) := by decide +kernel
theorem dX5_left_9 : decode cX5_left 9 = .ok (.iadd, 1) := by decide +kernel
theorem dX5_left_10 : decode cX5_left 10 = .ok (.iaload, 1) := by decide +kernel
theorem dX5_left_11 : decode cX5_left 11 = .ok (.ireturn, 1) := by decide +kernel
theorem dX5_status_0 : decode cX5_status 0 = .ok (.aload_n 0, 1) := by decide +kernel
theorem dX5_status_1 : decode cX5_status 1 = .ok (.iload_n 1, 1) := by decide +kernel
theorem dX5_status_2 : decode cX5_status 2 = .ok (.invokevirtual 34, 3) := by decide +kernel
theorem dX5_status_5 : decode cX5_status 5 = .ok (.iconst (-1), 1) := by decide +kernel
theorem dX5_status_6 : decode cX5_status 6 = .ok (.if_icmp .eq 5, 3) := by decide +kernel
theorem dX5_status_9 : decode cX5_status 9 = .ok (.iconst 3, 1) := by decide +kernel
theorem dX5_status_10 : decode cX5_status 10 = .ok (.ireturn, 1) := by decide +kernel
theorem dX5_status_11 : decode cX5_status 11 = .ok (.aload_n 0, 1) := by decide +kernel
theorem dX5_status_12 : decode cX5_status 12 = .ok (.iload_n 1, 1) := by decide +kernel
theorem dX5_status_13 : decode cX5_status 13 = .ok (.invokevirtual 37, 3) := by decide +kernel
theorem dX5_status_16 : decode cX5_status 16 = .ok (.iconst (-1), 1) := by decide +kernel
theorem dX5_status_17 : decode cX5_status 17 = .ok (.if_icmp .eq 7, 3) := by decide +kernel
theorem dX5_status_20 : decode cX5_status 20 = .ok (.iconst 2, 1) := by decide +kernel
theorem dX5_status_21 : decode cX5_status 21 = .ok (.goto 22, 3) := by decide +kernel
theorem dX5_status_24 : decode cX5_status 24 = .ok (.aload_n 0, 1) := by decide +kernel
theorem dX5_status_25 : decode cX5_status 25 = .ok (.getfield 7, 3) := by decide +kernel
theorem dX5_status_28 : decode cX5_status 28 = .ok (.iconst 3, 1) := by decide +kernel
theorem dX5_status_29 : decode cX5_status 29 = .ok (.iaload, 1) := by decide +kernel
theorem dX5_status_30 : decode cX5_status 30 = .ok (.aload_n 0, 1) := by decide +kernel
theorem dX5_status_31 : decode cX5_status 31 = .ok (.iload_n 1, 1) := by decide +kernel
theorem dX5_status_32 : decode cX5_status 32 = .ok (.invokevirtual 40, 3) := by decide +kernel
theorem dX5_status_35 : decode cX5_status 35 = .ok (.if_icmp .ge 7, 3) := by decide +kernel
theorem dX5_status_38 : decode cX5_status 38 = .ok (.iconst 0, 1) := by decide +kernel
theorem dX5_status_39 : decode cX5_status 39 = .ok (.goto 4, 3) := by decide +kernel
theorem dX5_status_42 : decode cX5_status 42 = .ok (.iconst 1, 1) := by decide +kernel
theorem dX5_status_43 : decode cX5_status 43 = .ok (.ireturn, 1) := by decide +kernel
theorem dX5_many_0 : decode cX5_many 0 = .ok (.iconst 0, 1) := by decide +kernel
theorem dX5_many_1 : decode cX5_many 1 = .ok (.istore_n 2, 1) := by decide +kernel
theorem dX5_many_2 : decode cX5_many 2 = .ok (.iconst 0, 1) := by decide +kernel
theorem dX5_many_3 : decode cX5_many 3 = .ok (.istore_n 3, 1) := by decide +kernel
theorem dX5_many_4 : decode cX5_many 4 = .ok (.iload_n 3, 1) := by decide +kernel
theorem dX5_many_5 : decode cX5_many 5 = .ok (.aload_n 0, 1) := by decide +kernel
theorem dX5_many_6 : decode cX5_many 6 = .ok (.getfield 7, 3) := by decide +kernel
theorem dX5_many_9 : decode cX5_many 9 = .ok (.bipush 10, 2) := by decide +kernel
theorem dX5_many_11 : decode cX5_many 11 = .ok (.iaload, 1) := by decide +kernel
theorem dX5_many_12 : decode cX5_many 12 = .ok (.if_icmp .ge 26, 3) := by decide +kernel
theorem dX5_many_15 : decode cX5_many 15 = .ok (.iload_n 2, 1) := by decide +kernel
theorem dX5_many_16 : decode cX5_many 16 = .ok (.aload_n 0, 1) := by decide +kernel
theorem dX5_many_17 : decode cX5_many 17 = .ok (.iload_n 3, 1) := by decide +kernel
theorem dX5_many_18 : decode cX5_many 18 = .ok (.invokevirtual 43, 3) := by decide +kernel
theorem dX5_many_21 : decode cX5_many 21 = .ok (.iload_n 1, 1) := by decide +kernel
theorem dX5_many_22 : decode cX5_many 22 = .ok (.if_icmp .ne 7, 3) := by decide +kernel
theorem dX5_many_25 : decode cX5_many 25 = .ok (.iconst 1, 1) := by decide +kernel
theorem dX5_many_26 : decode cX5_many 26 = .ok (.goto 4, 3) := by decide +kernel
theorem dX5_many_29 : decode cX5_many 29 = .ok (.iconst 0, 1) := by decide +kernel
theorem dX5_many_30 : decode cX5_many 30 = .ok (.iadd, 1) := by decide +kernel
theorem dX5_many_31 : decode cX5_many 31 = .ok (.istore_n 2, 1) := by decide +kernel
theorem dX5_many_32 : decode cX5_many 32 = .ok (.iinc 3 1, 3) := by decide +kernel
theorem dX5_many_35 : decode cX5_many 35 = .ok (.goto (-31), 3) := by decide +kernel
theorem dX5_many_38 : decode cX5_many 38 = .ok (.iload_n 2, 1) := by decide +kernel
theorem dX5_many_39 : decode cX5_many 39 = .ok (.ireturn, 1) := by decide +kernel
theorem dX5_full_0 : decode cX5_full 0 = .ok (.aload_n 0, 1) := by decide +kernel
theorem dX5_full_1 : decode cX5_full 1 = .ok (.iconst 2, 1) := by decide +kernel
theorem dX5_full_2 : decode cX5_full 2 = .ok (.invokevirtual 46, 3) := by decide +kernel
theorem dX5_full_5 : decode cX5_full 5 = .ok (.aload_n 0, 1) := by decide +kernel
theorem dX5_full_6 : decode cX5_full 6 = .ok (.getfield 7, 3) := by decide +kernel
theorem dX5_full_9 : decode cX5_full 9 = .ok (.iconst 1, 1) := by decide +kernel
theorem dX5_full_10 : decode cX5_full 10 = .ok (.iaload, 1) := by decide +kernel
theorem dX5_full_11 : decode cX5_full 11 = .ok (.if_icmp .ne 7, 3) := by decide +kernel
theorem dX5_full_14 : decode cX5_full 14 = .ok (.iconst 1, 1) := by decide +kernel
theorem dX5_full_15 : decode cX5_full 15 = .ok (.goto 4, 3) := by decide +kernel
theorem dX5_full_18 : decode cX5_full 18 = .ok (.iconst 0, 1) := by decide +kernel
theorem dX5_full_19 : decode cX5_full 19 = .ok (.ireturn, 1) := by decide +kernel
theorem dX5_finished_0 : decode cX5_finished 0 = .ok (.aload_n 0, 1) := by decide +kernel
theorem dX5_finished_1 : decode cX5_finished 1 = .ok (.iconst 3, 1) := by decide +kernel
theorem dX5_finished_2 : decode cX5_finished 2 = .ok (.invokevirtual 46, 3) := by decide +kernel
theorem dX5_finished_5 : decode cX5_finished 5 = .ok (.aload_n 0, 1) := by decide +kernel
theorem dX5_finished_6 : decode cX5_finished 6 = .ok (.getfield 7, 3) := by decide +kernel
theorem dX5_finished_9 : decode cX5_finished 9 = .ok (.bipush 10, 2) := by decide +kernel
theorem dX5_finished_11 : decode cX5_finished 11 = .ok (.iaload, 1) := by decide +kernel
theorem dX5_finished_12 : decode cX5_finished 12 = .ok (.if_icmp .ne 7, 3) := by decide +kernel
theorem dX5_finished_15 : decode cX5_finished 15 = .ok (.iconst 1, 1) := by decide +kernel
theorem dX5_finished_16 : decode cX5_finished 16 = .ok (.goto 4, 3) := by decide +kernel
theorem dX5_finished_19 : decode cX5_finished 19 = .ok (.iconst 0, 1) := by decide +kernel
theorem dX5_finished_20 : decode cX5_finished 20 = .ok (.ireturn, 1) := by decide +kernel
theorem dX5_isAhead_0 : decode cX5_isAhead 0 = .ok (.aload_n 0, 1) := by decide +kernel
theorem dX5_isAhead_1 : decode cX5_isAhead 1 = .ok (.iload_n 1, 1) := by decide +kernel
theorem dX5_isAhead_2 : decode cX5_isAhead 2 = .ok (.invokevirtual 40, 3) := by decide +kernel
theorem dX5_isAhead_5 : decode cX5_isAhead 5 = .ok (.aload_n 0, 1) := by decide +kernel
theorem dX5_isAhead_6 : decode cX5_isAhead 6 = .ok (.iload_n 2, 1) := by decide +kernel
theorem dX5_isAhead_7 : decode cX5_isAhead 7 = .ok (.invokevirtual 40, 3) := by decide +kernel
theorem dX5_isAhead_10 : decode cX5_isAhead 10 = .ok (.if_icmp .lt 21, 3) := by decide +kernel
theorem dX5_isAhead_13 : decode cX5_isAhead 13 = .ok (.aload_n 0, 1) := by decide +kernel
theorem dX5_isAhead_14 : decode cX5_isAhead 14 = .ok (.iload_n 1, 1) := by decide +kernel
theorem dX5_isAhead_15 : decode cX5_isAhead 15 = .ok (.invokevirtual 40, 3) := by decide +kernel
theorem dX5_isAhead_18 : decode cX5_isAhead 18 = .ok (.aload_n 0, 1) := by decide +kernel
theorem dX5_isAhead_19 : decode cX5_isAhead 19 = .ok (.iload_n 2, 1) := by decide +kernel
theorem dX5_isAhead_20 : decode cX5_isAhead 20 = .ok (.invokevirtual 40, 3) := by decide +kernel
theorem dX5_isAhead_23 : decode cX5_isAhead 23 = .ok (.if_icmp .ne 12, 3) := by decide +kernel
theorem dX5_isAhead_26 : decode cX5_isAhead 26 = .ok (.iload_n 1, 1) := by decide +kernel
theorem dX5_isAhead_27 : decode cX5_isAhead 27 = .ok (.iload_n 2, 1) := by decide +kernel
theorem dX5_isAhead_28 : decode cX5_isAhead 28 = .ok (.if_icmp .ge 7, 3) := by decide +kernel
theorem dX5_isAhead_31 : decode cX5_isAhead 31 = .ok (.iconst 1, 1) := by decide +kernel
theorem dX5_isAhead_32 : decode cX5_isAhead 32 = .ok (.goto 4, 3) := by decide +kernel
theorem dX5_isAhead_35 : decode cX5_isAhead 35 = .ok (.iconst 0, 1) := by decide +kernel
theorem dX5_isAhead_36 : decode cX5_isAhead 36 = .ok (.ireturn, 1) := by decide +kernel
theorem dX5_first_0 : decode cX5_first 0 = .ok (.iconst (-1), 1) := by decide +kernel
theorem dX5_first_1 : decode cX5_first 1 = .ok (.istore_n 2, 1) := by decide +kernel
theorem dX5_first_2 : decode cX5_first 2 = .ok (.iconst 0, 1) := by decide +kernel
theorem dX5_first_3 : decode cX5_first 3 = .ok (.istore_n 3, 1) := by decide +kernel
theorem dX5_first_4 : decode cX5_first 4 = .ok (.iload_n 3, 1) := by decide +kernel
theorem dX5_first_5 : decode cX5_first 5 = .ok (.aload_n 0, 1) := by decide +kernel
theorem dX5_first_6 : decode cX5_first 6 = .ok (.getfield 7, 3) := by decide +kernel
theorem dX5_first_9 : decode cX5_first 9 = .ok (.bipush 10, 2) := by decide +kernel
theorem dX5_first_11 : decode cX5_first 11 = .ok (.iaload, 1) := by decide +kernel
theorem dX5_first_12 : decode cX5_first 12 = .ok (.if_icmp .ge 64, 3) := by decide +kernel
theorem dX5_first_15 : decode cX5_first 15 = .ok (.aload_n 0, 1) := by decide +kernel
theorem dX5_first_16 : decode cX5_first 16 = .ok (.iload_n 3, 1) := by decide +kernel
theorem dX5_first_17 : decode cX5_first 17 = .ok (.invokevirtual 43, 3) := by decide +kernel
theorem dX5_first_20 : decode cX5_first 20 = .ok (.iconst 1, 1) := by decide +kernel
theorem dX5_first_21 : decode cX5_first 21 = .ok (.if_icmp .ne 21, 3) := by decide +kernel
theorem dX5_first_24 : decode cX5_first 24 = .ok (.iload_n 1, 1) := by decide +kernel
theorem dX5_first_25 : decode cX5_first 25 = .ok (.iconst (-1), 1) := by decide +kernel
theorem dX5_first_26 : decode cX5_first 26 = .ok (.if_icmp .eq 12, 3) := by decide +kernel
theorem dX5_first_29 : decode cX5_first 29 = .ok (.aload_n 0, 1) := by decide +kernel
theorem dX5_first_30 : decode cX5_first 30 = .ok (.iload_n 3, 1) := by decide +kernel
theorem dX5_first_31 : decode cX5_first 31 = .ok (.invokevirtual 49, 3) := by decide +kernel
theorem dX5_first_34 : decode cX5_first 34 = .ok (.iload_n 1, 1) := by decide +kernel
theorem dX5_first_35 : decode cX5_first 35 = .ok (.if_icmp .ne 7, 3) := by decide +kernel
theorem dX5_first_38 : decode cX5_first 38 = .ok (.iconst 1, 1) := by decide +kernel
theorem dX5_first_39 : decode cX5_first 39 = .ok (.goto 4, 3) := by decide +kernel
theorem dX5_first_42 : decode cX5_first 42 = .ok (.iconst 0, 1) := by decide +kernel
theorem dX5_first_43 : decode cX5_first 43 = .ok (.istore 4, 2) := by decide +kernel
theorem dX5_first_45 : decode cX5_first 45 = .ok (.iload 4, 2) := by decide +kernel
theorem dX5_first_47 : decode cX5_first 47 = .ok (.ifCond .eq 21, 3) := by decide +kernel
theorem dX5_first_50 : decode cX5_first 50 = .ok (.iload_n 2, 1) := by decide +kernel
theorem dX5_first_51 : decode cX5_first 51 = .ok (.iconst (-1), 1) := by decide +kernel
theorem dX5_first_52 : decode cX5_first 52 = .ok (.if_icmp .eq 12, 3) := by decide +kernel
theorem dX5_first_55 : decode cX5_first 55 = .ok (.aload_n 0, 1) := by decide +kernel
theorem dX5_first_56 : decode cX5_first 56 = .ok (.iload_n 3, 1) := by decide +kernel
theorem dX5_first_57 : decode cX5_first 57 = .ok (.iload_n 2, 1) := by decide +kernel
theorem dX5_first_58 : decode cX5_first 58 = .ok (.invokevirtual 52, 3) := by decide +kernel
theorem dX5_first_61 : decode cX5_first 61 = .ok (.ifCond .eq 7, 3) := by decide +kernel
theorem dX5_first_64 : decode cX5_first 64 = .ok (.iload_n 3, 1) := by decide +kernel
theorem dX5_first_65 : decode cX5_first 65 = .ok (.goto 4, 3) := by decide +kernel
theorem dX5_first_68 : decode cX5_first 68 = .ok (.iload_n 2, 1) := by decide +kernel
theorem dX5_first_69 : decode cX5_first 69 = .ok (.istore_n 2, 1) := by decide +kernel
theorem dX5_first_70 : decode cX5_first 70 = .ok (.iinc 3 1, 3) := by decide +kernel
theorem dX5_first_73 : decode cX5_first 73 = .ok (.goto (-69), 3) := by decide +kernel
theorem dX5_first_76 : decode cX5_first 76 = .ok (.iload_n 2, 1) := by decide +kernel
theorem dX5_first_77 : decode cX5_first 77 = .ok (.ireturn, 1) := by decide +kernel
theorem dX5_adds_0 : decode cX5_adds 0 = .ok (.aload_n 0, 1) := by decide +kernel
theorem dX5_adds_1 : decode cX5_adds 1 = .ok (.getfield 7, 3) := by decide +kernel
theorem dX5_adds_4 : decode cX5_adds 4 = .ok (.bipush 10, 2) := by decide +kernel
theorem dX5_adds_6 : decode cX5_adds 6 = .ok (.iaload, 1) := by decide +kernel
theorem dX5_adds_7 : decode cX5_adds 7 = .ok (.invokestatic 30, 3) := by decide +kernel
theorem dX5_adds_10 : decode cX5_adds 10 = .ok (.istore 4, 2) := by decide +kernel
theorem dX5_adds_12 : decode cX5_adds 12 = .ok (.aload_n 0, 1) := by decide +kernel
theorem dX5_adds_13 : decode cX5_adds 13 = .ok (.getfield 7, 3) := by decide +kernel
theorem dX5_adds_16 : decode cX5_adds 16 = .ok (.iload 4, 2) := by decide +kernel
theorem dX5_adds_18 : decode cX5_adds 18 = .ok (.iload_n 3, 1) := by decide +kernel
theorem dX5_adds_19 : decode cX5_adds 19 = .ok (.iastore, 1) := by decide +kernel
theorem dX5_adds_20 : decode cX5_adds 20 = .ok (.aload_n 0, 1) := by decide +kernel
theorem dX5_adds_21 : decode cX5_adds 21 = .ok (.getfield 7, 3) := by decide +kernel
theorem dX5_adds_24 : decode cX5_adds 24 = .ok (.iload 4, 2) := by decide +kernel
theorem dX5_adds_26 : decode cX5_adds 26 = .ok (.iconst 1, 1) := by decide +kernel
theorem dX5_adds_27 : decode cX5_adds 27 = .ok (.iadd, 1) := by decide +kernel
theorem dX5_adds_28 : decode cX5_adds 28 = .ok (.iload_n 1, 1) := by decide +kernel
theorem dX5_adds_29 : decode cX5_adds 29 = .ok (.iastore, 1) := by decide +kernel
theorem dX5_adds_30 : decode cX5_adds 30 = .ok (.aload_n 0, 1) := by decide +kernel
theorem dX5_adds_31 : decode cX5_adds 31 = .ok (.getfield 7, 3) := by decide +kernel
theorem dX5_adds_34 : decode cX5_adds 34 = .ok (.iload 4, 2) := by decide +kernel
theorem dX5_adds_36 : decode cX5_adds 36 = .ok (.iconst 2, 1) := by decide +kernel
theorem dX5_adds_37 : decode cX5_adds 37 = .ok (.iadd, 1) := by decide +kernel
theorem dX5_adds_38 : decode cX5_adds 38 = .ok (.iload_n 2, 1) := by decide +kernel
theorem dX5_adds_39 : decode cX5_adds 39 = .ok (.iastore, 1) := by decide +kernel
theorem dX5_adds_40 : decode cX5_adds 40 = .ok (.aload_n 0, 1) := by decide +kernel
theorem dX5_adds_41 : decode cX5_adds 41 = .ok (.getfield 7, 3) := by decide +kernel
theorem dX5_adds_44 : decode cX5_adds 44 = .ok (.iload 4, 2) := by decide +kernel
theorem dX5_adds_46 : decode cX5_adds 46 = .ok (.iconst 3, 1) := by decide +kernel
theorem dX5_adds_47 : decode cX5_adds 47 = .ok (.iadd, 1) := by decide +kernel
theorem dX5_adds_48 : decode cX5_adds 48 = .ok (.iconst (-1), 1) := by decide +kernel
theorem dX5_adds_49 : decode cX5_adds 49 = .ok (.iastore, 1) := by decide +kernel
theorem dX5_adds_50 : decode cX5_adds 50 = .ok (.aload_n 0, 1) := by decide +kernel
theorem dX5_adds_51 : decode cX5_adds 51 = .ok (.getfield 7, 3) := by decide +kernel
theorem dX5_adds_54 : decode cX5_adds 54 = .ok (.iload 4, 2) := by decide +kernel
theorem dX5_adds_56 : decode cX5_adds 56 = .ok (.iconst 4, 1) := by decide +kernel
theorem dX5_adds_57 : decode cX5_adds 57 = .ok (.iadd, 1) := by decide +kernel
theorem dX5_adds_58 : decode cX5_adds 58 = .ok (.iconst (-1), 1) := by decide +kernel
theorem dX5_adds_59 : decode cX5_adds 59 = .ok (.iastore, 1) := by decide +kernel
theorem dX5_adds_60 : decode cX5_adds 60 = .ok (.aload_n 0, 1) := by decide +kernel
theorem dX5_adds_61 : decode cX5_adds 61 = .ok (.getfield 7, 3) := by decide +kernel
theorem dX5_adds_64 : decode cX5_adds 64 = .ok (.bipush 10, 2) := by decide +kernel
theorem dX5_adds_66 : decode cX5_adds 66 = .ok (.dup2, 1) := by decide +kernel
theorem dX5_adds_67 : decode cX5_adds 67 = .ok (.iaload, 1) := by decide +kernel
theorem dX5_adds_68 : decode cX5_adds 68 = .ok (.iconst 1, 1) := by decide +kernel
theorem dX5_adds_69 : decode cX5_adds 69 = .ok (.iadd, 1) := by decide +kernel
theorem dX5_adds_70 : decode cX5_adds 70 = .ok (.iastore, 1) := by decide +kernel
theorem dX5_adds_71 : decode cX5_adds 71 = .ok (.return_, 1) := by decide +kernel
theorem dX5_stops_0 : decode cX5_stops 0 = .ok (.aload_n 0, 1) := by decide +kernel
theorem dX5_stops_1 : decode cX5_stops 1 = .ok (.invokevirtual 56, 3) := by decide +kernel
theorem dX5_stops_4 : decode cX5_stops 4 = .ok (.ifCond .ne 7, 3) := by decide +kernel
theorem dX5_stops_7 : decode cX5_stops 7 = .ok (.iconst 1, 1) := by decide +kernel
theorem dX5_stops_8 : decode cX5_stops 8 = .ok (.goto 4, 3) := by decide +kernel
theorem dX5_stops_11 : decode cX5_stops 11 = .ok (.iconst 0, 1) := by decide +kernel
theorem dX5_stops_12 : decode cX5_stops 12 = .ok (.istore_n 1, 1) := by decide +kernel
theorem dX5_stops_13 : decode cX5_stops 13 = .ok (.iconst 0, 1) := by decide +kernel
theorem dX5_stops_14 : decode cX5_stops 14 = .ok (.istore_n 2, 1) := by decide +kernel
theorem dX5_stops_15 : decode cX5_stops 15 = .ok (.iconst 0, 1) := by decide +kernel
theorem dX5_stops_16 : decode cX5_stops 16 = .ok (.istore_n 3, 1) := by decide +kernel
theorem dX5_stops_17 : decode cX5_stops 17 = .ok (.iload_n 3, 1) := by decide +kernel
theorem dX5_stops_18 : decode cX5_stops 18 = .ok (.aload_n 0, 1) := by decide +kernel
theorem dX5_stops_19 : decode cX5_stops 19 = .ok (.getfield 7, 3) := by decide +kernel
theorem dX5_stops_22 : decode cX5_stops 22 = .ok (.bipush 10, 2) := by decide +kernel
theorem dX5_stops_24 : decode cX5_stops 24 = .ok (.iaload, 1) := by decide +kernel
theorem dX5_stops_25 : decode cX5_stops 25 = .ok (.if_icmp .ge 59, 3) := by decide +kernel
theorem dX5_stops_28 : decode cX5_stops 28 = .ok (.iload_n 2, 1) := by decide +kernel
theorem dX5_stops_29 : decode cX5_stops 29 = .ok (.aload_n 0, 1) := by decide +kernel
theorem dX5_stops_30 : decode cX5_stops 30 = .ok (.iload_n 3, 1) := by decide +kernel
theorem dX5_stops_31 : decode cX5_stops 31 = .ok (.invokevirtual 43, 3) := by decide +kernel
theorem dX5_stops_34 : decode cX5_stops 34 = .ok (.iconst 2, 1) := by decide +kernel
theorem dX5_stops_35 : decode cX5_stops 35 = .ok (.if_icmp .ne 13, 3) := by decide +kernel
theorem dX5_stops_38 : decode cX5_stops 38 = .ok (.iconst 1, 1) := by decide +kernel
theorem dX5_stops_39 : decode cX5_stops 39 = .ok (.aload_n 0, 1) := by decide +kernel
theorem dX5_stops_40 : decode cX5_stops 40 = .ok (.iload_n 3, 1) := by decide +kernel
theorem dX5_stops_41 : decode cX5_stops 41 = .ok (.invokevirtual 60, 3) := by decide +kernel
theorem dX5_stops_44 : decode cX5_stops 44 = .ok (.ishl, 1) := by decide +kernel
theorem dX5_stops_45 : decode cX5_stops 45 = .ok (.goto 4, 3) := by decide +kernel
theorem dX5_stops_48 : decode cX5_stops 48 = .ok (.iconst 0, 1) := by decide +kernel
theorem dX5_stops_49 : decode cX5_stops 49 = .ok (.ior, 1) := by decide +kernel
theorem dX5_stops_50 : decode cX5_stops 50 = .ok (.istore_n 2, 1) := by decide +kernel
theorem dX5_stops_51 : decode cX5_stops 51 = .ok (.iload_n 2, 1) := by decide +kernel
theorem dX5_stops_52 : decode cX5_stops 52 = .ok (.aload_n 0, 1) := by decide +kernel
theorem dX5_stops_53 : decode cX5_stops 53 = .ok (.iload_n 3, 1) := by decide +kernel
theorem dX5_stops_54 : decode cX5_stops 54 = .ok (.invokevirtual 43, 3) := by decide +kernel
theorem dX5_stops_57 : decode cX5_stops 57 = .ok (.iconst 1, 1) := by decide +kernel
theorem dX5_stops_58 : decode cX5_stops 58 = .ok (.if_icmp .ne 17, 3) := by decide +kernel
theorem dX5_stops_61 : decode cX5_stops 61 = .ok (.iload_n 1, 1) := by decide +kernel
theorem dX5_stops_62 : decode cX5_stops 62 = .ok (.ifCond .eq 13, 3) := by decide +kernel
theorem dX5_stops_65 : decode cX5_stops 65 = .ok (.iconst 1, 1) := by decide +kernel
theorem dX5_stops_66 : decode cX5_stops 66 = .ok (.aload_n 0, 1) := by decide +kernel
theorem dX5_stops_67 : decode cX5_stops 67 = .ok (.iload_n 3, 1) := by decide +kernel
theorem dX5_stops_68 : decode cX5_stops 68 = .ok (.invokevirtual 49, 3) := by decide +kernel
theorem dX5_stops_71 : decode cX5_stops 71 = .ok (.ishl, 1) := by decide +kernel
theorem dX5_stops_72 : decode cX5_stops 72 = .ok (.goto 4, 3) := by decide +kernel
theorem dX5_stops_75 : decode cX5_stops 75 = .ok (.iconst 0, 1) := by decide +kernel
theorem dX5_stops_76 : decode cX5_stops 76 = .ok (.ior, 1) := by decide +kernel
theorem dX5_stops_77 : decode cX5_stops 77 = .ok (.istore_n 2, 1) := by decide +kernel
theorem dX5_stops_78 : decode cX5_stops 78 = .ok (.iinc 3 1, 3) := by decide +kernel
theorem dX5_stops_81 : decode cX5_stops 81 = .ok (.goto (-64), 3) := by decide +kernel
theorem dX5_stops_84 : decode cX5_stops 84 = .ok (.iload_n 2, 1) := by decide +kernel
theorem dX5_stops_85 : decode cX5_stops 85 = .ok (.ireturn, 1) := by decide +kernel
theorem dX5_has_0 : decode cX5_has 0 = .ok (.iload_n 0, 1) := by decide +kernel
theorem dX5_has_1 : decode cX5_has 1 = .ok (.iload_n 1, 1) := by decide +kernel
theorem dX5_has_2 : decode cX5_has 2 = .ok (.ishr, 1) := by decide +kernel
theorem dX5_has_3 : decode cX5_has 3 = .ok (.iconst 1, 1) := by decide +kernel
theorem dX5_has_4 : decode cX5_has 4 = .ok (.iand, 1) := by decide +kernel
theorem dX5_has_5 : decode cX5_has 5 = .ok (.iconst 1, 1) := by decide +kernel
theorem dX5_has_6 : decode cX5_has 6 = .ok (.if_icmp .ne 7, 3) := by decide +kernel
theorem dX5_has_9 : decode cX5_has 9 = .ok (.iconst 1, 1) := by decide +kernel
theorem dX5_has_10 : decode cX5_has 10 = .ok (.goto 4, 3) := by decide +kernel
theorem dX5_has_13 : decode cX5_has 13 = .ok (.iconst 0, 1) := by decide +kernel
theorem dX5_has_14 : decode cX5_has 14 = .ok (.ireturn, 1) := by decide +kernel
theorem dX5_nearestIn_0 : decode cX5_nearestIn 0 = .ok (.iconst 1, 1) := by decide +kernel
theorem dX5_nearestIn_1 : decode cX5_nearestIn 1 = .ok (.istore_n 3, 1) := by decide +kernel
theorem dX5_nearestIn_2 : decode cX5_nearestIn 2 = .ok (.iload_n 3, 1) := by decide +kernel
theorem dX5_nearestIn_3 : decode cX5_nearestIn 3 = .ok (.aload_n 0, 1) := by decide +kernel
theorem dX5_nearestIn_4 : decode cX5_nearestIn 4 = .ok (.getfield 7, 3) := by decide +kernel
theorem dX5_nearestIn_7 : decode cX5_nearestIn 7 = .ok (.iconst 0, 1) := by decide +kernel
theorem dX5_nearestIn_8 : decode cX5_nearestIn 8 = .ok (.iaload, 1) := by decide +kernel
theorem dX5_nearestIn_9 : decode cX5_nearestIn 9 = .ok (.if_icmp .ge 57, 3) := by decide +kernel
theorem dX5_nearestIn_12 : decode cX5_nearestIn 12 = .ok (.aload_n 0, 1) := by decide +kernel
theorem dX5_nearestIn_13 : decode cX5_nearestIn 13 = .ok (.getfield 7, 3) := by decide +kernel
theorem dX5_nearestIn_16 : decode cX5_nearestIn 16 = .ok (.iconst 4, 1) := by decide +kernel
theorem dX5_nearestIn_17 : decode cX5_nearestIn 17 = .ok (.iaload, 1) := by decide +kernel
theorem dX5_nearestIn_18 : decode cX5_nearestIn 18 = .ok (.iload_n 2, 1) := by decide +kernel
theorem dX5_nearestIn_19 : decode cX5_nearestIn 19 = .ok (.ifCond .eq 7, 3) := by decide +kernel
theorem dX5_nearestIn_22 : decode cX5_nearestIn 22 = .ok (.iload_n 3, 1) := by decide +kernel
theorem dX5_nearestIn_23 : decode cX5_nearestIn 23 = .ok (.goto 5, 3) := by decide +kernel
theorem dX5_nearestIn_26 : decode cX5_nearestIn 26 = .ok (.iload_n 3, 1) := by decide +kernel
theorem dX5_nearestIn_27 : decode cX5_nearestIn 27 = .ok (.ineg, 1) := by decide +kernel
theorem dX5_nearestIn_28 : decode cX5_nearestIn 28 = .ok (.iadd, 1) := by decide +kernel
theorem dX5_nearestIn_29 : decode cX5_nearestIn 29 = .ok (.istore 4, 2) := by decide +kernel
theorem dX5_nearestIn_31 : decode cX5_nearestIn 31 = .ok (.iload 4, 2) := by decide +kernel
theorem dX5_nearestIn_33 : decode cX5_nearestIn 33 = .ok (.iconst 0, 1) := by decide +kernel
theorem dX5_nearestIn_34 : decode cX5_nearestIn 34 = .ok (.aload_n 0, 1) := by decide +kernel
theorem dX5_nearestIn_35 : decode cX5_nearestIn 35 = .ok (.getfield 7, 3) := by decide +kernel
theorem dX5_nearestIn_38 : decode cX5_nearestIn 38 = .ok (.iconst 0, 1) := by decide +kernel
theorem dX5_nearestIn_39 : decode cX5_nearestIn 39 = .ok (.iaload, 1) := by decide +kernel
theorem dX5_nearestIn_40 : decode cX5_nearestIn 40 = .ok (.iconst 1, 1) := by decide +kernel
theorem dX5_nearestIn_41 : decode cX5_nearestIn 41 = .ok (.isub, 1) := by decide +kernel
theorem dX5_nearestIn_42 : decode cX5_nearestIn 42 = .ok (.invokestatic 63, 3) := by decide +kernel
theorem dX5_nearestIn_45 : decode cX5_nearestIn 45 = .ok (.ifCond .eq 15, 3) := by decide +kernel
theorem dX5_nearestIn_48 : decode cX5_nearestIn 48 = .ok (.iload_n 1, 1) := by decide +kernel
theorem dX5_nearestIn_49 : decode cX5_nearestIn 49 = .ok (.iload 4, 2) := by decide +kernel
theorem dX5_nearestIn_51 : decode cX5_nearestIn 51 = .ok (.invokestatic 67, 3) := by decide +kernel
theorem dX5_nearestIn_54 : decode cX5_nearestIn 54 = .ok (.ifCond .eq 6, 3) := by decide +kernel
theorem dX5_nearestIn_57 : decode cX5_nearestIn 57 = .ok (.iload 4, 2) := by decide +kernel
theorem dX5_nearestIn_59 : decode cX5_nearestIn 59 = .ok (.ireturn, 1) := by decide +kernel
theorem dX5_nearestIn_60 : decode cX5_nearestIn 60 = .ok (.iinc 3 1, 3) := by decide +kernel
theorem dX5_nearestIn_63 : decode cX5_nearestIn 63 = .ok (.goto (-61), 3) := by decide +kernel
theorem dX5_nearestIn_66 : decode cX5_nearestIn 66 = .ok (.iconst (-1), 1) := by decide +kernel
theorem dX5_nearestIn_67 : decode cX5_nearestIn 67 = .ok (.ireturn, 1) := by decide +kernel
theorem dX5_nearest_0 : decode cX5_nearest 0 = .ok (.aload_n 0, 1) := by decide +kernel
theorem dX5_nearest_1 : decode cX5_nearest 1 = .ok (.iload_n 1, 1) := by decide +kernel
theorem dX5_nearest_2 : decode cX5_nearest 2 = .ok (.iconst 1, 1) := by decide +kernel
theorem dX5_nearest_3 : decode cX5_nearest 3 = .ok (.invokevirtual 70, 3) := by decide +kernel
theorem dX5_nearest_6 : decode cX5_nearest 6 = .ok (.istore_n 2, 1) := by decide +kernel
theorem dX5_nearest_7 : decode cX5_nearest 7 = .ok (.aload_n 0, 1) := by decide +kernel
theorem dX5_nearest_8 : decode cX5_nearest 8 = .ok (.iload_n 1, 1) := by decide +kernel
theorem dX5_nearest_9 : decode cX5_nearest 9 = .ok (.iconst 0, 1) := by decide +kernel
theorem dX5_nearest_10 : decode cX5_nearest 10 = .ok (.invokevirtual 70, 3) := by decide +kernel
theorem dX5_nearest_13 : decode cX5_nearest 13 = .ok (.istore_n 3, 1) := by decide +kernel
theorem dX5_nearest_14 : decode cX5_nearest 14 = .ok (.iload_n 2, 1) := by decide +kernel
theorem dX5_nearest_15 : decode cX5_nearest 15 = .ok (.iconst (-1), 1) := by decide +kernel
theorem dX5_nearest_16 : decode cX5_nearest 16 = .ok (.if_icmp .eq 8, 3) := by decide +kernel
theorem dX5_nearest_19 : decode cX5_nearest 19 = .ok (.iload_n 3, 1) := by decide +kernel
theorem dX5_nearest_20 : decode cX5_nearest 20 = .ok (.iconst (-1), 1) := by decide +kernel
theorem dX5_nearest_21 : decode cX5_nearest 21 = .ok (.if_icmp .ne 14, 3) := by decide +kernel
theorem dX5_nearest_24 : decode cX5_nearest 24 = .ok (.iload_n 2, 1) := by decide +kernel
theorem dX5_nearest_25 : decode cX5_nearest 25 = .ok (.iconst (-1), 1) := by decide +kernel
theorem dX5_nearest_26 : decode cX5_nearest 26 = .ok (.if_icmp .ne 7, 3) := by decide +kernel
theorem dX5_nearest_29 : decode cX5_nearest 29 = .ok (.iload_n 3, 1) := by decide +kernel
theorem dX5_nearest_30 : decode cX5_nearest 30 = .ok (.goto 4, 3) := by decide +kernel
theorem dX5_nearest_33 : decode cX5_nearest 33 = .ok (.iload_n 2, 1) := by decide +kernel
theorem dX5_nearest_34 : decode cX5_nearest 34 = .ok (.ireturn, 1) := by decide +kernel
theorem dX5_nearest_35 : decode cX5_nearest 35 = .ok (.iload_n 2, 1) := by decide +kernel
theorem dX5_nearest_36 : decode cX5_nearest 36 = .ok (.aload_n 0, 1) := by decide +kernel
theorem dX5_nearest_37 : decode cX5_nearest 37 = .ok (.getfield 7, 3) := by decide +kernel
theorem dX5_nearest_40 : decode cX5_nearest 40 = .ok (.iconst 4, 1) := by decide +kernel
theorem dX5_nearest_41 : decode cX5_nearest 41 = .ok (.iaload, 1) := by decide +kernel
theorem dX5_nearest_42 : decode cX5_nearest 42 = .ok (.isub, 1) := by decide +kernel
theorem dX5_nearest_43 : decode cX5_nearest 43 = .ok (.aload_n 0, 1) := by decide +kernel
theorem dX5_nearest_44 : decode cX5_nearest 44 = .ok (.getfield 7, 3) := by decide +kernel
theorem dX5_nearest_47 : decode cX5_nearest 47 = .ok (.iconst 4, 1) := by decide +kernel
theorem dX5_nearest_48 : decode cX5_nearest 48 = .ok (.iaload, 1) := by decide +kernel
theorem dX5_nearest_49 : decode cX5_nearest 49 = .ok (.iload_n 3, 1) := by decide +kernel
theorem dX5_nearest_50 : decode cX5_nearest 50 = .ok (.isub, 1) := by decide +kernel
theorem dX5_nearest_51 : decode cX5_nearest 51 = .ok (.if_icmp .ge 7, 3) := by decide +kernel
theorem dX5_nearest_54 : decode cX5_nearest 54 = .ok (.iload_n 2, 1) := by decide +kernel
theorem dX5_nearest_55 : decode cX5_nearest 55 = .ok (.goto 4, 3) := by decide +kernel
theorem dX5_nearest_58 : decode cX5_nearest 58 = .ok (.iload_n 3, 1) := by decide +kernel
theorem dX5_nearest_59 : decode cX5_nearest 59 = .ok (.ireturn, 1) := by decide +kernel
theorem dX5_inOrder_0 : decode cX5_inOrder 0 = .ok (.iconst 0, 1) := by decide +kernel
theorem dX5_inOrder_1 : decode cX5_inOrder 1 = .ok (.istore_n 1, 1) := by decide +kernel
theorem dX5_inOrder_2 : decode cX5_inOrder 2 = .ok (.iload_n 1, 1) := by decide +kernel
theorem dX5_inOrder_3 : decode cX5_inOrder 3 = .ok (.aload_n 0, 1) := by decide +kernel
theorem dX5_inOrder_4 : decode cX5_inOrder 4 = .ok (.getfield 7, 3) := by decide +kernel
theorem dX5_inOrder_7 : decode cX5_inOrder 7 = .ok (.bipush 10, 2) := by decide +kernel
theorem dX5_inOrder_9 : decode cX5_inOrder 9 = .ok (.iaload, 1) := by decide +kernel
theorem dX5_inOrder_10 : decode cX5_inOrder 10 = .ok (.if_icmp .ge 24, 3) := by decide +kernel
theorem dX5_inOrder_13 : decode cX5_inOrder 13 = .ok (.aload_n 0, 1) := by decide +kernel
theorem dX5_inOrder_14 : decode cX5_inOrder 14 = .ok (.iload_n 1, 1) := by decide +kernel
theorem dX5_inOrder_15 : decode cX5_inOrder 15 = .ok (.invokevirtual 43, 3) := by decide +kernel
theorem dX5_inOrder_18 : decode cX5_inOrder 18 = .ok (.iconst 2, 1) := by decide +kernel
theorem dX5_inOrder_19 : decode cX5_inOrder 19 = .ok (.if_icmp .ne 9, 3) := by decide +kernel
theorem dX5_inOrder_22 : decode cX5_inOrder 22 = .ok (.aload_n 0, 1) := by decide +kernel
theorem dX5_inOrder_23 : decode cX5_inOrder 23 = .ok (.iload_n 1, 1) := by decide +kernel
theorem dX5_inOrder_24 : decode cX5_inOrder 24 = .ok (.invokevirtual 60, 3) := by decide +kernel
theorem dX5_inOrder_27 : decode cX5_inOrder 27 = .ok (.ireturn, 1) := by decide +kernel
theorem dX5_inOrder_28 : decode cX5_inOrder 28 = .ok (.iinc 1 1, 3) := by decide +kernel
theorem dX5_inOrder_31 : decode cX5_inOrder 31 = .ok (.goto (-29), 3) := by decide +kernel
theorem dX5_inOrder_34 : decode cX5_inOrder 34 = .ok (.aload_n 0, 1) := by decide +kernel
theorem dX5_inOrder_35 : decode cX5_inOrder 35 = .ok (.iconst (-1), 1) := by decide +kernel
theorem dX5_inOrder_36 : decode cX5_inOrder 36 = .ok (.invokevirtual 74, 3) := by decide +kernel
theorem dX5_inOrder_39 : decode cX5_inOrder 39 = .ok (.istore_n 1, 1) := by decide +kernel
theorem dX5_inOrder_40 : decode cX5_inOrder 40 = .ok (.iload_n 1, 1) := by decide +kernel
theorem dX5_inOrder_41 : decode cX5_inOrder 41 = .ok (.iconst (-1), 1) := by decide +kernel
theorem dX5_inOrder_42 : decode cX5_inOrder 42 = .ok (.if_icmp .ne 7, 3) := by decide +kernel
theorem dX5_inOrder_45 : decode cX5_inOrder 45 = .ok (.iconst (-1), 1) := by decide +kernel
theorem dX5_inOrder_46 : decode cX5_inOrder 46 = .ok (.goto 8, 3) := by decide +kernel
theorem dX5_inOrder_49 : decode cX5_inOrder 49 = .ok (.aload_n 0, 1) := by decide +kernel
theorem dX5_inOrder_50 : decode cX5_inOrder 50 = .ok (.iload_n 1, 1) := by decide +kernel
theorem dX5_inOrder_51 : decode cX5_inOrder 51 = .ok (.invokevirtual 49, 3) := by decide +kernel
theorem dX5_inOrder_54 : decode cX5_inOrder 54 = .ok (.ireturn, 1) := by decide +kernel
theorem dX5_reverses_0 : decode cX5_reverses 0 = .ok (.aload_n 0, 1) := by decide +kernel
theorem dX5_reverses_1 : decode cX5_reverses 1 = .ok (.iload_n 1, 1) := by decide +kernel
theorem dX5_reverses_2 : decode cX5_reverses 2 = .ok (.aload_n 0, 1) := by decide +kernel
theorem dX5_reverses_3 : decode cX5_reverses 3 = .ok (.getfield 7, 3) := by decide +kernel
theorem dX5_reverses_6 : decode cX5_reverses 6 = .ok (.iconst 5, 1) := by decide +kernel
theorem dX5_reverses_7 : decode cX5_reverses 7 = .ok (.iaload, 1) := by decide +kernel
theorem dX5_reverses_8 : decode cX5_reverses 8 = .ok (.iconst 1, 1) := by decide +kernel
theorem dX5_reverses_9 : decode cX5_reverses 9 = .ok (.if_icmp .ne 7, 3) := by decide +kernel
theorem dX5_reverses_12 : decode cX5_reverses 12 = .ok (.iconst 1, 1) := by decide +kernel
theorem dX5_reverses_13 : decode cX5_reverses 13 = .ok (.goto 4, 3) := by decide +kernel
theorem dX5_reverses_16 : decode cX5_reverses 16 = .ok (.iconst 0, 1) := by decide +kernel
theorem dX5_reverses_17 : decode cX5_reverses 17 = .ok (.invokevirtual 70, 3) := by decide +kernel
theorem dX5_reverses_20 : decode cX5_reverses 20 = .ok (.iconst (-1), 1) := by decide +kernel
theorem dX5_reverses_21 : decode cX5_reverses 21 = .ok (.if_icmp .ne 7, 3) := by decide +kernel
theorem dX5_reverses_24 : decode cX5_reverses 24 = .ok (.iconst 1, 1) := by decide +kernel
theorem dX5_reverses_25 : decode cX5_reverses 25 = .ok (.goto 4, 3) := by decide +kernel
theorem dX5_reverses_28 : decode cX5_reverses 28 = .ok (.iconst 0, 1) := by decide +kernel
theorem dX5_reverses_29 : decode cX5_reverses 29 = .ok (.ireturn, 1) := by decide +kernel
theorem dX5_target_0 : decode cX5_target 0 = .ok (.aload_n 0, 1) := by decide +kernel
theorem dX5_target_1 : decode cX5_target 1 = .ok (.invokevirtual 77, 3) := by decide +kernel
theorem dX5_target_4 : decode cX5_target 4 = .ok (.istore_n 2, 1) := by decide +kernel
theorem dX5_target_5 : decode cX5_target 5 = .ok (.iload_n 2, 1) := by decide +kernel
theorem dX5_target_6 : decode cX5_target 6 = .ok (.ifCond .ne 5, 3) := by decide +kernel
theorem dX5_target_9 : decode cX5_target 9 = .ok (.iconst (-1), 1) := by decide +kernel
theorem dX5_target_10 : decode cX5_target 10 = .ok (.ireturn, 1) := by decide +kernel
theorem dX5_target_11 : decode cX5_target 11 = .ok (.iload_n 2, 1) := by decide +kernel
theorem dX5_target_12 : decode cX5_target 12 = .ok (.aload_n 0, 1) := by decide +kernel
theorem dX5_target_13 : decode cX5_target 13 = .ok (.getfield 7, 3) := by decide +kernel
theorem dX5_target_16 : decode cX5_target 16 = .ok (.iconst 4, 1) := by decide +kernel
theorem dX5_target_17 : decode cX5_target 17 = .ok (.iaload, 1) := by decide +kernel
theorem dX5_target_18 : decode cX5_target 18 = .ok (.invokestatic 67, 3) := by decide +kernel
theorem dX5_target_21 : decode cX5_target 21 = .ok (.ifCond .eq 10, 3) := by decide +kernel
theorem dX5_target_24 : decode cX5_target 24 = .ok (.aload_n 0, 1) := by decide +kernel
theorem dX5_target_25 : decode cX5_target 25 = .ok (.getfield 7, 3) := by decide +kernel
theorem dX5_target_28 : decode cX5_target 28 = .ok (.iconst 4, 1) := by decide +kernel
theorem dX5_target_29 : decode cX5_target 29 = .ok (.iaload, 1) := by decide +kernel
theorem dX5_target_30 : decode cX5_target 30 = .ok (.ireturn, 1) := by decide +kernel
theorem dX5_target_31 : decode cX5_target 31 = .ok (.iload_n 1, 1) := by decide +kernel
theorem dX5_target_32 : decode cX5_target 32 = .ok (.ifCond .ne 8, 3) := by decide +kernel
theorem dX5_target_35 : decode cX5_target 35 = .ok (.aload_n 0, 1) := by decide +kernel
theorem dX5_target_36 : decode cX5_target 36 = .ok (.invokevirtual 81, 3) := by decide +kernel
theorem dX5_target_39 : decode cX5_target 39 = .ok (.ireturn, 1) := by decide +kernel
theorem dX5_target_40 : decode cX5_target 40 = .ok (.iload_n 1, 1) := by decide +kernel
theorem dX5_target_41 : decode cX5_target 41 = .ok (.iconst 1, 1) := by decide +kernel
theorem dX5_target_42 : decode cX5_target 42 = .ok (.if_icmp .ne 11, 3) := by decide +kernel
theorem dX5_target_45 : decode cX5_target 45 = .ok (.aload_n 0, 1) := by decide +kernel
theorem dX5_target_46 : decode cX5_target 46 = .ok (.iload_n 2, 1) := by decide +kernel
theorem dX5_target_47 : decode cX5_target 47 = .ok (.invokevirtual 84, 3) := by decide +kernel
theorem dX5_target_50 : decode cX5_target 50 = .ok (.goto 36, 3) := by decide +kernel
theorem dX5_target_53 : decode cX5_target 53 = .ok (.aload_n 0, 1) := by decide +kernel
theorem dX5_target_54 : decode cX5_target 54 = .ok (.iload_n 2, 1) := by decide +kernel
theorem dX5_target_55 : decode cX5_target 55 = .ok (.aload_n 0, 1) := by decide +kernel
theorem dX5_target_56 : decode cX5_target 56 = .ok (.getfield 7, 3) := by decide +kernel
theorem dX5_target_59 : decode cX5_target 59 = .ok (.iconst 5, 1) := by decide +kernel
theorem dX5_target_60 : decode cX5_target 60 = .ok (.iaload, 1) := by decide +kernel
theorem dX5_target_61 : decode cX5_target 61 = .ok (.iconst 1, 1) := by decide +kernel
theorem dX5_target_62 : decode cX5_target 62 = .ok (.if_icmp .ne 7, 3) := by decide +kernel
theorem dX5_target_65 : decode cX5_target 65 = .ok (.iconst 1, 1) := by decide +kernel
theorem dX5_target_66 : decode cX5_target 66 = .ok (.goto 4, 3) := by decide +kernel
theorem dX5_target_69 : decode cX5_target 69 = .ok (.iconst 0, 1) := by decide +kernel
theorem dX5_target_70 : decode cX5_target 70 = .ok (.aload_n 0, 1) := by decide +kernel
theorem dX5_target_71 : decode cX5_target 71 = .ok (.iload_n 2, 1) := by decide +kernel
theorem dX5_target_72 : decode cX5_target 72 = .ok (.invokevirtual 87, 3) := by decide +kernel
theorem dX5_target_75 : decode cX5_target 75 = .ok (.if_icmp .eq 7, 3) := by decide +kernel
theorem dX5_target_78 : decode cX5_target 78 = .ok (.iconst 1, 1) := by decide +kernel
theorem dX5_target_79 : decode cX5_target 79 = .ok (.goto 4, 3) := by decide +kernel
theorem dX5_target_82 : decode cX5_target 82 = .ok (.iconst 0, 1) := by decide +kernel
theorem dX5_target_83 : decode cX5_target 83 = .ok (.invokevirtual 70, 3) := by decide +kernel
theorem dX5_target_86 : decode cX5_target 86 = .ok (.ireturn, 1) := by decide +kernel
theorem dX5_opens_0 : decode cX5_opens 0 = .ok (.iconst 0, 1) := by decide +kernel
theorem dX5_opens_1 : decode cX5_opens 1 = .ok (.istore_n 1, 1) := by decide +kernel
theorem dX5_opens_2 : decode cX5_opens 2 = .ok (.iload_n 1, 1) := by decide +kernel
theorem dX5_opens_3 : decode cX5_opens 3 = .ok (.aload_n 0, 1) := by decide +kernel
theorem dX5_opens_4 : decode cX5_opens 4 = .ok (.getfield 7, 3) := by decide +kernel
theorem dX5_opens_7 : decode cX5_opens 7 = .ok (.bipush 10, 2) := by decide +kernel
theorem dX5_opens_9 : decode cX5_opens 9 = .ok (.iaload, 1) := by decide +kernel
theorem dX5_opens_10 : decode cX5_opens 10 = .ok (.if_icmp .ge 49, 3) := by decide +kernel
theorem dX5_opens_13 : decode cX5_opens 13 = .ok (.aload_n 0, 1) := by decide +kernel
theorem dX5_opens_14 : decode cX5_opens 14 = .ok (.iload_n 1, 1) := by decide +kernel
theorem dX5_opens_15 : decode cX5_opens 15 = .ok (.invokevirtual 43, 3) := by decide +kernel
theorem dX5_opens_18 : decode cX5_opens 18 = .ok (.iconst 2, 1) := by decide +kernel
theorem dX5_opens_19 : decode cX5_opens 19 = .ok (.if_icmp .ne 34, 3) := by decide +kernel
theorem dX5_opens_22 : decode cX5_opens 22 = .ok (.aload_n 0, 1) := by decide +kernel
theorem dX5_opens_23 : decode cX5_opens 23 = .ok (.iload_n 1, 1) := by decide +kernel
theorem dX5_opens_24 : decode cX5_opens 24 = .ok (.invokevirtual 60, 3) := by decide +kernel
theorem dX5_opens_27 : decode cX5_opens 27 = .ok (.aload_n 0, 1) := by decide +kernel
theorem dX5_opens_28 : decode cX5_opens 28 = .ok (.getfield 7, 3) := by decide +kernel
theorem dX5_opens_31 : decode cX5_opens 31 = .ok (.iconst 4, 1) := by decide +kernel
theorem dX5_opens_32 : decode cX5_opens 32 = .ok (.iaload, 1) := by decide +kernel
theorem dX5_opens_33 : decode cX5_opens 33 = .ok (.if_icmp .ne 20, 3) := by decide +kernel
theorem dX5_opens_36 : decode cX5_opens 36 = .ok (.aload_n 0, 1) := by decide +kernel
theorem dX5_opens_37 : decode cX5_opens 37 = .ok (.getfield 7, 3) := by decide +kernel
theorem dX5_opens_40 : decode cX5_opens 40 = .ok (.iload_n 1, 1) := by decide +kernel
theorem dX5_opens_41 : decode cX5_opens 41 = .ok (.invokestatic 30, 3) := by decide +kernel
theorem dX5_opens_44 : decode cX5_opens 44 = .ok (.iconst 4, 1) := by decide +kernel
theorem dX5_opens_45 : decode cX5_opens 45 = .ok (.iadd, 1) := by decide +kernel
theorem dX5_opens_46 : decode cX5_opens 46 = .ok (.aload_n 0, 1) := by decide +kernel
theorem dX5_opens_47 : decode cX5_opens 47 = .ok (.getfield 7, 3) := by decide +kernel
theorem dX5_opens_50 : decode cX5_opens 50 = .ok (.iconst 3, 1) := by decide +kernel
theorem dX5_opens_51 : decode cX5_opens 51 = .ok (.iaload, 1) := by decide +kernel
theorem dX5_opens_52 : decode cX5_opens 52 = .ok (.iastore, 1) := by decide +kernel
theorem dX5_opens_53 : decode cX5_opens 53 = .ok (.iinc 1 1, 3) := by decide +kernel
theorem dX5_opens_56 : decode cX5_opens 56 = .ok (.goto (-54), 3) := by decide +kernel
theorem dX5_opens_59 : decode cX5_opens 59 = .ok (.aload_n 0, 1) := by decide +kernel
theorem dX5_opens_60 : decode cX5_opens 60 = .ok (.aload_n 0, 1) := by decide +kernel
theorem dX5_opens_61 : decode cX5_opens 61 = .ok (.getfield 7, 3) := by decide +kernel
theorem dX5_opens_64 : decode cX5_opens 64 = .ok (.iconst 4, 1) := by decide +kernel
theorem dX5_opens_65 : decode cX5_opens 65 = .ok (.iaload, 1) := by decide +kernel
theorem dX5_opens_66 : decode cX5_opens 66 = .ok (.invokevirtual 74, 3) := by decide +kernel
theorem dX5_opens_69 : decode cX5_opens 69 = .ok (.istore_n 1, 1) := by decide +kernel
theorem dX5_opens_70 : decode cX5_opens 70 = .ok (.iload_n 1, 1) := by decide +kernel
theorem dX5_opens_71 : decode cX5_opens 71 = .ok (.iconst (-1), 1) := by decide +kernel
theorem dX5_opens_72 : decode cX5_opens 72 = .ok (.if_icmp .eq 41, 3) := by decide +kernel
theorem dX5_opens_75 : decode cX5_opens 75 = .ok (.aload_n 0, 1) := by decide +kernel
theorem dX5_opens_76 : decode cX5_opens 76 = .ok (.invokevirtual 56, 3) := by decide +kernel
theorem dX5_opens_79 : decode cX5_opens 79 = .ok (.ifCond .ne 34, 3) := by decide +kernel
theorem dX5_opens_82 : decode cX5_opens 82 = .ok (.aload_n 0, 1) := by decide +kernel
theorem dX5_opens_83 : decode cX5_opens 83 = .ok (.getfield 7, 3) := by decide +kernel
theorem dX5_opens_86 : decode cX5_opens 86 = .ok (.iload_n 1, 1) := by decide +kernel
theorem dX5_opens_87 : decode cX5_opens 87 = .ok (.invokestatic 30, 3) := by decide +kernel
theorem dX5_opens_90 : decode cX5_opens 90 = .ok (.iconst 3, 1) := by decide +kernel
theorem dX5_opens_91 : decode cX5_opens 91 = .ok (.iadd, 1) := by decide +kernel
theorem dX5_opens_92 : decode cX5_opens 92 = .ok (.aload_n 0, 1) := by decide +kernel
theorem dX5_opens_93 : decode cX5_opens 93 = .ok (.getfield 7, 3) := by decide +kernel
theorem dX5_opens_96 : decode cX5_opens 96 = .ok (.iconst 3, 1) := by decide +kernel
theorem dX5_opens_97 : decode cX5_opens 97 = .ok (.iaload, 1) := by decide +kernel
theorem dX5_opens_98 : decode cX5_opens 98 = .ok (.iastore, 1) := by decide +kernel
theorem dX5_opens_99 : decode cX5_opens 99 = .ok (.aload_n 0, 1) := by decide +kernel
theorem dX5_opens_100 : decode cX5_opens 100 = .ok (.aload_n 0, 1) := by decide +kernel
theorem dX5_opens_101 : decode cX5_opens 101 = .ok (.getfield 7, 3) := by decide +kernel
theorem dX5_opens_104 : decode cX5_opens 104 = .ok (.iconst 4, 1) := by decide +kernel
theorem dX5_opens_105 : decode cX5_opens 105 = .ok (.iaload, 1) := by decide +kernel
theorem dX5_opens_106 : decode cX5_opens 106 = .ok (.invokevirtual 74, 3) := by decide +kernel
theorem dX5_opens_109 : decode cX5_opens 109 = .ok (.istore_n 1, 1) := by decide +kernel
theorem dX5_opens_110 : decode cX5_opens 110 = .ok (.goto (-40), 3) := by decide +kernel
theorem dX5_opens_113 : decode cX5_opens 113 = .ok (.aload_n 0, 1) := by decide +kernel
theorem dX5_opens_114 : decode cX5_opens 114 = .ok (.getfield 7, 3) := by decide +kernel
theorem dX5_opens_117 : decode cX5_opens 117 = .ok (.bipush 7, 2) := by decide +kernel
theorem dX5_opens_119 : decode cX5_opens 119 = .ok (.dup2, 1) := by decide +kernel
theorem dX5_opens_120 : decode cX5_opens 120 = .ok (.iaload, 1) := by decide +kernel
theorem dX5_opens_121 : decode cX5_opens 121 = .ok (.iconst 1, 1) := by decide +kernel
theorem dX5_opens_122 : decode cX5_opens 122 = .ok (.iadd, 1) := by decide +kernel
theorem dX5_opens_123 : decode cX5_opens 123 = .ok (.iastore, 1) := by decide +kernel
theorem dX5_opens_124 : decode cX5_opens 124 = .ok (.return_, 1) := by decide +kernel
theorem dX5_moves_0 : decode cX5_moves 0 = .ok (.aload_n 0, 1) := by decide +kernel
theorem dX5_moves_1 : decode cX5_moves 1 = .ok (.aload_n 0, 1) := by decide +kernel
theorem dX5_moves_2 : decode cX5_moves 2 = .ok (.getfield 7, 3) := by decide +kernel
theorem dX5_moves_5 : decode cX5_moves 5 = .ok (.iconst 2, 1) := by decide +kernel
theorem dX5_moves_6 : decode cX5_moves 6 = .ok (.iaload, 1) := by decide +kernel
theorem dX5_moves_7 : decode cX5_moves 7 = .ok (.invokevirtual 91, 3) := by decide +kernel
theorem dX5_moves_10 : decode cX5_moves 10 = .ok (.istore_n 2, 1) := by decide +kernel
theorem dX5_moves_11 : decode cX5_moves 11 = .ok (.aload_n 0, 1) := by decide +kernel
theorem dX5_moves_12 : decode cX5_moves 12 = .ok (.getfield 7, 3) := by decide +kernel
theorem dX5_moves_15 : decode cX5_moves 15 = .ok (.iconst 2, 1) := by decide +kernel
theorem dX5_moves_16 : decode cX5_moves 16 = .ok (.iaload, 1) := by decide +kernel
theorem dX5_moves_17 : decode cX5_moves 17 = .ok (.iconst 2, 1) := by decide +kernel
theorem dX5_moves_18 : decode cX5_moves 18 = .ok (.if_icmp .ne 36, 3) := by decide +kernel
theorem dX5_moves_21 : decode cX5_moves 21 = .ok (.aload_n 0, 1) := by decide +kernel
theorem dX5_moves_22 : decode cX5_moves 22 = .ok (.iload_n 1, 1) := by decide +kernel
theorem dX5_moves_23 : decode cX5_moves 23 = .ok (.invokevirtual 87, 3) := by decide +kernel
theorem dX5_moves_26 : decode cX5_moves 26 = .ok (.ifCond .eq 28, 3) := by decide +kernel
theorem dX5_moves_29 : decode cX5_moves 29 = .ok (.aload_n 0, 1) := by decide +kernel
theorem dX5_moves_30 : decode cX5_moves 30 = .ok (.getfield 7, 3) := by decide +kernel
theorem dX5_moves_33 : decode cX5_moves 33 = .ok (.iconst 5, 1) := by decide +kernel
theorem dX5_moves_34 : decode cX5_moves 34 = .ok (.iconst 1, 1) := by decide +kernel
theorem dX5_moves_35 : decode cX5_moves 35 = .ok (.aload_n 0, 1) := by decide +kernel
theorem dX5_moves_36 : decode cX5_moves 36 = .ok (.getfield 7, 3) := by decide +kernel
theorem dX5_moves_39 : decode cX5_moves 39 = .ok (.iconst 5, 1) := by decide +kernel
theorem dX5_moves_40 : decode cX5_moves 40 = .ok (.iaload, 1) := by decide +kernel
theorem dX5_moves_41 : decode cX5_moves 41 = .ok (.isub, 1) := by decide +kernel
theorem dX5_moves_42 : decode cX5_moves 42 = .ok (.iastore, 1) := by decide +kernel
theorem dX5_moves_43 : decode cX5_moves 43 = .ok (.aload_n 0, 1) := by decide +kernel
theorem dX5_moves_44 : decode cX5_moves 44 = .ok (.getfield 7, 3) := by decide +kernel
theorem dX5_moves_47 : decode cX5_moves 47 = .ok (.bipush 9, 2) := by decide +kernel
theorem dX5_moves_49 : decode cX5_moves 49 = .ok (.dup2, 1) := by decide +kernel
theorem dX5_moves_50 : decode cX5_moves 50 = .ok (.iaload, 1) := by decide +kernel
theorem dX5_moves_51 : decode cX5_moves 51 = .ok (.iconst 1, 1) := by decide +kernel
theorem dX5_moves_52 : decode cX5_moves 52 = .ok (.iadd, 1) := by decide +kernel
theorem dX5_moves_53 : decode cX5_moves 53 = .ok (.iastore, 1) := by decide +kernel
theorem dX5_moves_54 : decode cX5_moves 54 = .ok (.aload_n 0, 1) := by decide +kernel
theorem dX5_moves_55 : decode cX5_moves 55 = .ok (.getfield 7, 3) := by decide +kernel
theorem dX5_moves_58 : decode cX5_moves 58 = .ok (.iconst 4, 1) := by decide +kernel
theorem dX5_moves_59 : decode cX5_moves 59 = .ok (.dup2, 1) := by decide +kernel
theorem dX5_moves_60 : decode cX5_moves 60 = .ok (.iaload, 1) := by decide +kernel
theorem dX5_moves_61 : decode cX5_moves 61 = .ok (.iload_n 2, 1) := by decide +kernel
theorem dX5_moves_62 : decode cX5_moves 62 = .ok (.aload_n 0, 1) := by decide +kernel
theorem dX5_moves_63 : decode cX5_moves 63 = .ok (.getfield 7, 3) := by decide +kernel
theorem dX5_moves_66 : decode cX5_moves 66 = .ok (.iconst 4, 1) := by decide +kernel
theorem dX5_moves_67 : decode cX5_moves 67 = .ok (.iaload, 1) := by decide +kernel
theorem dX5_moves_68 : decode cX5_moves 68 = .ok (.if_icmp .le 7, 3) := by decide +kernel
theorem dX5_moves_71 : decode cX5_moves 71 = .ok (.iconst 1, 1) := by decide +kernel
theorem dX5_moves_72 : decode cX5_moves 72 = .ok (.goto 4, 3) := by decide +kernel
theorem dX5_moves_75 : decode cX5_moves 75 = .ok (.iconst (-1), 1) := by decide +kernel
theorem dX5_moves_76 : decode cX5_moves 76 = .ok (.iadd, 1) := by decide +kernel
theorem dX5_moves_77 : decode cX5_moves 77 = .ok (.iastore, 1) := by decide +kernel
theorem dX5_moves_78 : decode cX5_moves 78 = .ok (.aload_n 0, 1) := by decide +kernel
theorem dX5_moves_79 : decode cX5_moves 79 = .ok (.getfield 7, 3) := by decide +kernel
theorem dX5_moves_82 : decode cX5_moves 82 = .ok (.bipush 6, 2) := by decide +kernel
theorem dX5_moves_84 : decode cX5_moves 84 = .ok (.dup2, 1) := by decide +kernel
theorem dX5_moves_85 : decode cX5_moves 85 = .ok (.iaload, 1) := by decide +kernel
theorem dX5_moves_86 : decode cX5_moves 86 = .ok (.iconst 1, 1) := by decide +kernel
theorem dX5_moves_87 : decode cX5_moves 87 = .ok (.iadd, 1) := by decide +kernel
theorem dX5_moves_88 : decode cX5_moves 88 = .ok (.iastore, 1) := by decide +kernel
theorem dX5_moves_89 : decode cX5_moves 89 = .ok (.return_, 1) := by decide +kernel
theorem dX5_ticks_0 : decode cX5_ticks 0 = .ok (.aload_n 0, 1) := by decide +kernel
theorem dX5_ticks_1 : decode cX5_ticks 1 = .ok (.invokevirtual 77, 3) := by decide +kernel
theorem dX5_ticks_4 : decode cX5_ticks 4 = .ok (.istore_n 1, 1) := by decide +kernel
theorem dX5_ticks_5 : decode cX5_ticks 5 = .ok (.iload_n 1, 1) := by decide +kernel
theorem dX5_ticks_6 : decode cX5_ticks 6 = .ok (.aload_n 0, 1) := by decide +kernel
theorem dX5_ticks_7 : decode cX5_ticks 7 = .ok (.getfield 7, 3) := by decide +kernel
theorem dX5_ticks_10 : decode cX5_ticks 10 = .ok (.iconst 4, 1) := by decide +kernel
theorem dX5_ticks_11 : decode cX5_ticks 11 = .ok (.iaload, 1) := by decide +kernel
theorem dX5_ticks_12 : decode cX5_ticks 12 = .ok (.invokestatic 67, 3) := by decide +kernel
theorem dX5_ticks_15 : decode cX5_ticks 15 = .ok (.ifCond .eq 10, 3) := by decide +kernel
theorem dX5_ticks_18 : decode cX5_ticks 18 = .ok (.aload_n 0, 1) := by decide +kernel
theorem dX5_ticks_19 : decode cX5_ticks 19 = .ok (.invokevirtual 94, 3) := by decide +kernel
theorem dX5_ticks_22 : decode cX5_ticks 22 = .ok (.goto 26, 3) := by decide +kernel
theorem dX5_ticks_25 : decode cX5_ticks 25 = .ok (.iload_n 1, 1) := by decide +kernel
theorem dX5_ticks_26 : decode cX5_ticks 26 = .ok (.ifCond .eq 11, 3) := by decide +kernel
theorem dX5_ticks_29 : decode cX5_ticks 29 = .ok (.aload_n 0, 1) := by decide +kernel
theorem dX5_ticks_30 : decode cX5_ticks 30 = .ok (.iload_n 1, 1) := by decide +kernel
theorem dX5_ticks_31 : decode cX5_ticks 31 = .ok (.invokevirtual 97, 3) := by decide +kernel
theorem dX5_ticks_34 : decode cX5_ticks 34 = .ok (.goto 14, 3) := by decide +kernel
theorem dX5_ticks_37 : decode cX5_ticks 37 = .ok (.aload_n 0, 1) := by decide +kernel
theorem dX5_ticks_38 : decode cX5_ticks 38 = .ok (.getfield 7, 3) := by decide +kernel
theorem dX5_ticks_41 : decode cX5_ticks 41 = .ok (.bipush 8, 2) := by decide +kernel
theorem dX5_ticks_43 : decode cX5_ticks 43 = .ok (.dup2, 1) := by decide +kernel
theorem dX5_ticks_44 : decode cX5_ticks 44 = .ok (.iaload, 1) := by decide +kernel
theorem dX5_ticks_45 : decode cX5_ticks 45 = .ok (.iconst 1, 1) := by decide +kernel
theorem dX5_ticks_46 : decode cX5_ticks 46 = .ok (.iadd, 1) := by decide +kernel
theorem dX5_ticks_47 : decode cX5_ticks 47 = .ok (.iastore, 1) := by decide +kernel
theorem dX5_ticks_48 : decode cX5_ticks 48 = .ok (.aload_n 0, 1) := by decide +kernel
theorem dX5_ticks_49 : decode cX5_ticks 49 = .ok (.getfield 7, 3) := by decide +kernel
theorem dX5_ticks_52 : decode cX5_ticks 52 = .ok (.iconst 3, 1) := by decide +kernel
theorem dX5_ticks_53 : decode cX5_ticks 53 = .ok (.dup2, 1) := by decide +kernel
theorem dX5_ticks_54 : decode cX5_ticks 54 = .ok (.iaload, 1) := by decide +kernel
theorem dX5_ticks_55 : decode cX5_ticks 55 = .ok (.iconst 1, 1) := by decide +kernel
theorem dX5_ticks_56 : decode cX5_ticks 56 = .ok (.iadd, 1) := by decide +kernel
theorem dX5_ticks_57 : decode cX5_ticks 57 = .ok (.iastore, 1) := by decide +kernel
theorem dX5_ticks_58 : decode cX5_ticks 58 = .ok (.return_, 1) := by decide +kernel
theorem dX5_finishes_0 : decode cX5_finishes 0 = .ok (.iconst 0, 1) := by decide +kernel
theorem dX5_finishes_1 : decode cX5_finishes 1 = .ok (.istore_n 2, 1) := by decide +kernel
theorem dX5_finishes_2 : decode cX5_finishes 2 = .ok (.aload_n 0, 1) := by decide +kernel
theorem dX5_finishes_3 : decode cX5_finishes 3 = .ok (.invokevirtual 101, 3) := by decide +kernel
theorem dX5_finishes_6 : decode cX5_finishes 6 = .ok (.ifCond .ne 23, 3) := by decide +kernel
theorem dX5_finishes_9 : decode cX5_finishes 9 = .ok (.aload_n 0, 1) := by decide +kernel
theorem dX5_finishes_10 : decode cX5_finishes 10 = .ok (.getfield 7, 3) := by decide +kernel
theorem dX5_finishes_13 : decode cX5_finishes 13 = .ok (.iconst 3, 1) := by decide +kernel
theorem dX5_finishes_14 : decode cX5_finishes 14 = .ok (.iaload, 1) := by decide +kernel
theorem dX5_finishes_15 : decode cX5_finishes 15 = .ok (.iload_n 1, 1) := by decide +kernel
theorem dX5_finishes_16 : decode cX5_finishes 16 = .ok (.if_icmp .ge 13, 3) := by decide +kernel
theorem dX5_finishes_19 : decode cX5_finishes 19 = .ok (.aload_n 0, 1) := by decide +kernel
theorem dX5_finishes_20 : decode cX5_finishes 20 = .ok (.invokevirtual 104, 3) := by decide +kernel
theorem dX5_finishes_23 : decode cX5_finishes 23 = .ok (.iinc 2 1, 3) := by decide +kernel
theorem dX5_finishes_26 : decode cX5_finishes 26 = .ok (.goto (-24), 3) := by decide +kernel
theorem dX5_finishes_29 : decode cX5_finishes 29 = .ok (.iload_n 2, 1) := by decide +kernel
theorem dX5_finishes_30 : decode cX5_finishes 30 = .ok (.ireturn, 1) := by decide +kernel
theorem dX5_forecasts_0 : decode cX5_forecasts 0 = .ok (.aload_n 0, 1) := by decide +kernel
theorem dX5_forecasts_1 : decode cX5_forecasts 1 = .ok (.ldc 107, 2) := by decide +kernel
theorem dX5_forecasts_3 : decode cX5_forecasts 3 = .ok (.invokevirtual 108, 3) := by decide +kernel
theorem dX5_forecasts_6 : decode cX5_forecasts 6 = .ok (.ireturn, 1) := by decide +kernel
theorem dX5_keeps_0 : decode cX5_keeps 0 = .ok (.iconst 0, 1) := by decide +kernel
theorem dX5_keeps_1 : decode cX5_keeps 1 = .ok (.istore_n 2, 1) := by decide +kernel
theorem dX5_keeps_2 : decode cX5_keeps 2 = .ok (.iload_n 2, 1) := by decide +kernel
theorem dX5_keeps_3 : decode cX5_keeps 3 = .ok (.sipush 211, 3) := by decide +kernel
theorem dX5_keeps_6 : decode cX5_keeps 6 = .ok (.if_icmp .ge 27, 3) := by decide +kernel
theorem dX5_keeps_9 : decode cX5_keeps 9 = .ok (.aload_n 0, 1) := by decide +kernel
theorem dX5_keeps_10 : decode cX5_keeps 10 = .ok (.getfield 13, 3) := by decide +kernel
theorem dX5_keeps_13 : decode cX5_keeps 13 = .ok (.sipush 211, 3) := by decide +kernel
theorem dX5_keeps_16 : decode cX5_keeps 16 = .ok (.iload_n 1, 1) := by decide +kernel
theorem dX5_keeps_17 : decode cX5_keeps 17 = .ok (.imul, 1) := by decide +kernel
theorem dX5_keeps_18 : decode cX5_keeps 18 = .ok (.iload_n 2, 1) := by decide +kernel
theorem dX5_keeps_19 : decode cX5_keeps 19 = .ok (.iadd, 1) := by decide +kernel
theorem dX5_keeps_20 : decode cX5_keeps 20 = .ok (.aload_n 0, 1) := by decide +kernel
theorem dX5_keeps_21 : decode cX5_keeps 21 = .ok (.getfield 7, 3) := by decide +kernel
theorem dX5_keeps_24 : decode cX5_keeps 24 = .ok (.iload_n 2, 1) := by decide +kernel
theorem dX5_keeps_25 : decode cX5_keeps 25 = .ok (.iaload, 1) := by decide +kernel
theorem dX5_keeps_26 : decode cX5_keeps 26 = .ok (.iastore, 1) := by decide +kernel
theorem dX5_keeps_27 : decode cX5_keeps 27 = .ok (.iinc 2 1, 3) := by decide +kernel
theorem dX5_keeps_30 : decode cX5_keeps 30 = .ok (.goto (-28), 3) := by decide +kernel
theorem dX5_keeps_33 : decode cX5_keeps 33 = .ok (.return_, 1) := by decide +kernel
theorem dX5_bringsBack_0 : decode cX5_bringsBack 0 = .ok (.iconst 0, 1) := by decide +kernel
theorem dX5_bringsBack_1 : decode cX5_bringsBack 1 = .ok (.istore_n 2, 1) := by decide +kernel
theorem dX5_bringsBack_2 : decode cX5_bringsBack 2 = .ok (.iload_n 2, 1) := by decide +kernel
theorem dX5_bringsBack_3 : decode cX5_bringsBack 3 = .ok (.sipush 211, 3) := by decide +kernel
theorem dX5_bringsBack_6 : decode cX5_bringsBack 6 = .ok (.if_icmp .ge 27, 3) := by decide +kernel
theorem dX5_bringsBack_9 : decode cX5_bringsBack 9 = .ok (.aload_n 0, 1) := by decide +kernel
theorem dX5_bringsBack_10 : decode cX5_bringsBack 10 = .ok (.getfield 7, 3) := by decide +kernel
theorem dX5_bringsBack_13 : decode cX5_bringsBack 13 = .ok (.iload_n 2, 1) := by decide +kernel
theorem dX5_bringsBack_14 : decode cX5_bringsBack 14 = .ok (.aload_n 0, 1) := by decide +kernel
theorem dX5_bringsBack_15 : decode cX5_bringsBack 15 = .ok (.getfield 13, 3) := by decide +kernel
theorem dX5_bringsBack_18 : decode cX5_bringsBack 18 = .ok (.sipush 211, 3) := by decide +kernel
theorem dX5_bringsBack_21 : decode cX5_bringsBack 21 = .ok (.iload_n 1, 1) := by decide +kernel
theorem dX5_bringsBack_22 : decode cX5_bringsBack 22 = .ok (.imul, 1) := by decide +kernel
theorem dX5_bringsBack_23 : decode cX5_bringsBack 23 = .ok (.iload_n 2, 1) := by decide +kernel
theorem dX5_bringsBack_24 : decode cX5_bringsBack 24 = .ok (.iadd, 1) := by decide +kernel
theorem dX5_bringsBack_25 : decode cX5_bringsBack 25 = .ok (.iaload, 1) := by decide +kernel
theorem dX5_bringsBack_26 : decode cX5_bringsBack 26 = .ok (.iastore, 1) := by decide +kernel
theorem dX5_bringsBack_27 : decode cX5_bringsBack 27 = .ok (.iinc 2 1, 3) := by decide +kernel
theorem dX5_bringsBack_30 : decode cX5_bringsBack 30 = .ok (.goto (-28), 3) := by decide +kernel
theorem dX5_bringsBack_33 : decode cX5_bringsBack 33 = .ok (.return_, 1) := by decide +kernel
theorem dX5_records_0 : decode cX5_records 0 = .ok (.aload_n 0, 1) := by decide +kernel
theorem dX5_records_1 : decode cX5_records 1 = .ok (.getfield 111, 3) := by decide +kernel
theorem dX5_records_4 : decode cX5_records 4 = .ok (.bipush 8, 2) := by decide +kernel
theorem dX5_records_6 : decode cX5_records 6 = .ok (.if_icmp .ne 44, 3) := by decide +kernel
theorem dX5_records_9 : decode cX5_records 9 = .ok (.iconst 0, 1) := by decide +kernel
theorem dX5_records_10 : decode cX5_records 10 = .ok (.istore_n 1, 1) := by decide +kernel
theorem dX5_records_11 : decode cX5_records 11 = .ok (.iload_n 1, 1) := by decide +kernel
theorem dX5_records_12 : decode cX5_records 12 = .ok (.sipush 1477, 3) := by decide +kernel
theorem dX5_records_15 : decode cX5_records 15 = .ok (.if_icmp .ge 25, 3) := by decide +kernel
theorem dX5_records_18 : decode cX5_records 18 = .ok (.aload_n 0, 1) := by decide +kernel
theorem dX5_records_19 : decode cX5_records 19 = .ok (.getfield 13, 3) := by decide +kernel
theorem dX5_records_22 : decode cX5_records 22 = .ok (.iload_n 1, 1) := by decide +kernel
theorem dX5_records_23 : decode cX5_records 23 = .ok (.aload_n 0, 1) := by decide +kernel
theorem dX5_records_24 : decode cX5_records 24 = .ok (.getfield 13, 3) := by decide +kernel
theorem dX5_records_27 : decode cX5_records 27 = .ok (.iload_n 1, 1) := by decide +kernel
theorem dX5_records_28 : decode cX5_records 28 = .ok (.sipush 211, 3) := by decide +kernel
theorem dX5_records_31 : decode cX5_records 31 = .ok (.iadd, 1) := by decide +kernel
theorem dX5_records_32 : decode cX5_records 32 = .ok (.iaload, 1) := by decide +kernel
theorem dX5_records_33 : decode cX5_records 33 = .ok (.iastore, 1) := by decide +kernel
theorem dX5_records_34 : decode cX5_records 34 = .ok (.iinc 1 1, 3) := by decide +kernel
theorem dX5_records_37 : decode cX5_records 37 = .ok (.goto (-26), 3) := by decide +kernel
theorem dX5_records_40 : decode cX5_records 40 = .ok (.aload_n 0, 1) := by decide +kernel
theorem dX5_records_41 : decode cX5_records 41 = .ok (.dup, 1) := by decide +kernel
theorem dX5_records_42 : decode cX5_records 42 = .ok (.getfield 111, 3) := by decide +kernel
theorem dX5_records_45 : decode cX5_records 45 = .ok (.iconst 1, 1) := by decide +kernel
theorem dX5_records_46 : decode cX5_records 46 = .ok (.isub, 1) := by decide +kernel
theorem dX5_records_47 : decode cX5_records 47 = .ok (.putfield 111, 3) := by decide +kernel
theorem dX5_records_50 : decode cX5_records 50 = .ok (.aload_n 0, 1) := by decide +kernel
theorem dX5_records_51 : decode cX5_records 51 = .ok (.aload_n 0, 1) := by decide +kernel
theorem dX5_records_52 : decode cX5_records 52 = .ok (.getfield 111, 3) := by decide +kernel
theorem dX5_records_55 : decode cX5_records 55 = .ok (.invokevirtual 114, 3) := by decide +kernel
theorem dX5_records_58 : decode cX5_records 58 = .ok (.aload_n 0, 1) := by decide +kernel
theorem dX5_records_59 : decode cX5_records 59 = .ok (.dup, 1) := by decide +kernel
theorem dX5_records_60 : decode cX5_records 60 = .ok (.getfield 111, 3) := by decide +kernel
theorem dX5_records_63 : decode cX5_records 63 = .ok (.iconst 1, 1) := by decide +kernel
theorem dX5_records_64 : decode cX5_records 64 = .ok (.iadd, 1) := by decide +kernel
theorem dX5_records_65 : decode cX5_records 65 = .ok (.putfield 111, 3) := by decide +kernel
theorem dX5_records_68 : decode cX5_records 68 = .ok (.return_, 1) := by decide +kernel
theorem dX5_append_0 : decode cX5_append 0 = .ok (.aload_n 0, 1) := by decide +kernel
theorem dX5_append_1 : decode cX5_append 1 = .ok (.iconst 0, 1) := by decide +kernel
theorem dX5_append_2 : decode cX5_append 2 = .ok (.putfield 27, 3) := by decide +kernel
theorem dX5_append_5 : decode cX5_append 5 = .ok (.aload_n 0, 1) := by decide +kernel
theorem dX5_append_6 : decode cX5_append 6 = .ok (.getfield 117, 3) := by decide +kernel
theorem dX5_append_9 : decode cX5_append 9 = .ok (.bipush 20, 2) := by decide +kernel
theorem dX5_append_11 : decode cX5_append 11 = .ok (.iadd, 1) := by decide +kernel
theorem dX5_append_12 : decode cX5_append 12 = .ok (.sipush 500, 3) := by decide +kernel
theorem dX5_append_15 : decode cX5_append 15 = .ok (.if_icmp .le 5, 3) := by decide +kernel
theorem dX5_append_18 : decode cX5_append 18 = .ok (.iconst (-1), 1) := by decide +kernel
theorem dX5_append_19 : decode cX5_append 19 = .ok (.ireturn, 1) := by decide +kernel
theorem dX5_append_20 : decode cX5_append 20 = .ok (.iconst 0, 1) := by decide +kernel
theorem dX5_append_21 : decode cX5_append 21 = .ok (.istore 6, 2) := by decide +kernel
theorem dX5_append_23 : decode cX5_append 23 = .ok (.iload 6, 2) := by decide +kernel
theorem dX5_append_25 : decode cX5_append 25 = .ok (.bipush 20, 2) := by decide +kernel
theorem dX5_append_27 : decode cX5_append 27 = .ok (.if_icmp .ge 90, 3) := by decide +kernel
theorem dX5_append_30 : decode cX5_append 30 = .ok (.iload 6, 2) := by decide +kernel
theorem dX5_append_32 : decode cX5_append 32 = .ok (.iconst 4, 1) := by decide +kernel
theorem dX5_append_33 : decode cX5_append 33 = .ok (.if_icmp .ge 7, 3) := by decide +kernel
theorem dX5_append_36 : decode cX5_append 36 = .ok (.iload_n 1, 1) := by decide +kernel
theorem dX5_append_37 : decode cX5_append 37 = .ok (.goto 39, 3) := by decide +kernel
theorem dX5_append_40 : decode cX5_append 40 = .ok (.iload 6, 2) := by decide +kernel
theorem dX5_append_42 : decode cX5_append 42 = .ok (.bipush 8, 2) := by decide +kernel
theorem dX5_append_44 : decode cX5_append 44 = .ok (.if_icmp .ge 7, 3) := by decide +kernel
theorem dX5_append_47 : decode cX5_append 47 = .ok (.iload_n 2, 1) := by decide +kernel
theorem dX5_append_48 : decode cX5_append 48 = .ok (.goto 28, 3) := by decide +kernel
theorem dX5_append_51 : decode cX5_append 51 = .ok (.iload 6, 2) := by decide +kernel
theorem dX5_append_53 : decode cX5_append 53 = .ok (.bipush 12, 2) := by decide +kernel
theorem dX5_append_55 : decode cX5_append 55 = .ok (.if_icmp .ge 7, 3) := by decide +kernel
theorem dX5_append_58 : decode cX5_append 58 = .ok (.iload_n 3, 1) := by decide +kernel
theorem dX5_append_59 : decode cX5_append 59 = .ok (.goto 17, 3) := by decide +kernel
theorem dX5_append_62 : decode cX5_append 62 = .ok (.iload 6, 2) := by decide +kernel
theorem dX5_append_64 : decode cX5_append 64 = .ok (.bipush 16, 2) := by decide +kernel
theorem dX5_append_66 : decode cX5_append 66 = .ok (.if_icmp .ge 8, 3) := by decide +kernel
theorem dX5_append_69 : decode cX5_append 69 = .ok (.iload 4, 2) := by decide +kernel
theorem dX5_append_71 : decode cX5_append 71 = .ok (.goto 5, 3) := by decide +kernel
theorem dX5_append_74 : decode cX5_append 74 = .ok (.iload 5, 2) := by decide +kernel
theorem dX5_append_76 : decode cX5_append 76 = .ok (.istore 7, 2) := by decide +kernel
theorem dX5_append_78 : decode cX5_append 78 = .ok (.aload_n 0, 1) := by decide +kernel
theorem dX5_append_79 : decode cX5_append 79 = .ok (.getfield 16, 3) := by decide +kernel
theorem dX5_append_82 : decode cX5_append 82 = .ok (.aload_n 0, 1) := by decide +kernel
theorem dX5_append_83 : decode cX5_append 83 = .ok (.getfield 117, 3) := by decide +kernel
theorem dX5_append_86 : decode cX5_append 86 = .ok (.iload 7, 2) := by decide +kernel
theorem dX5_append_88 : decode cX5_append 88 = .ok (.bipush 24, 2) := by decide +kernel
theorem dX5_append_90 : decode cX5_append 90 = .ok (.bipush 8, 2) := by decide +kernel
theorem dX5_append_92 : decode cX5_append 92 = .ok (.iload 6, 2) := by decide +kernel
theorem dX5_append_94 : decode cX5_append 94 = .ok (.iconst 4, 1) := by decide +kernel
theorem dX5_append_95 : decode cX5_append 95 = .ok (.irem, 1) := by decide +kernel
theorem dX5_append_96 : decode cX5_append 96 = .ok (.imul, 1) := by decide +kernel
theorem dX5_append_97 : decode cX5_append 97 = .ok (.isub, 1) := by decide +kernel
theorem dX5_append_98 : decode cX5_append 98 = .ok (.ishr, 1) := by decide +kernel
theorem dX5_append_99 : decode cX5_append 99 = .ok (.i2b, 1) := by decide +kernel
theorem dX5_append_100 : decode cX5_append 100 = .ok (.bastore, 1) := by decide +kernel
theorem dX5_append_101 : decode cX5_append 101 = .ok (.aload_n 0, 1) := by decide +kernel
theorem dX5_append_102 : decode cX5_append 102 = .ok (.dup, 1) := by decide +kernel
theorem dX5_append_103 : decode cX5_append 103 = .ok (.getfield 117, 3) := by decide +kernel
theorem dX5_append_106 : decode cX5_append 106 = .ok (.iconst 1, 1) := by decide +kernel
theorem dX5_append_107 : decode cX5_append 107 = .ok (.iadd, 1) := by decide +kernel
theorem dX5_append_108 : decode cX5_append 108 = .ok (.putfield 117, 3) := by decide +kernel
theorem dX5_append_111 : decode cX5_append 111 = .ok (.iinc 6 1, 3) := by decide +kernel
theorem dX5_append_114 : decode cX5_append 114 = .ok (.goto (-91), 3) := by decide +kernel
theorem dX5_append_117 : decode cX5_append 117 = .ok (.aload_n 0, 1) := by decide +kernel
theorem dX5_append_118 : decode cX5_append 118 = .ok (.getfield 117, 3) := by decide +kernel
theorem dX5_append_121 : decode cX5_append 121 = .ok (.ireturn, 1) := by decide +kernel
theorem dX5_truncate_0 : decode cX5_truncate 0 = .ok (.aload_n 0, 1) := by decide +kernel
theorem dX5_truncate_1 : decode cX5_truncate 1 = .ok (.iconst 0, 1) := by decide +kernel
theorem dX5_truncate_2 : decode cX5_truncate 2 = .ok (.putfield 27, 3) := by decide +kernel
theorem dX5_truncate_5 : decode cX5_truncate 5 = .ok (.iload_n 1, 1) := by decide +kernel
theorem dX5_truncate_6 : decode cX5_truncate 6 = .ok (.ifCond .lt 11, 3) := by decide +kernel
theorem dX5_truncate_9 : decode cX5_truncate 9 = .ok (.iload_n 1, 1) := by decide +kernel
theorem dX5_truncate_10 : decode cX5_truncate 10 = .ok (.aload_n 0, 1) := by decide +kernel
theorem dX5_truncate_11 : decode cX5_truncate 11 = .ok (.getfield 117, 3) := by decide +kernel
theorem dX5_truncate_14 : decode cX5_truncate 14 = .ok (.if_icmp .le 5, 3) := by decide +kernel
theorem dX5_truncate_17 : decode cX5_truncate 17 = .ok (.iconst 0, 1) := by decide +kernel
theorem dX5_truncate_18 : decode cX5_truncate 18 = .ok (.ireturn, 1) := by decide +kernel
theorem dX5_truncate_19 : decode cX5_truncate 19 = .ok (.aload_n 0, 1) := by decide +kernel
theorem dX5_truncate_20 : decode cX5_truncate 20 = .ok (.iload_n 1, 1) := by decide +kernel
theorem dX5_truncate_21 : decode cX5_truncate 21 = .ok (.putfield 117, 3) := by decide +kernel
theorem dX5_truncate_24 : decode cX5_truncate 24 = .ok (.iconst 1, 1) := by decide +kernel
theorem dX5_truncate_25 : decode cX5_truncate 25 = .ok (.ireturn, 1) := by decide +kernel
theorem dX5_byteAt_0 : decode cX5_byteAt 0 = .ok (.iload_n 1, 1) := by decide +kernel
theorem dX5_byteAt_1 : decode cX5_byteAt 1 = .ok (.aload_n 0, 1) := by decide +kernel
theorem dX5_byteAt_2 : decode cX5_byteAt 2 = .ok (.getfield 120, 3) := by decide +kernel
theorem dX5_byteAt_5 : decode cX5_byteAt 5 = .ok (.if_icmp .ge 16, 3) := by decide +kernel
theorem dX5_byteAt_8 : decode cX5_byteAt 8 = .ok (.aload_n 0, 1) := by decide +kernel
theorem dX5_byteAt_9 : decode cX5_byteAt 9 = .ok (.getfield 16, 3) := by decide +kernel
theorem dX5_byteAt_12 : decode cX5_byteAt 12 = .ok (.iload_n 1, 1) := by decide +kernel
theorem dX5_byteAt_13 : decode cX5_byteAt 13 = .ok (.baload, 1) := by decide +kernel
theorem dX5_byteAt_14 : decode cX5_byteAt 14 = .ok (.sipush 255, 3) := by decide +kernel
theorem dX5_byteAt_17 : decode cX5_byteAt 17 = .ok (.iand, 1) := by decide +kernel
theorem dX5_byteAt_18 : decode cX5_byteAt 18 = .ok (.goto 4, 3) := by decide +kernel
theorem dX5_byteAt_21 : decode cX5_byteAt 21 = .ok (.iconst (-1), 1) := by decide +kernel
theorem dX5_byteAt_22 : decode cX5_byteAt 22 = .ok (.ireturn, 1) := by decide +kernel
theorem dX5_peek_0 : decode cX5_peek 0 = .ok (.aload_n 0, 1) := by decide +kernel
theorem dX5_peek_1 : decode cX5_peek 1 = .ok (.aload_n 0, 1) := by decide +kernel
theorem dX5_peek_2 : decode cX5_peek 2 = .ok (.getfield 123, 3) := by decide +kernel
theorem dX5_peek_5 : decode cX5_peek 5 = .ok (.invokevirtual 126, 3) := by decide +kernel
theorem dX5_peek_8 : decode cX5_peek 8 = .ok (.bipush 32, 2) := by decide +kernel
theorem dX5_peek_10 : decode cX5_peek 10 = .ok (.if_icmp .eq 29, 3) := by decide +kernel
theorem dX5_peek_13 : decode cX5_peek 13 = .ok (.aload_n 0, 1) := by decide +kernel
theorem dX5_peek_14 : decode cX5_peek 14 = .ok (.aload_n 0, 1) := by decide +kernel
theorem dX5_peek_15 : decode cX5_peek 15 = .ok (.getfield 123, 3) := by decide +kernel
theorem dX5_peek_18 : decode cX5_peek 18 = .ok (.invokevirtual 126, 3) := by decide +kernel
theorem dX5_peek_21 : decode cX5_peek 21 = .ok (.bipush 9, 2) := by decide +kernel
theorem dX5_peek_23 : decode cX5_peek 23 = .ok (.if_icmp .eq 16, 3) := by decide +kernel
theorem dX5_peek_26 : decode cX5_peek 26 = .ok (.aload_n 0, 1) := by decide +kernel
theorem dX5_peek_27 : decode cX5_peek 27 = .ok (.aload_n 0, 1) := by decide +kernel
theorem dX5_peek_28 : decode cX5_peek 28 = .ok (.getfield 123, 3) := by decide +kernel
theorem dX5_peek_31 : decode cX5_peek 31 = .ok (.invokevirtual 126, 3) := by decide +kernel
theorem dX5_peek_34 : decode cX5_peek 34 = .ok (.bipush 10, 2) := by decide +kernel
theorem dX5_peek_36 : decode cX5_peek 36 = .ok (.if_icmp .ne 16, 3) := by decide +kernel
theorem dX5_peek_39 : decode cX5_peek 39 = .ok (.aload_n 0, 1) := by decide +kernel
theorem dX5_peek_40 : decode cX5_peek 40 = .ok (.dup, 1) := by decide +kernel
theorem dX5_peek_41 : decode cX5_peek 41 = .ok (.getfield 123, 3) := by decide +kernel
theorem dX5_peek_44 : decode cX5_peek 44 = .ok (.iconst 1, 1) := by decide +kernel
theorem dX5_peek_45 : decode cX5_peek 45 = .ok (.iadd, 1) := by decide +kernel
theorem dX5_peek_46 : decode cX5_peek 46 = .ok (.putfield 123, 3) := by decide +kernel
theorem dX5_peek_49 : decode cX5_peek 49 = .ok (.goto (-49), 3) := by decide +kernel
theorem dX5_peek_52 : decode cX5_peek 52 = .ok (.aload_n 0, 1) := by decide +kernel
theorem dX5_peek_53 : decode cX5_peek 53 = .ok (.aload_n 0, 1) := by decide +kernel
theorem dX5_peek_54 : decode cX5_peek 54 = .ok (.getfield 123, 3) := by decide +kernel
theorem dX5_peek_57 : decode cX5_peek 57 = .ok (.invokevirtual 126, 3) := by decide +kernel
theorem dX5_peek_60 : decode cX5_peek 60 = .ok (.ireturn, 1) := by decide +kernel
theorem dX5_failed_0 : decode cX5_failed 0 = .ok (.aload_n 0, 1) := by decide +kernel
theorem dX5_failed_1 : decode cX5_failed 1 = .ok (.getfield 129, 3) := by decide +kernel
theorem dX5_failed_4 : decode cX5_failed 4 = .ok (.ifCond .eq 7, 3) := by decide +kernel
theorem dX5_failed_7 : decode cX5_failed 7 = .ok (.iconst 1, 1) := by decide +kernel
theorem dX5_failed_8 : decode cX5_failed 8 = .ok (.goto 4, 3) := by decide +kernel
theorem dX5_failed_11 : decode cX5_failed 11 = .ok (.iconst 0, 1) := by decide +kernel
theorem dX5_failed_12 : decode cX5_failed 12 = .ok (.ireturn, 1) := by decide +kernel
theorem dX5_fail_0 : decode cX5_fail 0 = .ok (.aload_n 0, 1) := by decide +kernel
theorem dX5_fail_1 : decode cX5_fail 1 = .ok (.getfield 129, 3) := by decide +kernel
theorem dX5_fail_4 : decode cX5_fail 4 = .ok (.ifCond .ne 13, 3) := by decide +kernel
theorem dX5_fail_7 : decode cX5_fail 7 = .ok (.aload_n 0, 1) := by decide +kernel
theorem dX5_fail_8 : decode cX5_fail 8 = .ok (.iload_n 1, 1) := by decide +kernel
theorem dX5_fail_9 : decode cX5_fail 9 = .ok (.putfield 129, 3) := by decide +kernel
theorem dX5_fail_12 : decode cX5_fail 12 = .ok (.aload_n 0, 1) := by decide +kernel
theorem dX5_fail_13 : decode cX5_fail 13 = .ok (.iload_n 2, 1) := by decide +kernel
theorem dX5_fail_14 : decode cX5_fail 14 = .ok (.putfield 20, 3) := by decide +kernel
theorem dX5_fail_17 : decode cX5_fail 17 = .ok (.return_, 1) := by decide +kernel
theorem dX5_begins_0 : decode cX5_begins 0 = .ok (.aload_n 0, 1) := by decide +kernel
theorem dX5_begins_1 : decode cX5_begins 1 = .ok (.bipush 10, 2) := by decide +kernel
theorem dX5_begins_3 : decode cX5_begins 3 = .ok (.invokevirtual 114, 3) := by decide +kernel
theorem dX5_begins_6 : decode cX5_begins 6 = .ok (.aload_n 0, 1) := by decide +kernel
theorem dX5_begins_7 : decode cX5_begins 7 = .ok (.aload_n 0, 1) := by decide +kernel
theorem dX5_begins_8 : decode cX5_begins 8 = .ok (.getfield 117, 3) := by decide +kernel
theorem dX5_begins_11 : decode cX5_begins 11 = .ok (.putfield 120, 3) := by decide +kernel
theorem dX5_begins_14 : decode cX5_begins 14 = .ok (.aload_n 0, 1) := by decide +kernel
theorem dX5_begins_15 : decode cX5_begins 15 = .ok (.iconst 0, 1) := by decide +kernel
theorem dX5_begins_16 : decode cX5_begins 16 = .ok (.putfield 117, 3) := by decide +kernel
theorem dX5_begins_19 : decode cX5_begins 19 = .ok (.aload_n 0, 1) := by decide +kernel
theorem dX5_begins_20 : decode cX5_begins 20 = .ok (.iconst 0, 1) := by decide +kernel
theorem dX5_begins_21 : decode cX5_begins 21 = .ok (.putfield 123, 3) := by decide +kernel
theorem dX5_begins_24 : decode cX5_begins 24 = .ok (.aload_n 0, 1) := by decide +kernel
theorem dX5_begins_25 : decode cX5_begins 25 = .ok (.iconst 0, 1) := by decide +kernel
theorem dX5_begins_26 : decode cX5_begins 26 = .ok (.putfield 129, 3) := by decide +kernel
theorem dX5_begins_29 : decode cX5_begins 29 = .ok (.aload_n 0, 1) := by decide +kernel
theorem dX5_begins_30 : decode cX5_begins 30 = .ok (.iconst (-1), 1) := by decide +kernel
theorem dX5_begins_31 : decode cX5_begins 31 = .ok (.putfield 20, 3) := by decide +kernel
theorem dX5_begins_34 : decode cX5_begins 34 = .ok (.return_, 1) := by decide +kernel
theorem dX5_accepts_0 : decode cX5_accepts 0 = .ok (.aload_n 0, 1) := by decide +kernel
theorem dX5_accepts_1 : decode cX5_accepts 1 = .ok (.invokevirtual 132, 3) := by decide +kernel
theorem dX5_accepts_4 : decode cX5_accepts 4 = .ok (.istore_n 2, 1) := by decide +kernel
theorem dX5_accepts_5 : decode cX5_accepts 5 = .ok (.aload_n 0, 1) := by decide +kernel
theorem dX5_accepts_6 : decode cX5_accepts 6 = .ok (.getfield 123, 3) := by decide +kernel
theorem dX5_accepts_9 : decode cX5_accepts 9 = .ok (.istore_n 3, 1) := by decide +kernel
theorem dX5_accepts_10 : decode cX5_accepts 10 = .ok (.aload_n 0, 1) := by decide +kernel
theorem dX5_accepts_11 : decode cX5_accepts 11 = .ok (.iload_n 3, 1) := by decide +kernel
theorem dX5_accepts_12 : decode cX5_accepts 12 = .ok (.invokevirtual 126, 3) := by decide +kernel
theorem dX5_accepts_15 : decode cX5_accepts 15 = .ok (.bipush 97, 2) := by decide +kernel
theorem dX5_accepts_17 : decode cX5_accepts 17 = .ok (.bipush 122, 2) := by decide +kernel
theorem dX5_accepts_19 : decode cX5_accepts 19 = .ok (.invokestatic 63, 3) := by decide +kernel
theorem dX5_accepts_22 : decode cX5_accepts 22 = .ok (.ifCond .eq 9, 3) := by decide +kernel
theorem dX5_accepts_25 : decode cX5_accepts 25 = .ok (.iinc 3 1, 3) := by decide +kernel
theorem dX5_accepts_28 : decode cX5_accepts 28 = .ok (.goto (-18), 3) := by decide +kernel
theorem dX5_accepts_31 : decode cX5_accepts 31 = .ok (.aload_n 0, 1) := by decide +kernel
theorem dX5_accepts_32 : decode cX5_accepts 32 = .ok (.invokevirtual 135, 3) := by decide +kernel
theorem dX5_accepts_35 : decode cX5_accepts 35 = .ok (.ifCond .ne 20, 3) := by decide +kernel
theorem dX5_accepts_38 : decode cX5_accepts 38 = .ok (.iload_n 3, 1) := by decide +kernel
theorem dX5_accepts_39 : decode cX5_accepts 39 = .ok (.aload_n 0, 1) := by decide +kernel
theorem dX5_accepts_40 : decode cX5_accepts 40 = .ok (.getfield 123, 3) := by decide +kernel
theorem dX5_accepts_43 : decode cX5_accepts 43 = .ok (.isub, 1) := by decide +kernel
theorem dX5_accepts_44 : decode cX5_accepts 44 = .ok (.aload_n 1, 1) := by decide +kernel
theorem dX5_accepts_45 : decode cX5_accepts 45 = .ok (.invokevirtual 138, 3) := by decide +kernel
theorem dX5_accepts_48 : decode cX5_accepts 48 = .ok (.if_icmp .ne 7, 3) := by decide +kernel
theorem dX5_accepts_51 : decode cX5_accepts 51 = .ok (.iconst 1, 1) := by decide +kernel
theorem dX5_accepts_52 : decode cX5_accepts 52 = .ok (.goto 4, 3) := by decide +kernel
theorem dX5_accepts_55 : decode cX5_accepts 55 = .ok (.iconst 0, 1) := by decide +kernel
theorem dX5_accepts_56 : decode cX5_accepts 56 = .ok (.istore 4, 2) := by decide +kernel
theorem dX5_accepts_58 : decode cX5_accepts 58 = .ok (.iconst 0, 1) := by decide +kernel
theorem dX5_accepts_59 : decode cX5_accepts 59 = .ok (.istore 5, 2) := by decide +kernel
theorem dX5_accepts_61 : decode cX5_accepts 61 = .ok (.iload 5, 2) := by decide +kernel
theorem dX5_accepts_63 : decode cX5_accepts 63 = .ok (.aload_n 1, 1) := by decide +kernel
theorem dX5_accepts_64 : decode cX5_accepts 64 = .ok (.invokevirtual 138, 3) := by decide +kernel
theorem dX5_accepts_67 : decode cX5_accepts 67 = .ok (.if_icmp .ge 41, 3) := by decide +kernel
theorem dX5_accepts_70 : decode cX5_accepts 70 = .ok (.iload 4, 2) := by decide +kernel
theorem dX5_accepts_72 : decode cX5_accepts 72 = .ok (.ifCond .eq 36, 3) := by decide +kernel
theorem dX5_accepts_75 : decode cX5_accepts 75 = .ok (.aload_n 0, 1) := by decide +kernel
theorem dX5_accepts_76 : decode cX5_accepts 76 = .ok (.aload_n 0, 1) := by decide +kernel
theorem dX5_accepts_77 : decode cX5_accepts 77 = .ok (.getfield 123, 3) := by decide +kernel
theorem dX5_accepts_80 : decode cX5_accepts 80 = .ok (.iload 5, 2) := by decide +kernel
theorem dX5_accepts_82 : decode cX5_accepts 82 = .ok (.iadd, 1) := by decide +kernel
theorem dX5_accepts_83 : decode cX5_accepts 83 = .ok (.invokevirtual 126, 3) := by decide +kernel
theorem dX5_accepts_86 : decode cX5_accepts 86 = .ok (.aload_n 1, 1) := by decide +kernel
theorem dX5_accepts_87 : decode cX5_accepts 87 = .ok (.iload 5, 2) := by decide +kernel
theorem dX5_accepts_89 : decode cX5_accepts 89 = .ok (.invokevirtual 143, 3) := by decide +kernel
theorem dX5_accepts_92 : decode cX5_accepts 92 = .ok (.if_icmp .ne 7, 3) := by decide +kernel
theorem dX5_accepts_95 : decode cX5_accepts 95 = .ok (.iconst 1, 1) := by decide +kernel
theorem dX5_accepts_96 : decode cX5_accepts 96 = .ok (.goto 4, 3) := by decide +kernel
theorem dX5_accepts_99 : decode cX5_accepts 99 = .ok (.iconst 0, 1) := by decide +kernel
theorem dX5_accepts_100 : decode cX5_accepts 100 = .ok (.istore 4, 2) := by decide +kernel
theorem dX5_accepts_102 : decode cX5_accepts 102 = .ok (.iinc 5 1, 3) := by decide +kernel
theorem dX5_accepts_105 : decode cX5_accepts 105 = .ok (.goto (-44), 3) := by decide +kernel
theorem dX5_accepts_108 : decode cX5_accepts 108 = .ok (.iload 4, 2) := by decide +kernel
theorem dX5_accepts_110 : decode cX5_accepts 110 = .ok (.ifCond .eq 16, 3) := by decide +kernel
theorem dX5_accepts_113 : decode cX5_accepts 113 = .ok (.aload_n 0, 1) := by decide +kernel
theorem dX5_accepts_114 : decode cX5_accepts 114 = .ok (.dup, 1) := by decide +kernel
theorem dX5_accepts_115 : decode cX5_accepts 115 = .ok (.getfield 123, 3) := by decide +kernel
theorem dX5_accepts_118 : decode cX5_accepts 118 = .ok (.aload_n 1, 1) := by decide +kernel
theorem dX5_accepts_119 : decode cX5_accepts 119 = .ok (.invokevirtual 138, 3) := by decide +kernel
theorem dX5_accepts_122 : decode cX5_accepts 122 = .ok (.iadd, 1) := by decide +kernel
theorem dX5_accepts_123 : decode cX5_accepts 123 = .ok (.putfield 123, 3) := by decide +kernel
theorem dX5_accepts_126 : decode cX5_accepts 126 = .ok (.iload 4, 2) := by decide +kernel
theorem dX5_accepts_128 : decode cX5_accepts 128 = .ok (.ireturn, 1) := by decide +kernel
theorem dX5_number_0 : decode cX5_number 0 = .ok (.aload_n 0, 1) := by decide +kernel
theorem dX5_number_1 : decode cX5_number 1 = .ok (.invokevirtual 135, 3) := by decide +kernel
theorem dX5_number_4 : decode cX5_number 4 = .ok (.ifCond .eq 5, 3) := by decide +kernel
theorem dX5_number_7 : decode cX5_number 7 = .ok (.iload_n 1, 1) := by decide +kernel
theorem dX5_number_8 : decode cX5_number 8 = .ok (.ireturn, 1) := by decide +kernel
theorem dX5_number_9 : decode cX5_number 9 = .ok (.aload_n 0, 1) := by decide +kernel
theorem dX5_number_10 : decode cX5_number 10 = .ok (.invokevirtual 132, 3) := by decide +kernel
theorem dX5_number_13 : decode cX5_number 13 = .ok (.bipush 48, 2) := by decide +kernel
theorem dX5_number_15 : decode cX5_number 15 = .ok (.bipush 57, 2) := by decide +kernel
theorem dX5_number_17 : decode cX5_number 17 = .ok (.invokestatic 63, 3) := by decide +kernel
theorem dX5_number_20 : decode cX5_number 20 = .ok (.ifCond .ne 14, 3) := by decide +kernel
theorem dX5_number_23 : decode cX5_number 23 = .ok (.aload_n 0, 1) := by decide +kernel
theorem dX5_number_24 : decode cX5_number 24 = .ok (.iconst 1, 1) := by decide +kernel
theorem dX5_number_25 : decode cX5_number 25 = .ok (.aload_n 0, 1) := by decide +kernel
theorem dX5_number_26 : decode cX5_number 26 = .ok (.getfield 123, 3) := by decide +kernel
theorem dX5_number_29 : decode cX5_number 29 = .ok (.invokevirtual 147, 3) := by decide +kernel
theorem dX5_number_32 : decode cX5_number 32 = .ok (.iload_n 1, 1) := by decide +kernel
theorem dX5_number_33 : decode cX5_number 33 = .ok (.ireturn, 1) := by decide +kernel
theorem dX5_number_34 : decode cX5_number 34 = .ok (.aload_n 0, 1) := by decide +kernel
theorem dX5_number_35 : decode cX5_number 35 = .ok (.aload_n 0, 1) := by decide +kernel
theorem dX5_number_36 : decode cX5_number 36 = .ok (.getfield 123, 3) := by decide +kernel
theorem dX5_number_39 : decode cX5_number 39 = .ok (.putfield 151, 3) := by decide +kernel
theorem dX5_number_42 : decode cX5_number 42 = .ok (.iconst 0, 1) := by decide +kernel
theorem dX5_number_43 : decode cX5_number 43 = .ok (.istore_n 3, 1) := by decide +kernel
theorem dX5_number_44 : decode cX5_number 44 = .ok (.aload_n 0, 1) := by decide +kernel
theorem dX5_number_45 : decode cX5_number 45 = .ok (.aload_n 0, 1) := by decide +kernel
theorem dX5_number_46 : decode cX5_number 46 = .ok (.getfield 123, 3) := by decide +kernel
theorem dX5_number_49 : decode cX5_number 49 = .ok (.invokevirtual 126, 3) := by decide +kernel
theorem dX5_number_52 : decode cX5_number 52 = .ok (.bipush 48, 2) := by decide +kernel
theorem dX5_number_54 : decode cX5_number 54 = .ok (.bipush 57, 2) := by decide +kernel
theorem dX5_number_56 : decode cX5_number 56 = .ok (.invokestatic 63, 3) := by decide +kernel
theorem dX5_number_59 : decode cX5_number 59 = .ok (.ifCond .eq 46, 3) := by decide +kernel
theorem dX5_number_62 : decode cX5_number 62 = .ok (.aload_n 0, 1) := by decide +kernel
theorem dX5_number_63 : decode cX5_number 63 = .ok (.getfield 123, 3) := by decide +kernel
theorem dX5_number_66 : decode cX5_number 66 = .ok (.aload_n 0, 1) := by decide +kernel
theorem dX5_number_67 : decode cX5_number 67 = .ok (.getfield 151, 3) := by decide +kernel
theorem dX5_number_70 : decode cX5_number 70 = .ok (.isub, 1) := by decide +kernel
theorem dX5_number_71 : decode cX5_number 71 = .ok (.iconst 3, 1) := by decide +kernel
theorem dX5_number_72 : decode cX5_number 72 = .ok (.if_icmp .ge 20, 3) := by decide +kernel
theorem dX5_number_75 : decode cX5_number 75 = .ok (.bipush 10, 2) := by decide +kernel
theorem dX5_number_77 : decode cX5_number 77 = .ok (.iload_n 3, 1) := by decide +kernel
theorem dX5_number_78 : decode cX5_number 78 = .ok (.imul, 1) := by decide +kernel
theorem dX5_number_79 : decode cX5_number 79 = .ok (.aload_n 0, 1) := by decide +kernel
theorem dX5_number_80 : decode cX5_number 80 = .ok (.aload_n 0, 1) := by decide +kernel
theorem dX5_number_81 : decode cX5_number 81 = .ok (.getfield 123, 3) := by decide +kernel
theorem dX5_number_84 : decode cX5_number 84 = .ok (.invokevirtual 126, 3) := by decide +kernel
theorem dX5_number_87 : decode cX5_number 87 = .ok (.iadd, 1) := by decide +kernel
theorem dX5_number_88 : decode cX5_number 88 = .ok (.bipush 48, 2) := by decide +kernel
theorem dX5_number_90 : decode cX5_number 90 = .ok (.isub, 1) := by decide +kernel
theorem dX5_number_91 : decode cX5_number 91 = .ok (.istore_n 3, 1) := by decide +kernel
theorem dX5_number_92 : decode cX5_number 92 = .ok (.aload_n 0, 1) := by decide +kernel
theorem dX5_number_93 : decode cX5_number 93 = .ok (.dup, 1) := by decide +kernel
theorem dX5_number_94 : decode cX5_number 94 = .ok (.getfield 123, 3) := by decide +kernel
theorem dX5_number_97 : decode cX5_number 97 = .ok (.iconst 1, 1) := by decide +kernel
theorem dX5_number_98 : decode cX5_number 98 = .ok (.iadd, 1) := by decide +kernel
theorem dX5_number_99 : decode cX5_number 99 = .ok (.putfield 123, 3) := by decide +kernel
theorem dX5_number_102 : decode cX5_number 102 = .ok (.goto (-58), 3) := by decide +kernel
theorem dX5_number_105 : decode cX5_number 105 = .ok (.aload_n 0, 1) := by decide +kernel
theorem dX5_number_106 : decode cX5_number 106 = .ok (.getfield 123, 3) := by decide +kernel
theorem dX5_number_109 : decode cX5_number 109 = .ok (.aload_n 0, 1) := by decide +kernel
theorem dX5_number_110 : decode cX5_number 110 = .ok (.getfield 151, 3) := by decide +kernel
theorem dX5_number_113 : decode cX5_number 113 = .ok (.isub, 1) := by decide +kernel
theorem dX5_number_114 : decode cX5_number 114 = .ok (.iconst 3, 1) := by decide +kernel
theorem dX5_number_115 : decode cX5_number 115 = .ok (.if_icmp .gt 12, 3) := by decide +kernel
theorem dX5_number_118 : decode cX5_number 118 = .ok (.iload_n 3, 1) := by decide +kernel
theorem dX5_number_119 : decode cX5_number 119 = .ok (.iload_n 1, 1) := by decide +kernel
theorem dX5_number_120 : decode cX5_number 120 = .ok (.iload_n 2, 1) := by decide +kernel
theorem dX5_number_121 : decode cX5_number 121 = .ok (.invokestatic 63, 3) := by decide +kernel
theorem dX5_number_124 : decode cX5_number 124 = .ok (.ifCond .ne 12, 3) := by decide +kernel
theorem dX5_number_127 : decode cX5_number 127 = .ok (.aload_n 0, 1) := by decide +kernel
theorem dX5_number_128 : decode cX5_number 128 = .ok (.iconst 2, 1) := by decide +kernel
theorem dX5_number_129 : decode cX5_number 129 = .ok (.aload_n 0, 1) := by decide +kernel
theorem dX5_number_130 : decode cX5_number 130 = .ok (.getfield 151, 3) := by decide +kernel
theorem dX5_number_133 : decode cX5_number 133 = .ok (.invokevirtual 147, 3) := by decide +kernel
theorem dX5_number_136 : decode cX5_number 136 = .ok (.aload_n 0, 1) := by decide +kernel
theorem dX5_number_137 : decode cX5_number 137 = .ok (.invokevirtual 135, 3) := by decide +kernel
theorem dX5_number_140 : decode cX5_number 140 = .ok (.ifCond .eq 7, 3) := by decide +kernel
theorem dX5_number_143 : decode cX5_number 143 = .ok (.iload_n 1, 1) := by decide +kernel
theorem dX5_number_144 : decode cX5_number 144 = .ok (.goto 4, 3) := by decide +kernel
theorem dX5_number_147 : decode cX5_number 147 = .ok (.iload_n 3, 1) := by decide +kernel
theorem dX5_number_148 : decode cX5_number 148 = .ok (.ireturn, 1) := by decide +kernel
theorem dX5_semicolon_0 : decode cX5_semicolon 0 = .ok (.aload_n 0, 1) := by decide +kernel
theorem dX5_semicolon_1 : decode cX5_semicolon 1 = .ok (.invokevirtual 135, 3) := by decide +kernel
theorem dX5_semicolon_4 : decode cX5_semicolon 4 = .ok (.ifCond .eq 4, 3) := by decide +kernel
theorem dX5_semicolon_7 : decode cX5_semicolon 7 = .ok (.return_, 1) := by decide +kernel
theorem dX5_semicolon_8 : decode cX5_semicolon 8 = .ok (.aload_n 0, 1) := by decide +kernel
theorem dX5_semicolon_9 : decode cX5_semicolon 9 = .ok (.invokevirtual 132, 3) := by decide +kernel
theorem dX5_semicolon_12 : decode cX5_semicolon 12 = .ok (.bipush 59, 2) := by decide +kernel
theorem dX5_semicolon_14 : decode cX5_semicolon 14 = .ok (.if_icmp .eq 13, 3) := by decide +kernel
theorem dX5_semicolon_17 : decode cX5_semicolon 17 = .ok (.aload_n 0, 1) := by decide +kernel
theorem dX5_semicolon_18 : decode cX5_semicolon 18 = .ok (.iconst 1, 1) := by decide +kernel
theorem dX5_semicolon_19 : decode cX5_semicolon 19 = .ok (.aload_n 0, 1) := by decide +kernel
theorem dX5_semicolon_20 : decode cX5_semicolon 20 = .ok (.getfield 123, 3) := by decide +kernel
theorem dX5_semicolon_23 : decode cX5_semicolon 23 = .ok (.invokevirtual 147, 3) := by decide +kernel
theorem dX5_semicolon_26 : decode cX5_semicolon 26 = .ok (.return_, 1) := by decide +kernel
theorem dX5_semicolon_27 : decode cX5_semicolon 27 = .ok (.aload_n 0, 1) := by decide +kernel
theorem dX5_semicolon_28 : decode cX5_semicolon 28 = .ok (.dup, 1) := by decide +kernel
theorem dX5_semicolon_29 : decode cX5_semicolon 29 = .ok (.getfield 123, 3) := by decide +kernel
theorem dX5_semicolon_32 : decode cX5_semicolon 32 = .ok (.iconst 1, 1) := by decide +kernel
theorem dX5_semicolon_33 : decode cX5_semicolon 33 = .ok (.iadd, 1) := by decide +kernel
theorem dX5_semicolon_34 : decode cX5_semicolon 34 = .ok (.putfield 123, 3) := by decide +kernel
theorem dX5_semicolon_37 : decode cX5_semicolon 37 = .ok (.return_, 1) := by decide +kernel
theorem dX5_policyWord_0 : decode cX5_policyWord 0 = .ok (.aload_n 0, 1) := by decide +kernel
theorem dX5_policyWord_1 : decode cX5_policyWord 1 = .ok (.ldc 154, 2) := by decide +kernel
theorem dX5_policyWord_3 : decode cX5_policyWord 3 = .ok (.invokevirtual 155, 3) := by decide +kernel
theorem dX5_policyWord_6 : decode cX5_policyWord 6 = .ok (.ifCond .eq 7, 3) := by decide +kernel
theorem dX5_policyWord_9 : decode cX5_policyWord 9 = .ok (.iconst 0, 1) := by decide +kernel
theorem dX5_policyWord_10 : decode cX5_policyWord 10 = .ok (.goto 30, 3) := by decide +kernel
theorem dX5_policyWord_13 : decode cX5_policyWord 13 = .ok (.aload_n 0, 1) := by decide +kernel
theorem dX5_policyWord_14 : decode cX5_policyWord 14 = .ok (.ldc 159, 2) := by decide +kernel
theorem dX5_policyWord_16 : decode cX5_policyWord 16 = .ok (.invokevirtual 155, 3) := by decide +kernel
theorem dX5_policyWord_19 : decode cX5_policyWord 19 = .ok (.ifCond .eq 7, 3) := by decide +kernel
theorem dX5_policyWord_22 : decode cX5_policyWord 22 = .ok (.iconst 1, 1) := by decide +kernel
theorem dX5_policyWord_23 : decode cX5_policyWord 23 = .ok (.goto 17, 3) := by decide +kernel
theorem dX5_policyWord_26 : decode cX5_policyWord 26 = .ok (.aload_n 0, 1) := by decide +kernel
theorem dX5_policyWord_27 : decode cX5_policyWord 27 = .ok (.ldc 160, 2) := by decide +kernel
theorem dX5_policyWord_29 : decode cX5_policyWord 29 = .ok (.invokevirtual 155, 3) := by decide +kernel
theorem dX5_policyWord_32 : decode cX5_policyWord 32 = .ok (.ifCond .eq 7, 3) := by decide +kernel
theorem dX5_policyWord_35 : decode cX5_policyWord 35 = .ok (.iconst 2, 1) := by decide +kernel
theorem dX5_policyWord_36 : decode cX5_policyWord 36 = .ok (.goto 4, 3) := by decide +kernel
theorem dX5_policyWord_39 : decode cX5_policyWord 39 = .ok (.iconst (-1), 1) := by decide +kernel
theorem dX5_policyWord_40 : decode cX5_policyWord 40 = .ok (.istore_n 1, 1) := by decide +kernel
theorem dX5_policyWord_41 : decode cX5_policyWord 41 = .ok (.iload_n 1, 1) := by decide +kernel
theorem dX5_policyWord_42 : decode cX5_policyWord 42 = .ok (.iconst (-1), 1) := by decide +kernel
theorem dX5_policyWord_43 : decode cX5_policyWord 43 = .ok (.if_icmp .ne 12, 3) := by decide +kernel
theorem dX5_policyWord_46 : decode cX5_policyWord 46 = .ok (.aload_n 0, 1) := by decide +kernel
theorem dX5_policyWord_47 : decode cX5_policyWord 47 = .ok (.iconst 1, 1) := by decide +kernel
theorem dX5_policyWord_48 : decode cX5_policyWord 48 = .ok (.aload_n 0, 1) := by decide +kernel
theorem dX5_policyWord_49 : decode cX5_policyWord 49 = .ok (.getfield 123, 3) := by decide +kernel
theorem dX5_policyWord_52 : decode cX5_policyWord 52 = .ok (.invokevirtual 147, 3) := by decide +kernel
theorem dX5_policyWord_55 : decode cX5_policyWord 55 = .ok (.iload_n 1, 1) := by decide +kernel
theorem dX5_policyWord_56 : decode cX5_policyWord 56 = .ok (.ireturn, 1) := by decide +kernel
theorem dX5_floorNumber_0 : decode cX5_floorNumber 0 = .ok (.aload_n 0, 1) := by decide +kernel
theorem dX5_floorNumber_1 : decode cX5_floorNumber 1 = .ok (.iconst 0, 1) := by decide +kernel
theorem dX5_floorNumber_2 : decode cX5_floorNumber 2 = .ok (.aload_n 0, 1) := by decide +kernel
theorem dX5_floorNumber_3 : decode cX5_floorNumber 3 = .ok (.getfield 7, 3) := by decide +kernel
theorem dX5_floorNumber_6 : decode cX5_floorNumber 6 = .ok (.iconst 0, 1) := by decide +kernel
theorem dX5_floorNumber_7 : decode cX5_floorNumber 7 = .ok (.iaload, 1) := by decide +kernel
theorem dX5_floorNumber_8 : decode cX5_floorNumber 8 = .ok (.iconst 1, 1) := by decide +kernel
theorem dX5_floorNumber_9 : decode cX5_floorNumber 9 = .ok (.isub, 1) := by decide +kernel
theorem dX5_floorNumber_10 : decode cX5_floorNumber 10 = .ok (.invokevirtual 162, 3) := by decide +kernel
theorem dX5_floorNumber_13 : decode cX5_floorNumber 13 = .ok (.ireturn, 1) := by decide +kernel
theorem dX5_readsCall_0 : decode cX5_readsCall 0 = .ok (.aload_n 0, 1) := by decide +kernel
theorem dX5_readsCall_1 : decode cX5_readsCall 1 = .ok (.invokevirtual 166, 3) := by decide +kernel
theorem dX5_readsCall_4 : decode cX5_readsCall 4 = .ok (.istore_n 1, 1) := by decide +kernel
theorem dX5_readsCall_5 : decode cX5_readsCall 5 = .ok (.aload_n 0, 1) := by decide +kernel
theorem dX5_readsCall_6 : decode cX5_readsCall 6 = .ok (.invokevirtual 166, 3) := by decide +kernel
theorem dX5_readsCall_9 : decode cX5_readsCall 9 = .ok (.istore_n 2, 1) := by decide +kernel
theorem dX5_readsCall_10 : decode cX5_readsCall 10 = .ok (.aload_n 0, 1) := by decide +kernel
theorem dX5_readsCall_11 : decode cX5_readsCall 11 = .ok (.invokevirtual 135, 3) := by decide +kernel
theorem dX5_readsCall_14 : decode cX5_readsCall 14 = .ok (.ifCond .ne 17, 3) := by decide +kernel
theorem dX5_readsCall_17 : decode cX5_readsCall 17 = .ok (.iload_n 1, 1) := by decide +kernel
theorem dX5_readsCall_18 : decode cX5_readsCall 18 = .ok (.iload_n 2, 1) := by decide +kernel
theorem dX5_readsCall_19 : decode cX5_readsCall 19 = .ok (.if_icmp .ne 12, 3) := by decide +kernel
theorem dX5_readsCall_22 : decode cX5_readsCall 22 = .ok (.aload_n 0, 1) := by decide +kernel
theorem dX5_readsCall_23 : decode cX5_readsCall 23 = .ok (.iconst 2, 1) := by decide +kernel
theorem dX5_readsCall_24 : decode cX5_readsCall 24 = .ok (.aload_n 0, 1) := by decide +kernel
theorem dX5_readsCall_25 : decode cX5_readsCall 25 = .ok (.getfield 151, 3) := by decide +kernel
theorem dX5_readsCall_28 : decode cX5_readsCall 28 = .ok (.invokevirtual 147, 3) := by decide +kernel
theorem dX5_readsCall_31 : decode cX5_readsCall 31 = .ok (.aload_n 0, 1) := by decide +kernel
theorem dX5_readsCall_32 : decode cX5_readsCall 32 = .ok (.ldc 169, 2) := by decide +kernel
theorem dX5_readsCall_34 : decode cX5_readsCall 34 = .ok (.invokevirtual 155, 3) := by decide +kernel
theorem dX5_readsCall_37 : decode cX5_readsCall 37 = .ok (.ifCond .eq 19, 3) := by decide +kernel
theorem dX5_readsCall_40 : decode cX5_readsCall 40 = .ok (.aload_n 0, 1) := by decide +kernel
theorem dX5_readsCall_41 : decode cX5_readsCall 41 = .ok (.aload_n 0, 1) := by decide +kernel
theorem dX5_readsCall_42 : decode cX5_readsCall 42 = .ok (.getfield 7, 3) := by decide +kernel
theorem dX5_readsCall_45 : decode cX5_readsCall 45 = .ok (.iconst 3, 1) := by decide +kernel
theorem dX5_readsCall_46 : decode cX5_readsCall 46 = .ok (.iaload, 1) := by decide +kernel
theorem dX5_readsCall_47 : decode cX5_readsCall 47 = .ok (.sipush 999, 3) := by decide +kernel
theorem dX5_readsCall_50 : decode cX5_readsCall 50 = .ok (.invokevirtual 162, 3) := by decide +kernel
theorem dX5_readsCall_53 : decode cX5_readsCall 53 = .ok (.goto 9, 3) := by decide +kernel
theorem dX5_readsCall_56 : decode cX5_readsCall 56 = .ok (.aload_n 0, 1) := by decide +kernel
theorem dX5_readsCall_57 : decode cX5_readsCall 57 = .ok (.getfield 7, 3) := by decide +kernel
theorem dX5_readsCall_60 : decode cX5_readsCall 60 = .ok (.iconst 3, 1) := by decide +kernel
theorem dX5_readsCall_61 : decode cX5_readsCall 61 = .ok (.iaload, 1) := by decide +kernel
theorem dX5_readsCall_62 : decode cX5_readsCall 62 = .ok (.istore_n 3, 1) := by decide +kernel
theorem dX5_readsCall_63 : decode cX5_readsCall 63 = .ok (.aload_n 0, 1) := by decide +kernel
theorem dX5_readsCall_64 : decode cX5_readsCall 64 = .ok (.invokevirtual 170, 3) := by decide +kernel
theorem dX5_readsCall_67 : decode cX5_readsCall 67 = .ok (.aload_n 0, 1) := by decide +kernel
theorem dX5_readsCall_68 : decode cX5_readsCall 68 = .ok (.invokevirtual 135, 3) := by decide +kernel
theorem dX5_readsCall_71 : decode cX5_readsCall 71 = .ok (.ifCond .ne 10, 3) := by decide +kernel
theorem dX5_readsCall_74 : decode cX5_readsCall 74 = .ok (.aload_n 0, 1) := by decide +kernel
theorem dX5_readsCall_75 : decode cX5_readsCall 75 = .ok (.iload_n 1, 1) := by decide +kernel
theorem dX5_readsCall_76 : decode cX5_readsCall 76 = .ok (.iload_n 2, 1) := by decide +kernel
theorem dX5_readsCall_77 : decode cX5_readsCall 77 = .ok (.iload_n 3, 1) := by decide +kernel
theorem dX5_readsCall_78 : decode cX5_readsCall 78 = .ok (.invokevirtual 173, 3) := by decide +kernel
theorem dX5_readsCall_81 : decode cX5_readsCall 81 = .ok (.return_, 1) := by decide +kernel
theorem dX5_readsRun_0 : decode cX5_readsRun 0 = .ok (.aload_n 0, 1) := by decide +kernel
theorem dX5_readsRun_1 : decode cX5_readsRun 1 = .ok (.iconst 1, 1) := by decide +kernel
theorem dX5_readsRun_2 : decode cX5_readsRun 2 = .ok (.sipush 999, 3) := by decide +kernel
theorem dX5_readsRun_5 : decode cX5_readsRun 5 = .ok (.invokevirtual 162, 3) := by decide +kernel
theorem dX5_readsRun_8 : decode cX5_readsRun 8 = .ok (.istore_n 1, 1) := by decide +kernel
theorem dX5_readsRun_9 : decode cX5_readsRun 9 = .ok (.aload_n 0, 1) := by decide +kernel
theorem dX5_readsRun_10 : decode cX5_readsRun 10 = .ok (.invokevirtual 135, 3) := by decide +kernel
theorem dX5_readsRun_13 : decode cX5_readsRun 13 = .ok (.ifCond .ne 26, 3) := by decide +kernel
theorem dX5_readsRun_16 : decode cX5_readsRun 16 = .ok (.aload_n 0, 1) := by decide +kernel
theorem dX5_readsRun_17 : decode cX5_readsRun 17 = .ok (.getfield 7, 3) := by decide +kernel
theorem dX5_readsRun_20 : decode cX5_readsRun 20 = .ok (.iconst 3, 1) := by decide +kernel
theorem dX5_readsRun_21 : decode cX5_readsRun 21 = .ok (.iaload, 1) := by decide +kernel
theorem dX5_readsRun_22 : decode cX5_readsRun 22 = .ok (.iload_n 1, 1) := by decide +kernel
theorem dX5_readsRun_23 : decode cX5_readsRun 23 = .ok (.iadd, 1) := by decide +kernel
theorem dX5_readsRun_24 : decode cX5_readsRun 24 = .ok (.sipush 999, 3) := by decide +kernel
theorem dX5_readsRun_27 : decode cX5_readsRun 27 = .ok (.if_icmp .le 12, 3) := by decide +kernel
theorem dX5_readsRun_30 : decode cX5_readsRun 30 = .ok (.aload_n 0, 1) := by decide +kernel
theorem dX5_readsRun_31 : decode cX5_readsRun 31 = .ok (.iconst 4, 1) := by decide +kernel
theorem dX5_readsRun_32 : decode cX5_readsRun 32 = .ok (.aload_n 0, 1) := by decide +kernel
theorem dX5_readsRun_33 : decode cX5_readsRun 33 = .ok (.getfield 151, 3) := by decide +kernel
theorem dX5_readsRun_36 : decode cX5_readsRun 36 = .ok (.invokevirtual 147, 3) := by decide +kernel
theorem dX5_readsRun_39 : decode cX5_readsRun 39 = .ok (.aload_n 0, 1) := by decide +kernel
theorem dX5_readsRun_40 : decode cX5_readsRun 40 = .ok (.invokevirtual 170, 3) := by decide +kernel
theorem dX5_readsRun_43 : decode cX5_readsRun 43 = .ok (.iconst 0, 1) := by decide +kernel
theorem dX5_readsRun_44 : decode cX5_readsRun 44 = .ok (.istore_n 2, 1) := by decide +kernel
theorem dX5_readsRun_45 : decode cX5_readsRun 45 = .ok (.iload_n 2, 1) := by decide +kernel
theorem dX5_readsRun_46 : decode cX5_readsRun 46 = .ok (.iload_n 1, 1) := by decide +kernel
theorem dX5_readsRun_47 : decode cX5_readsRun 47 = .ok (.if_icmp .ge 20, 3) := by decide +kernel
theorem dX5_readsRun_50 : decode cX5_readsRun 50 = .ok (.aload_n 0, 1) := by decide +kernel
theorem dX5_readsRun_51 : decode cX5_readsRun 51 = .ok (.invokevirtual 135, 3) := by decide +kernel
theorem dX5_readsRun_54 : decode cX5_readsRun 54 = .ok (.ifCond .ne 13, 3) := by decide +kernel
theorem dX5_readsRun_57 : decode cX5_readsRun 57 = .ok (.aload_n 0, 1) := by decide +kernel
theorem dX5_readsRun_58 : decode cX5_readsRun 58 = .ok (.invokevirtual 104, 3) := by decide +kernel
theorem dX5_readsRun_61 : decode cX5_readsRun 61 = .ok (.iinc 2 1, 3) := by decide +kernel
theorem dX5_readsRun_64 : decode cX5_readsRun 64 = .ok (.goto (-19), 3) := by decide +kernel
theorem dX5_readsRun_67 : decode cX5_readsRun 67 = .ok (.return_, 1) := by decide +kernel
theorem dX5_readsCapacity_0 : decode cX5_readsCapacity 0 = .ok (.aload_n 0, 1) := by decide +kernel
theorem dX5_readsCapacity_1 : decode cX5_readsCapacity 1 = .ok (.iconst 1, 1) := by decide +kernel
theorem dX5_readsCapacity_2 : decode cX5_readsCapacity 2 = .ok (.bipush 8, 2) := by decide +kernel
theorem dX5_readsCapacity_4 : decode cX5_readsCapacity 4 = .ok (.invokevirtual 162, 3) := by decide +kernel
theorem dX5_readsCapacity_7 : decode cX5_readsCapacity 7 = .ok (.istore_n 1, 1) := by decide +kernel
theorem dX5_readsCapacity_8 : decode cX5_readsCapacity 8 = .ok (.aload_n 0, 1) := by decide +kernel
theorem dX5_readsCapacity_9 : decode cX5_readsCapacity 9 = .ok (.invokevirtual 135, 3) := by decide +kernel
theorem dX5_readsCapacity_12 : decode cX5_readsCapacity 12 = .ok (.ifCond .ne 21, 3) := by decide +kernel
theorem dX5_readsCapacity_15 : decode cX5_readsCapacity 15 = .ok (.aload_n 0, 1) := by decide +kernel
theorem dX5_readsCapacity_16 : decode cX5_readsCapacity 16 = .ok (.iconst 2, 1) := by decide +kernel
theorem dX5_readsCapacity_17 : decode cX5_readsCapacity 17 = .ok (.invokevirtual 46, 3) := by decide +kernel
theorem dX5_readsCapacity_20 : decode cX5_readsCapacity 20 = .ok (.iload_n 1, 1) := by decide +kernel
theorem dX5_readsCapacity_21 : decode cX5_readsCapacity 21 = .ok (.if_icmp .le 12, 3) := by decide +kernel
theorem dX5_readsCapacity_24 : decode cX5_readsCapacity 24 = .ok (.aload_n 0, 1) := by decide +kernel
theorem dX5_readsCapacity_25 : decode cX5_readsCapacity 25 = .ok (.iconst 4, 1) := by decide +kernel
theorem dX5_readsCapacity_26 : decode cX5_readsCapacity 26 = .ok (.aload_n 0, 1) := by decide +kernel
theorem dX5_readsCapacity_27 : decode cX5_readsCapacity 27 = .ok (.getfield 151, 3) := by decide +kernel
theorem dX5_readsCapacity_30 : decode cX5_readsCapacity 30 = .ok (.invokevirtual 147, 3) := by decide +kernel
theorem dX5_readsCapacity_33 : decode cX5_readsCapacity 33 = .ok (.aload_n 0, 1) := by decide +kernel
theorem dX5_readsCapacity_34 : decode cX5_readsCapacity 34 = .ok (.invokevirtual 170, 3) := by decide +kernel
theorem dX5_readsCapacity_37 : decode cX5_readsCapacity 37 = .ok (.aload_n 0, 1) := by decide +kernel
theorem dX5_readsCapacity_38 : decode cX5_readsCapacity 38 = .ok (.invokevirtual 135, 3) := by decide +kernel
theorem dX5_readsCapacity_41 : decode cX5_readsCapacity 41 = .ok (.ifCond .ne 10, 3) := by decide +kernel
theorem dX5_readsCapacity_44 : decode cX5_readsCapacity 44 = .ok (.aload_n 0, 1) := by decide +kernel
theorem dX5_readsCapacity_45 : decode cX5_readsCapacity 45 = .ok (.getfield 7, 3) := by decide +kernel
theorem dX5_readsCapacity_48 : decode cX5_readsCapacity 48 = .ok (.iconst 1, 1) := by decide +kernel
theorem dX5_readsCapacity_49 : decode cX5_readsCapacity 49 = .ok (.iload_n 1, 1) := by decide +kernel
theorem dX5_readsCapacity_50 : decode cX5_readsCapacity 50 = .ok (.iastore, 1) := by decide +kernel
theorem dX5_readsCapacity_51 : decode cX5_readsCapacity 51 = .ok (.return_, 1) := by decide +kernel
theorem dX5_readsPolicy_0 : decode cX5_readsPolicy 0 = .ok (.aload_n 0, 1) := by decide +kernel
theorem dX5_readsPolicy_1 : decode cX5_readsPolicy 1 = .ok (.invokevirtual 177, 3) := by decide +kernel
theorem dX5_readsPolicy_4 : decode cX5_readsPolicy 4 = .ok (.istore_n 1, 1) := by decide +kernel
theorem dX5_readsPolicy_5 : decode cX5_readsPolicy 5 = .ok (.aload_n 0, 1) := by decide +kernel
theorem dX5_readsPolicy_6 : decode cX5_readsPolicy 6 = .ok (.invokevirtual 170, 3) := by decide +kernel
theorem dX5_readsPolicy_9 : decode cX5_readsPolicy 9 = .ok (.aload_n 0, 1) := by decide +kernel
theorem dX5_readsPolicy_10 : decode cX5_readsPolicy 10 = .ok (.invokevirtual 135, 3) := by decide +kernel
theorem dX5_readsPolicy_13 : decode cX5_readsPolicy 13 = .ok (.ifCond .ne 10, 3) := by decide +kernel
theorem dX5_readsPolicy_16 : decode cX5_readsPolicy 16 = .ok (.aload_n 0, 1) := by decide +kernel
theorem dX5_readsPolicy_17 : decode cX5_readsPolicy 17 = .ok (.getfield 7, 3) := by decide +kernel
theorem dX5_readsPolicy_20 : decode cX5_readsPolicy 20 = .ok (.iconst 2, 1) := by decide +kernel
theorem dX5_readsPolicy_21 : decode cX5_readsPolicy 21 = .ok (.iload_n 1, 1) := by decide +kernel
theorem dX5_readsPolicy_22 : decode cX5_readsPolicy 22 = .ok (.iastore, 1) := by decide +kernel
theorem dX5_readsPolicy_23 : decode cX5_readsPolicy 23 = .ok (.return_, 1) := by decide +kernel
theorem dX5_counterWord_0 : decode cX5_counterWord 0 = .ok (.aload_n 0, 1) := by decide +kernel
theorem dX5_counterWord_1 : decode cX5_counterWord 1 = .ok (.ldc 180, 2) := by decide +kernel
theorem dX5_counterWord_3 : decode cX5_counterWord 3 = .ok (.invokevirtual 155, 3) := by decide +kernel
theorem dX5_counterWord_6 : decode cX5_counterWord 6 = .ok (.ifCond .eq 7, 3) := by decide +kernel
theorem dX5_counterWord_9 : decode cX5_counterWord 9 = .ok (.iconst 0, 1) := by decide +kernel
theorem dX5_counterWord_10 : decode cX5_counterWord 10 = .ok (.goto 30, 3) := by decide +kernel
theorem dX5_counterWord_13 : decode cX5_counterWord 13 = .ok (.aload_n 0, 1) := by decide +kernel
theorem dX5_counterWord_14 : decode cX5_counterWord 14 = .ok (.ldc 182, 2) := by decide +kernel
theorem dX5_counterWord_16 : decode cX5_counterWord 16 = .ok (.invokevirtual 155, 3) := by decide +kernel
theorem dX5_counterWord_19 : decode cX5_counterWord 19 = .ok (.ifCond .eq 7, 3) := by decide +kernel
theorem dX5_counterWord_22 : decode cX5_counterWord 22 = .ok (.iconst 1, 1) := by decide +kernel
theorem dX5_counterWord_23 : decode cX5_counterWord 23 = .ok (.goto 17, 3) := by decide +kernel
theorem dX5_counterWord_26 : decode cX5_counterWord 26 = .ok (.aload_n 0, 1) := by decide +kernel
theorem dX5_counterWord_27 : decode cX5_counterWord 27 = .ok (.ldc 184, 2) := by decide +kernel
theorem dX5_counterWord_29 : decode cX5_counterWord 29 = .ok (.invokevirtual 155, 3) := by decide +kernel
theorem dX5_counterWord_32 : decode cX5_counterWord 32 = .ok (.ifCond .eq 7, 3) := by decide +kernel
theorem dX5_counterWord_35 : decode cX5_counterWord 35 = .ok (.iconst 2, 1) := by decide +kernel
theorem dX5_counterWord_36 : decode cX5_counterWord 36 = .ok (.goto 4, 3) := by decide +kernel
theorem dX5_counterWord_39 : decode cX5_counterWord 39 = .ok (.iconst (-1), 1) := by decide +kernel
theorem dX5_counterWord_40 : decode cX5_counterWord 40 = .ok (.istore_n 1, 1) := by decide +kernel
end
section
theorem dX5_counterWord_41 : decode cX5_counterWord 41 = .ok (.iload_n 1, 1) := by decide +kernel
theorem dX5_counterWord_42 : decode cX5_counterWord 42 = .ok (.iconst (-1), 1) := by decide +kernel
theorem dX5_counterWord_43 : decode cX5_counterWord 43 = .ok (.if_icmp .ne 44, 3) := by decide +kernel
theorem dX5_counterWord_46 : decode cX5_counterWord 46 = .ok (.aload_n 0, 1) := by decide +kernel
theorem dX5_counterWord_47 : decode cX5_counterWord 47 = .ok (.ldc 186, 2) := by decide +kernel
theorem dX5_counterWord_49 : decode cX5_counterWord 49 = .ok (.invokevirtual 155, 3) := by decide +kernel
theorem dX5_counterWord_52 : decode cX5_counterWord 52 = .ok (.ifCond .eq 7, 3) := by decide +kernel
theorem dX5_counterWord_55 : decode cX5_counterWord 55 = .ok (.iconst 3, 1) := by decide +kernel
theorem dX5_counterWord_56 : decode cX5_counterWord 56 = .ok (.goto 30, 3) := by decide +kernel
theorem dX5_counterWord_59 : decode cX5_counterWord 59 = .ok (.aload_n 0, 1) := by decide +kernel
theorem dX5_counterWord_60 : decode cX5_counterWord 60 = .ok (.ldc 188, 2) := by decide +kernel
theorem dX5_counterWord_62 : decode cX5_counterWord 62 = .ok (.invokevirtual 155, 3) := by decide +kernel
theorem dX5_counterWord_65 : decode cX5_counterWord 65 = .ok (.ifCond .eq 7, 3) := by decide +kernel
theorem dX5_counterWord_68 : decode cX5_counterWord 68 = .ok (.iconst 4, 1) := by decide +kernel
theorem dX5_counterWord_69 : decode cX5_counterWord 69 = .ok (.goto 17, 3) := by decide +kernel
theorem dX5_counterWord_72 : decode cX5_counterWord 72 = .ok (.aload_n 0, 1) := by decide +kernel
theorem dX5_counterWord_73 : decode cX5_counterWord 73 = .ok (.ldc 190, 2) := by decide +kernel
theorem dX5_counterWord_75 : decode cX5_counterWord 75 = .ok (.invokevirtual 155, 3) := by decide +kernel
theorem dX5_counterWord_78 : decode cX5_counterWord 78 = .ok (.ifCond .eq 7, 3) := by decide +kernel
theorem dX5_counterWord_81 : decode cX5_counterWord 81 = .ok (.iconst 5, 1) := by decide +kernel
theorem dX5_counterWord_82 : decode cX5_counterWord 82 = .ok (.goto 4, 3) := by decide +kernel
theorem dX5_counterWord_85 : decode cX5_counterWord 85 = .ok (.iconst (-1), 1) := by decide +kernel
theorem dX5_counterWord_86 : decode cX5_counterWord 86 = .ok (.istore_n 1, 1) := by decide +kernel
theorem dX5_counterWord_87 : decode cX5_counterWord 87 = .ok (.iload_n 1, 1) := by decide +kernel
theorem dX5_counterWord_88 : decode cX5_counterWord 88 = .ok (.iconst (-1), 1) := by decide +kernel
theorem dX5_counterWord_89 : decode cX5_counterWord 89 = .ok (.if_icmp .ne 12, 3) := by decide +kernel
theorem dX5_counterWord_92 : decode cX5_counterWord 92 = .ok (.aload_n 0, 1) := by decide +kernel
theorem dX5_counterWord_93 : decode cX5_counterWord 93 = .ok (.iconst 1, 1) := by decide +kernel
theorem dX5_counterWord_94 : decode cX5_counterWord 94 = .ok (.aload_n 0, 1) := by decide +kernel
theorem dX5_counterWord_95 : decode cX5_counterWord 95 = .ok (.getfield 123, 3) := by decide +kernel
theorem dX5_counterWord_98 : decode cX5_counterWord 98 = .ok (.invokevirtual 147, 3) := by decide +kernel
theorem dX5_counterWord_101 : decode cX5_counterWord 101 = .ok (.iload_n 1, 1) := by decide +kernel
theorem dX5_counterWord_102 : decode cX5_counterWord 102 = .ok (.ireturn, 1) := by decide +kernel
theorem dX5_counted_0 : decode cX5_counted 0 = .ok (.iload_n 1, 1) := by decide +kernel
theorem dX5_counted_1 : decode cX5_counted 1 = .ok (.tableswitch 78 0 4 #[35, 43, 51, 59, 68], 35) := by decide +kernel
theorem dX5_counted_36 : decode cX5_counted 36 = .ok (.aload_n 0, 1) := by decide +kernel
theorem dX5_counted_37 : decode cX5_counted 37 = .ok (.iconst 3, 1) := by decide +kernel
theorem dX5_counted_38 : decode cX5_counted 38 = .ok (.invokevirtual 46, 3) := by decide +kernel
theorem dX5_counted_41 : decode cX5_counted 41 = .ok (.goto 44, 3) := by decide +kernel
theorem dX5_counted_44 : decode cX5_counted 44 = .ok (.aload_n 0, 1) := by decide +kernel
theorem dX5_counted_45 : decode cX5_counted 45 = .ok (.iconst 2, 1) := by decide +kernel
theorem dX5_counted_46 : decode cX5_counted 46 = .ok (.invokevirtual 46, 3) := by decide +kernel
theorem dX5_counted_49 : decode cX5_counted 49 = .ok (.goto 36, 3) := by decide +kernel
theorem dX5_counted_52 : decode cX5_counted 52 = .ok (.aload_n 0, 1) := by decide +kernel
theorem dX5_counted_53 : decode cX5_counted 53 = .ok (.iconst 1, 1) := by decide +kernel
theorem dX5_counted_54 : decode cX5_counted 54 = .ok (.invokevirtual 46, 3) := by decide +kernel
theorem dX5_counted_57 : decode cX5_counted 57 = .ok (.goto 28, 3) := by decide +kernel
theorem dX5_counted_60 : decode cX5_counted 60 = .ok (.aload_n 0, 1) := by decide +kernel
theorem dX5_counted_61 : decode cX5_counted 61 = .ok (.getfield 7, 3) := by decide +kernel
theorem dX5_counted_64 : decode cX5_counted 64 = .ok (.iconst 4, 1) := by decide +kernel
theorem dX5_counted_65 : decode cX5_counted 65 = .ok (.iaload, 1) := by decide +kernel
theorem dX5_counted_66 : decode cX5_counted 66 = .ok (.goto 19, 3) := by decide +kernel
theorem dX5_counted_69 : decode cX5_counted 69 = .ok (.aload_n 0, 1) := by decide +kernel
theorem dX5_counted_70 : decode cX5_counted 70 = .ok (.getfield 7, 3) := by decide +kernel
theorem dX5_counted_73 : decode cX5_counted 73 = .ok (.bipush 6, 2) := by decide +kernel
theorem dX5_counted_75 : decode cX5_counted 75 = .ok (.iaload, 1) := by decide +kernel
theorem dX5_counted_76 : decode cX5_counted 76 = .ok (.goto 9, 3) := by decide +kernel
theorem dX5_counted_79 : decode cX5_counted 79 = .ok (.aload_n 0, 1) := by decide +kernel
theorem dX5_counted_80 : decode cX5_counted 80 = .ok (.getfield 7, 3) := by decide +kernel
theorem dX5_counted_83 : decode cX5_counted 83 = .ok (.iconst 3, 1) := by decide +kernel
theorem dX5_counted_84 : decode cX5_counted 84 = .ok (.iaload, 1) := by decide +kernel
theorem dX5_counted_85 : decode cX5_counted 85 = .ok (.ireturn, 1) := by decide +kernel
theorem dX5_readsUntil_0 : decode cX5_readsUntil 0 = .ok (.aload_n 0, 1) := by decide +kernel
theorem dX5_readsUntil_1 : decode cX5_readsUntil 1 = .ok (.invokevirtual 192, 3) := by decide +kernel
theorem dX5_readsUntil_4 : decode cX5_readsUntil 4 = .ok (.istore_n 1, 1) := by decide +kernel
theorem dX5_readsUntil_5 : decode cX5_readsUntil 5 = .ok (.aload_n 0, 1) := by decide +kernel
theorem dX5_readsUntil_6 : decode cX5_readsUntil 6 = .ok (.iconst 0, 1) := by decide +kernel
theorem dX5_readsUntil_7 : decode cX5_readsUntil 7 = .ok (.sipush 999, 3) := by decide +kernel
theorem dX5_readsUntil_10 : decode cX5_readsUntil 10 = .ok (.invokevirtual 162, 3) := by decide +kernel
theorem dX5_readsUntil_13 : decode cX5_readsUntil 13 = .ok (.istore_n 2, 1) := by decide +kernel
theorem dX5_readsUntil_14 : decode cX5_readsUntil 14 = .ok (.aload_n 0, 1) := by decide +kernel
theorem dX5_readsUntil_15 : decode cX5_readsUntil 15 = .ok (.invokevirtual 135, 3) := by decide +kernel
theorem dX5_readsUntil_18 : decode cX5_readsUntil 18 = .ok (.ifCond .ne 31, 3) := by decide +kernel
theorem dX5_readsUntil_21 : decode cX5_readsUntil 21 = .ok (.aload_n 0, 1) := by decide +kernel
theorem dX5_readsUntil_22 : decode cX5_readsUntil 22 = .ok (.iload_n 1, 1) := by decide +kernel
theorem dX5_readsUntil_23 : decode cX5_readsUntil 23 = .ok (.invokevirtual 195, 3) := by decide +kernel
theorem dX5_readsUntil_26 : decode cX5_readsUntil 26 = .ok (.iload_n 2, 1) := by decide +kernel
theorem dX5_readsUntil_27 : decode cX5_readsUntil 27 = .ok (.if_icmp .ge 22, 3) := by decide +kernel
theorem dX5_readsUntil_30 : decode cX5_readsUntil 30 = .ok (.aload_n 0, 1) := by decide +kernel
theorem dX5_readsUntil_31 : decode cX5_readsUntil 31 = .ok (.getfield 7, 3) := by decide +kernel
theorem dX5_readsUntil_34 : decode cX5_readsUntil 34 = .ok (.iconst 3, 1) := by decide +kernel
theorem dX5_readsUntil_35 : decode cX5_readsUntil 35 = .ok (.iaload, 1) := by decide +kernel
theorem dX5_readsUntil_36 : decode cX5_readsUntil 36 = .ok (.sipush 999, 3) := by decide +kernel
theorem dX5_readsUntil_39 : decode cX5_readsUntil 39 = .ok (.if_icmp .ge 10, 3) := by decide +kernel
theorem dX5_readsUntil_42 : decode cX5_readsUntil 42 = .ok (.aload_n 0, 1) := by decide +kernel
theorem dX5_readsUntil_43 : decode cX5_readsUntil 43 = .ok (.invokevirtual 104, 3) := by decide +kernel
theorem dX5_readsUntil_46 : decode cX5_readsUntil 46 = .ok (.goto (-32), 3) := by decide +kernel
theorem dX5_readsUntil_49 : decode cX5_readsUntil 49 = .ok (.aload_n 0, 1) := by decide +kernel
theorem dX5_readsUntil_50 : decode cX5_readsUntil 50 = .ok (.invokevirtual 135, 3) := by decide +kernel
theorem dX5_readsUntil_53 : decode cX5_readsUntil 53 = .ok (.ifCond .ne 21, 3) := by decide +kernel
theorem dX5_readsUntil_56 : decode cX5_readsUntil 56 = .ok (.aload_n 0, 1) := by decide +kernel
theorem dX5_readsUntil_57 : decode cX5_readsUntil 57 = .ok (.iload_n 1, 1) := by decide +kernel
theorem dX5_readsUntil_58 : decode cX5_readsUntil 58 = .ok (.invokevirtual 195, 3) := by decide +kernel
theorem dX5_readsUntil_61 : decode cX5_readsUntil 61 = .ok (.iload_n 2, 1) := by decide +kernel
theorem dX5_readsUntil_62 : decode cX5_readsUntil 62 = .ok (.if_icmp .ge 12, 3) := by decide +kernel
theorem dX5_readsUntil_65 : decode cX5_readsUntil 65 = .ok (.aload_n 0, 1) := by decide +kernel
theorem dX5_readsUntil_66 : decode cX5_readsUntil 66 = .ok (.iconst 4, 1) := by decide +kernel
theorem dX5_readsUntil_67 : decode cX5_readsUntil 67 = .ok (.aload_n 0, 1) := by decide +kernel
theorem dX5_readsUntil_68 : decode cX5_readsUntil 68 = .ok (.getfield 151, 3) := by decide +kernel
theorem dX5_readsUntil_71 : decode cX5_readsUntil 71 = .ok (.invokevirtual 147, 3) := by decide +kernel
theorem dX5_readsUntil_74 : decode cX5_readsUntil 74 = .ok (.aload_n 0, 1) := by decide +kernel
theorem dX5_readsUntil_75 : decode cX5_readsUntil 75 = .ok (.invokevirtual 170, 3) := by decide +kernel
theorem dX5_readsUntil_78 : decode cX5_readsUntil 78 = .ok (.return_, 1) := by decide +kernel
theorem dX5_readsExpectation_0 : decode cX5_readsExpectation 0 = .ok (.aload_n 0, 1) := by decide +kernel
theorem dX5_readsExpectation_1 : decode cX5_readsExpectation 1 = .ok (.invokevirtual 192, 3) := by decide +kernel
theorem dX5_readsExpectation_4 : decode cX5_readsExpectation 4 = .ok (.istore_n 2, 1) := by decide +kernel
theorem dX5_readsExpectation_5 : decode cX5_readsExpectation 5 = .ok (.aload_n 0, 1) := by decide +kernel
theorem dX5_readsExpectation_6 : decode cX5_readsExpectation 6 = .ok (.iconst 0, 1) := by decide +kernel
theorem dX5_readsExpectation_7 : decode cX5_readsExpectation 7 = .ok (.sipush 999, 3) := by decide +kernel
theorem dX5_readsExpectation_10 : decode cX5_readsExpectation 10 = .ok (.invokevirtual 162, 3) := by decide +kernel
theorem dX5_readsExpectation_13 : decode cX5_readsExpectation 13 = .ok (.istore_n 3, 1) := by decide +kernel
theorem dX5_readsExpectation_14 : decode cX5_readsExpectation 14 = .ok (.aload_n 0, 1) := by decide +kernel
theorem dX5_readsExpectation_15 : decode cX5_readsExpectation 15 = .ok (.invokevirtual 135, 3) := by decide +kernel
theorem dX5_readsExpectation_18 : decode cX5_readsExpectation 18 = .ok (.ifCond .ne 18, 3) := by decide +kernel
theorem dX5_readsExpectation_21 : decode cX5_readsExpectation 21 = .ok (.aload_n 0, 1) := by decide +kernel
theorem dX5_readsExpectation_22 : decode cX5_readsExpectation 22 = .ok (.iload_n 2, 1) := by decide +kernel
theorem dX5_readsExpectation_23 : decode cX5_readsExpectation 23 = .ok (.invokevirtual 195, 3) := by decide +kernel
theorem dX5_readsExpectation_26 : decode cX5_readsExpectation 26 = .ok (.iload_n 3, 1) := by decide +kernel
theorem dX5_readsExpectation_27 : decode cX5_readsExpectation 27 = .ok (.if_icmp .eq 9, 3) := by decide +kernel
theorem dX5_readsExpectation_30 : decode cX5_readsExpectation 30 = .ok (.aload_n 0, 1) := by decide +kernel
theorem dX5_readsExpectation_31 : decode cX5_readsExpectation 31 = .ok (.iconst 5, 1) := by decide +kernel
theorem dX5_readsExpectation_32 : decode cX5_readsExpectation 32 = .ok (.iload_n 1, 1) := by decide +kernel
theorem dX5_readsExpectation_33 : decode cX5_readsExpectation 33 = .ok (.invokevirtual 147, 3) := by decide +kernel
theorem dX5_readsExpectation_36 : decode cX5_readsExpectation 36 = .ok (.aload_n 0, 1) := by decide +kernel
theorem dX5_readsExpectation_37 : decode cX5_readsExpectation 37 = .ok (.invokevirtual 170, 3) := by decide +kernel
theorem dX5_readsExpectation_40 : decode cX5_readsExpectation 40 = .ok (.return_, 1) := by decide +kernel
theorem dX5_bracket_0 : decode cX5_bracket 0 = .ok (.aload_n 0, 1) := by decide +kernel
theorem dX5_bracket_1 : decode cX5_bracket 1 = .ok (.invokevirtual 135, 3) := by decide +kernel
theorem dX5_bracket_4 : decode cX5_bracket 4 = .ok (.ifCond .eq 4, 3) := by decide +kernel
theorem dX5_bracket_7 : decode cX5_bracket 7 = .ok (.return_, 1) := by decide +kernel
theorem dX5_bracket_8 : decode cX5_bracket 8 = .ok (.aload_n 0, 1) := by decide +kernel
theorem dX5_bracket_9 : decode cX5_bracket 9 = .ok (.invokevirtual 132, 3) := by decide +kernel
theorem dX5_bracket_12 : decode cX5_bracket 12 = .ok (.iload_n 1, 1) := by decide +kernel
theorem dX5_bracket_13 : decode cX5_bracket 13 = .ok (.if_icmp .eq 13, 3) := by decide +kernel
theorem dX5_bracket_16 : decode cX5_bracket 16 = .ok (.aload_n 0, 1) := by decide +kernel
theorem dX5_bracket_17 : decode cX5_bracket 17 = .ok (.iconst 1, 1) := by decide +kernel
theorem dX5_bracket_18 : decode cX5_bracket 18 = .ok (.aload_n 0, 1) := by decide +kernel
theorem dX5_bracket_19 : decode cX5_bracket 19 = .ok (.getfield 123, 3) := by decide +kernel
theorem dX5_bracket_22 : decode cX5_bracket 22 = .ok (.invokevirtual 147, 3) := by decide +kernel
theorem dX5_bracket_25 : decode cX5_bracket 25 = .ok (.return_, 1) := by decide +kernel
theorem dX5_bracket_26 : decode cX5_bracket 26 = .ok (.aload_n 0, 1) := by decide +kernel
theorem dX5_bracket_27 : decode cX5_bracket 27 = .ok (.dup, 1) := by decide +kernel
theorem dX5_bracket_28 : decode cX5_bracket 28 = .ok (.getfield 123, 3) := by decide +kernel
theorem dX5_bracket_31 : decode cX5_bracket 31 = .ok (.iconst 1, 1) := by decide +kernel
theorem dX5_bracket_32 : decode cX5_bracket 32 = .ok (.iadd, 1) := by decide +kernel
theorem dX5_bracket_33 : decode cX5_bracket 33 = .ok (.putfield 123, 3) := by decide +kernel
theorem dX5_bracket_36 : decode cX5_bracket 36 = .ok (.return_, 1) := by decide +kernel
theorem dX5_repeats_0 : decode cX5_repeats 0 = .ok (.aload_n 0, 1) := by decide +kernel
theorem dX5_repeats_1 : decode cX5_repeats 1 = .ok (.iconst 1, 1) := by decide +kernel
theorem dX5_repeats_2 : decode cX5_repeats 2 = .ok (.bipush 9, 2) := by decide +kernel
theorem dX5_repeats_4 : decode cX5_repeats 4 = .ok (.invokevirtual 162, 3) := by decide +kernel
theorem dX5_repeats_7 : decode cX5_repeats 7 = .ok (.istore_n 1, 1) := by decide +kernel
theorem dX5_repeats_8 : decode cX5_repeats 8 = .ok (.aload_n 0, 1) := by decide +kernel
theorem dX5_repeats_9 : decode cX5_repeats 9 = .ok (.bipush 40, 2) := by decide +kernel
theorem dX5_repeats_11 : decode cX5_repeats 11 = .ok (.invokevirtual 198, 3) := by decide +kernel
theorem dX5_repeats_14 : decode cX5_repeats 14 = .ok (.aload_n 0, 1) := by decide +kernel
theorem dX5_repeats_15 : decode cX5_repeats 15 = .ok (.getfield 123, 3) := by decide +kernel
theorem dX5_repeats_18 : decode cX5_repeats 18 = .ok (.istore_n 2, 1) := by decide +kernel
theorem dX5_repeats_19 : decode cX5_repeats 19 = .ok (.iconst 0, 1) := by decide +kernel
theorem dX5_repeats_20 : decode cX5_repeats 20 = .ok (.istore_n 3, 1) := by decide +kernel
theorem dX5_repeats_21 : decode cX5_repeats 21 = .ok (.iload_n 3, 1) := by decide +kernel
theorem dX5_repeats_22 : decode cX5_repeats 22 = .ok (.iload_n 1, 1) := by decide +kernel
theorem dX5_repeats_23 : decode cX5_repeats 23 = .ok (.if_icmp .ge 55, 3) := by decide +kernel
theorem dX5_repeats_26 : decode cX5_repeats 26 = .ok (.aload_n 0, 1) := by decide +kernel
theorem dX5_repeats_27 : decode cX5_repeats 27 = .ok (.invokevirtual 135, 3) := by decide +kernel
theorem dX5_repeats_30 : decode cX5_repeats 30 = .ok (.ifCond .ne 48, 3) := by decide +kernel
theorem dX5_repeats_33 : decode cX5_repeats 33 = .ok (.aload_n 0, 1) := by decide +kernel
theorem dX5_repeats_34 : decode cX5_repeats 34 = .ok (.iload_n 2, 1) := by decide +kernel
theorem dX5_repeats_35 : decode cX5_repeats 35 = .ok (.putfield 123, 3) := by decide +kernel
theorem dX5_repeats_38 : decode cX5_repeats 38 = .ok (.aload_n 0, 1) := by decide +kernel
theorem dX5_repeats_39 : decode cX5_repeats 39 = .ok (.invokevirtual 135, 3) := by decide +kernel
theorem dX5_repeats_42 : decode cX5_repeats 42 = .ok (.ifCond .ne 24, 3) := by decide +kernel
theorem dX5_repeats_45 : decode cX5_repeats 45 = .ok (.aload_n 0, 1) := by decide +kernel
theorem dX5_repeats_46 : decode cX5_repeats 46 = .ok (.invokevirtual 132, 3) := by decide +kernel
theorem dX5_repeats_49 : decode cX5_repeats 49 = .ok (.bipush 97, 2) := by decide +kernel
theorem dX5_repeats_51 : decode cX5_repeats 51 = .ok (.bipush 122, 2) := by decide +kernel
theorem dX5_repeats_53 : decode cX5_repeats 53 = .ok (.invokestatic 63, 3) := by decide +kernel
theorem dX5_repeats_56 : decode cX5_repeats 56 = .ok (.ifCond .eq 10, 3) := by decide +kernel
theorem dX5_repeats_59 : decode cX5_repeats 59 = .ok (.aload_n 0, 1) := by decide +kernel
theorem dX5_repeats_60 : decode cX5_repeats 60 = .ok (.invokevirtual 201, 3) := by decide +kernel
theorem dX5_repeats_63 : decode cX5_repeats 63 = .ok (.goto (-25), 3) := by decide +kernel
theorem dX5_repeats_66 : decode cX5_repeats 66 = .ok (.aload_n 0, 1) := by decide +kernel
theorem dX5_repeats_67 : decode cX5_repeats 67 = .ok (.bipush 41, 2) := by decide +kernel
theorem dX5_repeats_69 : decode cX5_repeats 69 = .ok (.invokevirtual 198, 3) := by decide +kernel
theorem dX5_repeats_72 : decode cX5_repeats 72 = .ok (.iinc 3 1, 3) := by decide +kernel
theorem dX5_repeats_75 : decode cX5_repeats 75 = .ok (.goto (-54), 3) := by decide +kernel
theorem dX5_repeats_78 : decode cX5_repeats 78 = .ok (.aload_n 0, 1) := by decide +kernel
theorem dX5_repeats_79 : decode cX5_repeats 79 = .ok (.invokevirtual 170, 3) := by decide +kernel
theorem dX5_repeats_82 : decode cX5_repeats 82 = .ok (.return_, 1) := by decide +kernel
theorem dX5_command_0 : decode cX5_command 0 = .ok (.aload_n 0, 1) := by decide +kernel
theorem dX5_command_1 : decode cX5_command 1 = .ok (.ldc 204, 2) := by decide +kernel
theorem dX5_command_3 : decode cX5_command 3 = .ok (.invokevirtual 155, 3) := by decide +kernel
theorem dX5_command_6 : decode cX5_command 6 = .ok (.ifCond .eq 10, 3) := by decide +kernel
theorem dX5_command_9 : decode cX5_command 9 = .ok (.aload_n 0, 1) := by decide +kernel
theorem dX5_command_10 : decode cX5_command 10 = .ok (.invokevirtual 206, 3) := by decide +kernel
theorem dX5_command_13 : decode cX5_command 13 = .ok (.goto 7, 3) := by decide +kernel
theorem dX5_command_16 : decode cX5_command 16 = .ok (.aload_n 0, 1) := by decide +kernel
theorem dX5_command_17 : decode cX5_command 17 = .ok (.invokevirtual 201, 3) := by decide +kernel
theorem dX5_command_20 : decode cX5_command 20 = .ok (.return_, 1) := by decide +kernel
theorem dX5_simple_0 : decode cX5_simple 0 = .ok (.aload_n 0, 1) := by decide +kernel
theorem dX5_simple_1 : decode cX5_simple 1 = .ok (.dup, 1) := by decide +kernel
theorem dX5_simple_2 : decode cX5_simple 2 = .ok (.getfield 209, 3) := by decide +kernel
theorem dX5_simple_5 : decode cX5_simple 5 = .ok (.iconst 1, 1) := by decide +kernel
theorem dX5_simple_6 : decode cX5_simple 6 = .ok (.iadd, 1) := by decide +kernel
theorem dX5_simple_7 : decode cX5_simple 7 = .ok (.putfield 209, 3) := by decide +kernel
theorem dX5_simple_10 : decode cX5_simple 10 = .ok (.aload_n 0, 1) := by decide +kernel
theorem dX5_simple_11 : decode cX5_simple 11 = .ok (.invokevirtual 132, 3) := by decide +kernel
theorem dX5_simple_14 : decode cX5_simple 14 = .ok (.istore_n 1, 1) := by decide +kernel
theorem dX5_simple_15 : decode cX5_simple 15 = .ok (.aload_n 0, 1) := by decide +kernel
theorem dX5_simple_16 : decode cX5_simple 16 = .ok (.getfield 123, 3) := by decide +kernel
theorem dX5_simple_19 : decode cX5_simple 19 = .ok (.istore_n 2, 1) := by decide +kernel
theorem dX5_simple_20 : decode cX5_simple 20 = .ok (.aload_n 0, 1) := by decide +kernel
theorem dX5_simple_21 : decode cX5_simple 21 = .ok (.ldc 212, 2) := by decide +kernel
theorem dX5_simple_23 : decode cX5_simple 23 = .ok (.invokevirtual 155, 3) := by decide +kernel
theorem dX5_simple_26 : decode cX5_simple 26 = .ok (.ifCond .eq 28, 3) := by decide +kernel
theorem dX5_simple_29 : decode cX5_simple 29 = .ok (.aload_n 0, 1) := by decide +kernel
theorem dX5_simple_30 : decode cX5_simple 30 = .ok (.getfield 7, 3) := by decide +kernel
theorem dX5_simple_33 : decode cX5_simple 33 = .ok (.bipush 10, 2) := by decide +kernel
theorem dX5_simple_35 : decode cX5_simple 35 = .ok (.iaload, 1) := by decide +kernel
theorem dX5_simple_36 : decode cX5_simple 36 = .ok (.bipush 40, 2) := by decide +kernel
theorem dX5_simple_38 : decode cX5_simple 38 = .ok (.if_icmp .ne 9, 3) := by decide +kernel
theorem dX5_simple_41 : decode cX5_simple 41 = .ok (.aload_n 0, 1) := by decide +kernel
theorem dX5_simple_42 : decode cX5_simple 42 = .ok (.iconst 3, 1) := by decide +kernel
theorem dX5_simple_43 : decode cX5_simple 43 = .ok (.iload_n 2, 1) := by decide +kernel
theorem dX5_simple_44 : decode cX5_simple 44 = .ok (.invokevirtual 147, 3) := by decide +kernel
theorem dX5_simple_47 : decode cX5_simple 47 = .ok (.aload_n 0, 1) := by decide +kernel
theorem dX5_simple_48 : decode cX5_simple 48 = .ok (.invokevirtual 214, 3) := by decide +kernel
theorem dX5_simple_51 : decode cX5_simple 51 = .ok (.goto 174, 3) := by decide +kernel
theorem dX5_simple_54 : decode cX5_simple 54 = .ok (.aload_n 0, 1) := by decide +kernel
theorem dX5_simple_55 : decode cX5_simple 55 = .ok (.ldc 217, 2) := by decide +kernel
theorem dX5_simple_57 : decode cX5_simple 57 = .ok (.invokevirtual 155, 3) := by decide +kernel
theorem dX5_simple_60 : decode cX5_simple 60 = .ok (.ifCond .eq 10, 3) := by decide +kernel
theorem dX5_simple_63 : decode cX5_simple 63 = .ok (.aload_n 0, 1) := by decide +kernel
theorem dX5_simple_64 : decode cX5_simple 64 = .ok (.invokevirtual 219, 3) := by decide +kernel
theorem dX5_simple_67 : decode cX5_simple 67 = .ok (.goto 158, 3) := by decide +kernel
theorem dX5_simple_70 : decode cX5_simple 70 = .ok (.aload_n 0, 1) := by decide +kernel
theorem dX5_simple_71 : decode cX5_simple 71 = .ok (.ldc 222, 2) := by decide +kernel
theorem dX5_simple_73 : decode cX5_simple 73 = .ok (.invokevirtual 155, 3) := by decide +kernel
theorem dX5_simple_76 : decode cX5_simple 76 = .ok (.ifCond .eq 29, 3) := by decide +kernel
theorem dX5_simple_79 : decode cX5_simple 79 = .ok (.aload_n 0, 1) := by decide +kernel
theorem dX5_simple_80 : decode cX5_simple 80 = .ok (.invokevirtual 170, 3) := by decide +kernel
theorem dX5_simple_83 : decode cX5_simple 83 = .ok (.aload_n 0, 1) := by decide +kernel
theorem dX5_simple_84 : decode cX5_simple 84 = .ok (.invokevirtual 135, 3) := by decide +kernel
theorem dX5_simple_87 : decode cX5_simple 87 = .ok (.ifCond .eq 7, 3) := by decide +kernel
theorem dX5_simple_90 : decode cX5_simple 90 = .ok (.iconst 0, 1) := by decide +kernel
theorem dX5_simple_91 : decode cX5_simple 91 = .ok (.goto 10, 3) := by decide +kernel
theorem dX5_simple_94 : decode cX5_simple 94 = .ok (.aload_n 0, 1) := by decide +kernel
theorem dX5_simple_95 : decode cX5_simple 95 = .ok (.sipush 999, 3) := by decide +kernel
theorem dX5_simple_98 : decode cX5_simple 98 = .ok (.invokevirtual 108, 3) := by decide +kernel
theorem dX5_simple_101 : decode cX5_simple 101 = .ok (.istore_n 3, 1) := by decide +kernel
theorem dX5_simple_102 : decode cX5_simple 102 = .ok (.goto 123, 3) := by decide +kernel
theorem dX5_simple_105 : decode cX5_simple 105 = .ok (.aload_n 0, 1) := by decide +kernel
theorem dX5_simple_106 : decode cX5_simple 106 = .ok (.ldc 224, 2) := by decide +kernel
theorem dX5_simple_108 : decode cX5_simple 108 = .ok (.invokevirtual 155, 3) := by decide +kernel
theorem dX5_simple_111 : decode cX5_simple 111 = .ok (.ifCond .eq 10, 3) := by decide +kernel
theorem dX5_simple_114 : decode cX5_simple 114 = .ok (.aload_n 0, 1) := by decide +kernel
theorem dX5_simple_115 : decode cX5_simple 115 = .ok (.invokevirtual 226, 3) := by decide +kernel
theorem dX5_simple_118 : decode cX5_simple 118 = .ok (.goto 107, 3) := by decide +kernel
theorem dX5_simple_121 : decode cX5_simple 121 = .ok (.aload_n 0, 1) := by decide +kernel
theorem dX5_simple_122 : decode cX5_simple 122 = .ok (.ldc 229, 2) := by decide +kernel
theorem dX5_simple_124 : decode cX5_simple 124 = .ok (.invokevirtual 155, 3) := by decide +kernel
theorem dX5_simple_127 : decode cX5_simple 127 = .ok (.ifCond .eq 40, 3) := by decide +kernel
theorem dX5_simple_130 : decode cX5_simple 130 = .ok (.aload_n 0, 1) := by decide +kernel
theorem dX5_simple_131 : decode cX5_simple 131 = .ok (.invokevirtual 170, 3) := by decide +kernel
theorem dX5_simple_134 : decode cX5_simple 134 = .ok (.aload_n 0, 1) := by decide +kernel
theorem dX5_simple_135 : decode cX5_simple 135 = .ok (.getfield 7, 3) := by decide +kernel
theorem dX5_simple_138 : decode cX5_simple 138 = .ok (.iconst 5, 1) := by decide +kernel
theorem dX5_simple_139 : decode cX5_simple 139 = .ok (.aload_n 0, 1) := by decide +kernel
theorem dX5_simple_140 : decode cX5_simple 140 = .ok (.invokevirtual 135, 3) := by decide +kernel
theorem dX5_simple_143 : decode cX5_simple 143 = .ok (.ifCond .eq 12, 3) := by decide +kernel
theorem dX5_simple_146 : decode cX5_simple 146 = .ok (.aload_n 0, 1) := by decide +kernel
theorem dX5_simple_147 : decode cX5_simple 147 = .ok (.getfield 7, 3) := by decide +kernel
theorem dX5_simple_150 : decode cX5_simple 150 = .ok (.iconst 5, 1) := by decide +kernel
theorem dX5_simple_151 : decode cX5_simple 151 = .ok (.iaload, 1) := by decide +kernel
theorem dX5_simple_152 : decode cX5_simple 152 = .ok (.goto 11, 3) := by decide +kernel
theorem dX5_simple_155 : decode cX5_simple 155 = .ok (.iconst 1, 1) := by decide +kernel
theorem dX5_simple_156 : decode cX5_simple 156 = .ok (.aload_n 0, 1) := by decide +kernel
theorem dX5_simple_157 : decode cX5_simple 157 = .ok (.getfield 7, 3) := by decide +kernel
theorem dX5_simple_160 : decode cX5_simple 160 = .ok (.iconst 5, 1) := by decide +kernel
theorem dX5_simple_161 : decode cX5_simple 161 = .ok (.iaload, 1) := by decide +kernel
theorem dX5_simple_162 : decode cX5_simple 162 = .ok (.isub, 1) := by decide +kernel
theorem dX5_simple_163 : decode cX5_simple 163 = .ok (.iastore, 1) := by decide +kernel
theorem dX5_simple_164 : decode cX5_simple 164 = .ok (.goto 61, 3) := by decide +kernel
theorem dX5_simple_167 : decode cX5_simple 167 = .ok (.aload_n 0, 1) := by decide +kernel
theorem dX5_simple_168 : decode cX5_simple 168 = .ok (.ldc 231, 2) := by decide +kernel
theorem dX5_simple_170 : decode cX5_simple 170 = .ok (.invokevirtual 155, 3) := by decide +kernel
theorem dX5_simple_173 : decode cX5_simple 173 = .ok (.ifCond .eq 10, 3) := by decide +kernel
theorem dX5_simple_176 : decode cX5_simple 176 = .ok (.aload_n 0, 1) := by decide +kernel
theorem dX5_simple_177 : decode cX5_simple 177 = .ok (.invokevirtual 233, 3) := by decide +kernel
theorem dX5_simple_180 : decode cX5_simple 180 = .ok (.goto 45, 3) := by decide +kernel
theorem dX5_simple_183 : decode cX5_simple 183 = .ok (.aload_n 0, 1) := by decide +kernel
theorem dX5_simple_184 : decode cX5_simple 184 = .ok (.ldc 236, 2) := by decide +kernel
theorem dX5_simple_186 : decode cX5_simple 186 = .ok (.invokevirtual 155, 3) := by decide +kernel
theorem dX5_simple_189 : decode cX5_simple 189 = .ok (.ifCond .eq 10, 3) := by decide +kernel
theorem dX5_simple_192 : decode cX5_simple 192 = .ok (.aload_n 0, 1) := by decide +kernel
theorem dX5_simple_193 : decode cX5_simple 193 = .ok (.invokevirtual 238, 3) := by decide +kernel
theorem dX5_simple_196 : decode cX5_simple 196 = .ok (.goto 29, 3) := by decide +kernel
theorem dX5_simple_199 : decode cX5_simple 199 = .ok (.aload_n 0, 1) := by decide +kernel
theorem dX5_simple_200 : decode cX5_simple 200 = .ok (.ldc 241, 2) := by decide +kernel
theorem dX5_simple_202 : decode cX5_simple 202 = .ok (.invokevirtual 155, 3) := by decide +kernel
theorem dX5_simple_205 : decode cX5_simple 205 = .ok (.ifCond .eq 11, 3) := by decide +kernel
theorem dX5_simple_208 : decode cX5_simple 208 = .ok (.aload_n 0, 1) := by decide +kernel
theorem dX5_simple_209 : decode cX5_simple 209 = .ok (.iload_n 2, 1) := by decide +kernel
theorem dX5_simple_210 : decode cX5_simple 210 = .ok (.invokevirtual 243, 3) := by decide +kernel
theorem dX5_simple_213 : decode cX5_simple 213 = .ok (.goto 12, 3) := by decide +kernel
theorem dX5_simple_216 : decode cX5_simple 216 = .ok (.aload_n 0, 1) := by decide +kernel
theorem dX5_simple_217 : decode cX5_simple 217 = .ok (.iconst 1, 1) := by decide +kernel
theorem dX5_simple_218 : decode cX5_simple 218 = .ok (.aload_n 0, 1) := by decide +kernel
theorem dX5_simple_219 : decode cX5_simple 219 = .ok (.getfield 123, 3) := by decide +kernel
theorem dX5_simple_222 : decode cX5_simple 222 = .ok (.invokevirtual 147, 3) := by decide +kernel
theorem dX5_simple_225 : decode cX5_simple 225 = .ok (.return_, 1) := by decide +kernel
theorem dX5_commands_0 : decode cX5_commands 0 = .ok (.aload_n 0, 1) := by decide +kernel
theorem dX5_commands_1 : decode cX5_commands 1 = .ok (.iconst 0, 1) := by decide +kernel
theorem dX5_commands_2 : decode cX5_commands 2 = .ok (.putfield 209, 3) := by decide +kernel
theorem dX5_commands_5 : decode cX5_commands 5 = .ok (.aload_n 0, 1) := by decide +kernel
theorem dX5_commands_6 : decode cX5_commands 6 = .ok (.invokevirtual 135, 3) := by decide +kernel
theorem dX5_commands_9 : decode cX5_commands 9 = .ok (.ifCond .ne 18, 3) := by decide +kernel
theorem dX5_commands_12 : decode cX5_commands 12 = .ok (.aload_n 0, 1) := by decide +kernel
theorem dX5_commands_13 : decode cX5_commands 13 = .ok (.invokevirtual 132, 3) := by decide +kernel
theorem dX5_commands_16 : decode cX5_commands 16 = .ok (.iconst (-1), 1) := by decide +kernel
theorem dX5_commands_17 : decode cX5_commands 17 = .ok (.if_icmp .eq 10, 3) := by decide +kernel
theorem dX5_commands_20 : decode cX5_commands 20 = .ok (.aload_n 0, 1) := by decide +kernel
theorem dX5_commands_21 : decode cX5_commands 21 = .ok (.invokevirtual 246, 3) := by decide +kernel
theorem dX5_commands_24 : decode cX5_commands 24 = .ok (.goto (-19), 3) := by decide +kernel
theorem dX5_commands_27 : decode cX5_commands 27 = .ok (.aload_n 0, 1) := by decide +kernel
theorem dX5_commands_28 : decode cX5_commands 28 = .ok (.invokevirtual 135, 3) := by decide +kernel
theorem dX5_commands_31 : decode cX5_commands 31 = .ok (.ifCond .eq 16, 3) := by decide +kernel
theorem dX5_commands_34 : decode cX5_commands 34 = .ok (.aload_n 0, 1) := by decide +kernel
theorem dX5_commands_35 : decode cX5_commands 35 = .ok (.bipush 10, 2) := by decide +kernel
theorem dX5_commands_37 : decode cX5_commands 37 = .ok (.invokevirtual 249, 3) := by decide +kernel
theorem dX5_commands_40 : decode cX5_commands 40 = .ok (.aload_n 0, 1) := by decide +kernel
theorem dX5_commands_41 : decode cX5_commands 41 = .ok (.iconst 1, 1) := by decide +kernel
theorem dX5_commands_42 : decode cX5_commands 42 = .ok (.putfield 27, 3) := by decide +kernel
theorem dX5_commands_45 : decode cX5_commands 45 = .ok (.iconst (-1), 1) := by decide +kernel
theorem dX5_commands_46 : decode cX5_commands 46 = .ok (.ireturn, 1) := by decide +kernel
theorem dX5_commands_47 : decode cX5_commands 47 = .ok (.aload_n 0, 1) := by decide +kernel
theorem dX5_commands_48 : decode cX5_commands 48 = .ok (.getfield 209, 3) := by decide +kernel
theorem dX5_commands_51 : decode cX5_commands 51 = .ok (.ireturn, 1) := by decide +kernel
theorem dX5_load_0 : decode cX5_load 0 = .ok (.aload_n 0, 1) := by decide +kernel
theorem dX5_load_1 : decode cX5_load 1 = .ok (.iconst 0, 1) := by decide +kernel
theorem dX5_load_2 : decode cX5_load 2 = .ok (.putfield 27, 3) := by decide +kernel
theorem dX5_load_5 : decode cX5_load 5 = .ok (.aload_n 0, 1) := by decide +kernel
theorem dX5_load_6 : decode cX5_load 6 = .ok (.invokevirtual 252, 3) := by decide +kernel
theorem dX5_load_9 : decode cX5_load 9 = .ok (.iconst 0, 1) := by decide +kernel
theorem dX5_load_10 : decode cX5_load 10 = .ok (.istore_n 1, 1) := by decide +kernel
theorem dX5_load_11 : decode cX5_load 11 = .ok (.iload_n 1, 1) := by decide +kernel
theorem dX5_load_12 : decode cX5_load 12 = .ok (.sipush 211, 3) := by decide +kernel
theorem dX5_load_15 : decode cX5_load 15 = .ok (.if_icmp .ge 16, 3) := by decide +kernel
theorem dX5_load_18 : decode cX5_load 18 = .ok (.aload_n 0, 1) := by decide +kernel
theorem dX5_load_19 : decode cX5_load 19 = .ok (.getfield 7, 3) := by decide +kernel
theorem dX5_load_22 : decode cX5_load 22 = .ok (.iload_n 1, 1) := by decide +kernel
theorem dX5_load_23 : decode cX5_load 23 = .ok (.iconst 0, 1) := by decide +kernel
theorem dX5_load_24 : decode cX5_load 24 = .ok (.iastore, 1) := by decide +kernel
theorem dX5_load_25 : decode cX5_load 25 = .ok (.iinc 1 1, 3) := by decide +kernel
theorem dX5_load_28 : decode cX5_load 28 = .ok (.goto (-17), 3) := by decide +kernel
theorem dX5_load_31 : decode cX5_load 31 = .ok (.aload_n 0, 1) := by decide +kernel
theorem dX5_load_32 : decode cX5_load 32 = .ok (.getfield 7, 3) := by decide +kernel
theorem dX5_load_35 : decode cX5_load 35 = .ok (.iconst 5, 1) := by decide +kernel
theorem dX5_load_36 : decode cX5_load 36 = .ok (.iconst 1, 1) := by decide +kernel
theorem dX5_load_37 : decode cX5_load 37 = .ok (.iastore, 1) := by decide +kernel
theorem dX5_load_38 : decode cX5_load 38 = .ok (.aload_n 0, 1) := by decide +kernel
theorem dX5_load_39 : decode cX5_load 39 = .ok (.ldc 255, 2) := by decide +kernel
theorem dX5_load_41 : decode cX5_load 41 = .ok (.invokevirtual 155, 3) := by decide +kernel
theorem dX5_load_44 : decode cX5_load 44 = .ok (.ifCond .ne 12, 3) := by decide +kernel
theorem dX5_load_47 : decode cX5_load 47 = .ok (.aload_n 0, 1) := by decide +kernel
theorem dX5_load_48 : decode cX5_load 48 = .ok (.iconst 1, 1) := by decide +kernel
theorem dX5_load_49 : decode cX5_load 49 = .ok (.aload_n 0, 1) := by decide +kernel
theorem dX5_load_50 : decode cX5_load 50 = .ok (.getfield 123, 3) := by decide +kernel
theorem dX5_load_53 : decode cX5_load 53 = .ok (.invokevirtual 147, 3) := by decide +kernel
theorem dX5_load_56 : decode cX5_load 56 = .ok (.aload_n 0, 1) := by decide +kernel
theorem dX5_load_57 : decode cX5_load 57 = .ok (.getfield 7, 3) := by decide +kernel
theorem dX5_load_60 : decode cX5_load 60 = .ok (.iconst 0, 1) := by decide +kernel
theorem dX5_load_61 : decode cX5_load 61 = .ok (.aload_n 0, 1) := by decide +kernel
theorem dX5_load_62 : decode cX5_load 62 = .ok (.iconst 2, 1) := by decide +kernel
theorem dX5_load_63 : decode cX5_load 63 = .ok (.bipush 20, 2) := by decide +kernel
theorem dX5_load_65 : decode cX5_load 65 = .ok (.invokevirtual 162, 3) := by decide +kernel
theorem dX5_load_68 : decode cX5_load 68 = .ok (.iastore, 1) := by decide +kernel
theorem dX5_load_69 : decode cX5_load 69 = .ok (.aload_n 0, 1) := by decide +kernel
theorem dX5_load_70 : decode cX5_load 70 = .ok (.getfield 7, 3) := by decide +kernel
theorem dX5_load_73 : decode cX5_load 73 = .ok (.iconst 1, 1) := by decide +kernel
theorem dX5_load_74 : decode cX5_load 74 = .ok (.aload_n 0, 1) := by decide +kernel
theorem dX5_load_75 : decode cX5_load 75 = .ok (.iconst 1, 1) := by decide +kernel
theorem dX5_load_76 : decode cX5_load 76 = .ok (.bipush 8, 2) := by decide +kernel
theorem dX5_load_78 : decode cX5_load 78 = .ok (.invokevirtual 162, 3) := by decide +kernel
theorem dX5_load_81 : decode cX5_load 81 = .ok (.iastore, 1) := by decide +kernel
theorem dX5_load_82 : decode cX5_load 82 = .ok (.aload_n 0, 1) := by decide +kernel
theorem dX5_load_83 : decode cX5_load 83 = .ok (.getfield 7, 3) := by decide +kernel
theorem dX5_load_86 : decode cX5_load 86 = .ok (.iconst 2, 1) := by decide +kernel
theorem dX5_load_87 : decode cX5_load 87 = .ok (.aload_n 0, 1) := by decide +kernel
theorem dX5_load_88 : decode cX5_load 88 = .ok (.invokevirtual 177, 3) := by decide +kernel
theorem dX5_load_91 : decode cX5_load 91 = .ok (.iastore, 1) := by decide +kernel
theorem dX5_load_92 : decode cX5_load 92 = .ok (.aload_n 0, 1) := by decide +kernel
theorem dX5_load_93 : decode cX5_load 93 = .ok (.invokevirtual 170, 3) := by decide +kernel
theorem dX5_load_96 : decode cX5_load 96 = .ok (.aload_n 0, 1) := by decide +kernel
theorem dX5_load_97 : decode cX5_load 97 = .ok (.invokevirtual 257, 3) := by decide +kernel
theorem dX5_load_100 : decode cX5_load 100 = .ok (.iconst (-1), 1) := by decide +kernel
theorem dX5_load_101 : decode cX5_load 101 = .ok (.if_icmp .ne 5, 3) := by decide +kernel
theorem dX5_load_104 : decode cX5_load 104 = .ok (.iconst 0, 1) := by decide +kernel
theorem dX5_load_105 : decode cX5_load 105 = .ok (.ireturn, 1) := by decide +kernel
theorem dX5_load_106 : decode cX5_load 106 = .ok (.aload_n 0, 1) := by decide +kernel
theorem dX5_load_107 : decode cX5_load 107 = .ok (.iconst 0, 1) := by decide +kernel
theorem dX5_load_108 : decode cX5_load 108 = .ok (.putfield 111, 3) := by decide +kernel
theorem dX5_load_111 : decode cX5_load 111 = .ok (.aload_n 0, 1) := by decide +kernel
theorem dX5_load_112 : decode cX5_load 112 = .ok (.iconst 0, 1) := by decide +kernel
theorem dX5_load_113 : decode cX5_load 113 = .ok (.putfield 260, 3) := by decide +kernel
theorem dX5_load_116 : decode cX5_load 116 = .ok (.aload_n 0, 1) := by decide +kernel
theorem dX5_load_117 : decode cX5_load 117 = .ok (.iconst 0, 1) := by decide +kernel
theorem dX5_load_118 : decode cX5_load 118 = .ok (.putfield 264, 3) := by decide +kernel
theorem dX5_load_121 : decode cX5_load 121 = .ok (.aload_n 0, 1) := by decide +kernel
theorem dX5_load_122 : decode cX5_load 122 = .ok (.getfield 7, 3) := by decide +kernel
theorem dX5_load_125 : decode cX5_load 125 = .ok (.bipush 10, 2) := by decide +kernel
theorem dX5_load_127 : decode cX5_load 127 = .ok (.iaload, 1) := by decide +kernel
theorem dX5_load_128 : decode cX5_load 128 = .ok (.ireturn, 1) := by decide +kernel
theorem dX5_play_0 : decode cX5_play 0 = .ok (.aload_n 0, 1) := by decide +kernel
theorem dX5_play_1 : decode cX5_play 1 = .ok (.iconst 0, 1) := by decide +kernel
theorem dX5_play_2 : decode cX5_play 2 = .ok (.putfield 27, 3) := by decide +kernel
theorem dX5_play_5 : decode cX5_play 5 = .ok (.aload_n 0, 1) := by decide +kernel
theorem dX5_play_6 : decode cX5_play 6 = .ok (.invokevirtual 252, 3) := by decide +kernel
theorem dX5_play_9 : decode cX5_play 9 = .ok (.aload_n 0, 1) := by decide +kernel
theorem dX5_play_10 : decode cX5_play 10 = .ok (.invokevirtual 257, 3) := by decide +kernel
theorem dX5_play_13 : decode cX5_play 13 = .ok (.istore_n 1, 1) := by decide +kernel
theorem dX5_play_14 : decode cX5_play 14 = .ok (.iload_n 1, 1) := by decide +kernel
theorem dX5_play_15 : decode cX5_play 15 = .ok (.iconst (-1), 1) := by decide +kernel
theorem dX5_play_16 : decode cX5_play 16 = .ok (.if_icmp .ne 5, 3) := by decide +kernel
theorem dX5_play_19 : decode cX5_play 19 = .ok (.iconst 0, 1) := by decide +kernel
theorem dX5_play_20 : decode cX5_play 20 = .ok (.ireturn, 1) := by decide +kernel
theorem dX5_play_21 : decode cX5_play 21 = .ok (.aload_n 0, 1) := by decide +kernel
theorem dX5_play_22 : decode cX5_play 22 = .ok (.bipush 11, 2) := by decide +kernel
theorem dX5_play_24 : decode cX5_play 24 = .ok (.invokevirtual 114, 3) := by decide +kernel
theorem dX5_play_27 : decode cX5_play 27 = .ok (.aload_n 0, 1) := by decide +kernel
theorem dX5_play_28 : decode cX5_play 28 = .ok (.bipush 10, 2) := by decide +kernel
theorem dX5_play_30 : decode cX5_play 30 = .ok (.invokevirtual 249, 3) := by decide +kernel
theorem dX5_play_33 : decode cX5_play 33 = .ok (.aload_n 0, 1) := by decide +kernel
theorem dX5_play_34 : decode cX5_play 34 = .ok (.invokevirtual 267, 3) := by decide +kernel
theorem dX5_play_37 : decode cX5_play 37 = .ok (.aload_n 0, 1) := by decide +kernel
theorem dX5_play_38 : decode cX5_play 38 = .ok (.bipush 11, 2) := by decide +kernel
theorem dX5_play_40 : decode cX5_play 40 = .ok (.invokevirtual 249, 3) := by decide +kernel
theorem dX5_play_43 : decode cX5_play 43 = .ok (.iload_n 1, 1) := by decide +kernel
theorem dX5_play_44 : decode cX5_play 44 = .ok (.ireturn, 1) := by decide +kernel
theorem dX5_parseError_0 : decode cX5_parseError 0 = .ok (.aload_n 0, 1) := by decide +kernel
theorem dX5_parseError_1 : decode cX5_parseError 1 = .ok (.iconst 0, 1) := by decide +kernel
theorem dX5_parseError_2 : decode cX5_parseError 2 = .ok (.putfield 27, 3) := by decide +kernel
theorem dX5_parseError_5 : decode cX5_parseError 5 = .ok (.aload_n 0, 1) := by decide +kernel
theorem dX5_parseError_6 : decode cX5_parseError 6 = .ok (.getfield 129, 3) := by decide +kernel
theorem dX5_parseError_9 : decode cX5_parseError 9 = .ok (.ireturn, 1) := by decide +kernel
theorem dX5_parseErrorPosition_0 : decode cX5_parseErrorPosition 0 = .ok (.aload_n 0, 1) := by decide +kernel
theorem dX5_parseErrorPosition_1 : decode cX5_parseErrorPosition 1 = .ok (.iconst 0, 1) := by decide +kernel
theorem dX5_parseErrorPosition_2 : decode cX5_parseErrorPosition 2 = .ok (.putfield 27, 3) := by decide +kernel
theorem dX5_parseErrorPosition_5 : decode cX5_parseErrorPosition 5 = .ok (.aload_n 0, 1) := by decide +kernel
theorem dX5_parseErrorPosition_6 : decode cX5_parseErrorPosition 6 = .ok (.getfield 20, 3) := by decide +kernel
theorem dX5_parseErrorPosition_9 : decode cX5_parseErrorPosition 9 = .ok (.ireturn, 1) := by decide +kernel
theorem dX5_noPassenger_0 : decode cX5_noPassenger 0 = .ok (.aload_n 0, 1) := by decide +kernel
theorem dX5_noPassenger_1 : decode cX5_noPassenger 1 = .ok (.iload_n 1, 1) := by decide +kernel
theorem dX5_noPassenger_2 : decode cX5_noPassenger 2 = .ok (.iconst 0, 1) := by decide +kernel
theorem dX5_noPassenger_3 : decode cX5_noPassenger 3 = .ok (.aload_n 0, 1) := by decide +kernel
theorem dX5_noPassenger_4 : decode cX5_noPassenger 4 = .ok (.getfield 7, 3) := by decide +kernel
theorem dX5_noPassenger_7 : decode cX5_noPassenger 7 = .ok (.bipush 10, 2) := by decide +kernel
theorem dX5_noPassenger_9 : decode cX5_noPassenger 9 = .ok (.iaload, 1) := by decide +kernel
theorem dX5_noPassenger_10 : decode cX5_noPassenger 10 = .ok (.iconst 1, 1) := by decide +kernel
theorem dX5_noPassenger_11 : decode cX5_noPassenger 11 = .ok (.isub, 1) := by decide +kernel
theorem dX5_noPassenger_12 : decode cX5_noPassenger 12 = .ok (.invokestatic 63, 3) := by decide +kernel
theorem dX5_noPassenger_15 : decode cX5_noPassenger 15 = .ok (.ifCond .ne 7, 3) := by decide +kernel
theorem dX5_noPassenger_18 : decode cX5_noPassenger 18 = .ok (.iconst 1, 1) := by decide +kernel
theorem dX5_noPassenger_19 : decode cX5_noPassenger 19 = .ok (.goto 4, 3) := by decide +kernel
theorem dX5_noPassenger_22 : decode cX5_noPassenger 22 = .ok (.iconst 0, 1) := by decide +kernel
theorem dX5_noPassenger_23 : decode cX5_noPassenger 23 = .ok (.iconst 1, 1) := by decide +kernel
theorem dX5_noPassenger_24 : decode cX5_noPassenger 24 = .ok (.invokevirtual 270, 3) := by decide +kernel
theorem dX5_noPassenger_27 : decode cX5_noPassenger 27 = .ok (.ireturn, 1) := by decide +kernel
theorem dX5_noFloor_0 : decode cX5_noFloor 0 = .ok (.aload_n 0, 1) := by decide +kernel
theorem dX5_noFloor_1 : decode cX5_noFloor 1 = .ok (.iload_n 1, 1) := by decide +kernel
theorem dX5_noFloor_2 : decode cX5_noFloor 2 = .ok (.iconst 0, 1) := by decide +kernel
theorem dX5_noFloor_3 : decode cX5_noFloor 3 = .ok (.aload_n 0, 1) := by decide +kernel
theorem dX5_noFloor_4 : decode cX5_noFloor 4 = .ok (.getfield 7, 3) := by decide +kernel
theorem dX5_noFloor_7 : decode cX5_noFloor 7 = .ok (.iconst 0, 1) := by decide +kernel
theorem dX5_noFloor_8 : decode cX5_noFloor 8 = .ok (.iaload, 1) := by decide +kernel
theorem dX5_noFloor_9 : decode cX5_noFloor 9 = .ok (.iconst 1, 1) := by decide +kernel
theorem dX5_noFloor_10 : decode cX5_noFloor 10 = .ok (.isub, 1) := by decide +kernel
theorem dX5_noFloor_11 : decode cX5_noFloor 11 = .ok (.invokestatic 63, 3) := by decide +kernel
theorem dX5_noFloor_14 : decode cX5_noFloor 14 = .ok (.ifCond .ne 7, 3) := by decide +kernel
theorem dX5_noFloor_17 : decode cX5_noFloor 17 = .ok (.iconst 1, 1) := by decide +kernel
theorem dX5_noFloor_18 : decode cX5_noFloor 18 = .ok (.goto 4, 3) := by decide +kernel
theorem dX5_noFloor_21 : decode cX5_noFloor 21 = .ok (.iconst 0, 1) := by decide +kernel
theorem dX5_noFloor_22 : decode cX5_noFloor 22 = .ok (.iconst 1, 1) := by decide +kernel
theorem dX5_noFloor_23 : decode cX5_noFloor 23 = .ok (.invokevirtual 270, 3) := by decide +kernel
theorem dX5_noFloor_26 : decode cX5_noFloor 26 = .ok (.ireturn, 1) := by decide +kernel
theorem dX5_noPolicy_0 : decode cX5_noPolicy 0 = .ok (.aload_n 0, 1) := by decide +kernel
theorem dX5_noPolicy_1 : decode cX5_noPolicy 1 = .ok (.iload_n 1, 1) := by decide +kernel
theorem dX5_noPolicy_2 : decode cX5_noPolicy 2 = .ok (.iconst 0, 1) := by decide +kernel
theorem dX5_noPolicy_3 : decode cX5_noPolicy 3 = .ok (.iconst 2, 1) := by decide +kernel
theorem dX5_noPolicy_4 : decode cX5_noPolicy 4 = .ok (.invokestatic 63, 3) := by decide +kernel
theorem dX5_noPolicy_7 : decode cX5_noPolicy 7 = .ok (.ifCond .ne 7, 3) := by decide +kernel
theorem dX5_noPolicy_10 : decode cX5_noPolicy 10 = .ok (.iconst 1, 1) := by decide +kernel
theorem dX5_noPolicy_11 : decode cX5_noPolicy 11 = .ok (.goto 4, 3) := by decide +kernel
theorem dX5_noPolicy_14 : decode cX5_noPolicy 14 = .ok (.iconst 0, 1) := by decide +kernel
theorem dX5_noPolicy_15 : decode cX5_noPolicy 15 = .ok (.iconst 1, 1) := by decide +kernel
theorem dX5_noPolicy_16 : decode cX5_noPolicy 16 = .ok (.invokevirtual 270, 3) := by decide +kernel
theorem dX5_noPolicy_19 : decode cX5_noPolicy 19 = .ok (.ireturn, 1) := by decide +kernel
theorem dX5_floorCount_0 : decode cX5_floorCount 0 = .ok (.aload_n 0, 1) := by decide +kernel
theorem dX5_floorCount_1 : decode cX5_floorCount 1 = .ok (.iconst 0, 1) := by decide +kernel
theorem dX5_floorCount_2 : decode cX5_floorCount 2 = .ok (.putfield 27, 3) := by decide +kernel
theorem dX5_floorCount_5 : decode cX5_floorCount 5 = .ok (.aload_n 0, 1) := by decide +kernel
theorem dX5_floorCount_6 : decode cX5_floorCount 6 = .ok (.getfield 7, 3) := by decide +kernel
theorem dX5_floorCount_9 : decode cX5_floorCount 9 = .ok (.iconst 0, 1) := by decide +kernel
theorem dX5_floorCount_10 : decode cX5_floorCount 10 = .ok (.iaload, 1) := by decide +kernel
theorem dX5_floorCount_11 : decode cX5_floorCount 11 = .ok (.ireturn, 1) := by decide +kernel
theorem dX5_capacity_0 : decode cX5_capacity 0 = .ok (.aload_n 0, 1) := by decide +kernel
theorem dX5_capacity_1 : decode cX5_capacity 1 = .ok (.iconst 0, 1) := by decide +kernel
theorem dX5_capacity_2 : decode cX5_capacity 2 = .ok (.putfield 27, 3) := by decide +kernel
theorem dX5_capacity_5 : decode cX5_capacity 5 = .ok (.aload_n 0, 1) := by decide +kernel
theorem dX5_capacity_6 : decode cX5_capacity 6 = .ok (.getfield 7, 3) := by decide +kernel
theorem dX5_capacity_9 : decode cX5_capacity 9 = .ok (.iconst 1, 1) := by decide +kernel
theorem dX5_capacity_10 : decode cX5_capacity 10 = .ok (.iaload, 1) := by decide +kernel
theorem dX5_capacity_11 : decode cX5_capacity 11 = .ok (.ireturn, 1) := by decide +kernel
theorem dX5_policy_0 : decode cX5_policy 0 = .ok (.aload_n 0, 1) := by decide +kernel
theorem dX5_policy_1 : decode cX5_policy 1 = .ok (.iconst 0, 1) := by decide +kernel
theorem dX5_policy_2 : decode cX5_policy 2 = .ok (.putfield 27, 3) := by decide +kernel
theorem dX5_policy_5 : decode cX5_policy 5 = .ok (.aload_n 0, 1) := by decide +kernel
theorem dX5_policy_6 : decode cX5_policy 6 = .ok (.getfield 7, 3) := by decide +kernel
theorem dX5_policy_9 : decode cX5_policy 9 = .ok (.iconst 2, 1) := by decide +kernel
theorem dX5_policy_10 : decode cX5_policy 10 = .ok (.iaload, 1) := by decide +kernel
theorem dX5_policy_11 : decode cX5_policy 11 = .ok (.ireturn, 1) := by decide +kernel
theorem dX5_time_0 : decode cX5_time 0 = .ok (.aload_n 0, 1) := by decide +kernel
theorem dX5_time_1 : decode cX5_time 1 = .ok (.iconst 0, 1) := by decide +kernel
theorem dX5_time_2 : decode cX5_time 2 = .ok (.putfield 27, 3) := by decide +kernel
theorem dX5_time_5 : decode cX5_time 5 = .ok (.aload_n 0, 1) := by decide +kernel
theorem dX5_time_6 : decode cX5_time 6 = .ok (.getfield 7, 3) := by decide +kernel
theorem dX5_time_9 : decode cX5_time 9 = .ok (.iconst 3, 1) := by decide +kernel
theorem dX5_time_10 : decode cX5_time 10 = .ok (.iaload, 1) := by decide +kernel
theorem dX5_time_11 : decode cX5_time 11 = .ok (.ireturn, 1) := by decide +kernel
theorem dX5_floor_0 : decode cX5_floor 0 = .ok (.aload_n 0, 1) := by decide +kernel
theorem dX5_floor_1 : decode cX5_floor 1 = .ok (.iconst 0, 1) := by decide +kernel
theorem dX5_floor_2 : decode cX5_floor 2 = .ok (.putfield 27, 3) := by decide +kernel
theorem dX5_floor_5 : decode cX5_floor 5 = .ok (.aload_n 0, 1) := by decide +kernel
theorem dX5_floor_6 : decode cX5_floor 6 = .ok (.getfield 7, 3) := by decide +kernel
theorem dX5_floor_9 : decode cX5_floor 9 = .ok (.iconst 4, 1) := by decide +kernel
theorem dX5_floor_10 : decode cX5_floor 10 = .ok (.iaload, 1) := by decide +kernel
theorem dX5_floor_11 : decode cX5_floor 11 = .ok (.ireturn, 1) := by decide +kernel
theorem dX5_isUpward_0 : decode cX5_isUpward 0 = .ok (.aload_n 0, 1) := by decide +kernel
theorem dX5_isUpward_1 : decode cX5_isUpward 1 = .ok (.iconst 0, 1) := by decide +kernel
theorem dX5_isUpward_2 : decode cX5_isUpward 2 = .ok (.putfield 27, 3) := by decide +kernel
theorem dX5_isUpward_5 : decode cX5_isUpward 5 = .ok (.aload_n 0, 1) := by decide +kernel
theorem dX5_isUpward_6 : decode cX5_isUpward 6 = .ok (.getfield 7, 3) := by decide +kernel
theorem dX5_isUpward_9 : decode cX5_isUpward 9 = .ok (.iconst 5, 1) := by decide +kernel
theorem dX5_isUpward_10 : decode cX5_isUpward 10 = .ok (.iaload, 1) := by decide +kernel
theorem dX5_isUpward_11 : decode cX5_isUpward 11 = .ok (.iconst 1, 1) := by decide +kernel
theorem dX5_isUpward_12 : decode cX5_isUpward 12 = .ok (.if_icmp .ne 7, 3) := by decide +kernel
theorem dX5_isUpward_15 : decode cX5_isUpward 15 = .ok (.iconst 1, 1) := by decide +kernel
theorem dX5_isUpward_16 : decode cX5_isUpward 16 = .ok (.goto 4, 3) := by decide +kernel
theorem dX5_isUpward_19 : decode cX5_isUpward 19 = .ok (.iconst 0, 1) := by decide +kernel
theorem dX5_isUpward_20 : decode cX5_isUpward 20 = .ok (.ireturn, 1) := by decide +kernel
theorem dX5_isFull_0 : decode cX5_isFull 0 = .ok (.aload_n 0, 1) := by decide +kernel
theorem dX5_isFull_1 : decode cX5_isFull 1 = .ok (.iconst 0, 1) := by decide +kernel
theorem dX5_isFull_2 : decode cX5_isFull 2 = .ok (.putfield 27, 3) := by decide +kernel
theorem dX5_isFull_5 : decode cX5_isFull 5 = .ok (.aload_n 0, 1) := by decide +kernel
theorem dX5_isFull_6 : decode cX5_isFull 6 = .ok (.invokevirtual 56, 3) := by decide +kernel
theorem dX5_isFull_9 : decode cX5_isFull 9 = .ok (.ireturn, 1) := by decide +kernel
theorem dX5_stopMask_0 : decode cX5_stopMask 0 = .ok (.aload_n 0, 1) := by decide +kernel
theorem dX5_stopMask_1 : decode cX5_stopMask 1 = .ok (.iconst 0, 1) := by decide +kernel
theorem dX5_stopMask_2 : decode cX5_stopMask 2 = .ok (.putfield 27, 3) := by decide +kernel
theorem dX5_stopMask_5 : decode cX5_stopMask 5 = .ok (.aload_n 0, 1) := by decide +kernel
theorem dX5_stopMask_6 : decode cX5_stopMask 6 = .ok (.invokevirtual 77, 3) := by decide +kernel
theorem dX5_stopMask_9 : decode cX5_stopMask 9 = .ok (.ireturn, 1) := by decide +kernel
theorem dX5_targetBy_0 : decode cX5_targetBy 0 = .ok (.aload_n 0, 1) := by decide +kernel
theorem dX5_targetBy_1 : decode cX5_targetBy 1 = .ok (.iconst 0, 1) := by decide +kernel
theorem dX5_targetBy_2 : decode cX5_targetBy 2 = .ok (.putfield 27, 3) := by decide +kernel
theorem dX5_targetBy_5 : decode cX5_targetBy 5 = .ok (.aload_n 0, 1) := by decide +kernel
theorem dX5_targetBy_6 : decode cX5_targetBy 6 = .ok (.iload_n 1, 1) := by decide +kernel
theorem dX5_targetBy_7 : decode cX5_targetBy 7 = .ok (.invokevirtual 274, 3) := by decide +kernel
theorem dX5_targetBy_10 : decode cX5_targetBy 10 = .ok (.ifCond .eq 7, 3) := by decide +kernel
theorem dX5_targetBy_13 : decode cX5_targetBy 13 = .ok (.iconst 0, 1) := by decide +kernel
theorem dX5_targetBy_14 : decode cX5_targetBy 14 = .ok (.goto 8, 3) := by decide +kernel
theorem dX5_targetBy_17 : decode cX5_targetBy 17 = .ok (.aload_n 0, 1) := by decide +kernel
theorem dX5_targetBy_18 : decode cX5_targetBy 18 = .ok (.iload_n 1, 1) := by decide +kernel
theorem dX5_targetBy_19 : decode cX5_targetBy 19 = .ok (.invokevirtual 91, 3) := by decide +kernel
theorem dX5_targetBy_22 : decode cX5_targetBy 22 = .ok (.ireturn, 1) := by decide +kernel
theorem dX5_distance_0 : decode cX5_distance 0 = .ok (.aload_n 0, 1) := by decide +kernel
theorem dX5_distance_1 : decode cX5_distance 1 = .ok (.iconst 0, 1) := by decide +kernel
theorem dX5_distance_2 : decode cX5_distance 2 = .ok (.putfield 27, 3) := by decide +kernel
theorem dX5_distance_5 : decode cX5_distance 5 = .ok (.aload_n 0, 1) := by decide +kernel
theorem dX5_distance_6 : decode cX5_distance 6 = .ok (.getfield 7, 3) := by decide +kernel
theorem dX5_distance_9 : decode cX5_distance 9 = .ok (.bipush 6, 2) := by decide +kernel
theorem dX5_distance_11 : decode cX5_distance 11 = .ok (.iaload, 1) := by decide +kernel
theorem dX5_distance_12 : decode cX5_distance 12 = .ok (.ireturn, 1) := by decide +kernel
theorem dX5_doorTicks_0 : decode cX5_doorTicks 0 = .ok (.aload_n 0, 1) := by decide +kernel
theorem dX5_doorTicks_1 : decode cX5_doorTicks 1 = .ok (.iconst 0, 1) := by decide +kernel
theorem dX5_doorTicks_2 : decode cX5_doorTicks 2 = .ok (.putfield 27, 3) := by decide +kernel
theorem dX5_doorTicks_5 : decode cX5_doorTicks 5 = .ok (.aload_n 0, 1) := by decide +kernel
theorem dX5_doorTicks_6 : decode cX5_doorTicks 6 = .ok (.getfield 7, 3) := by decide +kernel
theorem dX5_doorTicks_9 : decode cX5_doorTicks 9 = .ok (.bipush 7, 2) := by decide +kernel
theorem dX5_doorTicks_11 : decode cX5_doorTicks 11 = .ok (.iaload, 1) := by decide +kernel
theorem dX5_doorTicks_12 : decode cX5_doorTicks 12 = .ok (.ireturn, 1) := by decide +kernel
theorem dX5_idleTicks_0 : decode cX5_idleTicks 0 = .ok (.aload_n 0, 1) := by decide +kernel
theorem dX5_idleTicks_1 : decode cX5_idleTicks 1 = .ok (.iconst 0, 1) := by decide +kernel
theorem dX5_idleTicks_2 : decode cX5_idleTicks 2 = .ok (.putfield 27, 3) := by decide +kernel
theorem dX5_idleTicks_5 : decode cX5_idleTicks 5 = .ok (.aload_n 0, 1) := by decide +kernel
theorem dX5_idleTicks_6 : decode cX5_idleTicks 6 = .ok (.getfield 7, 3) := by decide +kernel
theorem dX5_idleTicks_9 : decode cX5_idleTicks 9 = .ok (.bipush 8, 2) := by decide +kernel
theorem dX5_idleTicks_11 : decode cX5_idleTicks 11 = .ok (.iaload, 1) := by decide +kernel
theorem dX5_idleTicks_12 : decode cX5_idleTicks 12 = .ok (.ireturn, 1) := by decide +kernel
theorem dX5_reversals_0 : decode cX5_reversals 0 = .ok (.aload_n 0, 1) := by decide +kernel
theorem dX5_reversals_1 : decode cX5_reversals 1 = .ok (.iconst 0, 1) := by decide +kernel
theorem dX5_reversals_2 : decode cX5_reversals 2 = .ok (.putfield 27, 3) := by decide +kernel
theorem dX5_reversals_5 : decode cX5_reversals 5 = .ok (.aload_n 0, 1) := by decide +kernel
theorem dX5_reversals_6 : decode cX5_reversals 6 = .ok (.getfield 7, 3) := by decide +kernel
theorem dX5_reversals_9 : decode cX5_reversals 9 = .ok (.bipush 9, 2) := by decide +kernel
theorem dX5_reversals_11 : decode cX5_reversals 11 = .ok (.iaload, 1) := by decide +kernel
theorem dX5_reversals_12 : decode cX5_reversals 12 = .ok (.ireturn, 1) := by decide +kernel
theorem dX5_passengerCount_0 : decode cX5_passengerCount 0 = .ok (.aload_n 0, 1) := by decide +kernel
theorem dX5_passengerCount_1 : decode cX5_passengerCount 1 = .ok (.iconst 0, 1) := by decide +kernel
theorem dX5_passengerCount_2 : decode cX5_passengerCount 2 = .ok (.putfield 27, 3) := by decide +kernel
theorem dX5_passengerCount_5 : decode cX5_passengerCount 5 = .ok (.aload_n 0, 1) := by decide +kernel
theorem dX5_passengerCount_6 : decode cX5_passengerCount 6 = .ok (.getfield 7, 3) := by decide +kernel
theorem dX5_passengerCount_9 : decode cX5_passengerCount 9 = .ok (.bipush 10, 2) := by decide +kernel
theorem dX5_passengerCount_11 : decode cX5_passengerCount 11 = .ok (.iaload, 1) := by decide +kernel
theorem dX5_passengerCount_12 : decode cX5_passengerCount 12 = .ok (.ireturn, 1) := by decide +kernel
theorem dX5_statusOf_0 : decode cX5_statusOf 0 = .ok (.aload_n 0, 1) := by decide +kernel
theorem dX5_statusOf_1 : decode cX5_statusOf 1 = .ok (.iconst 0, 1) := by decide +kernel
theorem dX5_statusOf_2 : decode cX5_statusOf 2 = .ok (.putfield 27, 3) := by decide +kernel
theorem dX5_statusOf_5 : decode cX5_statusOf 5 = .ok (.aload_n 0, 1) := by decide +kernel
theorem dX5_statusOf_6 : decode cX5_statusOf 6 = .ok (.iload_n 1, 1) := by decide +kernel
theorem dX5_statusOf_7 : decode cX5_statusOf 7 = .ok (.invokevirtual 277, 3) := by decide +kernel
theorem dX5_statusOf_10 : decode cX5_statusOf 10 = .ok (.ifCond .eq 7, 3) := by decide +kernel
theorem dX5_statusOf_13 : decode cX5_statusOf 13 = .ok (.iconst 0, 1) := by decide +kernel
theorem dX5_statusOf_14 : decode cX5_statusOf 14 = .ok (.goto 8, 3) := by decide +kernel
theorem dX5_statusOf_17 : decode cX5_statusOf 17 = .ok (.aload_n 0, 1) := by decide +kernel
theorem dX5_statusOf_18 : decode cX5_statusOf 18 = .ok (.iload_n 1, 1) := by decide +kernel
theorem dX5_statusOf_19 : decode cX5_statusOf 19 = .ok (.invokevirtual 43, 3) := by decide +kernel
theorem dX5_statusOf_22 : decode cX5_statusOf 22 = .ok (.ireturn, 1) := by decide +kernel
theorem dX5_originOf_0 : decode cX5_originOf 0 = .ok (.aload_n 0, 1) := by decide +kernel
theorem dX5_originOf_1 : decode cX5_originOf 1 = .ok (.iconst 0, 1) := by decide +kernel
theorem dX5_originOf_2 : decode cX5_originOf 2 = .ok (.putfield 27, 3) := by decide +kernel
theorem dX5_originOf_5 : decode cX5_originOf 5 = .ok (.aload_n 0, 1) := by decide +kernel
theorem dX5_originOf_6 : decode cX5_originOf 6 = .ok (.iload_n 1, 1) := by decide +kernel
theorem dX5_originOf_7 : decode cX5_originOf 7 = .ok (.invokevirtual 277, 3) := by decide +kernel
theorem dX5_originOf_10 : decode cX5_originOf 10 = .ok (.ifCond .eq 7, 3) := by decide +kernel
theorem dX5_originOf_13 : decode cX5_originOf 13 = .ok (.iconst 0, 1) := by decide +kernel
theorem dX5_originOf_14 : decode cX5_originOf 14 = .ok (.goto 8, 3) := by decide +kernel
theorem dX5_originOf_17 : decode cX5_originOf 17 = .ok (.aload_n 0, 1) := by decide +kernel
theorem dX5_originOf_18 : decode cX5_originOf 18 = .ok (.iload_n 1, 1) := by decide +kernel
theorem dX5_originOf_19 : decode cX5_originOf 19 = .ok (.invokevirtual 49, 3) := by decide +kernel
theorem dX5_originOf_22 : decode cX5_originOf 22 = .ok (.ireturn, 1) := by decide +kernel
theorem dX5_destinationOf_0 : decode cX5_destinationOf 0 = .ok (.aload_n 0, 1) := by decide +kernel
theorem dX5_destinationOf_1 : decode cX5_destinationOf 1 = .ok (.iconst 0, 1) := by decide +kernel
theorem dX5_destinationOf_2 : decode cX5_destinationOf 2 = .ok (.putfield 27, 3) := by decide +kernel
theorem dX5_destinationOf_5 : decode cX5_destinationOf 5 = .ok (.aload_n 0, 1) := by decide +kernel
theorem dX5_destinationOf_6 : decode cX5_destinationOf 6 = .ok (.iload_n 1, 1) := by decide +kernel
theorem dX5_destinationOf_7 : decode cX5_destinationOf 7 = .ok (.invokevirtual 277, 3) := by decide +kernel
theorem dX5_destinationOf_10 : decode cX5_destinationOf 10 = .ok (.ifCond .eq 7, 3) := by decide +kernel
theorem dX5_destinationOf_13 : decode cX5_destinationOf 13 = .ok (.iconst 0, 1) := by decide +kernel
theorem dX5_destinationOf_14 : decode cX5_destinationOf 14 = .ok (.goto 8, 3) := by decide +kernel
theorem dX5_destinationOf_17 : decode cX5_destinationOf 17 = .ok (.aload_n 0, 1) := by decide +kernel
theorem dX5_destinationOf_18 : decode cX5_destinationOf 18 = .ok (.iload_n 1, 1) := by decide +kernel
theorem dX5_destinationOf_19 : decode cX5_destinationOf 19 = .ok (.invokevirtual 60, 3) := by decide +kernel
theorem dX5_destinationOf_22 : decode cX5_destinationOf 22 = .ok (.ireturn, 1) := by decide +kernel
theorem dX5_arrivalOf_0 : decode cX5_arrivalOf 0 = .ok (.aload_n 0, 1) := by decide +kernel
theorem dX5_arrivalOf_1 : decode cX5_arrivalOf 1 = .ok (.iconst 0, 1) := by decide +kernel
theorem dX5_arrivalOf_2 : decode cX5_arrivalOf 2 = .ok (.putfield 27, 3) := by decide +kernel
theorem dX5_arrivalOf_5 : decode cX5_arrivalOf 5 = .ok (.aload_n 0, 1) := by decide +kernel
theorem dX5_arrivalOf_6 : decode cX5_arrivalOf 6 = .ok (.iload_n 1, 1) := by decide +kernel
theorem dX5_arrivalOf_7 : decode cX5_arrivalOf 7 = .ok (.invokevirtual 277, 3) := by decide +kernel
theorem dX5_arrivalOf_10 : decode cX5_arrivalOf 10 = .ok (.ifCond .eq 7, 3) := by decide +kernel
theorem dX5_arrivalOf_13 : decode cX5_arrivalOf 13 = .ok (.iconst 0, 1) := by decide +kernel
theorem dX5_arrivalOf_14 : decode cX5_arrivalOf 14 = .ok (.goto 8, 3) := by decide +kernel
theorem dX5_arrivalOf_17 : decode cX5_arrivalOf 17 = .ok (.aload_n 0, 1) := by decide +kernel
theorem dX5_arrivalOf_18 : decode cX5_arrivalOf 18 = .ok (.iload_n 1, 1) := by decide +kernel
theorem dX5_arrivalOf_19 : decode cX5_arrivalOf 19 = .ok (.invokevirtual 40, 3) := by decide +kernel
theorem dX5_arrivalOf_22 : decode cX5_arrivalOf 22 = .ok (.ireturn, 1) := by decide +kernel
theorem dX5_boardedAt_0 : decode cX5_boardedAt 0 = .ok (.aload_n 0, 1) := by decide +kernel
theorem dX5_boardedAt_1 : decode cX5_boardedAt 1 = .ok (.iconst 0, 1) := by decide +kernel
theorem dX5_boardedAt_2 : decode cX5_boardedAt 2 = .ok (.putfield 27, 3) := by decide +kernel
theorem dX5_boardedAt_5 : decode cX5_boardedAt 5 = .ok (.aload_n 0, 1) := by decide +kernel
theorem dX5_boardedAt_6 : decode cX5_boardedAt 6 = .ok (.iload_n 1, 1) := by decide +kernel
theorem dX5_boardedAt_7 : decode cX5_boardedAt 7 = .ok (.invokevirtual 277, 3) := by decide +kernel
theorem dX5_boardedAt_10 : decode cX5_boardedAt 10 = .ok (.ifCond .eq 7, 3) := by decide +kernel
theorem dX5_boardedAt_13 : decode cX5_boardedAt 13 = .ok (.iconst 0, 1) := by decide +kernel
theorem dX5_boardedAt_14 : decode cX5_boardedAt 14 = .ok (.goto 8, 3) := by decide +kernel
theorem dX5_boardedAt_17 : decode cX5_boardedAt 17 = .ok (.aload_n 0, 1) := by decide +kernel
theorem dX5_boardedAt_18 : decode cX5_boardedAt 18 = .ok (.iload_n 1, 1) := by decide +kernel
theorem dX5_boardedAt_19 : decode cX5_boardedAt 19 = .ok (.invokevirtual 37, 3) := by decide +kernel
theorem dX5_boardedAt_22 : decode cX5_boardedAt 22 = .ok (.ireturn, 1) := by decide +kernel
theorem dX5_leftAt_0 : decode cX5_leftAt 0 = .ok (.aload_n 0, 1) := by decide +kernel
theorem dX5_leftAt_1 : decode cX5_leftAt 1 = .ok (.iconst 0, 1) := by decide +kernel
theorem dX5_leftAt_2 : decode cX5_leftAt 2 = .ok (.putfield 27, 3) := by decide +kernel
theorem dX5_leftAt_5 : decode cX5_leftAt 5 = .ok (.aload_n 0, 1) := by decide +kernel
theorem dX5_leftAt_6 : decode cX5_leftAt 6 = .ok (.iload_n 1, 1) := by decide +kernel
theorem dX5_leftAt_7 : decode cX5_leftAt 7 = .ok (.invokevirtual 277, 3) := by decide +kernel
theorem dX5_leftAt_10 : decode cX5_leftAt 10 = .ok (.ifCond .eq 7, 3) := by decide +kernel
theorem dX5_leftAt_13 : decode cX5_leftAt 13 = .ok (.iconst 0, 1) := by decide +kernel
theorem dX5_leftAt_14 : decode cX5_leftAt 14 = .ok (.goto 8, 3) := by decide +kernel
theorem dX5_leftAt_17 : decode cX5_leftAt 17 = .ok (.aload_n 0, 1) := by decide +kernel
theorem dX5_leftAt_18 : decode cX5_leftAt 18 = .ok (.iload_n 1, 1) := by decide +kernel
theorem dX5_leftAt_19 : decode cX5_leftAt 19 = .ok (.invokevirtual 34, 3) := by decide +kernel
theorem dX5_leftAt_22 : decode cX5_leftAt 22 = .ok (.ireturn, 1) := by decide +kernel
theorem dX5_waited_0 : decode cX5_waited 0 = .ok (.aload_n 0, 1) := by decide +kernel
theorem dX5_waited_1 : decode cX5_waited 1 = .ok (.iload_n 1, 1) := by decide +kernel
theorem dX5_waited_2 : decode cX5_waited 2 = .ok (.invokevirtual 37, 3) := by decide +kernel
theorem dX5_waited_5 : decode cX5_waited 5 = .ok (.iconst (-1), 1) := by decide +kernel
theorem dX5_waited_6 : decode cX5_waited 6 = .ok (.if_icmp .ne 7, 3) := by decide +kernel
theorem dX5_waited_9 : decode cX5_waited 9 = .ok (.iconst (-1), 1) := by decide +kernel
theorem dX5_waited_10 : decode cX5_waited 10 = .ok (.goto 14, 3) := by decide +kernel
theorem dX5_waited_13 : decode cX5_waited 13 = .ok (.aload_n 0, 1) := by decide +kernel
theorem dX5_waited_14 : decode cX5_waited 14 = .ok (.iload_n 1, 1) := by decide +kernel
theorem dX5_waited_15 : decode cX5_waited 15 = .ok (.invokevirtual 37, 3) := by decide +kernel
theorem dX5_waited_18 : decode cX5_waited 18 = .ok (.aload_n 0, 1) := by decide +kernel
theorem dX5_waited_19 : decode cX5_waited 19 = .ok (.iload_n 1, 1) := by decide +kernel
theorem dX5_waited_20 : decode cX5_waited 20 = .ok (.invokevirtual 40, 3) := by decide +kernel
theorem dX5_waited_23 : decode cX5_waited 23 = .ok (.isub, 1) := by decide +kernel
theorem dX5_waited_24 : decode cX5_waited 24 = .ok (.ireturn, 1) := by decide +kernel
theorem dX5_ridden_0 : decode cX5_ridden 0 = .ok (.aload_n 0, 1) := by decide +kernel
theorem dX5_ridden_1 : decode cX5_ridden 1 = .ok (.iload_n 1, 1) := by decide +kernel
theorem dX5_ridden_2 : decode cX5_ridden 2 = .ok (.invokevirtual 34, 3) := by decide +kernel
theorem dX5_ridden_5 : decode cX5_ridden 5 = .ok (.iconst (-1), 1) := by decide +kernel
theorem dX5_ridden_6 : decode cX5_ridden 6 = .ok (.if_icmp .ne 7, 3) := by decide +kernel
theorem dX5_ridden_9 : decode cX5_ridden 9 = .ok (.iconst (-1), 1) := by decide +kernel
theorem dX5_ridden_10 : decode cX5_ridden 10 = .ok (.goto 14, 3) := by decide +kernel
theorem dX5_ridden_13 : decode cX5_ridden 13 = .ok (.aload_n 0, 1) := by decide +kernel
theorem dX5_ridden_14 : decode cX5_ridden 14 = .ok (.iload_n 1, 1) := by decide +kernel
theorem dX5_ridden_15 : decode cX5_ridden 15 = .ok (.invokevirtual 34, 3) := by decide +kernel
theorem dX5_ridden_18 : decode cX5_ridden 18 = .ok (.aload_n 0, 1) := by decide +kernel
theorem dX5_ridden_19 : decode cX5_ridden 19 = .ok (.iload_n 1, 1) := by decide +kernel
theorem dX5_ridden_20 : decode cX5_ridden 20 = .ok (.invokevirtual 37, 3) := by decide +kernel
theorem dX5_ridden_23 : decode cX5_ridden 23 = .ok (.isub, 1) := by decide +kernel
theorem dX5_ridden_24 : decode cX5_ridden 24 = .ok (.ireturn, 1) := by decide +kernel
theorem dX5_waitOf_0 : decode cX5_waitOf 0 = .ok (.aload_n 0, 1) := by decide +kernel
theorem dX5_waitOf_1 : decode cX5_waitOf 1 = .ok (.iconst 0, 1) := by decide +kernel
theorem dX5_waitOf_2 : decode cX5_waitOf 2 = .ok (.putfield 27, 3) := by decide +kernel
theorem dX5_waitOf_5 : decode cX5_waitOf 5 = .ok (.aload_n 0, 1) := by decide +kernel
theorem dX5_waitOf_6 : decode cX5_waitOf 6 = .ok (.iload_n 1, 1) := by decide +kernel
theorem dX5_waitOf_7 : decode cX5_waitOf 7 = .ok (.invokevirtual 277, 3) := by decide +kernel
theorem dX5_waitOf_10 : decode cX5_waitOf 10 = .ok (.ifCond .eq 7, 3) := by decide +kernel
theorem dX5_waitOf_13 : decode cX5_waitOf 13 = .ok (.iconst 0, 1) := by decide +kernel
theorem dX5_waitOf_14 : decode cX5_waitOf 14 = .ok (.goto 8, 3) := by decide +kernel
theorem dX5_waitOf_17 : decode cX5_waitOf 17 = .ok (.aload_n 0, 1) := by decide +kernel
theorem dX5_waitOf_18 : decode cX5_waitOf 18 = .ok (.iload_n 1, 1) := by decide +kernel
theorem dX5_waitOf_19 : decode cX5_waitOf 19 = .ok (.invokevirtual 280, 3) := by decide +kernel
theorem dX5_waitOf_22 : decode cX5_waitOf 22 = .ok (.ireturn, 1) := by decide +kernel
theorem dX5_rideOf_0 : decode cX5_rideOf 0 = .ok (.aload_n 0, 1) := by decide +kernel
theorem dX5_rideOf_1 : decode cX5_rideOf 1 = .ok (.iconst 0, 1) := by decide +kernel
theorem dX5_rideOf_2 : decode cX5_rideOf 2 = .ok (.putfield 27, 3) := by decide +kernel
theorem dX5_rideOf_5 : decode cX5_rideOf 5 = .ok (.aload_n 0, 1) := by decide +kernel
theorem dX5_rideOf_6 : decode cX5_rideOf 6 = .ok (.iload_n 1, 1) := by decide +kernel
theorem dX5_rideOf_7 : decode cX5_rideOf 7 = .ok (.invokevirtual 277, 3) := by decide +kernel
theorem dX5_rideOf_10 : decode cX5_rideOf 10 = .ok (.ifCond .eq 7, 3) := by decide +kernel
theorem dX5_rideOf_13 : decode cX5_rideOf 13 = .ok (.iconst 0, 1) := by decide +kernel
theorem dX5_rideOf_14 : decode cX5_rideOf 14 = .ok (.goto 8, 3) := by decide +kernel
theorem dX5_rideOf_17 : decode cX5_rideOf 17 = .ok (.aload_n 0, 1) := by decide +kernel
theorem dX5_rideOf_18 : decode cX5_rideOf 18 = .ok (.iload_n 1, 1) := by decide +kernel
theorem dX5_rideOf_19 : decode cX5_rideOf 19 = .ok (.invokevirtual 283, 3) := by decide +kernel
theorem dX5_rideOf_22 : decode cX5_rideOf 22 = .ok (.ireturn, 1) := by decide +kernel
theorem dX5_detourOf_0 : decode cX5_detourOf 0 = .ok (.aload_n 0, 1) := by decide +kernel
theorem dX5_detourOf_1 : decode cX5_detourOf 1 = .ok (.iconst 0, 1) := by decide +kernel
theorem dX5_detourOf_2 : decode cX5_detourOf 2 = .ok (.putfield 27, 3) := by decide +kernel
theorem dX5_detourOf_5 : decode cX5_detourOf 5 = .ok (.aload_n 0, 1) := by decide +kernel
theorem dX5_detourOf_6 : decode cX5_detourOf 6 = .ok (.iload_n 1, 1) := by decide +kernel
theorem dX5_detourOf_7 : decode cX5_detourOf 7 = .ok (.invokevirtual 277, 3) := by decide +kernel
theorem dX5_detourOf_10 : decode cX5_detourOf 10 = .ok (.ifCond .eq 5, 3) := by decide +kernel
theorem dX5_detourOf_13 : decode cX5_detourOf 13 = .ok (.iconst 0, 1) := by decide +kernel
theorem dX5_detourOf_14 : decode cX5_detourOf 14 = .ok (.ireturn, 1) := by decide +kernel
theorem dX5_detourOf_15 : decode cX5_detourOf 15 = .ok (.aload_n 0, 1) := by decide +kernel
theorem dX5_detourOf_16 : decode cX5_detourOf 16 = .ok (.iload_n 1, 1) := by decide +kernel
theorem dX5_detourOf_17 : decode cX5_detourOf 17 = .ok (.invokevirtual 60, 3) := by decide +kernel
theorem dX5_detourOf_20 : decode cX5_detourOf 20 = .ok (.aload_n 0, 1) := by decide +kernel
theorem dX5_detourOf_21 : decode cX5_detourOf 21 = .ok (.iload_n 1, 1) := by decide +kernel
theorem dX5_detourOf_22 : decode cX5_detourOf 22 = .ok (.invokevirtual 49, 3) := by decide +kernel
theorem dX5_detourOf_25 : decode cX5_detourOf 25 = .ok (.isub, 1) := by decide +kernel
theorem dX5_detourOf_26 : decode cX5_detourOf 26 = .ok (.istore_n 2, 1) := by decide +kernel
theorem dX5_detourOf_27 : decode cX5_detourOf 27 = .ok (.aload_n 0, 1) := by decide +kernel
theorem dX5_detourOf_28 : decode cX5_detourOf 28 = .ok (.iload_n 1, 1) := by decide +kernel
theorem dX5_detourOf_29 : decode cX5_detourOf 29 = .ok (.invokevirtual 34, 3) := by decide +kernel
theorem dX5_detourOf_32 : decode cX5_detourOf 32 = .ok (.iconst (-1), 1) := by decide +kernel
theorem dX5_detourOf_33 : decode cX5_detourOf 33 = .ok (.if_icmp .ne 7, 3) := by decide +kernel
theorem dX5_detourOf_36 : decode cX5_detourOf 36 = .ok (.iconst (-1), 1) := by decide +kernel
theorem dX5_detourOf_37 : decode cX5_detourOf 37 = .ok (.goto 21, 3) := by decide +kernel
theorem dX5_detourOf_40 : decode cX5_detourOf 40 = .ok (.aload_n 0, 1) := by decide +kernel
theorem dX5_detourOf_41 : decode cX5_detourOf 41 = .ok (.iload_n 1, 1) := by decide +kernel
theorem dX5_detourOf_42 : decode cX5_detourOf 42 = .ok (.invokevirtual 283, 3) := by decide +kernel
theorem dX5_detourOf_45 : decode cX5_detourOf 45 = .ok (.iconst 1, 1) := by decide +kernel
theorem dX5_detourOf_46 : decode cX5_detourOf 46 = .ok (.isub, 1) := by decide +kernel
theorem dX5_detourOf_47 : decode cX5_detourOf 47 = .ok (.iload_n 2, 1) := by decide +kernel
theorem dX5_detourOf_48 : decode cX5_detourOf 48 = .ok (.ifCond .ge 8, 3) := by decide +kernel
theorem dX5_detourOf_51 : decode cX5_detourOf 51 = .ok (.iload_n 2, 1) := by decide +kernel
theorem dX5_detourOf_52 : decode cX5_detourOf 52 = .ok (.ineg, 1) := by decide +kernel
theorem dX5_detourOf_53 : decode cX5_detourOf 53 = .ok (.goto 4, 3) := by decide +kernel
theorem dX5_detourOf_56 : decode cX5_detourOf 56 = .ok (.iload_n 2, 1) := by decide +kernel
theorem dX5_detourOf_57 : decode cX5_detourOf 57 = .ok (.isub, 1) := by decide +kernel
theorem dX5_detourOf_58 : decode cX5_detourOf 58 = .ok (.ireturn, 1) := by decide +kernel
theorem dX5_countStatus_0 : decode cX5_countStatus 0 = .ok (.aload_n 0, 1) := by decide +kernel
theorem dX5_countStatus_1 : decode cX5_countStatus 1 = .ok (.iconst 0, 1) := by decide +kernel
theorem dX5_countStatus_2 : decode cX5_countStatus 2 = .ok (.putfield 27, 3) := by decide +kernel
theorem dX5_countStatus_5 : decode cX5_countStatus 5 = .ok (.aload_n 0, 1) := by decide +kernel
theorem dX5_countStatus_6 : decode cX5_countStatus 6 = .ok (.iload_n 1, 1) := by decide +kernel
theorem dX5_countStatus_7 : decode cX5_countStatus 7 = .ok (.iconst 0, 1) := by decide +kernel
theorem dX5_countStatus_8 : decode cX5_countStatus 8 = .ok (.iconst 3, 1) := by decide +kernel
theorem dX5_countStatus_9 : decode cX5_countStatus 9 = .ok (.invokestatic 63, 3) := by decide +kernel
theorem dX5_countStatus_12 : decode cX5_countStatus 12 = .ok (.ifCond .ne 7, 3) := by decide +kernel
theorem dX5_countStatus_15 : decode cX5_countStatus 15 = .ok (.iconst 1, 1) := by decide +kernel
theorem dX5_countStatus_16 : decode cX5_countStatus 16 = .ok (.goto 4, 3) := by decide +kernel
theorem dX5_countStatus_19 : decode cX5_countStatus 19 = .ok (.iconst 0, 1) := by decide +kernel
theorem dX5_countStatus_20 : decode cX5_countStatus 20 = .ok (.iconst 1, 1) := by decide +kernel
theorem dX5_countStatus_21 : decode cX5_countStatus 21 = .ok (.invokevirtual 270, 3) := by decide +kernel
theorem dX5_countStatus_24 : decode cX5_countStatus 24 = .ok (.ifCond .eq 7, 3) := by decide +kernel
theorem dX5_countStatus_27 : decode cX5_countStatus 27 = .ok (.iconst 0, 1) := by decide +kernel
theorem dX5_countStatus_28 : decode cX5_countStatus 28 = .ok (.goto 8, 3) := by decide +kernel
theorem dX5_countStatus_31 : decode cX5_countStatus 31 = .ok (.aload_n 0, 1) := by decide +kernel
theorem dX5_countStatus_32 : decode cX5_countStatus 32 = .ok (.iload_n 1, 1) := by decide +kernel
theorem dX5_countStatus_33 : decode cX5_countStatus 33 = .ok (.invokevirtual 46, 3) := by decide +kernel
theorem dX5_countStatus_36 : decode cX5_countStatus 36 = .ok (.ireturn, 1) := by decide +kernel
theorem dX5_waiting_0 : decode cX5_waiting 0 = .ok (.iconst 0, 1) := by decide +kernel
theorem dX5_waiting_1 : decode cX5_waiting 1 = .ok (.istore_n 2, 1) := by decide +kernel
theorem dX5_waiting_2 : decode cX5_waiting 2 = .ok (.iconst 0, 1) := by decide +kernel
theorem dX5_waiting_3 : decode cX5_waiting 3 = .ok (.istore_n 3, 1) := by decide +kernel
theorem dX5_waiting_4 : decode cX5_waiting 4 = .ok (.iload_n 3, 1) := by decide +kernel
theorem dX5_waiting_5 : decode cX5_waiting 5 = .ok (.aload_n 0, 1) := by decide +kernel
theorem dX5_waiting_6 : decode cX5_waiting 6 = .ok (.getfield 7, 3) := by decide +kernel
theorem dX5_waiting_9 : decode cX5_waiting 9 = .ok (.bipush 10, 2) := by decide +kernel
theorem dX5_waiting_11 : decode cX5_waiting 11 = .ok (.iaload, 1) := by decide +kernel
theorem dX5_waiting_12 : decode cX5_waiting 12 = .ok (.if_icmp .ge 35, 3) := by decide +kernel
theorem dX5_waiting_15 : decode cX5_waiting 15 = .ok (.iload_n 2, 1) := by decide +kernel
theorem dX5_waiting_16 : decode cX5_waiting 16 = .ok (.aload_n 0, 1) := by decide +kernel
theorem dX5_waiting_17 : decode cX5_waiting 17 = .ok (.iload_n 3, 1) := by decide +kernel
theorem dX5_waiting_18 : decode cX5_waiting 18 = .ok (.invokevirtual 43, 3) := by decide +kernel
theorem dX5_waiting_21 : decode cX5_waiting 21 = .ok (.iconst 1, 1) := by decide +kernel
theorem dX5_waiting_22 : decode cX5_waiting 22 = .ok (.if_icmp .ne 16, 3) := by decide +kernel
theorem dX5_waiting_25 : decode cX5_waiting 25 = .ok (.aload_n 0, 1) := by decide +kernel
theorem dX5_waiting_26 : decode cX5_waiting 26 = .ok (.iload_n 3, 1) := by decide +kernel
theorem dX5_waiting_27 : decode cX5_waiting 27 = .ok (.invokevirtual 49, 3) := by decide +kernel
theorem dX5_waiting_30 : decode cX5_waiting 30 = .ok (.iload_n 1, 1) := by decide +kernel
theorem dX5_waiting_31 : decode cX5_waiting 31 = .ok (.if_icmp .ne 7, 3) := by decide +kernel
theorem dX5_waiting_34 : decode cX5_waiting 34 = .ok (.iconst 1, 1) := by decide +kernel
theorem dX5_waiting_35 : decode cX5_waiting 35 = .ok (.goto 4, 3) := by decide +kernel
theorem dX5_waiting_38 : decode cX5_waiting 38 = .ok (.iconst 0, 1) := by decide +kernel
theorem dX5_waiting_39 : decode cX5_waiting 39 = .ok (.iadd, 1) := by decide +kernel
theorem dX5_waiting_40 : decode cX5_waiting 40 = .ok (.istore_n 2, 1) := by decide +kernel
theorem dX5_waiting_41 : decode cX5_waiting 41 = .ok (.iinc 3 1, 3) := by decide +kernel
theorem dX5_waiting_44 : decode cX5_waiting 44 = .ok (.goto (-40), 3) := by decide +kernel
theorem dX5_waiting_47 : decode cX5_waiting 47 = .ok (.iload_n 2, 1) := by decide +kernel
theorem dX5_waiting_48 : decode cX5_waiting 48 = .ok (.ireturn, 1) := by decide +kernel
theorem dX5_waitingAt_0 : decode cX5_waitingAt 0 = .ok (.aload_n 0, 1) := by decide +kernel
theorem dX5_waitingAt_1 : decode cX5_waitingAt 1 = .ok (.iconst 0, 1) := by decide +kernel
theorem dX5_waitingAt_2 : decode cX5_waitingAt 2 = .ok (.putfield 27, 3) := by decide +kernel
theorem dX5_waitingAt_5 : decode cX5_waitingAt 5 = .ok (.aload_n 0, 1) := by decide +kernel
theorem dX5_waitingAt_6 : decode cX5_waitingAt 6 = .ok (.iload_n 1, 1) := by decide +kernel
theorem dX5_waitingAt_7 : decode cX5_waitingAt 7 = .ok (.invokevirtual 286, 3) := by decide +kernel
theorem dX5_waitingAt_10 : decode cX5_waitingAt 10 = .ok (.ifCond .eq 7, 3) := by decide +kernel
theorem dX5_waitingAt_13 : decode cX5_waitingAt 13 = .ok (.iconst 0, 1) := by decide +kernel
theorem dX5_waitingAt_14 : decode cX5_waitingAt 14 = .ok (.goto 8, 3) := by decide +kernel
theorem dX5_waitingAt_17 : decode cX5_waitingAt 17 = .ok (.aload_n 0, 1) := by decide +kernel
theorem dX5_waitingAt_18 : decode cX5_waitingAt 18 = .ok (.iload_n 1, 1) := by decide +kernel
theorem dX5_waitingAt_19 : decode cX5_waitingAt 19 = .ok (.invokevirtual 289, 3) := by decide +kernel
theorem dX5_waitingAt_22 : decode cX5_waitingAt 22 = .ok (.ireturn, 1) := by decide +kernel
theorem dX5_ahead_0 : decode cX5_ahead 0 = .ok (.iconst 0, 1) := by decide +kernel
theorem dX5_ahead_1 : decode cX5_ahead 1 = .ok (.istore_n 2, 1) := by decide +kernel
theorem dX5_ahead_2 : decode cX5_ahead 2 = .ok (.iconst 0, 1) := by decide +kernel
theorem dX5_ahead_3 : decode cX5_ahead 3 = .ok (.istore_n 3, 1) := by decide +kernel
theorem dX5_ahead_4 : decode cX5_ahead 4 = .ok (.iload_n 3, 1) := by decide +kernel
theorem dX5_ahead_5 : decode cX5_ahead 5 = .ok (.aload_n 0, 1) := by decide +kernel
theorem dX5_ahead_6 : decode cX5_ahead 6 = .ok (.getfield 7, 3) := by decide +kernel
theorem dX5_ahead_9 : decode cX5_ahead 9 = .ok (.bipush 10, 2) := by decide +kernel
theorem dX5_ahead_11 : decode cX5_ahead 11 = .ok (.iaload, 1) := by decide +kernel
theorem dX5_ahead_12 : decode cX5_ahead 12 = .ok (.if_icmp .ge 48, 3) := by decide +kernel
theorem dX5_ahead_15 : decode cX5_ahead 15 = .ok (.iload_n 2, 1) := by decide +kernel
theorem dX5_ahead_16 : decode cX5_ahead 16 = .ok (.aload_n 0, 1) := by decide +kernel
theorem dX5_ahead_17 : decode cX5_ahead 17 = .ok (.iload_n 3, 1) := by decide +kernel
theorem dX5_ahead_18 : decode cX5_ahead 18 = .ok (.invokevirtual 43, 3) := by decide +kernel
theorem dX5_ahead_21 : decode cX5_ahead 21 = .ok (.iconst 1, 1) := by decide +kernel
theorem dX5_ahead_22 : decode cX5_ahead 22 = .ok (.if_icmp .ne 29, 3) := by decide +kernel
theorem dX5_ahead_25 : decode cX5_ahead 25 = .ok (.aload_n 0, 1) := by decide +kernel
theorem dX5_ahead_26 : decode cX5_ahead 26 = .ok (.iload_n 3, 1) := by decide +kernel
theorem dX5_ahead_27 : decode cX5_ahead 27 = .ok (.invokevirtual 49, 3) := by decide +kernel
theorem dX5_ahead_30 : decode cX5_ahead 30 = .ok (.aload_n 0, 1) := by decide +kernel
theorem dX5_ahead_31 : decode cX5_ahead 31 = .ok (.iload_n 1, 1) := by decide +kernel
theorem dX5_ahead_32 : decode cX5_ahead 32 = .ok (.invokevirtual 49, 3) := by decide +kernel
theorem dX5_ahead_35 : decode cX5_ahead 35 = .ok (.if_icmp .ne 16, 3) := by decide +kernel
theorem dX5_ahead_38 : decode cX5_ahead 38 = .ok (.aload_n 0, 1) := by decide +kernel
theorem dX5_ahead_39 : decode cX5_ahead 39 = .ok (.iload_n 3, 1) := by decide +kernel
theorem dX5_ahead_40 : decode cX5_ahead 40 = .ok (.iload_n 1, 1) := by decide +kernel
theorem dX5_ahead_41 : decode cX5_ahead 41 = .ok (.invokevirtual 52, 3) := by decide +kernel
theorem dX5_ahead_44 : decode cX5_ahead 44 = .ok (.ifCond .eq 7, 3) := by decide +kernel
theorem dX5_ahead_47 : decode cX5_ahead 47 = .ok (.iconst 1, 1) := by decide +kernel
theorem dX5_ahead_48 : decode cX5_ahead 48 = .ok (.goto 4, 3) := by decide +kernel
theorem dX5_ahead_51 : decode cX5_ahead 51 = .ok (.iconst 0, 1) := by decide +kernel
theorem dX5_ahead_52 : decode cX5_ahead 52 = .ok (.iadd, 1) := by decide +kernel
theorem dX5_ahead_53 : decode cX5_ahead 53 = .ok (.istore_n 2, 1) := by decide +kernel
theorem dX5_ahead_54 : decode cX5_ahead 54 = .ok (.iinc 3 1, 3) := by decide +kernel
theorem dX5_ahead_57 : decode cX5_ahead 57 = .ok (.goto (-53), 3) := by decide +kernel
theorem dX5_ahead_60 : decode cX5_ahead 60 = .ok (.iload_n 2, 1) := by decide +kernel
theorem dX5_ahead_61 : decode cX5_ahead 61 = .ok (.ireturn, 1) := by decide +kernel
theorem dX5_queueAt_0 : decode cX5_queueAt 0 = .ok (.aload_n 0, 1) := by decide +kernel
theorem dX5_queueAt_1 : decode cX5_queueAt 1 = .ok (.iconst 0, 1) := by decide +kernel
theorem dX5_queueAt_2 : decode cX5_queueAt 2 = .ok (.putfield 27, 3) := by decide +kernel
theorem dX5_queueAt_5 : decode cX5_queueAt 5 = .ok (.aload_n 0, 1) := by decide +kernel
theorem dX5_queueAt_6 : decode cX5_queueAt 6 = .ok (.iload_n 1, 1) := by decide +kernel
theorem dX5_queueAt_7 : decode cX5_queueAt 7 = .ok (.invokevirtual 286, 3) := by decide +kernel
theorem dX5_queueAt_10 : decode cX5_queueAt 10 = .ok (.ifCond .eq 5, 3) := by decide +kernel
theorem dX5_queueAt_13 : decode cX5_queueAt 13 = .ok (.iconst 0, 1) := by decide +kernel
theorem dX5_queueAt_14 : decode cX5_queueAt 14 = .ok (.ireturn, 1) := by decide +kernel
theorem dX5_queueAt_15 : decode cX5_queueAt 15 = .ok (.iconst 0, 1) := by decide +kernel
theorem dX5_queueAt_16 : decode cX5_queueAt 16 = .ok (.istore_n 3, 1) := by decide +kernel
theorem dX5_queueAt_17 : decode cX5_queueAt 17 = .ok (.iload_n 3, 1) := by decide +kernel
theorem dX5_queueAt_18 : decode cX5_queueAt 18 = .ok (.aload_n 0, 1) := by decide +kernel
theorem dX5_queueAt_19 : decode cX5_queueAt 19 = .ok (.getfield 7, 3) := by decide +kernel
theorem dX5_queueAt_22 : decode cX5_queueAt 22 = .ok (.bipush 10, 2) := by decide +kernel
theorem dX5_queueAt_24 : decode cX5_queueAt 24 = .ok (.iaload, 1) := by decide +kernel
theorem dX5_queueAt_25 : decode cX5_queueAt 25 = .ok (.if_icmp .ge 38, 3) := by decide +kernel
theorem dX5_queueAt_28 : decode cX5_queueAt 28 = .ok (.aload_n 0, 1) := by decide +kernel
theorem dX5_queueAt_29 : decode cX5_queueAt 29 = .ok (.iload_n 3, 1) := by decide +kernel
theorem dX5_queueAt_30 : decode cX5_queueAt 30 = .ok (.invokevirtual 43, 3) := by decide +kernel
theorem dX5_queueAt_33 : decode cX5_queueAt 33 = .ok (.iconst 1, 1) := by decide +kernel
theorem dX5_queueAt_34 : decode cX5_queueAt 34 = .ok (.if_icmp .ne 23, 3) := by decide +kernel
theorem dX5_queueAt_37 : decode cX5_queueAt 37 = .ok (.aload_n 0, 1) := by decide +kernel
theorem dX5_queueAt_38 : decode cX5_queueAt 38 = .ok (.iload_n 3, 1) := by decide +kernel
theorem dX5_queueAt_39 : decode cX5_queueAt 39 = .ok (.invokevirtual 49, 3) := by decide +kernel
theorem dX5_queueAt_42 : decode cX5_queueAt 42 = .ok (.iload_n 1, 1) := by decide +kernel
theorem dX5_queueAt_43 : decode cX5_queueAt 43 = .ok (.if_icmp .ne 14, 3) := by decide +kernel
theorem dX5_queueAt_46 : decode cX5_queueAt 46 = .ok (.aload_n 0, 1) := by decide +kernel
theorem dX5_queueAt_47 : decode cX5_queueAt 47 = .ok (.iload_n 3, 1) := by decide +kernel
theorem dX5_queueAt_48 : decode cX5_queueAt 48 = .ok (.invokevirtual 291, 3) := by decide +kernel
theorem dX5_queueAt_51 : decode cX5_queueAt 51 = .ok (.iload_n 2, 1) := by decide +kernel
theorem dX5_queueAt_52 : decode cX5_queueAt 52 = .ok (.if_icmp .ne 5, 3) := by decide +kernel
theorem dX5_queueAt_55 : decode cX5_queueAt 55 = .ok (.iload_n 3, 1) := by decide +kernel
theorem dX5_queueAt_56 : decode cX5_queueAt 56 = .ok (.ireturn, 1) := by decide +kernel
theorem dX5_queueAt_57 : decode cX5_queueAt 57 = .ok (.iinc 3 1, 3) := by decide +kernel
theorem dX5_queueAt_60 : decode cX5_queueAt 60 = .ok (.goto (-43), 3) := by decide +kernel
theorem dX5_queueAt_63 : decode cX5_queueAt 63 = .ok (.iconst (-1), 1) := by decide +kernel
theorem dX5_queueAt_64 : decode cX5_queueAt 64 = .ok (.ireturn, 1) := by decide +kernel
theorem dX5_firstWaiting_0 : decode cX5_firstWaiting 0 = .ok (.aload_n 0, 1) := by decide +kernel
theorem dX5_firstWaiting_1 : decode cX5_firstWaiting 1 = .ok (.iconst 0, 1) := by decide +kernel
theorem dX5_firstWaiting_2 : decode cX5_firstWaiting 2 = .ok (.putfield 27, 3) := by decide +kernel
theorem dX5_firstWaiting_5 : decode cX5_firstWaiting 5 = .ok (.aload_n 0, 1) := by decide +kernel
theorem dX5_firstWaiting_6 : decode cX5_firstWaiting 6 = .ok (.iconst (-1), 1) := by decide +kernel
theorem dX5_firstWaiting_7 : decode cX5_firstWaiting 7 = .ok (.invokevirtual 74, 3) := by decide +kernel
theorem dX5_firstWaiting_10 : decode cX5_firstWaiting 10 = .ok (.ireturn, 1) := by decide +kernel
theorem dX5_ridingTo_0 : decode cX5_ridingTo 0 = .ok (.aload_n 0, 1) := by decide +kernel
theorem dX5_ridingTo_1 : decode cX5_ridingTo 1 = .ok (.iconst 0, 1) := by decide +kernel
theorem dX5_ridingTo_2 : decode cX5_ridingTo 2 = .ok (.putfield 27, 3) := by decide +kernel
theorem dX5_ridingTo_5 : decode cX5_ridingTo 5 = .ok (.aload_n 0, 1) := by decide +kernel
theorem dX5_ridingTo_6 : decode cX5_ridingTo 6 = .ok (.iload_n 1, 1) := by decide +kernel
theorem dX5_ridingTo_7 : decode cX5_ridingTo 7 = .ok (.invokevirtual 286, 3) := by decide +kernel
theorem dX5_ridingTo_10 : decode cX5_ridingTo 10 = .ok (.ifCond .eq 5, 3) := by decide +kernel
theorem dX5_ridingTo_13 : decode cX5_ridingTo 13 = .ok (.iconst 0, 1) := by decide +kernel
theorem dX5_ridingTo_14 : decode cX5_ridingTo 14 = .ok (.ireturn, 1) := by decide +kernel
theorem dX5_ridingTo_15 : decode cX5_ridingTo 15 = .ok (.iconst 0, 1) := by decide +kernel
theorem dX5_ridingTo_16 : decode cX5_ridingTo 16 = .ok (.istore_n 2, 1) := by decide +kernel
theorem dX5_ridingTo_17 : decode cX5_ridingTo 17 = .ok (.iconst 0, 1) := by decide +kernel
theorem dX5_ridingTo_18 : decode cX5_ridingTo 18 = .ok (.istore_n 3, 1) := by decide +kernel
theorem dX5_ridingTo_19 : decode cX5_ridingTo 19 = .ok (.iload_n 3, 1) := by decide +kernel
theorem dX5_ridingTo_20 : decode cX5_ridingTo 20 = .ok (.aload_n 0, 1) := by decide +kernel
theorem dX5_ridingTo_21 : decode cX5_ridingTo 21 = .ok (.getfield 7, 3) := by decide +kernel
theorem dX5_ridingTo_24 : decode cX5_ridingTo 24 = .ok (.bipush 10, 2) := by decide +kernel
theorem dX5_ridingTo_26 : decode cX5_ridingTo 26 = .ok (.iaload, 1) := by decide +kernel
theorem dX5_ridingTo_27 : decode cX5_ridingTo 27 = .ok (.if_icmp .ge 35, 3) := by decide +kernel
theorem dX5_ridingTo_30 : decode cX5_ridingTo 30 = .ok (.iload_n 2, 1) := by decide +kernel
theorem dX5_ridingTo_31 : decode cX5_ridingTo 31 = .ok (.aload_n 0, 1) := by decide +kernel
theorem dX5_ridingTo_32 : decode cX5_ridingTo 32 = .ok (.iload_n 3, 1) := by decide +kernel
theorem dX5_ridingTo_33 : decode cX5_ridingTo 33 = .ok (.invokevirtual 43, 3) := by decide +kernel
theorem dX5_ridingTo_36 : decode cX5_ridingTo 36 = .ok (.iconst 2, 1) := by decide +kernel
theorem dX5_ridingTo_37 : decode cX5_ridingTo 37 = .ok (.if_icmp .ne 16, 3) := by decide +kernel
theorem dX5_ridingTo_40 : decode cX5_ridingTo 40 = .ok (.aload_n 0, 1) := by decide +kernel
theorem dX5_ridingTo_41 : decode cX5_ridingTo 41 = .ok (.iload_n 3, 1) := by decide +kernel
theorem dX5_ridingTo_42 : decode cX5_ridingTo 42 = .ok (.invokevirtual 60, 3) := by decide +kernel
theorem dX5_ridingTo_45 : decode cX5_ridingTo 45 = .ok (.iload_n 1, 1) := by decide +kernel
theorem dX5_ridingTo_46 : decode cX5_ridingTo 46 = .ok (.if_icmp .ne 7, 3) := by decide +kernel
theorem dX5_ridingTo_49 : decode cX5_ridingTo 49 = .ok (.iconst 1, 1) := by decide +kernel
theorem dX5_ridingTo_50 : decode cX5_ridingTo 50 = .ok (.goto 4, 3) := by decide +kernel
theorem dX5_ridingTo_53 : decode cX5_ridingTo 53 = .ok (.iconst 0, 1) := by decide +kernel
theorem dX5_ridingTo_54 : decode cX5_ridingTo 54 = .ok (.iadd, 1) := by decide +kernel
theorem dX5_ridingTo_55 : decode cX5_ridingTo 55 = .ok (.istore_n 2, 1) := by decide +kernel
theorem dX5_ridingTo_56 : decode cX5_ridingTo 56 = .ok (.iinc 3 1, 3) := by decide +kernel
theorem dX5_ridingTo_59 : decode cX5_ridingTo 59 = .ok (.goto (-40), 3) := by decide +kernel
theorem dX5_ridingTo_62 : decode cX5_ridingTo 62 = .ok (.iload_n 2, 1) := by decide +kernel
theorem dX5_ridingTo_63 : decode cX5_ridingTo 63 = .ok (.ireturn, 1) := by decide +kernel
theorem dX5_startingAt_0 : decode cX5_startingAt 0 = .ok (.iconst 0, 1) := by decide +kernel
theorem dX5_startingAt_1 : decode cX5_startingAt 1 = .ok (.istore_n 2, 1) := by decide +kernel
theorem dX5_startingAt_2 : decode cX5_startingAt 2 = .ok (.iconst 0, 1) := by decide +kernel
theorem dX5_startingAt_3 : decode cX5_startingAt 3 = .ok (.istore_n 3, 1) := by decide +kernel
theorem dX5_startingAt_4 : decode cX5_startingAt 4 = .ok (.iload_n 3, 1) := by decide +kernel
theorem dX5_startingAt_5 : decode cX5_startingAt 5 = .ok (.aload_n 0, 1) := by decide +kernel
theorem dX5_startingAt_6 : decode cX5_startingAt 6 = .ok (.getfield 7, 3) := by decide +kernel
theorem dX5_startingAt_9 : decode cX5_startingAt 9 = .ok (.bipush 10, 2) := by decide +kernel
theorem dX5_startingAt_11 : decode cX5_startingAt 11 = .ok (.iaload, 1) := by decide +kernel
theorem dX5_startingAt_12 : decode cX5_startingAt 12 = .ok (.if_icmp .ge 26, 3) := by decide +kernel
theorem dX5_startingAt_15 : decode cX5_startingAt 15 = .ok (.iload_n 2, 1) := by decide +kernel
theorem dX5_startingAt_16 : decode cX5_startingAt 16 = .ok (.aload_n 0, 1) := by decide +kernel
theorem dX5_startingAt_17 : decode cX5_startingAt 17 = .ok (.iload_n 3, 1) := by decide +kernel
theorem dX5_startingAt_18 : decode cX5_startingAt 18 = .ok (.invokevirtual 49, 3) := by decide +kernel
theorem dX5_startingAt_21 : decode cX5_startingAt 21 = .ok (.iload_n 1, 1) := by decide +kernel
theorem dX5_startingAt_22 : decode cX5_startingAt 22 = .ok (.if_icmp .ne 7, 3) := by decide +kernel
theorem dX5_startingAt_25 : decode cX5_startingAt 25 = .ok (.iconst 1, 1) := by decide +kernel
theorem dX5_startingAt_26 : decode cX5_startingAt 26 = .ok (.goto 4, 3) := by decide +kernel
theorem dX5_startingAt_29 : decode cX5_startingAt 29 = .ok (.iconst 0, 1) := by decide +kernel
theorem dX5_startingAt_30 : decode cX5_startingAt 30 = .ok (.iadd, 1) := by decide +kernel
theorem dX5_startingAt_31 : decode cX5_startingAt 31 = .ok (.istore_n 2, 1) := by decide +kernel
theorem dX5_startingAt_32 : decode cX5_startingAt 32 = .ok (.iinc 3 1, 3) := by decide +kernel
theorem dX5_startingAt_35 : decode cX5_startingAt 35 = .ok (.goto (-31), 3) := by decide +kernel
theorem dX5_startingAt_38 : decode cX5_startingAt 38 = .ok (.iload_n 2, 1) := by decide +kernel
theorem dX5_startingAt_39 : decode cX5_startingAt 39 = .ok (.ireturn, 1) := by decide +kernel
theorem dX5_busiestOrigin_0 : decode cX5_busiestOrigin 0 = .ok (.aload_n 0, 1) := by decide +kernel
theorem dX5_busiestOrigin_1 : decode cX5_busiestOrigin 1 = .ok (.iconst 0, 1) := by decide +kernel
theorem dX5_busiestOrigin_2 : decode cX5_busiestOrigin 2 = .ok (.putfield 27, 3) := by decide +kernel
theorem dX5_busiestOrigin_5 : decode cX5_busiestOrigin 5 = .ok (.iconst 0, 1) := by decide +kernel
theorem dX5_busiestOrigin_6 : decode cX5_busiestOrigin 6 = .ok (.istore_n 1, 1) := by decide +kernel
theorem dX5_busiestOrigin_7 : decode cX5_busiestOrigin 7 = .ok (.iconst 1, 1) := by decide +kernel
theorem dX5_busiestOrigin_8 : decode cX5_busiestOrigin 8 = .ok (.istore_n 2, 1) := by decide +kernel
theorem dX5_busiestOrigin_9 : decode cX5_busiestOrigin 9 = .ok (.iload_n 2, 1) := by decide +kernel
theorem dX5_busiestOrigin_10 : decode cX5_busiestOrigin 10 = .ok (.aload_n 0, 1) := by decide +kernel
theorem dX5_busiestOrigin_11 : decode cX5_busiestOrigin 11 = .ok (.getfield 7, 3) := by decide +kernel
theorem dX5_busiestOrigin_14 : decode cX5_busiestOrigin 14 = .ok (.iconst 0, 1) := by decide +kernel
theorem dX5_busiestOrigin_15 : decode cX5_busiestOrigin 15 = .ok (.iaload, 1) := by decide +kernel
theorem dX5_busiestOrigin_16 : decode cX5_busiestOrigin 16 = .ok (.if_icmp .ge 28, 3) := by decide +kernel
theorem dX5_busiestOrigin_19 : decode cX5_busiestOrigin 19 = .ok (.aload_n 0, 1) := by decide +kernel
theorem dX5_busiestOrigin_20 : decode cX5_busiestOrigin 20 = .ok (.iload_n 2, 1) := by decide +kernel
theorem dX5_busiestOrigin_21 : decode cX5_busiestOrigin 21 = .ok (.invokevirtual 294, 3) := by decide +kernel
theorem dX5_busiestOrigin_24 : decode cX5_busiestOrigin 24 = .ok (.aload_n 0, 1) := by decide +kernel
theorem dX5_busiestOrigin_25 : decode cX5_busiestOrigin 25 = .ok (.iload_n 1, 1) := by decide +kernel
theorem dX5_busiestOrigin_26 : decode cX5_busiestOrigin 26 = .ok (.invokevirtual 294, 3) := by decide +kernel
theorem dX5_busiestOrigin_29 : decode cX5_busiestOrigin 29 = .ok (.if_icmp .le 7, 3) := by decide +kernel
theorem dX5_busiestOrigin_32 : decode cX5_busiestOrigin 32 = .ok (.iload_n 2, 1) := by decide +kernel
theorem dX5_busiestOrigin_33 : decode cX5_busiestOrigin 33 = .ok (.goto 4, 3) := by decide +kernel
theorem dX5_busiestOrigin_36 : decode cX5_busiestOrigin 36 = .ok (.iload_n 1, 1) := by decide +kernel
theorem dX5_busiestOrigin_37 : decode cX5_busiestOrigin 37 = .ok (.istore_n 1, 1) := by decide +kernel
theorem dX5_busiestOrigin_38 : decode cX5_busiestOrigin 38 = .ok (.iinc 2 1, 3) := by decide +kernel
theorem dX5_busiestOrigin_41 : decode cX5_busiestOrigin 41 = .ok (.goto (-32), 3) := by decide +kernel
theorem dX5_busiestOrigin_44 : decode cX5_busiestOrigin 44 = .ok (.aload_n 0, 1) := by decide +kernel
theorem dX5_busiestOrigin_45 : decode cX5_busiestOrigin 45 = .ok (.getfield 7, 3) := by decide +kernel
theorem dX5_busiestOrigin_48 : decode cX5_busiestOrigin 48 = .ok (.bipush 10, 2) := by decide +kernel
theorem dX5_busiestOrigin_50 : decode cX5_busiestOrigin 50 = .ok (.iaload, 1) := by decide +kernel
theorem dX5_busiestOrigin_51 : decode cX5_busiestOrigin 51 = .ok (.ifCond .ne 7, 3) := by decide +kernel
theorem dX5_busiestOrigin_54 : decode cX5_busiestOrigin 54 = .ok (.iconst (-1), 1) := by decide +kernel
theorem dX5_busiestOrigin_55 : decode cX5_busiestOrigin 55 = .ok (.goto 4, 3) := by decide +kernel
theorem dX5_busiestOrigin_58 : decode cX5_busiestOrigin 58 = .ok (.iload_n 1, 1) := by decide +kernel
theorem dX5_busiestOrigin_59 : decode cX5_busiestOrigin 59 = .ok (.ireturn, 1) := by decide +kernel
theorem dX5_passengersBetween_0 : decode cX5_passengersBetween 0 = .ok (.aload_n 0, 1) := by decide +kernel
theorem dX5_passengersBetween_1 : decode cX5_passengersBetween 1 = .ok (.iconst 0, 1) := by decide +kernel
theorem dX5_passengersBetween_2 : decode cX5_passengersBetween 2 = .ok (.putfield 27, 3) := by decide +kernel
theorem dX5_passengersBetween_5 : decode cX5_passengersBetween 5 = .ok (.aload_n 0, 1) := by decide +kernel
theorem dX5_passengersBetween_6 : decode cX5_passengersBetween 6 = .ok (.iload_n 1, 1) := by decide +kernel
theorem dX5_passengersBetween_7 : decode cX5_passengersBetween 7 = .ok (.invokevirtual 286, 3) := by decide +kernel
theorem dX5_passengersBetween_10 : decode cX5_passengersBetween 10 = .ok (.ifCond .ne 11, 3) := by decide +kernel
theorem dX5_passengersBetween_13 : decode cX5_passengersBetween 13 = .ok (.aload_n 0, 1) := by decide +kernel
theorem dX5_passengersBetween_14 : decode cX5_passengersBetween 14 = .ok (.iload_n 2, 1) := by decide +kernel
theorem dX5_passengersBetween_15 : decode cX5_passengersBetween 15 = .ok (.invokevirtual 286, 3) := by decide +kernel
theorem dX5_passengersBetween_18 : decode cX5_passengersBetween 18 = .ok (.ifCond .eq 5, 3) := by decide +kernel
theorem dX5_passengersBetween_21 : decode cX5_passengersBetween 21 = .ok (.iconst 0, 1) := by decide +kernel
theorem dX5_passengersBetween_22 : decode cX5_passengersBetween 22 = .ok (.ireturn, 1) := by decide +kernel
theorem dX5_passengersBetween_23 : decode cX5_passengersBetween 23 = .ok (.iconst 0, 1) := by decide +kernel
theorem dX5_passengersBetween_24 : decode cX5_passengersBetween 24 = .ok (.istore_n 3, 1) := by decide +kernel
theorem dX5_passengersBetween_25 : decode cX5_passengersBetween 25 = .ok (.iconst 0, 1) := by decide +kernel
theorem dX5_passengersBetween_26 : decode cX5_passengersBetween 26 = .ok (.istore 4, 2) := by decide +kernel
theorem dX5_passengersBetween_28 : decode cX5_passengersBetween 28 = .ok (.iload 4, 2) := by decide +kernel
theorem dX5_passengersBetween_30 : decode cX5_passengersBetween 30 = .ok (.aload_n 0, 1) := by decide +kernel
theorem dX5_passengersBetween_31 : decode cX5_passengersBetween 31 = .ok (.getfield 7, 3) := by decide +kernel
theorem dX5_passengersBetween_34 : decode cX5_passengersBetween 34 = .ok (.bipush 10, 2) := by decide +kernel
theorem dX5_passengersBetween_36 : decode cX5_passengersBetween 36 = .ok (.iaload, 1) := by decide +kernel
theorem dX5_passengersBetween_37 : decode cX5_passengersBetween 37 = .ok (.if_icmp .ge 37, 3) := by decide +kernel
theorem dX5_passengersBetween_40 : decode cX5_passengersBetween 40 = .ok (.iload_n 3, 1) := by decide +kernel
theorem dX5_passengersBetween_41 : decode cX5_passengersBetween 41 = .ok (.aload_n 0, 1) := by decide +kernel
theorem dX5_passengersBetween_42 : decode cX5_passengersBetween 42 = .ok (.iload 4, 2) := by decide +kernel
theorem dX5_passengersBetween_44 : decode cX5_passengersBetween 44 = .ok (.invokevirtual 49, 3) := by decide +kernel
theorem dX5_passengersBetween_47 : decode cX5_passengersBetween 47 = .ok (.iload_n 1, 1) := by decide +kernel
theorem dX5_passengersBetween_48 : decode cX5_passengersBetween 48 = .ok (.if_icmp .ne 17, 3) := by decide +kernel
theorem dX5_passengersBetween_51 : decode cX5_passengersBetween 51 = .ok (.aload_n 0, 1) := by decide +kernel
theorem dX5_passengersBetween_52 : decode cX5_passengersBetween 52 = .ok (.iload 4, 2) := by decide +kernel
theorem dX5_passengersBetween_54 : decode cX5_passengersBetween 54 = .ok (.invokevirtual 60, 3) := by decide +kernel
theorem dX5_passengersBetween_57 : decode cX5_passengersBetween 57 = .ok (.iload_n 2, 1) := by decide +kernel
theorem dX5_passengersBetween_58 : decode cX5_passengersBetween 58 = .ok (.if_icmp .ne 7, 3) := by decide +kernel
theorem dX5_passengersBetween_61 : decode cX5_passengersBetween 61 = .ok (.iconst 1, 1) := by decide +kernel
theorem dX5_passengersBetween_62 : decode cX5_passengersBetween 62 = .ok (.goto 4, 3) := by decide +kernel
theorem dX5_passengersBetween_65 : decode cX5_passengersBetween 65 = .ok (.iconst 0, 1) := by decide +kernel
theorem dX5_passengersBetween_66 : decode cX5_passengersBetween 66 = .ok (.iadd, 1) := by decide +kernel
theorem dX5_passengersBetween_67 : decode cX5_passengersBetween 67 = .ok (.istore_n 3, 1) := by decide +kernel
theorem dX5_passengersBetween_68 : decode cX5_passengersBetween 68 = .ok (.iinc 4 1, 3) := by decide +kernel
theorem dX5_passengersBetween_71 : decode cX5_passengersBetween 71 = .ok (.goto (-43), 3) := by decide +kernel
theorem dX5_passengersBetween_74 : decode cX5_passengersBetween 74 = .ok (.iload_n 3, 1) := by decide +kernel
theorem dX5_passengersBetween_75 : decode cX5_passengersBetween 75 = .ok (.ireturn, 1) := by decide +kernel
theorem dX5_nextArrival_0 : decode cX5_nextArrival 0 = .ok (.aload_n 0, 1) := by decide +kernel
theorem dX5_nextArrival_1 : decode cX5_nextArrival 1 = .ok (.iconst 0, 1) := by decide +kernel
theorem dX5_nextArrival_2 : decode cX5_nextArrival 2 = .ok (.putfield 27, 3) := by decide +kernel
theorem dX5_nextArrival_5 : decode cX5_nextArrival 5 = .ok (.iconst (-1), 1) := by decide +kernel
theorem dX5_nextArrival_6 : decode cX5_nextArrival 6 = .ok (.istore_n 1, 1) := by decide +kernel
theorem dX5_nextArrival_7 : decode cX5_nextArrival 7 = .ok (.iconst 0, 1) := by decide +kernel
theorem dX5_nextArrival_8 : decode cX5_nextArrival 8 = .ok (.istore_n 2, 1) := by decide +kernel
theorem dX5_nextArrival_9 : decode cX5_nextArrival 9 = .ok (.iload_n 2, 1) := by decide +kernel
theorem dX5_nextArrival_10 : decode cX5_nextArrival 10 = .ok (.aload_n 0, 1) := by decide +kernel
theorem dX5_nextArrival_11 : decode cX5_nextArrival 11 = .ok (.getfield 7, 3) := by decide +kernel
theorem dX5_nextArrival_14 : decode cX5_nextArrival 14 = .ok (.bipush 10, 2) := by decide +kernel
theorem dX5_nextArrival_16 : decode cX5_nextArrival 16 = .ok (.iaload, 1) := by decide +kernel
theorem dX5_nextArrival_17 : decode cX5_nextArrival 17 = .ok (.if_icmp .ge 51, 3) := by decide +kernel
theorem dX5_nextArrival_20 : decode cX5_nextArrival 20 = .ok (.aload_n 0, 1) := by decide +kernel
theorem dX5_nextArrival_21 : decode cX5_nextArrival 21 = .ok (.iload_n 2, 1) := by decide +kernel
theorem dX5_nextArrival_22 : decode cX5_nextArrival 22 = .ok (.invokevirtual 43, 3) := by decide +kernel
theorem dX5_nextArrival_25 : decode cX5_nextArrival 25 = .ok (.ifCond .ne 21, 3) := by decide +kernel
theorem dX5_nextArrival_28 : decode cX5_nextArrival 28 = .ok (.iload_n 1, 1) := by decide +kernel
theorem dX5_nextArrival_29 : decode cX5_nextArrival 29 = .ok (.iconst (-1), 1) := by decide +kernel
theorem dX5_nextArrival_30 : decode cX5_nextArrival 30 = .ok (.if_icmp .eq 12, 3) := by decide +kernel
theorem dX5_nextArrival_33 : decode cX5_nextArrival 33 = .ok (.aload_n 0, 1) := by decide +kernel
theorem dX5_nextArrival_34 : decode cX5_nextArrival 34 = .ok (.iload_n 2, 1) := by decide +kernel
theorem dX5_nextArrival_35 : decode cX5_nextArrival 35 = .ok (.invokevirtual 40, 3) := by decide +kernel
theorem dX5_nextArrival_38 : decode cX5_nextArrival 38 = .ok (.iload_n 1, 1) := by decide +kernel
theorem dX5_nextArrival_39 : decode cX5_nextArrival 39 = .ok (.if_icmp .ge 7, 3) := by decide +kernel
theorem dX5_nextArrival_42 : decode cX5_nextArrival 42 = .ok (.iconst 1, 1) := by decide +kernel
theorem dX5_nextArrival_43 : decode cX5_nextArrival 43 = .ok (.goto 4, 3) := by decide +kernel
theorem dX5_nextArrival_46 : decode cX5_nextArrival 46 = .ok (.iconst 0, 1) := by decide +kernel
theorem dX5_nextArrival_47 : decode cX5_nextArrival 47 = .ok (.istore_n 3, 1) := by decide +kernel
theorem dX5_nextArrival_48 : decode cX5_nextArrival 48 = .ok (.iload_n 3, 1) := by decide +kernel
theorem dX5_nextArrival_49 : decode cX5_nextArrival 49 = .ok (.ifCond .eq 11, 3) := by decide +kernel
theorem dX5_nextArrival_52 : decode cX5_nextArrival 52 = .ok (.aload_n 0, 1) := by decide +kernel
theorem dX5_nextArrival_53 : decode cX5_nextArrival 53 = .ok (.iload_n 2, 1) := by decide +kernel
theorem dX5_nextArrival_54 : decode cX5_nextArrival 54 = .ok (.invokevirtual 40, 3) := by decide +kernel
theorem dX5_nextArrival_57 : decode cX5_nextArrival 57 = .ok (.goto 4, 3) := by decide +kernel
theorem dX5_nextArrival_60 : decode cX5_nextArrival 60 = .ok (.iload_n 1, 1) := by decide +kernel
theorem dX5_nextArrival_61 : decode cX5_nextArrival 61 = .ok (.istore_n 1, 1) := by decide +kernel
theorem dX5_nextArrival_62 : decode cX5_nextArrival 62 = .ok (.iinc 2 1, 3) := by decide +kernel
theorem dX5_nextArrival_65 : decode cX5_nextArrival 65 = .ok (.goto (-56), 3) := by decide +kernel
theorem dX5_nextArrival_68 : decode cX5_nextArrival 68 = .ok (.iload_n 1, 1) := by decide +kernel
theorem dX5_nextArrival_69 : decode cX5_nextArrival 69 = .ok (.ireturn, 1) := by decide +kernel
theorem dX5_rides_0 : decode cX5_rides 0 = .ok (.iconst 0, 1) := by decide +kernel
theorem dX5_rides_1 : decode cX5_rides 1 = .ok (.istore_n 1, 1) := by decide +kernel
theorem dX5_rides_2 : decode cX5_rides 2 = .ok (.iconst 0, 1) := by decide +kernel
theorem dX5_rides_3 : decode cX5_rides 3 = .ok (.istore_n 2, 1) := by decide +kernel
theorem dX5_rides_4 : decode cX5_rides 4 = .ok (.iload_n 2, 1) := by decide +kernel
theorem dX5_rides_5 : decode cX5_rides 5 = .ok (.aload_n 0, 1) := by decide +kernel
theorem dX5_rides_6 : decode cX5_rides 6 = .ok (.getfield 7, 3) := by decide +kernel
theorem dX5_rides_9 : decode cX5_rides 9 = .ok (.bipush 10, 2) := by decide +kernel
theorem dX5_rides_11 : decode cX5_rides 11 = .ok (.iaload, 1) := by decide +kernel
theorem dX5_rides_12 : decode cX5_rides 12 = .ok (.if_icmp .ge 30, 3) := by decide +kernel
theorem dX5_rides_15 : decode cX5_rides 15 = .ok (.iload_n 1, 1) := by decide +kernel
theorem dX5_rides_16 : decode cX5_rides 16 = .ok (.aload_n 0, 1) := by decide +kernel
theorem dX5_rides_17 : decode cX5_rides 17 = .ok (.iload_n 2, 1) := by decide +kernel
theorem dX5_rides_18 : decode cX5_rides 18 = .ok (.invokevirtual 283, 3) := by decide +kernel
theorem dX5_rides_21 : decode cX5_rides 21 = .ok (.iconst (-1), 1) := by decide +kernel
theorem dX5_rides_22 : decode cX5_rides 22 = .ok (.if_icmp .ne 7, 3) := by decide +kernel
theorem dX5_rides_25 : decode cX5_rides 25 = .ok (.iconst 0, 1) := by decide +kernel
theorem dX5_rides_26 : decode cX5_rides 26 = .ok (.goto 8, 3) := by decide +kernel
theorem dX5_rides_29 : decode cX5_rides 29 = .ok (.aload_n 0, 1) := by decide +kernel
theorem dX5_rides_30 : decode cX5_rides 30 = .ok (.iload_n 2, 1) := by decide +kernel
theorem dX5_rides_31 : decode cX5_rides 31 = .ok (.invokevirtual 283, 3) := by decide +kernel
theorem dX5_rides_34 : decode cX5_rides 34 = .ok (.iadd, 1) := by decide +kernel
theorem dX5_rides_35 : decode cX5_rides 35 = .ok (.istore_n 1, 1) := by decide +kernel
theorem dX5_rides_36 : decode cX5_rides 36 = .ok (.iinc 2 1, 3) := by decide +kernel
theorem dX5_rides_39 : decode cX5_rides 39 = .ok (.goto (-35), 3) := by decide +kernel
theorem dX5_rides_42 : decode cX5_rides 42 = .ok (.iload_n 1, 1) := by decide +kernel
theorem dX5_rides_43 : decode cX5_rides 43 = .ok (.ireturn, 1) := by decide +kernel
theorem dX5_waits_0 : decode cX5_waits 0 = .ok (.iconst 0, 1) := by decide +kernel
theorem dX5_waits_1 : decode cX5_waits 1 = .ok (.istore_n 1, 1) := by decide +kernel
theorem dX5_waits_2 : decode cX5_waits 2 = .ok (.iconst 0, 1) := by decide +kernel
theorem dX5_waits_3 : decode cX5_waits 3 = .ok (.istore_n 2, 1) := by decide +kernel
theorem dX5_waits_4 : decode cX5_waits 4 = .ok (.iload_n 2, 1) := by decide +kernel
theorem dX5_waits_5 : decode cX5_waits 5 = .ok (.aload_n 0, 1) := by decide +kernel
theorem dX5_waits_6 : decode cX5_waits 6 = .ok (.getfield 7, 3) := by decide +kernel
theorem dX5_waits_9 : decode cX5_waits 9 = .ok (.bipush 10, 2) := by decide +kernel
theorem dX5_waits_11 : decode cX5_waits 11 = .ok (.iaload, 1) := by decide +kernel
theorem dX5_waits_12 : decode cX5_waits 12 = .ok (.if_icmp .ge 30, 3) := by decide +kernel
theorem dX5_waits_15 : decode cX5_waits 15 = .ok (.iload_n 1, 1) := by decide +kernel
theorem dX5_waits_16 : decode cX5_waits 16 = .ok (.aload_n 0, 1) := by decide +kernel
theorem dX5_waits_17 : decode cX5_waits 17 = .ok (.iload_n 2, 1) := by decide +kernel
theorem dX5_waits_18 : decode cX5_waits 18 = .ok (.invokevirtual 280, 3) := by decide +kernel
theorem dX5_waits_21 : decode cX5_waits 21 = .ok (.iconst (-1), 1) := by decide +kernel
theorem dX5_waits_22 : decode cX5_waits 22 = .ok (.if_icmp .ne 7, 3) := by decide +kernel
theorem dX5_waits_25 : decode cX5_waits 25 = .ok (.iconst 0, 1) := by decide +kernel
theorem dX5_waits_26 : decode cX5_waits 26 = .ok (.goto 8, 3) := by decide +kernel
theorem dX5_waits_29 : decode cX5_waits 29 = .ok (.aload_n 0, 1) := by decide +kernel
theorem dX5_waits_30 : decode cX5_waits 30 = .ok (.iload_n 2, 1) := by decide +kernel
theorem dX5_waits_31 : decode cX5_waits 31 = .ok (.invokevirtual 280, 3) := by decide +kernel
theorem dX5_waits_34 : decode cX5_waits 34 = .ok (.iadd, 1) := by decide +kernel
theorem dX5_waits_35 : decode cX5_waits 35 = .ok (.istore_n 1, 1) := by decide +kernel
theorem dX5_waits_36 : decode cX5_waits 36 = .ok (.iinc 2 1, 3) := by decide +kernel
theorem dX5_waits_39 : decode cX5_waits 39 = .ok (.goto (-35), 3) := by decide +kernel
theorem dX5_waits_42 : decode cX5_waits 42 = .ok (.iload_n 1, 1) := by decide +kernel
theorem dX5_waits_43 : decode cX5_waits 43 = .ok (.ireturn, 1) := by decide +kernel
theorem dX5_greatestWait_0 : decode cX5_greatestWait 0 = .ok (.iconst 0, 1) := by decide +kernel
theorem dX5_greatestWait_1 : decode cX5_greatestWait 1 = .ok (.istore_n 1, 1) := by decide +kernel
theorem dX5_greatestWait_2 : decode cX5_greatestWait 2 = .ok (.iconst 0, 1) := by decide +kernel
theorem dX5_greatestWait_3 : decode cX5_greatestWait 3 = .ok (.istore_n 2, 1) := by decide +kernel
theorem dX5_greatestWait_4 : decode cX5_greatestWait 4 = .ok (.iload_n 2, 1) := by decide +kernel
theorem dX5_greatestWait_5 : decode cX5_greatestWait 5 = .ok (.aload_n 0, 1) := by decide +kernel
theorem dX5_greatestWait_6 : decode cX5_greatestWait 6 = .ok (.getfield 7, 3) := by decide +kernel
theorem dX5_greatestWait_9 : decode cX5_greatestWait 9 = .ok (.bipush 10, 2) := by decide +kernel
theorem dX5_greatestWait_11 : decode cX5_greatestWait 11 = .ok (.iaload, 1) := by decide +kernel
theorem dX5_greatestWait_12 : decode cX5_greatestWait 12 = .ok (.if_icmp .ge 28, 3) := by decide +kernel
theorem dX5_greatestWait_15 : decode cX5_greatestWait 15 = .ok (.aload_n 0, 1) := by decide +kernel
theorem dX5_greatestWait_16 : decode cX5_greatestWait 16 = .ok (.iload_n 2, 1) := by decide +kernel
theorem dX5_greatestWait_17 : decode cX5_greatestWait 17 = .ok (.invokevirtual 280, 3) := by decide +kernel
theorem dX5_greatestWait_20 : decode cX5_greatestWait 20 = .ok (.iload_n 1, 1) := by decide +kernel
theorem dX5_greatestWait_21 : decode cX5_greatestWait 21 = .ok (.if_icmp .le 11, 3) := by decide +kernel
theorem dX5_greatestWait_24 : decode cX5_greatestWait 24 = .ok (.aload_n 0, 1) := by decide +kernel
theorem dX5_greatestWait_25 : decode cX5_greatestWait 25 = .ok (.iload_n 2, 1) := by decide +kernel
theorem dX5_greatestWait_26 : decode cX5_greatestWait 26 = .ok (.invokevirtual 280, 3) := by decide +kernel
theorem dX5_greatestWait_29 : decode cX5_greatestWait 29 = .ok (.goto 4, 3) := by decide +kernel
theorem dX5_greatestWait_32 : decode cX5_greatestWait 32 = .ok (.iload_n 1, 1) := by decide +kernel
theorem dX5_greatestWait_33 : decode cX5_greatestWait 33 = .ok (.istore_n 1, 1) := by decide +kernel
theorem dX5_greatestWait_34 : decode cX5_greatestWait 34 = .ok (.iinc 2 1, 3) := by decide +kernel
theorem dX5_greatestWait_37 : decode cX5_greatestWait 37 = .ok (.goto (-33), 3) := by decide +kernel
theorem dX5_greatestWait_40 : decode cX5_greatestWait 40 = .ok (.iload_n 1, 1) := by decide +kernel
theorem dX5_greatestWait_41 : decode cX5_greatestWait 41 = .ok (.ireturn, 1) := by decide +kernel
theorem dX5_totalRide_0 : decode cX5_totalRide 0 = .ok (.aload_n 0, 1) := by decide +kernel
theorem dX5_totalRide_1 : decode cX5_totalRide 1 = .ok (.iconst 0, 1) := by decide +kernel
theorem dX5_totalRide_2 : decode cX5_totalRide 2 = .ok (.putfield 27, 3) := by decide +kernel
theorem dX5_totalRide_5 : decode cX5_totalRide 5 = .ok (.aload_n 0, 1) := by decide +kernel
theorem dX5_totalRide_6 : decode cX5_totalRide 6 = .ok (.invokevirtual 297, 3) := by decide +kernel
theorem dX5_totalRide_9 : decode cX5_totalRide 9 = .ok (.ireturn, 1) := by decide +kernel
theorem dX5_longestRide_0 : decode cX5_longestRide 0 = .ok (.aload_n 0, 1) := by decide +kernel
theorem dX5_longestRide_1 : decode cX5_longestRide 1 = .ok (.iconst 0, 1) := by decide +kernel
theorem dX5_longestRide_2 : decode cX5_longestRide 2 = .ok (.putfield 27, 3) := by decide +kernel
theorem dX5_longestRide_5 : decode cX5_longestRide 5 = .ok (.iconst 0, 1) := by decide +kernel
theorem dX5_longestRide_6 : decode cX5_longestRide 6 = .ok (.istore_n 1, 1) := by decide +kernel
theorem dX5_longestRide_7 : decode cX5_longestRide 7 = .ok (.iconst 0, 1) := by decide +kernel
theorem dX5_longestRide_8 : decode cX5_longestRide 8 = .ok (.istore_n 2, 1) := by decide +kernel
theorem dX5_longestRide_9 : decode cX5_longestRide 9 = .ok (.iload_n 2, 1) := by decide +kernel
theorem dX5_longestRide_10 : decode cX5_longestRide 10 = .ok (.aload_n 0, 1) := by decide +kernel
theorem dX5_longestRide_11 : decode cX5_longestRide 11 = .ok (.getfield 7, 3) := by decide +kernel
theorem dX5_longestRide_14 : decode cX5_longestRide 14 = .ok (.bipush 10, 2) := by decide +kernel
theorem dX5_longestRide_16 : decode cX5_longestRide 16 = .ok (.iaload, 1) := by decide +kernel
theorem dX5_longestRide_17 : decode cX5_longestRide 17 = .ok (.if_icmp .ge 28, 3) := by decide +kernel
theorem dX5_longestRide_20 : decode cX5_longestRide 20 = .ok (.aload_n 0, 1) := by decide +kernel
theorem dX5_longestRide_21 : decode cX5_longestRide 21 = .ok (.iload_n 2, 1) := by decide +kernel
theorem dX5_longestRide_22 : decode cX5_longestRide 22 = .ok (.invokevirtual 283, 3) := by decide +kernel
theorem dX5_longestRide_25 : decode cX5_longestRide 25 = .ok (.iload_n 1, 1) := by decide +kernel
theorem dX5_longestRide_26 : decode cX5_longestRide 26 = .ok (.if_icmp .le 11, 3) := by decide +kernel
theorem dX5_longestRide_29 : decode cX5_longestRide 29 = .ok (.aload_n 0, 1) := by decide +kernel
theorem dX5_longestRide_30 : decode cX5_longestRide 30 = .ok (.iload_n 2, 1) := by decide +kernel
theorem dX5_longestRide_31 : decode cX5_longestRide 31 = .ok (.invokevirtual 283, 3) := by decide +kernel
theorem dX5_longestRide_34 : decode cX5_longestRide 34 = .ok (.goto 4, 3) := by decide +kernel
theorem dX5_longestRide_37 : decode cX5_longestRide 37 = .ok (.iload_n 1, 1) := by decide +kernel
theorem dX5_longestRide_38 : decode cX5_longestRide 38 = .ok (.istore_n 1, 1) := by decide +kernel
theorem dX5_longestRide_39 : decode cX5_longestRide 39 = .ok (.iinc 2 1, 3) := by decide +kernel
theorem dX5_longestRide_42 : decode cX5_longestRide 42 = .ok (.goto (-33), 3) := by decide +kernel
theorem dX5_longestRide_45 : decode cX5_longestRide 45 = .ok (.iload_n 1, 1) := by decide +kernel
theorem dX5_longestRide_46 : decode cX5_longestRide 46 = .ok (.ireturn, 1) := by decide +kernel
theorem dX5_lastDone_0 : decode cX5_lastDone 0 = .ok (.aload_n 0, 1) := by decide +kernel
theorem dX5_lastDone_1 : decode cX5_lastDone 1 = .ok (.iconst 0, 1) := by decide +kernel
theorem dX5_lastDone_2 : decode cX5_lastDone 2 = .ok (.putfield 27, 3) := by decide +kernel
theorem dX5_lastDone_5 : decode cX5_lastDone 5 = .ok (.iconst (-1), 1) := by decide +kernel
theorem dX5_lastDone_6 : decode cX5_lastDone 6 = .ok (.istore_n 1, 1) := by decide +kernel
theorem dX5_lastDone_7 : decode cX5_lastDone 7 = .ok (.iconst 0, 1) := by decide +kernel
theorem dX5_lastDone_8 : decode cX5_lastDone 8 = .ok (.istore_n 2, 1) := by decide +kernel
theorem dX5_lastDone_9 : decode cX5_lastDone 9 = .ok (.iload_n 2, 1) := by decide +kernel
theorem dX5_lastDone_10 : decode cX5_lastDone 10 = .ok (.aload_n 0, 1) := by decide +kernel
theorem dX5_lastDone_11 : decode cX5_lastDone 11 = .ok (.getfield 7, 3) := by decide +kernel
theorem dX5_lastDone_14 : decode cX5_lastDone 14 = .ok (.bipush 10, 2) := by decide +kernel
theorem dX5_lastDone_16 : decode cX5_lastDone 16 = .ok (.iaload, 1) := by decide +kernel
theorem dX5_lastDone_17 : decode cX5_lastDone 17 = .ok (.if_icmp .ge 52, 3) := by decide +kernel
theorem dX5_lastDone_20 : decode cX5_lastDone 20 = .ok (.aload_n 0, 1) := by decide +kernel
theorem dX5_lastDone_21 : decode cX5_lastDone 21 = .ok (.iload_n 2, 1) := by decide +kernel
theorem dX5_lastDone_22 : decode cX5_lastDone 22 = .ok (.invokevirtual 34, 3) := by decide +kernel
theorem dX5_lastDone_25 : decode cX5_lastDone 25 = .ok (.iconst (-1), 1) := by decide +kernel
theorem dX5_lastDone_26 : decode cX5_lastDone 26 = .ok (.if_icmp .eq 25, 3) := by decide +kernel
theorem dX5_lastDone_29 : decode cX5_lastDone 29 = .ok (.iload_n 1, 1) := by decide +kernel
theorem dX5_lastDone_30 : decode cX5_lastDone 30 = .ok (.iconst (-1), 1) := by decide +kernel
theorem dX5_lastDone_31 : decode cX5_lastDone 31 = .ok (.if_icmp .eq 16, 3) := by decide +kernel
theorem dX5_lastDone_34 : decode cX5_lastDone 34 = .ok (.aload_n 0, 1) := by decide +kernel
theorem dX5_lastDone_35 : decode cX5_lastDone 35 = .ok (.iload_n 2, 1) := by decide +kernel
theorem dX5_lastDone_36 : decode cX5_lastDone 36 = .ok (.invokevirtual 34, 3) := by decide +kernel
theorem dX5_lastDone_39 : decode cX5_lastDone 39 = .ok (.aload_n 0, 1) := by decide +kernel
theorem dX5_lastDone_40 : decode cX5_lastDone 40 = .ok (.iload_n 1, 1) := by decide +kernel
theorem dX5_lastDone_41 : decode cX5_lastDone 41 = .ok (.invokevirtual 34, 3) := by decide +kernel
theorem dX5_lastDone_44 : decode cX5_lastDone 44 = .ok (.if_icmp .le 7, 3) := by decide +kernel
theorem dX5_lastDone_47 : decode cX5_lastDone 47 = .ok (.iconst 1, 1) := by decide +kernel
theorem dX5_lastDone_48 : decode cX5_lastDone 48 = .ok (.goto 4, 3) := by decide +kernel
theorem dX5_lastDone_51 : decode cX5_lastDone 51 = .ok (.iconst 0, 1) := by decide +kernel
theorem dX5_lastDone_52 : decode cX5_lastDone 52 = .ok (.istore_n 3, 1) := by decide +kernel
theorem dX5_lastDone_53 : decode cX5_lastDone 53 = .ok (.iload_n 3, 1) := by decide +kernel
theorem dX5_lastDone_54 : decode cX5_lastDone 54 = .ok (.ifCond .eq 7, 3) := by decide +kernel
theorem dX5_lastDone_57 : decode cX5_lastDone 57 = .ok (.iload_n 2, 1) := by decide +kernel
theorem dX5_lastDone_58 : decode cX5_lastDone 58 = .ok (.goto 4, 3) := by decide +kernel
theorem dX5_lastDone_61 : decode cX5_lastDone 61 = .ok (.iload_n 1, 1) := by decide +kernel
theorem dX5_lastDone_62 : decode cX5_lastDone 62 = .ok (.istore_n 1, 1) := by decide +kernel
theorem dX5_lastDone_63 : decode cX5_lastDone 63 = .ok (.iinc 2 1, 3) := by decide +kernel
theorem dX5_lastDone_66 : decode cX5_lastDone 66 = .ok (.goto (-57), 3) := by decide +kernel
theorem dX5_lastDone_69 : decode cX5_lastDone 69 = .ok (.iload_n 1, 1) := by decide +kernel
theorem dX5_lastDone_70 : decode cX5_lastDone 70 = .ok (.ireturn, 1) := by decide +kernel
theorem dX5_movingShare_0 : decode cX5_movingShare 0 = .ok (.aload_n 0, 1) := by decide +kernel
theorem dX5_movingShare_1 : decode cX5_movingShare 1 = .ok (.iconst 0, 1) := by decide +kernel
theorem dX5_movingShare_2 : decode cX5_movingShare 2 = .ok (.putfield 27, 3) := by decide +kernel
theorem dX5_movingShare_5 : decode cX5_movingShare 5 = .ok (.aload_n 0, 1) := by decide +kernel
theorem dX5_movingShare_6 : decode cX5_movingShare 6 = .ok (.getfield 7, 3) := by decide +kernel
theorem dX5_movingShare_9 : decode cX5_movingShare 9 = .ok (.iconst 3, 1) := by decide +kernel
theorem dX5_movingShare_10 : decode cX5_movingShare 10 = .ok (.iaload, 1) := by decide +kernel
theorem dX5_movingShare_11 : decode cX5_movingShare 11 = .ok (.ifCond .ne 7, 3) := by decide +kernel
theorem dX5_movingShare_14 : decode cX5_movingShare 14 = .ok (.fconst 0, 1) := by decide +kernel
theorem dX5_movingShare_15 : decode cX5_movingShare 15 = .ok (.goto 19, 3) := by decide +kernel
theorem dX5_movingShare_18 : decode cX5_movingShare 18 = .ok (.aload_n 0, 1) := by decide +kernel
theorem dX5_movingShare_19 : decode cX5_movingShare 19 = .ok (.getfield 7, 3) := by decide +kernel
theorem dX5_movingShare_22 : decode cX5_movingShare 22 = .ok (.bipush 6, 2) := by decide +kernel
theorem dX5_movingShare_24 : decode cX5_movingShare 24 = .ok (.iaload, 1) := by decide +kernel
theorem dX5_movingShare_25 : decode cX5_movingShare 25 = .ok (.i2f, 1) := by decide +kernel
theorem dX5_movingShare_26 : decode cX5_movingShare 26 = .ok (.aload_n 0, 1) := by decide +kernel
theorem dX5_movingShare_27 : decode cX5_movingShare 27 = .ok (.getfield 7, 3) := by decide +kernel
theorem dX5_movingShare_30 : decode cX5_movingShare 30 = .ok (.iconst 3, 1) := by decide +kernel
theorem dX5_movingShare_31 : decode cX5_movingShare 31 = .ok (.iaload, 1) := by decide +kernel
theorem dX5_movingShare_32 : decode cX5_movingShare 32 = .ok (.i2f, 1) := by decide +kernel
theorem dX5_movingShare_33 : decode cX5_movingShare 33 = .ok (.fdiv, 1) := by decide +kernel
theorem dX5_movingShare_34 : decode cX5_movingShare 34 = .ok (.freturn, 1) := by decide +kernel
theorem dX5_totalWait_0 : decode cX5_totalWait 0 = .ok (.aload_n 0, 1) := by decide +kernel
theorem dX5_totalWait_1 : decode cX5_totalWait 1 = .ok (.iconst 0, 1) := by decide +kernel
theorem dX5_totalWait_2 : decode cX5_totalWait 2 = .ok (.putfield 27, 3) := by decide +kernel
theorem dX5_totalWait_5 : decode cX5_totalWait 5 = .ok (.aload_n 0, 1) := by decide +kernel
theorem dX5_totalWait_6 : decode cX5_totalWait 6 = .ok (.invokevirtual 300, 3) := by decide +kernel
theorem dX5_totalWait_9 : decode cX5_totalWait 9 = .ok (.ireturn, 1) := by decide +kernel
theorem dX5_longestWait_0 : decode cX5_longestWait 0 = .ok (.aload_n 0, 1) := by decide +kernel
theorem dX5_longestWait_1 : decode cX5_longestWait 1 = .ok (.iconst 0, 1) := by decide +kernel
theorem dX5_longestWait_2 : decode cX5_longestWait 2 = .ok (.putfield 27, 3) := by decide +kernel
theorem dX5_longestWait_5 : decode cX5_longestWait 5 = .ok (.aload_n 0, 1) := by decide +kernel
theorem dX5_longestWait_6 : decode cX5_longestWait 6 = .ok (.invokevirtual 303, 3) := by decide +kernel
theorem dX5_longestWait_9 : decode cX5_longestWait 9 = .ok (.ireturn, 1) := by decide +kernel
theorem dX5_meanWait_0 : decode cX5_meanWait 0 = .ok (.aload_n 0, 1) := by decide +kernel
theorem dX5_meanWait_1 : decode cX5_meanWait 1 = .ok (.iconst 0, 1) := by decide +kernel
theorem dX5_meanWait_2 : decode cX5_meanWait 2 = .ok (.putfield 27, 3) := by decide +kernel
theorem dX5_meanWait_5 : decode cX5_meanWait 5 = .ok (.aload_n 0, 1) := by decide +kernel
theorem dX5_meanWait_6 : decode cX5_meanWait 6 = .ok (.iconst 2, 1) := by decide +kernel
theorem dX5_meanWait_7 : decode cX5_meanWait 7 = .ok (.invokevirtual 46, 3) := by decide +kernel
theorem dX5_meanWait_10 : decode cX5_meanWait 10 = .ok (.aload_n 0, 1) := by decide +kernel
theorem dX5_meanWait_11 : decode cX5_meanWait 11 = .ok (.iconst 3, 1) := by decide +kernel
theorem dX5_meanWait_12 : decode cX5_meanWait 12 = .ok (.invokevirtual 46, 3) := by decide +kernel
theorem dX5_meanWait_15 : decode cX5_meanWait 15 = .ok (.iadd, 1) := by decide +kernel
theorem dX5_meanWait_16 : decode cX5_meanWait 16 = .ok (.istore_n 1, 1) := by decide +kernel
theorem dX5_meanWait_17 : decode cX5_meanWait 17 = .ok (.iload_n 1, 1) := by decide +kernel
theorem dX5_meanWait_18 : decode cX5_meanWait 18 = .ok (.ifCond .ne 7, 3) := by decide +kernel
theorem dX5_meanWait_21 : decode cX5_meanWait 21 = .ok (.dconst 0, 1) := by decide +kernel
theorem dX5_meanWait_22 : decode cX5_meanWait 22 = .ok (.goto 11, 3) := by decide +kernel
theorem dX5_meanWait_25 : decode cX5_meanWait 25 = .ok (.aload_n 0, 1) := by decide +kernel
theorem dX5_meanWait_26 : decode cX5_meanWait 26 = .ok (.invokevirtual 300, 3) := by decide +kernel
theorem dX5_meanWait_29 : decode cX5_meanWait 29 = .ok (.i2d, 1) := by decide +kernel
theorem dX5_meanWait_30 : decode cX5_meanWait 30 = .ok (.iload_n 1, 1) := by decide +kernel
theorem dX5_meanWait_31 : decode cX5_meanWait 31 = .ok (.i2d, 1) := by decide +kernel
theorem dX5_meanWait_32 : decode cX5_meanWait 32 = .ok (.ddiv, 1) := by decide +kernel
theorem dX5_meanWait_33 : decode cX5_meanWait 33 = .ok (.dreturn, 1) := by decide +kernel
theorem dX5_isFinished_0 : decode cX5_isFinished 0 = .ok (.aload_n 0, 1) := by decide +kernel
theorem dX5_isFinished_1 : decode cX5_isFinished 1 = .ok (.iconst 0, 1) := by decide +kernel
theorem dX5_isFinished_2 : decode cX5_isFinished 2 = .ok (.putfield 27, 3) := by decide +kernel
theorem dX5_isFinished_5 : decode cX5_isFinished 5 = .ok (.aload_n 0, 1) := by decide +kernel
theorem dX5_isFinished_6 : decode cX5_isFinished 6 = .ok (.invokevirtual 101, 3) := by decide +kernel
theorem dX5_isFinished_9 : decode cX5_isFinished 9 = .ok (.ireturn, 1) := by decide +kernel
theorem dX5_ticksToFinish_0 : decode cX5_ticksToFinish 0 = .ok (.aload_n 0, 1) := by decide +kernel
theorem dX5_ticksToFinish_1 : decode cX5_ticksToFinish 1 = .ok (.iconst 0, 1) := by decide +kernel
theorem dX5_ticksToFinish_2 : decode cX5_ticksToFinish 2 = .ok (.putfield 27, 3) := by decide +kernel
theorem dX5_ticksToFinish_5 : decode cX5_ticksToFinish 5 = .ok (.aload_n 0, 1) := by decide +kernel
theorem dX5_ticksToFinish_6 : decode cX5_ticksToFinish 6 = .ok (.bipush 11, 2) := by decide +kernel
theorem dX5_ticksToFinish_8 : decode cX5_ticksToFinish 8 = .ok (.invokevirtual 114, 3) := by decide +kernel
theorem dX5_ticksToFinish_11 : decode cX5_ticksToFinish 11 = .ok (.aload_n 0, 1) := by decide +kernel
theorem dX5_ticksToFinish_12 : decode cX5_ticksToFinish 12 = .ok (.invokevirtual 306, 3) := by decide +kernel
theorem dX5_ticksToFinish_15 : decode cX5_ticksToFinish 15 = .ok (.istore_n 1, 1) := by decide +kernel
theorem dX5_ticksToFinish_16 : decode cX5_ticksToFinish 16 = .ok (.aload_n 0, 1) := by decide +kernel
theorem dX5_ticksToFinish_17 : decode cX5_ticksToFinish 17 = .ok (.bipush 11, 2) := by decide +kernel
theorem dX5_ticksToFinish_19 : decode cX5_ticksToFinish 19 = .ok (.invokevirtual 249, 3) := by decide +kernel
theorem dX5_ticksToFinish_22 : decode cX5_ticksToFinish 22 = .ok (.iload_n 1, 1) := by decide +kernel
theorem dX5_ticksToFinish_23 : decode cX5_ticksToFinish 23 = .ok (.ireturn, 1) := by decide +kernel
theorem dX5_ticksWithPolicy_0 : decode cX5_ticksWithPolicy 0 = .ok (.aload_n 0, 1) := by decide +kernel
theorem dX5_ticksWithPolicy_1 : decode cX5_ticksWithPolicy 1 = .ok (.iconst 0, 1) := by decide +kernel
theorem dX5_ticksWithPolicy_2 : decode cX5_ticksWithPolicy 2 = .ok (.putfield 27, 3) := by decide +kernel
theorem dX5_ticksWithPolicy_5 : decode cX5_ticksWithPolicy 5 = .ok (.aload_n 0, 1) := by decide +kernel
theorem dX5_ticksWithPolicy_6 : decode cX5_ticksWithPolicy 6 = .ok (.iload_n 1, 1) := by decide +kernel
theorem dX5_ticksWithPolicy_7 : decode cX5_ticksWithPolicy 7 = .ok (.invokevirtual 274, 3) := by decide +kernel
theorem dX5_ticksWithPolicy_10 : decode cX5_ticksWithPolicy 10 = .ok (.ifCond .eq 5, 3) := by decide +kernel
theorem dX5_ticksWithPolicy_13 : decode cX5_ticksWithPolicy 13 = .ok (.iconst 0, 1) := by decide +kernel
theorem dX5_ticksWithPolicy_14 : decode cX5_ticksWithPolicy 14 = .ok (.ireturn, 1) := by decide +kernel
theorem dX5_ticksWithPolicy_15 : decode cX5_ticksWithPolicy 15 = .ok (.aload_n 0, 1) := by decide +kernel
theorem dX5_ticksWithPolicy_16 : decode cX5_ticksWithPolicy 16 = .ok (.bipush 11, 2) := by decide +kernel
theorem dX5_ticksWithPolicy_18 : decode cX5_ticksWithPolicy 18 = .ok (.invokevirtual 114, 3) := by decide +kernel
theorem dX5_ticksWithPolicy_21 : decode cX5_ticksWithPolicy 21 = .ok (.aload_n 0, 1) := by decide +kernel
theorem dX5_ticksWithPolicy_22 : decode cX5_ticksWithPolicy 22 = .ok (.getfield 7, 3) := by decide +kernel
theorem dX5_ticksWithPolicy_25 : decode cX5_ticksWithPolicy 25 = .ok (.iconst 2, 1) := by decide +kernel
theorem dX5_ticksWithPolicy_26 : decode cX5_ticksWithPolicy 26 = .ok (.iload_n 1, 1) := by decide +kernel
theorem dX5_ticksWithPolicy_27 : decode cX5_ticksWithPolicy 27 = .ok (.iastore, 1) := by decide +kernel
theorem dX5_ticksWithPolicy_28 : decode cX5_ticksWithPolicy 28 = .ok (.aload_n 0, 1) := by decide +kernel
theorem dX5_ticksWithPolicy_29 : decode cX5_ticksWithPolicy 29 = .ok (.invokevirtual 306, 3) := by decide +kernel
theorem dX5_ticksWithPolicy_32 : decode cX5_ticksWithPolicy 32 = .ok (.istore_n 2, 1) := by decide +kernel
theorem dX5_ticksWithPolicy_33 : decode cX5_ticksWithPolicy 33 = .ok (.aload_n 0, 1) := by decide +kernel
theorem dX5_ticksWithPolicy_34 : decode cX5_ticksWithPolicy 34 = .ok (.bipush 11, 2) := by decide +kernel
theorem dX5_ticksWithPolicy_36 : decode cX5_ticksWithPolicy 36 = .ok (.invokevirtual 249, 3) := by decide +kernel
theorem dX5_ticksWithPolicy_39 : decode cX5_ticksWithPolicy 39 = .ok (.iload_n 2, 1) := by decide +kernel
theorem dX5_ticksWithPolicy_40 : decode cX5_ticksWithPolicy 40 = .ok (.ireturn, 1) := by decide +kernel
theorem dX5_waitsBy_0 : decode cX5_waitsBy 0 = .ok (.aload_n 0, 1) := by decide +kernel
theorem dX5_waitsBy_1 : decode cX5_waitsBy 1 = .ok (.bipush 11, 2) := by decide +kernel
theorem dX5_waitsBy_3 : decode cX5_waitsBy 3 = .ok (.invokevirtual 114, 3) := by decide +kernel
theorem dX5_waitsBy_6 : decode cX5_waitsBy 6 = .ok (.aload_n 0, 1) := by decide +kernel
theorem dX5_waitsBy_7 : decode cX5_waitsBy 7 = .ok (.getfield 7, 3) := by decide +kernel
theorem dX5_waitsBy_10 : decode cX5_waitsBy 10 = .ok (.iconst 2, 1) := by decide +kernel
theorem dX5_waitsBy_11 : decode cX5_waitsBy 11 = .ok (.iload_n 1, 1) := by decide +kernel
theorem dX5_waitsBy_12 : decode cX5_waitsBy 12 = .ok (.iastore, 1) := by decide +kernel
theorem dX5_waitsBy_13 : decode cX5_waitsBy 13 = .ok (.aload_n 0, 1) := by decide +kernel
theorem dX5_waitsBy_14 : decode cX5_waitsBy 14 = .ok (.invokevirtual 306, 3) := by decide +kernel
theorem dX5_waitsBy_17 : decode cX5_waitsBy 17 = .ok (.istore_n 2, 1) := by decide +kernel
theorem dX5_waitsBy_18 : decode cX5_waitsBy 18 = .ok (.aload_n 0, 1) := by decide +kernel
theorem dX5_waitsBy_19 : decode cX5_waitsBy 19 = .ok (.invokevirtual 300, 3) := by decide +kernel
theorem dX5_waitsBy_22 : decode cX5_waitsBy 22 = .ok (.istore_n 3, 1) := by decide +kernel
theorem dX5_waitsBy_23 : decode cX5_waitsBy 23 = .ok (.aload_n 0, 1) := by decide +kernel
theorem dX5_waitsBy_24 : decode cX5_waitsBy 24 = .ok (.bipush 11, 2) := by decide +kernel
theorem dX5_waitsBy_26 : decode cX5_waitsBy 26 = .ok (.invokevirtual 249, 3) := by decide +kernel
theorem dX5_waitsBy_29 : decode cX5_waitsBy 29 = .ok (.iload_n 3, 1) := by decide +kernel
theorem dX5_waitsBy_30 : decode cX5_waitsBy 30 = .ok (.ireturn, 1) := by decide +kernel
theorem dX5_waitWithPolicy_0 : decode cX5_waitWithPolicy 0 = .ok (.aload_n 0, 1) := by decide +kernel
theorem dX5_waitWithPolicy_1 : decode cX5_waitWithPolicy 1 = .ok (.iconst 0, 1) := by decide +kernel
theorem dX5_waitWithPolicy_2 : decode cX5_waitWithPolicy 2 = .ok (.putfield 27, 3) := by decide +kernel
theorem dX5_waitWithPolicy_5 : decode cX5_waitWithPolicy 5 = .ok (.aload_n 0, 1) := by decide +kernel
theorem dX5_waitWithPolicy_6 : decode cX5_waitWithPolicy 6 = .ok (.iload_n 1, 1) := by decide +kernel
theorem dX5_waitWithPolicy_7 : decode cX5_waitWithPolicy 7 = .ok (.invokevirtual 274, 3) := by decide +kernel
theorem dX5_waitWithPolicy_10 : decode cX5_waitWithPolicy 10 = .ok (.ifCond .eq 7, 3) := by decide +kernel
theorem dX5_waitWithPolicy_13 : decode cX5_waitWithPolicy 13 = .ok (.iconst 0, 1) := by decide +kernel
theorem dX5_waitWithPolicy_14 : decode cX5_waitWithPolicy 14 = .ok (.goto 8, 3) := by decide +kernel
theorem dX5_waitWithPolicy_17 : decode cX5_waitWithPolicy 17 = .ok (.aload_n 0, 1) := by decide +kernel
theorem dX5_waitWithPolicy_18 : decode cX5_waitWithPolicy 18 = .ok (.iload_n 1, 1) := by decide +kernel
theorem dX5_waitWithPolicy_19 : decode cX5_waitWithPolicy 19 = .ok (.invokevirtual 309, 3) := by decide +kernel
theorem dX5_waitWithPolicy_22 : decode cX5_waitWithPolicy 22 = .ok (.ireturn, 1) := by decide +kernel
theorem dX5_longestWaitWithPolicy_0 : decode cX5_longestWaitWithPolicy 0 = .ok (.aload_n 0, 1) := by decide +kernel
theorem dX5_longestWaitWithPolicy_1 : decode cX5_longestWaitWithPolicy 1 = .ok (.iconst 0, 1) := by decide +kernel
theorem dX5_longestWaitWithPolicy_2 : decode cX5_longestWaitWithPolicy 2 = .ok (.putfield 27, 3) := by decide +kernel
theorem dX5_longestWaitWithPolicy_5 : decode cX5_longestWaitWithPolicy 5 = .ok (.aload_n 0, 1) := by decide +kernel
theorem dX5_longestWaitWithPolicy_6 : decode cX5_longestWaitWithPolicy 6 = .ok (.iload_n 1, 1) := by decide +kernel
theorem dX5_longestWaitWithPolicy_7 : decode cX5_longestWaitWithPolicy 7 = .ok (.invokevirtual 274, 3) := by decide +kernel
theorem dX5_longestWaitWithPolicy_10 : decode cX5_longestWaitWithPolicy 10 = .ok (.ifCond .eq 5, 3) := by decide +kernel
theorem dX5_longestWaitWithPolicy_13 : decode cX5_longestWaitWithPolicy 13 = .ok (.iconst 0, 1) := by decide +kernel
theorem dX5_longestWaitWithPolicy_14 : decode cX5_longestWaitWithPolicy 14 = .ok (.ireturn, 1) := by decide +kernel
theorem dX5_longestWaitWithPolicy_15 : decode cX5_longestWaitWithPolicy 15 = .ok (.aload_n 0, 1) := by decide +kernel
theorem dX5_longestWaitWithPolicy_16 : decode cX5_longestWaitWithPolicy 16 = .ok (.bipush 11, 2) := by decide +kernel
theorem dX5_longestWaitWithPolicy_18 : decode cX5_longestWaitWithPolicy 18 = .ok (.invokevirtual 114, 3) := by decide +kernel
theorem dX5_longestWaitWithPolicy_21 : decode cX5_longestWaitWithPolicy 21 = .ok (.aload_n 0, 1) := by decide +kernel
theorem dX5_longestWaitWithPolicy_22 : decode cX5_longestWaitWithPolicy 22 = .ok (.getfield 7, 3) := by decide +kernel
theorem dX5_longestWaitWithPolicy_25 : decode cX5_longestWaitWithPolicy 25 = .ok (.iconst 2, 1) := by decide +kernel
theorem dX5_longestWaitWithPolicy_26 : decode cX5_longestWaitWithPolicy 26 = .ok (.iload_n 1, 1) := by decide +kernel
theorem dX5_longestWaitWithPolicy_27 : decode cX5_longestWaitWithPolicy 27 = .ok (.iastore, 1) := by decide +kernel
theorem dX5_longestWaitWithPolicy_28 : decode cX5_longestWaitWithPolicy 28 = .ok (.aload_n 0, 1) := by decide +kernel
theorem dX5_longestWaitWithPolicy_29 : decode cX5_longestWaitWithPolicy 29 = .ok (.invokevirtual 306, 3) := by decide +kernel
theorem dX5_longestWaitWithPolicy_32 : decode cX5_longestWaitWithPolicy 32 = .ok (.istore_n 2, 1) := by decide +kernel
theorem dX5_longestWaitWithPolicy_33 : decode cX5_longestWaitWithPolicy 33 = .ok (.aload_n 0, 1) := by decide +kernel
theorem dX5_longestWaitWithPolicy_34 : decode cX5_longestWaitWithPolicy 34 = .ok (.invokevirtual 303, 3) := by decide +kernel
theorem dX5_longestWaitWithPolicy_37 : decode cX5_longestWaitWithPolicy 37 = .ok (.istore_n 3, 1) := by decide +kernel
theorem dX5_longestWaitWithPolicy_38 : decode cX5_longestWaitWithPolicy 38 = .ok (.aload_n 0, 1) := by decide +kernel
theorem dX5_longestWaitWithPolicy_39 : decode cX5_longestWaitWithPolicy 39 = .ok (.bipush 11, 2) := by decide +kernel
theorem dX5_longestWaitWithPolicy_41 : decode cX5_longestWaitWithPolicy 41 = .ok (.invokevirtual 249, 3) := by decide +kernel
theorem dX5_longestWaitWithPolicy_44 : decode cX5_longestWaitWithPolicy 44 = .ok (.iload_n 3, 1) := by decide +kernel
theorem dX5_longestWaitWithPolicy_45 : decode cX5_longestWaitWithPolicy 45 = .ok (.ireturn, 1) := by decide +kernel
theorem dX5_bestPolicy_0 : decode cX5_bestPolicy 0 = .ok (.aload_n 0, 1) := by decide +kernel
theorem dX5_bestPolicy_1 : decode cX5_bestPolicy 1 = .ok (.iconst 0, 1) := by decide +kernel
theorem dX5_bestPolicy_2 : decode cX5_bestPolicy 2 = .ok (.putfield 27, 3) := by decide +kernel
theorem dX5_bestPolicy_5 : decode cX5_bestPolicy 5 = .ok (.aload_n 0, 1) := by decide +kernel
theorem dX5_bestPolicy_6 : decode cX5_bestPolicy 6 = .ok (.iconst 0, 1) := by decide +kernel
theorem dX5_bestPolicy_7 : decode cX5_bestPolicy 7 = .ok (.invokevirtual 309, 3) := by decide +kernel
theorem dX5_bestPolicy_10 : decode cX5_bestPolicy 10 = .ok (.istore_n 1, 1) := by decide +kernel
theorem dX5_bestPolicy_11 : decode cX5_bestPolicy 11 = .ok (.aload_n 0, 1) := by decide +kernel
theorem dX5_bestPolicy_12 : decode cX5_bestPolicy 12 = .ok (.iconst 1, 1) := by decide +kernel
theorem dX5_bestPolicy_13 : decode cX5_bestPolicy 13 = .ok (.invokevirtual 309, 3) := by decide +kernel
theorem dX5_bestPolicy_16 : decode cX5_bestPolicy 16 = .ok (.istore_n 2, 1) := by decide +kernel
theorem dX5_bestPolicy_17 : decode cX5_bestPolicy 17 = .ok (.aload_n 0, 1) := by decide +kernel
theorem dX5_bestPolicy_18 : decode cX5_bestPolicy 18 = .ok (.iconst 2, 1) := by decide +kernel
theorem dX5_bestPolicy_19 : decode cX5_bestPolicy 19 = .ok (.invokevirtual 309, 3) := by decide +kernel
theorem dX5_bestPolicy_22 : decode cX5_bestPolicy 22 = .ok (.istore_n 3, 1) := by decide +kernel
theorem dX5_bestPolicy_23 : decode cX5_bestPolicy 23 = .ok (.iload_n 1, 1) := by decide +kernel
theorem dX5_bestPolicy_24 : decode cX5_bestPolicy 24 = .ok (.iload_n 2, 1) := by decide +kernel
theorem dX5_bestPolicy_25 : decode cX5_bestPolicy 25 = .ok (.if_icmp .gt 10, 3) := by decide +kernel
theorem dX5_bestPolicy_28 : decode cX5_bestPolicy 28 = .ok (.iload_n 1, 1) := by decide +kernel
theorem dX5_bestPolicy_29 : decode cX5_bestPolicy 29 = .ok (.iload_n 3, 1) := by decide +kernel
theorem dX5_bestPolicy_30 : decode cX5_bestPolicy 30 = .ok (.if_icmp .gt 5, 3) := by decide +kernel
theorem dX5_bestPolicy_33 : decode cX5_bestPolicy 33 = .ok (.iconst 0, 1) := by decide +kernel
theorem dX5_bestPolicy_34 : decode cX5_bestPolicy 34 = .ok (.ireturn, 1) := by decide +kernel
theorem dX5_bestPolicy_35 : decode cX5_bestPolicy 35 = .ok (.iload_n 2, 1) := by decide +kernel
theorem dX5_bestPolicy_36 : decode cX5_bestPolicy 36 = .ok (.iload_n 3, 1) := by decide +kernel
theorem dX5_bestPolicy_37 : decode cX5_bestPolicy 37 = .ok (.if_icmp .gt 7, 3) := by decide +kernel
theorem dX5_bestPolicy_40 : decode cX5_bestPolicy 40 = .ok (.iconst 1, 1) := by decide +kernel
theorem dX5_bestPolicy_41 : decode cX5_bestPolicy 41 = .ok (.goto 4, 3) := by decide +kernel
theorem dX5_bestPolicy_44 : decode cX5_bestPolicy 44 = .ok (.iconst 2, 1) := by decide +kernel
theorem dX5_bestPolicy_45 : decode cX5_bestPolicy 45 = .ok (.ireturn, 1) := by decide +kernel
theorem dX5_noCapacity_0 : decode cX5_noCapacity 0 = .ok (.aload_n 0, 1) := by decide +kernel
theorem dX5_noCapacity_1 : decode cX5_noCapacity 1 = .ok (.iload_n 1, 1) := by decide +kernel
theorem dX5_noCapacity_2 : decode cX5_noCapacity 2 = .ok (.iconst 1, 1) := by decide +kernel
theorem dX5_noCapacity_3 : decode cX5_noCapacity 3 = .ok (.bipush 8, 2) := by decide +kernel
theorem dX5_noCapacity_5 : decode cX5_noCapacity 5 = .ok (.invokestatic 63, 3) := by decide +kernel
theorem dX5_noCapacity_8 : decode cX5_noCapacity 8 = .ok (.ifCond .ne 7, 3) := by decide +kernel
theorem dX5_noCapacity_11 : decode cX5_noCapacity 11 = .ok (.iconst 1, 1) := by decide +kernel
theorem dX5_noCapacity_12 : decode cX5_noCapacity 12 = .ok (.goto 4, 3) := by decide +kernel
theorem dX5_noCapacity_15 : decode cX5_noCapacity 15 = .ok (.iconst 0, 1) := by decide +kernel
theorem dX5_noCapacity_16 : decode cX5_noCapacity 16 = .ok (.iconst 1, 1) := by decide +kernel
theorem dX5_noCapacity_17 : decode cX5_noCapacity 17 = .ok (.invokevirtual 270, 3) := by decide +kernel
theorem dX5_noCapacity_20 : decode cX5_noCapacity 20 = .ok (.ifCond .ne 25, 3) := by decide +kernel
theorem dX5_noCapacity_23 : decode cX5_noCapacity 23 = .ok (.aload_n 0, 1) := by decide +kernel
theorem dX5_noCapacity_24 : decode cX5_noCapacity 24 = .ok (.aload_n 0, 1) := by decide +kernel
theorem dX5_noCapacity_25 : decode cX5_noCapacity 25 = .ok (.iconst 2, 1) := by decide +kernel
theorem dX5_noCapacity_26 : decode cX5_noCapacity 26 = .ok (.invokevirtual 46, 3) := by decide +kernel
theorem dX5_noCapacity_29 : decode cX5_noCapacity 29 = .ok (.iload_n 1, 1) := by decide +kernel
theorem dX5_noCapacity_30 : decode cX5_noCapacity 30 = .ok (.if_icmp .le 7, 3) := by decide +kernel
theorem dX5_noCapacity_33 : decode cX5_noCapacity 33 = .ok (.iconst 1, 1) := by decide +kernel
theorem dX5_noCapacity_34 : decode cX5_noCapacity 34 = .ok (.goto 4, 3) := by decide +kernel
theorem dX5_noCapacity_37 : decode cX5_noCapacity 37 = .ok (.iconst 0, 1) := by decide +kernel
theorem dX5_noCapacity_38 : decode cX5_noCapacity 38 = .ok (.iconst 2, 1) := by decide +kernel
theorem dX5_noCapacity_39 : decode cX5_noCapacity 39 = .ok (.invokevirtual 270, 3) := by decide +kernel
theorem dX5_noCapacity_42 : decode cX5_noCapacity 42 = .ok (.ifCond .eq 7, 3) := by decide +kernel
theorem dX5_noCapacity_45 : decode cX5_noCapacity 45 = .ok (.iconst 1, 1) := by decide +kernel
theorem dX5_noCapacity_46 : decode cX5_noCapacity 46 = .ok (.goto 4, 3) := by decide +kernel
theorem dX5_noCapacity_49 : decode cX5_noCapacity 49 = .ok (.iconst 0, 1) := by decide +kernel
theorem dX5_noCapacity_50 : decode cX5_noCapacity 50 = .ok (.ireturn, 1) := by decide +kernel
theorem dX5_ticksWithCapacity_0 : decode cX5_ticksWithCapacity 0 = .ok (.aload_n 0, 1) := by decide +kernel
theorem dX5_ticksWithCapacity_1 : decode cX5_ticksWithCapacity 1 = .ok (.iconst 0, 1) := by decide +kernel
theorem dX5_ticksWithCapacity_2 : decode cX5_ticksWithCapacity 2 = .ok (.putfield 27, 3) := by decide +kernel
theorem dX5_ticksWithCapacity_5 : decode cX5_ticksWithCapacity 5 = .ok (.aload_n 0, 1) := by decide +kernel
theorem dX5_ticksWithCapacity_6 : decode cX5_ticksWithCapacity 6 = .ok (.iload_n 1, 1) := by decide +kernel
theorem dX5_ticksWithCapacity_7 : decode cX5_ticksWithCapacity 7 = .ok (.invokevirtual 312, 3) := by decide +kernel
theorem dX5_ticksWithCapacity_10 : decode cX5_ticksWithCapacity 10 = .ok (.ifCond .eq 5, 3) := by decide +kernel
theorem dX5_ticksWithCapacity_13 : decode cX5_ticksWithCapacity 13 = .ok (.iconst 0, 1) := by decide +kernel
theorem dX5_ticksWithCapacity_14 : decode cX5_ticksWithCapacity 14 = .ok (.ireturn, 1) := by decide +kernel
theorem dX5_ticksWithCapacity_15 : decode cX5_ticksWithCapacity 15 = .ok (.aload_n 0, 1) := by decide +kernel
theorem dX5_ticksWithCapacity_16 : decode cX5_ticksWithCapacity 16 = .ok (.bipush 11, 2) := by decide +kernel
theorem dX5_ticksWithCapacity_18 : decode cX5_ticksWithCapacity 18 = .ok (.invokevirtual 114, 3) := by decide +kernel
theorem dX5_ticksWithCapacity_21 : decode cX5_ticksWithCapacity 21 = .ok (.aload_n 0, 1) := by decide +kernel
theorem dX5_ticksWithCapacity_22 : decode cX5_ticksWithCapacity 22 = .ok (.getfield 7, 3) := by decide +kernel
theorem dX5_ticksWithCapacity_25 : decode cX5_ticksWithCapacity 25 = .ok (.iconst 1, 1) := by decide +kernel
theorem dX5_ticksWithCapacity_26 : decode cX5_ticksWithCapacity 26 = .ok (.iload_n 1, 1) := by decide +kernel
theorem dX5_ticksWithCapacity_27 : decode cX5_ticksWithCapacity 27 = .ok (.iastore, 1) := by decide +kernel
theorem dX5_ticksWithCapacity_28 : decode cX5_ticksWithCapacity 28 = .ok (.aload_n 0, 1) := by decide +kernel
theorem dX5_ticksWithCapacity_29 : decode cX5_ticksWithCapacity 29 = .ok (.invokevirtual 306, 3) := by decide +kernel
theorem dX5_ticksWithCapacity_32 : decode cX5_ticksWithCapacity 32 = .ok (.istore_n 2, 1) := by decide +kernel
theorem dX5_ticksWithCapacity_33 : decode cX5_ticksWithCapacity 33 = .ok (.aload_n 0, 1) := by decide +kernel
theorem dX5_ticksWithCapacity_34 : decode cX5_ticksWithCapacity 34 = .ok (.bipush 11, 2) := by decide +kernel
theorem dX5_ticksWithCapacity_36 : decode cX5_ticksWithCapacity 36 = .ok (.invokevirtual 249, 3) := by decide +kernel
theorem dX5_ticksWithCapacity_39 : decode cX5_ticksWithCapacity 39 = .ok (.iload_n 2, 1) := by decide +kernel
theorem dX5_ticksWithCapacity_40 : decode cX5_ticksWithCapacity 40 = .ok (.ireturn, 1) := by decide +kernel
theorem dX5_expectedAt_0 : decode cX5_expectedAt 0 = .ok (.aload_n 0, 1) := by decide +kernel
theorem dX5_expectedAt_1 : decode cX5_expectedAt 1 = .ok (.iconst 0, 1) := by decide +kernel
theorem dX5_expectedAt_2 : decode cX5_expectedAt 2 = .ok (.putfield 27, 3) := by decide +kernel
theorem dX5_expectedAt_5 : decode cX5_expectedAt 5 = .ok (.aload_n 0, 1) := by decide +kernel
theorem dX5_expectedAt_6 : decode cX5_expectedAt 6 = .ok (.iload_n 1, 1) := by decide +kernel
theorem dX5_expectedAt_7 : decode cX5_expectedAt 7 = .ok (.invokevirtual 277, 3) := by decide +kernel
theorem dX5_expectedAt_10 : decode cX5_expectedAt 10 = .ok (.ifCond .eq 5, 3) := by decide +kernel
theorem dX5_expectedAt_13 : decode cX5_expectedAt 13 = .ok (.iconst 0, 1) := by decide +kernel
theorem dX5_expectedAt_14 : decode cX5_expectedAt 14 = .ok (.ireturn, 1) := by decide +kernel
theorem dX5_expectedAt_15 : decode cX5_expectedAt 15 = .ok (.aload_n 0, 1) := by decide +kernel
theorem dX5_expectedAt_16 : decode cX5_expectedAt 16 = .ok (.bipush 11, 2) := by decide +kernel
theorem dX5_expectedAt_18 : decode cX5_expectedAt 18 = .ok (.invokevirtual 114, 3) := by decide +kernel
theorem dX5_expectedAt_21 : decode cX5_expectedAt 21 = .ok (.aload_n 0, 1) := by decide +kernel
theorem dX5_expectedAt_22 : decode cX5_expectedAt 22 = .ok (.invokevirtual 306, 3) := by decide +kernel
theorem dX5_expectedAt_25 : decode cX5_expectedAt 25 = .ok (.istore_n 2, 1) := by decide +kernel
theorem dX5_expectedAt_26 : decode cX5_expectedAt 26 = .ok (.aload_n 0, 1) := by decide +kernel
theorem dX5_expectedAt_27 : decode cX5_expectedAt 27 = .ok (.iload_n 1, 1) := by decide +kernel
theorem dX5_expectedAt_28 : decode cX5_expectedAt 28 = .ok (.invokevirtual 34, 3) := by decide +kernel
theorem dX5_expectedAt_31 : decode cX5_expectedAt 31 = .ok (.istore_n 3, 1) := by decide +kernel
theorem dX5_expectedAt_32 : decode cX5_expectedAt 32 = .ok (.aload_n 0, 1) := by decide +kernel
theorem dX5_expectedAt_33 : decode cX5_expectedAt 33 = .ok (.bipush 11, 2) := by decide +kernel
theorem dX5_expectedAt_35 : decode cX5_expectedAt 35 = .ok (.invokevirtual 249, 3) := by decide +kernel
theorem dX5_expectedAt_38 : decode cX5_expectedAt 38 = .ok (.iload_n 3, 1) := by decide +kernel
theorem dX5_expectedAt_39 : decode cX5_expectedAt 39 = .ok (.ireturn, 1) := by decide +kernel
theorem dX5_addPassenger_0 : decode cX5_addPassenger 0 = .ok (.aload_n 0, 1) := by decide +kernel
theorem dX5_addPassenger_1 : decode cX5_addPassenger 1 = .ok (.iconst 0, 1) := by decide +kernel
theorem dX5_addPassenger_2 : decode cX5_addPassenger 2 = .ok (.putfield 27, 3) := by decide +kernel
theorem dX5_addPassenger_5 : decode cX5_addPassenger 5 = .ok (.aload_n 0, 1) := by decide +kernel
theorem dX5_addPassenger_6 : decode cX5_addPassenger 6 = .ok (.iload_n 1, 1) := by decide +kernel
theorem dX5_addPassenger_7 : decode cX5_addPassenger 7 = .ok (.invokevirtual 286, 3) := by decide +kernel
theorem dX5_addPassenger_10 : decode cX5_addPassenger 10 = .ok (.ifCond .ne 70, 3) := by decide +kernel
theorem dX5_addPassenger_13 : decode cX5_addPassenger 13 = .ok (.aload_n 0, 1) := by decide +kernel
theorem dX5_addPassenger_14 : decode cX5_addPassenger 14 = .ok (.iload_n 2, 1) := by decide +kernel
theorem dX5_addPassenger_15 : decode cX5_addPassenger 15 = .ok (.invokevirtual 286, 3) := by decide +kernel
theorem dX5_addPassenger_18 : decode cX5_addPassenger 18 = .ok (.ifCond .ne 62, 3) := by decide +kernel
theorem dX5_addPassenger_21 : decode cX5_addPassenger 21 = .ok (.aload_n 0, 1) := by decide +kernel
theorem dX5_addPassenger_22 : decode cX5_addPassenger 22 = .ok (.iload_n 1, 1) := by decide +kernel
theorem dX5_addPassenger_23 : decode cX5_addPassenger 23 = .ok (.iload_n 2, 1) := by decide +kernel
theorem dX5_addPassenger_24 : decode cX5_addPassenger 24 = .ok (.if_icmp .eq 19, 3) := by decide +kernel
theorem dX5_addPassenger_27 : decode cX5_addPassenger 27 = .ok (.iload_n 3, 1) := by decide +kernel
theorem dX5_addPassenger_28 : decode cX5_addPassenger 28 = .ok (.aload_n 0, 1) := by decide +kernel
theorem dX5_addPassenger_29 : decode cX5_addPassenger 29 = .ok (.getfield 7, 3) := by decide +kernel
theorem dX5_addPassenger_32 : decode cX5_addPassenger 32 = .ok (.iconst 3, 1) := by decide +kernel
theorem dX5_addPassenger_33 : decode cX5_addPassenger 33 = .ok (.iaload, 1) := by decide +kernel
theorem dX5_addPassenger_34 : decode cX5_addPassenger 34 = .ok (.sipush 999, 3) := by decide +kernel
theorem dX5_addPassenger_37 : decode cX5_addPassenger 37 = .ok (.invokestatic 63, 3) := by decide +kernel
theorem dX5_addPassenger_40 : decode cX5_addPassenger 40 = .ok (.ifCond .ne 7, 3) := by decide +kernel
theorem dX5_addPassenger_43 : decode cX5_addPassenger 43 = .ok (.iconst 1, 1) := by decide +kernel
theorem dX5_addPassenger_44 : decode cX5_addPassenger 44 = .ok (.goto 4, 3) := by decide +kernel
theorem dX5_addPassenger_47 : decode cX5_addPassenger 47 = .ok (.iconst 0, 1) := by decide +kernel
theorem dX5_addPassenger_48 : decode cX5_addPassenger 48 = .ok (.iconst 2, 1) := by decide +kernel
theorem dX5_addPassenger_49 : decode cX5_addPassenger 49 = .ok (.invokevirtual 270, 3) := by decide +kernel
theorem dX5_addPassenger_52 : decode cX5_addPassenger 52 = .ok (.ifCond .ne 28, 3) := by decide +kernel
theorem dX5_addPassenger_55 : decode cX5_addPassenger 55 = .ok (.aload_n 0, 1) := by decide +kernel
theorem dX5_addPassenger_56 : decode cX5_addPassenger 56 = .ok (.aload_n 0, 1) := by decide +kernel
theorem dX5_addPassenger_57 : decode cX5_addPassenger 57 = .ok (.getfield 7, 3) := by decide +kernel
theorem dX5_addPassenger_60 : decode cX5_addPassenger 60 = .ok (.bipush 10, 2) := by decide +kernel
theorem dX5_addPassenger_62 : decode cX5_addPassenger 62 = .ok (.iaload, 1) := by decide +kernel
theorem dX5_addPassenger_63 : decode cX5_addPassenger 63 = .ok (.bipush 40, 2) := by decide +kernel
theorem dX5_addPassenger_65 : decode cX5_addPassenger 65 = .ok (.if_icmp .ne 7, 3) := by decide +kernel
theorem dX5_addPassenger_68 : decode cX5_addPassenger 68 = .ok (.iconst 1, 1) := by decide +kernel
theorem dX5_addPassenger_69 : decode cX5_addPassenger 69 = .ok (.goto 4, 3) := by decide +kernel
theorem dX5_addPassenger_72 : decode cX5_addPassenger 72 = .ok (.iconst 0, 1) := by decide +kernel
theorem dX5_addPassenger_73 : decode cX5_addPassenger 73 = .ok (.iconst 3, 1) := by decide +kernel
theorem dX5_addPassenger_74 : decode cX5_addPassenger 74 = .ok (.invokevirtual 270, 3) := by decide +kernel
theorem dX5_addPassenger_77 : decode cX5_addPassenger 77 = .ok (.ifCond .eq 5, 3) := by decide +kernel
theorem dX5_addPassenger_80 : decode cX5_addPassenger 80 = .ok (.iconst 0, 1) := by decide +kernel
theorem dX5_addPassenger_81 : decode cX5_addPassenger 81 = .ok (.ireturn, 1) := by decide +kernel
theorem dX5_addPassenger_82 : decode cX5_addPassenger 82 = .ok (.aload_n 0, 1) := by decide +kernel
theorem dX5_addPassenger_83 : decode cX5_addPassenger 83 = .ok (.invokevirtual 267, 3) := by decide +kernel
theorem dX5_addPassenger_86 : decode cX5_addPassenger 86 = .ok (.aload_n 0, 1) := by decide +kernel
theorem dX5_addPassenger_87 : decode cX5_addPassenger 87 = .ok (.iload_n 1, 1) := by decide +kernel
theorem dX5_addPassenger_88 : decode cX5_addPassenger 88 = .ok (.iload_n 2, 1) := by decide +kernel
theorem dX5_addPassenger_89 : decode cX5_addPassenger 89 = .ok (.iload_n 3, 1) := by decide +kernel
theorem dX5_addPassenger_90 : decode cX5_addPassenger 90 = .ok (.invokevirtual 173, 3) := by decide +kernel
theorem dX5_addPassenger_93 : decode cX5_addPassenger 93 = .ok (.aload_n 0, 1) := by decide +kernel
theorem dX5_addPassenger_94 : decode cX5_addPassenger 94 = .ok (.getfield 7, 3) := by decide +kernel
theorem dX5_addPassenger_97 : decode cX5_addPassenger 97 = .ok (.bipush 10, 2) := by decide +kernel
theorem dX5_addPassenger_99 : decode cX5_addPassenger 99 = .ok (.iaload, 1) := by decide +kernel
theorem dX5_addPassenger_100 : decode cX5_addPassenger 100 = .ok (.iconst 1, 1) := by decide +kernel
theorem dX5_addPassenger_101 : decode cX5_addPassenger 101 = .ok (.isub, 1) := by decide +kernel
theorem dX5_addPassenger_102 : decode cX5_addPassenger 102 = .ok (.ireturn, 1) := by decide +kernel
theorem dX5_run_0 : decode cX5_run 0 = .ok (.aload_n 0, 1) := by decide +kernel
theorem dX5_run_1 : decode cX5_run 1 = .ok (.iconst 0, 1) := by decide +kernel
theorem dX5_run_2 : decode cX5_run 2 = .ok (.putfield 27, 3) := by decide +kernel
theorem dX5_run_5 : decode cX5_run 5 = .ok (.aload_n 0, 1) := by decide +kernel
theorem dX5_run_6 : decode cX5_run 6 = .ok (.iload_n 1, 1) := by decide +kernel
theorem dX5_run_7 : decode cX5_run 7 = .ok (.iconst 1, 1) := by decide +kernel
theorem dX5_run_8 : decode cX5_run 8 = .ok (.sipush 999, 3) := by decide +kernel
theorem dX5_run_11 : decode cX5_run 11 = .ok (.invokestatic 63, 3) := by decide +kernel
theorem dX5_run_14 : decode cX5_run 14 = .ok (.ifCond .ne 7, 3) := by decide +kernel
theorem dX5_run_17 : decode cX5_run 17 = .ok (.iconst 1, 1) := by decide +kernel
theorem dX5_run_18 : decode cX5_run 18 = .ok (.goto 4, 3) := by decide +kernel
theorem dX5_run_21 : decode cX5_run 21 = .ok (.iconst 0, 1) := by decide +kernel
theorem dX5_run_22 : decode cX5_run 22 = .ok (.iconst 1, 1) := by decide +kernel
theorem dX5_run_23 : decode cX5_run 23 = .ok (.invokevirtual 270, 3) := by decide +kernel
theorem dX5_run_26 : decode cX5_run 26 = .ok (.ifCond .ne 30, 3) := by decide +kernel
theorem dX5_run_29 : decode cX5_run 29 = .ok (.aload_n 0, 1) := by decide +kernel
theorem dX5_run_30 : decode cX5_run 30 = .ok (.aload_n 0, 1) := by decide +kernel
theorem dX5_run_31 : decode cX5_run 31 = .ok (.getfield 7, 3) := by decide +kernel
theorem dX5_run_34 : decode cX5_run 34 = .ok (.iconst 3, 1) := by decide +kernel
theorem dX5_run_35 : decode cX5_run 35 = .ok (.iaload, 1) := by decide +kernel
theorem dX5_run_36 : decode cX5_run 36 = .ok (.iload_n 1, 1) := by decide +kernel
theorem dX5_run_37 : decode cX5_run 37 = .ok (.iadd, 1) := by decide +kernel
theorem dX5_run_38 : decode cX5_run 38 = .ok (.sipush 999, 3) := by decide +kernel
theorem dX5_run_41 : decode cX5_run 41 = .ok (.if_icmp .le 7, 3) := by decide +kernel
theorem dX5_run_44 : decode cX5_run 44 = .ok (.iconst 1, 1) := by decide +kernel
theorem dX5_run_45 : decode cX5_run 45 = .ok (.goto 4, 3) := by decide +kernel
theorem dX5_run_48 : decode cX5_run 48 = .ok (.iconst 0, 1) := by decide +kernel
theorem dX5_run_49 : decode cX5_run 49 = .ok (.iconst 2, 1) := by decide +kernel
theorem dX5_run_50 : decode cX5_run 50 = .ok (.invokevirtual 270, 3) := by decide +kernel
theorem dX5_run_53 : decode cX5_run 53 = .ok (.ifCond .eq 5, 3) := by decide +kernel
theorem dX5_run_56 : decode cX5_run 56 = .ok (.iconst 0, 1) := by decide +kernel
theorem dX5_run_57 : decode cX5_run 57 = .ok (.ireturn, 1) := by decide +kernel
theorem dX5_run_58 : decode cX5_run 58 = .ok (.aload_n 0, 1) := by decide +kernel
theorem dX5_run_59 : decode cX5_run 59 = .ok (.invokevirtual 267, 3) := by decide +kernel
theorem dX5_run_62 : decode cX5_run 62 = .ok (.iconst 0, 1) := by decide +kernel
theorem dX5_run_63 : decode cX5_run 63 = .ok (.istore_n 2, 1) := by decide +kernel
theorem dX5_run_64 : decode cX5_run 64 = .ok (.iload_n 2, 1) := by decide +kernel
theorem dX5_run_65 : decode cX5_run 65 = .ok (.iload_n 1, 1) := by decide +kernel
theorem dX5_run_66 : decode cX5_run 66 = .ok (.if_icmp .ge 13, 3) := by decide +kernel
theorem dX5_run_69 : decode cX5_run 69 = .ok (.aload_n 0, 1) := by decide +kernel
theorem dX5_run_70 : decode cX5_run 70 = .ok (.invokevirtual 104, 3) := by decide +kernel
theorem dX5_run_73 : decode cX5_run 73 = .ok (.iinc 2 1, 3) := by decide +kernel
theorem dX5_run_76 : decode cX5_run 76 = .ok (.goto (-12), 3) := by decide +kernel
theorem dX5_run_79 : decode cX5_run 79 = .ok (.aload_n 0, 1) := by decide +kernel
theorem dX5_run_80 : decode cX5_run 80 = .ok (.getfield 7, 3) := by decide +kernel
theorem dX5_run_83 : decode cX5_run 83 = .ok (.iconst 4, 1) := by decide +kernel
theorem dX5_run_84 : decode cX5_run 84 = .ok (.iaload, 1) := by decide +kernel
theorem dX5_run_85 : decode cX5_run 85 = .ok (.ireturn, 1) := by decide +kernel
theorem dX5_runToEnd_0 : decode cX5_runToEnd 0 = .ok (.aload_n 0, 1) := by decide +kernel
theorem dX5_runToEnd_1 : decode cX5_runToEnd 1 = .ok (.iconst 0, 1) := by decide +kernel
theorem dX5_runToEnd_2 : decode cX5_runToEnd 2 = .ok (.putfield 27, 3) := by decide +kernel
theorem dX5_runToEnd_5 : decode cX5_runToEnd 5 = .ok (.aload_n 0, 1) := by decide +kernel
theorem dX5_runToEnd_6 : decode cX5_runToEnd 6 = .ok (.invokevirtual 267, 3) := by decide +kernel
theorem dX5_runToEnd_9 : decode cX5_runToEnd 9 = .ok (.aload_n 0, 1) := by decide +kernel
theorem dX5_runToEnd_10 : decode cX5_runToEnd 10 = .ok (.sipush 999, 3) := by decide +kernel
theorem dX5_runToEnd_13 : decode cX5_runToEnd 13 = .ok (.invokevirtual 108, 3) := by decide +kernel
theorem dX5_runToEnd_16 : decode cX5_runToEnd 16 = .ok (.ireturn, 1) := by decide +kernel
theorem dX5_setPolicy_0 : decode cX5_setPolicy 0 = .ok (.aload_n 0, 1) := by decide +kernel
theorem dX5_setPolicy_1 : decode cX5_setPolicy 1 = .ok (.iconst 0, 1) := by decide +kernel
theorem dX5_setPolicy_2 : decode cX5_setPolicy 2 = .ok (.putfield 27, 3) := by decide +kernel
theorem dX5_setPolicy_5 : decode cX5_setPolicy 5 = .ok (.aload_n 0, 1) := by decide +kernel
theorem dX5_setPolicy_6 : decode cX5_setPolicy 6 = .ok (.iload_n 1, 1) := by decide +kernel
theorem dX5_setPolicy_7 : decode cX5_setPolicy 7 = .ok (.invokevirtual 274, 3) := by decide +kernel
theorem dX5_setPolicy_10 : decode cX5_setPolicy 10 = .ok (.ifCond .eq 5, 3) := by decide +kernel
theorem dX5_setPolicy_13 : decode cX5_setPolicy 13 = .ok (.iconst 0, 1) := by decide +kernel
theorem dX5_setPolicy_14 : decode cX5_setPolicy 14 = .ok (.ireturn, 1) := by decide +kernel
theorem dX5_setPolicy_15 : decode cX5_setPolicy 15 = .ok (.aload_n 0, 1) := by decide +kernel
theorem dX5_setPolicy_16 : decode cX5_setPolicy 16 = .ok (.invokevirtual 267, 3) := by decide +kernel
theorem dX5_setPolicy_19 : decode cX5_setPolicy 19 = .ok (.aload_n 0, 1) := by decide +kernel
theorem dX5_setPolicy_20 : decode cX5_setPolicy 20 = .ok (.getfield 7, 3) := by decide +kernel
theorem dX5_setPolicy_23 : decode cX5_setPolicy 23 = .ok (.iconst 2, 1) := by decide +kernel
theorem dX5_setPolicy_24 : decode cX5_setPolicy 24 = .ok (.iaload, 1) := by decide +kernel
theorem dX5_setPolicy_25 : decode cX5_setPolicy 25 = .ok (.istore_n 2, 1) := by decide +kernel
theorem dX5_setPolicy_26 : decode cX5_setPolicy 26 = .ok (.aload_n 0, 1) := by decide +kernel
theorem dX5_setPolicy_27 : decode cX5_setPolicy 27 = .ok (.getfield 7, 3) := by decide +kernel
theorem dX5_setPolicy_30 : decode cX5_setPolicy 30 = .ok (.iconst 2, 1) := by decide +kernel
theorem dX5_setPolicy_31 : decode cX5_setPolicy 31 = .ok (.iload_n 1, 1) := by decide +kernel
theorem dX5_setPolicy_32 : decode cX5_setPolicy 32 = .ok (.iastore, 1) := by decide +kernel
theorem dX5_setPolicy_33 : decode cX5_setPolicy 33 = .ok (.iload_n 2, 1) := by decide +kernel
theorem dX5_setPolicy_34 : decode cX5_setPolicy 34 = .ok (.ireturn, 1) := by decide +kernel
theorem dX5_setCapacity_0 : decode cX5_setCapacity 0 = .ok (.aload_n 0, 1) := by decide +kernel
theorem dX5_setCapacity_1 : decode cX5_setCapacity 1 = .ok (.iconst 0, 1) := by decide +kernel
theorem dX5_setCapacity_2 : decode cX5_setCapacity 2 = .ok (.putfield 27, 3) := by decide +kernel
theorem dX5_setCapacity_5 : decode cX5_setCapacity 5 = .ok (.aload_n 0, 1) := by decide +kernel
theorem dX5_setCapacity_6 : decode cX5_setCapacity 6 = .ok (.iload_n 1, 1) := by decide +kernel
theorem dX5_setCapacity_7 : decode cX5_setCapacity 7 = .ok (.invokevirtual 312, 3) := by decide +kernel
theorem dX5_setCapacity_10 : decode cX5_setCapacity 10 = .ok (.ifCond .eq 5, 3) := by decide +kernel
theorem dX5_setCapacity_13 : decode cX5_setCapacity 13 = .ok (.iconst 0, 1) := by decide +kernel
theorem dX5_setCapacity_14 : decode cX5_setCapacity 14 = .ok (.ireturn, 1) := by decide +kernel
theorem dX5_setCapacity_15 : decode cX5_setCapacity 15 = .ok (.aload_n 0, 1) := by decide +kernel
theorem dX5_setCapacity_16 : decode cX5_setCapacity 16 = .ok (.invokevirtual 267, 3) := by decide +kernel
theorem dX5_setCapacity_19 : decode cX5_setCapacity 19 = .ok (.aload_n 0, 1) := by decide +kernel
theorem dX5_setCapacity_20 : decode cX5_setCapacity 20 = .ok (.getfield 7, 3) := by decide +kernel
theorem dX5_setCapacity_23 : decode cX5_setCapacity 23 = .ok (.iconst 1, 1) := by decide +kernel
theorem dX5_setCapacity_24 : decode cX5_setCapacity 24 = .ok (.iaload, 1) := by decide +kernel
theorem dX5_setCapacity_25 : decode cX5_setCapacity 25 = .ok (.istore_n 2, 1) := by decide +kernel
theorem dX5_setCapacity_26 : decode cX5_setCapacity 26 = .ok (.aload_n 0, 1) := by decide +kernel
theorem dX5_setCapacity_27 : decode cX5_setCapacity 27 = .ok (.getfield 7, 3) := by decide +kernel
theorem dX5_setCapacity_30 : decode cX5_setCapacity 30 = .ok (.iconst 1, 1) := by decide +kernel
theorem dX5_setCapacity_31 : decode cX5_setCapacity 31 = .ok (.iload_n 1, 1) := by decide +kernel
theorem dX5_setCapacity_32 : decode cX5_setCapacity 32 = .ok (.iastore, 1) := by decide +kernel
theorem dX5_setCapacity_33 : decode cX5_setCapacity 33 = .ok (.iload_n 2, 1) := by decide +kernel
theorem dX5_setCapacity_34 : decode cX5_setCapacity 34 = .ok (.ireturn, 1) := by decide +kernel
theorem dX5_undo_0 : decode cX5_undo 0 = .ok (.aload_n 0, 1) := by decide +kernel
theorem dX5_undo_1 : decode cX5_undo 1 = .ok (.iconst 0, 1) := by decide +kernel
theorem dX5_undo_2 : decode cX5_undo 2 = .ok (.putfield 27, 3) := by decide +kernel
theorem dX5_undo_5 : decode cX5_undo 5 = .ok (.aload_n 0, 1) := by decide +kernel
theorem dX5_undo_6 : decode cX5_undo 6 = .ok (.aload_n 0, 1) := by decide +kernel
theorem dX5_undo_7 : decode cX5_undo 7 = .ok (.getfield 111, 3) := by decide +kernel
theorem dX5_undo_10 : decode cX5_undo 10 = .ok (.ifCond .ne 7, 3) := by decide +kernel
theorem dX5_undo_13 : decode cX5_undo 13 = .ok (.iconst 1, 1) := by decide +kernel
theorem dX5_undo_14 : decode cX5_undo 14 = .ok (.goto 4, 3) := by decide +kernel
theorem dX5_undo_17 : decode cX5_undo 17 = .ok (.iconst 0, 1) := by decide +kernel
theorem dX5_undo_18 : decode cX5_undo 18 = .ok (.iconst 1, 1) := by decide +kernel
theorem dX5_undo_19 : decode cX5_undo 19 = .ok (.invokevirtual 270, 3) := by decide +kernel
theorem dX5_undo_22 : decode cX5_undo 22 = .ok (.ifCond .eq 5, 3) := by decide +kernel
theorem dX5_undo_25 : decode cX5_undo 25 = .ok (.iconst 0, 1) := by decide +kernel
theorem dX5_undo_26 : decode cX5_undo 26 = .ok (.ireturn, 1) := by decide +kernel
theorem dX5_undo_27 : decode cX5_undo 27 = .ok (.aload_n 0, 1) := by decide +kernel
theorem dX5_undo_28 : decode cX5_undo 28 = .ok (.dup, 1) := by decide +kernel
theorem dX5_undo_29 : decode cX5_undo 29 = .ok (.getfield 111, 3) := by decide +kernel
theorem dX5_undo_32 : decode cX5_undo 32 = .ok (.iconst 1, 1) := by decide +kernel
theorem dX5_undo_33 : decode cX5_undo 33 = .ok (.isub, 1) := by decide +kernel
theorem dX5_undo_34 : decode cX5_undo 34 = .ok (.putfield 111, 3) := by decide +kernel
theorem dX5_undo_37 : decode cX5_undo 37 = .ok (.aload_n 0, 1) := by decide +kernel
theorem dX5_undo_38 : decode cX5_undo 38 = .ok (.aload_n 0, 1) := by decide +kernel
theorem dX5_undo_39 : decode cX5_undo 39 = .ok (.getfield 111, 3) := by decide +kernel
theorem dX5_undo_42 : decode cX5_undo 42 = .ok (.invokevirtual 249, 3) := by decide +kernel
theorem dX5_undo_45 : decode cX5_undo 45 = .ok (.aload_n 0, 1) := by decide +kernel
theorem dX5_undo_46 : decode cX5_undo 46 = .ok (.getfield 111, 3) := by decide +kernel
theorem dX5_undo_49 : decode cX5_undo 49 = .ok (.ireturn, 1) := by decide +kernel
theorem dX5_undoDepth_0 : decode cX5_undoDepth 0 = .ok (.aload_n 0, 1) := by decide +kernel
theorem dX5_undoDepth_1 : decode cX5_undoDepth 1 = .ok (.iconst 0, 1) := by decide +kernel
theorem dX5_undoDepth_2 : decode cX5_undoDepth 2 = .ok (.putfield 27, 3) := by decide +kernel
theorem dX5_undoDepth_5 : decode cX5_undoDepth 5 = .ok (.aload_n 0, 1) := by decide +kernel
theorem dX5_undoDepth_6 : decode cX5_undoDepth 6 = .ok (.getfield 111, 3) := by decide +kernel
theorem dX5_undoDepth_9 : decode cX5_undoDepth 9 = .ok (.ireturn, 1) := by decide +kernel
theorem dX5_save_0 : decode cX5_save 0 = .ok (.aload_n 0, 1) := by decide +kernel
theorem dX5_save_1 : decode cX5_save 1 = .ok (.iconst 0, 1) := by decide +kernel
theorem dX5_save_2 : decode cX5_save 2 = .ok (.putfield 27, 3) := by decide +kernel
theorem dX5_save_5 : decode cX5_save 5 = .ok (.aload_n 0, 1) := by decide +kernel
theorem dX5_save_6 : decode cX5_save 6 = .ok (.iload_n 1, 1) := by decide +kernel
theorem dX5_save_7 : decode cX5_save 7 = .ok (.iconst 0, 1) := by decide +kernel
theorem dX5_save_8 : decode cX5_save 8 = .ok (.iconst 1, 1) := by decide +kernel
theorem dX5_save_9 : decode cX5_save 9 = .ok (.invokestatic 63, 3) := by decide +kernel
theorem dX5_save_12 : decode cX5_save 12 = .ok (.ifCond .ne 7, 3) := by decide +kernel
theorem dX5_save_15 : decode cX5_save 15 = .ok (.iconst 1, 1) := by decide +kernel
theorem dX5_save_16 : decode cX5_save 16 = .ok (.goto 4, 3) := by decide +kernel
theorem dX5_save_19 : decode cX5_save 19 = .ok (.iconst 0, 1) := by decide +kernel
theorem dX5_save_20 : decode cX5_save 20 = .ok (.iconst 1, 1) := by decide +kernel
theorem dX5_save_21 : decode cX5_save 21 = .ok (.invokevirtual 270, 3) := by decide +kernel
theorem dX5_save_24 : decode cX5_save 24 = .ok (.ifCond .eq 5, 3) := by decide +kernel
theorem dX5_save_27 : decode cX5_save 27 = .ok (.iconst 0, 1) := by decide +kernel
theorem dX5_save_28 : decode cX5_save 28 = .ok (.ireturn, 1) := by decide +kernel
theorem dX5_save_29 : decode cX5_save 29 = .ok (.iload_n 1, 1) := by decide +kernel
theorem dX5_save_30 : decode cX5_save 30 = .ok (.ifCond .ne 10, 3) := by decide +kernel
theorem dX5_save_33 : decode cX5_save 33 = .ok (.aload_n 0, 1) := by decide +kernel
theorem dX5_save_34 : decode cX5_save 34 = .ok (.getfield 260, 3) := by decide +kernel
theorem dX5_save_37 : decode cX5_save 37 = .ok (.goto 7, 3) := by decide +kernel
theorem dX5_save_40 : decode cX5_save 40 = .ok (.aload_n 0, 1) := by decide +kernel
theorem dX5_save_41 : decode cX5_save 41 = .ok (.getfield 264, 3) := by decide +kernel
theorem dX5_save_44 : decode cX5_save 44 = .ok (.istore_n 2, 1) := by decide +kernel
theorem dX5_save_45 : decode cX5_save 45 = .ok (.aload_n 0, 1) := by decide +kernel
theorem dX5_save_46 : decode cX5_save 46 = .ok (.bipush 8, 2) := by decide +kernel
theorem dX5_save_48 : decode cX5_save 48 = .ok (.iload_n 1, 1) := by decide +kernel
theorem dX5_save_49 : decode cX5_save 49 = .ok (.iadd, 1) := by decide +kernel
theorem dX5_save_50 : decode cX5_save 50 = .ok (.invokevirtual 114, 3) := by decide +kernel
theorem dX5_save_53 : decode cX5_save 53 = .ok (.aload_n 0, 1) := by decide +kernel
theorem dX5_save_54 : decode cX5_save 54 = .ok (.aload_n 0, 1) := by decide +kernel
theorem dX5_save_55 : decode cX5_save 55 = .ok (.getfield 260, 3) := by decide +kernel
theorem dX5_save_58 : decode cX5_save 58 = .ok (.ifCond .ne 7, 3) := by decide +kernel
theorem dX5_save_61 : decode cX5_save 61 = .ok (.iload_n 1, 1) := by decide +kernel
theorem dX5_save_62 : decode cX5_save 62 = .ok (.ifCond .ne 7, 3) := by decide +kernel
theorem dX5_save_65 : decode cX5_save 65 = .ok (.iconst 1, 1) := by decide +kernel
theorem dX5_save_66 : decode cX5_save 66 = .ok (.goto 4, 3) := by decide +kernel
theorem dX5_save_69 : decode cX5_save 69 = .ok (.iconst 0, 1) := by decide +kernel
theorem dX5_save_70 : decode cX5_save 70 = .ok (.putfield 260, 3) := by decide +kernel
theorem dX5_save_73 : decode cX5_save 73 = .ok (.aload_n 0, 1) := by decide +kernel
theorem dX5_save_74 : decode cX5_save 74 = .ok (.aload_n 0, 1) := by decide +kernel
theorem dX5_save_75 : decode cX5_save 75 = .ok (.getfield 264, 3) := by decide +kernel
theorem dX5_save_78 : decode cX5_save 78 = .ok (.ifCond .ne 8, 3) := by decide +kernel
theorem dX5_save_81 : decode cX5_save 81 = .ok (.iload_n 1, 1) := by decide +kernel
theorem dX5_save_82 : decode cX5_save 82 = .ok (.iconst 1, 1) := by decide +kernel
theorem dX5_save_83 : decode cX5_save 83 = .ok (.if_icmp .ne 7, 3) := by decide +kernel
theorem dX5_save_86 : decode cX5_save 86 = .ok (.iconst 1, 1) := by decide +kernel
theorem dX5_save_87 : decode cX5_save 87 = .ok (.goto 4, 3) := by decide +kernel
theorem dX5_save_90 : decode cX5_save 90 = .ok (.iconst 0, 1) := by decide +kernel
theorem dX5_save_91 : decode cX5_save 91 = .ok (.putfield 264, 3) := by decide +kernel
theorem dX5_save_94 : decode cX5_save 94 = .ok (.iload_n 2, 1) := by decide +kernel
theorem dX5_save_95 : decode cX5_save 95 = .ok (.ifCond .ne 7, 3) := by decide +kernel
theorem dX5_save_98 : decode cX5_save 98 = .ok (.iconst 1, 1) := by decide +kernel
theorem dX5_save_99 : decode cX5_save 99 = .ok (.goto 4, 3) := by decide +kernel
theorem dX5_save_102 : decode cX5_save 102 = .ok (.iconst 0, 1) := by decide +kernel
theorem dX5_save_103 : decode cX5_save 103 = .ok (.ireturn, 1) := by decide +kernel
theorem dX5_restore_0 : decode cX5_restore 0 = .ok (.aload_n 0, 1) := by decide +kernel
theorem dX5_restore_1 : decode cX5_restore 1 = .ok (.iconst 0, 1) := by decide +kernel
theorem dX5_restore_2 : decode cX5_restore 2 = .ok (.putfield 27, 3) := by decide +kernel
theorem dX5_restore_5 : decode cX5_restore 5 = .ok (.aload_n 0, 1) := by decide +kernel
theorem dX5_restore_6 : decode cX5_restore 6 = .ok (.iload_n 1, 1) := by decide +kernel
theorem dX5_restore_7 : decode cX5_restore 7 = .ok (.iconst 0, 1) := by decide +kernel
theorem dX5_restore_8 : decode cX5_restore 8 = .ok (.iconst 1, 1) := by decide +kernel
theorem dX5_restore_9 : decode cX5_restore 9 = .ok (.invokestatic 63, 3) := by decide +kernel
theorem dX5_restore_12 : decode cX5_restore 12 = .ok (.ifCond .ne 7, 3) := by decide +kernel
theorem dX5_restore_15 : decode cX5_restore 15 = .ok (.iconst 1, 1) := by decide +kernel
theorem dX5_restore_16 : decode cX5_restore 16 = .ok (.goto 4, 3) := by decide +kernel
theorem dX5_restore_19 : decode cX5_restore 19 = .ok (.iconst 0, 1) := by decide +kernel
theorem dX5_restore_20 : decode cX5_restore 20 = .ok (.iconst 1, 1) := by decide +kernel
theorem dX5_restore_21 : decode cX5_restore 21 = .ok (.invokevirtual 270, 3) := by decide +kernel
theorem dX5_restore_24 : decode cX5_restore 24 = .ok (.ifCond .ne 42, 3) := by decide +kernel
theorem dX5_restore_27 : decode cX5_restore 27 = .ok (.aload_n 0, 1) := by decide +kernel
theorem dX5_restore_28 : decode cX5_restore 28 = .ok (.iload_n 1, 1) := by decide +kernel
theorem dX5_restore_29 : decode cX5_restore 29 = .ok (.ifCond .ne 18, 3) := by decide +kernel
theorem dX5_restore_32 : decode cX5_restore 32 = .ok (.aload_n 0, 1) := by decide +kernel
theorem dX5_restore_33 : decode cX5_restore 33 = .ok (.getfield 260, 3) := by decide +kernel
theorem dX5_restore_36 : decode cX5_restore 36 = .ok (.ifCond .ne 7, 3) := by decide +kernel
theorem dX5_restore_39 : decode cX5_restore 39 = .ok (.iconst 1, 1) := by decide +kernel
theorem dX5_restore_40 : decode cX5_restore 40 = .ok (.goto 19, 3) := by decide +kernel
theorem dX5_restore_43 : decode cX5_restore 43 = .ok (.iconst 0, 1) := by decide +kernel
theorem dX5_restore_44 : decode cX5_restore 44 = .ok (.goto 15, 3) := by decide +kernel
theorem dX5_restore_47 : decode cX5_restore 47 = .ok (.aload_n 0, 1) := by decide +kernel
theorem dX5_restore_48 : decode cX5_restore 48 = .ok (.getfield 264, 3) := by decide +kernel
theorem dX5_restore_51 : decode cX5_restore 51 = .ok (.ifCond .ne 7, 3) := by decide +kernel
theorem dX5_restore_54 : decode cX5_restore 54 = .ok (.iconst 1, 1) := by decide +kernel
theorem dX5_restore_55 : decode cX5_restore 55 = .ok (.goto 4, 3) := by decide +kernel
theorem dX5_restore_58 : decode cX5_restore 58 = .ok (.iconst 0, 1) := by decide +kernel
theorem dX5_restore_59 : decode cX5_restore 59 = .ok (.iconst 2, 1) := by decide +kernel
theorem dX5_restore_60 : decode cX5_restore 60 = .ok (.invokevirtual 270, 3) := by decide +kernel
theorem dX5_restore_63 : decode cX5_restore 63 = .ok (.ifCond .eq 5, 3) := by decide +kernel
theorem dX5_restore_66 : decode cX5_restore 66 = .ok (.iconst 0, 1) := by decide +kernel
theorem dX5_restore_67 : decode cX5_restore 67 = .ok (.ireturn, 1) := by decide +kernel
theorem dX5_restore_68 : decode cX5_restore 68 = .ok (.aload_n 0, 1) := by decide +kernel
theorem dX5_restore_69 : decode cX5_restore 69 = .ok (.bipush 8, 2) := by decide +kernel
theorem dX5_restore_71 : decode cX5_restore 71 = .ok (.iload_n 1, 1) := by decide +kernel
theorem dX5_restore_72 : decode cX5_restore 72 = .ok (.iadd, 1) := by decide +kernel
theorem dX5_restore_73 : decode cX5_restore 73 = .ok (.invokevirtual 249, 3) := by decide +kernel
theorem dX5_restore_76 : decode cX5_restore 76 = .ok (.aload_n 0, 1) := by decide +kernel
theorem dX5_restore_77 : decode cX5_restore 77 = .ok (.iconst 0, 1) := by decide +kernel
theorem dX5_restore_78 : decode cX5_restore 78 = .ok (.putfield 111, 3) := by decide +kernel
theorem dX5_restore_81 : decode cX5_restore 81 = .ok (.aload_n 0, 1) := by decide +kernel
theorem dX5_restore_82 : decode cX5_restore 82 = .ok (.getfield 7, 3) := by decide +kernel
theorem dX5_restore_85 : decode cX5_restore 85 = .ok (.iconst 3, 1) := by decide +kernel
theorem dX5_restore_86 : decode cX5_restore 86 = .ok (.iaload, 1) := by decide +kernel
theorem dX5_restore_87 : decode cX5_restore 87 = .ok (.ireturn, 1) := by decide +kernel
theorem dX5_write_0 : decode cX5_write 0 = .ok (.aload_n 0, 1) := by decide +kernel
theorem dX5_write_1 : decode cX5_write 1 = .ok (.getfield 24, 3) := by decide +kernel
theorem dX5_write_4 : decode cX5_write 4 = .ok (.aload_n 0, 1) := by decide +kernel
theorem dX5_write_5 : decode cX5_write 5 = .ok (.getfield 315, 3) := by decide +kernel
theorem dX5_write_8 : decode cX5_write 8 = .ok (.iload_n 1, 1) := by decide +kernel
theorem dX5_write_9 : decode cX5_write 9 = .ok (.i2b, 1) := by decide +kernel
theorem dX5_write_10 : decode cX5_write 10 = .ok (.bastore, 1) := by decide +kernel
theorem dX5_write_11 : decode cX5_write 11 = .ok (.aload_n 0, 1) := by decide +kernel
theorem dX5_write_12 : decode cX5_write 12 = .ok (.dup, 1) := by decide +kernel
theorem dX5_write_13 : decode cX5_write 13 = .ok (.getfield 315, 3) := by decide +kernel
theorem dX5_write_16 : decode cX5_write 16 = .ok (.iconst 1, 1) := by decide +kernel
theorem dX5_write_17 : decode cX5_write 17 = .ok (.iadd, 1) := by decide +kernel
theorem dX5_write_18 : decode cX5_write 18 = .ok (.putfield 315, 3) := by decide +kernel
theorem dX5_write_21 : decode cX5_write 21 = .ok (.return_, 1) := by decide +kernel
theorem dX5_writeNumber_0 : decode cX5_writeNumber 0 = .ok (.iload_n 1, 1) := by decide +kernel
theorem dX5_writeNumber_1 : decode cX5_writeNumber 1 = .ok (.bipush 9, 2) := by decide +kernel
theorem dX5_writeNumber_3 : decode cX5_writeNumber 3 = .ok (.if_icmp .le 14, 3) := by decide +kernel
theorem dX5_writeNumber_6 : decode cX5_writeNumber 6 = .ok (.aload_n 0, 1) := by decide +kernel
theorem dX5_writeNumber_7 : decode cX5_writeNumber 7 = .ok (.bipush 48, 2) := by decide +kernel
theorem dX5_writeNumber_9 : decode cX5_writeNumber 9 = .ok (.iload_n 1, 1) := by decide +kernel
theorem dX5_writeNumber_10 : decode cX5_writeNumber 10 = .ok (.bipush 10, 2) := by decide +kernel
theorem dX5_writeNumber_12 : decode cX5_writeNumber 12 = .ok (.idiv, 1) := by decide +kernel
theorem dX5_writeNumber_13 : decode cX5_writeNumber 13 = .ok (.iadd, 1) := by decide +kernel
theorem dX5_writeNumber_14 : decode cX5_writeNumber 14 = .ok (.invokevirtual 318, 3) := by decide +kernel
theorem dX5_writeNumber_17 : decode cX5_writeNumber 17 = .ok (.aload_n 0, 1) := by decide +kernel
theorem dX5_writeNumber_18 : decode cX5_writeNumber 18 = .ok (.bipush 48, 2) := by decide +kernel
theorem dX5_writeNumber_20 : decode cX5_writeNumber 20 = .ok (.iload_n 1, 1) := by decide +kernel
theorem dX5_writeNumber_21 : decode cX5_writeNumber 21 = .ok (.bipush 10, 2) := by decide +kernel
theorem dX5_writeNumber_23 : decode cX5_writeNumber 23 = .ok (.irem, 1) := by decide +kernel
theorem dX5_writeNumber_24 : decode cX5_writeNumber 24 = .ok (.iadd, 1) := by decide +kernel
theorem dX5_writeNumber_25 : decode cX5_writeNumber 25 = .ok (.invokevirtual 318, 3) := by decide +kernel
theorem dX5_writeNumber_28 : decode cX5_writeNumber 28 = .ok (.return_, 1) := by decide +kernel
theorem dX5_writeStatus_0 : decode cX5_writeStatus 0 = .ok (.aload_n 0, 1) := by decide +kernel
theorem dX5_writeStatus_1 : decode cX5_writeStatus 1 = .ok (.iconst 0, 1) := by decide +kernel
theorem dX5_writeStatus_2 : decode cX5_writeStatus 2 = .ok (.putfield 27, 3) := by decide +kernel
theorem dX5_writeStatus_5 : decode cX5_writeStatus 5 = .ok (.aload_n 0, 1) := by decide +kernel
theorem dX5_writeStatus_6 : decode cX5_writeStatus 6 = .ok (.iconst 0, 1) := by decide +kernel
theorem dX5_writeStatus_7 : decode cX5_writeStatus 7 = .ok (.putfield 315, 3) := by decide +kernel
theorem dX5_writeStatus_10 : decode cX5_writeStatus 10 = .ok (.iconst 0, 1) := by decide +kernel
theorem dX5_writeStatus_11 : decode cX5_writeStatus 11 = .ok (.istore_n 1, 1) := by decide +kernel
theorem dX5_writeStatus_12 : decode cX5_writeStatus 12 = .ok (.iload_n 1, 1) := by decide +kernel
theorem dX5_writeStatus_13 : decode cX5_writeStatus 13 = .ok (.aload_n 0, 1) := by decide +kernel
theorem dX5_writeStatus_14 : decode cX5_writeStatus 14 = .ok (.getfield 7, 3) := by decide +kernel
theorem dX5_writeStatus_17 : decode cX5_writeStatus 17 = .ok (.bipush 10, 2) := by decide +kernel
theorem dX5_writeStatus_19 : decode cX5_writeStatus 19 = .ok (.iaload, 1) := by decide +kernel
theorem dX5_writeStatus_20 : decode cX5_writeStatus 20 = .ok (.if_icmp .ge 50, 3) := by decide +kernel
theorem dX5_writeStatus_23 : decode cX5_writeStatus 23 = .ok (.aload_n 0, 1) := by decide +kernel
theorem dX5_writeStatus_24 : decode cX5_writeStatus 24 = .ok (.iload_n 1, 1) := by decide +kernel
theorem dX5_writeStatus_25 : decode cX5_writeStatus 25 = .ok (.invokevirtual 43, 3) := by decide +kernel
theorem dX5_writeStatus_28 : decode cX5_writeStatus 28 = .ok (.istore_n 2, 1) := by decide +kernel
theorem dX5_writeStatus_29 : decode cX5_writeStatus 29 = .ok (.aload_n 0, 1) := by decide +kernel
theorem dX5_writeStatus_30 : decode cX5_writeStatus 30 = .ok (.iload_n 2, 1) := by decide +kernel
theorem dX5_writeStatus_31 : decode cX5_writeStatus 31 = .ok (.ifCond .ne 8, 3) := by decide +kernel
theorem dX5_writeStatus_34 : decode cX5_writeStatus 34 = .ok (.bipush 46, 2) := by decide +kernel
theorem dX5_writeStatus_36 : decode cX5_writeStatus 36 = .ok (.goto 25, 3) := by decide +kernel
theorem dX5_writeStatus_39 : decode cX5_writeStatus 39 = .ok (.iload_n 2, 1) := by decide +kernel
theorem dX5_writeStatus_40 : decode cX5_writeStatus 40 = .ok (.iconst 1, 1) := by decide +kernel
theorem dX5_writeStatus_41 : decode cX5_writeStatus 41 = .ok (.if_icmp .ne 8, 3) := by decide +kernel
theorem dX5_writeStatus_44 : decode cX5_writeStatus 44 = .ok (.bipush 119, 2) := by decide +kernel
theorem dX5_writeStatus_46 : decode cX5_writeStatus 46 = .ok (.goto 15, 3) := by decide +kernel
theorem dX5_writeStatus_49 : decode cX5_writeStatus 49 = .ok (.iload_n 2, 1) := by decide +kernel
theorem dX5_writeStatus_50 : decode cX5_writeStatus 50 = .ok (.iconst 2, 1) := by decide +kernel
theorem dX5_writeStatus_51 : decode cX5_writeStatus 51 = .ok (.if_icmp .ne 8, 3) := by decide +kernel
theorem dX5_writeStatus_54 : decode cX5_writeStatus 54 = .ok (.bipush 114, 2) := by decide +kernel
theorem dX5_writeStatus_56 : decode cX5_writeStatus 56 = .ok (.goto 5, 3) := by decide +kernel
theorem dX5_writeStatus_59 : decode cX5_writeStatus 59 = .ok (.bipush 100, 2) := by decide +kernel
theorem dX5_writeStatus_61 : decode cX5_writeStatus 61 = .ok (.invokevirtual 318, 3) := by decide +kernel
theorem dX5_writeStatus_64 : decode cX5_writeStatus 64 = .ok (.iinc 1 1, 3) := by decide +kernel
theorem dX5_writeStatus_67 : decode cX5_writeStatus 67 = .ok (.goto (-55), 3) := by decide +kernel
theorem dX5_writeStatus_70 : decode cX5_writeStatus 70 = .ok (.aload_n 0, 1) := by decide +kernel
theorem dX5_writeStatus_71 : decode cX5_writeStatus 71 = .ok (.getfield 315, 3) := by decide +kernel
theorem dX5_writeStatus_74 : decode cX5_writeStatus 74 = .ok (.ireturn, 1) := by decide +kernel
theorem dX5_writeBuilding_0 : decode cX5_writeBuilding 0 = .ok (.aload_n 0, 1) := by decide +kernel
theorem dX5_writeBuilding_1 : decode cX5_writeBuilding 1 = .ok (.iconst 0, 1) := by decide +kernel
theorem dX5_writeBuilding_2 : decode cX5_writeBuilding 2 = .ok (.putfield 27, 3) := by decide +kernel
theorem dX5_writeBuilding_5 : decode cX5_writeBuilding 5 = .ok (.aload_n 0, 1) := by decide +kernel
theorem dX5_writeBuilding_6 : decode cX5_writeBuilding 6 = .ok (.iconst 0, 1) := by decide +kernel
theorem dX5_writeBuilding_7 : decode cX5_writeBuilding 7 = .ok (.putfield 315, 3) := by decide +kernel
theorem dX5_writeBuilding_10 : decode cX5_writeBuilding 10 = .ok (.iconst 0, 1) := by decide +kernel
theorem dX5_writeBuilding_11 : decode cX5_writeBuilding 11 = .ok (.istore_n 1, 1) := by decide +kernel
theorem dX5_writeBuilding_12 : decode cX5_writeBuilding 12 = .ok (.iload_n 1, 1) := by decide +kernel
theorem dX5_writeBuilding_13 : decode cX5_writeBuilding 13 = .ok (.aload_n 0, 1) := by decide +kernel
theorem dX5_writeBuilding_14 : decode cX5_writeBuilding 14 = .ok (.getfield 7, 3) := by decide +kernel
theorem dX5_writeBuilding_17 : decode cX5_writeBuilding 17 = .ok (.iconst 0, 1) := by decide +kernel
theorem dX5_writeBuilding_18 : decode cX5_writeBuilding 18 = .ok (.iaload, 1) := by decide +kernel
theorem dX5_writeBuilding_19 : decode cX5_writeBuilding 19 = .ok (.if_icmp .ge 53, 3) := by decide +kernel
theorem dX5_writeBuilding_22 : decode cX5_writeBuilding 22 = .ok (.iload_n 1, 1) := by decide +kernel
theorem dX5_writeBuilding_23 : decode cX5_writeBuilding 23 = .ok (.ifCond .le 9, 3) := by decide +kernel
theorem dX5_writeBuilding_26 : decode cX5_writeBuilding 26 = .ok (.aload_n 0, 1) := by decide +kernel
theorem dX5_writeBuilding_27 : decode cX5_writeBuilding 27 = .ok (.bipush 44, 2) := by decide +kernel
theorem dX5_writeBuilding_29 : decode cX5_writeBuilding 29 = .ok (.invokevirtual 318, 3) := by decide +kernel
theorem dX5_writeBuilding_32 : decode cX5_writeBuilding 32 = .ok (.aload_n 0, 1) := by decide +kernel
theorem dX5_writeBuilding_33 : decode cX5_writeBuilding 33 = .ok (.aload_n 0, 1) := by decide +kernel
theorem dX5_writeBuilding_34 : decode cX5_writeBuilding 34 = .ok (.iload_n 1, 1) := by decide +kernel
theorem dX5_writeBuilding_35 : decode cX5_writeBuilding 35 = .ok (.invokevirtual 289, 3) := by decide +kernel
theorem dX5_writeBuilding_38 : decode cX5_writeBuilding 38 = .ok (.invokevirtual 321, 3) := by decide +kernel
theorem dX5_writeBuilding_41 : decode cX5_writeBuilding 41 = .ok (.iload_n 1, 1) := by decide +kernel
theorem dX5_writeBuilding_42 : decode cX5_writeBuilding 42 = .ok (.aload_n 0, 1) := by decide +kernel
theorem dX5_writeBuilding_43 : decode cX5_writeBuilding 43 = .ok (.getfield 7, 3) := by decide +kernel
theorem dX5_writeBuilding_46 : decode cX5_writeBuilding 46 = .ok (.iconst 4, 1) := by decide +kernel
theorem dX5_writeBuilding_47 : decode cX5_writeBuilding 47 = .ok (.iaload, 1) := by decide +kernel
theorem dX5_writeBuilding_48 : decode cX5_writeBuilding 48 = .ok (.if_icmp .ne 18, 3) := by decide +kernel
theorem dX5_writeBuilding_51 : decode cX5_writeBuilding 51 = .ok (.aload_n 0, 1) := by decide +kernel
theorem dX5_writeBuilding_52 : decode cX5_writeBuilding 52 = .ok (.bipush 42, 2) := by decide +kernel
theorem dX5_writeBuilding_54 : decode cX5_writeBuilding 54 = .ok (.invokevirtual 318, 3) := by decide +kernel
theorem dX5_writeBuilding_57 : decode cX5_writeBuilding 57 = .ok (.aload_n 0, 1) := by decide +kernel
theorem dX5_writeBuilding_58 : decode cX5_writeBuilding 58 = .ok (.aload_n 0, 1) := by decide +kernel
theorem dX5_writeBuilding_59 : decode cX5_writeBuilding 59 = .ok (.iconst 2, 1) := by decide +kernel
theorem dX5_writeBuilding_60 : decode cX5_writeBuilding 60 = .ok (.invokevirtual 46, 3) := by decide +kernel
theorem dX5_writeBuilding_63 : decode cX5_writeBuilding 63 = .ok (.invokevirtual 321, 3) := by decide +kernel
theorem dX5_writeBuilding_66 : decode cX5_writeBuilding 66 = .ok (.iinc 1 1, 3) := by decide +kernel
theorem dX5_writeBuilding_69 : decode cX5_writeBuilding 69 = .ok (.goto (-57), 3) := by decide +kernel
theorem dX5_writeBuilding_72 : decode cX5_writeBuilding 72 = .ok (.aload_n 0, 1) := by decide +kernel
theorem dX5_writeBuilding_73 : decode cX5_writeBuilding 73 = .ok (.getfield 315, 3) := by decide +kernel
theorem dX5_writeBuilding_76 : decode cX5_writeBuilding 76 = .ok (.ireturn, 1) := by decide +kernel
theorem dX5_outputByte_0 : decode cX5_outputByte 0 = .ok (.aload_n 0, 1) := by decide +kernel
theorem dX5_outputByte_1 : decode cX5_outputByte 1 = .ok (.iconst 0, 1) := by decide +kernel
theorem dX5_outputByte_2 : decode cX5_outputByte 2 = .ok (.putfield 27, 3) := by decide +kernel
theorem dX5_outputByte_5 : decode cX5_outputByte 5 = .ok (.iload_n 1, 1) := by decide +kernel
theorem dX5_outputByte_6 : decode cX5_outputByte 6 = .ok (.iconst 0, 1) := by decide +kernel
theorem dX5_outputByte_7 : decode cX5_outputByte 7 = .ok (.aload_n 0, 1) := by decide +kernel
theorem dX5_outputByte_8 : decode cX5_outputByte 8 = .ok (.getfield 315, 3) := by decide +kernel
theorem dX5_outputByte_11 : decode cX5_outputByte 11 = .ok (.iconst 1, 1) := by decide +kernel
theorem dX5_outputByte_12 : decode cX5_outputByte 12 = .ok (.isub, 1) := by decide +kernel
theorem dX5_outputByte_13 : decode cX5_outputByte 13 = .ok (.invokestatic 63, 3) := by decide +kernel
theorem dX5_outputByte_16 : decode cX5_outputByte 16 = .ok (.ifCond .eq 16, 3) := by decide +kernel
theorem dX5_outputByte_19 : decode cX5_outputByte 19 = .ok (.aload_n 0, 1) := by decide +kernel
theorem dX5_outputByte_20 : decode cX5_outputByte 20 = .ok (.getfield 24, 3) := by decide +kernel
theorem dX5_outputByte_23 : decode cX5_outputByte 23 = .ok (.iload_n 1, 1) := by decide +kernel
theorem dX5_outputByte_24 : decode cX5_outputByte 24 = .ok (.baload, 1) := by decide +kernel
theorem dX5_outputByte_25 : decode cX5_outputByte 25 = .ok (.sipush 255, 3) := by decide +kernel
theorem dX5_outputByte_28 : decode cX5_outputByte 28 = .ok (.iand, 1) := by decide +kernel
theorem dX5_outputByte_29 : decode cX5_outputByte 29 = .ok (.goto 4, 3) := by decide +kernel
theorem dX5_outputByte_32 : decode cX5_outputByte 32 = .ok (.iconst (-1), 1) := by decide +kernel
theorem dX5_outputByte_33 : decode cX5_outputByte 33 = .ok (.ireturn, 1) := by decide +kernel
theorem dJx29ce0_ordinal_8abf5_0 : decode cJx29ce0_ordinal_8abf5 0 = .ok (.aload_n 0, 1) := by decide +kernel
theorem dJx29ce0_ordinal_8abf5_1 : decode cJx29ce0_ordinal_8abf5 1 = .ok (.getfield 7, 3) := by decide +kernel
theorem dJx29ce0_ordinal_8abf5_4 : decode cJx29ce0_ordinal_8abf5 4 = .ok (.ireturn, 1) := by decide +kernel
theorem dJ9_abs_0f7a4_0 : decode cJ9_abs_0f7a4 0 = .ok (.iload_n 0, 1) := by decide +kernel
theorem dJ9_abs_0f7a4_1 : decode cJ9_abs_0f7a4 1 = .ok (.ifCond .ge 8, 3) := by decide +kernel
theorem dJ9_abs_0f7a4_4 : decode cJ9_abs_0f7a4 4 = .ok (.iload_n 0, 1) := by decide +kernel
theorem dJ9_abs_0f7a4_5 : decode cJ9_abs_0f7a4 5 = .ok (.ineg, 1) := by decide +kernel
theorem dJ9_abs_0f7a4_6 : decode cJ9_abs_0f7a4 6 = .ok (.goto 4, 3) := by decide +kernel
theorem dJ9_abs_0f7a4_9 : decode cJ9_abs_0f7a4 9 = .ok (.iload_n 0, 1) := by decide +kernel
theorem dJ9_abs_0f7a4_10 : decode cJ9_abs_0f7a4 10 = .ok (.ireturn, 1) := by decide +kernel
theorem dJ9_max_7cf53_0 : decode cJ9_max_7cf53 0 = .ok (.iload_n 0, 1) := by decide +kernel
theorem dJ9_max_7cf53_1 : decode cJ9_max_7cf53 1 = .ok (.iload_n 1, 1) := by decide +kernel
theorem dJ9_max_7cf53_2 : decode cJ9_max_7cf53 2 = .ok (.if_icmp .lt 7, 3) := by decide +kernel
theorem dJ9_max_7cf53_5 : decode cJ9_max_7cf53 5 = .ok (.iload_n 0, 1) := by decide +kernel
theorem dJ9_max_7cf53_6 : decode cJ9_max_7cf53 6 = .ok (.goto 4, 3) := by decide +kernel
theorem dJ9_max_7cf53_9 : decode cJ9_max_7cf53 9 = .ok (.iload_n 1, 1) := by decide +kernel
theorem dJ9_max_7cf53_10 : decode cJ9_max_7cf53 10 = .ok (.ireturn, 1) := by decide +kernel
theorem dJ9_min_7cf53_0 : decode cJ9_min_7cf53 0 = .ok (.iload_n 0, 1) := by decide +kernel
theorem dJ9_min_7cf53_1 : decode cJ9_min_7cf53 1 = .ok (.iload_n 1, 1) := by decide +kernel
theorem dJ9_min_7cf53_2 : decode cJ9_min_7cf53 2 = .ok (.if_icmp .gt 7, 3) := by decide +kernel
theorem dJ9_min_7cf53_5 : decode cJ9_min_7cf53 5 = .ok (.iload_n 0, 1) := by decide +kernel
theorem dJ9_min_7cf53_6 : decode cJ9_min_7cf53 6 = .ok (.goto 4, 3) := by decide +kernel
theorem dJ9_min_7cf53_9 : decode cJ9_min_7cf53 9 = .ok (.iload_n 1, 1) := by decide +kernel
theorem dJ9_min_7cf53_10 : decode cJ9_min_7cf53 10 = .ok (.ireturn, 1) := by decide +kernel
theorem dJ0_length_8abf5_0 : decode cJ0_length_8abf5 0 = .ok (.aload_n 0, 1) := by decide +kernel
theorem dJ0_length_8abf5_1 : decode cJ0_length_8abf5 1 = .ok (.getfield 9, 3) := by decide +kernel
theorem dJ0_length_8abf5_4 : decode cJ0_length_8abf5 4 = .ok (.arraylength, 1) := by decide +kernel
theorem dJ0_length_8abf5_5 : decode cJ0_length_8abf5 5 = .ok (.aload_n 0, 1) := by decide +kernel
theorem dJ0_length_8abf5_6 : decode cJ0_length_8abf5 6 = .ok (.invokevirtual 335, 3) := by decide +kernel
theorem dJ0_length_8abf5_9 : decode cJ0_length_8abf5 9 = .ok (.ishr, 1) := by decide +kernel
theorem dJ0_length_8abf5_10 : decode cJ0_length_8abf5 10 = .ok (.ireturn, 1) := by decide +kernel
theorem dJ0_charAt_5068e_0 : decode cJ0_charAt_5068e 0 = .ok (.aload_n 0, 1) := by decide +kernel
theorem dJ0_charAt_5068e_1 : decode cJ0_charAt_5068e 1 = .ok (.invokevirtual 492, 3) := by decide +kernel
theorem dJ0_charAt_5068e_4 : decode cJ0_charAt_5068e 4 = .ok (.ifCond .eq 12, 3) := by decide +kernel
theorem dJ0_charAt_5068e_7 : decode cJ0_charAt_5068e 7 = .ok (.aload_n 0, 1) := by decide +kernel
theorem dJ0_charAt_5068e_8 : decode cJ0_charAt_5068e 8 = .ok (.getfield 9, 3) := by decide +kernel
theorem dJ0_charAt_5068e_11 : decode cJ0_charAt_5068e 11 = .ok (.iload_n 1, 1) := by decide +kernel
theorem dJ0_charAt_5068e_12 : decode cJ0_charAt_5068e 12 = .ok (.invokestatic 495, 3) := by decide +kernel
theorem dJ0_charAt_5068e_15 : decode cJ0_charAt_5068e 15 = .ok (.ireturn, 1) := by decide +kernel
theorem dJ0_charAt_5068e_16 : decode cJ0_charAt_5068e 16 = .ok (.aload_n 0, 1) := by decide +kernel
theorem dJ0_charAt_5068e_17 : decode cJ0_charAt_5068e 17 = .ok (.getfield 9, 3) := by decide +kernel
theorem dJ0_charAt_5068e_20 : decode cJ0_charAt_5068e 20 = .ok (.iload_n 1, 1) := by decide +kernel
theorem dJ0_charAt_5068e_21 : decode cJ0_charAt_5068e 21 = .ok (.invokestatic 498, 3) := by decide +kernel
theorem dJ0_charAt_5068e_24 : decode cJ0_charAt_5068e 24 = .ok (.ireturn, 1) := by decide +kernel
theorem dJ0_coder_7d493_0 : decode cJ0_coder_7d493 0 = .ok (.getstatic 38, 3) := by decide +kernel
theorem dJ0_coder_7d493_3 : decode cJ0_coder_7d493 3 = .ok (.ifCond .eq 10, 3) := by decide +kernel
theorem dJ0_coder_7d493_6 : decode cJ0_coder_7d493 6 = .ok (.aload_n 0, 1) := by decide +kernel
theorem dJ0_coder_7d493_7 : decode cJ0_coder_7d493 7 = .ok (.getfield 15, 3) := by decide +kernel
theorem dJ0_coder_7d493_10 : decode cJ0_coder_7d493 10 = .ok (.goto 4, 3) := by decide +kernel
theorem dJ0_coder_7d493_13 : decode cJ0_coder_7d493 13 = .ok (.iconst 1, 1) := by decide +kernel
theorem dJ0_coder_7d493_14 : decode cJ0_coder_7d493 14 = .ok (.ireturn, 1) := by decide +kernel
theorem dJ0_isLatin1_aae02_0 : decode cJ0_isLatin1_aae02 0 = .ok (.getstatic 38, 3) := by decide +kernel
theorem dJ0_isLatin1_aae02_3 : decode cJ0_isLatin1_aae02 3 = .ok (.ifCond .eq 14, 3) := by decide +kernel
theorem dJ0_isLatin1_aae02_6 : decode cJ0_isLatin1_aae02 6 = .ok (.aload_n 0, 1) := by decide +kernel
theorem dJ0_isLatin1_aae02_7 : decode cJ0_isLatin1_aae02 7 = .ok (.getfield 15, 3) := by decide +kernel
theorem dJ0_isLatin1_aae02_10 : decode cJ0_isLatin1_aae02 10 = .ok (.ifCond .ne 7, 3) := by decide +kernel
theorem dJ0_isLatin1_aae02_13 : decode cJ0_isLatin1_aae02 13 = .ok (.iconst 1, 1) := by decide +kernel
theorem dJ0_isLatin1_aae02_14 : decode cJ0_isLatin1_aae02 14 = .ok (.goto 4, 3) := by decide +kernel
theorem dJ0_isLatin1_aae02_17 : decode cJ0_isLatin1_aae02 17 = .ok (.iconst 0, 1) := by decide +kernel
theorem dJ0_isLatin1_aae02_18 : decode cJ0_isLatin1_aae02 18 = .ok (.ireturn, 1) := by decide +kernel
theorem dJ0_checkIndex_df160_0 : decode cJ0_checkIndex_df160 0 = .ok (.iload_n 0, 1) := by decide +kernel
theorem dJ0_checkIndex_df160_1 : decode cJ0_checkIndex_df160 1 = .ok (.iload_n 1, 1) := by decide +kernel
theorem dJ0_checkIndex_df160_2 : decode cJ0_checkIndex_df160 2 = .ok (.getstatic 1053, 3) := by decide +kernel
theorem dJ0_checkIndex_df160_5 : decode cJ0_checkIndex_df160 5 = .ok (.invokestatic 1059, 3) := by decide +kernel
theorem dJ0_checkIndex_df160_8 : decode cJ0_checkIndex_df160 8 = .ok (.pop, 1) := by decide +kernel
theorem dJ0_checkIndex_df160_9 : decode cJ0_checkIndex_df160 9 = .ok (.return_, 1) := by decide +kernel
theorem dJ1_charAt_3b067_0 : decode cJ1_charAt_3b067 0 = .ok (.iload_n 1, 1) := by decide +kernel
theorem dJ1_charAt_3b067_1 : decode cJ1_charAt_3b067 1 = .ok (.aload_n 0, 1) := by decide +kernel
theorem dJ1_charAt_3b067_2 : decode cJ1_charAt_3b067 2 = .ok (.arraylength, 1) := by decide +kernel
theorem dJ1_charAt_3b067_3 : decode cJ1_charAt_3b067 3 = .ok (.invokestatic 9, 3) := by decide +kernel
theorem dJ1_charAt_3b067_6 : decode cJ1_charAt_3b067 6 = .ok (.aload_n 0, 1) := by decide +kernel
theorem dJ1_charAt_3b067_7 : decode cJ1_charAt_3b067 7 = .ok (.iload_n 1, 1) := by decide +kernel
theorem dJ1_charAt_3b067_8 : decode cJ1_charAt_3b067 8 = .ok (.baload, 1) := by decide +kernel
theorem dJ1_charAt_3b067_9 : decode cJ1_charAt_3b067 9 = .ok (.sipush 255, 3) := by decide +kernel
theorem dJ1_charAt_3b067_12 : decode cJ1_charAt_3b067 12 = .ok (.iand, 1) := by decide +kernel
theorem dJ1_charAt_3b067_13 : decode cJ1_charAt_3b067 13 = .ok (.i2c, 1) := by decide +kernel
theorem dJ1_charAt_3b067_14 : decode cJ1_charAt_3b067 14 = .ok (.ireturn, 1) := by decide +kernel
theorem dJ2_getChar_3b067_0 : decode cJ2_getChar_3b067 0 = .ok (.getstatic 44, 3) := by decide +kernel
theorem dJ2_getChar_3b067_3 : decode cJ2_getChar_3b067 3 = .ok (.ifCond .ne 25, 3) := by decide +kernel
theorem dJ2_getChar_3b067_6 : decode cJ2_getChar_3b067 6 = .ok (.iload_n 1, 1) := by decide +kernel
theorem dJ2_getChar_3b067_7 : decode cJ2_getChar_3b067 7 = .ok (.ifCond .lt 11, 3) := by decide +kernel
theorem dJ2_getChar_3b067_10 : decode cJ2_getChar_3b067 10 = .ok (.iload_n 1, 1) := by decide +kernel
theorem dJ2_getChar_3b067_11 : decode cJ2_getChar_3b067 11 = .ok (.aload_n 0, 1) := by decide +kernel
theorem dJ2_getChar_3b067_12 : decode cJ2_getChar_3b067 12 = .ok (.invokestatic 48, 3) := by decide +kernel
theorem dJ2_getChar_3b067_15 : decode cJ2_getChar_3b067 15 = .ok (.if_icmp .lt 13, 3) := by decide +kernel
theorem dJ2_getChar_3b067_18 : decode cJ2_getChar_3b067 18 = .ok (.new 52, 3) := by decide +kernel
theorem dJ2_getChar_3b067_21 : decode cJ2_getChar_3b067 21 = .ok (.dup, 1) := by decide +kernel
theorem dJ2_getChar_3b067_22 : decode cJ2_getChar_3b067 22 = .ok (.ldc 54, 2) := by decide +kernel
theorem dJ2_getChar_3b067_24 : decode cJ2_getChar_3b067 24 = .ok (.invokespecial 56, 3) := by decide +kernel
theorem dJ2_getChar_3b067_27 : decode cJ2_getChar_3b067 27 = .ok (.athrow, 1) := by decide +kernel
theorem dJ2_getChar_3b067_28 : decode cJ2_getChar_3b067 28 = .ok (.iload_n 1, 1) := by decide +kernel
theorem dJ2_getChar_3b067_29 : decode cJ2_getChar_3b067 29 = .ok (.iconst 1, 1) := by decide +kernel
theorem dJ2_getChar_3b067_30 : decode cJ2_getChar_3b067 30 = .ok (.ishl, 1) := by decide +kernel
theorem dJ2_getChar_3b067_31 : decode cJ2_getChar_3b067 31 = .ok (.istore_n 1, 1) := by decide +kernel
theorem dJ2_getChar_3b067_32 : decode cJ2_getChar_3b067 32 = .ok (.aload_n 0, 1) := by decide +kernel
theorem dJ2_getChar_3b067_33 : decode cJ2_getChar_3b067 33 = .ok (.iload_n 1, 1) := by decide +kernel
theorem dJ2_getChar_3b067_34 : decode cJ2_getChar_3b067 34 = .ok (.iinc 1 1, 3) := by decide +kernel
theorem dJ2_getChar_3b067_37 : decode cJ2_getChar_3b067 37 = .ok (.baload, 1) := by decide +kernel
theorem dJ2_getChar_3b067_38 : decode cJ2_getChar_3b067 38 = .ok (.sipush 255, 3) := by decide +kernel
theorem dJ2_getChar_3b067_41 : decode cJ2_getChar_3b067 41 = .ok (.iand, 1) := by decide +kernel
theorem dJ2_getChar_3b067_42 : decode cJ2_getChar_3b067 42 = .ok (.getstatic 59, 3) := by decide +kernel
theorem dJ2_getChar_3b067_45 : decode cJ2_getChar_3b067 45 = .ok (.ishl, 1) := by decide +kernel
theorem dJ2_getChar_3b067_46 : decode cJ2_getChar_3b067 46 = .ok (.aload_n 0, 1) := by decide +kernel
theorem dJ2_getChar_3b067_47 : decode cJ2_getChar_3b067 47 = .ok (.iload_n 1, 1) := by decide +kernel
theorem dJ2_getChar_3b067_48 : decode cJ2_getChar_3b067 48 = .ok (.baload, 1) := by decide +kernel
theorem dJ2_getChar_3b067_49 : decode cJ2_getChar_3b067 49 = .ok (.sipush 255, 3) := by decide +kernel
theorem dJ2_getChar_3b067_52 : decode cJ2_getChar_3b067 52 = .ok (.iand, 1) := by decide +kernel
theorem dJ2_getChar_3b067_53 : decode cJ2_getChar_3b067 53 = .ok (.getstatic 63, 3) := by decide +kernel
theorem dJ2_getChar_3b067_56 : decode cJ2_getChar_3b067 56 = .ok (.ishl, 1) := by decide +kernel
theorem dJ2_getChar_3b067_57 : decode cJ2_getChar_3b067 57 = .ok (.ior, 1) := by decide +kernel
theorem dJ2_getChar_3b067_58 : decode cJ2_getChar_3b067 58 = .ok (.i2c, 1) := by decide +kernel
theorem dJ2_getChar_3b067_59 : decode cJ2_getChar_3b067 59 = .ok (.ireturn, 1) := by decide +kernel
theorem dJ2_length_9d52b_0 : decode cJ2_length_9d52b 0 = .ok (.aload_n 0, 1) := by decide +kernel
theorem dJ2_length_9d52b_1 : decode cJ2_length_9d52b 1 = .ok (.arraylength, 1) := by decide +kernel
theorem dJ2_length_9d52b_2 : decode cJ2_length_9d52b 2 = .ok (.iconst 1, 1) := by decide +kernel
theorem dJ2_length_9d52b_3 : decode cJ2_length_9d52b 3 = .ok (.ishr, 1) := by decide +kernel
theorem dJ2_length_9d52b_4 : decode cJ2_length_9d52b 4 = .ok (.ireturn, 1) := by decide +kernel
theorem dJ2_charAt_3b067_0 : decode cJ2_charAt_3b067 0 = .ok (.iload_n 1, 1) := by decide +kernel
theorem dJ2_charAt_3b067_1 : decode cJ2_charAt_3b067 1 = .ok (.aload_n 0, 1) := by decide +kernel
theorem dJ2_charAt_3b067_2 : decode cJ2_charAt_3b067 2 = .ok (.invokestatic 67, 3) := by decide +kernel
theorem dJ2_charAt_3b067_5 : decode cJ2_charAt_3b067 5 = .ok (.aload_n 0, 1) := by decide +kernel
theorem dJ2_charAt_3b067_6 : decode cJ2_charAt_3b067 6 = .ok (.iload_n 1, 1) := by decide +kernel
theorem dJ2_charAt_3b067_7 : decode cJ2_charAt_3b067 7 = .ok (.invokestatic 71, 3) := by decide +kernel
theorem dJ2_charAt_3b067_10 : decode cJ2_charAt_3b067 10 = .ok (.ireturn, 1) := by decide +kernel
theorem dJ2_checkIndex_2214a_0 : decode cJ2_checkIndex_2214a 0 = .ok (.iload_n 0, 1) := by decide +kernel
theorem dJ2_checkIndex_2214a_1 : decode cJ2_checkIndex_2214a 1 = .ok (.aload_n 1, 1) := by decide +kernel
theorem dJ2_checkIndex_2214a_2 : decode cJ2_checkIndex_2214a 2 = .ok (.invokestatic 48, 3) := by decide +kernel
theorem dJ2_checkIndex_2214a_5 : decode cJ2_checkIndex_2214a 5 = .ok (.invokestatic 414, 3) := by decide +kernel
theorem dJ2_checkIndex_2214a_8 : decode cJ2_checkIndex_2214a 8 = .ok (.return_, 1) := by decide +kernel
theorem dJ3_checkIndex_8e157_0 : decode cJ3_checkIndex_8e157 0 = .ok (.iload_n 0, 1) := by decide +kernel
theorem dJ3_checkIndex_8e157_1 : decode cJ3_checkIndex_8e157 1 = .ok (.ifCond .lt 8, 3) := by decide +kernel
theorem dJ3_checkIndex_8e157_4 : decode cJ3_checkIndex_8e157 4 = .ok (.iload_n 0, 1) := by decide +kernel
theorem dJ3_checkIndex_8e157_5 : decode cJ3_checkIndex_8e157 5 = .ok (.iload_n 1, 1) := by decide +kernel
theorem dJ3_checkIndex_8e157_6 : decode cJ3_checkIndex_8e157 6 = .ok (.if_icmp .lt 10, 3) := by decide +kernel
theorem dJ3_checkIndex_8e157_9 : decode cJ3_checkIndex_8e157 9 = .ok (.aload_n 2, 1) := by decide +kernel
theorem dJ3_checkIndex_8e157_10 : decode cJ3_checkIndex_8e157 10 = .ok (.iload_n 0, 1) := by decide +kernel
theorem dJ3_checkIndex_8e157_11 : decode cJ3_checkIndex_8e157 11 = .ok (.iload_n 1, 1) := by decide +kernel
theorem dJ3_checkIndex_8e157_12 : decode cJ3_checkIndex_8e157 12 = .ok (.invokestatic 95, 3) := by decide +kernel
theorem dJ3_checkIndex_8e157_15 : decode cJ3_checkIndex_8e157 15 = .ok (.athrow, 1) := by decide +kernel
theorem dJ3_checkIndex_8e157_16 : decode cJ3_checkIndex_8e157 16 = .ok (.iload_n 0, 1) := by decide +kernel
theorem dJ3_checkIndex_8e157_17 : decode cJ3_checkIndex_8e157 17 = .ok (.ireturn, 1) := by decide +kernel
theorem dL_load_0 : decode cL_load 0 = .ok (.aload_n 1, 1) := by decide +kernel
theorem dL_load_1 : decode cL_load 1 = .ok (.iconst 0, 1) := by decide +kernel
theorem dL_load_2 : decode cL_load 2 = .ok (.aload_n 0, 1) := by decide +kernel
theorem dL_load_3 : decode cL_load 3 = .ok (.invokevirtual 7, 3) := by decide +kernel
theorem dL_load_6 : decode cL_load 6 = .ok (.i2l, 1) := by decide +kernel
theorem dL_load_7 : decode cL_load 7 = .ok (.lastore, 1) := by decide +kernel
theorem dL_load_8 : decode cL_load 8 = .ok (.goto 6, 3) := by decide +kernel
theorem dL_load_11 : decode cL_load 11 = .ok (.astore_n 2, 1) := by decide +kernel
theorem dL_load_12 : decode cL_load 12 = .ok (.iconst 1, 1) := by decide +kernel
theorem dL_load_13 : decode cL_load 13 = .ok (.ireturn, 1) := by decide +kernel
theorem dL_load_14 : decode cL_load 14 = .ok (.iconst 0, 1) := by decide +kernel
theorem dL_load_15 : decode cL_load 15 = .ok (.ireturn, 1) := by decide +kernel
theorem dL_play_0 : decode cL_play 0 = .ok (.aload_n 1, 1) := by decide +kernel
theorem dL_play_1 : decode cL_play 1 = .ok (.iconst 0, 1) := by decide +kernel
theorem dL_play_2 : decode cL_play 2 = .ok (.aload_n 0, 1) := by decide +kernel
theorem dL_play_3 : decode cL_play 3 = .ok (.invokevirtual 15, 3) := by decide +kernel
theorem dL_play_6 : decode cL_play 6 = .ok (.i2l, 1) := by decide +kernel
theorem dL_play_7 : decode cL_play 7 = .ok (.lastore, 1) := by decide +kernel
theorem dL_play_8 : decode cL_play 8 = .ok (.goto 6, 3) := by decide +kernel
theorem dL_play_11 : decode cL_play 11 = .ok (.astore_n 2, 1) := by decide +kernel
theorem dL_play_12 : decode cL_play 12 = .ok (.iconst 1, 1) := by decide +kernel
theorem dL_play_13 : decode cL_play 13 = .ok (.ireturn, 1) := by decide +kernel
theorem dL_play_14 : decode cL_play 14 = .ok (.iconst 0, 1) := by decide +kernel
theorem dL_play_15 : decode cL_play 15 = .ok (.ireturn, 1) := by decide +kernel
theorem dL_targetBy_0 : decode cL_targetBy 0 = .ok (.aload_n 2, 1) := by decide +kernel
theorem dL_targetBy_1 : decode cL_targetBy 1 = .ok (.iconst 0, 1) := by decide +kernel
theorem dL_targetBy_2 : decode cL_targetBy 2 = .ok (.aload_n 0, 1) := by decide +kernel
theorem dL_targetBy_3 : decode cL_targetBy 3 = .ok (.iload_n 1, 1) := by decide +kernel
theorem dL_targetBy_4 : decode cL_targetBy 4 = .ok (.invokevirtual 18, 3) := by decide +kernel
theorem dL_targetBy_7 : decode cL_targetBy 7 = .ok (.i2l, 1) := by decide +kernel
theorem dL_targetBy_8 : decode cL_targetBy 8 = .ok (.lastore, 1) := by decide +kernel
theorem dL_targetBy_9 : decode cL_targetBy 9 = .ok (.goto 6, 3) := by decide +kernel
theorem dL_targetBy_12 : decode cL_targetBy 12 = .ok (.astore_n 3, 1) := by decide +kernel
theorem dL_targetBy_13 : decode cL_targetBy 13 = .ok (.iconst 1, 1) := by decide +kernel
theorem dL_targetBy_14 : decode cL_targetBy 14 = .ok (.ireturn, 1) := by decide +kernel
theorem dL_targetBy_15 : decode cL_targetBy 15 = .ok (.iconst 0, 1) := by decide +kernel
theorem dL_targetBy_16 : decode cL_targetBy 16 = .ok (.ireturn, 1) := by decide +kernel
theorem dL_statusOf_0 : decode cL_statusOf 0 = .ok (.aload_n 2, 1) := by decide +kernel
theorem dL_statusOf_1 : decode cL_statusOf 1 = .ok (.iconst 0, 1) := by decide +kernel
theorem dL_statusOf_2 : decode cL_statusOf 2 = .ok (.aload_n 0, 1) := by decide +kernel
theorem dL_statusOf_3 : decode cL_statusOf 3 = .ok (.iload_n 1, 1) := by decide +kernel
theorem dL_statusOf_4 : decode cL_statusOf 4 = .ok (.invokevirtual 22, 3) := by decide +kernel
theorem dL_statusOf_7 : decode cL_statusOf 7 = .ok (.i2l, 1) := by decide +kernel
theorem dL_statusOf_8 : decode cL_statusOf 8 = .ok (.lastore, 1) := by decide +kernel
theorem dL_statusOf_9 : decode cL_statusOf 9 = .ok (.goto 6, 3) := by decide +kernel
theorem dL_statusOf_12 : decode cL_statusOf 12 = .ok (.astore_n 3, 1) := by decide +kernel
theorem dL_statusOf_13 : decode cL_statusOf 13 = .ok (.iconst 1, 1) := by decide +kernel
theorem dL_statusOf_14 : decode cL_statusOf 14 = .ok (.ireturn, 1) := by decide +kernel
theorem dL_statusOf_15 : decode cL_statusOf 15 = .ok (.iconst 0, 1) := by decide +kernel
theorem dL_statusOf_16 : decode cL_statusOf 16 = .ok (.ireturn, 1) := by decide +kernel
theorem dL_originOf_0 : decode cL_originOf 0 = .ok (.aload_n 2, 1) := by decide +kernel
theorem dL_originOf_1 : decode cL_originOf 1 = .ok (.iconst 0, 1) := by decide +kernel
theorem dL_originOf_2 : decode cL_originOf 2 = .ok (.aload_n 0, 1) := by decide +kernel
theorem dL_originOf_3 : decode cL_originOf 3 = .ok (.iload_n 1, 1) := by decide +kernel
theorem dL_originOf_4 : decode cL_originOf 4 = .ok (.invokevirtual 27, 3) := by decide +kernel
theorem dL_originOf_7 : decode cL_originOf 7 = .ok (.i2l, 1) := by decide +kernel
theorem dL_originOf_8 : decode cL_originOf 8 = .ok (.lastore, 1) := by decide +kernel
theorem dL_originOf_9 : decode cL_originOf 9 = .ok (.goto 6, 3) := by decide +kernel
theorem dL_originOf_12 : decode cL_originOf 12 = .ok (.astore_n 3, 1) := by decide +kernel
theorem dL_originOf_13 : decode cL_originOf 13 = .ok (.iconst 1, 1) := by decide +kernel
theorem dL_originOf_14 : decode cL_originOf 14 = .ok (.ireturn, 1) := by decide +kernel
theorem dL_originOf_15 : decode cL_originOf 15 = .ok (.iconst 0, 1) := by decide +kernel
theorem dL_originOf_16 : decode cL_originOf 16 = .ok (.ireturn, 1) := by decide +kernel
theorem dL_destinationOf_0 : decode cL_destinationOf 0 = .ok (.aload_n 2, 1) := by decide +kernel
theorem dL_destinationOf_1 : decode cL_destinationOf 1 = .ok (.iconst 0, 1) := by decide +kernel
theorem dL_destinationOf_2 : decode cL_destinationOf 2 = .ok (.aload_n 0, 1) := by decide +kernel
theorem dL_destinationOf_3 : decode cL_destinationOf 3 = .ok (.iload_n 1, 1) := by decide +kernel
theorem dL_destinationOf_4 : decode cL_destinationOf 4 = .ok (.invokevirtual 30, 3) := by decide +kernel
theorem dL_destinationOf_7 : decode cL_destinationOf 7 = .ok (.i2l, 1) := by decide +kernel
theorem dL_destinationOf_8 : decode cL_destinationOf 8 = .ok (.lastore, 1) := by decide +kernel
theorem dL_destinationOf_9 : decode cL_destinationOf 9 = .ok (.goto 6, 3) := by decide +kernel
theorem dL_destinationOf_12 : decode cL_destinationOf 12 = .ok (.astore_n 3, 1) := by decide +kernel
theorem dL_destinationOf_13 : decode cL_destinationOf 13 = .ok (.iconst 1, 1) := by decide +kernel
theorem dL_destinationOf_14 : decode cL_destinationOf 14 = .ok (.ireturn, 1) := by decide +kernel
theorem dL_destinationOf_15 : decode cL_destinationOf 15 = .ok (.iconst 0, 1) := by decide +kernel
theorem dL_destinationOf_16 : decode cL_destinationOf 16 = .ok (.ireturn, 1) := by decide +kernel
theorem dL_arrivalOf_0 : decode cL_arrivalOf 0 = .ok (.aload_n 2, 1) := by decide +kernel
theorem dL_arrivalOf_1 : decode cL_arrivalOf 1 = .ok (.iconst 0, 1) := by decide +kernel
theorem dL_arrivalOf_2 : decode cL_arrivalOf 2 = .ok (.aload_n 0, 1) := by decide +kernel
theorem dL_arrivalOf_3 : decode cL_arrivalOf 3 = .ok (.iload_n 1, 1) := by decide +kernel
theorem dL_arrivalOf_4 : decode cL_arrivalOf 4 = .ok (.invokevirtual 33, 3) := by decide +kernel
theorem dL_arrivalOf_7 : decode cL_arrivalOf 7 = .ok (.i2l, 1) := by decide +kernel
theorem dL_arrivalOf_8 : decode cL_arrivalOf 8 = .ok (.lastore, 1) := by decide +kernel
theorem dL_arrivalOf_9 : decode cL_arrivalOf 9 = .ok (.goto 6, 3) := by decide +kernel
theorem dL_arrivalOf_12 : decode cL_arrivalOf 12 = .ok (.astore_n 3, 1) := by decide +kernel
end
section
theorem dL_arrivalOf_13 : decode cL_arrivalOf 13 = .ok (.iconst 1, 1) := by decide +kernel
theorem dL_arrivalOf_14 : decode cL_arrivalOf 14 = .ok (.ireturn, 1) := by decide +kernel
theorem dL_arrivalOf_15 : decode cL_arrivalOf 15 = .ok (.iconst 0, 1) := by decide +kernel
theorem dL_arrivalOf_16 : decode cL_arrivalOf 16 = .ok (.ireturn, 1) := by decide +kernel
theorem dL_boardedAt_0 : decode cL_boardedAt 0 = .ok (.aload_n 2, 1) := by decide +kernel
theorem dL_boardedAt_1 : decode cL_boardedAt 1 = .ok (.iconst 0, 1) := by decide +kernel
theorem dL_boardedAt_2 : decode cL_boardedAt 2 = .ok (.aload_n 0, 1) := by decide +kernel
theorem dL_boardedAt_3 : decode cL_boardedAt 3 = .ok (.iload_n 1, 1) := by decide +kernel
theorem dL_boardedAt_4 : decode cL_boardedAt 4 = .ok (.invokevirtual 36, 3) := by decide +kernel
theorem dL_boardedAt_7 : decode cL_boardedAt 7 = .ok (.i2l, 1) := by decide +kernel
theorem dL_boardedAt_8 : decode cL_boardedAt 8 = .ok (.lastore, 1) := by decide +kernel
theorem dL_boardedAt_9 : decode cL_boardedAt 9 = .ok (.goto 6, 3) := by decide +kernel
theorem dL_boardedAt_12 : decode cL_boardedAt 12 = .ok (.astore_n 3, 1) := by decide +kernel
theorem dL_boardedAt_13 : decode cL_boardedAt 13 = .ok (.iconst 1, 1) := by decide +kernel
theorem dL_boardedAt_14 : decode cL_boardedAt 14 = .ok (.ireturn, 1) := by decide +kernel
theorem dL_boardedAt_15 : decode cL_boardedAt 15 = .ok (.iconst 0, 1) := by decide +kernel
theorem dL_boardedAt_16 : decode cL_boardedAt 16 = .ok (.ireturn, 1) := by decide +kernel
theorem dL_leftAt_0 : decode cL_leftAt 0 = .ok (.aload_n 2, 1) := by decide +kernel
theorem dL_leftAt_1 : decode cL_leftAt 1 = .ok (.iconst 0, 1) := by decide +kernel
theorem dL_leftAt_2 : decode cL_leftAt 2 = .ok (.aload_n 0, 1) := by decide +kernel
theorem dL_leftAt_3 : decode cL_leftAt 3 = .ok (.iload_n 1, 1) := by decide +kernel
theorem dL_leftAt_4 : decode cL_leftAt 4 = .ok (.invokevirtual 39, 3) := by decide +kernel
theorem dL_leftAt_7 : decode cL_leftAt 7 = .ok (.i2l, 1) := by decide +kernel
theorem dL_leftAt_8 : decode cL_leftAt 8 = .ok (.lastore, 1) := by decide +kernel
theorem dL_leftAt_9 : decode cL_leftAt 9 = .ok (.goto 6, 3) := by decide +kernel
theorem dL_leftAt_12 : decode cL_leftAt 12 = .ok (.astore_n 3, 1) := by decide +kernel
theorem dL_leftAt_13 : decode cL_leftAt 13 = .ok (.iconst 1, 1) := by decide +kernel
theorem dL_leftAt_14 : decode cL_leftAt 14 = .ok (.ireturn, 1) := by decide +kernel
theorem dL_leftAt_15 : decode cL_leftAt 15 = .ok (.iconst 0, 1) := by decide +kernel
theorem dL_leftAt_16 : decode cL_leftAt 16 = .ok (.ireturn, 1) := by decide +kernel
theorem dL_waitOf_0 : decode cL_waitOf 0 = .ok (.aload_n 2, 1) := by decide +kernel
theorem dL_waitOf_1 : decode cL_waitOf 1 = .ok (.iconst 0, 1) := by decide +kernel
theorem dL_waitOf_2 : decode cL_waitOf 2 = .ok (.aload_n 0, 1) := by decide +kernel
theorem dL_waitOf_3 : decode cL_waitOf 3 = .ok (.iload_n 1, 1) := by decide +kernel
theorem dL_waitOf_4 : decode cL_waitOf 4 = .ok (.invokevirtual 42, 3) := by decide +kernel
theorem dL_waitOf_7 : decode cL_waitOf 7 = .ok (.i2l, 1) := by decide +kernel
theorem dL_waitOf_8 : decode cL_waitOf 8 = .ok (.lastore, 1) := by decide +kernel
theorem dL_waitOf_9 : decode cL_waitOf 9 = .ok (.goto 6, 3) := by decide +kernel
theorem dL_waitOf_12 : decode cL_waitOf 12 = .ok (.astore_n 3, 1) := by decide +kernel
theorem dL_waitOf_13 : decode cL_waitOf 13 = .ok (.iconst 1, 1) := by decide +kernel
theorem dL_waitOf_14 : decode cL_waitOf 14 = .ok (.ireturn, 1) := by decide +kernel
theorem dL_waitOf_15 : decode cL_waitOf 15 = .ok (.iconst 0, 1) := by decide +kernel
theorem dL_waitOf_16 : decode cL_waitOf 16 = .ok (.ireturn, 1) := by decide +kernel
theorem dL_rideOf_0 : decode cL_rideOf 0 = .ok (.aload_n 2, 1) := by decide +kernel
theorem dL_rideOf_1 : decode cL_rideOf 1 = .ok (.iconst 0, 1) := by decide +kernel
theorem dL_rideOf_2 : decode cL_rideOf 2 = .ok (.aload_n 0, 1) := by decide +kernel
theorem dL_rideOf_3 : decode cL_rideOf 3 = .ok (.iload_n 1, 1) := by decide +kernel
theorem dL_rideOf_4 : decode cL_rideOf 4 = .ok (.invokevirtual 45, 3) := by decide +kernel
theorem dL_rideOf_7 : decode cL_rideOf 7 = .ok (.i2l, 1) := by decide +kernel
theorem dL_rideOf_8 : decode cL_rideOf 8 = .ok (.lastore, 1) := by decide +kernel
theorem dL_rideOf_9 : decode cL_rideOf 9 = .ok (.goto 6, 3) := by decide +kernel
theorem dL_rideOf_12 : decode cL_rideOf 12 = .ok (.astore_n 3, 1) := by decide +kernel
theorem dL_rideOf_13 : decode cL_rideOf 13 = .ok (.iconst 1, 1) := by decide +kernel
theorem dL_rideOf_14 : decode cL_rideOf 14 = .ok (.ireturn, 1) := by decide +kernel
theorem dL_rideOf_15 : decode cL_rideOf 15 = .ok (.iconst 0, 1) := by decide +kernel
theorem dL_rideOf_16 : decode cL_rideOf 16 = .ok (.ireturn, 1) := by decide +kernel
theorem dL_detourOf_0 : decode cL_detourOf 0 = .ok (.aload_n 2, 1) := by decide +kernel
theorem dL_detourOf_1 : decode cL_detourOf 1 = .ok (.iconst 0, 1) := by decide +kernel
theorem dL_detourOf_2 : decode cL_detourOf 2 = .ok (.aload_n 0, 1) := by decide +kernel
theorem dL_detourOf_3 : decode cL_detourOf 3 = .ok (.iload_n 1, 1) := by decide +kernel
theorem dL_detourOf_4 : decode cL_detourOf 4 = .ok (.invokevirtual 48, 3) := by decide +kernel
theorem dL_detourOf_7 : decode cL_detourOf 7 = .ok (.i2l, 1) := by decide +kernel
theorem dL_detourOf_8 : decode cL_detourOf 8 = .ok (.lastore, 1) := by decide +kernel
theorem dL_detourOf_9 : decode cL_detourOf 9 = .ok (.goto 6, 3) := by decide +kernel
theorem dL_detourOf_12 : decode cL_detourOf 12 = .ok (.astore_n 3, 1) := by decide +kernel
theorem dL_detourOf_13 : decode cL_detourOf 13 = .ok (.iconst 1, 1) := by decide +kernel
theorem dL_detourOf_14 : decode cL_detourOf 14 = .ok (.ireturn, 1) := by decide +kernel
theorem dL_detourOf_15 : decode cL_detourOf 15 = .ok (.iconst 0, 1) := by decide +kernel
theorem dL_detourOf_16 : decode cL_detourOf 16 = .ok (.ireturn, 1) := by decide +kernel
theorem dL_countStatus_0 : decode cL_countStatus 0 = .ok (.aload_n 2, 1) := by decide +kernel
theorem dL_countStatus_1 : decode cL_countStatus 1 = .ok (.iconst 0, 1) := by decide +kernel
theorem dL_countStatus_2 : decode cL_countStatus 2 = .ok (.aload_n 0, 1) := by decide +kernel
theorem dL_countStatus_3 : decode cL_countStatus 3 = .ok (.iload_n 1, 1) := by decide +kernel
theorem dL_countStatus_4 : decode cL_countStatus 4 = .ok (.invokevirtual 51, 3) := by decide +kernel
theorem dL_countStatus_7 : decode cL_countStatus 7 = .ok (.i2l, 1) := by decide +kernel
theorem dL_countStatus_8 : decode cL_countStatus 8 = .ok (.lastore, 1) := by decide +kernel
theorem dL_countStatus_9 : decode cL_countStatus 9 = .ok (.goto 6, 3) := by decide +kernel
theorem dL_countStatus_12 : decode cL_countStatus 12 = .ok (.astore_n 3, 1) := by decide +kernel
theorem dL_countStatus_13 : decode cL_countStatus 13 = .ok (.iconst 1, 1) := by decide +kernel
theorem dL_countStatus_14 : decode cL_countStatus 14 = .ok (.ireturn, 1) := by decide +kernel
theorem dL_countStatus_15 : decode cL_countStatus 15 = .ok (.iconst 0, 1) := by decide +kernel
theorem dL_countStatus_16 : decode cL_countStatus 16 = .ok (.ireturn, 1) := by decide +kernel
theorem dL_waitingAt_0 : decode cL_waitingAt 0 = .ok (.aload_n 2, 1) := by decide +kernel
theorem dL_waitingAt_1 : decode cL_waitingAt 1 = .ok (.iconst 0, 1) := by decide +kernel
theorem dL_waitingAt_2 : decode cL_waitingAt 2 = .ok (.aload_n 0, 1) := by decide +kernel
theorem dL_waitingAt_3 : decode cL_waitingAt 3 = .ok (.iload_n 1, 1) := by decide +kernel
theorem dL_waitingAt_4 : decode cL_waitingAt 4 = .ok (.invokevirtual 54, 3) := by decide +kernel
theorem dL_waitingAt_7 : decode cL_waitingAt 7 = .ok (.i2l, 1) := by decide +kernel
theorem dL_waitingAt_8 : decode cL_waitingAt 8 = .ok (.lastore, 1) := by decide +kernel
theorem dL_waitingAt_9 : decode cL_waitingAt 9 = .ok (.goto 6, 3) := by decide +kernel
theorem dL_waitingAt_12 : decode cL_waitingAt 12 = .ok (.astore_n 3, 1) := by decide +kernel
theorem dL_waitingAt_13 : decode cL_waitingAt 13 = .ok (.iconst 1, 1) := by decide +kernel
theorem dL_waitingAt_14 : decode cL_waitingAt 14 = .ok (.ireturn, 1) := by decide +kernel
theorem dL_waitingAt_15 : decode cL_waitingAt 15 = .ok (.iconst 0, 1) := by decide +kernel
theorem dL_waitingAt_16 : decode cL_waitingAt 16 = .ok (.ireturn, 1) := by decide +kernel
theorem dL_queueAt_0 : decode cL_queueAt 0 = .ok (.aload_n 3, 1) := by decide +kernel
theorem dL_queueAt_1 : decode cL_queueAt 1 = .ok (.iconst 0, 1) := by decide +kernel
theorem dL_queueAt_2 : decode cL_queueAt 2 = .ok (.aload_n 0, 1) := by decide +kernel
theorem dL_queueAt_3 : decode cL_queueAt 3 = .ok (.iload_n 1, 1) := by decide +kernel
theorem dL_queueAt_4 : decode cL_queueAt 4 = .ok (.iload_n 2, 1) := by decide +kernel
theorem dL_queueAt_5 : decode cL_queueAt 5 = .ok (.invokevirtual 57, 3) := by decide +kernel
theorem dL_queueAt_8 : decode cL_queueAt 8 = .ok (.i2l, 1) := by decide +kernel
theorem dL_queueAt_9 : decode cL_queueAt 9 = .ok (.lastore, 1) := by decide +kernel
theorem dL_queueAt_10 : decode cL_queueAt 10 = .ok (.goto 7, 3) := by decide +kernel
theorem dL_queueAt_13 : decode cL_queueAt 13 = .ok (.astore 4, 2) := by decide +kernel
theorem dL_queueAt_15 : decode cL_queueAt 15 = .ok (.iconst 1, 1) := by decide +kernel
theorem dL_queueAt_16 : decode cL_queueAt 16 = .ok (.ireturn, 1) := by decide +kernel
theorem dL_queueAt_17 : decode cL_queueAt 17 = .ok (.iconst 0, 1) := by decide +kernel
theorem dL_queueAt_18 : decode cL_queueAt 18 = .ok (.ireturn, 1) := by decide +kernel
theorem dL_ridingTo_0 : decode cL_ridingTo 0 = .ok (.aload_n 2, 1) := by decide +kernel
theorem dL_ridingTo_1 : decode cL_ridingTo 1 = .ok (.iconst 0, 1) := by decide +kernel
theorem dL_ridingTo_2 : decode cL_ridingTo 2 = .ok (.aload_n 0, 1) := by decide +kernel
theorem dL_ridingTo_3 : decode cL_ridingTo 3 = .ok (.iload_n 1, 1) := by decide +kernel
theorem dL_ridingTo_4 : decode cL_ridingTo 4 = .ok (.invokevirtual 61, 3) := by decide +kernel
theorem dL_ridingTo_7 : decode cL_ridingTo 7 = .ok (.i2l, 1) := by decide +kernel
theorem dL_ridingTo_8 : decode cL_ridingTo 8 = .ok (.lastore, 1) := by decide +kernel
theorem dL_ridingTo_9 : decode cL_ridingTo 9 = .ok (.goto 6, 3) := by decide +kernel
theorem dL_ridingTo_12 : decode cL_ridingTo 12 = .ok (.astore_n 3, 1) := by decide +kernel
theorem dL_ridingTo_13 : decode cL_ridingTo 13 = .ok (.iconst 1, 1) := by decide +kernel
theorem dL_ridingTo_14 : decode cL_ridingTo 14 = .ok (.ireturn, 1) := by decide +kernel
theorem dL_ridingTo_15 : decode cL_ridingTo 15 = .ok (.iconst 0, 1) := by decide +kernel
theorem dL_ridingTo_16 : decode cL_ridingTo 16 = .ok (.ireturn, 1) := by decide +kernel
theorem dL_passengersBetween_0 : decode cL_passengersBetween 0 = .ok (.aload_n 3, 1) := by decide +kernel
theorem dL_passengersBetween_1 : decode cL_passengersBetween 1 = .ok (.iconst 0, 1) := by decide +kernel
theorem dL_passengersBetween_2 : decode cL_passengersBetween 2 = .ok (.aload_n 0, 1) := by decide +kernel
theorem dL_passengersBetween_3 : decode cL_passengersBetween 3 = .ok (.iload_n 1, 1) := by decide +kernel
theorem dL_passengersBetween_4 : decode cL_passengersBetween 4 = .ok (.iload_n 2, 1) := by decide +kernel
theorem dL_passengersBetween_5 : decode cL_passengersBetween 5 = .ok (.invokevirtual 64, 3) := by decide +kernel
theorem dL_passengersBetween_8 : decode cL_passengersBetween 8 = .ok (.i2l, 1) := by decide +kernel
theorem dL_passengersBetween_9 : decode cL_passengersBetween 9 = .ok (.lastore, 1) := by decide +kernel
theorem dL_passengersBetween_10 : decode cL_passengersBetween 10 = .ok (.goto 7, 3) := by decide +kernel
theorem dL_passengersBetween_13 : decode cL_passengersBetween 13 = .ok (.astore 4, 2) := by decide +kernel
theorem dL_passengersBetween_15 : decode cL_passengersBetween 15 = .ok (.iconst 1, 1) := by decide +kernel
theorem dL_passengersBetween_16 : decode cL_passengersBetween 16 = .ok (.ireturn, 1) := by decide +kernel
theorem dL_passengersBetween_17 : decode cL_passengersBetween 17 = .ok (.iconst 0, 1) := by decide +kernel
theorem dL_passengersBetween_18 : decode cL_passengersBetween 18 = .ok (.ireturn, 1) := by decide +kernel
theorem dL_ticksWithPolicy_0 : decode cL_ticksWithPolicy 0 = .ok (.aload_n 2, 1) := by decide +kernel
theorem dL_ticksWithPolicy_1 : decode cL_ticksWithPolicy 1 = .ok (.iconst 0, 1) := by decide +kernel
theorem dL_ticksWithPolicy_2 : decode cL_ticksWithPolicy 2 = .ok (.aload_n 0, 1) := by decide +kernel
theorem dL_ticksWithPolicy_3 : decode cL_ticksWithPolicy 3 = .ok (.iload_n 1, 1) := by decide +kernel
theorem dL_ticksWithPolicy_4 : decode cL_ticksWithPolicy 4 = .ok (.invokevirtual 67, 3) := by decide +kernel
theorem dL_ticksWithPolicy_7 : decode cL_ticksWithPolicy 7 = .ok (.i2l, 1) := by decide +kernel
theorem dL_ticksWithPolicy_8 : decode cL_ticksWithPolicy 8 = .ok (.lastore, 1) := by decide +kernel
theorem dL_ticksWithPolicy_9 : decode cL_ticksWithPolicy 9 = .ok (.goto 6, 3) := by decide +kernel
theorem dL_ticksWithPolicy_12 : decode cL_ticksWithPolicy 12 = .ok (.astore_n 3, 1) := by decide +kernel
theorem dL_ticksWithPolicy_13 : decode cL_ticksWithPolicy 13 = .ok (.iconst 1, 1) := by decide +kernel
theorem dL_ticksWithPolicy_14 : decode cL_ticksWithPolicy 14 = .ok (.ireturn, 1) := by decide +kernel
theorem dL_ticksWithPolicy_15 : decode cL_ticksWithPolicy 15 = .ok (.iconst 0, 1) := by decide +kernel
theorem dL_ticksWithPolicy_16 : decode cL_ticksWithPolicy 16 = .ok (.ireturn, 1) := by decide +kernel
theorem dL_waitWithPolicy_0 : decode cL_waitWithPolicy 0 = .ok (.aload_n 2, 1) := by decide +kernel
theorem dL_waitWithPolicy_1 : decode cL_waitWithPolicy 1 = .ok (.iconst 0, 1) := by decide +kernel
theorem dL_waitWithPolicy_2 : decode cL_waitWithPolicy 2 = .ok (.aload_n 0, 1) := by decide +kernel
theorem dL_waitWithPolicy_3 : decode cL_waitWithPolicy 3 = .ok (.iload_n 1, 1) := by decide +kernel
theorem dL_waitWithPolicy_4 : decode cL_waitWithPolicy 4 = .ok (.invokevirtual 70, 3) := by decide +kernel
theorem dL_waitWithPolicy_7 : decode cL_waitWithPolicy 7 = .ok (.i2l, 1) := by decide +kernel
theorem dL_waitWithPolicy_8 : decode cL_waitWithPolicy 8 = .ok (.lastore, 1) := by decide +kernel
theorem dL_waitWithPolicy_9 : decode cL_waitWithPolicy 9 = .ok (.goto 6, 3) := by decide +kernel
theorem dL_waitWithPolicy_12 : decode cL_waitWithPolicy 12 = .ok (.astore_n 3, 1) := by decide +kernel
theorem dL_waitWithPolicy_13 : decode cL_waitWithPolicy 13 = .ok (.iconst 1, 1) := by decide +kernel
theorem dL_waitWithPolicy_14 : decode cL_waitWithPolicy 14 = .ok (.ireturn, 1) := by decide +kernel
theorem dL_waitWithPolicy_15 : decode cL_waitWithPolicy 15 = .ok (.iconst 0, 1) := by decide +kernel
theorem dL_waitWithPolicy_16 : decode cL_waitWithPolicy 16 = .ok (.ireturn, 1) := by decide +kernel
theorem dL_longestWaitWithPolicy_0 : decode cL_longestWaitWithPolicy 0 = .ok (.aload_n 2, 1) := by decide +kernel
theorem dL_longestWaitWithPolicy_1 : decode cL_longestWaitWithPolicy 1 = .ok (.iconst 0, 1) := by decide +kernel
theorem dL_longestWaitWithPolicy_2 : decode cL_longestWaitWithPolicy 2 = .ok (.aload_n 0, 1) := by decide +kernel
theorem dL_longestWaitWithPolicy_3 : decode cL_longestWaitWithPolicy 3 = .ok (.iload_n 1, 1) := by decide +kernel
theorem dL_longestWaitWithPolicy_4 : decode cL_longestWaitWithPolicy 4 = .ok (.invokevirtual 73, 3) := by decide +kernel
theorem dL_longestWaitWithPolicy_7 : decode cL_longestWaitWithPolicy 7 = .ok (.i2l, 1) := by decide +kernel
theorem dL_longestWaitWithPolicy_8 : decode cL_longestWaitWithPolicy 8 = .ok (.lastore, 1) := by decide +kernel
theorem dL_longestWaitWithPolicy_9 : decode cL_longestWaitWithPolicy 9 = .ok (.goto 6, 3) := by decide +kernel
theorem dL_longestWaitWithPolicy_12 : decode cL_longestWaitWithPolicy 12 = .ok (.astore_n 3, 1) := by decide +kernel
theorem dL_longestWaitWithPolicy_13 : decode cL_longestWaitWithPolicy 13 = .ok (.iconst 1, 1) := by decide +kernel
theorem dL_longestWaitWithPolicy_14 : decode cL_longestWaitWithPolicy 14 = .ok (.ireturn, 1) := by decide +kernel
theorem dL_longestWaitWithPolicy_15 : decode cL_longestWaitWithPolicy 15 = .ok (.iconst 0, 1) := by decide +kernel
theorem dL_longestWaitWithPolicy_16 : decode cL_longestWaitWithPolicy 16 = .ok (.ireturn, 1) := by decide +kernel
theorem dL_ticksWithCapacity_0 : decode cL_ticksWithCapacity 0 = .ok (.aload_n 2, 1) := by decide +kernel
theorem dL_ticksWithCapacity_1 : decode cL_ticksWithCapacity 1 = .ok (.iconst 0, 1) := by decide +kernel
theorem dL_ticksWithCapacity_2 : decode cL_ticksWithCapacity 2 = .ok (.aload_n 0, 1) := by decide +kernel
theorem dL_ticksWithCapacity_3 : decode cL_ticksWithCapacity 3 = .ok (.iload_n 1, 1) := by decide +kernel
theorem dL_ticksWithCapacity_4 : decode cL_ticksWithCapacity 4 = .ok (.invokevirtual 76, 3) := by decide +kernel
theorem dL_ticksWithCapacity_7 : decode cL_ticksWithCapacity 7 = .ok (.i2l, 1) := by decide +kernel
theorem dL_ticksWithCapacity_8 : decode cL_ticksWithCapacity 8 = .ok (.lastore, 1) := by decide +kernel
theorem dL_ticksWithCapacity_9 : decode cL_ticksWithCapacity 9 = .ok (.goto 9, 3) := by decide +kernel
theorem dL_ticksWithCapacity_12 : decode cL_ticksWithCapacity 12 = .ok (.astore_n 3, 1) := by decide +kernel
theorem dL_ticksWithCapacity_13 : decode cL_ticksWithCapacity 13 = .ok (.iconst 1, 1) := by decide +kernel
theorem dL_ticksWithCapacity_14 : decode cL_ticksWithCapacity 14 = .ok (.ireturn, 1) := by decide +kernel
theorem dL_ticksWithCapacity_15 : decode cL_ticksWithCapacity 15 = .ok (.astore_n 3, 1) := by decide +kernel
theorem dL_ticksWithCapacity_16 : decode cL_ticksWithCapacity 16 = .ok (.iconst 2, 1) := by decide +kernel
theorem dL_ticksWithCapacity_17 : decode cL_ticksWithCapacity 17 = .ok (.ireturn, 1) := by decide +kernel
theorem dL_ticksWithCapacity_18 : decode cL_ticksWithCapacity 18 = .ok (.iconst 0, 1) := by decide +kernel
theorem dL_ticksWithCapacity_19 : decode cL_ticksWithCapacity 19 = .ok (.ireturn, 1) := by decide +kernel
theorem dL_expectedAt_0 : decode cL_expectedAt 0 = .ok (.aload_n 2, 1) := by decide +kernel
theorem dL_expectedAt_1 : decode cL_expectedAt 1 = .ok (.iconst 0, 1) := by decide +kernel
theorem dL_expectedAt_2 : decode cL_expectedAt 2 = .ok (.aload_n 0, 1) := by decide +kernel
theorem dL_expectedAt_3 : decode cL_expectedAt 3 = .ok (.iload_n 1, 1) := by decide +kernel
theorem dL_expectedAt_4 : decode cL_expectedAt 4 = .ok (.invokevirtual 81, 3) := by decide +kernel
theorem dL_expectedAt_7 : decode cL_expectedAt 7 = .ok (.i2l, 1) := by decide +kernel
theorem dL_expectedAt_8 : decode cL_expectedAt 8 = .ok (.lastore, 1) := by decide +kernel
theorem dL_expectedAt_9 : decode cL_expectedAt 9 = .ok (.goto 6, 3) := by decide +kernel
theorem dL_expectedAt_12 : decode cL_expectedAt 12 = .ok (.astore_n 3, 1) := by decide +kernel
theorem dL_expectedAt_13 : decode cL_expectedAt 13 = .ok (.iconst 1, 1) := by decide +kernel
theorem dL_expectedAt_14 : decode cL_expectedAt 14 = .ok (.ireturn, 1) := by decide +kernel
theorem dL_expectedAt_15 : decode cL_expectedAt 15 = .ok (.iconst 0, 1) := by decide +kernel
theorem dL_expectedAt_16 : decode cL_expectedAt 16 = .ok (.ireturn, 1) := by decide +kernel
theorem dL_addPassenger_0 : decode cL_addPassenger 0 = .ok (.aload 4, 2) := by decide +kernel
theorem dL_addPassenger_2 : decode cL_addPassenger 2 = .ok (.iconst 0, 1) := by decide +kernel
theorem dL_addPassenger_3 : decode cL_addPassenger 3 = .ok (.aload_n 0, 1) := by decide +kernel
theorem dL_addPassenger_4 : decode cL_addPassenger 4 = .ok (.iload_n 1, 1) := by decide +kernel
theorem dL_addPassenger_5 : decode cL_addPassenger 5 = .ok (.iload_n 2, 1) := by decide +kernel
theorem dL_addPassenger_6 : decode cL_addPassenger 6 = .ok (.iload_n 3, 1) := by decide +kernel
theorem dL_addPassenger_7 : decode cL_addPassenger 7 = .ok (.invokevirtual 84, 3) := by decide +kernel
theorem dL_addPassenger_10 : decode cL_addPassenger 10 = .ok (.i2l, 1) := by decide +kernel
theorem dL_addPassenger_11 : decode cL_addPassenger 11 = .ok (.lastore, 1) := by decide +kernel
theorem dL_addPassenger_12 : decode cL_addPassenger 12 = .ok (.goto 15, 3) := by decide +kernel
theorem dL_addPassenger_15 : decode cL_addPassenger 15 = .ok (.astore 5, 2) := by decide +kernel
theorem dL_addPassenger_17 : decode cL_addPassenger 17 = .ok (.iconst 1, 1) := by decide +kernel
theorem dL_addPassenger_18 : decode cL_addPassenger 18 = .ok (.ireturn, 1) := by decide +kernel
theorem dL_addPassenger_19 : decode cL_addPassenger 19 = .ok (.astore 5, 2) := by decide +kernel
theorem dL_addPassenger_21 : decode cL_addPassenger 21 = .ok (.iconst 2, 1) := by decide +kernel
theorem dL_addPassenger_22 : decode cL_addPassenger 22 = .ok (.ireturn, 1) := by decide +kernel
theorem dL_addPassenger_23 : decode cL_addPassenger 23 = .ok (.astore 5, 2) := by decide +kernel
theorem dL_addPassenger_25 : decode cL_addPassenger 25 = .ok (.iconst 3, 1) := by decide +kernel
theorem dL_addPassenger_26 : decode cL_addPassenger 26 = .ok (.ireturn, 1) := by decide +kernel
theorem dL_addPassenger_27 : decode cL_addPassenger 27 = .ok (.iconst 0, 1) := by decide +kernel
theorem dL_addPassenger_28 : decode cL_addPassenger 28 = .ok (.ireturn, 1) := by decide +kernel
theorem dL_run_0 : decode cL_run 0 = .ok (.aload_n 2, 1) := by decide +kernel
theorem dL_run_1 : decode cL_run 1 = .ok (.iconst 0, 1) := by decide +kernel
theorem dL_run_2 : decode cL_run 2 = .ok (.aload_n 0, 1) := by decide +kernel
theorem dL_run_3 : decode cL_run 3 = .ok (.iload_n 1, 1) := by decide +kernel
theorem dL_run_4 : decode cL_run 4 = .ok (.invokevirtual 88, 3) := by decide +kernel
theorem dL_run_7 : decode cL_run 7 = .ok (.i2l, 1) := by decide +kernel
theorem dL_run_8 : decode cL_run 8 = .ok (.lastore, 1) := by decide +kernel
theorem dL_run_9 : decode cL_run 9 = .ok (.goto 9, 3) := by decide +kernel
theorem dL_run_12 : decode cL_run 12 = .ok (.astore_n 3, 1) := by decide +kernel
theorem dL_run_13 : decode cL_run 13 = .ok (.iconst 1, 1) := by decide +kernel
theorem dL_run_14 : decode cL_run 14 = .ok (.ireturn, 1) := by decide +kernel
theorem dL_run_15 : decode cL_run 15 = .ok (.astore_n 3, 1) := by decide +kernel
theorem dL_run_16 : decode cL_run 16 = .ok (.iconst 2, 1) := by decide +kernel
theorem dL_run_17 : decode cL_run 17 = .ok (.ireturn, 1) := by decide +kernel
theorem dL_run_18 : decode cL_run 18 = .ok (.iconst 0, 1) := by decide +kernel
theorem dL_run_19 : decode cL_run 19 = .ok (.ireturn, 1) := by decide +kernel
theorem dL_setPolicy_0 : decode cL_setPolicy 0 = .ok (.aload_n 2, 1) := by decide +kernel
theorem dL_setPolicy_1 : decode cL_setPolicy 1 = .ok (.iconst 0, 1) := by decide +kernel
theorem dL_setPolicy_2 : decode cL_setPolicy 2 = .ok (.aload_n 0, 1) := by decide +kernel
theorem dL_setPolicy_3 : decode cL_setPolicy 3 = .ok (.iload_n 1, 1) := by decide +kernel
theorem dL_setPolicy_4 : decode cL_setPolicy 4 = .ok (.invokevirtual 91, 3) := by decide +kernel
theorem dL_setPolicy_7 : decode cL_setPolicy 7 = .ok (.i2l, 1) := by decide +kernel
theorem dL_setPolicy_8 : decode cL_setPolicy 8 = .ok (.lastore, 1) := by decide +kernel
theorem dL_setPolicy_9 : decode cL_setPolicy 9 = .ok (.goto 6, 3) := by decide +kernel
theorem dL_setPolicy_12 : decode cL_setPolicy 12 = .ok (.astore_n 3, 1) := by decide +kernel
theorem dL_setPolicy_13 : decode cL_setPolicy 13 = .ok (.iconst 1, 1) := by decide +kernel
theorem dL_setPolicy_14 : decode cL_setPolicy 14 = .ok (.ireturn, 1) := by decide +kernel
theorem dL_setPolicy_15 : decode cL_setPolicy 15 = .ok (.iconst 0, 1) := by decide +kernel
theorem dL_setPolicy_16 : decode cL_setPolicy 16 = .ok (.ireturn, 1) := by decide +kernel
theorem dL_setCapacity_0 : decode cL_setCapacity 0 = .ok (.aload_n 2, 1) := by decide +kernel
theorem dL_setCapacity_1 : decode cL_setCapacity 1 = .ok (.iconst 0, 1) := by decide +kernel
theorem dL_setCapacity_2 : decode cL_setCapacity 2 = .ok (.aload_n 0, 1) := by decide +kernel
theorem dL_setCapacity_3 : decode cL_setCapacity 3 = .ok (.iload_n 1, 1) := by decide +kernel
theorem dL_setCapacity_4 : decode cL_setCapacity 4 = .ok (.invokevirtual 94, 3) := by decide +kernel
theorem dL_setCapacity_7 : decode cL_setCapacity 7 = .ok (.i2l, 1) := by decide +kernel
theorem dL_setCapacity_8 : decode cL_setCapacity 8 = .ok (.lastore, 1) := by decide +kernel
theorem dL_setCapacity_9 : decode cL_setCapacity 9 = .ok (.goto 9, 3) := by decide +kernel
theorem dL_setCapacity_12 : decode cL_setCapacity 12 = .ok (.astore_n 3, 1) := by decide +kernel
theorem dL_setCapacity_13 : decode cL_setCapacity 13 = .ok (.iconst 1, 1) := by decide +kernel
theorem dL_setCapacity_14 : decode cL_setCapacity 14 = .ok (.ireturn, 1) := by decide +kernel
theorem dL_setCapacity_15 : decode cL_setCapacity 15 = .ok (.astore_n 3, 1) := by decide +kernel
theorem dL_setCapacity_16 : decode cL_setCapacity 16 = .ok (.iconst 2, 1) := by decide +kernel
theorem dL_setCapacity_17 : decode cL_setCapacity 17 = .ok (.ireturn, 1) := by decide +kernel
theorem dL_setCapacity_18 : decode cL_setCapacity 18 = .ok (.iconst 0, 1) := by decide +kernel
theorem dL_setCapacity_19 : decode cL_setCapacity 19 = .ok (.ireturn, 1) := by decide +kernel
theorem dL_undo_0 : decode cL_undo 0 = .ok (.aload_n 1, 1) := by decide +kernel
theorem dL_undo_1 : decode cL_undo 1 = .ok (.iconst 0, 1) := by decide +kernel
theorem dL_undo_2 : decode cL_undo 2 = .ok (.aload_n 0, 1) := by decide +kernel
theorem dL_undo_3 : decode cL_undo 3 = .ok (.invokevirtual 97, 3) := by decide +kernel
theorem dL_undo_6 : decode cL_undo 6 = .ok (.i2l, 1) := by decide +kernel
theorem dL_undo_7 : decode cL_undo 7 = .ok (.lastore, 1) := by decide +kernel
theorem dL_undo_8 : decode cL_undo 8 = .ok (.goto 6, 3) := by decide +kernel
theorem dL_undo_11 : decode cL_undo 11 = .ok (.astore_n 2, 1) := by decide +kernel
theorem dL_undo_12 : decode cL_undo 12 = .ok (.iconst 1, 1) := by decide +kernel
theorem dL_undo_13 : decode cL_undo 13 = .ok (.ireturn, 1) := by decide +kernel
theorem dL_undo_14 : decode cL_undo 14 = .ok (.iconst 0, 1) := by decide +kernel
theorem dL_undo_15 : decode cL_undo 15 = .ok (.ireturn, 1) := by decide +kernel
theorem dL_save_0 : decode cL_save 0 = .ok (.aload_n 2, 1) := by decide +kernel
theorem dL_save_1 : decode cL_save 1 = .ok (.iconst 0, 1) := by decide +kernel
theorem dL_save_2 : decode cL_save 2 = .ok (.aload_n 0, 1) := by decide +kernel
theorem dL_save_3 : decode cL_save 3 = .ok (.iload_n 1, 1) := by decide +kernel
theorem dL_save_4 : decode cL_save 4 = .ok (.invokevirtual 100, 3) := by decide +kernel
theorem dL_save_7 : decode cL_save 7 = .ok (.ifCond .eq 7, 3) := by decide +kernel
theorem dL_save_10 : decode cL_save 10 = .ok (.lconst 1, 1) := by decide +kernel
theorem dL_save_11 : decode cL_save 11 = .ok (.goto 4, 3) := by decide +kernel
theorem dL_save_14 : decode cL_save 14 = .ok (.lconst 0, 1) := by decide +kernel
theorem dL_save_15 : decode cL_save 15 = .ok (.lastore, 1) := by decide +kernel
theorem dL_save_16 : decode cL_save 16 = .ok (.goto 6, 3) := by decide +kernel
theorem dL_save_19 : decode cL_save 19 = .ok (.astore_n 3, 1) := by decide +kernel
theorem dL_save_20 : decode cL_save 20 = .ok (.iconst 1, 1) := by decide +kernel
theorem dL_save_21 : decode cL_save 21 = .ok (.ireturn, 1) := by decide +kernel
theorem dL_save_22 : decode cL_save 22 = .ok (.iconst 0, 1) := by decide +kernel
theorem dL_save_23 : decode cL_save 23 = .ok (.ireturn, 1) := by decide +kernel
theorem dL_restore_0 : decode cL_restore 0 = .ok (.aload_n 2, 1) := by decide +kernel
theorem dL_restore_1 : decode cL_restore 1 = .ok (.iconst 0, 1) := by decide +kernel
theorem dL_restore_2 : decode cL_restore 2 = .ok (.aload_n 0, 1) := by decide +kernel
theorem dL_restore_3 : decode cL_restore 3 = .ok (.iload_n 1, 1) := by decide +kernel
theorem dL_restore_4 : decode cL_restore 4 = .ok (.invokevirtual 104, 3) := by decide +kernel
theorem dL_restore_7 : decode cL_restore 7 = .ok (.i2l, 1) := by decide +kernel
theorem dL_restore_8 : decode cL_restore 8 = .ok (.lastore, 1) := by decide +kernel
theorem dL_restore_9 : decode cL_restore 9 = .ok (.goto 9, 3) := by decide +kernel
theorem dL_restore_12 : decode cL_restore 12 = .ok (.astore_n 3, 1) := by decide +kernel
theorem dL_restore_13 : decode cL_restore 13 = .ok (.iconst 1, 1) := by decide +kernel
theorem dL_restore_14 : decode cL_restore 14 = .ok (.ireturn, 1) := by decide +kernel
theorem dL_restore_15 : decode cL_restore 15 = .ok (.astore_n 3, 1) := by decide +kernel
theorem dL_restore_16 : decode cL_restore 16 = .ok (.iconst 2, 1) := by decide +kernel
theorem dL_restore_17 : decode cL_restore 17 = .ok (.ireturn, 1) := by decide +kernel
theorem dL_restore_18 : decode cL_restore 18 = .ok (.iconst 0, 1) := by decide +kernel
theorem dL_restore_19 : decode cL_restore 19 = .ok (.ireturn, 1) := by decide +kernel
theorem dL_law_0 : decode cL_law 0 = .ok (.new 8, 3) := by decide +kernel
theorem dL_law_3 : decode cL_law 3 = .ok (.dup, 1) := by decide +kernel
theorem dL_law_4 : decode cL_law 4 = .ok (.invokespecial 107, 3) := by decide +kernel
theorem dL_law_7 : decode cL_law 7 = .ok (.astore_n 1, 1) := by decide +kernel
theorem dL_law_8 : decode cL_law 8 = .ok (.new 108, 3) := by decide +kernel
theorem dL_law_11 : decode cL_law 11 = .ok (.dup, 1) := by decide +kernel
theorem dL_law_12 : decode cL_law 12 = .ok (.invokespecial 110, 3) := by decide +kernel
theorem dL_law_15 : decode cL_law 15 = .ok (.astore_n 2, 1) := by decide +kernel
theorem dL_law_16 : decode cL_law 16 = .ok (.iconst 1, 1) := by decide +kernel
theorem dL_law_17 : decode cL_law 17 = .ok (.newarray .long, 2) := by decide +kernel
theorem dL_law_19 : decode cL_law 19 = .ok (.astore_n 3, 1) := by decide +kernel
theorem dL_law_20 : decode cL_law 20 = .ok (.iconst 0, 1) := by decide +kernel
theorem dL_law_21 : decode cL_law 21 = .ok (.istore 4, 2) := by decide +kernel
theorem dL_law_23 : decode cL_law 23 = .ok (.iload 4, 2) := by decide +kernel
theorem dL_law_25 : decode cL_law 25 = .ok (.aload_n 0, 1) := by decide +kernel
theorem dL_law_26 : decode cL_law 26 = .ok (.arraylength, 1) := by decide +kernel
theorem dL_law_27 : decode cL_law 27 = .ok (.bipush 6, 2) := by decide +kernel
theorem dL_law_29 : decode cL_law 29 = .ok (.isub, 1) := by decide +kernel
theorem dL_law_30 : decode cL_law 30 = .ok (.if_icmp .gt 2528, 3) := by decide +kernel
theorem dL_law_33 : decode cL_law 33 = .ok (.aload_n 0, 1) := by decide +kernel
theorem dL_law_34 : decode cL_law 34 = .ok (.iload 4, 2) := by decide +kernel
theorem dL_law_36 : decode cL_law 36 = .ok (.iaload, 1) := by decide +kernel
theorem dL_law_37 : decode cL_law 37 = .ok (.bipush 63, 2) := by decide +kernel
theorem dL_law_39 : decode cL_law 39 = .ok (.iand, 1) := by decide +kernel
theorem dL_law_40 : decode cL_law 40 = .ok (.tableswitch 2512 0 63 #[272, 345, 370, 414, 458, 471, 484, 497, 510, 523, 536, 549, 562, 575, 588, 644, 657, 670, 683, 696, 709, 765, 821, 877, 933, 989, 1045, 1101, 1157, 1213, 1269, 1325, 1393, 1406, 1462, 1475, 1543, 1556, 1569, 1582, 1595, 1638, 1651, 1664, 1705, 1718, 1731, 1787, 1843, 1899, 1912, 1968, 2024, 2104, 2160, 2173, 2229, 2285, 2329, 2342, 2405, 2461, 2474, 2487], 272) := by decide +kernel
theorem dL_law_312 : decode cL_law 312 = .ok (.aload_n 1, 1) := by decide +kernel
theorem dL_law_313 : decode cL_law 313 = .ok (.aload_n 0, 1) := by decide +kernel
theorem dL_law_314 : decode cL_law 314 = .ok (.iload 4, 2) := by decide +kernel
theorem dL_law_316 : decode cL_law 316 = .ok (.iconst 1, 1) := by decide +kernel
theorem dL_law_317 : decode cL_law 317 = .ok (.iadd, 1) := by decide +kernel
theorem dL_law_318 : decode cL_law 318 = .ok (.iaload, 1) := by decide +kernel
theorem dL_law_319 : decode cL_law 319 = .ok (.aload_n 0, 1) := by decide +kernel
theorem dL_law_320 : decode cL_law 320 = .ok (.iload 4, 2) := by decide +kernel
theorem dL_law_322 : decode cL_law 322 = .ok (.iconst 2, 1) := by decide +kernel
theorem dL_law_323 : decode cL_law 323 = .ok (.iadd, 1) := by decide +kernel
theorem dL_law_324 : decode cL_law 324 = .ok (.iaload, 1) := by decide +kernel
theorem dL_law_325 : decode cL_law 325 = .ok (.aload_n 0, 1) := by decide +kernel
theorem dL_law_326 : decode cL_law 326 = .ok (.iload 4, 2) := by decide +kernel
theorem dL_law_328 : decode cL_law 328 = .ok (.iconst 3, 1) := by decide +kernel
theorem dL_law_329 : decode cL_law 329 = .ok (.iadd, 1) := by decide +kernel
theorem dL_law_330 : decode cL_law 330 = .ok (.iaload, 1) := by decide +kernel
theorem dL_law_331 : decode cL_law 331 = .ok (.aload_n 0, 1) := by decide +kernel
theorem dL_law_332 : decode cL_law 332 = .ok (.iload 4, 2) := by decide +kernel
theorem dL_law_334 : decode cL_law 334 = .ok (.iconst 4, 1) := by decide +kernel
theorem dL_law_335 : decode cL_law 335 = .ok (.iadd, 1) := by decide +kernel
theorem dL_law_336 : decode cL_law 336 = .ok (.iaload, 1) := by decide +kernel
theorem dL_law_337 : decode cL_law 337 = .ok (.aload_n 0, 1) := by decide +kernel
theorem dL_law_338 : decode cL_law 338 = .ok (.iload 4, 2) := by decide +kernel
theorem dL_law_340 : decode cL_law 340 = .ok (.iconst 5, 1) := by decide +kernel
theorem dL_law_341 : decode cL_law 341 = .ok (.iadd, 1) := by decide +kernel
theorem dL_law_342 : decode cL_law 342 = .ok (.iaload, 1) := by decide +kernel
theorem dL_law_343 : decode cL_law 343 = .ok (.invokevirtual 111, 3) := by decide +kernel
theorem dL_law_346 : decode cL_law 346 = .ok (.aload_n 2, 1) := by decide +kernel
theorem dL_law_347 : decode cL_law 347 = .ok (.aload_n 0, 1) := by decide +kernel
theorem dL_law_348 : decode cL_law 348 = .ok (.iload 4, 2) := by decide +kernel
theorem dL_law_350 : decode cL_law 350 = .ok (.iconst 1, 1) := by decide +kernel
theorem dL_law_351 : decode cL_law 351 = .ok (.iadd, 1) := by decide +kernel
theorem dL_law_352 : decode cL_law 352 = .ok (.iaload, 1) := by decide +kernel
theorem dL_law_353 : decode cL_law 353 = .ok (.aload_n 0, 1) := by decide +kernel
theorem dL_law_354 : decode cL_law 354 = .ok (.iload 4, 2) := by decide +kernel
theorem dL_law_356 : decode cL_law 356 = .ok (.iconst 2, 1) := by decide +kernel
theorem dL_law_357 : decode cL_law 357 = .ok (.iadd, 1) := by decide +kernel
theorem dL_law_358 : decode cL_law 358 = .ok (.iaload, 1) := by decide +kernel
theorem dL_law_359 : decode cL_law 359 = .ok (.aload_n 0, 1) := by decide +kernel
theorem dL_law_360 : decode cL_law 360 = .ok (.iload 4, 2) := by decide +kernel
theorem dL_law_362 : decode cL_law 362 = .ok (.iconst 3, 1) := by decide +kernel
theorem dL_law_363 : decode cL_law 363 = .ok (.iadd, 1) := by decide +kernel
theorem dL_law_364 : decode cL_law 364 = .ok (.iaload, 1) := by decide +kernel
theorem dL_law_365 : decode cL_law 365 = .ok (.aload_n 0, 1) := by decide +kernel
theorem dL_law_366 : decode cL_law 366 = .ok (.iload 4, 2) := by decide +kernel
theorem dL_law_368 : decode cL_law 368 = .ok (.iconst 4, 1) := by decide +kernel
theorem dL_law_369 : decode cL_law 369 = .ok (.iadd, 1) := by decide +kernel
theorem dL_law_370 : decode cL_law 370 = .ok (.iaload, 1) := by decide +kernel
theorem dL_law_371 : decode cL_law 371 = .ok (.aload_n 0, 1) := by decide +kernel
theorem dL_law_372 : decode cL_law 372 = .ok (.iload 4, 2) := by decide +kernel
theorem dL_law_374 : decode cL_law 374 = .ok (.iconst 5, 1) := by decide +kernel
theorem dL_law_375 : decode cL_law 375 = .ok (.iadd, 1) := by decide +kernel
theorem dL_law_376 : decode cL_law 376 = .ok (.iaload, 1) := by decide +kernel
theorem dL_law_377 : decode cL_law 377 = .ok (.invokevirtual 115, 3) := by decide +kernel
theorem dL_law_380 : decode cL_law 380 = .ok (.if_icmp .eq 2172, 3) := by decide +kernel
theorem dL_law_383 : decode cL_law 383 = .ok (.iconst 0, 1) := by decide +kernel
theorem dL_law_384 : decode cL_law 384 = .ok (.ireturn, 1) := by decide +kernel
theorem dL_law_385 : decode cL_law 385 = .ok (.aload_n 1, 1) := by decide +kernel
theorem dL_law_386 : decode cL_law 386 = .ok (.aload_n 0, 1) := by decide +kernel
theorem dL_law_387 : decode cL_law 387 = .ok (.iload 4, 2) := by decide +kernel
theorem dL_law_389 : decode cL_law 389 = .ok (.iconst 1, 1) := by decide +kernel
theorem dL_law_390 : decode cL_law 390 = .ok (.iadd, 1) := by decide +kernel
theorem dL_law_391 : decode cL_law 391 = .ok (.iaload, 1) := by decide +kernel
theorem dL_law_392 : decode cL_law 392 = .ok (.invokevirtual 116, 3) := by decide +kernel
theorem dL_law_395 : decode cL_law 395 = .ok (.aload_n 2, 1) := by decide +kernel
theorem dL_law_396 : decode cL_law 396 = .ok (.aload_n 0, 1) := by decide +kernel
theorem dL_law_397 : decode cL_law 397 = .ok (.iload 4, 2) := by decide +kernel
theorem dL_law_399 : decode cL_law 399 = .ok (.iconst 1, 1) := by decide +kernel
theorem dL_law_400 : decode cL_law 400 = .ok (.iadd, 1) := by decide +kernel
theorem dL_law_401 : decode cL_law 401 = .ok (.iaload, 1) := by decide +kernel
theorem dL_law_402 : decode cL_law 402 = .ok (.invokevirtual 119, 3) := by decide +kernel
theorem dL_law_405 : decode cL_law 405 = .ok (.if_icmp .eq 2147, 3) := by decide +kernel
theorem dL_law_408 : decode cL_law 408 = .ok (.iconst 0, 1) := by decide +kernel
theorem dL_law_409 : decode cL_law 409 = .ok (.ireturn, 1) := by decide +kernel
theorem dL_law_410 : decode cL_law 410 = .ok (.aload_n 1, 1) := by decide +kernel
theorem dL_law_411 : decode cL_law 411 = .ok (.aload_n 3, 1) := by decide +kernel
theorem dL_law_412 : decode cL_law 412 = .ok (.invokestatic 120, 3) := by decide +kernel
theorem dL_law_415 : decode cL_law 415 = .ok (.istore 5, 2) := by decide +kernel
theorem dL_law_417 : decode cL_law 417 = .ok (.aload_n 2, 1) := by decide +kernel
theorem dL_law_418 : decode cL_law 418 = .ok (.invokevirtual 125, 3) := by decide +kernel
theorem dL_law_421 : decode cL_law 421 = .ok (.istore 6, 2) := by decide +kernel
theorem dL_law_423 : decode cL_law 423 = .ok (.aload_n 2, 1) := by decide +kernel
theorem dL_law_424 : decode cL_law 424 = .ok (.invokevirtual 126, 3) := by decide +kernel
theorem dL_law_427 : decode cL_law 427 = .ok (.iload 5, 2) := by decide +kernel
theorem dL_law_429 : decode cL_law 429 = .ok (.if_icmp .eq 5, 3) := by decide +kernel
theorem dL_law_432 : decode cL_law 432 = .ok (.iconst 0, 1) := by decide +kernel
theorem dL_law_433 : decode cL_law 433 = .ok (.ireturn, 1) := by decide +kernel
theorem dL_law_434 : decode cL_law 434 = .ok (.iload 5, 2) := by decide +kernel
theorem dL_law_436 : decode cL_law 436 = .ok (.ifCond .ne 15, 3) := by decide +kernel
theorem dL_law_439 : decode cL_law 439 = .ok (.aload_n 3, 1) := by decide +kernel
theorem dL_law_440 : decode cL_law 440 = .ok (.iconst 0, 1) := by decide +kernel
theorem dL_law_441 : decode cL_law 441 = .ok (.laload, 1) := by decide +kernel
theorem dL_law_442 : decode cL_law 442 = .ok (.iload 6, 2) := by decide +kernel
theorem dL_law_444 : decode cL_law 444 = .ok (.i2l, 1) := by decide +kernel
theorem dL_law_445 : decode cL_law 445 = .ok (.lcmp, 1) := by decide +kernel
theorem dL_law_446 : decode cL_law 446 = .ok (.ifCond .eq 5, 3) := by decide +kernel
theorem dL_law_449 : decode cL_law 449 = .ok (.iconst 0, 1) := by decide +kernel
theorem dL_law_450 : decode cL_law 450 = .ok (.ireturn, 1) := by decide +kernel
theorem dL_law_451 : decode cL_law 451 = .ok (.goto 2101, 3) := by decide +kernel
theorem dL_law_454 : decode cL_law 454 = .ok (.aload_n 1, 1) := by decide +kernel
theorem dL_law_455 : decode cL_law 455 = .ok (.aload_n 3, 1) := by decide +kernel
theorem dL_law_456 : decode cL_law 456 = .ok (.invokestatic 129, 3) := by decide +kernel
theorem dL_law_459 : decode cL_law 459 = .ok (.istore 5, 2) := by decide +kernel
theorem dL_law_461 : decode cL_law 461 = .ok (.aload_n 2, 1) := by decide +kernel
theorem dL_law_462 : decode cL_law 462 = .ok (.invokevirtual 131, 3) := by decide +kernel
theorem dL_law_465 : decode cL_law 465 = .ok (.istore 6, 2) := by decide +kernel
theorem dL_law_467 : decode cL_law 467 = .ok (.aload_n 2, 1) := by decide +kernel
theorem dL_law_468 : decode cL_law 468 = .ok (.invokevirtual 126, 3) := by decide +kernel
theorem dL_law_471 : decode cL_law 471 = .ok (.iload 5, 2) := by decide +kernel
theorem dL_law_473 : decode cL_law 473 = .ok (.if_icmp .eq 5, 3) := by decide +kernel
theorem dL_law_476 : decode cL_law 476 = .ok (.iconst 0, 1) := by decide +kernel
theorem dL_law_477 : decode cL_law 477 = .ok (.ireturn, 1) := by decide +kernel
theorem dL_law_478 : decode cL_law 478 = .ok (.iload 5, 2) := by decide +kernel
theorem dL_law_480 : decode cL_law 480 = .ok (.ifCond .ne 15, 3) := by decide +kernel
theorem dL_law_483 : decode cL_law 483 = .ok (.aload_n 3, 1) := by decide +kernel
theorem dL_law_484 : decode cL_law 484 = .ok (.iconst 0, 1) := by decide +kernel
theorem dL_law_485 : decode cL_law 485 = .ok (.laload, 1) := by decide +kernel
theorem dL_law_486 : decode cL_law 486 = .ok (.iload 6, 2) := by decide +kernel
theorem dL_law_488 : decode cL_law 488 = .ok (.i2l, 1) := by decide +kernel
theorem dL_law_489 : decode cL_law 489 = .ok (.lcmp, 1) := by decide +kernel
theorem dL_law_490 : decode cL_law 490 = .ok (.ifCond .eq 5, 3) := by decide +kernel
theorem dL_law_493 : decode cL_law 493 = .ok (.iconst 0, 1) := by decide +kernel
theorem dL_law_494 : decode cL_law 494 = .ok (.ireturn, 1) := by decide +kernel
theorem dL_law_495 : decode cL_law 495 = .ok (.goto 2057, 3) := by decide +kernel
theorem dL_law_498 : decode cL_law 498 = .ok (.aload_n 1, 1) := by decide +kernel
theorem dL_law_499 : decode cL_law 499 = .ok (.invokevirtual 132, 3) := by decide +kernel
theorem dL_law_502 : decode cL_law 502 = .ok (.aload_n 2, 1) := by decide +kernel
theorem dL_law_503 : decode cL_law 503 = .ok (.invokevirtual 135, 3) := by decide +kernel
theorem dL_law_506 : decode cL_law 506 = .ok (.if_icmp .eq 2046, 3) := by decide +kernel
theorem dL_law_509 : decode cL_law 509 = .ok (.iconst 0, 1) := by decide +kernel
theorem dL_law_510 : decode cL_law 510 = .ok (.ireturn, 1) := by decide +kernel
theorem dL_law_511 : decode cL_law 511 = .ok (.aload_n 1, 1) := by decide +kernel
theorem dL_law_512 : decode cL_law 512 = .ok (.invokevirtual 136, 3) := by decide +kernel
theorem dL_law_515 : decode cL_law 515 = .ok (.aload_n 2, 1) := by decide +kernel
theorem dL_law_516 : decode cL_law 516 = .ok (.invokevirtual 139, 3) := by decide +kernel
theorem dL_law_519 : decode cL_law 519 = .ok (.if_icmp .eq 2033, 3) := by decide +kernel
theorem dL_law_522 : decode cL_law 522 = .ok (.iconst 0, 1) := by decide +kernel
theorem dL_law_523 : decode cL_law 523 = .ok (.ireturn, 1) := by decide +kernel
theorem dL_law_524 : decode cL_law 524 = .ok (.aload_n 1, 1) := by decide +kernel
theorem dL_law_525 : decode cL_law 525 = .ok (.invokevirtual 140, 3) := by decide +kernel
theorem dL_law_528 : decode cL_law 528 = .ok (.aload_n 2, 1) := by decide +kernel
theorem dL_law_529 : decode cL_law 529 = .ok (.invokevirtual 143, 3) := by decide +kernel
theorem dL_law_532 : decode cL_law 532 = .ok (.if_icmp .eq 2020, 3) := by decide +kernel
theorem dL_law_535 : decode cL_law 535 = .ok (.iconst 0, 1) := by decide +kernel
theorem dL_law_536 : decode cL_law 536 = .ok (.ireturn, 1) := by decide +kernel
theorem dL_law_537 : decode cL_law 537 = .ok (.aload_n 1, 1) := by decide +kernel
theorem dL_law_538 : decode cL_law 538 = .ok (.invokevirtual 144, 3) := by decide +kernel
theorem dL_law_541 : decode cL_law 541 = .ok (.aload_n 2, 1) := by decide +kernel
theorem dL_law_542 : decode cL_law 542 = .ok (.invokevirtual 147, 3) := by decide +kernel
theorem dL_law_545 : decode cL_law 545 = .ok (.if_icmp .eq 2007, 3) := by decide +kernel
theorem dL_law_548 : decode cL_law 548 = .ok (.iconst 0, 1) := by decide +kernel
theorem dL_law_549 : decode cL_law 549 = .ok (.ireturn, 1) := by decide +kernel
theorem dL_law_550 : decode cL_law 550 = .ok (.aload_n 1, 1) := by decide +kernel
theorem dL_law_551 : decode cL_law 551 = .ok (.invokevirtual 148, 3) := by decide +kernel
theorem dL_law_554 : decode cL_law 554 = .ok (.aload_n 2, 1) := by decide +kernel
theorem dL_law_555 : decode cL_law 555 = .ok (.invokevirtual 151, 3) := by decide +kernel
theorem dL_law_558 : decode cL_law 558 = .ok (.if_icmp .eq 1994, 3) := by decide +kernel
theorem dL_law_561 : decode cL_law 561 = .ok (.iconst 0, 1) := by decide +kernel
theorem dL_law_562 : decode cL_law 562 = .ok (.ireturn, 1) := by decide +kernel
theorem dL_law_563 : decode cL_law 563 = .ok (.aload_n 1, 1) := by decide +kernel
theorem dL_law_564 : decode cL_law 564 = .ok (.invokevirtual 152, 3) := by decide +kernel
theorem dL_law_567 : decode cL_law 567 = .ok (.aload_n 2, 1) := by decide +kernel
theorem dL_law_568 : decode cL_law 568 = .ok (.invokevirtual 155, 3) := by decide +kernel
theorem dL_law_571 : decode cL_law 571 = .ok (.if_icmp .eq 1981, 3) := by decide +kernel
theorem dL_law_574 : decode cL_law 574 = .ok (.iconst 0, 1) := by decide +kernel
theorem dL_law_575 : decode cL_law 575 = .ok (.ireturn, 1) := by decide +kernel
theorem dL_law_576 : decode cL_law 576 = .ok (.aload_n 1, 1) := by decide +kernel
theorem dL_law_577 : decode cL_law 577 = .ok (.invokevirtual 156, 3) := by decide +kernel
theorem dL_law_580 : decode cL_law 580 = .ok (.aload_n 2, 1) := by decide +kernel
theorem dL_law_581 : decode cL_law 581 = .ok (.invokevirtual 159, 3) := by decide +kernel
theorem dL_law_584 : decode cL_law 584 = .ok (.if_icmp .eq 1968, 3) := by decide +kernel
theorem dL_law_587 : decode cL_law 587 = .ok (.iconst 0, 1) := by decide +kernel
theorem dL_law_588 : decode cL_law 588 = .ok (.ireturn, 1) := by decide +kernel
theorem dL_law_589 : decode cL_law 589 = .ok (.aload_n 1, 1) := by decide +kernel
theorem dL_law_590 : decode cL_law 590 = .ok (.invokevirtual 160, 3) := by decide +kernel
theorem dL_law_593 : decode cL_law 593 = .ok (.aload_n 2, 1) := by decide +kernel
theorem dL_law_594 : decode cL_law 594 = .ok (.invokevirtual 164, 3) := by decide +kernel
theorem dL_law_597 : decode cL_law 597 = .ok (.if_icmp .eq 1955, 3) := by decide +kernel
theorem dL_law_600 : decode cL_law 600 = .ok (.iconst 0, 1) := by decide +kernel
theorem dL_law_601 : decode cL_law 601 = .ok (.ireturn, 1) := by decide +kernel
theorem dL_law_602 : decode cL_law 602 = .ok (.aload_n 1, 1) := by decide +kernel
theorem dL_law_603 : decode cL_law 603 = .ok (.invokevirtual 165, 3) := by decide +kernel
theorem dL_law_606 : decode cL_law 606 = .ok (.aload_n 2, 1) := by decide +kernel
theorem dL_law_607 : decode cL_law 607 = .ok (.invokevirtual 168, 3) := by decide +kernel
theorem dL_law_610 : decode cL_law 610 = .ok (.if_icmp .eq 1942, 3) := by decide +kernel
theorem dL_law_613 : decode cL_law 613 = .ok (.iconst 0, 1) := by decide +kernel
theorem dL_law_614 : decode cL_law 614 = .ok (.ireturn, 1) := by decide +kernel
theorem dL_law_615 : decode cL_law 615 = .ok (.aload_n 1, 1) := by decide +kernel
theorem dL_law_616 : decode cL_law 616 = .ok (.invokevirtual 169, 3) := by decide +kernel
theorem dL_law_619 : decode cL_law 619 = .ok (.aload_n 2, 1) := by decide +kernel
theorem dL_law_620 : decode cL_law 620 = .ok (.invokevirtual 172, 3) := by decide +kernel
theorem dL_law_623 : decode cL_law 623 = .ok (.if_icmp .eq 1929, 3) := by decide +kernel
theorem dL_law_626 : decode cL_law 626 = .ok (.iconst 0, 1) := by decide +kernel
theorem dL_law_627 : decode cL_law 627 = .ok (.ireturn, 1) := by decide +kernel
theorem dL_law_628 : decode cL_law 628 = .ok (.aload_n 1, 1) := by decide +kernel
theorem dL_law_629 : decode cL_law 629 = .ok (.aload_n 0, 1) := by decide +kernel
theorem dL_law_630 : decode cL_law 630 = .ok (.iload 4, 2) := by decide +kernel
theorem dL_law_632 : decode cL_law 632 = .ok (.iconst 1, 1) := by decide +kernel
theorem dL_law_633 : decode cL_law 633 = .ok (.iadd, 1) := by decide +kernel
theorem dL_law_634 : decode cL_law 634 = .ok (.iaload, 1) := by decide +kernel
theorem dL_law_635 : decode cL_law 635 = .ok (.aload_n 3, 1) := by decide +kernel
theorem dL_law_636 : decode cL_law 636 = .ok (.invokestatic 173, 3) := by decide +kernel
theorem dL_law_639 : decode cL_law 639 = .ok (.istore 5, 2) := by decide +kernel
theorem dL_law_641 : decode cL_law 641 = .ok (.aload_n 2, 1) := by decide +kernel
theorem dL_law_642 : decode cL_law 642 = .ok (.aload_n 0, 1) := by decide +kernel
theorem dL_law_643 : decode cL_law 643 = .ok (.iload 4, 2) := by decide +kernel
theorem dL_law_645 : decode cL_law 645 = .ok (.iconst 1, 1) := by decide +kernel
theorem dL_law_646 : decode cL_law 646 = .ok (.iadd, 1) := by decide +kernel
theorem dL_law_647 : decode cL_law 647 = .ok (.iaload, 1) := by decide +kernel
theorem dL_law_648 : decode cL_law 648 = .ok (.invokevirtual 176, 3) := by decide +kernel
theorem dL_law_651 : decode cL_law 651 = .ok (.istore 6, 2) := by decide +kernel
theorem dL_law_653 : decode cL_law 653 = .ok (.aload_n 2, 1) := by decide +kernel
theorem dL_law_654 : decode cL_law 654 = .ok (.invokevirtual 126, 3) := by decide +kernel
theorem dL_law_657 : decode cL_law 657 = .ok (.iload 5, 2) := by decide +kernel
theorem dL_law_659 : decode cL_law 659 = .ok (.if_icmp .eq 5, 3) := by decide +kernel
theorem dL_law_662 : decode cL_law 662 = .ok (.iconst 0, 1) := by decide +kernel
theorem dL_law_663 : decode cL_law 663 = .ok (.ireturn, 1) := by decide +kernel
theorem dL_law_664 : decode cL_law 664 = .ok (.iload 5, 2) := by decide +kernel
theorem dL_law_666 : decode cL_law 666 = .ok (.ifCond .ne 15, 3) := by decide +kernel
theorem dL_law_669 : decode cL_law 669 = .ok (.aload_n 3, 1) := by decide +kernel
theorem dL_law_670 : decode cL_law 670 = .ok (.iconst 0, 1) := by decide +kernel
theorem dL_law_671 : decode cL_law 671 = .ok (.laload, 1) := by decide +kernel
theorem dL_law_672 : decode cL_law 672 = .ok (.iload 6, 2) := by decide +kernel
theorem dL_law_674 : decode cL_law 674 = .ok (.i2l, 1) := by decide +kernel
theorem dL_law_675 : decode cL_law 675 = .ok (.lcmp, 1) := by decide +kernel
theorem dL_law_676 : decode cL_law 676 = .ok (.ifCond .eq 5, 3) := by decide +kernel
theorem dL_law_679 : decode cL_law 679 = .ok (.iconst 0, 1) := by decide +kernel
theorem dL_law_680 : decode cL_law 680 = .ok (.ireturn, 1) := by decide +kernel
theorem dL_law_681 : decode cL_law 681 = .ok (.goto 1871, 3) := by decide +kernel
theorem dL_law_684 : decode cL_law 684 = .ok (.aload_n 1, 1) := by decide +kernel
theorem dL_law_685 : decode cL_law 685 = .ok (.invokevirtual 177, 3) := by decide +kernel
theorem dL_law_688 : decode cL_law 688 = .ok (.aload_n 2, 1) := by decide +kernel
theorem dL_law_689 : decode cL_law 689 = .ok (.invokevirtual 180, 3) := by decide +kernel
theorem dL_law_692 : decode cL_law 692 = .ok (.if_icmp .eq 1860, 3) := by decide +kernel
theorem dL_law_695 : decode cL_law 695 = .ok (.iconst 0, 1) := by decide +kernel
theorem dL_law_696 : decode cL_law 696 = .ok (.ireturn, 1) := by decide +kernel
theorem dL_law_697 : decode cL_law 697 = .ok (.aload_n 1, 1) := by decide +kernel
theorem dL_law_698 : decode cL_law 698 = .ok (.invokevirtual 181, 3) := by decide +kernel
theorem dL_law_701 : decode cL_law 701 = .ok (.aload_n 2, 1) := by decide +kernel
theorem dL_law_702 : decode cL_law 702 = .ok (.invokevirtual 184, 3) := by decide +kernel
theorem dL_law_705 : decode cL_law 705 = .ok (.if_icmp .eq 1847, 3) := by decide +kernel
theorem dL_law_708 : decode cL_law 708 = .ok (.iconst 0, 1) := by decide +kernel
theorem dL_law_709 : decode cL_law 709 = .ok (.ireturn, 1) := by decide +kernel
theorem dL_law_710 : decode cL_law 710 = .ok (.aload_n 1, 1) := by decide +kernel
theorem dL_law_711 : decode cL_law 711 = .ok (.invokevirtual 185, 3) := by decide +kernel
theorem dL_law_714 : decode cL_law 714 = .ok (.aload_n 2, 1) := by decide +kernel
theorem dL_law_715 : decode cL_law 715 = .ok (.invokevirtual 188, 3) := by decide +kernel
theorem dL_law_718 : decode cL_law 718 = .ok (.if_icmp .eq 1834, 3) := by decide +kernel
theorem dL_law_721 : decode cL_law 721 = .ok (.iconst 0, 1) := by decide +kernel
theorem dL_law_722 : decode cL_law 722 = .ok (.ireturn, 1) := by decide +kernel
theorem dL_law_723 : decode cL_law 723 = .ok (.aload_n 1, 1) := by decide +kernel
theorem dL_law_724 : decode cL_law 724 = .ok (.invokevirtual 189, 3) := by decide +kernel
theorem dL_law_727 : decode cL_law 727 = .ok (.aload_n 2, 1) := by decide +kernel
theorem dL_law_728 : decode cL_law 728 = .ok (.invokevirtual 192, 3) := by decide +kernel
theorem dL_law_731 : decode cL_law 731 = .ok (.if_icmp .eq 1821, 3) := by decide +kernel
theorem dL_law_734 : decode cL_law 734 = .ok (.iconst 0, 1) := by decide +kernel
theorem dL_law_735 : decode cL_law 735 = .ok (.ireturn, 1) := by decide +kernel
theorem dL_law_736 : decode cL_law 736 = .ok (.aload_n 1, 1) := by decide +kernel
theorem dL_law_737 : decode cL_law 737 = .ok (.invokevirtual 193, 3) := by decide +kernel
theorem dL_law_740 : decode cL_law 740 = .ok (.aload_n 2, 1) := by decide +kernel
theorem dL_law_741 : decode cL_law 741 = .ok (.invokevirtual 196, 3) := by decide +kernel
theorem dL_law_744 : decode cL_law 744 = .ok (.if_icmp .eq 1808, 3) := by decide +kernel
theorem dL_law_747 : decode cL_law 747 = .ok (.iconst 0, 1) := by decide +kernel
theorem dL_law_748 : decode cL_law 748 = .ok (.ireturn, 1) := by decide +kernel
theorem dL_law_749 : decode cL_law 749 = .ok (.aload_n 1, 1) := by decide +kernel
theorem dL_law_750 : decode cL_law 750 = .ok (.aload_n 0, 1) := by decide +kernel
theorem dL_law_751 : decode cL_law 751 = .ok (.iload 4, 2) := by decide +kernel
theorem dL_law_753 : decode cL_law 753 = .ok (.iconst 1, 1) := by decide +kernel
theorem dL_law_754 : decode cL_law 754 = .ok (.iadd, 1) := by decide +kernel
theorem dL_law_755 : decode cL_law 755 = .ok (.iaload, 1) := by decide +kernel
theorem dL_law_756 : decode cL_law 756 = .ok (.aload_n 3, 1) := by decide +kernel
theorem dL_law_757 : decode cL_law 757 = .ok (.invokestatic 197, 3) := by decide +kernel
theorem dL_law_760 : decode cL_law 760 = .ok (.istore 5, 2) := by decide +kernel
theorem dL_law_762 : decode cL_law 762 = .ok (.aload_n 2, 1) := by decide +kernel
theorem dL_law_763 : decode cL_law 763 = .ok (.aload_n 0, 1) := by decide +kernel
theorem dL_law_764 : decode cL_law 764 = .ok (.iload 4, 2) := by decide +kernel
theorem dL_law_766 : decode cL_law 766 = .ok (.iconst 1, 1) := by decide +kernel
theorem dL_law_767 : decode cL_law 767 = .ok (.iadd, 1) := by decide +kernel
theorem dL_law_768 : decode cL_law 768 = .ok (.iaload, 1) := by decide +kernel
theorem dL_law_769 : decode cL_law 769 = .ok (.invokevirtual 199, 3) := by decide +kernel
theorem dL_law_772 : decode cL_law 772 = .ok (.istore 6, 2) := by decide +kernel
theorem dL_law_774 : decode cL_law 774 = .ok (.aload_n 2, 1) := by decide +kernel
theorem dL_law_775 : decode cL_law 775 = .ok (.invokevirtual 126, 3) := by decide +kernel
theorem dL_law_778 : decode cL_law 778 = .ok (.iload 5, 2) := by decide +kernel
theorem dL_law_780 : decode cL_law 780 = .ok (.if_icmp .eq 5, 3) := by decide +kernel
theorem dL_law_783 : decode cL_law 783 = .ok (.iconst 0, 1) := by decide +kernel
theorem dL_law_784 : decode cL_law 784 = .ok (.ireturn, 1) := by decide +kernel
theorem dL_law_785 : decode cL_law 785 = .ok (.iload 5, 2) := by decide +kernel
theorem dL_law_787 : decode cL_law 787 = .ok (.ifCond .ne 15, 3) := by decide +kernel
theorem dL_law_790 : decode cL_law 790 = .ok (.aload_n 3, 1) := by decide +kernel
theorem dL_law_791 : decode cL_law 791 = .ok (.iconst 0, 1) := by decide +kernel
theorem dL_law_792 : decode cL_law 792 = .ok (.laload, 1) := by decide +kernel
theorem dL_law_793 : decode cL_law 793 = .ok (.iload 6, 2) := by decide +kernel
theorem dL_law_795 : decode cL_law 795 = .ok (.i2l, 1) := by decide +kernel
theorem dL_law_796 : decode cL_law 796 = .ok (.lcmp, 1) := by decide +kernel
theorem dL_law_797 : decode cL_law 797 = .ok (.ifCond .eq 5, 3) := by decide +kernel
theorem dL_law_800 : decode cL_law 800 = .ok (.iconst 0, 1) := by decide +kernel
theorem dL_law_801 : decode cL_law 801 = .ok (.ireturn, 1) := by decide +kernel
theorem dL_law_802 : decode cL_law 802 = .ok (.goto 1750, 3) := by decide +kernel
theorem dL_law_805 : decode cL_law 805 = .ok (.aload_n 1, 1) := by decide +kernel
theorem dL_law_806 : decode cL_law 806 = .ok (.aload_n 0, 1) := by decide +kernel
theorem dL_law_807 : decode cL_law 807 = .ok (.iload 4, 2) := by decide +kernel
theorem dL_law_809 : decode cL_law 809 = .ok (.iconst 1, 1) := by decide +kernel
theorem dL_law_810 : decode cL_law 810 = .ok (.iadd, 1) := by decide +kernel
theorem dL_law_811 : decode cL_law 811 = .ok (.iaload, 1) := by decide +kernel
theorem dL_law_812 : decode cL_law 812 = .ok (.aload_n 3, 1) := by decide +kernel
theorem dL_law_813 : decode cL_law 813 = .ok (.invokestatic 200, 3) := by decide +kernel
theorem dL_law_816 : decode cL_law 816 = .ok (.istore 5, 2) := by decide +kernel
theorem dL_law_818 : decode cL_law 818 = .ok (.aload_n 2, 1) := by decide +kernel
theorem dL_law_819 : decode cL_law 819 = .ok (.aload_n 0, 1) := by decide +kernel
theorem dL_law_820 : decode cL_law 820 = .ok (.iload 4, 2) := by decide +kernel
theorem dL_law_822 : decode cL_law 822 = .ok (.iconst 1, 1) := by decide +kernel
theorem dL_law_823 : decode cL_law 823 = .ok (.iadd, 1) := by decide +kernel
theorem dL_law_824 : decode cL_law 824 = .ok (.iaload, 1) := by decide +kernel
theorem dL_law_825 : decode cL_law 825 = .ok (.invokevirtual 202, 3) := by decide +kernel
theorem dL_law_828 : decode cL_law 828 = .ok (.istore 6, 2) := by decide +kernel
theorem dL_law_830 : decode cL_law 830 = .ok (.aload_n 2, 1) := by decide +kernel
theorem dL_law_831 : decode cL_law 831 = .ok (.invokevirtual 126, 3) := by decide +kernel
theorem dL_law_834 : decode cL_law 834 = .ok (.iload 5, 2) := by decide +kernel
theorem dL_law_836 : decode cL_law 836 = .ok (.if_icmp .eq 5, 3) := by decide +kernel
theorem dL_law_839 : decode cL_law 839 = .ok (.iconst 0, 1) := by decide +kernel
theorem dL_law_840 : decode cL_law 840 = .ok (.ireturn, 1) := by decide +kernel
theorem dL_law_841 : decode cL_law 841 = .ok (.iload 5, 2) := by decide +kernel
theorem dL_law_843 : decode cL_law 843 = .ok (.ifCond .ne 15, 3) := by decide +kernel
theorem dL_law_846 : decode cL_law 846 = .ok (.aload_n 3, 1) := by decide +kernel
theorem dL_law_847 : decode cL_law 847 = .ok (.iconst 0, 1) := by decide +kernel
theorem dL_law_848 : decode cL_law 848 = .ok (.laload, 1) := by decide +kernel
theorem dL_law_849 : decode cL_law 849 = .ok (.iload 6, 2) := by decide +kernel
theorem dL_law_851 : decode cL_law 851 = .ok (.i2l, 1) := by decide +kernel
theorem dL_law_852 : decode cL_law 852 = .ok (.lcmp, 1) := by decide +kernel
theorem dL_law_853 : decode cL_law 853 = .ok (.ifCond .eq 5, 3) := by decide +kernel
theorem dL_law_856 : decode cL_law 856 = .ok (.iconst 0, 1) := by decide +kernel
theorem dL_law_857 : decode cL_law 857 = .ok (.ireturn, 1) := by decide +kernel
theorem dL_law_858 : decode cL_law 858 = .ok (.goto 1694, 3) := by decide +kernel
theorem dL_law_861 : decode cL_law 861 = .ok (.aload_n 1, 1) := by decide +kernel
theorem dL_law_862 : decode cL_law 862 = .ok (.aload_n 0, 1) := by decide +kernel
theorem dL_law_863 : decode cL_law 863 = .ok (.iload 4, 2) := by decide +kernel
theorem dL_law_865 : decode cL_law 865 = .ok (.iconst 1, 1) := by decide +kernel
theorem dL_law_866 : decode cL_law 866 = .ok (.iadd, 1) := by decide +kernel
theorem dL_law_867 : decode cL_law 867 = .ok (.iaload, 1) := by decide +kernel
theorem dL_law_868 : decode cL_law 868 = .ok (.aload_n 3, 1) := by decide +kernel
theorem dL_law_869 : decode cL_law 869 = .ok (.invokestatic 203, 3) := by decide +kernel
theorem dL_law_872 : decode cL_law 872 = .ok (.istore 5, 2) := by decide +kernel
theorem dL_law_874 : decode cL_law 874 = .ok (.aload_n 2, 1) := by decide +kernel
theorem dL_law_875 : decode cL_law 875 = .ok (.aload_n 0, 1) := by decide +kernel
theorem dL_law_876 : decode cL_law 876 = .ok (.iload 4, 2) := by decide +kernel
theorem dL_law_878 : decode cL_law 878 = .ok (.iconst 1, 1) := by decide +kernel
theorem dL_law_879 : decode cL_law 879 = .ok (.iadd, 1) := by decide +kernel
theorem dL_law_880 : decode cL_law 880 = .ok (.iaload, 1) := by decide +kernel
theorem dL_law_881 : decode cL_law 881 = .ok (.invokevirtual 205, 3) := by decide +kernel
theorem dL_law_884 : decode cL_law 884 = .ok (.istore 6, 2) := by decide +kernel
theorem dL_law_886 : decode cL_law 886 = .ok (.aload_n 2, 1) := by decide +kernel
theorem dL_law_887 : decode cL_law 887 = .ok (.invokevirtual 126, 3) := by decide +kernel
theorem dL_law_890 : decode cL_law 890 = .ok (.iload 5, 2) := by decide +kernel
theorem dL_law_892 : decode cL_law 892 = .ok (.if_icmp .eq 5, 3) := by decide +kernel
theorem dL_law_895 : decode cL_law 895 = .ok (.iconst 0, 1) := by decide +kernel
theorem dL_law_896 : decode cL_law 896 = .ok (.ireturn, 1) := by decide +kernel
theorem dL_law_897 : decode cL_law 897 = .ok (.iload 5, 2) := by decide +kernel
theorem dL_law_899 : decode cL_law 899 = .ok (.ifCond .ne 15, 3) := by decide +kernel
theorem dL_law_902 : decode cL_law 902 = .ok (.aload_n 3, 1) := by decide +kernel
theorem dL_law_903 : decode cL_law 903 = .ok (.iconst 0, 1) := by decide +kernel
theorem dL_law_904 : decode cL_law 904 = .ok (.laload, 1) := by decide +kernel
theorem dL_law_905 : decode cL_law 905 = .ok (.iload 6, 2) := by decide +kernel
theorem dL_law_907 : decode cL_law 907 = .ok (.i2l, 1) := by decide +kernel
theorem dL_law_908 : decode cL_law 908 = .ok (.lcmp, 1) := by decide +kernel
theorem dL_law_909 : decode cL_law 909 = .ok (.ifCond .eq 5, 3) := by decide +kernel
theorem dL_law_912 : decode cL_law 912 = .ok (.iconst 0, 1) := by decide +kernel
theorem dL_law_913 : decode cL_law 913 = .ok (.ireturn, 1) := by decide +kernel
theorem dL_law_914 : decode cL_law 914 = .ok (.goto 1638, 3) := by decide +kernel
theorem dL_law_917 : decode cL_law 917 = .ok (.aload_n 1, 1) := by decide +kernel
theorem dL_law_918 : decode cL_law 918 = .ok (.aload_n 0, 1) := by decide +kernel
theorem dL_law_919 : decode cL_law 919 = .ok (.iload 4, 2) := by decide +kernel
theorem dL_law_921 : decode cL_law 921 = .ok (.iconst 1, 1) := by decide +kernel
theorem dL_law_922 : decode cL_law 922 = .ok (.iadd, 1) := by decide +kernel
theorem dL_law_923 : decode cL_law 923 = .ok (.iaload, 1) := by decide +kernel
theorem dL_law_924 : decode cL_law 924 = .ok (.aload_n 3, 1) := by decide +kernel
theorem dL_law_925 : decode cL_law 925 = .ok (.invokestatic 206, 3) := by decide +kernel
theorem dL_law_928 : decode cL_law 928 = .ok (.istore 5, 2) := by decide +kernel
theorem dL_law_930 : decode cL_law 930 = .ok (.aload_n 2, 1) := by decide +kernel
theorem dL_law_931 : decode cL_law 931 = .ok (.aload_n 0, 1) := by decide +kernel
theorem dL_law_932 : decode cL_law 932 = .ok (.iload 4, 2) := by decide +kernel
theorem dL_law_934 : decode cL_law 934 = .ok (.iconst 1, 1) := by decide +kernel
theorem dL_law_935 : decode cL_law 935 = .ok (.iadd, 1) := by decide +kernel
theorem dL_law_936 : decode cL_law 936 = .ok (.iaload, 1) := by decide +kernel
theorem dL_law_937 : decode cL_law 937 = .ok (.invokevirtual 208, 3) := by decide +kernel
theorem dL_law_940 : decode cL_law 940 = .ok (.istore 6, 2) := by decide +kernel
theorem dL_law_942 : decode cL_law 942 = .ok (.aload_n 2, 1) := by decide +kernel
theorem dL_law_943 : decode cL_law 943 = .ok (.invokevirtual 126, 3) := by decide +kernel
theorem dL_law_946 : decode cL_law 946 = .ok (.iload 5, 2) := by decide +kernel
theorem dL_law_948 : decode cL_law 948 = .ok (.if_icmp .eq 5, 3) := by decide +kernel
theorem dL_law_951 : decode cL_law 951 = .ok (.iconst 0, 1) := by decide +kernel
theorem dL_law_952 : decode cL_law 952 = .ok (.ireturn, 1) := by decide +kernel
theorem dL_law_953 : decode cL_law 953 = .ok (.iload 5, 2) := by decide +kernel
theorem dL_law_955 : decode cL_law 955 = .ok (.ifCond .ne 15, 3) := by decide +kernel
theorem dL_law_958 : decode cL_law 958 = .ok (.aload_n 3, 1) := by decide +kernel
theorem dL_law_959 : decode cL_law 959 = .ok (.iconst 0, 1) := by decide +kernel
theorem dL_law_960 : decode cL_law 960 = .ok (.laload, 1) := by decide +kernel
theorem dL_law_961 : decode cL_law 961 = .ok (.iload 6, 2) := by decide +kernel
theorem dL_law_963 : decode cL_law 963 = .ok (.i2l, 1) := by decide +kernel
theorem dL_law_964 : decode cL_law 964 = .ok (.lcmp, 1) := by decide +kernel
theorem dL_law_965 : decode cL_law 965 = .ok (.ifCond .eq 5, 3) := by decide +kernel
theorem dL_law_968 : decode cL_law 968 = .ok (.iconst 0, 1) := by decide +kernel
theorem dL_law_969 : decode cL_law 969 = .ok (.ireturn, 1) := by decide +kernel
theorem dL_law_970 : decode cL_law 970 = .ok (.goto 1582, 3) := by decide +kernel
theorem dL_law_973 : decode cL_law 973 = .ok (.aload_n 1, 1) := by decide +kernel
theorem dL_law_974 : decode cL_law 974 = .ok (.aload_n 0, 1) := by decide +kernel
theorem dL_law_975 : decode cL_law 975 = .ok (.iload 4, 2) := by decide +kernel
theorem dL_law_977 : decode cL_law 977 = .ok (.iconst 1, 1) := by decide +kernel
theorem dL_law_978 : decode cL_law 978 = .ok (.iadd, 1) := by decide +kernel
theorem dL_law_979 : decode cL_law 979 = .ok (.iaload, 1) := by decide +kernel
theorem dL_law_980 : decode cL_law 980 = .ok (.aload_n 3, 1) := by decide +kernel
theorem dL_law_981 : decode cL_law 981 = .ok (.invokestatic 209, 3) := by decide +kernel
theorem dL_law_984 : decode cL_law 984 = .ok (.istore 5, 2) := by decide +kernel
theorem dL_law_986 : decode cL_law 986 = .ok (.aload_n 2, 1) := by decide +kernel
theorem dL_law_987 : decode cL_law 987 = .ok (.aload_n 0, 1) := by decide +kernel
theorem dL_law_988 : decode cL_law 988 = .ok (.iload 4, 2) := by decide +kernel
theorem dL_law_990 : decode cL_law 990 = .ok (.iconst 1, 1) := by decide +kernel
theorem dL_law_991 : decode cL_law 991 = .ok (.iadd, 1) := by decide +kernel
theorem dL_law_992 : decode cL_law 992 = .ok (.iaload, 1) := by decide +kernel
theorem dL_law_993 : decode cL_law 993 = .ok (.invokevirtual 211, 3) := by decide +kernel
theorem dL_law_996 : decode cL_law 996 = .ok (.istore 6, 2) := by decide +kernel
theorem dL_law_998 : decode cL_law 998 = .ok (.aload_n 2, 1) := by decide +kernel
theorem dL_law_999 : decode cL_law 999 = .ok (.invokevirtual 126, 3) := by decide +kernel
theorem dL_law_1002 : decode cL_law 1002 = .ok (.iload 5, 2) := by decide +kernel
theorem dL_law_1004 : decode cL_law 1004 = .ok (.if_icmp .eq 5, 3) := by decide +kernel
theorem dL_law_1007 : decode cL_law 1007 = .ok (.iconst 0, 1) := by decide +kernel
theorem dL_law_1008 : decode cL_law 1008 = .ok (.ireturn, 1) := by decide +kernel
theorem dL_law_1009 : decode cL_law 1009 = .ok (.iload 5, 2) := by decide +kernel
theorem dL_law_1011 : decode cL_law 1011 = .ok (.ifCond .ne 15, 3) := by decide +kernel
theorem dL_law_1014 : decode cL_law 1014 = .ok (.aload_n 3, 1) := by decide +kernel
theorem dL_law_1015 : decode cL_law 1015 = .ok (.iconst 0, 1) := by decide +kernel
theorem dL_law_1016 : decode cL_law 1016 = .ok (.laload, 1) := by decide +kernel
theorem dL_law_1017 : decode cL_law 1017 = .ok (.iload 6, 2) := by decide +kernel
theorem dL_law_1019 : decode cL_law 1019 = .ok (.i2l, 1) := by decide +kernel
theorem dL_law_1020 : decode cL_law 1020 = .ok (.lcmp, 1) := by decide +kernel
theorem dL_law_1021 : decode cL_law 1021 = .ok (.ifCond .eq 5, 3) := by decide +kernel
theorem dL_law_1024 : decode cL_law 1024 = .ok (.iconst 0, 1) := by decide +kernel
theorem dL_law_1025 : decode cL_law 1025 = .ok (.ireturn, 1) := by decide +kernel
theorem dL_law_1026 : decode cL_law 1026 = .ok (.goto 1526, 3) := by decide +kernel
theorem dL_law_1029 : decode cL_law 1029 = .ok (.aload_n 1, 1) := by decide +kernel
theorem dL_law_1030 : decode cL_law 1030 = .ok (.aload_n 0, 1) := by decide +kernel
theorem dL_law_1031 : decode cL_law 1031 = .ok (.iload 4, 2) := by decide +kernel
theorem dL_law_1033 : decode cL_law 1033 = .ok (.iconst 1, 1) := by decide +kernel
theorem dL_law_1034 : decode cL_law 1034 = .ok (.iadd, 1) := by decide +kernel
theorem dL_law_1035 : decode cL_law 1035 = .ok (.iaload, 1) := by decide +kernel
theorem dL_law_1036 : decode cL_law 1036 = .ok (.aload_n 3, 1) := by decide +kernel
theorem dL_law_1037 : decode cL_law 1037 = .ok (.invokestatic 212, 3) := by decide +kernel
theorem dL_law_1040 : decode cL_law 1040 = .ok (.istore 5, 2) := by decide +kernel
theorem dL_law_1042 : decode cL_law 1042 = .ok (.aload_n 2, 1) := by decide +kernel
theorem dL_law_1043 : decode cL_law 1043 = .ok (.aload_n 0, 1) := by decide +kernel
theorem dL_law_1044 : decode cL_law 1044 = .ok (.iload 4, 2) := by decide +kernel
theorem dL_law_1046 : decode cL_law 1046 = .ok (.iconst 1, 1) := by decide +kernel
theorem dL_law_1047 : decode cL_law 1047 = .ok (.iadd, 1) := by decide +kernel
theorem dL_law_1048 : decode cL_law 1048 = .ok (.iaload, 1) := by decide +kernel
theorem dL_law_1049 : decode cL_law 1049 = .ok (.invokevirtual 214, 3) := by decide +kernel
theorem dL_law_1052 : decode cL_law 1052 = .ok (.istore 6, 2) := by decide +kernel
theorem dL_law_1054 : decode cL_law 1054 = .ok (.aload_n 2, 1) := by decide +kernel
theorem dL_law_1055 : decode cL_law 1055 = .ok (.invokevirtual 126, 3) := by decide +kernel
theorem dL_law_1058 : decode cL_law 1058 = .ok (.iload 5, 2) := by decide +kernel
theorem dL_law_1060 : decode cL_law 1060 = .ok (.if_icmp .eq 5, 3) := by decide +kernel
theorem dL_law_1063 : decode cL_law 1063 = .ok (.iconst 0, 1) := by decide +kernel
theorem dL_law_1064 : decode cL_law 1064 = .ok (.ireturn, 1) := by decide +kernel
theorem dL_law_1065 : decode cL_law 1065 = .ok (.iload 5, 2) := by decide +kernel
theorem dL_law_1067 : decode cL_law 1067 = .ok (.ifCond .ne 15, 3) := by decide +kernel
theorem dL_law_1070 : decode cL_law 1070 = .ok (.aload_n 3, 1) := by decide +kernel
theorem dL_law_1071 : decode cL_law 1071 = .ok (.iconst 0, 1) := by decide +kernel
theorem dL_law_1072 : decode cL_law 1072 = .ok (.laload, 1) := by decide +kernel
theorem dL_law_1073 : decode cL_law 1073 = .ok (.iload 6, 2) := by decide +kernel
theorem dL_law_1075 : decode cL_law 1075 = .ok (.i2l, 1) := by decide +kernel
theorem dL_law_1076 : decode cL_law 1076 = .ok (.lcmp, 1) := by decide +kernel
theorem dL_law_1077 : decode cL_law 1077 = .ok (.ifCond .eq 5, 3) := by decide +kernel
theorem dL_law_1080 : decode cL_law 1080 = .ok (.iconst 0, 1) := by decide +kernel
theorem dL_law_1081 : decode cL_law 1081 = .ok (.ireturn, 1) := by decide +kernel
theorem dL_law_1082 : decode cL_law 1082 = .ok (.goto 1470, 3) := by decide +kernel
theorem dL_law_1085 : decode cL_law 1085 = .ok (.aload_n 1, 1) := by decide +kernel
theorem dL_law_1086 : decode cL_law 1086 = .ok (.aload_n 0, 1) := by decide +kernel
theorem dL_law_1087 : decode cL_law 1087 = .ok (.iload 4, 2) := by decide +kernel
theorem dL_law_1089 : decode cL_law 1089 = .ok (.iconst 1, 1) := by decide +kernel
theorem dL_law_1090 : decode cL_law 1090 = .ok (.iadd, 1) := by decide +kernel
theorem dL_law_1091 : decode cL_law 1091 = .ok (.iaload, 1) := by decide +kernel
theorem dL_law_1092 : decode cL_law 1092 = .ok (.aload_n 3, 1) := by decide +kernel
theorem dL_law_1093 : decode cL_law 1093 = .ok (.invokestatic 215, 3) := by decide +kernel
theorem dL_law_1096 : decode cL_law 1096 = .ok (.istore 5, 2) := by decide +kernel
theorem dL_law_1098 : decode cL_law 1098 = .ok (.aload_n 2, 1) := by decide +kernel
theorem dL_law_1099 : decode cL_law 1099 = .ok (.aload_n 0, 1) := by decide +kernel
theorem dL_law_1100 : decode cL_law 1100 = .ok (.iload 4, 2) := by decide +kernel
theorem dL_law_1102 : decode cL_law 1102 = .ok (.iconst 1, 1) := by decide +kernel
theorem dL_law_1103 : decode cL_law 1103 = .ok (.iadd, 1) := by decide +kernel
theorem dL_law_1104 : decode cL_law 1104 = .ok (.iaload, 1) := by decide +kernel
theorem dL_law_1105 : decode cL_law 1105 = .ok (.invokevirtual 217, 3) := by decide +kernel
theorem dL_law_1108 : decode cL_law 1108 = .ok (.istore 6, 2) := by decide +kernel
theorem dL_law_1110 : decode cL_law 1110 = .ok (.aload_n 2, 1) := by decide +kernel
theorem dL_law_1111 : decode cL_law 1111 = .ok (.invokevirtual 126, 3) := by decide +kernel
theorem dL_law_1114 : decode cL_law 1114 = .ok (.iload 5, 2) := by decide +kernel
theorem dL_law_1116 : decode cL_law 1116 = .ok (.if_icmp .eq 5, 3) := by decide +kernel
theorem dL_law_1119 : decode cL_law 1119 = .ok (.iconst 0, 1) := by decide +kernel
theorem dL_law_1120 : decode cL_law 1120 = .ok (.ireturn, 1) := by decide +kernel
theorem dL_law_1121 : decode cL_law 1121 = .ok (.iload 5, 2) := by decide +kernel
theorem dL_law_1123 : decode cL_law 1123 = .ok (.ifCond .ne 15, 3) := by decide +kernel
theorem dL_law_1126 : decode cL_law 1126 = .ok (.aload_n 3, 1) := by decide +kernel
theorem dL_law_1127 : decode cL_law 1127 = .ok (.iconst 0, 1) := by decide +kernel
theorem dL_law_1128 : decode cL_law 1128 = .ok (.laload, 1) := by decide +kernel
theorem dL_law_1129 : decode cL_law 1129 = .ok (.iload 6, 2) := by decide +kernel
theorem dL_law_1131 : decode cL_law 1131 = .ok (.i2l, 1) := by decide +kernel
theorem dL_law_1132 : decode cL_law 1132 = .ok (.lcmp, 1) := by decide +kernel
theorem dL_law_1133 : decode cL_law 1133 = .ok (.ifCond .eq 5, 3) := by decide +kernel
theorem dL_law_1136 : decode cL_law 1136 = .ok (.iconst 0, 1) := by decide +kernel
theorem dL_law_1137 : decode cL_law 1137 = .ok (.ireturn, 1) := by decide +kernel
theorem dL_law_1138 : decode cL_law 1138 = .ok (.goto 1414, 3) := by decide +kernel
theorem dL_law_1141 : decode cL_law 1141 = .ok (.aload_n 1, 1) := by decide +kernel
theorem dL_law_1142 : decode cL_law 1142 = .ok (.aload_n 0, 1) := by decide +kernel
theorem dL_law_1143 : decode cL_law 1143 = .ok (.iload 4, 2) := by decide +kernel
theorem dL_law_1145 : decode cL_law 1145 = .ok (.iconst 1, 1) := by decide +kernel
theorem dL_law_1146 : decode cL_law 1146 = .ok (.iadd, 1) := by decide +kernel
theorem dL_law_1147 : decode cL_law 1147 = .ok (.iaload, 1) := by decide +kernel
theorem dL_law_1148 : decode cL_law 1148 = .ok (.aload_n 3, 1) := by decide +kernel
theorem dL_law_1149 : decode cL_law 1149 = .ok (.invokestatic 218, 3) := by decide +kernel
theorem dL_law_1152 : decode cL_law 1152 = .ok (.istore 5, 2) := by decide +kernel
theorem dL_law_1154 : decode cL_law 1154 = .ok (.aload_n 2, 1) := by decide +kernel
theorem dL_law_1155 : decode cL_law 1155 = .ok (.aload_n 0, 1) := by decide +kernel
theorem dL_law_1156 : decode cL_law 1156 = .ok (.iload 4, 2) := by decide +kernel
theorem dL_law_1158 : decode cL_law 1158 = .ok (.iconst 1, 1) := by decide +kernel
theorem dL_law_1159 : decode cL_law 1159 = .ok (.iadd, 1) := by decide +kernel
theorem dL_law_1160 : decode cL_law 1160 = .ok (.iaload, 1) := by decide +kernel
theorem dL_law_1161 : decode cL_law 1161 = .ok (.invokevirtual 220, 3) := by decide +kernel
theorem dL_law_1164 : decode cL_law 1164 = .ok (.istore 6, 2) := by decide +kernel
theorem dL_law_1166 : decode cL_law 1166 = .ok (.aload_n 2, 1) := by decide +kernel
theorem dL_law_1167 : decode cL_law 1167 = .ok (.invokevirtual 126, 3) := by decide +kernel
theorem dL_law_1170 : decode cL_law 1170 = .ok (.iload 5, 2) := by decide +kernel
theorem dL_law_1172 : decode cL_law 1172 = .ok (.if_icmp .eq 5, 3) := by decide +kernel
theorem dL_law_1175 : decode cL_law 1175 = .ok (.iconst 0, 1) := by decide +kernel
theorem dL_law_1176 : decode cL_law 1176 = .ok (.ireturn, 1) := by decide +kernel
theorem dL_law_1177 : decode cL_law 1177 = .ok (.iload 5, 2) := by decide +kernel
theorem dL_law_1179 : decode cL_law 1179 = .ok (.ifCond .ne 15, 3) := by decide +kernel
theorem dL_law_1182 : decode cL_law 1182 = .ok (.aload_n 3, 1) := by decide +kernel
theorem dL_law_1183 : decode cL_law 1183 = .ok (.iconst 0, 1) := by decide +kernel
theorem dL_law_1184 : decode cL_law 1184 = .ok (.laload, 1) := by decide +kernel
theorem dL_law_1185 : decode cL_law 1185 = .ok (.iload 6, 2) := by decide +kernel
theorem dL_law_1187 : decode cL_law 1187 = .ok (.i2l, 1) := by decide +kernel
theorem dL_law_1188 : decode cL_law 1188 = .ok (.lcmp, 1) := by decide +kernel
theorem dL_law_1189 : decode cL_law 1189 = .ok (.ifCond .eq 5, 3) := by decide +kernel
theorem dL_law_1192 : decode cL_law 1192 = .ok (.iconst 0, 1) := by decide +kernel
theorem dL_law_1193 : decode cL_law 1193 = .ok (.ireturn, 1) := by decide +kernel
theorem dL_law_1194 : decode cL_law 1194 = .ok (.goto 1358, 3) := by decide +kernel
theorem dL_law_1197 : decode cL_law 1197 = .ok (.aload_n 1, 1) := by decide +kernel
theorem dL_law_1198 : decode cL_law 1198 = .ok (.aload_n 0, 1) := by decide +kernel
theorem dL_law_1199 : decode cL_law 1199 = .ok (.iload 4, 2) := by decide +kernel
theorem dL_law_1201 : decode cL_law 1201 = .ok (.iconst 1, 1) := by decide +kernel
theorem dL_law_1202 : decode cL_law 1202 = .ok (.iadd, 1) := by decide +kernel
theorem dL_law_1203 : decode cL_law 1203 = .ok (.iaload, 1) := by decide +kernel
theorem dL_law_1204 : decode cL_law 1204 = .ok (.aload_n 3, 1) := by decide +kernel
theorem dL_law_1205 : decode cL_law 1205 = .ok (.invokestatic 221, 3) := by decide +kernel
theorem dL_law_1208 : decode cL_law 1208 = .ok (.istore 5, 2) := by decide +kernel
theorem dL_law_1210 : decode cL_law 1210 = .ok (.aload_n 2, 1) := by decide +kernel
theorem dL_law_1211 : decode cL_law 1211 = .ok (.aload_n 0, 1) := by decide +kernel
theorem dL_law_1212 : decode cL_law 1212 = .ok (.iload 4, 2) := by decide +kernel
theorem dL_law_1214 : decode cL_law 1214 = .ok (.iconst 1, 1) := by decide +kernel
theorem dL_law_1215 : decode cL_law 1215 = .ok (.iadd, 1) := by decide +kernel
theorem dL_law_1216 : decode cL_law 1216 = .ok (.iaload, 1) := by decide +kernel
theorem dL_law_1217 : decode cL_law 1217 = .ok (.invokevirtual 223, 3) := by decide +kernel
theorem dL_law_1220 : decode cL_law 1220 = .ok (.istore 6, 2) := by decide +kernel
theorem dL_law_1222 : decode cL_law 1222 = .ok (.aload_n 2, 1) := by decide +kernel
theorem dL_law_1223 : decode cL_law 1223 = .ok (.invokevirtual 126, 3) := by decide +kernel
theorem dL_law_1226 : decode cL_law 1226 = .ok (.iload 5, 2) := by decide +kernel
theorem dL_law_1228 : decode cL_law 1228 = .ok (.if_icmp .eq 5, 3) := by decide +kernel
theorem dL_law_1231 : decode cL_law 1231 = .ok (.iconst 0, 1) := by decide +kernel
theorem dL_law_1232 : decode cL_law 1232 = .ok (.ireturn, 1) := by decide +kernel
theorem dL_law_1233 : decode cL_law 1233 = .ok (.iload 5, 2) := by decide +kernel
theorem dL_law_1235 : decode cL_law 1235 = .ok (.ifCond .ne 15, 3) := by decide +kernel
theorem dL_law_1238 : decode cL_law 1238 = .ok (.aload_n 3, 1) := by decide +kernel
theorem dL_law_1239 : decode cL_law 1239 = .ok (.iconst 0, 1) := by decide +kernel
theorem dL_law_1240 : decode cL_law 1240 = .ok (.laload, 1) := by decide +kernel
theorem dL_law_1241 : decode cL_law 1241 = .ok (.iload 6, 2) := by decide +kernel
theorem dL_law_1243 : decode cL_law 1243 = .ok (.i2l, 1) := by decide +kernel
theorem dL_law_1244 : decode cL_law 1244 = .ok (.lcmp, 1) := by decide +kernel
theorem dL_law_1245 : decode cL_law 1245 = .ok (.ifCond .eq 5, 3) := by decide +kernel
theorem dL_law_1248 : decode cL_law 1248 = .ok (.iconst 0, 1) := by decide +kernel
theorem dL_law_1249 : decode cL_law 1249 = .ok (.ireturn, 1) := by decide +kernel
theorem dL_law_1250 : decode cL_law 1250 = .ok (.goto 1302, 3) := by decide +kernel
theorem dL_law_1253 : decode cL_law 1253 = .ok (.aload_n 1, 1) := by decide +kernel
theorem dL_law_1254 : decode cL_law 1254 = .ok (.aload_n 0, 1) := by decide +kernel
theorem dL_law_1255 : decode cL_law 1255 = .ok (.iload 4, 2) := by decide +kernel
theorem dL_law_1257 : decode cL_law 1257 = .ok (.iconst 1, 1) := by decide +kernel
theorem dL_law_1258 : decode cL_law 1258 = .ok (.iadd, 1) := by decide +kernel
theorem dL_law_1259 : decode cL_law 1259 = .ok (.iaload, 1) := by decide +kernel
theorem dL_law_1260 : decode cL_law 1260 = .ok (.aload_n 3, 1) := by decide +kernel
theorem dL_law_1261 : decode cL_law 1261 = .ok (.invokestatic 224, 3) := by decide +kernel
theorem dL_law_1264 : decode cL_law 1264 = .ok (.istore 5, 2) := by decide +kernel
theorem dL_law_1266 : decode cL_law 1266 = .ok (.aload_n 2, 1) := by decide +kernel
theorem dL_law_1267 : decode cL_law 1267 = .ok (.aload_n 0, 1) := by decide +kernel
theorem dL_law_1268 : decode cL_law 1268 = .ok (.iload 4, 2) := by decide +kernel
theorem dL_law_1270 : decode cL_law 1270 = .ok (.iconst 1, 1) := by decide +kernel
theorem dL_law_1271 : decode cL_law 1271 = .ok (.iadd, 1) := by decide +kernel
theorem dL_law_1272 : decode cL_law 1272 = .ok (.iaload, 1) := by decide +kernel
theorem dL_law_1273 : decode cL_law 1273 = .ok (.invokevirtual 226, 3) := by decide +kernel
theorem dL_law_1276 : decode cL_law 1276 = .ok (.istore 6, 2) := by decide +kernel
theorem dL_law_1278 : decode cL_law 1278 = .ok (.aload_n 2, 1) := by decide +kernel
theorem dL_law_1279 : decode cL_law 1279 = .ok (.invokevirtual 126, 3) := by decide +kernel
theorem dL_law_1282 : decode cL_law 1282 = .ok (.iload 5, 2) := by decide +kernel
theorem dL_law_1284 : decode cL_law 1284 = .ok (.if_icmp .eq 5, 3) := by decide +kernel
theorem dL_law_1287 : decode cL_law 1287 = .ok (.iconst 0, 1) := by decide +kernel
theorem dL_law_1288 : decode cL_law 1288 = .ok (.ireturn, 1) := by decide +kernel
theorem dL_law_1289 : decode cL_law 1289 = .ok (.iload 5, 2) := by decide +kernel
theorem dL_law_1291 : decode cL_law 1291 = .ok (.ifCond .ne 15, 3) := by decide +kernel
theorem dL_law_1294 : decode cL_law 1294 = .ok (.aload_n 3, 1) := by decide +kernel
theorem dL_law_1295 : decode cL_law 1295 = .ok (.iconst 0, 1) := by decide +kernel
theorem dL_law_1296 : decode cL_law 1296 = .ok (.laload, 1) := by decide +kernel
theorem dL_law_1297 : decode cL_law 1297 = .ok (.iload 6, 2) := by decide +kernel
theorem dL_law_1299 : decode cL_law 1299 = .ok (.i2l, 1) := by decide +kernel
theorem dL_law_1300 : decode cL_law 1300 = .ok (.lcmp, 1) := by decide +kernel
theorem dL_law_1301 : decode cL_law 1301 = .ok (.ifCond .eq 5, 3) := by decide +kernel
theorem dL_law_1304 : decode cL_law 1304 = .ok (.iconst 0, 1) := by decide +kernel
theorem dL_law_1305 : decode cL_law 1305 = .ok (.ireturn, 1) := by decide +kernel
theorem dL_law_1306 : decode cL_law 1306 = .ok (.goto 1246, 3) := by decide +kernel
theorem dL_law_1309 : decode cL_law 1309 = .ok (.aload_n 1, 1) := by decide +kernel
theorem dL_law_1310 : decode cL_law 1310 = .ok (.aload_n 0, 1) := by decide +kernel
theorem dL_law_1311 : decode cL_law 1311 = .ok (.iload 4, 2) := by decide +kernel
theorem dL_law_1313 : decode cL_law 1313 = .ok (.iconst 1, 1) := by decide +kernel
theorem dL_law_1314 : decode cL_law 1314 = .ok (.iadd, 1) := by decide +kernel
theorem dL_law_1315 : decode cL_law 1315 = .ok (.iaload, 1) := by decide +kernel
theorem dL_law_1316 : decode cL_law 1316 = .ok (.aload_n 3, 1) := by decide +kernel
theorem dL_law_1317 : decode cL_law 1317 = .ok (.invokestatic 227, 3) := by decide +kernel
theorem dL_law_1320 : decode cL_law 1320 = .ok (.istore 5, 2) := by decide +kernel
theorem dL_law_1322 : decode cL_law 1322 = .ok (.aload_n 2, 1) := by decide +kernel
theorem dL_law_1323 : decode cL_law 1323 = .ok (.aload_n 0, 1) := by decide +kernel
theorem dL_law_1324 : decode cL_law 1324 = .ok (.iload 4, 2) := by decide +kernel
theorem dL_law_1326 : decode cL_law 1326 = .ok (.iconst 1, 1) := by decide +kernel
theorem dL_law_1327 : decode cL_law 1327 = .ok (.iadd, 1) := by decide +kernel
theorem dL_law_1328 : decode cL_law 1328 = .ok (.iaload, 1) := by decide +kernel
theorem dL_law_1329 : decode cL_law 1329 = .ok (.invokevirtual 229, 3) := by decide +kernel
theorem dL_law_1332 : decode cL_law 1332 = .ok (.istore 6, 2) := by decide +kernel
theorem dL_law_1334 : decode cL_law 1334 = .ok (.aload_n 2, 1) := by decide +kernel
theorem dL_law_1335 : decode cL_law 1335 = .ok (.invokevirtual 126, 3) := by decide +kernel
theorem dL_law_1338 : decode cL_law 1338 = .ok (.iload 5, 2) := by decide +kernel
theorem dL_law_1340 : decode cL_law 1340 = .ok (.if_icmp .eq 5, 3) := by decide +kernel
theorem dL_law_1343 : decode cL_law 1343 = .ok (.iconst 0, 1) := by decide +kernel
theorem dL_law_1344 : decode cL_law 1344 = .ok (.ireturn, 1) := by decide +kernel
theorem dL_law_1345 : decode cL_law 1345 = .ok (.iload 5, 2) := by decide +kernel
theorem dL_law_1347 : decode cL_law 1347 = .ok (.ifCond .ne 15, 3) := by decide +kernel
theorem dL_law_1350 : decode cL_law 1350 = .ok (.aload_n 3, 1) := by decide +kernel
theorem dL_law_1351 : decode cL_law 1351 = .ok (.iconst 0, 1) := by decide +kernel
theorem dL_law_1352 : decode cL_law 1352 = .ok (.laload, 1) := by decide +kernel
theorem dL_law_1353 : decode cL_law 1353 = .ok (.iload 6, 2) := by decide +kernel
theorem dL_law_1355 : decode cL_law 1355 = .ok (.i2l, 1) := by decide +kernel
theorem dL_law_1356 : decode cL_law 1356 = .ok (.lcmp, 1) := by decide +kernel
theorem dL_law_1357 : decode cL_law 1357 = .ok (.ifCond .eq 5, 3) := by decide +kernel
theorem dL_law_1360 : decode cL_law 1360 = .ok (.iconst 0, 1) := by decide +kernel
theorem dL_law_1361 : decode cL_law 1361 = .ok (.ireturn, 1) := by decide +kernel
theorem dL_law_1362 : decode cL_law 1362 = .ok (.goto 1190, 3) := by decide +kernel
theorem dL_law_1365 : decode cL_law 1365 = .ok (.aload_n 1, 1) := by decide +kernel
theorem dL_law_1366 : decode cL_law 1366 = .ok (.aload_n 0, 1) := by decide +kernel
theorem dL_law_1367 : decode cL_law 1367 = .ok (.iload 4, 2) := by decide +kernel
theorem dL_law_1369 : decode cL_law 1369 = .ok (.iconst 1, 1) := by decide +kernel
theorem dL_law_1370 : decode cL_law 1370 = .ok (.iadd, 1) := by decide +kernel
theorem dL_law_1371 : decode cL_law 1371 = .ok (.iaload, 1) := by decide +kernel
theorem dL_law_1372 : decode cL_law 1372 = .ok (.aload_n 0, 1) := by decide +kernel
theorem dL_law_1373 : decode cL_law 1373 = .ok (.iload 4, 2) := by decide +kernel
theorem dL_law_1375 : decode cL_law 1375 = .ok (.iconst 2, 1) := by decide +kernel
theorem dL_law_1376 : decode cL_law 1376 = .ok (.iadd, 1) := by decide +kernel
theorem dL_law_1377 : decode cL_law 1377 = .ok (.iaload, 1) := by decide +kernel
theorem dL_law_1378 : decode cL_law 1378 = .ok (.aload_n 3, 1) := by decide +kernel
theorem dL_law_1379 : decode cL_law 1379 = .ok (.invokestatic 230, 3) := by decide +kernel
theorem dL_law_1382 : decode cL_law 1382 = .ok (.istore 5, 2) := by decide +kernel
theorem dL_law_1384 : decode cL_law 1384 = .ok (.aload_n 2, 1) := by decide +kernel
theorem dL_law_1385 : decode cL_law 1385 = .ok (.aload_n 0, 1) := by decide +kernel
theorem dL_law_1386 : decode cL_law 1386 = .ok (.iload 4, 2) := by decide +kernel
theorem dL_law_1388 : decode cL_law 1388 = .ok (.iconst 1, 1) := by decide +kernel
theorem dL_law_1389 : decode cL_law 1389 = .ok (.iadd, 1) := by decide +kernel
theorem dL_law_1390 : decode cL_law 1390 = .ok (.iaload, 1) := by decide +kernel
theorem dL_law_1391 : decode cL_law 1391 = .ok (.aload_n 0, 1) := by decide +kernel
theorem dL_law_1392 : decode cL_law 1392 = .ok (.iload 4, 2) := by decide +kernel
theorem dL_law_1394 : decode cL_law 1394 = .ok (.iconst 2, 1) := by decide +kernel
theorem dL_law_1395 : decode cL_law 1395 = .ok (.iadd, 1) := by decide +kernel
theorem dL_law_1396 : decode cL_law 1396 = .ok (.iaload, 1) := by decide +kernel
theorem dL_law_1397 : decode cL_law 1397 = .ok (.invokevirtual 233, 3) := by decide +kernel
theorem dL_law_1400 : decode cL_law 1400 = .ok (.istore 6, 2) := by decide +kernel
theorem dL_law_1402 : decode cL_law 1402 = .ok (.aload_n 2, 1) := by decide +kernel
theorem dL_law_1403 : decode cL_law 1403 = .ok (.invokevirtual 126, 3) := by decide +kernel
theorem dL_law_1406 : decode cL_law 1406 = .ok (.iload 5, 2) := by decide +kernel
theorem dL_law_1408 : decode cL_law 1408 = .ok (.if_icmp .eq 5, 3) := by decide +kernel
theorem dL_law_1411 : decode cL_law 1411 = .ok (.iconst 0, 1) := by decide +kernel
theorem dL_law_1412 : decode cL_law 1412 = .ok (.ireturn, 1) := by decide +kernel
theorem dL_law_1413 : decode cL_law 1413 = .ok (.iload 5, 2) := by decide +kernel
theorem dL_law_1415 : decode cL_law 1415 = .ok (.ifCond .ne 15, 3) := by decide +kernel
theorem dL_law_1418 : decode cL_law 1418 = .ok (.aload_n 3, 1) := by decide +kernel
theorem dL_law_1419 : decode cL_law 1419 = .ok (.iconst 0, 1) := by decide +kernel
theorem dL_law_1420 : decode cL_law 1420 = .ok (.laload, 1) := by decide +kernel
theorem dL_law_1421 : decode cL_law 1421 = .ok (.iload 6, 2) := by decide +kernel
theorem dL_law_1423 : decode cL_law 1423 = .ok (.i2l, 1) := by decide +kernel
theorem dL_law_1424 : decode cL_law 1424 = .ok (.lcmp, 1) := by decide +kernel
theorem dL_law_1425 : decode cL_law 1425 = .ok (.ifCond .eq 5, 3) := by decide +kernel
theorem dL_law_1428 : decode cL_law 1428 = .ok (.iconst 0, 1) := by decide +kernel
theorem dL_law_1429 : decode cL_law 1429 = .ok (.ireturn, 1) := by decide +kernel
theorem dL_law_1430 : decode cL_law 1430 = .ok (.goto 1122, 3) := by decide +kernel
theorem dL_law_1433 : decode cL_law 1433 = .ok (.aload_n 1, 1) := by decide +kernel
theorem dL_law_1434 : decode cL_law 1434 = .ok (.invokevirtual 234, 3) := by decide +kernel
theorem dL_law_1437 : decode cL_law 1437 = .ok (.aload_n 2, 1) := by decide +kernel
theorem dL_law_1438 : decode cL_law 1438 = .ok (.invokevirtual 237, 3) := by decide +kernel
theorem dL_law_1441 : decode cL_law 1441 = .ok (.if_icmp .eq 1111, 3) := by decide +kernel
theorem dL_law_1444 : decode cL_law 1444 = .ok (.iconst 0, 1) := by decide +kernel
theorem dL_law_1445 : decode cL_law 1445 = .ok (.ireturn, 1) := by decide +kernel
theorem dL_law_1446 : decode cL_law 1446 = .ok (.aload_n 1, 1) := by decide +kernel
theorem dL_law_1447 : decode cL_law 1447 = .ok (.aload_n 0, 1) := by decide +kernel
theorem dL_law_1448 : decode cL_law 1448 = .ok (.iload 4, 2) := by decide +kernel
theorem dL_law_1450 : decode cL_law 1450 = .ok (.iconst 1, 1) := by decide +kernel
theorem dL_law_1451 : decode cL_law 1451 = .ok (.iadd, 1) := by decide +kernel
theorem dL_law_1452 : decode cL_law 1452 = .ok (.iaload, 1) := by decide +kernel
theorem dL_law_1453 : decode cL_law 1453 = .ok (.aload_n 3, 1) := by decide +kernel
theorem dL_law_1454 : decode cL_law 1454 = .ok (.invokestatic 238, 3) := by decide +kernel
theorem dL_law_1457 : decode cL_law 1457 = .ok (.istore 5, 2) := by decide +kernel
theorem dL_law_1459 : decode cL_law 1459 = .ok (.aload_n 2, 1) := by decide +kernel
theorem dL_law_1460 : decode cL_law 1460 = .ok (.aload_n 0, 1) := by decide +kernel
theorem dL_law_1461 : decode cL_law 1461 = .ok (.iload 4, 2) := by decide +kernel
theorem dL_law_1463 : decode cL_law 1463 = .ok (.iconst 1, 1) := by decide +kernel
theorem dL_law_1464 : decode cL_law 1464 = .ok (.iadd, 1) := by decide +kernel
theorem dL_law_1465 : decode cL_law 1465 = .ok (.iaload, 1) := by decide +kernel
theorem dL_law_1466 : decode cL_law 1466 = .ok (.invokevirtual 240, 3) := by decide +kernel
theorem dL_law_1469 : decode cL_law 1469 = .ok (.istore 6, 2) := by decide +kernel
theorem dL_law_1471 : decode cL_law 1471 = .ok (.aload_n 2, 1) := by decide +kernel
theorem dL_law_1472 : decode cL_law 1472 = .ok (.invokevirtual 126, 3) := by decide +kernel
theorem dL_law_1475 : decode cL_law 1475 = .ok (.iload 5, 2) := by decide +kernel
theorem dL_law_1477 : decode cL_law 1477 = .ok (.if_icmp .eq 5, 3) := by decide +kernel
theorem dL_law_1480 : decode cL_law 1480 = .ok (.iconst 0, 1) := by decide +kernel
theorem dL_law_1481 : decode cL_law 1481 = .ok (.ireturn, 1) := by decide +kernel
theorem dL_law_1482 : decode cL_law 1482 = .ok (.iload 5, 2) := by decide +kernel
theorem dL_law_1484 : decode cL_law 1484 = .ok (.ifCond .ne 15, 3) := by decide +kernel
theorem dL_law_1487 : decode cL_law 1487 = .ok (.aload_n 3, 1) := by decide +kernel
theorem dL_law_1488 : decode cL_law 1488 = .ok (.iconst 0, 1) := by decide +kernel
theorem dL_law_1489 : decode cL_law 1489 = .ok (.laload, 1) := by decide +kernel
theorem dL_law_1490 : decode cL_law 1490 = .ok (.iload 6, 2) := by decide +kernel
theorem dL_law_1492 : decode cL_law 1492 = .ok (.i2l, 1) := by decide +kernel
theorem dL_law_1493 : decode cL_law 1493 = .ok (.lcmp, 1) := by decide +kernel
theorem dL_law_1494 : decode cL_law 1494 = .ok (.ifCond .eq 5, 3) := by decide +kernel
theorem dL_law_1497 : decode cL_law 1497 = .ok (.iconst 0, 1) := by decide +kernel
theorem dL_law_1498 : decode cL_law 1498 = .ok (.ireturn, 1) := by decide +kernel
theorem dL_law_1499 : decode cL_law 1499 = .ok (.goto 1053, 3) := by decide +kernel
theorem dL_law_1502 : decode cL_law 1502 = .ok (.aload_n 1, 1) := by decide +kernel
theorem dL_law_1503 : decode cL_law 1503 = .ok (.invokevirtual 241, 3) := by decide +kernel
theorem dL_law_1506 : decode cL_law 1506 = .ok (.aload_n 2, 1) := by decide +kernel
theorem dL_law_1507 : decode cL_law 1507 = .ok (.invokevirtual 244, 3) := by decide +kernel
theorem dL_law_1510 : decode cL_law 1510 = .ok (.if_icmp .eq 1042, 3) := by decide +kernel
theorem dL_law_1513 : decode cL_law 1513 = .ok (.iconst 0, 1) := by decide +kernel
theorem dL_law_1514 : decode cL_law 1514 = .ok (.ireturn, 1) := by decide +kernel
theorem dL_law_1515 : decode cL_law 1515 = .ok (.aload_n 1, 1) := by decide +kernel
theorem dL_law_1516 : decode cL_law 1516 = .ok (.aload_n 0, 1) := by decide +kernel
theorem dL_law_1517 : decode cL_law 1517 = .ok (.iload 4, 2) := by decide +kernel
theorem dL_law_1519 : decode cL_law 1519 = .ok (.iconst 1, 1) := by decide +kernel
theorem dL_law_1520 : decode cL_law 1520 = .ok (.iadd, 1) := by decide +kernel
theorem dL_law_1521 : decode cL_law 1521 = .ok (.iaload, 1) := by decide +kernel
theorem dL_law_1522 : decode cL_law 1522 = .ok (.aload_n 0, 1) := by decide +kernel
theorem dL_law_1523 : decode cL_law 1523 = .ok (.iload 4, 2) := by decide +kernel
theorem dL_law_1525 : decode cL_law 1525 = .ok (.iconst 2, 1) := by decide +kernel
theorem dL_law_1526 : decode cL_law 1526 = .ok (.iadd, 1) := by decide +kernel
theorem dL_law_1527 : decode cL_law 1527 = .ok (.iaload, 1) := by decide +kernel
theorem dL_law_1528 : decode cL_law 1528 = .ok (.aload_n 3, 1) := by decide +kernel
theorem dL_law_1529 : decode cL_law 1529 = .ok (.invokestatic 245, 3) := by decide +kernel
theorem dL_law_1532 : decode cL_law 1532 = .ok (.istore 5, 2) := by decide +kernel
theorem dL_law_1534 : decode cL_law 1534 = .ok (.aload_n 2, 1) := by decide +kernel
theorem dL_law_1535 : decode cL_law 1535 = .ok (.aload_n 0, 1) := by decide +kernel
theorem dL_law_1536 : decode cL_law 1536 = .ok (.iload 4, 2) := by decide +kernel
theorem dL_law_1538 : decode cL_law 1538 = .ok (.iconst 1, 1) := by decide +kernel
theorem dL_law_1539 : decode cL_law 1539 = .ok (.iadd, 1) := by decide +kernel
theorem dL_law_1540 : decode cL_law 1540 = .ok (.iaload, 1) := by decide +kernel
theorem dL_law_1541 : decode cL_law 1541 = .ok (.aload_n 0, 1) := by decide +kernel
theorem dL_law_1542 : decode cL_law 1542 = .ok (.iload 4, 2) := by decide +kernel
theorem dL_law_1544 : decode cL_law 1544 = .ok (.iconst 2, 1) := by decide +kernel
theorem dL_law_1545 : decode cL_law 1545 = .ok (.iadd, 1) := by decide +kernel
theorem dL_law_1546 : decode cL_law 1546 = .ok (.iaload, 1) := by decide +kernel
theorem dL_law_1547 : decode cL_law 1547 = .ok (.invokevirtual 247, 3) := by decide +kernel
theorem dL_law_1550 : decode cL_law 1550 = .ok (.istore 6, 2) := by decide +kernel
theorem dL_law_1552 : decode cL_law 1552 = .ok (.aload_n 2, 1) := by decide +kernel
theorem dL_law_1553 : decode cL_law 1553 = .ok (.invokevirtual 126, 3) := by decide +kernel
theorem dL_law_1556 : decode cL_law 1556 = .ok (.iload 5, 2) := by decide +kernel
theorem dL_law_1558 : decode cL_law 1558 = .ok (.if_icmp .eq 5, 3) := by decide +kernel
theorem dL_law_1561 : decode cL_law 1561 = .ok (.iconst 0, 1) := by decide +kernel
theorem dL_law_1562 : decode cL_law 1562 = .ok (.ireturn, 1) := by decide +kernel
theorem dL_law_1563 : decode cL_law 1563 = .ok (.iload 5, 2) := by decide +kernel
theorem dL_law_1565 : decode cL_law 1565 = .ok (.ifCond .ne 15, 3) := by decide +kernel
theorem dL_law_1568 : decode cL_law 1568 = .ok (.aload_n 3, 1) := by decide +kernel
theorem dL_law_1569 : decode cL_law 1569 = .ok (.iconst 0, 1) := by decide +kernel
theorem dL_law_1570 : decode cL_law 1570 = .ok (.laload, 1) := by decide +kernel
theorem dL_law_1571 : decode cL_law 1571 = .ok (.iload 6, 2) := by decide +kernel
theorem dL_law_1573 : decode cL_law 1573 = .ok (.i2l, 1) := by decide +kernel
theorem dL_law_1574 : decode cL_law 1574 = .ok (.lcmp, 1) := by decide +kernel
theorem dL_law_1575 : decode cL_law 1575 = .ok (.ifCond .eq 5, 3) := by decide +kernel
theorem dL_law_1578 : decode cL_law 1578 = .ok (.iconst 0, 1) := by decide +kernel
theorem dL_law_1579 : decode cL_law 1579 = .ok (.ireturn, 1) := by decide +kernel
theorem dL_law_1580 : decode cL_law 1580 = .ok (.goto 972, 3) := by decide +kernel
theorem dL_law_1583 : decode cL_law 1583 = .ok (.aload_n 1, 1) := by decide +kernel
theorem dL_law_1584 : decode cL_law 1584 = .ok (.invokevirtual 248, 3) := by decide +kernel
theorem dL_law_1587 : decode cL_law 1587 = .ok (.aload_n 2, 1) := by decide +kernel
theorem dL_law_1588 : decode cL_law 1588 = .ok (.invokevirtual 251, 3) := by decide +kernel
theorem dL_law_1591 : decode cL_law 1591 = .ok (.if_icmp .eq 961, 3) := by decide +kernel
theorem dL_law_1594 : decode cL_law 1594 = .ok (.iconst 0, 1) := by decide +kernel
theorem dL_law_1595 : decode cL_law 1595 = .ok (.ireturn, 1) := by decide +kernel
theorem dL_law_1596 : decode cL_law 1596 = .ok (.aload_n 1, 1) := by decide +kernel
theorem dL_law_1597 : decode cL_law 1597 = .ok (.invokevirtual 252, 3) := by decide +kernel
theorem dL_law_1600 : decode cL_law 1600 = .ok (.aload_n 2, 1) := by decide +kernel
theorem dL_law_1601 : decode cL_law 1601 = .ok (.invokevirtual 255, 3) := by decide +kernel
theorem dL_law_1604 : decode cL_law 1604 = .ok (.if_icmp .eq 948, 3) := by decide +kernel
theorem dL_law_1607 : decode cL_law 1607 = .ok (.iconst 0, 1) := by decide +kernel
theorem dL_law_1608 : decode cL_law 1608 = .ok (.ireturn, 1) := by decide +kernel
theorem dL_law_1609 : decode cL_law 1609 = .ok (.aload_n 1, 1) := by decide +kernel
theorem dL_law_1610 : decode cL_law 1610 = .ok (.invokevirtual 256, 3) := by decide +kernel
theorem dL_law_1613 : decode cL_law 1613 = .ok (.aload_n 2, 1) := by decide +kernel
theorem dL_law_1614 : decode cL_law 1614 = .ok (.invokevirtual 259, 3) := by decide +kernel
theorem dL_law_1617 : decode cL_law 1617 = .ok (.if_icmp .eq 935, 3) := by decide +kernel
theorem dL_law_1620 : decode cL_law 1620 = .ok (.iconst 0, 1) := by decide +kernel
theorem dL_law_1621 : decode cL_law 1621 = .ok (.ireturn, 1) := by decide +kernel
theorem dL_law_1622 : decode cL_law 1622 = .ok (.aload_n 1, 1) := by decide +kernel
theorem dL_law_1623 : decode cL_law 1623 = .ok (.invokevirtual 260, 3) := by decide +kernel
theorem dL_law_1626 : decode cL_law 1626 = .ok (.aload_n 2, 1) := by decide +kernel
theorem dL_law_1627 : decode cL_law 1627 = .ok (.invokevirtual 263, 3) := by decide +kernel
theorem dL_law_1630 : decode cL_law 1630 = .ok (.if_icmp .eq 922, 3) := by decide +kernel
theorem dL_law_1633 : decode cL_law 1633 = .ok (.iconst 0, 1) := by decide +kernel
theorem dL_law_1634 : decode cL_law 1634 = .ok (.ireturn, 1) := by decide +kernel
theorem dL_law_1635 : decode cL_law 1635 = .ok (.aload_n 1, 1) := by decide +kernel
theorem dL_law_1636 : decode cL_law 1636 = .ok (.invokevirtual 264, 3) := by decide +kernel
theorem dL_law_1639 : decode cL_law 1639 = .ok (.f2d, 1) := by decide +kernel
theorem dL_law_1640 : decode cL_law 1640 = .ok (.dstore 5, 2) := by decide +kernel
theorem dL_law_1642 : decode cL_law 1642 = .ok (.aload_n 2, 1) := by decide +kernel
theorem dL_law_1643 : decode cL_law 1643 = .ok (.invokevirtual 268, 3) := by decide +kernel
theorem dL_law_1646 : decode cL_law 1646 = .ok (.f2d, 1) := by decide +kernel
theorem dL_law_1647 : decode cL_law 1647 = .ok (.dstore 7, 2) := by decide +kernel
theorem dL_law_1649 : decode cL_law 1649 = .ok (.dload 5, 2) := by decide +kernel
theorem dL_law_1651 : decode cL_law 1651 = .ok (.dload 7, 2) := by decide +kernel
theorem dL_law_1653 : decode cL_law 1653 = .ok (.dcmp .l, 1) := by decide +kernel
theorem dL_law_1654 : decode cL_law 1654 = .ok (.ifCond .eq 21, 3) := by decide +kernel
theorem dL_law_1657 : decode cL_law 1657 = .ok (.dload 5, 2) := by decide +kernel
theorem dL_law_1659 : decode cL_law 1659 = .ok (.dload 5, 2) := by decide +kernel
theorem dL_law_1661 : decode cL_law 1661 = .ok (.dcmp .l, 1) := by decide +kernel
theorem dL_law_1662 : decode cL_law 1662 = .ok (.ifCond .eq 11, 3) := by decide +kernel
theorem dL_law_1665 : decode cL_law 1665 = .ok (.dload 7, 2) := by decide +kernel
theorem dL_law_1667 : decode cL_law 1667 = .ok (.dload 7, 2) := by decide +kernel
theorem dL_law_1669 : decode cL_law 1669 = .ok (.dcmp .l, 1) := by decide +kernel
theorem dL_law_1670 : decode cL_law 1670 = .ok (.ifCond .ne 5, 3) := by decide +kernel
theorem dL_law_1673 : decode cL_law 1673 = .ok (.iconst 0, 1) := by decide +kernel
theorem dL_law_1674 : decode cL_law 1674 = .ok (.ireturn, 1) := by decide +kernel
theorem dL_law_1675 : decode cL_law 1675 = .ok (.goto 877, 3) := by decide +kernel
theorem dL_law_1678 : decode cL_law 1678 = .ok (.aload_n 1, 1) := by decide +kernel
theorem dL_law_1679 : decode cL_law 1679 = .ok (.invokevirtual 269, 3) := by decide +kernel
theorem dL_law_1682 : decode cL_law 1682 = .ok (.aload_n 2, 1) := by decide +kernel
theorem dL_law_1683 : decode cL_law 1683 = .ok (.invokevirtual 272, 3) := by decide +kernel
theorem dL_law_1686 : decode cL_law 1686 = .ok (.if_icmp .eq 866, 3) := by decide +kernel
theorem dL_law_1689 : decode cL_law 1689 = .ok (.iconst 0, 1) := by decide +kernel
theorem dL_law_1690 : decode cL_law 1690 = .ok (.ireturn, 1) := by decide +kernel
theorem dL_law_1691 : decode cL_law 1691 = .ok (.aload_n 1, 1) := by decide +kernel
theorem dL_law_1692 : decode cL_law 1692 = .ok (.invokevirtual 273, 3) := by decide +kernel
theorem dL_law_1695 : decode cL_law 1695 = .ok (.aload_n 2, 1) := by decide +kernel
theorem dL_law_1696 : decode cL_law 1696 = .ok (.invokevirtual 276, 3) := by decide +kernel
theorem dL_law_1699 : decode cL_law 1699 = .ok (.if_icmp .eq 853, 3) := by decide +kernel
theorem dL_law_1702 : decode cL_law 1702 = .ok (.iconst 0, 1) := by decide +kernel
theorem dL_law_1703 : decode cL_law 1703 = .ok (.ireturn, 1) := by decide +kernel
theorem dL_law_1704 : decode cL_law 1704 = .ok (.aload_n 1, 1) := by decide +kernel
theorem dL_law_1705 : decode cL_law 1705 = .ok (.invokevirtual 277, 3) := by decide +kernel
theorem dL_law_1708 : decode cL_law 1708 = .ok (.dstore 5, 2) := by decide +kernel
theorem dL_law_1710 : decode cL_law 1710 = .ok (.aload_n 2, 1) := by decide +kernel
theorem dL_law_1711 : decode cL_law 1711 = .ok (.invokevirtual 281, 3) := by decide +kernel
theorem dL_law_1714 : decode cL_law 1714 = .ok (.dstore 7, 2) := by decide +kernel
theorem dL_law_1716 : decode cL_law 1716 = .ok (.dload 5, 2) := by decide +kernel
theorem dL_law_1718 : decode cL_law 1718 = .ok (.dload 7, 2) := by decide +kernel
theorem dL_law_1720 : decode cL_law 1720 = .ok (.dcmp .l, 1) := by decide +kernel
theorem dL_law_1721 : decode cL_law 1721 = .ok (.ifCond .eq 21, 3) := by decide +kernel
theorem dL_law_1724 : decode cL_law 1724 = .ok (.dload 5, 2) := by decide +kernel
theorem dL_law_1726 : decode cL_law 1726 = .ok (.dload 5, 2) := by decide +kernel
theorem dL_law_1728 : decode cL_law 1728 = .ok (.dcmp .l, 1) := by decide +kernel
theorem dL_law_1729 : decode cL_law 1729 = .ok (.ifCond .eq 11, 3) := by decide +kernel
theorem dL_law_1732 : decode cL_law 1732 = .ok (.dload 7, 2) := by decide +kernel
theorem dL_law_1734 : decode cL_law 1734 = .ok (.dload 7, 2) := by decide +kernel
theorem dL_law_1736 : decode cL_law 1736 = .ok (.dcmp .l, 1) := by decide +kernel
theorem dL_law_1737 : decode cL_law 1737 = .ok (.ifCond .ne 5, 3) := by decide +kernel
theorem dL_law_1740 : decode cL_law 1740 = .ok (.iconst 0, 1) := by decide +kernel
theorem dL_law_1741 : decode cL_law 1741 = .ok (.ireturn, 1) := by decide +kernel
theorem dL_law_1742 : decode cL_law 1742 = .ok (.goto 810, 3) := by decide +kernel
theorem dL_law_1745 : decode cL_law 1745 = .ok (.aload_n 1, 1) := by decide +kernel
theorem dL_law_1746 : decode cL_law 1746 = .ok (.invokevirtual 282, 3) := by decide +kernel
theorem dL_law_1749 : decode cL_law 1749 = .ok (.aload_n 2, 1) := by decide +kernel
theorem dL_law_1750 : decode cL_law 1750 = .ok (.invokevirtual 285, 3) := by decide +kernel
theorem dL_law_1753 : decode cL_law 1753 = .ok (.if_icmp .eq 799, 3) := by decide +kernel
theorem dL_law_1756 : decode cL_law 1756 = .ok (.iconst 0, 1) := by decide +kernel
theorem dL_law_1757 : decode cL_law 1757 = .ok (.ireturn, 1) := by decide +kernel
theorem dL_law_1758 : decode cL_law 1758 = .ok (.aload_n 1, 1) := by decide +kernel
theorem dL_law_1759 : decode cL_law 1759 = .ok (.invokevirtual 286, 3) := by decide +kernel
theorem dL_law_1762 : decode cL_law 1762 = .ok (.aload_n 2, 1) := by decide +kernel
theorem dL_law_1763 : decode cL_law 1763 = .ok (.invokevirtual 289, 3) := by decide +kernel
theorem dL_law_1766 : decode cL_law 1766 = .ok (.if_icmp .eq 786, 3) := by decide +kernel
theorem dL_law_1769 : decode cL_law 1769 = .ok (.iconst 0, 1) := by decide +kernel
theorem dL_law_1770 : decode cL_law 1770 = .ok (.ireturn, 1) := by decide +kernel
theorem dL_law_1771 : decode cL_law 1771 = .ok (.aload_n 1, 1) := by decide +kernel
theorem dL_law_1772 : decode cL_law 1772 = .ok (.aload_n 0, 1) := by decide +kernel
theorem dL_law_1773 : decode cL_law 1773 = .ok (.iload 4, 2) := by decide +kernel
theorem dL_law_1775 : decode cL_law 1775 = .ok (.iconst 1, 1) := by decide +kernel
theorem dL_law_1776 : decode cL_law 1776 = .ok (.iadd, 1) := by decide +kernel
theorem dL_law_1777 : decode cL_law 1777 = .ok (.iaload, 1) := by decide +kernel
theorem dL_law_1778 : decode cL_law 1778 = .ok (.aload_n 3, 1) := by decide +kernel
theorem dL_law_1779 : decode cL_law 1779 = .ok (.invokestatic 290, 3) := by decide +kernel
theorem dL_law_1782 : decode cL_law 1782 = .ok (.istore 5, 2) := by decide +kernel
theorem dL_law_1784 : decode cL_law 1784 = .ok (.aload_n 2, 1) := by decide +kernel
theorem dL_law_1785 : decode cL_law 1785 = .ok (.aload_n 0, 1) := by decide +kernel
theorem dL_law_1786 : decode cL_law 1786 = .ok (.iload 4, 2) := by decide +kernel
theorem dL_law_1788 : decode cL_law 1788 = .ok (.iconst 1, 1) := by decide +kernel
theorem dL_law_1789 : decode cL_law 1789 = .ok (.iadd, 1) := by decide +kernel
theorem dL_law_1790 : decode cL_law 1790 = .ok (.iaload, 1) := by decide +kernel
theorem dL_law_1791 : decode cL_law 1791 = .ok (.invokevirtual 292, 3) := by decide +kernel
theorem dL_law_1794 : decode cL_law 1794 = .ok (.istore 6, 2) := by decide +kernel
theorem dL_law_1796 : decode cL_law 1796 = .ok (.aload_n 2, 1) := by decide +kernel
theorem dL_law_1797 : decode cL_law 1797 = .ok (.invokevirtual 126, 3) := by decide +kernel
theorem dL_law_1800 : decode cL_law 1800 = .ok (.iload 5, 2) := by decide +kernel
theorem dL_law_1802 : decode cL_law 1802 = .ok (.if_icmp .eq 5, 3) := by decide +kernel
theorem dL_law_1805 : decode cL_law 1805 = .ok (.iconst 0, 1) := by decide +kernel
theorem dL_law_1806 : decode cL_law 1806 = .ok (.ireturn, 1) := by decide +kernel
theorem dL_law_1807 : decode cL_law 1807 = .ok (.iload 5, 2) := by decide +kernel
theorem dL_law_1809 : decode cL_law 1809 = .ok (.ifCond .ne 15, 3) := by decide +kernel
theorem dL_law_1812 : decode cL_law 1812 = .ok (.aload_n 3, 1) := by decide +kernel
theorem dL_law_1813 : decode cL_law 1813 = .ok (.iconst 0, 1) := by decide +kernel
theorem dL_law_1814 : decode cL_law 1814 = .ok (.laload, 1) := by decide +kernel
theorem dL_law_1815 : decode cL_law 1815 = .ok (.iload 6, 2) := by decide +kernel
theorem dL_law_1817 : decode cL_law 1817 = .ok (.i2l, 1) := by decide +kernel
theorem dL_law_1818 : decode cL_law 1818 = .ok (.lcmp, 1) := by decide +kernel
theorem dL_law_1819 : decode cL_law 1819 = .ok (.ifCond .eq 5, 3) := by decide +kernel
theorem dL_law_1822 : decode cL_law 1822 = .ok (.iconst 0, 1) := by decide +kernel
theorem dL_law_1823 : decode cL_law 1823 = .ok (.ireturn, 1) := by decide +kernel
theorem dL_law_1824 : decode cL_law 1824 = .ok (.goto 728, 3) := by decide +kernel
theorem dL_law_1827 : decode cL_law 1827 = .ok (.aload_n 1, 1) := by decide +kernel
theorem dL_law_1828 : decode cL_law 1828 = .ok (.aload_n 0, 1) := by decide +kernel
theorem dL_law_1829 : decode cL_law 1829 = .ok (.iload 4, 2) := by decide +kernel
theorem dL_law_1831 : decode cL_law 1831 = .ok (.iconst 1, 1) := by decide +kernel
theorem dL_law_1832 : decode cL_law 1832 = .ok (.iadd, 1) := by decide +kernel
theorem dL_law_1833 : decode cL_law 1833 = .ok (.iaload, 1) := by decide +kernel
theorem dL_law_1834 : decode cL_law 1834 = .ok (.aload_n 3, 1) := by decide +kernel
theorem dL_law_1835 : decode cL_law 1835 = .ok (.invokestatic 293, 3) := by decide +kernel
theorem dL_law_1838 : decode cL_law 1838 = .ok (.istore 5, 2) := by decide +kernel
theorem dL_law_1840 : decode cL_law 1840 = .ok (.aload_n 2, 1) := by decide +kernel
theorem dL_law_1841 : decode cL_law 1841 = .ok (.aload_n 0, 1) := by decide +kernel
theorem dL_law_1842 : decode cL_law 1842 = .ok (.iload 4, 2) := by decide +kernel
theorem dL_law_1844 : decode cL_law 1844 = .ok (.iconst 1, 1) := by decide +kernel
theorem dL_law_1845 : decode cL_law 1845 = .ok (.iadd, 1) := by decide +kernel
theorem dL_law_1846 : decode cL_law 1846 = .ok (.iaload, 1) := by decide +kernel
theorem dL_law_1847 : decode cL_law 1847 = .ok (.invokevirtual 295, 3) := by decide +kernel
theorem dL_law_1850 : decode cL_law 1850 = .ok (.istore 6, 2) := by decide +kernel
theorem dL_law_1852 : decode cL_law 1852 = .ok (.aload_n 2, 1) := by decide +kernel
theorem dL_law_1853 : decode cL_law 1853 = .ok (.invokevirtual 126, 3) := by decide +kernel
theorem dL_law_1856 : decode cL_law 1856 = .ok (.iload 5, 2) := by decide +kernel
theorem dL_law_1858 : decode cL_law 1858 = .ok (.if_icmp .eq 5, 3) := by decide +kernel
theorem dL_law_1861 : decode cL_law 1861 = .ok (.iconst 0, 1) := by decide +kernel
theorem dL_law_1862 : decode cL_law 1862 = .ok (.ireturn, 1) := by decide +kernel
theorem dL_law_1863 : decode cL_law 1863 = .ok (.iload 5, 2) := by decide +kernel
theorem dL_law_1865 : decode cL_law 1865 = .ok (.ifCond .ne 15, 3) := by decide +kernel
theorem dL_law_1868 : decode cL_law 1868 = .ok (.aload_n 3, 1) := by decide +kernel
theorem dL_law_1869 : decode cL_law 1869 = .ok (.iconst 0, 1) := by decide +kernel
theorem dL_law_1870 : decode cL_law 1870 = .ok (.laload, 1) := by decide +kernel
theorem dL_law_1871 : decode cL_law 1871 = .ok (.iload 6, 2) := by decide +kernel
theorem dL_law_1873 : decode cL_law 1873 = .ok (.i2l, 1) := by decide +kernel
theorem dL_law_1874 : decode cL_law 1874 = .ok (.lcmp, 1) := by decide +kernel
theorem dL_law_1875 : decode cL_law 1875 = .ok (.ifCond .eq 5, 3) := by decide +kernel
theorem dL_law_1878 : decode cL_law 1878 = .ok (.iconst 0, 1) := by decide +kernel
theorem dL_law_1879 : decode cL_law 1879 = .ok (.ireturn, 1) := by decide +kernel
theorem dL_law_1880 : decode cL_law 1880 = .ok (.goto 672, 3) := by decide +kernel
theorem dL_law_1883 : decode cL_law 1883 = .ok (.aload_n 1, 1) := by decide +kernel
theorem dL_law_1884 : decode cL_law 1884 = .ok (.aload_n 0, 1) := by decide +kernel
theorem dL_law_1885 : decode cL_law 1885 = .ok (.iload 4, 2) := by decide +kernel
theorem dL_law_1887 : decode cL_law 1887 = .ok (.iconst 1, 1) := by decide +kernel
theorem dL_law_1888 : decode cL_law 1888 = .ok (.iadd, 1) := by decide +kernel
theorem dL_law_1889 : decode cL_law 1889 = .ok (.iaload, 1) := by decide +kernel
theorem dL_law_1890 : decode cL_law 1890 = .ok (.aload_n 3, 1) := by decide +kernel
theorem dL_law_1891 : decode cL_law 1891 = .ok (.invokestatic 296, 3) := by decide +kernel
theorem dL_law_1894 : decode cL_law 1894 = .ok (.istore 5, 2) := by decide +kernel
theorem dL_law_1896 : decode cL_law 1896 = .ok (.aload_n 2, 1) := by decide +kernel
theorem dL_law_1897 : decode cL_law 1897 = .ok (.aload_n 0, 1) := by decide +kernel
theorem dL_law_1898 : decode cL_law 1898 = .ok (.iload 4, 2) := by decide +kernel
theorem dL_law_1900 : decode cL_law 1900 = .ok (.iconst 1, 1) := by decide +kernel
theorem dL_law_1901 : decode cL_law 1901 = .ok (.iadd, 1) := by decide +kernel
theorem dL_law_1902 : decode cL_law 1902 = .ok (.iaload, 1) := by decide +kernel
theorem dL_law_1903 : decode cL_law 1903 = .ok (.invokevirtual 298, 3) := by decide +kernel
theorem dL_law_1906 : decode cL_law 1906 = .ok (.istore 6, 2) := by decide +kernel
theorem dL_law_1908 : decode cL_law 1908 = .ok (.aload_n 2, 1) := by decide +kernel
theorem dL_law_1909 : decode cL_law 1909 = .ok (.invokevirtual 126, 3) := by decide +kernel
theorem dL_law_1912 : decode cL_law 1912 = .ok (.iload 5, 2) := by decide +kernel
theorem dL_law_1914 : decode cL_law 1914 = .ok (.if_icmp .eq 5, 3) := by decide +kernel
theorem dL_law_1917 : decode cL_law 1917 = .ok (.iconst 0, 1) := by decide +kernel
theorem dL_law_1918 : decode cL_law 1918 = .ok (.ireturn, 1) := by decide +kernel
theorem dL_law_1919 : decode cL_law 1919 = .ok (.iload 5, 2) := by decide +kernel
theorem dL_law_1921 : decode cL_law 1921 = .ok (.ifCond .ne 15, 3) := by decide +kernel
theorem dL_law_1924 : decode cL_law 1924 = .ok (.aload_n 3, 1) := by decide +kernel
theorem dL_law_1925 : decode cL_law 1925 = .ok (.iconst 0, 1) := by decide +kernel
theorem dL_law_1926 : decode cL_law 1926 = .ok (.laload, 1) := by decide +kernel
theorem dL_law_1927 : decode cL_law 1927 = .ok (.iload 6, 2) := by decide +kernel
theorem dL_law_1929 : decode cL_law 1929 = .ok (.i2l, 1) := by decide +kernel
theorem dL_law_1930 : decode cL_law 1930 = .ok (.lcmp, 1) := by decide +kernel
theorem dL_law_1931 : decode cL_law 1931 = .ok (.ifCond .eq 5, 3) := by decide +kernel
theorem dL_law_1934 : decode cL_law 1934 = .ok (.iconst 0, 1) := by decide +kernel
theorem dL_law_1935 : decode cL_law 1935 = .ok (.ireturn, 1) := by decide +kernel
theorem dL_law_1936 : decode cL_law 1936 = .ok (.goto 616, 3) := by decide +kernel
theorem dL_law_1939 : decode cL_law 1939 = .ok (.aload_n 1, 1) := by decide +kernel
theorem dL_law_1940 : decode cL_law 1940 = .ok (.invokevirtual 299, 3) := by decide +kernel
theorem dL_law_1943 : decode cL_law 1943 = .ok (.aload_n 2, 1) := by decide +kernel
theorem dL_law_1944 : decode cL_law 1944 = .ok (.invokevirtual 302, 3) := by decide +kernel
theorem dL_law_1947 : decode cL_law 1947 = .ok (.if_icmp .eq 605, 3) := by decide +kernel
theorem dL_law_1950 : decode cL_law 1950 = .ok (.iconst 0, 1) := by decide +kernel
theorem dL_law_1951 : decode cL_law 1951 = .ok (.ireturn, 1) := by decide +kernel
theorem dL_law_1952 : decode cL_law 1952 = .ok (.aload_n 1, 1) := by decide +kernel
theorem dL_law_1953 : decode cL_law 1953 = .ok (.aload_n 0, 1) := by decide +kernel
theorem dL_law_1954 : decode cL_law 1954 = .ok (.iload 4, 2) := by decide +kernel
theorem dL_law_1956 : decode cL_law 1956 = .ok (.iconst 1, 1) := by decide +kernel
theorem dL_law_1957 : decode cL_law 1957 = .ok (.iadd, 1) := by decide +kernel
theorem dL_law_1958 : decode cL_law 1958 = .ok (.iaload, 1) := by decide +kernel
theorem dL_law_1959 : decode cL_law 1959 = .ok (.aload_n 3, 1) := by decide +kernel
theorem dL_law_1960 : decode cL_law 1960 = .ok (.invokestatic 303, 3) := by decide +kernel
theorem dL_law_1963 : decode cL_law 1963 = .ok (.istore 5, 2) := by decide +kernel
theorem dL_law_1965 : decode cL_law 1965 = .ok (.aload_n 2, 1) := by decide +kernel
theorem dL_law_1966 : decode cL_law 1966 = .ok (.aload_n 0, 1) := by decide +kernel
theorem dL_law_1967 : decode cL_law 1967 = .ok (.iload 4, 2) := by decide +kernel
theorem dL_law_1969 : decode cL_law 1969 = .ok (.iconst 1, 1) := by decide +kernel
theorem dL_law_1970 : decode cL_law 1970 = .ok (.iadd, 1) := by decide +kernel
theorem dL_law_1971 : decode cL_law 1971 = .ok (.iaload, 1) := by decide +kernel
theorem dL_law_1972 : decode cL_law 1972 = .ok (.invokevirtual 305, 3) := by decide +kernel
theorem dL_law_1975 : decode cL_law 1975 = .ok (.istore 6, 2) := by decide +kernel
theorem dL_law_1977 : decode cL_law 1977 = .ok (.aload_n 2, 1) := by decide +kernel
theorem dL_law_1978 : decode cL_law 1978 = .ok (.invokevirtual 126, 3) := by decide +kernel
theorem dL_law_1981 : decode cL_law 1981 = .ok (.iload 5, 2) := by decide +kernel
theorem dL_law_1983 : decode cL_law 1983 = .ok (.if_icmp .eq 5, 3) := by decide +kernel
theorem dL_law_1986 : decode cL_law 1986 = .ok (.iconst 0, 1) := by decide +kernel
theorem dL_law_1987 : decode cL_law 1987 = .ok (.ireturn, 1) := by decide +kernel
theorem dL_law_1988 : decode cL_law 1988 = .ok (.iload 5, 2) := by decide +kernel
theorem dL_law_1990 : decode cL_law 1990 = .ok (.ifCond .ne 15, 3) := by decide +kernel
theorem dL_law_1993 : decode cL_law 1993 = .ok (.aload_n 3, 1) := by decide +kernel
theorem dL_law_1994 : decode cL_law 1994 = .ok (.iconst 0, 1) := by decide +kernel
theorem dL_law_1995 : decode cL_law 1995 = .ok (.laload, 1) := by decide +kernel
theorem dL_law_1996 : decode cL_law 1996 = .ok (.iload 6, 2) := by decide +kernel
theorem dL_law_1998 : decode cL_law 1998 = .ok (.i2l, 1) := by decide +kernel
theorem dL_law_1999 : decode cL_law 1999 = .ok (.lcmp, 1) := by decide +kernel
theorem dL_law_2000 : decode cL_law 2000 = .ok (.ifCond .eq 5, 3) := by decide +kernel
theorem dL_law_2003 : decode cL_law 2003 = .ok (.iconst 0, 1) := by decide +kernel
theorem dL_law_2004 : decode cL_law 2004 = .ok (.ireturn, 1) := by decide +kernel
theorem dL_law_2005 : decode cL_law 2005 = .ok (.goto 547, 3) := by decide +kernel
theorem dL_law_2008 : decode cL_law 2008 = .ok (.aload_n 1, 1) := by decide +kernel
theorem dL_law_2009 : decode cL_law 2009 = .ok (.aload_n 0, 1) := by decide +kernel
theorem dL_law_2010 : decode cL_law 2010 = .ok (.iload 4, 2) := by decide +kernel
theorem dL_law_2012 : decode cL_law 2012 = .ok (.iconst 1, 1) := by decide +kernel
theorem dL_law_2013 : decode cL_law 2013 = .ok (.iadd, 1) := by decide +kernel
theorem dL_law_2014 : decode cL_law 2014 = .ok (.iaload, 1) := by decide +kernel
theorem dL_law_2015 : decode cL_law 2015 = .ok (.aload_n 3, 1) := by decide +kernel
theorem dL_law_2016 : decode cL_law 2016 = .ok (.invokestatic 306, 3) := by decide +kernel
theorem dL_law_2019 : decode cL_law 2019 = .ok (.istore 5, 2) := by decide +kernel
theorem dL_law_2021 : decode cL_law 2021 = .ok (.aload_n 2, 1) := by decide +kernel
theorem dL_law_2022 : decode cL_law 2022 = .ok (.aload_n 0, 1) := by decide +kernel
theorem dL_law_2023 : decode cL_law 2023 = .ok (.iload 4, 2) := by decide +kernel
theorem dL_law_2025 : decode cL_law 2025 = .ok (.iconst 1, 1) := by decide +kernel
theorem dL_law_2026 : decode cL_law 2026 = .ok (.iadd, 1) := by decide +kernel
theorem dL_law_2027 : decode cL_law 2027 = .ok (.iaload, 1) := by decide +kernel
theorem dL_law_2028 : decode cL_law 2028 = .ok (.invokevirtual 308, 3) := by decide +kernel
theorem dL_law_2031 : decode cL_law 2031 = .ok (.istore 6, 2) := by decide +kernel
theorem dL_law_2033 : decode cL_law 2033 = .ok (.aload_n 2, 1) := by decide +kernel
theorem dL_law_2034 : decode cL_law 2034 = .ok (.invokevirtual 126, 3) := by decide +kernel
theorem dL_law_2037 : decode cL_law 2037 = .ok (.iload 5, 2) := by decide +kernel
theorem dL_law_2039 : decode cL_law 2039 = .ok (.if_icmp .eq 5, 3) := by decide +kernel
theorem dL_law_2042 : decode cL_law 2042 = .ok (.iconst 0, 1) := by decide +kernel
theorem dL_law_2043 : decode cL_law 2043 = .ok (.ireturn, 1) := by decide +kernel
theorem dL_law_2044 : decode cL_law 2044 = .ok (.iload 5, 2) := by decide +kernel
theorem dL_law_2046 : decode cL_law 2046 = .ok (.ifCond .ne 15, 3) := by decide +kernel
theorem dL_law_2049 : decode cL_law 2049 = .ok (.aload_n 3, 1) := by decide +kernel
theorem dL_law_2050 : decode cL_law 2050 = .ok (.iconst 0, 1) := by decide +kernel
theorem dL_law_2051 : decode cL_law 2051 = .ok (.laload, 1) := by decide +kernel
theorem dL_law_2052 : decode cL_law 2052 = .ok (.iload 6, 2) := by decide +kernel
theorem dL_law_2054 : decode cL_law 2054 = .ok (.i2l, 1) := by decide +kernel
theorem dL_law_2055 : decode cL_law 2055 = .ok (.lcmp, 1) := by decide +kernel
theorem dL_law_2056 : decode cL_law 2056 = .ok (.ifCond .eq 5, 3) := by decide +kernel
theorem dL_law_2059 : decode cL_law 2059 = .ok (.iconst 0, 1) := by decide +kernel
theorem dL_law_2060 : decode cL_law 2060 = .ok (.ireturn, 1) := by decide +kernel
theorem dL_law_2061 : decode cL_law 2061 = .ok (.goto 491, 3) := by decide +kernel
theorem dL_law_2064 : decode cL_law 2064 = .ok (.aload_n 1, 1) := by decide +kernel
theorem dL_law_2065 : decode cL_law 2065 = .ok (.aload_n 0, 1) := by decide +kernel
theorem dL_law_2066 : decode cL_law 2066 = .ok (.iload 4, 2) := by decide +kernel
theorem dL_law_2068 : decode cL_law 2068 = .ok (.iconst 1, 1) := by decide +kernel
theorem dL_law_2069 : decode cL_law 2069 = .ok (.iadd, 1) := by decide +kernel
theorem dL_law_2070 : decode cL_law 2070 = .ok (.iaload, 1) := by decide +kernel
theorem dL_law_2071 : decode cL_law 2071 = .ok (.aload_n 0, 1) := by decide +kernel
theorem dL_law_2072 : decode cL_law 2072 = .ok (.iload 4, 2) := by decide +kernel
theorem dL_law_2074 : decode cL_law 2074 = .ok (.iconst 2, 1) := by decide +kernel
theorem dL_law_2075 : decode cL_law 2075 = .ok (.iadd, 1) := by decide +kernel
theorem dL_law_2076 : decode cL_law 2076 = .ok (.iaload, 1) := by decide +kernel
theorem dL_law_2077 : decode cL_law 2077 = .ok (.aload_n 0, 1) := by decide +kernel
theorem dL_law_2078 : decode cL_law 2078 = .ok (.iload 4, 2) := by decide +kernel
theorem dL_law_2080 : decode cL_law 2080 = .ok (.iconst 3, 1) := by decide +kernel
theorem dL_law_2081 : decode cL_law 2081 = .ok (.iadd, 1) := by decide +kernel
theorem dL_law_2082 : decode cL_law 2082 = .ok (.iaload, 1) := by decide +kernel
theorem dL_law_2083 : decode cL_law 2083 = .ok (.aload_n 3, 1) := by decide +kernel
theorem dL_law_2084 : decode cL_law 2084 = .ok (.invokestatic 309, 3) := by decide +kernel
theorem dL_law_2087 : decode cL_law 2087 = .ok (.istore 5, 2) := by decide +kernel
theorem dL_law_2089 : decode cL_law 2089 = .ok (.aload_n 2, 1) := by decide +kernel
theorem dL_law_2090 : decode cL_law 2090 = .ok (.aload_n 0, 1) := by decide +kernel
theorem dL_law_2091 : decode cL_law 2091 = .ok (.iload 4, 2) := by decide +kernel
theorem dL_law_2093 : decode cL_law 2093 = .ok (.iconst 1, 1) := by decide +kernel
theorem dL_law_2094 : decode cL_law 2094 = .ok (.iadd, 1) := by decide +kernel
theorem dL_law_2095 : decode cL_law 2095 = .ok (.iaload, 1) := by decide +kernel
theorem dL_law_2096 : decode cL_law 2096 = .ok (.aload_n 0, 1) := by decide +kernel
theorem dL_law_2097 : decode cL_law 2097 = .ok (.iload 4, 2) := by decide +kernel
theorem dL_law_2099 : decode cL_law 2099 = .ok (.iconst 2, 1) := by decide +kernel
theorem dL_law_2100 : decode cL_law 2100 = .ok (.iadd, 1) := by decide +kernel
theorem dL_law_2101 : decode cL_law 2101 = .ok (.iaload, 1) := by decide +kernel
theorem dL_law_2102 : decode cL_law 2102 = .ok (.aload_n 0, 1) := by decide +kernel
theorem dL_law_2103 : decode cL_law 2103 = .ok (.iload 4, 2) := by decide +kernel
theorem dL_law_2105 : decode cL_law 2105 = .ok (.iconst 3, 1) := by decide +kernel
theorem dL_law_2106 : decode cL_law 2106 = .ok (.iadd, 1) := by decide +kernel
theorem dL_law_2107 : decode cL_law 2107 = .ok (.iaload, 1) := by decide +kernel
theorem dL_law_2108 : decode cL_law 2108 = .ok (.invokevirtual 312, 3) := by decide +kernel
theorem dL_law_2111 : decode cL_law 2111 = .ok (.istore 6, 2) := by decide +kernel
theorem dL_law_2113 : decode cL_law 2113 = .ok (.aload_n 2, 1) := by decide +kernel
theorem dL_law_2114 : decode cL_law 2114 = .ok (.invokevirtual 126, 3) := by decide +kernel
theorem dL_law_2117 : decode cL_law 2117 = .ok (.iload 5, 2) := by decide +kernel
theorem dL_law_2119 : decode cL_law 2119 = .ok (.if_icmp .eq 5, 3) := by decide +kernel
theorem dL_law_2122 : decode cL_law 2122 = .ok (.iconst 0, 1) := by decide +kernel
theorem dL_law_2123 : decode cL_law 2123 = .ok (.ireturn, 1) := by decide +kernel
theorem dL_law_2124 : decode cL_law 2124 = .ok (.iload 5, 2) := by decide +kernel
theorem dL_law_2126 : decode cL_law 2126 = .ok (.ifCond .ne 15, 3) := by decide +kernel
theorem dL_law_2129 : decode cL_law 2129 = .ok (.aload_n 3, 1) := by decide +kernel
theorem dL_law_2130 : decode cL_law 2130 = .ok (.iconst 0, 1) := by decide +kernel
theorem dL_law_2131 : decode cL_law 2131 = .ok (.laload, 1) := by decide +kernel
theorem dL_law_2132 : decode cL_law 2132 = .ok (.iload 6, 2) := by decide +kernel
theorem dL_law_2134 : decode cL_law 2134 = .ok (.i2l, 1) := by decide +kernel
theorem dL_law_2135 : decode cL_law 2135 = .ok (.lcmp, 1) := by decide +kernel
theorem dL_law_2136 : decode cL_law 2136 = .ok (.ifCond .eq 5, 3) := by decide +kernel
theorem dL_law_2139 : decode cL_law 2139 = .ok (.iconst 0, 1) := by decide +kernel
theorem dL_law_2140 : decode cL_law 2140 = .ok (.ireturn, 1) := by decide +kernel
theorem dL_law_2141 : decode cL_law 2141 = .ok (.goto 411, 3) := by decide +kernel
theorem dL_law_2144 : decode cL_law 2144 = .ok (.aload_n 1, 1) := by decide +kernel
theorem dL_law_2145 : decode cL_law 2145 = .ok (.aload_n 0, 1) := by decide +kernel
theorem dL_law_2146 : decode cL_law 2146 = .ok (.iload 4, 2) := by decide +kernel
theorem dL_law_2148 : decode cL_law 2148 = .ok (.iconst 1, 1) := by decide +kernel
theorem dL_law_2149 : decode cL_law 2149 = .ok (.iadd, 1) := by decide +kernel
theorem dL_law_2150 : decode cL_law 2150 = .ok (.iaload, 1) := by decide +kernel
theorem dL_law_2151 : decode cL_law 2151 = .ok (.aload_n 3, 1) := by decide +kernel
theorem dL_law_2152 : decode cL_law 2152 = .ok (.invokestatic 313, 3) := by decide +kernel
theorem dL_law_2155 : decode cL_law 2155 = .ok (.istore 5, 2) := by decide +kernel
theorem dL_law_2157 : decode cL_law 2157 = .ok (.aload_n 2, 1) := by decide +kernel
theorem dL_law_2158 : decode cL_law 2158 = .ok (.aload_n 0, 1) := by decide +kernel
theorem dL_law_2159 : decode cL_law 2159 = .ok (.iload 4, 2) := by decide +kernel
theorem dL_law_2161 : decode cL_law 2161 = .ok (.iconst 1, 1) := by decide +kernel
theorem dL_law_2162 : decode cL_law 2162 = .ok (.iadd, 1) := by decide +kernel
theorem dL_law_2163 : decode cL_law 2163 = .ok (.iaload, 1) := by decide +kernel
theorem dL_law_2164 : decode cL_law 2164 = .ok (.invokevirtual 315, 3) := by decide +kernel
theorem dL_law_2167 : decode cL_law 2167 = .ok (.istore 6, 2) := by decide +kernel
theorem dL_law_2169 : decode cL_law 2169 = .ok (.aload_n 2, 1) := by decide +kernel
theorem dL_law_2170 : decode cL_law 2170 = .ok (.invokevirtual 126, 3) := by decide +kernel
theorem dL_law_2173 : decode cL_law 2173 = .ok (.iload 5, 2) := by decide +kernel
theorem dL_law_2175 : decode cL_law 2175 = .ok (.if_icmp .eq 5, 3) := by decide +kernel
theorem dL_law_2178 : decode cL_law 2178 = .ok (.iconst 0, 1) := by decide +kernel
theorem dL_law_2179 : decode cL_law 2179 = .ok (.ireturn, 1) := by decide +kernel
theorem dL_law_2180 : decode cL_law 2180 = .ok (.iload 5, 2) := by decide +kernel
theorem dL_law_2182 : decode cL_law 2182 = .ok (.ifCond .ne 15, 3) := by decide +kernel
theorem dL_law_2185 : decode cL_law 2185 = .ok (.aload_n 3, 1) := by decide +kernel
theorem dL_law_2186 : decode cL_law 2186 = .ok (.iconst 0, 1) := by decide +kernel
theorem dL_law_2187 : decode cL_law 2187 = .ok (.laload, 1) := by decide +kernel
theorem dL_law_2188 : decode cL_law 2188 = .ok (.iload 6, 2) := by decide +kernel
theorem dL_law_2190 : decode cL_law 2190 = .ok (.i2l, 1) := by decide +kernel
theorem dL_law_2191 : decode cL_law 2191 = .ok (.lcmp, 1) := by decide +kernel
theorem dL_law_2192 : decode cL_law 2192 = .ok (.ifCond .eq 5, 3) := by decide +kernel
theorem dL_law_2195 : decode cL_law 2195 = .ok (.iconst 0, 1) := by decide +kernel
theorem dL_law_2196 : decode cL_law 2196 = .ok (.ireturn, 1) := by decide +kernel
theorem dL_law_2197 : decode cL_law 2197 = .ok (.goto 355, 3) := by decide +kernel
theorem dL_law_2200 : decode cL_law 2200 = .ok (.aload_n 1, 1) := by decide +kernel
theorem dL_law_2201 : decode cL_law 2201 = .ok (.invokevirtual 316, 3) := by decide +kernel
theorem dL_law_2204 : decode cL_law 2204 = .ok (.aload_n 2, 1) := by decide +kernel
theorem dL_law_2205 : decode cL_law 2205 = .ok (.invokevirtual 319, 3) := by decide +kernel
theorem dL_law_2208 : decode cL_law 2208 = .ok (.if_icmp .eq 344, 3) := by decide +kernel
theorem dL_law_2211 : decode cL_law 2211 = .ok (.iconst 0, 1) := by decide +kernel
theorem dL_law_2212 : decode cL_law 2212 = .ok (.ireturn, 1) := by decide +kernel
theorem dL_law_2213 : decode cL_law 2213 = .ok (.aload_n 1, 1) := by decide +kernel
theorem dL_law_2214 : decode cL_law 2214 = .ok (.aload_n 0, 1) := by decide +kernel
theorem dL_law_2215 : decode cL_law 2215 = .ok (.iload 4, 2) := by decide +kernel
theorem dL_law_2217 : decode cL_law 2217 = .ok (.iconst 1, 1) := by decide +kernel
theorem dL_law_2218 : decode cL_law 2218 = .ok (.iadd, 1) := by decide +kernel
theorem dL_law_2219 : decode cL_law 2219 = .ok (.iaload, 1) := by decide +kernel
theorem dL_law_2220 : decode cL_law 2220 = .ok (.aload_n 3, 1) := by decide +kernel
theorem dL_law_2221 : decode cL_law 2221 = .ok (.invokestatic 320, 3) := by decide +kernel
theorem dL_law_2224 : decode cL_law 2224 = .ok (.istore 5, 2) := by decide +kernel
theorem dL_law_2226 : decode cL_law 2226 = .ok (.aload_n 2, 1) := by decide +kernel
theorem dL_law_2227 : decode cL_law 2227 = .ok (.aload_n 0, 1) := by decide +kernel
theorem dL_law_2228 : decode cL_law 2228 = .ok (.iload 4, 2) := by decide +kernel
theorem dL_law_2230 : decode cL_law 2230 = .ok (.iconst 1, 1) := by decide +kernel
theorem dL_law_2231 : decode cL_law 2231 = .ok (.iadd, 1) := by decide +kernel
theorem dL_law_2232 : decode cL_law 2232 = .ok (.iaload, 1) := by decide +kernel
theorem dL_law_2233 : decode cL_law 2233 = .ok (.invokevirtual 322, 3) := by decide +kernel
theorem dL_law_2236 : decode cL_law 2236 = .ok (.istore 6, 2) := by decide +kernel
theorem dL_law_2238 : decode cL_law 2238 = .ok (.aload_n 2, 1) := by decide +kernel
theorem dL_law_2239 : decode cL_law 2239 = .ok (.invokevirtual 126, 3) := by decide +kernel
theorem dL_law_2242 : decode cL_law 2242 = .ok (.iload 5, 2) := by decide +kernel
theorem dL_law_2244 : decode cL_law 2244 = .ok (.if_icmp .eq 5, 3) := by decide +kernel
theorem dL_law_2247 : decode cL_law 2247 = .ok (.iconst 0, 1) := by decide +kernel
theorem dL_law_2248 : decode cL_law 2248 = .ok (.ireturn, 1) := by decide +kernel
theorem dL_law_2249 : decode cL_law 2249 = .ok (.iload 5, 2) := by decide +kernel
theorem dL_law_2251 : decode cL_law 2251 = .ok (.ifCond .ne 15, 3) := by decide +kernel
theorem dL_law_2254 : decode cL_law 2254 = .ok (.aload_n 3, 1) := by decide +kernel
theorem dL_law_2255 : decode cL_law 2255 = .ok (.iconst 0, 1) := by decide +kernel
theorem dL_law_2256 : decode cL_law 2256 = .ok (.laload, 1) := by decide +kernel
theorem dL_law_2257 : decode cL_law 2257 = .ok (.iload 6, 2) := by decide +kernel
theorem dL_law_2259 : decode cL_law 2259 = .ok (.i2l, 1) := by decide +kernel
theorem dL_law_2260 : decode cL_law 2260 = .ok (.lcmp, 1) := by decide +kernel
theorem dL_law_2261 : decode cL_law 2261 = .ok (.ifCond .eq 5, 3) := by decide +kernel
theorem dL_law_2264 : decode cL_law 2264 = .ok (.iconst 0, 1) := by decide +kernel
theorem dL_law_2265 : decode cL_law 2265 = .ok (.ireturn, 1) := by decide +kernel
theorem dL_law_2266 : decode cL_law 2266 = .ok (.goto 286, 3) := by decide +kernel
theorem dL_law_2269 : decode cL_law 2269 = .ok (.aload_n 1, 1) := by decide +kernel
theorem dL_law_2270 : decode cL_law 2270 = .ok (.aload_n 0, 1) := by decide +kernel
theorem dL_law_2271 : decode cL_law 2271 = .ok (.iload 4, 2) := by decide +kernel
theorem dL_law_2273 : decode cL_law 2273 = .ok (.iconst 1, 1) := by decide +kernel
theorem dL_law_2274 : decode cL_law 2274 = .ok (.iadd, 1) := by decide +kernel
theorem dL_law_2275 : decode cL_law 2275 = .ok (.iaload, 1) := by decide +kernel
theorem dL_law_2276 : decode cL_law 2276 = .ok (.aload_n 3, 1) := by decide +kernel
theorem dL_law_2277 : decode cL_law 2277 = .ok (.invokestatic 323, 3) := by decide +kernel
theorem dL_law_2280 : decode cL_law 2280 = .ok (.istore 5, 2) := by decide +kernel
theorem dL_law_2282 : decode cL_law 2282 = .ok (.aload_n 2, 1) := by decide +kernel
theorem dL_law_2283 : decode cL_law 2283 = .ok (.aload_n 0, 1) := by decide +kernel
theorem dL_law_2284 : decode cL_law 2284 = .ok (.iload 4, 2) := by decide +kernel
theorem dL_law_2286 : decode cL_law 2286 = .ok (.iconst 1, 1) := by decide +kernel
theorem dL_law_2287 : decode cL_law 2287 = .ok (.iadd, 1) := by decide +kernel
theorem dL_law_2288 : decode cL_law 2288 = .ok (.iaload, 1) := by decide +kernel
theorem dL_law_2289 : decode cL_law 2289 = .ok (.invokevirtual 325, 3) := by decide +kernel
theorem dL_law_2292 : decode cL_law 2292 = .ok (.istore 6, 2) := by decide +kernel
theorem dL_law_2294 : decode cL_law 2294 = .ok (.aload_n 2, 1) := by decide +kernel
theorem dL_law_2295 : decode cL_law 2295 = .ok (.invokevirtual 126, 3) := by decide +kernel
theorem dL_law_2298 : decode cL_law 2298 = .ok (.iload 5, 2) := by decide +kernel
theorem dL_law_2300 : decode cL_law 2300 = .ok (.if_icmp .eq 5, 3) := by decide +kernel
theorem dL_law_2303 : decode cL_law 2303 = .ok (.iconst 0, 1) := by decide +kernel
theorem dL_law_2304 : decode cL_law 2304 = .ok (.ireturn, 1) := by decide +kernel
theorem dL_law_2305 : decode cL_law 2305 = .ok (.iload 5, 2) := by decide +kernel
theorem dL_law_2307 : decode cL_law 2307 = .ok (.ifCond .ne 15, 3) := by decide +kernel
theorem dL_law_2310 : decode cL_law 2310 = .ok (.aload_n 3, 1) := by decide +kernel
theorem dL_law_2311 : decode cL_law 2311 = .ok (.iconst 0, 1) := by decide +kernel
theorem dL_law_2312 : decode cL_law 2312 = .ok (.laload, 1) := by decide +kernel
theorem dL_law_2313 : decode cL_law 2313 = .ok (.iload 6, 2) := by decide +kernel
theorem dL_law_2315 : decode cL_law 2315 = .ok (.i2l, 1) := by decide +kernel
theorem dL_law_2316 : decode cL_law 2316 = .ok (.lcmp, 1) := by decide +kernel
theorem dL_law_2317 : decode cL_law 2317 = .ok (.ifCond .eq 5, 3) := by decide +kernel
theorem dL_law_2320 : decode cL_law 2320 = .ok (.iconst 0, 1) := by decide +kernel
theorem dL_law_2321 : decode cL_law 2321 = .ok (.ireturn, 1) := by decide +kernel
theorem dL_law_2322 : decode cL_law 2322 = .ok (.goto 230, 3) := by decide +kernel
theorem dL_law_2325 : decode cL_law 2325 = .ok (.aload_n 1, 1) := by decide +kernel
theorem dL_law_2326 : decode cL_law 2326 = .ok (.aload_n 3, 1) := by decide +kernel
theorem dL_law_2327 : decode cL_law 2327 = .ok (.invokestatic 326, 3) := by decide +kernel
theorem dL_law_2330 : decode cL_law 2330 = .ok (.istore 5, 2) := by decide +kernel
theorem dL_law_2332 : decode cL_law 2332 = .ok (.aload_n 2, 1) := by decide +kernel
theorem dL_law_2333 : decode cL_law 2333 = .ok (.invokevirtual 328, 3) := by decide +kernel
theorem dL_law_2336 : decode cL_law 2336 = .ok (.istore 6, 2) := by decide +kernel
theorem dL_law_2338 : decode cL_law 2338 = .ok (.aload_n 2, 1) := by decide +kernel
theorem dL_law_2339 : decode cL_law 2339 = .ok (.invokevirtual 126, 3) := by decide +kernel
theorem dL_law_2342 : decode cL_law 2342 = .ok (.iload 5, 2) := by decide +kernel
theorem dL_law_2344 : decode cL_law 2344 = .ok (.if_icmp .eq 5, 3) := by decide +kernel
theorem dL_law_2347 : decode cL_law 2347 = .ok (.iconst 0, 1) := by decide +kernel
theorem dL_law_2348 : decode cL_law 2348 = .ok (.ireturn, 1) := by decide +kernel
theorem dL_law_2349 : decode cL_law 2349 = .ok (.iload 5, 2) := by decide +kernel
theorem dL_law_2351 : decode cL_law 2351 = .ok (.ifCond .ne 15, 3) := by decide +kernel
theorem dL_law_2354 : decode cL_law 2354 = .ok (.aload_n 3, 1) := by decide +kernel
theorem dL_law_2355 : decode cL_law 2355 = .ok (.iconst 0, 1) := by decide +kernel
theorem dL_law_2356 : decode cL_law 2356 = .ok (.laload, 1) := by decide +kernel
theorem dL_law_2357 : decode cL_law 2357 = .ok (.iload 6, 2) := by decide +kernel
theorem dL_law_2359 : decode cL_law 2359 = .ok (.i2l, 1) := by decide +kernel
theorem dL_law_2360 : decode cL_law 2360 = .ok (.lcmp, 1) := by decide +kernel
theorem dL_law_2361 : decode cL_law 2361 = .ok (.ifCond .eq 5, 3) := by decide +kernel
theorem dL_law_2364 : decode cL_law 2364 = .ok (.iconst 0, 1) := by decide +kernel
theorem dL_law_2365 : decode cL_law 2365 = .ok (.ireturn, 1) := by decide +kernel
theorem dL_law_2366 : decode cL_law 2366 = .ok (.goto 186, 3) := by decide +kernel
theorem dL_law_2369 : decode cL_law 2369 = .ok (.aload_n 1, 1) := by decide +kernel
theorem dL_law_2370 : decode cL_law 2370 = .ok (.invokevirtual 329, 3) := by decide +kernel
theorem dL_law_2373 : decode cL_law 2373 = .ok (.aload_n 2, 1) := by decide +kernel
theorem dL_law_2374 : decode cL_law 2374 = .ok (.invokevirtual 332, 3) := by decide +kernel
theorem dL_law_2377 : decode cL_law 2377 = .ok (.if_icmp .eq 175, 3) := by decide +kernel
theorem dL_law_2380 : decode cL_law 2380 = .ok (.iconst 0, 1) := by decide +kernel
theorem dL_law_2381 : decode cL_law 2381 = .ok (.ireturn, 1) := by decide +kernel
theorem dL_law_2382 : decode cL_law 2382 = .ok (.aload_n 1, 1) := by decide +kernel
theorem dL_law_2383 : decode cL_law 2383 = .ok (.aload_n 0, 1) := by decide +kernel
theorem dL_law_2384 : decode cL_law 2384 = .ok (.iload 4, 2) := by decide +kernel
theorem dL_law_2386 : decode cL_law 2386 = .ok (.iconst 1, 1) := by decide +kernel
theorem dL_law_2387 : decode cL_law 2387 = .ok (.iadd, 1) := by decide +kernel
theorem dL_law_2388 : decode cL_law 2388 = .ok (.iaload, 1) := by decide +kernel
theorem dL_law_2389 : decode cL_law 2389 = .ok (.aload_n 3, 1) := by decide +kernel
theorem dL_law_2390 : decode cL_law 2390 = .ok (.invokestatic 333, 3) := by decide +kernel
theorem dL_law_2393 : decode cL_law 2393 = .ok (.istore 5, 2) := by decide +kernel
theorem dL_law_2395 : decode cL_law 2395 = .ok (.aload_n 2, 1) := by decide +kernel
theorem dL_law_2396 : decode cL_law 2396 = .ok (.aload_n 0, 1) := by decide +kernel
theorem dL_law_2397 : decode cL_law 2397 = .ok (.iload 4, 2) := by decide +kernel
theorem dL_law_2399 : decode cL_law 2399 = .ok (.iconst 1, 1) := by decide +kernel
theorem dL_law_2400 : decode cL_law 2400 = .ok (.iadd, 1) := by decide +kernel
theorem dL_law_2401 : decode cL_law 2401 = .ok (.iaload, 1) := by decide +kernel
theorem dL_law_2402 : decode cL_law 2402 = .ok (.invokevirtual 335, 3) := by decide +kernel
theorem dL_law_2405 : decode cL_law 2405 = .ok (.istore 6, 2) := by decide +kernel
theorem dL_law_2407 : decode cL_law 2407 = .ok (.aload_n 2, 1) := by decide +kernel
theorem dL_law_2408 : decode cL_law 2408 = .ok (.invokevirtual 126, 3) := by decide +kernel
theorem dL_law_2411 : decode cL_law 2411 = .ok (.iload 5, 2) := by decide +kernel
theorem dL_law_2413 : decode cL_law 2413 = .ok (.if_icmp .eq 5, 3) := by decide +kernel
theorem dL_law_2416 : decode cL_law 2416 = .ok (.iconst 0, 1) := by decide +kernel
theorem dL_law_2417 : decode cL_law 2417 = .ok (.ireturn, 1) := by decide +kernel
theorem dL_law_2418 : decode cL_law 2418 = .ok (.iload 5, 2) := by decide +kernel
theorem dL_law_2420 : decode cL_law 2420 = .ok (.ifCond .ne 22, 3) := by decide +kernel
theorem dL_law_2423 : decode cL_law 2423 = .ok (.aload_n 3, 1) := by decide +kernel
theorem dL_law_2424 : decode cL_law 2424 = .ok (.iconst 0, 1) := by decide +kernel
theorem dL_law_2425 : decode cL_law 2425 = .ok (.laload, 1) := by decide +kernel
theorem dL_law_2426 : decode cL_law 2426 = .ok (.iload 6, 2) := by decide +kernel
theorem dL_law_2428 : decode cL_law 2428 = .ok (.ifCond .eq 7, 3) := by decide +kernel
theorem dL_law_2431 : decode cL_law 2431 = .ok (.lconst 1, 1) := by decide +kernel
theorem dL_law_2432 : decode cL_law 2432 = .ok (.goto 4, 3) := by decide +kernel
theorem dL_law_2435 : decode cL_law 2435 = .ok (.lconst 0, 1) := by decide +kernel
theorem dL_law_2436 : decode cL_law 2436 = .ok (.lcmp, 1) := by decide +kernel
theorem dL_law_2437 : decode cL_law 2437 = .ok (.ifCond .eq 5, 3) := by decide +kernel
theorem dL_law_2440 : decode cL_law 2440 = .ok (.iconst 0, 1) := by decide +kernel
theorem dL_law_2441 : decode cL_law 2441 = .ok (.ireturn, 1) := by decide +kernel
theorem dL_law_2442 : decode cL_law 2442 = .ok (.goto 110, 3) := by decide +kernel
theorem dL_law_2445 : decode cL_law 2445 = .ok (.aload_n 1, 1) := by decide +kernel
theorem dL_law_2446 : decode cL_law 2446 = .ok (.aload_n 0, 1) := by decide +kernel
theorem dL_law_2447 : decode cL_law 2447 = .ok (.iload 4, 2) := by decide +kernel
theorem dL_law_2449 : decode cL_law 2449 = .ok (.iconst 1, 1) := by decide +kernel
theorem dL_law_2450 : decode cL_law 2450 = .ok (.iadd, 1) := by decide +kernel
theorem dL_law_2451 : decode cL_law 2451 = .ok (.iaload, 1) := by decide +kernel
theorem dL_law_2452 : decode cL_law 2452 = .ok (.aload_n 3, 1) := by decide +kernel
theorem dL_law_2453 : decode cL_law 2453 = .ok (.invokestatic 336, 3) := by decide +kernel
theorem dL_law_2456 : decode cL_law 2456 = .ok (.istore 5, 2) := by decide +kernel
theorem dL_law_2458 : decode cL_law 2458 = .ok (.aload_n 2, 1) := by decide +kernel
theorem dL_law_2459 : decode cL_law 2459 = .ok (.aload_n 0, 1) := by decide +kernel
theorem dL_law_2460 : decode cL_law 2460 = .ok (.iload 4, 2) := by decide +kernel
theorem dL_law_2462 : decode cL_law 2462 = .ok (.iconst 1, 1) := by decide +kernel
theorem dL_law_2463 : decode cL_law 2463 = .ok (.iadd, 1) := by decide +kernel
theorem dL_law_2464 : decode cL_law 2464 = .ok (.iaload, 1) := by decide +kernel
theorem dL_law_2465 : decode cL_law 2465 = .ok (.invokevirtual 338, 3) := by decide +kernel
theorem dL_law_2468 : decode cL_law 2468 = .ok (.istore 6, 2) := by decide +kernel
theorem dL_law_2470 : decode cL_law 2470 = .ok (.aload_n 2, 1) := by decide +kernel
theorem dL_law_2471 : decode cL_law 2471 = .ok (.invokevirtual 126, 3) := by decide +kernel
theorem dL_law_2474 : decode cL_law 2474 = .ok (.iload 5, 2) := by decide +kernel
theorem dL_law_2476 : decode cL_law 2476 = .ok (.if_icmp .eq 5, 3) := by decide +kernel
theorem dL_law_2479 : decode cL_law 2479 = .ok (.iconst 0, 1) := by decide +kernel
theorem dL_law_2480 : decode cL_law 2480 = .ok (.ireturn, 1) := by decide +kernel
theorem dL_law_2481 : decode cL_law 2481 = .ok (.iload 5, 2) := by decide +kernel
theorem dL_law_2483 : decode cL_law 2483 = .ok (.ifCond .ne 15, 3) := by decide +kernel
theorem dL_law_2486 : decode cL_law 2486 = .ok (.aload_n 3, 1) := by decide +kernel
theorem dL_law_2487 : decode cL_law 2487 = .ok (.iconst 0, 1) := by decide +kernel
theorem dL_law_2488 : decode cL_law 2488 = .ok (.laload, 1) := by decide +kernel
theorem dL_law_2489 : decode cL_law 2489 = .ok (.iload 6, 2) := by decide +kernel
theorem dL_law_2491 : decode cL_law 2491 = .ok (.i2l, 1) := by decide +kernel
theorem dL_law_2492 : decode cL_law 2492 = .ok (.lcmp, 1) := by decide +kernel
theorem dL_law_2493 : decode cL_law 2493 = .ok (.ifCond .eq 5, 3) := by decide +kernel
theorem dL_law_2496 : decode cL_law 2496 = .ok (.iconst 0, 1) := by decide +kernel
theorem dL_law_2497 : decode cL_law 2497 = .ok (.ireturn, 1) := by decide +kernel
theorem dL_law_2498 : decode cL_law 2498 = .ok (.goto 54, 3) := by decide +kernel
theorem dL_law_2501 : decode cL_law 2501 = .ok (.aload_n 1, 1) := by decide +kernel
theorem dL_law_2502 : decode cL_law 2502 = .ok (.invokevirtual 339, 3) := by decide +kernel
theorem dL_law_2505 : decode cL_law 2505 = .ok (.aload_n 2, 1) := by decide +kernel
theorem dL_law_2506 : decode cL_law 2506 = .ok (.invokevirtual 342, 3) := by decide +kernel
theorem dL_law_2509 : decode cL_law 2509 = .ok (.if_icmp .eq 43, 3) := by decide +kernel
theorem dL_law_2512 : decode cL_law 2512 = .ok (.iconst 0, 1) := by decide +kernel
theorem dL_law_2513 : decode cL_law 2513 = .ok (.ireturn, 1) := by decide +kernel
theorem dL_law_2514 : decode cL_law 2514 = .ok (.aload_n 1, 1) := by decide +kernel
theorem dL_law_2515 : decode cL_law 2515 = .ok (.invokevirtual 343, 3) := by decide +kernel
theorem dL_law_2518 : decode cL_law 2518 = .ok (.aload_n 2, 1) := by decide +kernel
theorem dL_law_2519 : decode cL_law 2519 = .ok (.invokevirtual 346, 3) := by decide +kernel
theorem dL_law_2522 : decode cL_law 2522 = .ok (.if_icmp .eq 30, 3) := by decide +kernel
theorem dL_law_2525 : decode cL_law 2525 = .ok (.iconst 0, 1) := by decide +kernel
theorem dL_law_2526 : decode cL_law 2526 = .ok (.ireturn, 1) := by decide +kernel
theorem dL_law_2527 : decode cL_law 2527 = .ok (.aload_n 1, 1) := by decide +kernel
theorem dL_law_2528 : decode cL_law 2528 = .ok (.aload_n 0, 1) := by decide +kernel
theorem dL_law_2529 : decode cL_law 2529 = .ok (.iload 4, 2) := by decide +kernel
theorem dL_law_2531 : decode cL_law 2531 = .ok (.iconst 1, 1) := by decide +kernel
theorem dL_law_2532 : decode cL_law 2532 = .ok (.iadd, 1) := by decide +kernel
theorem dL_law_2533 : decode cL_law 2533 = .ok (.iaload, 1) := by decide +kernel
theorem dL_law_2534 : decode cL_law 2534 = .ok (.invokevirtual 347, 3) := by decide +kernel
theorem dL_law_2537 : decode cL_law 2537 = .ok (.aload_n 2, 1) := by decide +kernel
theorem dL_law_2538 : decode cL_law 2538 = .ok (.aload_n 0, 1) := by decide +kernel
theorem dL_law_2539 : decode cL_law 2539 = .ok (.iload 4, 2) := by decide +kernel
theorem dL_law_2541 : decode cL_law 2541 = .ok (.iconst 1, 1) := by decide +kernel
theorem dL_law_2542 : decode cL_law 2542 = .ok (.iadd, 1) := by decide +kernel
theorem dL_law_2543 : decode cL_law 2543 = .ok (.iaload, 1) := by decide +kernel
theorem dL_law_2544 : decode cL_law 2544 = .ok (.invokevirtual 350, 3) := by decide +kernel
theorem dL_law_2547 : decode cL_law 2547 = .ok (.if_icmp .eq 5, 3) := by decide +kernel
theorem dL_law_2550 : decode cL_law 2550 = .ok (.iconst 0, 1) := by decide +kernel
theorem dL_law_2551 : decode cL_law 2551 = .ok (.ireturn, 1) := by decide +kernel
theorem dL_law_2552 : decode cL_law 2552 = .ok (.iinc 4 6, 3) := by decide +kernel
theorem dL_law_2555 : decode cL_law 2555 = .ok (.goto (-2532), 3) := by decide +kernel
theorem dL_law_2558 : decode cL_law 2558 = .ok (.iconst 1, 1) := by decide +kernel
theorem dL_law_2559 : decode cL_law 2559 = .ok (.ireturn, 1) := by decide +kernel
end
