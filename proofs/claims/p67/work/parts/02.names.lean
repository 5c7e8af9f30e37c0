def RX0 : String := "LiftScheduler$1"
def TX0 : u_T := fun k => match k with
  | _ => ("", "", "", false)
def tyX0 : Nat → FieldType := fun k => match k with
  | _ => .int
abbrev wsX00 : List Cond := u_ws RX0 TX0 0
theorem nmX0 : ∀ a, a < 0 → ∀ b, b < 0 → a ≠ b → (TX0 a).2.1 ≠ (TX0 b).2.1 := by decide +kernel
theorem tyX0_ok : ∀ k, k < 0 → parseFieldDescriptor (TX0 k).2.2.1 = some (tyX0 k) := by decide +kernel
def RX1 : String := "LiftScheduler$Kind"
def TX1 : u_T := fun k => match k with
  | _ => ("", "", "", false)
def tyX1 : Nat → FieldType := fun k => match k with
  | _ => .int
abbrev wsX10 : List Cond := u_ws RX1 TX1 0
theorem nmX1 : ∀ a, a < 0 → ∀ b, b < 0 → a ≠ b → (TX1 a).2.1 ≠ (TX1 b).2.1 := by decide +kernel
theorem tyX1_ok : ∀ k, k < 0 → parseFieldDescriptor (TX1 k).2.2.1 = some (tyX1 k) := by decide +kernel
abbrev cX1_isCounter : ByteArray := prog_3_method_4_code
def yX1_isCounter : MethodName := ⟨RX1, "isCounter", "()Z"⟩
def RX2 : String := "LiftScheduler$Script"
def TX2 : u_T := fun k => match k with
  | 0 => ("LiftScheduler$Script", "kinds", "[LLiftScheduler$Kind;", true)
  | 1 => ("LiftScheduler$Script", "starts", "[I", true)
  | 2 => ("LiftScheduler$Script", "values", "[I", true)
  | 3 => ("LiftScheduler$Script", "tokens", "I", false)
  | 4 => ("LiftScheduler$Script", "at", "I", false)
  | 5 => ("LiftScheduler$Script", "simulation", "LLiftScheduler$Simulation;", false)
  | 6 => ("LiftScheduler$Script", "executed", "I", false)
  | 7 => ("LiftScheduler$Script", "errorCode", "I", false)
  | _ => ("LiftScheduler$Script", "errorPosition", "I", false)
def tyX2 : Nat → FieldType := fun k => match k with
  | 0 => .array (.object "LiftScheduler$Kind")
  | 1 => .array .int
  | 2 => .array .int
  | 3 => .int
  | 4 => .int
  | 5 => .object "LiftScheduler$Simulation"
  | 6 => .int
  | 7 => .int
  | _ => .int
abbrev wsX20 : List Cond := u_ws RX2 TX2 9
theorem nmX2 : ∀ a, a < 9 → ∀ b, b < 9 → a ≠ b → (TX2 a).2.1 ≠ (TX2 b).2.1 := by decide +kernel
theorem tyX2_ok : ∀ k, k < 9 → parseFieldDescriptor (TX2 k).2.2.1 = some (tyX2 k) := by decide +kernel
abbrev cX2_init : ByteArray := prog_4_method_1_code
def yX2_init : MethodName := ⟨RX2, "<init>", "()V"⟩
abbrev cX2_readTokens : ByteArray := prog_4_method_2_code
def yX2_readTokens : MethodName := ⟨RX2, "readTokens", "([BI)V"⟩
abbrev cX2_addToken : ByteArray := prog_4_method_3_code
def yX2_addToken : MethodName := ⟨RX2, "addToken", "(LLiftScheduler$Kind;II)V"⟩
abbrev cX2_isSpace : ByteArray := prog_4_method_4_code
def yX2_isSpace : MethodName := ⟨RX2, "isSpace", "(I)Z"⟩
abbrev cX2_isDigit : ByteArray := prog_4_method_5_code
def yX2_isDigit : MethodName := ⟨RX2, "isDigit", "(I)Z"⟩
abbrev cX2_isLetter : ByteArray := prog_4_method_6_code
def yX2_isLetter : MethodName := ⟨RX2, "isLetter", "(I)Z"⟩
abbrev cX2_belongTogether : ByteArray := prog_4_method_7_code
def yX2_belongTogether : MethodName := ⟨RX2, "belongTogether", "(II)Z"⟩
abbrev cX2_numberOf : ByteArray := prog_4_method_8_code
def yX2_numberOf : MethodName := ⟨RX2, "numberOf", "([BII)I"⟩
abbrev cX2_kindOf : ByteArray := prog_4_method_9_code
def yX2_kindOf : MethodName := ⟨RX2, "kindOf", "([BII)LLiftScheduler$Kind;"⟩
abbrev cX2_isText : ByteArray := prog_4_method_10_code
def yX2_isText : MethodName := ⟨RX2, "isText", "(Ljava/lang/String;[BII)Z"⟩
abbrev cX2_performHeader : ByteArray := prog_4_method_11_code
def yX2_performHeader : MethodName := ⟨RX2, "performHeader", "(LLiftScheduler$Simulation;)Z"⟩
abbrev cX2_performCommands : ByteArray := prog_4_method_12_code
def yX2_performCommands : MethodName := ⟨RX2, "performCommands", "(LLiftScheduler$Simulation;)Z"⟩
abbrev cX2_performRepeat : ByteArray := prog_4_method_13_code
def yX2_performRepeat : MethodName := ⟨RX2, "performRepeat", "()Z"⟩
abbrev cX2_performSimple : ByteArray := prog_4_method_14_code
def yX2_performSimple : MethodName := ⟨RX2, "performSimple", "()Z"⟩
abbrev cX2_performCall : ByteArray := prog_4_method_15_code
def yX2_performCall : MethodName := ⟨RX2, "performCall", "()Z"⟩
abbrev cX2_performRun : ByteArray := prog_4_method_16_code
def yX2_performRun : MethodName := ⟨RX2, "performRun", "()Z"⟩
abbrev cX2_performUntil : ByteArray := prog_4_method_17_code
def yX2_performUntil : MethodName := ⟨RX2, "performUntil", "()Z"⟩
abbrev cX2_performPolicy : ByteArray := prog_4_method_18_code
def yX2_performPolicy : MethodName := ⟨RX2, "performPolicy", "()Z"⟩
abbrev cX2_performCapacity : ByteArray := prog_4_method_19_code
def yX2_performCapacity : MethodName := ⟨RX2, "performCapacity", "()Z"⟩
abbrev cX2_performExpect : ByteArray := prog_4_method_20_code
def yX2_performExpect : MethodName := ⟨RX2, "performExpect", "()Z"⟩
abbrev cX2_count : ByteArray := prog_4_method_21_code
def yX2_count : MethodName := ⟨RX2, "count", "(LLiftScheduler$Kind;)I"⟩
abbrev cX2_nextKind : ByteArray := prog_4_method_22_code
def yX2_nextKind : MethodName := ⟨RX2, "nextKind", "()LLiftScheduler$Kind;"⟩
abbrev cX2_take : ByteArray := prog_4_method_23_code
def yX2_take : MethodName := ⟨RX2, "take", "(LLiftScheduler$Kind;)Z"⟩
abbrev cX2_takeNumber : ByteArray := prog_4_method_24_code
def yX2_takeNumber : MethodName := ⟨RX2, "takeNumber", "(II)I"⟩
abbrev cX2_takePolicy : ByteArray := prog_4_method_25_code
def yX2_takePolicy : MethodName := ⟨RX2, "takePolicy", "()I"⟩
abbrev cX2_takeCounterAndValue : ByteArray := prog_4_method_26_code
def yX2_takeCounterAndValue : MethodName := ⟨RX2, "takeCounterAndValue", "()I"⟩
abbrev cX2_fail : ByteArray := prog_4_method_27_code
def yX2_fail : MethodName := ⟨RX2, "fail", "(II)Z"⟩
def RX3 : String := "LiftScheduler$Simulation"
def TX3 : u_T := fun k => match k with
  | 0 => ("LiftScheduler$Simulation", "floors", "I", false)
  | 1 => ("LiftScheduler$Simulation", "capacity", "I", false)
  | 2 => ("LiftScheduler$Simulation", "policy", "I", false)
  | 3 => ("LiftScheduler$Simulation", "time", "I", false)
  | 4 => ("LiftScheduler$Simulation", "floor", "I", false)
  | 5 => ("LiftScheduler$Simulation", "upward", "Z", false)
  | 6 => ("LiftScheduler$Simulation", "distance", "I", false)
  | 7 => ("LiftScheduler$Simulation", "doorTicks", "I", false)
  | 8 => ("LiftScheduler$Simulation", "idleTicks", "I", false)
  | 9 => ("LiftScheduler$Simulation", "reversals", "I", false)
  | 10 => ("LiftScheduler$Simulation", "count", "I", false)
  | 11 => ("LiftScheduler$Simulation", "riding", "I", false)
  | 12 => ("LiftScheduler$Simulation", "done", "I", false)
  | 13 => ("LiftScheduler$Simulation", "origin", "[I", true)
  | 14 => ("LiftScheduler$Simulation", "destination", "[I", true)
  | 15 => ("LiftScheduler$Simulation", "arrival", "[I", true)
  | 16 => ("LiftScheduler$Simulation", "boarded", "[I", true)
  | 17 => ("LiftScheduler$Simulation", "left", "[I", true)
  | _ => ("LiftScheduler$Simulation", "queue", "[I", true)
def tyX3 : Nat → FieldType := fun k => match k with
  | 0 => .int
  | 1 => .int
  | 2 => .int
  | 3 => .int
  | 4 => .int
  | 5 => .boolean
  | 6 => .int
  | 7 => .int
  | 8 => .int
  | 9 => .int
  | 10 => .int
  | 11 => .int
  | 12 => .int
  | 13 => .array .int
  | 14 => .array .int
  | 15 => .array .int
  | 16 => .array .int
  | 17 => .array .int
  | _ => .array .int
abbrev wsX30 : List Cond := u_ws RX3 TX3 19
theorem nmX3 : ∀ a, a < 19 → ∀ b, b < 19 → a ≠ b → (TX3 a).2.1 ≠ (TX3 b).2.1 := by decide +kernel
theorem tyX3_ok : ∀ k, k < 19 → parseFieldDescriptor (TX3 k).2.2.1 = some (tyX3 k) := by decide +kernel
abbrev cX3_init : ByteArray := prog_5_method_1_code
def yX3_init : MethodName := ⟨RX3, "<init>", "()V"⟩
abbrev cX3_begin : ByteArray := prog_5_method_2_code
def yX3_begin : MethodName := ⟨RX3, "begin", "(III)V"⟩
abbrev cX3_copyFrom : ByteArray := prog_5_method_3_code
def yX3_copyFrom : MethodName := ⟨RX3, "copyFrom", "(LLiftScheduler$Simulation;)V"⟩
abbrev cX3_addArrival : ByteArray := prog_5_method_4_code
def yX3_addArrival : MethodName := ⟨RX3, "addArrival", "(III)V"⟩
abbrev cX3_findStatus : ByteArray := prog_5_method_5_code
def yX3_findStatus : MethodName := ⟨RX3, "findStatus", "(I)I"⟩
abbrev cX3_findWait : ByteArray := prog_5_method_6_code
def yX3_findWait : MethodName := ⟨RX3, "findWait", "(I)I"⟩
abbrev cX3_findRide : ByteArray := prog_5_method_7_code
def yX3_findRide : MethodName := ⟨RX3, "findRide", "(I)I"⟩
abbrev cX3_countWith : ByteArray := prog_5_method_8_code
def yX3_countWith : MethodName := ⟨RX3, "countWith", "(I)I"⟩
abbrev cX3_countWaiting : ByteArray := prog_5_method_9_code
def yX3_countWaiting : MethodName := ⟨RX3, "countWaiting", "(I)I"⟩
abbrev cX3_findFirstWaiting : ByteArray := prog_5_method_10_code
def yX3_findFirstWaiting : MethodName := ⟨RX3, "findFirstWaiting", "()I"⟩
abbrev cX3_sumWaits : ByteArray := prog_5_method_11_code
def yX3_sumWaits : MethodName := ⟨RX3, "sumWaits", "()I"⟩
abbrev cX3_isOver : ByteArray := prog_5_method_13_code
def yX3_isOver : MethodName := ⟨RX3, "isOver", "()Z"⟩
abbrev cX3_findStops : ByteArray := prog_5_method_14_code
def yX3_findStops : MethodName := ⟨RX3, "findStops", "()I"⟩
abbrev cX3_findTarget : ByteArray := prog_5_method_15_code
def yX3_findTarget : MethodName := ⟨RX3, "findTarget", "(I)I"⟩
abbrev cX3_findFirstRiding : ByteArray := prog_5_method_16_code
def yX3_findFirstRiding : MethodName := ⟨RX3, "findFirstRiding", "()I"⟩
abbrev cX3_findStopBelow : ByteArray := prog_5_method_17_code
def yX3_findStopBelow : MethodName := ⟨RX3, "findStopBelow", "(I)I"⟩
abbrev cX3_findStopAbove : ByteArray := prog_5_method_18_code
def yX3_findStopAbove : MethodName := ⟨RX3, "findStopAbove", "(I)I"⟩
abbrev cX3_tick : ByteArray := prog_5_method_19_code
def yX3_tick : MethodName := ⟨RX3, "tick", "()V"⟩
abbrev cX3_tickToEnd : ByteArray := prog_5_method_20_code
def yX3_tickToEnd : MethodName := ⟨RX3, "tickToEnd", "(I)I"⟩
abbrev cX3_openDoors : ByteArray := prog_5_method_21_code
def yX3_openDoors : MethodName := ⟨RX3, "openDoors", "()V"⟩
abbrev cX3_moveTowards : ByteArray := prog_5_method_22_code
def yX3_moveTowards : MethodName := ⟨RX3, "moveTowards", "(I)V"⟩
def RX4 : String := "LiftScheduler"
def TX4 : u_T := fun k => match k with
  | 0 => ("LiftScheduler", "now", "LLiftScheduler$Simulation;", true)
  | 1 => ("LiftScheduler", "trial", "LLiftScheduler$Simulation;", true)
  | 2 => ("LiftScheduler", "past", "[LLiftScheduler$Simulation;", true)
  | 3 => ("LiftScheduler", "nextPast", "I", false)
  | 4 => ("LiftScheduler", "changes", "I", false)
  | 5 => ("LiftScheduler", "slots", "[LLiftScheduler$Simulation;", true)
  | 6 => ("LiftScheduler", "slotFilled", "[Z", true)
  | 7 => ("LiftScheduler", "input", "[B", true)
  | 8 => ("LiftScheduler", "inputLength", "I", false)
  | 9 => ("LiftScheduler", "script", "LLiftScheduler$Script;", true)
  | 10 => ("LiftScheduler", "output", "[B", true)
  | _ => ("LiftScheduler", "outputLength", "I", false)
def tyX4 : Nat → FieldType := fun k => match k with
  | 0 => .object "LiftScheduler$Simulation"
  | 1 => .object "LiftScheduler$Simulation"
  | 2 => .array (.object "LiftScheduler$Simulation")
  | 3 => .int
  | 4 => .int
  | 5 => .array (.object "LiftScheduler$Simulation")
  | 6 => .array .boolean
  | 7 => .array .byte
  | 8 => .int
  | 9 => .object "LiftScheduler$Script"
  | 10 => .array .byte
  | _ => .int
abbrev wsX40 : List Cond := u_ws RX4 TX4 12
theorem nmX4 : ∀ a, a < 12 → ∀ b, b < 12 → a ≠ b → (TX4 a).2.1 ≠ (TX4 b).2.1 := by decide +kernel
theorem tyX4_ok : ∀ k, k < 12 → parseFieldDescriptor (TX4 k).2.2.1 = some (tyX4 k) := by decide +kernel
abbrev cX4_init : ByteArray := prog_1_method_1_code
def yX4_init : MethodName := ⟨RX4, "<init>", "()V"⟩
abbrev cX4_append : ByteArray := prog_1_method_2_code
def yX4_append : MethodName := ⟨RX4, "append", "(IIIII)I"⟩
abbrev cX4_appendFour : ByteArray := prog_1_method_3_code
def yX4_appendFour : MethodName := ⟨RX4, "appendFour", "(I)V"⟩
abbrev cX4_truncate : ByteArray := prog_1_method_4_code
def yX4_truncate : MethodName := ⟨RX4, "truncate", "(I)Z"⟩
abbrev cX4_load : ByteArray := prog_1_method_5_code
def yX4_load : MethodName := ⟨RX4, "load", "()I"⟩
abbrev cX4_parseError : ByteArray := prog_1_method_7_code
def yX4_parseError : MethodName := ⟨RX4, "parseError", "()I"⟩
abbrev cX4_floorCount : ByteArray := prog_1_method_9_code
def yX4_floorCount : MethodName := ⟨RX4, "floorCount", "()I"⟩
abbrev cX4_capacity : ByteArray := prog_1_method_10_code
def yX4_capacity : MethodName := ⟨RX4, "capacity", "()I"⟩
abbrev cX4_policy : ByteArray := prog_1_method_11_code
def yX4_policy : MethodName := ⟨RX4, "policy", "()I"⟩
abbrev cX4_time : ByteArray := prog_1_method_12_code
def yX4_time : MethodName := ⟨RX4, "time", "()I"⟩
abbrev cX4_floor : ByteArray := prog_1_method_13_code
def yX4_floor : MethodName := ⟨RX4, "floor", "()I"⟩
abbrev cX4_isFull : ByteArray := prog_1_method_15_code
def yX4_isFull : MethodName := ⟨RX4, "isFull", "()Z"⟩
abbrev cX4_stopMask : ByteArray := prog_1_method_16_code
def yX4_stopMask : MethodName := ⟨RX4, "stopMask", "()I"⟩
abbrev cX4_targetBy : ByteArray := prog_1_method_17_code
def yX4_targetBy : MethodName := ⟨RX4, "targetBy", "(I)I"⟩
abbrev cX4_distance : ByteArray := prog_1_method_18_code
def yX4_distance : MethodName := ⟨RX4, "distance", "()I"⟩
abbrev cX4_doorTicks : ByteArray := prog_1_method_19_code
def yX4_doorTicks : MethodName := ⟨RX4, "doorTicks", "()I"⟩
abbrev cX4_idleTicks : ByteArray := prog_1_method_20_code
def yX4_idleTicks : MethodName := ⟨RX4, "idleTicks", "()I"⟩
abbrev cX4_statusOf : ByteArray := prog_1_method_23_code
def yX4_statusOf : MethodName := ⟨RX4, "statusOf", "(I)I"⟩
abbrev cX4_originOf : ByteArray := prog_1_method_24_code
def yX4_originOf : MethodName := ⟨RX4, "originOf", "(I)I"⟩
abbrev cX4_destinationOf : ByteArray := prog_1_method_25_code
def yX4_destinationOf : MethodName := ⟨RX4, "destinationOf", "(I)I"⟩
abbrev cX4_arrivalOf : ByteArray := prog_1_method_26_code
def yX4_arrivalOf : MethodName := ⟨RX4, "arrivalOf", "(I)I"⟩
abbrev cX4_boardedAt : ByteArray := prog_1_method_27_code
def yX4_boardedAt : MethodName := ⟨RX4, "boardedAt", "(I)I"⟩
abbrev cX4_leftAt : ByteArray := prog_1_method_28_code
def yX4_leftAt : MethodName := ⟨RX4, "leftAt", "(I)I"⟩
abbrev cX4_waitOf : ByteArray := prog_1_method_29_code
def yX4_waitOf : MethodName := ⟨RX4, "waitOf", "(I)I"⟩
abbrev cX4_rideOf : ByteArray := prog_1_method_30_code
def yX4_rideOf : MethodName := ⟨RX4, "rideOf", "(I)I"⟩
abbrev cX4_detourOf : ByteArray := prog_1_method_31_code
def yX4_detourOf : MethodName := ⟨RX4, "detourOf", "(I)I"⟩
abbrev cX4_countStatus : ByteArray := prog_1_method_32_code
def yX4_countStatus : MethodName := ⟨RX4, "countStatus", "(I)I"⟩
abbrev cX4_waitingAt : ByteArray := prog_1_method_33_code
def yX4_waitingAt : MethodName := ⟨RX4, "waitingAt", "(I)I"⟩
abbrev cX4_queueAt : ByteArray := prog_1_method_34_code
def yX4_queueAt : MethodName := ⟨RX4, "queueAt", "(II)I"⟩
abbrev cX4_firstWaiting : ByteArray := prog_1_method_35_code
def yX4_firstWaiting : MethodName := ⟨RX4, "firstWaiting", "()I"⟩
abbrev cX4_totalWait : ByteArray := prog_1_method_44_code
def yX4_totalWait : MethodName := ⟨RX4, "totalWait", "()I"⟩
abbrev cX4_isFinished : ByteArray := prog_1_method_47_code
def yX4_isFinished : MethodName := ⟨RX4, "isFinished", "()Z"⟩
abbrev cX4_run : ByteArray := prog_1_method_58_code
def yX4_run : MethodName := ⟨RX4, "run", "(I)I"⟩
abbrev cX4_setCapacity : ByteArray := prog_1_method_61_code
def yX4_setCapacity : MethodName := ⟨RX4, "setCapacity", "(I)I"⟩
abbrev cX4_rememberState : ByteArray := prog_1_method_64_code
def yX4_rememberState : MethodName := ⟨RX4, "rememberState", "()V"⟩
abbrev cX4_requirePassenger : ByteArray := prog_1_method_73_code
def yX4_requirePassenger : MethodName := ⟨RX4, "requirePassenger", "(I)V"⟩
abbrev cX4_requireFloor : ByteArray := prog_1_method_74_code
def yX4_requireFloor : MethodName := ⟨RX4, "requireFloor", "(I)V"⟩
abbrev cX4_requirePolicy : ByteArray := prog_1_method_75_code
def yX4_requirePolicy : MethodName := ⟨RX4, "requirePolicy", "(I)V"⟩
abbrev cX4_requireCapacity : ByteArray := prog_1_method_76_code
def yX4_requireCapacity : MethodName := ⟨RX4, "requireCapacity", "(I)V"⟩
def RX5 : String := "LiftSchedulerLaw$Random"
def TX5 : u_T := fun k => match k with
  | _ => ("LiftSchedulerLaw$Random", "v", "I", false)
def tyX5 : Nat → FieldType := fun k => match k with
  | _ => .int
abbrev wsX50 : List Cond := u_ws RX5 TX5 1
theorem nmX5 : ∀ a, a < 1 → ∀ b, b < 1 → a ≠ b → (TX5 a).2.1 ≠ (TX5 b).2.1 := by decide +kernel
theorem tyX5_ok : ∀ k, k < 1 → parseFieldDescriptor (TX5 k).2.2.1 = some (tyX5 k) := by decide +kernel
abbrev cX5_init : ByteArray := prog_7_method_1_code
def yX5_init : MethodName := ⟨RX5, "<init>", "(I)V"⟩
abbrev cX5_next : ByteArray := prog_7_method_2_code
def yX5_next : MethodName := ⟨RX5, "next", "(I)I"⟩
def RX6 : String := "LiftSchedulerModel"
def TX6 : u_T := fun k => match k with
  | _ => ("", "", "", false)
def tyX6 : Nat → FieldType := fun k => match k with
  | _ => .int
abbrev wsX60 : List Cond := u_ws RX6 TX6 0
theorem nmX6 : ∀ a, a < 0 → ∀ b, b < 0 → a ≠ b → (TX6 a).2.1 ≠ (TX6 b).2.1 := by decide +kernel
theorem tyX6_ok : ∀ k, k < 0 → parseFieldDescriptor (TX6 k).2.2.1 = some (tyX6 k) := by decide +kernel
def RJx145de : String := "java/io/Serializable"
def TJx145de : u_T := fun k => match k with
  | _ => ("", "", "", false)
def tyJx145de : Nat → FieldType := fun k => match k with
  | _ => .int
abbrev wsJx145de0 : List Cond := u_ws RJx145de TJx145de 0
theorem nmJx145de : ∀ a, a < 0 → ∀ b, b < 0 → a ≠ b → (TJx145de a).2.1 ≠ (TJx145de b).2.1 := by decide +kernel
theorem tyJx145de_ok : ∀ k, k < 0 → parseFieldDescriptor (TJx145de k).2.2.1 = some (tyJx145de k) := by decide +kernel
def RJ5 : String := "java/lang/AbstractStringBuilder"
def TJ5 : u_T := fun k => match k with
  | _ => ("", "", "", false)
def tyJ5 : Nat → FieldType := fun k => match k with
  | _ => .int
abbrev wsJ50 : List Cond := u_ws RJ5 TJ5 0
theorem nmJ5 : ∀ a, a < 0 → ∀ b, b < 0 → a ≠ b → (TJ5 a).2.1 ≠ (TJ5 b).2.1 := by decide +kernel
theorem tyJ5_ok : ∀ k, k < 0 → parseFieldDescriptor (TJ5 k).2.2.1 = some (tyJ5 k) := by decide +kernel
abbrev cJ5_init_a7421 : ByteArray := prog_9_method_3_code
def yJ5_init_a7421 : MethodName := ⟨RJ5, "<init>", "(Ljava/lang/String;)V"⟩
abbrev cJ5_length_8abf5 : ByteArray := prog_9_method_6_code
def yJ5_length_8abf5 : MethodName := ⟨RJ5, "length", "()I"⟩
abbrev cJ5_ensureCapacityInternal_d00df : ByteArray := prog_9_method_9_code
def yJ5_ensureCapacityInternal_d00df : MethodName := ⟨RJ5, "ensureCapacityInternal", "(I)V"⟩
abbrev cJ5_newCapacity_0f7a4 : ByteArray := prog_9_method_10_code
def yJ5_newCapacity_0f7a4 : MethodName := ⟨RJ5, "newCapacity", "(I)I"⟩
abbrev cJ5_inflate_da8c8 : ByteArray := prog_9_method_11_code
def yJ5_inflate_da8c8 : MethodName := ⟨RJ5, "inflate", "()V"⟩
abbrev cJ5_charAt_5068e : ByteArray := prog_9_method_14_code
def yJ5_charAt_5068e : MethodName := ⟨RJ5, "charAt", "(I)C"⟩
abbrev cJ5_append_cf1ce : ByteArray := prog_9_method_22_code
def yJ5_append_cf1ce : MethodName := ⟨RJ5, "append", "(Ljava/lang/String;)Ljava/lang/AbstractStringBuilder;"⟩
abbrev cJ5_appendNull_278bc : ByteArray := prog_9_method_26_code
def yJ5_appendNull_278bc : MethodName := ⟨RJ5, "appendNull", "()Ljava/lang/AbstractStringBuilder;"⟩
abbrev cJ5_append_3fe6f : ByteArray := prog_9_method_31_code
def yJ5_append_3fe6f : MethodName := ⟨RJ5, "append", "(C)Ljava/lang/AbstractStringBuilder;"⟩
abbrev cJ5_append_c97b9 : ByteArray := prog_9_method_32_code
def yJ5_append_c97b9 : MethodName := ⟨RJ5, "append", "(I)Ljava/lang/AbstractStringBuilder;"⟩
abbrev cJ5_isLatin1_aae02 : ByteArray := prog_9_method_68_code
def yJ5_isLatin1_aae02 : MethodName := ⟨RJ5, "isLatin1", "()Z"⟩
abbrev cJ5_inflateIfNeededFor_a7421 : ByteArray := prog_9_method_71_code
def yJ5_inflateIfNeededFor_a7421 : MethodName := ⟨RJ5, "inflateIfNeededFor", "(Ljava/lang/String;)V"⟩
abbrev cJ5_putStringAt_47b60 : ByteArray := prog_9_method_73_code
def yJ5_putStringAt_47b60 : MethodName := ⟨RJ5, "putStringAt", "(ILjava/lang/String;)V"⟩
def RJx9f9b0 : String := "java/lang/CharSequence"
def TJx9f9b0 : u_T := fun k => match k with
  | _ => ("", "", "", false)
def tyJx9f9b0 : Nat → FieldType := fun k => match k with
  | _ => .int
abbrev wsJx9f9b00 : List Cond := u_ws RJx9f9b0 TJx9f9b0 0
theorem nmJx9f9b0 : ∀ a, a < 0 → ∀ b, b < 0 → a ≠ b → (TJx9f9b0 a).2.1 ≠ (TJx9f9b0 b).2.1 := by decide +kernel
theorem tyJx9f9b0_ok : ∀ k, k < 0 → parseFieldDescriptor (TJx9f9b0 k).2.2.1 = some (tyJx9f9b0 k) := by decide +kernel
def RJx8e188 : String := "java/lang/Cloneable"
def TJx8e188 : u_T := fun k => match k with
  | _ => ("", "", "", false)
def tyJx8e188 : Nat → FieldType := fun k => match k with
  | _ => .int
abbrev wsJx8e1880 : List Cond := u_ws RJx8e188 TJx8e188 0
theorem nmJx8e188 : ∀ a, a < 0 → ∀ b, b < 0 → a ≠ b → (TJx8e188 a).2.1 ≠ (TJx8e188 b).2.1 := by decide +kernel
theorem tyJx8e188_ok : ∀ k, k < 0 → parseFieldDescriptor (TJx8e188 k).2.2.1 = some (tyJx8e188 k) := by decide +kernel
def RJxb160c : String := "java/lang/Comparable"
def TJxb160c : u_T := fun k => match k with
  | _ => ("", "", "", false)
def tyJxb160c : Nat → FieldType := fun k => match k with
  | _ => .int
abbrev wsJxb160c0 : List Cond := u_ws RJxb160c TJxb160c 0
theorem nmJxb160c : ∀ a, a < 0 → ∀ b, b < 0 → a ≠ b → (TJxb160c a).2.1 ≠ (TJxb160c b).2.1 := by decide +kernel
theorem tyJxb160c_ok : ∀ k, k < 0 → parseFieldDescriptor (TJxb160c k).2.2.1 = some (tyJxb160c k) := by decide +kernel
def RJx29ce0 : String := "java/lang/Enum"
def TJx29ce0 : u_T := fun k => match k with
  | _ => ("", "", "", false)
def tyJx29ce0 : Nat → FieldType := fun k => match k with
  | _ => .int
abbrev wsJx29ce00 : List Cond := u_ws RJx29ce0 TJx29ce0 0
theorem nmJx29ce0 : ∀ a, a < 0 → ∀ b, b < 0 → a ≠ b → (TJx29ce0 a).2.1 ≠ (TJx29ce0 b).2.1 := by decide +kernel
theorem tyJx29ce0_ok : ∀ k, k < 0 → parseFieldDescriptor (TJx29ce0 k).2.2.1 = some (tyJx29ce0 k) := by decide +kernel
abbrev cJx29ce0_ordinal_8abf5 : ByteArray := prog_12_method_2_code
def yJx29ce0_ordinal_8abf5 : MethodName := ⟨RJx29ce0, "ordinal", "()I"⟩
def RJ6 : String := "java/lang/Integer"
def TJ6 : u_T := fun k => match k with
  | _ => ("", "", "", false)
def tyJ6 : Nat → FieldType := fun k => match k with
  | _ => .int
abbrev wsJ60 : List Cond := u_ws RJ6 TJ6 0
theorem nmJ6 : ∀ a, a < 0 → ∀ b, b < 0 → a ≠ b → (TJ6 a).2.1 ≠ (TJ6 b).2.1 := by decide +kernel
theorem tyJ6_ok : ∀ k, k < 0 → parseFieldDescriptor (TJ6 k).2.2.1 = some (tyJ6 k) := by decide +kernel
abbrev cJ6_getChars_ba4f3 : ByteArray := prog_17_method_12_code
def yJ6_getChars_ba4f3 : MethodName := ⟨RJ6, "getChars", "(II[B)I"⟩
abbrev cJ6_stringSize_0f7a4 : ByteArray := prog_17_method_13_code
def yJ6_stringSize_0f7a4 : MethodName := ⟨RJ6, "stringSize", "(I)I"⟩
def RJ9 : String := "java/lang/Math"
def TJ9 : u_T := fun k => match k with
  | _ => ("", "", "", false)
def tyJ9 : Nat → FieldType := fun k => match k with
  | _ => .int
abbrev wsJ90 : List Cond := u_ws RJ9 TJ9 0
theorem nmJ9 : ∀ a, a < 0 → ∀ b, b < 0 → a ≠ b → (TJ9 a).2.1 ≠ (TJ9 b).2.1 := by decide +kernel
theorem tyJ9_ok : ∀ k, k < 0 → parseFieldDescriptor (TJ9 k).2.2.1 = some (tyJ9 k) := by decide +kernel
abbrev cJ9_abs_0f7a4 : ByteArray := prog_18_method_59_code
def yJ9_abs_0f7a4 : MethodName := ⟨RJ9, "abs", "(I)I"⟩
abbrev cJ9_max_7cf53 : ByteArray := prog_18_method_65_code
def yJ9_max_7cf53 : MethodName := ⟨RJ9, "max", "(II)I"⟩
abbrev cJ9_min_7cf53 : ByteArray := prog_18_method_69_code
def yJ9_min_7cf53 : MethodName := ⟨RJ9, "min", "(II)I"⟩
def RJ0 : String := "java/lang/String"
def TJ0 : u_T := fun k => match k with
  | _ => ("", "", "", false)
def tyJ0 : Nat → FieldType := fun k => match k with
  | _ => .int
abbrev wsJ00 : List Cond := u_ws RJ0 TJ0 0
theorem nmJ0 : ∀ a, a < 0 → ∀ b, b < 0 → a ≠ b → (TJ0 a).2.1 ≠ (TJ0 b).2.1 := by decide +kernel
theorem tyJ0_ok : ∀ k, k < 0 → parseFieldDescriptor (TJ0 k).2.2.1 = some (tyJ0 k) := by decide +kernel
abbrev cJ0_length_8abf5 : ByteArray := prog_20_method_54_code
def yJ0_length_8abf5 : MethodName := ⟨RJ0, "length", "()I"⟩
abbrev cJ0_charAt_5068e : ByteArray := prog_20_method_56_code
def yJ0_charAt_5068e : MethodName := ⟨RJ0, "charAt", "(I)C"⟩
abbrev cJ0_getBytes_840e7 : ByteArray := prog_20_method_147_code
def yJ0_getBytes_840e7 : MethodName := ⟨RJ0, "getBytes", "([BIB)V"⟩
abbrev cJ0_coder_7d493 : ByteArray := prog_20_method_152_code
def yJ0_coder_7d493 : MethodName := ⟨RJ0, "coder", "()B"⟩
abbrev cJ0_isLatin1_aae02 : ByteArray := prog_20_method_154_code
def yJ0_isLatin1_aae02 : MethodName := ⟨RJ0, "isLatin1", "()Z"⟩
abbrev cJ0_checkIndex_df160 : ByteArray := prog_20_method_155_code
def yJ0_checkIndex_df160 : MethodName := ⟨RJ0, "checkIndex", "(II)V"⟩
abbrev cJ0_checkBoundsOffCount_cabcc : ByteArray := prog_20_method_157_code
def yJ0_checkBoundsOffCount_cabcc : MethodName := ⟨RJ0, "checkBoundsOffCount", "(III)I"⟩
abbrev cJ0_checkBoundsBeginEnd_23922 : ByteArray := prog_20_method_158_code
def yJ0_checkBoundsBeginEnd_23922 : MethodName := ⟨RJ0, "checkBoundsBeginEnd", "(III)V"⟩
def RJ4 : String := "java/lang/StringBuilder"
def TJ4 : u_T := fun k => match k with
  | 0 => ("java/lang/AbstractStringBuilder", "value", "[B", false)
  | 1 => ("java/lang/AbstractStringBuilder", "coder", "B", false)
  | 2 => ("java/lang/AbstractStringBuilder", "maybeLatin1", "Z", false)
  | _ => ("java/lang/AbstractStringBuilder", "count", "I", false)
def tyJ4 : Nat → FieldType := fun k => match k with
  | 0 => .array .byte
  | 1 => .byte
  | 2 => .boolean
  | _ => .int
abbrev wsJ40 : List Cond := u_ws RJ4 TJ4 4
theorem nmJ4 : ∀ a, a < 4 → ∀ b, b < 4 → a ≠ b → (TJ4 a).2.1 ≠ (TJ4 b).2.1 := by decide +kernel
theorem tyJ4_ok : ∀ k, k < 4 → parseFieldDescriptor (TJ4 k).2.2.1 = some (tyJ4 k) := by decide +kernel
abbrev cJ4_init_a7421 : ByteArray := prog_21_method_3_code
def yJ4_init_a7421 : MethodName := ⟨RJ4, "<init>", "(Ljava/lang/String;)V"⟩
abbrev cJ4_append_15ec4 : ByteArray := prog_21_method_7_code
def yJ4_append_15ec4 : MethodName := ⟨RJ4, "append", "(Ljava/lang/String;)Ljava/lang/StringBuilder;"⟩
abbrev cJ4_append_cf468 : ByteArray := prog_21_method_14_code
def yJ4_append_cf468 : MethodName := ⟨RJ4, "append", "(C)Ljava/lang/StringBuilder;"⟩
abbrev cJ4_append_bf812 : ByteArray := prog_21_method_15_code
def yJ4_append_bf812 : MethodName := ⟨RJ4, "append", "(I)Ljava/lang/StringBuilder;"⟩
abbrev cJ4_append_cf1ce : ByteArray := prog_21_method_80_code
def yJ4_append_cf1ce : MethodName := ⟨RJ4, "append", "(Ljava/lang/String;)Ljava/lang/AbstractStringBuilder;"⟩
abbrev cJ4_charAt_5068e : ByteArray := prog_21_method_88_code
def yJ4_charAt_5068e : MethodName := ⟨RJ4, "charAt", "(I)C"⟩
abbrev cJ4_length_8abf5 : ByteArray := prog_21_method_93_code
def yJ4_length_8abf5 : MethodName := ⟨RJ4, "length", "()I"⟩
def RJ1 : String := "java/lang/StringLatin1"
def TJ1 : u_T := fun k => match k with
  | _ => ("", "", "", false)
def tyJ1 : Nat → FieldType := fun k => match k with
  | _ => .int
abbrev wsJ10 : List Cond := u_ws RJ1 TJ1 0
theorem nmJ1 : ∀ a, a < 0 → ∀ b, b < 0 → a ≠ b → (TJ1 a).2.1 ≠ (TJ1 b).2.1 := by decide +kernel
theorem tyJ1_ok : ∀ k, k < 0 → parseFieldDescriptor (TJ1 k).2.2.1 = some (tyJ1 k) := by decide +kernel
abbrev cJ1_charAt_3b067 : ByteArray := prog_22_method_2_code
def yJ1_charAt_3b067 : MethodName := ⟨RJ1, "charAt", "([BI)C"⟩
abbrev cJ1_canEncode_fc78d : ByteArray := prog_22_method_3_code
def yJ1_canEncode_fc78d : MethodName := ⟨RJ1, "canEncode", "(C)Z"⟩
abbrev cJ1_inflate_0e8fd : ByteArray := prog_22_method_50_code
def yJ1_inflate_0e8fd : MethodName := ⟨RJ1, "inflate", "([BI[BII)V"⟩
def RJ2 : String := "java/lang/StringUTF16"
def TJ2 : u_T := fun k => match k with
  | _ => ("", "", "", false)
def tyJ2 : Nat → FieldType := fun k => match k with
  | _ => .int
abbrev wsJ20 : List Cond := u_ws RJ2 TJ2 0
theorem nmJ2 : ∀ a, a < 0 → ∀ b, b < 0 → a ≠ b → (TJ2 a).2.1 ≠ (TJ2 b).2.1 := by decide +kernel
theorem tyJ2_ok : ∀ k, k < 0 → parseFieldDescriptor (TJ2 k).2.2.1 = some (tyJ2 k) := by decide +kernel
abbrev cJ2_newBytesFor_77867 : ByteArray := prog_23_method_2_code
def yJ2_newBytesFor_77867 : MethodName := ⟨RJ2, "newBytesFor", "(I)[B"⟩
abbrev cJ2_newBytesLength_0f7a4 : ByteArray := prog_23_method_3_code
def yJ2_newBytesLength_0f7a4 : MethodName := ⟨RJ2, "newBytesLength", "(I)I"⟩
abbrev cJ2_putChar_b72d1 : ByteArray := prog_23_method_4_code
def yJ2_putChar_b72d1 : MethodName := ⟨RJ2, "putChar", "([BII)V"⟩
abbrev cJ2_getChar_3b067 : ByteArray := prog_23_method_5_code
def yJ2_getChar_3b067 : MethodName := ⟨RJ2, "getChar", "([BI)C"⟩
abbrev cJ2_length_9d52b : ByteArray := prog_23_method_6_code
def yJ2_length_9d52b : MethodName := ⟨RJ2, "length", "([B)I"⟩
abbrev cJ2_putCharSB_b72d1 : ByteArray := prog_23_method_71_code
def yJ2_putCharSB_b72d1 : MethodName := ⟨RJ2, "putCharSB", "([BII)V"⟩
abbrev cJ2_getChars_46870 : ByteArray := prog_23_method_77_code
def yJ2_getChars_46870 : MethodName := ⟨RJ2, "getChars", "(III[B)I"⟩
abbrev cJ2_putCharsAt_cd4e5 : ByteArray := prog_23_method_81_code
def yJ2_putCharsAt_cd4e5 : MethodName := ⟨RJ2, "putCharsAt", "([BICCCC)I"⟩
abbrev cJ2_charAt_3b067 : ByteArray := prog_23_method_83_code
def yJ2_charAt_3b067 : MethodName := ⟨RJ2, "charAt", "([BI)C"⟩
abbrev cJ2_inflate_0e8fd : ByteArray := prog_23_method_86_code
def yJ2_inflate_0e8fd : MethodName := ⟨RJ2, "inflate", "([BI[BII)V"⟩
abbrev cJ2_getChars_ba4f3 : ByteArray := prog_23_method_89_code
def yJ2_getChars_ba4f3 : MethodName := ⟨RJ2, "getChars", "(II[B)I"⟩
abbrev cJ2_checkIndex_2214a : ByteArray := prog_23_method_91_code
def yJ2_checkIndex_2214a : MethodName := ⟨RJ2, "checkIndex", "(I[B)V"⟩
abbrev cJ2_checkBoundsBeginEnd_d044e : ByteArray := prog_23_method_93_code
def yJ2_checkBoundsBeginEnd_d044e : MethodName := ⟨RJ2, "checkBoundsBeginEnd", "(II[B)V"⟩
abbrev cJ2_checkBoundsOffCount_d044e : ByteArray := prog_23_method_94_code
def yJ2_checkBoundsOffCount_d044e : MethodName := ⟨RJ2, "checkBoundsOffCount", "(II[B)V"⟩
def RJ10 : String := "java/lang/System"
def TJ10 : u_T := fun k => match k with
  | _ => ("", "", "", false)
def tyJ10 : Nat → FieldType := fun k => match k with
  | _ => .int
abbrev wsJ100 : List Cond := u_ws RJ10 TJ10 0
theorem nmJ10 : ∀ a, a < 0 → ∀ b, b < 0 → a ≠ b → (TJ10 a).2.1 ≠ (TJ10 b).2.1 := by decide +kernel
theorem tyJ10_ok : ∀ k, k < 0 → parseFieldDescriptor (TJ10 k).2.2.1 = some (tyJ10 k) := by decide +kernel
def RJxfd54e : String := "java/lang/constant/Constable"
def TJxfd54e : u_T := fun k => match k with
  | _ => ("", "", "", false)
def tyJxfd54e : Nat → FieldType := fun k => match k with
  | _ => .int
abbrev wsJxfd54e0 : List Cond := u_ws RJxfd54e TJxfd54e 0
theorem nmJxfd54e : ∀ a, a < 0 → ∀ b, b < 0 → a ≠ b → (TJxfd54e a).2.1 ≠ (TJxfd54e b).2.1 := by decide +kernel
theorem tyJxfd54e_ok : ∀ k, k < 0 → parseFieldDescriptor (TJxfd54e k).2.2.1 = some (tyJxfd54e k) := by decide +kernel
def RJx3cf43 : String := "java/lang/constant/ConstantDesc"
def TJx3cf43 : u_T := fun k => match k with
  | _ => ("", "", "", false)
def tyJx3cf43 : Nat → FieldType := fun k => match k with
  | _ => .int
abbrev wsJx3cf430 : List Cond := u_ws RJx3cf43 TJx3cf43 0
theorem nmJx3cf43 : ∀ a, a < 0 → ∀ b, b < 0 → a ≠ b → (TJx3cf43 a).2.1 ≠ (TJx3cf43 b).2.1 := by decide +kernel
theorem tyJx3cf43_ok : ∀ k, k < 0 → parseFieldDescriptor (TJx3cf43 k).2.2.1 = some (tyJx3cf43 k) := by decide +kernel
def RJ7 : String := "java/util/Arrays"
def TJ7 : u_T := fun k => match k with
  | _ => ("", "", "", false)
def tyJ7 : Nat → FieldType := fun k => match k with
  | _ => .int
abbrev wsJ70 : List Cond := u_ws RJ7 TJ7 0
theorem nmJ7 : ∀ a, a < 0 → ∀ b, b < 0 → a ≠ b → (TJ7 a).2.1 ≠ (TJ7 b).2.1 := by decide +kernel
theorem tyJ7_ok : ∀ k, k < 0 → parseFieldDescriptor (TJ7 k).2.2.1 = some (tyJ7 k) := by decide +kernel
abbrev cJ7_copyOf_9075b : ByteArray := prog_26_method_121_code
def yJ7_copyOf_9075b : MethodName := ⟨RJ7, "copyOf", "([BI)[B"⟩
def RJ8 : String := "jdk/internal/util/ArraysSupport"
def TJ8 : u_T := fun k => match k with
  | _ => ("", "", "", false)
def tyJ8 : Nat → FieldType := fun k => match k with
  | _ => .int
abbrev wsJ80 : List Cond := u_ws RJ8 TJ8 0
theorem nmJ8 : ∀ a, a < 0 → ∀ b, b < 0 → a ≠ b → (TJ8 a).2.1 ≠ (TJ8 b).2.1 := by decide +kernel
theorem tyJ8_ok : ∀ k, k < 0 → parseFieldDescriptor (TJ8 k).2.2.1 = some (tyJ8 k) := by decide +kernel
abbrev cJ8_newLength_cabcc : ByteArray := prog_27_method_27_code
def yJ8_newLength_cabcc : MethodName := ⟨RJ8, "newLength", "(III)I"⟩
abbrev cJ8_hugeLength_7cf53 : ByteArray := prog_27_method_28_code
def yJ8_hugeLength_7cf53 : MethodName := ⟨RJ8, "hugeLength", "(II)I"⟩
def RJ3 : String := "jdk/internal/util/Preconditions"
def TJ3 : u_T := fun k => match k with
  | _ => ("", "", "", false)
def tyJ3 : Nat → FieldType := fun k => match k with
  | _ => .int
abbrev wsJ30 : List Cond := u_ws RJ3 TJ3 0
theorem nmJ3 : ∀ a, a < 0 → ∀ b, b < 0 → a ≠ b → (TJ3 a).2.1 ≠ (TJ3 b).2.1 := by decide +kernel
theorem tyJ3_ok : ∀ k, k < 0 → parseFieldDescriptor (TJ3 k).2.2.1 = some (tyJ3 k) := by decide +kernel
abbrev cJ3_checkIndex_8e157 : ByteArray := prog_28_method_11_code
def yJ3_checkIndex_8e157 : MethodName := ⟨RJ3, "checkIndex", "(IILjava/util/function/BiFunction;)I"⟩
abbrev cJ3_checkFromToIndex_8c36e : ByteArray := prog_28_method_12_code
def yJ3_checkFromToIndex_8c36e : MethodName := ⟨RJ3, "checkFromToIndex", "(IIILjava/util/function/BiFunction;)I"⟩
abbrev cJ3_checkFromIndexSize_8c36e : ByteArray := prog_28_method_13_code
def yJ3_checkFromIndexSize_8c36e : MethodName := ⟨RJ3, "checkFromIndexSize", "(IIILjava/util/function/BiFunction;)I"⟩
def RL : String := "LiftSchedulerLaw"
abbrev cL_draw : ByteArray := method_2_code
def yL_draw : MethodName := ⟨RL, "draw", "([II)I"⟩
abbrev cL_lays : ByteArray := method_3_code
def yL_lays : MethodName := ⟨RL, "lays", "(LLiftScheduler;Ljava/lang/CharSequence;)Z"⟩
abbrev cL_loads : ByteArray := method_4_code
def yL_loads : MethodName := ⟨RL, "loads", "(LLiftScheduler;LLiftSchedulerLaw$Random;II)Z"⟩
abbrev cL_law : ByteArray := code
def yL_law : MethodName := ⟨RL, "law", "([I)Z"⟩
abbrev vwCl : List vw_C := [(RX2, TX2, 9), (RX3, TX3, 19), (RX4, TX4, 12), (RX5, TX5, 1), (RJ4, TJ4, 4)]
