/-! ===== BEGIN printed: names, fields, word lists ===== -/
def RX0 : String := "ModemLink$Dictionary"
def TX0 : u_T := fun k => match k with
  | 0 => ("ModemLink$Dictionary", "bytes", "[I", true)
  | _ => ("ModemLink$Dictionary", "count", "I", false)
def tyX0 : Nat → FieldType := fun k => match k with
  | 0 => .array .int
  | _ => .int
abbrev wsX00 : List Cond := u_ws RX0 TX0 2
theorem nmX0 : ∀ a, a < 2 → ∀ b, b < 2 → a ≠ b → (TX0 a).2.1 ≠ (TX0 b).2.1 := by decide +kernel
theorem tyX0_ok : ∀ k, k < 2 → parseFieldDescriptor (TX0 k).2.2.1 = some (tyX0 k) := by decide +kernel
abbrev cX0_init : ByteArray := prog_2_method_1_code
def yX0_init : MethodName := ⟨RX0, "<init>", "()V"⟩
abbrev cX0_copyFrom : ByteArray := prog_2_method_2_code
def yX0_copyFrom : MethodName := ⟨RX0, "copyFrom", "(LModemLink$Dictionary;)V"⟩
abbrev cX0_putInFront : ByteArray := prog_2_method_3_code
def yX0_putInFront : MethodName := ⟨RX0, "putInFront", "(I)I"⟩
def RX1 : String := "ModemLink$End"
def TX1 : u_T := fun k => match k with
  | 0 => ("ModemLink$End", "queue", "[I", true)
  | 1 => ("ModemLink$End", "received", "[I", true)
  | 2 => ("ModemLink$End", "frames", "LModemLink$Frames;", true)
  | 3 => ("ModemLink$End", "writing", "LModemLink$Dictionary;", true)
  | 4 => ("ModemLink$End", "reading", "LModemLink$Dictionary;", true)
  | 5 => ("ModemLink$End", "queueCount", "I", false)
  | 6 => ("ModemLink$End", "receivedCount", "I", false)
  | 7 => ("ModemLink$End", "expects", "I", false)
  | 8 => ("ModemLink$End", "credit", "I", false)
  | 9 => ("ModemLink$End", "escaped", "Z", false)
  | _ => ("ModemLink$End", "marksNext", "Z", false)
def tyX1 : Nat → FieldType := fun k => match k with
  | 0 => .array .int
  | 1 => .array .int
  | 2 => .object "ModemLink$Frames"
  | 3 => .object "ModemLink$Dictionary"
  | 4 => .object "ModemLink$Dictionary"
  | 5 => .int
  | 6 => .int
  | 7 => .int
  | 8 => .int
  | 9 => .boolean
  | _ => .boolean
abbrev wsX10 : List Cond := u_ws RX1 TX1 11
theorem nmX1 : ∀ a, a < 11 → ∀ b, b < 11 → a ≠ b → (TX1 a).2.1 ≠ (TX1 b).2.1 := by decide +kernel
theorem tyX1_ok : ∀ k, k < 11 → parseFieldDescriptor (TX1 k).2.2.1 = some (tyX1 k) := by decide +kernel
abbrev cX1_init : ByteArray := prog_3_method_1_code
def yX1_init : MethodName := ⟨RX1, "<init>", "()V"⟩
abbrev cX1_begin : ByteArray := prog_3_method_2_code
def yX1_begin : MethodName := ⟨RX1, "begin", "()V"⟩
abbrev cX1_copyFrom : ByteArray := prog_3_method_3_code
def yX1_copyFrom : MethodName := ⟨RX1, "copyFrom", "(LModemLink$End;)V"⟩
abbrev cX1_keptCount : ByteArray := prog_3_method_4_code
def yX1_keptCount : MethodName := ⟨RX1, "keptCount", "()I"⟩
abbrev cX1_nextFrameSize : ByteArray := prog_3_method_5_code
def yX1_nextFrameSize : MethodName := ⟨RX1, "nextFrameSize", "()I"⟩
abbrev cX1_enqueue : ByteArray := prog_3_method_6_code
def yX1_enqueue : MethodName := ⟨RX1, "enqueue", "([II)V"⟩
abbrev cX1_makeFrame : ByteArray := prog_3_method_7_code
def yX1_makeFrame : MethodName := ⟨RX1, "makeFrame", "(I)V"⟩
abbrev cX1_read : ByteArray := prog_3_method_8_code
def yX1_read : MethodName := ⟨RX1, "read", "(I)V"⟩
abbrev cX1_comeOnline : ByteArray := prog_3_method_9_code
def yX1_comeOnline : MethodName := ⟨RX1, "comeOnline", "(I)V"⟩
abbrev cX1_loseAll : ByteArray := prog_3_method_10_code
def yX1_loseAll : MethodName := ⟨RX1, "loseAll", "()V"⟩
def RX2 : String := "ModemLink$Frames"
def TX2 : u_T := fun k => match k with
  | 0 => ("ModemLink$Frames", "bytes", "[I", true)
  | 1 => ("ModemLink$Frames", "sizes", "[I", true)
  | 2 => ("ModemLink$Frames", "sentTicks", "[I", true)
  | 3 => ("ModemLink$Frames", "first", "I", false)
  | 4 => ("ModemLink$Frames", "count", "I", false)
  | _ => ("ModemLink$Frames", "sent", "I", false)
def tyX2 : Nat → FieldType := fun k => match k with
  | 0 => .array .int
  | 1 => .array .int
  | 2 => .array .int
  | 3 => .int
  | 4 => .int
  | _ => .int
abbrev wsX20 : List Cond := u_ws RX2 TX2 6
theorem nmX2 : ∀ a, a < 6 → ∀ b, b < 6 → a ≠ b → (TX2 a).2.1 ≠ (TX2 b).2.1 := by decide +kernel
theorem tyX2_ok : ∀ k, k < 6 → parseFieldDescriptor (TX2 k).2.2.1 = some (tyX2 k) := by decide +kernel
abbrev cX2_init : ByteArray := prog_4_method_1_code
def yX2_init : MethodName := ⟨RX2, "<init>", "()V"⟩
abbrev cX2_copyFrom : ByteArray := prog_4_method_2_code
def yX2_copyFrom : MethodName := ⟨RX2, "copyFrom", "(LModemLink$Frames;)V"⟩
abbrev cX2_beginNumbers : ByteArray := prog_4_method_3_code
def yX2_beginNumbers : MethodName := ⟨RX2, "beginNumbers", "()V"⟩
abbrev cX2_slotOf : ByteArray := prog_4_method_4_code
def yX2_slotOf : MethodName := ⟨RX2, "slotOf", "(I)I"⟩
abbrev cX2_make : ByteArray := prog_4_method_5_code
def yX2_make : MethodName := ⟨RX2, "make", "(I[II)V"⟩
abbrev cX2_forgetFirst : ByteArray := prog_4_method_6_code
def yX2_forgetFirst : MethodName := ⟨RX2, "forgetFirst", "()V"⟩
abbrev cX2_forgetBelow : ByteArray := prog_4_method_7_code
def yX2_forgetBelow : MethodName := ⟨RX2, "forgetBelow", "(I)V"⟩
abbrev cX2_loseAll : ByteArray := prog_4_method_8_code
def yX2_loseAll : MethodName := ⟨RX2, "loseAll", "()V"⟩
abbrev cX2_bytesFrom : ByteArray := prog_4_method_9_code
def yX2_bytesFrom : MethodName := ⟨RX2, "bytesFrom", "(I)I"⟩
def RX3 : String := "ModemLink$Line"
def TX3 : u_T := fun k => match k with
  | 0 => ("ModemLink$Line", "setup", "LModemLink$Setup;", true)
  | 1 => ("ModemLink$Line", "zero", "LModemLink$End;", true)
  | 2 => ("ModemLink$Line", "one", "LModemLink$End;", true)
  | 3 => ("ModemLink$Line", "wire", "LModemLink$Wire;", true)
  | 4 => ("ModemLink$Line", "log", "LModemLink$Log;", true)
  | 5 => ("ModemLink$Line", "totals", "[I", true)
  | 6 => ("ModemLink$Line", "tried", "LModemLink$Dictionary;", true)
  | 7 => ("ModemLink$Line", "time", "I", false)
  | 8 => ("ModemLink$Line", "phase", "I", false)
  | 9 => ("ModemLink$Line", "quality", "I", false)
  | 10 => ("ModemLink$Line", "rate", "I", false)
  | 11 => ("ModemLink$Line", "step", "I", false)
  | 12 => ("ModemLink$Line", "stepLeft", "I", false)
  | 13 => ("ModemLink$Line", "restarts", "I", false)
  | 14 => ("ModemLink$Line", "loss", "I", false)
  | 15 => ("ModemLink$Line", "failures", "I", false)
  | _ => ("ModemLink$Line", "acknowledged", "I", false)
def tyX3 : Nat → FieldType := fun k => match k with
  | 0 => .object "ModemLink$Setup"
  | 1 => .object "ModemLink$End"
  | 2 => .object "ModemLink$End"
  | 3 => .object "ModemLink$Wire"
  | 4 => .object "ModemLink$Log"
  | 5 => .array .int
  | 6 => .object "ModemLink$Dictionary"
  | 7 => .int
  | 8 => .int
  | 9 => .int
  | 10 => .int
  | 11 => .int
  | 12 => .int
  | 13 => .int
  | 14 => .int
  | 15 => .int
  | _ => .int
abbrev wsX30 : List Cond := u_ws RX3 TX3 17
theorem nmX3 : ∀ a, a < 17 → ∀ b, b < 17 → a ≠ b → (TX3 a).2.1 ≠ (TX3 b).2.1 := by decide +kernel
theorem tyX3_ok : ∀ k, k < 17 → parseFieldDescriptor (TX3 k).2.2.1 = some (tyX3 k) := by decide +kernel
abbrev cX3_init : ByteArray := prog_5_method_1_code
def yX3_init : MethodName := ⟨RX3, "<init>", "(LModemLink$Setup;)V"⟩
abbrev cX3_begin : ByteArray := prog_5_method_2_code
def yX3_begin : MethodName := ⟨RX3, "begin", "()V"⟩
abbrev cX3_copyFrom : ByteArray := prog_5_method_3_code
def yX3_copyFrom : MethodName := ⟨RX3, "copyFrom", "(LModemLink$Line;)V"⟩
abbrev cX3_endOf : ByteArray := prog_5_method_4_code
def yX3_endOf : MethodName := ⟨RX3, "endOf", "(I)LModemLink$End;"⟩
abbrev cX3_run : ByteArray := prog_5_method_5_code
def yX3_run : MethodName := ⟨RX3, "run", "(I)V"⟩
abbrev cX3_runToFinish : ByteArray := prog_5_method_6_code
def yX3_runToFinish : MethodName := ⟨RX3, "runToFinish", "()I"⟩
abbrev cX3_isFinished : ByteArray := prog_5_method_7_code
def yX3_isFinished : MethodName := ⟨RX3, "isFinished", "()Z"⟩
abbrev cX3_tick : ByteArray := prog_5_method_8_code
def yX3_tick : MethodName := ⟨RX3, "tick", "()V"⟩
abbrev cX3_call : ByteArray := prog_5_method_9_code
def yX3_call : MethodName := ⟨RX3, "call", "()V"⟩
abbrev cX3_beginTraining : ByteArray := prog_5_method_10_code
def yX3_beginTraining : MethodName := ⟨RX3, "beginTraining", "(I)V"⟩
abbrev cX3_beginStep : ByteArray := prog_5_method_11_code
def yX3_beginStep : MethodName := ⟨RX3, "beginStep", "(I)V"⟩
abbrev cX3_train : ByteArray := prog_5_method_12_code
def yX3_train : MethodName := ⟨RX3, "train", "()V"⟩
abbrev cX3_comeOnline : ByteArray := prog_5_method_13_code
def yX3_comeOnline : MethodName := ⟨RX3, "comeOnline", "()V"⟩
abbrev cX3_waitForCarrier : ByteArray := prog_5_method_14_code
def yX3_waitForCarrier : MethodName := ⟨RX3, "waitForCarrier", "()V"⟩
abbrev cX3_cutAfterHold : ByteArray := prog_5_method_15_code
def yX3_cutAfterHold : MethodName := ⟨RX3, "cutAfterHold", "()V"⟩
abbrev cX3_loseCarrier : ByteArray := prog_5_method_16_code
def yX3_loseCarrier : MethodName := ⟨RX3, "loseCarrier", "()V"⟩
abbrev cX3_cut : ByteArray := prog_5_method_17_code
def yX3_cut : MethodName := ⟨RX3, "cut", "()V"⟩
abbrev cX3_unreceivedBytes : ByteArray := prog_5_method_18_code
def yX3_unreceivedBytes : MethodName := ⟨RX3, "unreceivedBytes", "()I"⟩
abbrev cX3_note : ByteArray := prog_5_method_19_code
def yX3_note : MethodName := ⟨RX3, "note", "(II)V"⟩
abbrev cX3_arrive : ByteArray := prog_5_method_20_code
def yX3_arrive : MethodName := ⟨RX3, "arrive", "()V"⟩
abbrev cX3_acceptAcknowledgement : ByteArray := prog_5_method_21_code
def yX3_acceptAcknowledgement : MethodName := ⟨RX3, "acceptAcknowledgement", "(II)V"⟩
abbrev cX3_acceptFrame : ByteArray := prog_5_method_22_code
def yX3_acceptFrame : MethodName := ⟨RX3, "acceptFrame", "(III)V"⟩
abbrev cX3_checkTimer : ByteArray := prog_5_method_23_code
def yX3_checkTimer : MethodName := ⟨RX3, "checkTimer", "(I)V"⟩
abbrev cX3_fall : ByteArray := prog_5_method_24_code
def yX3_fall : MethodName := ⟨RX3, "fall", "()V"⟩
abbrev cX3_rise : ByteArray := prog_5_method_25_code
def yX3_rise : MethodName := ⟨RX3, "rise", "()V"⟩
abbrev cX3_sendFrom : ByteArray := prog_5_method_26_code
def yX3_sendFrom : MethodName := ⟨RX3, "sendFrom", "(I)V"⟩
abbrev cX3_sendNext : ByteArray := prog_5_method_27_code
def yX3_sendNext : MethodName := ⟨RX3, "sendNext", "(I)Z"⟩
abbrev cX3_costOf : ByteArray := prog_5_method_28_code
def yX3_costOf : MethodName := ⟨RX3, "costOf", "(LModemLink$End;[III)I"⟩
abbrev cX3_launch : ByteArray := prog_5_method_29_code
def yX3_launch : MethodName := ⟨RX3, "launch", "(I)V"⟩
def RX4 : String := "ModemLink$Log"
def TX4 : u_T := fun k => match k with
  | 0 => ("ModemLink$Log", "rows", "[I", true)
  | 1 => ("ModemLink$Log", "oldest", "I", false)
  | _ => ("ModemLink$Log", "count", "I", false)
def tyX4 : Nat → FieldType := fun k => match k with
  | 0 => .array .int
  | 1 => .int
  | _ => .int
abbrev wsX40 : List Cond := u_ws RX4 TX4 3
theorem nmX4 : ∀ a, a < 3 → ∀ b, b < 3 → a ≠ b → (TX4 a).2.1 ≠ (TX4 b).2.1 := by decide +kernel
theorem tyX4_ok : ∀ k, k < 3 → parseFieldDescriptor (TX4 k).2.2.1 = some (tyX4 k) := by decide +kernel
abbrev cX4_init : ByteArray := prog_6_method_1_code
def yX4_init : MethodName := ⟨RX4, "<init>", "()V"⟩
abbrev cX4_copyFrom : ByteArray := prog_6_method_2_code
def yX4_copyFrom : MethodName := ⟨RX4, "copyFrom", "(LModemLink$Log;)V"⟩
abbrev cX4_add : ByteArray := prog_6_method_3_code
def yX4_add : MethodName := ⟨RX4, "add", "(IIII)V"⟩
abbrev cX4_propertyOf : ByteArray := prog_6_method_4_code
def yX4_propertyOf : MethodName := ⟨RX4, "propertyOf", "(II)I"⟩
def RX5 : String := "ModemLink$QueryReader"
def TX5 : u_T := fun k => match k with
  | 0 => ("ModemLink$QueryReader", "tokens", "LModemLink$Tokens;", true)
  | _ => ("ModemLink$QueryReader", "log", "LModemLink$Log;", true)
def tyX5 : Nat → FieldType := fun k => match k with
  | 0 => .object "ModemLink$Tokens"
  | _ => .object "ModemLink$Log"
abbrev wsX50 : List Cond := u_ws RX5 TX5 2
theorem nmX5 : ∀ a, a < 2 → ∀ b, b < 2 → a ≠ b → (TX5 a).2.1 ≠ (TX5 b).2.1 := by decide +kernel
theorem tyX5_ok : ∀ k, k < 2 → parseFieldDescriptor (TX5 k).2.2.1 = some (tyX5 k) := by decide +kernel
abbrev cX5_init : ByteArray := prog_7_method_1_code
def yX5_init : MethodName := ⟨RX5, "<init>", "(LModemLink$Tokens;LModemLink$Log;)V"⟩
def RX6 : String := "ModemLink$Setup"
def TX6 : u_T := fun k => match k with
  | 0 => ("ModemLink$Setup", "speeds", "[I", true)
  | 1 => ("ModemLink$Setup", "needs", "[I", true)
  | 2 => ("ModemLink$Setup", "steps", "[I", true)
  | 3 => ("ModemLink$Setup", "noises", "[I", true)
  | 4 => ("ModemLink$Setup", "rateCount", "I", false)
  | 5 => ("ModemLink$Setup", "noiseCount", "I", false)
  | 6 => ("ModemLink$Setup", "quality", "I", false)
  | 7 => ("ModemLink$Setup", "retries", "I", false)
  | 8 => ("ModemLink$Setup", "hold", "I", false)
  | 9 => ("ModemLink$Setup", "window", "I", false)
  | 10 => ("ModemLink$Setup", "delay", "I", false)
  | 11 => ("ModemLink$Setup", "timeout", "I", false)
  | 12 => ("ModemLink$Setup", "limit", "I", false)
  | _ => ("ModemLink$Setup", "patience", "I", false)
def tyX6 : Nat → FieldType := fun k => match k with
  | 0 => .array .int
  | 1 => .array .int
  | 2 => .array .int
  | 3 => .array .int
  | 4 => .int
  | 5 => .int
  | 6 => .int
  | 7 => .int
  | 8 => .int
  | 9 => .int
  | 10 => .int
  | 11 => .int
  | 12 => .int
  | _ => .int
abbrev wsX60 : List Cond := u_ws RX6 TX6 14
theorem nmX6 : ∀ a, a < 14 → ∀ b, b < 14 → a ≠ b → (TX6 a).2.1 ≠ (TX6 b).2.1 := by decide +kernel
theorem tyX6_ok : ∀ k, k < 14 → parseFieldDescriptor (TX6 k).2.2.1 = some (tyX6 k) := by decide +kernel
abbrev cX6_init : ByteArray := prog_8_method_1_code
def yX6_init : MethodName := ⟨RX6, "<init>", "()V"⟩
abbrev cX6_setDefaults : ByteArray := prog_8_method_2_code
def yX6_setDefaults : MethodName := ⟨RX6, "setDefaults", "()V"⟩
abbrev cX6_copyFrom : ByteArray := prog_8_method_3_code
def yX6_copyFrom : MethodName := ⟨RX6, "copyFrom", "(LModemLink$Setup;)V"⟩
abbrev cX6_greatestRate : ByteArray := prog_8_method_4_code
def yX6_greatestRate : MethodName := ⟨RX6, "greatestRate", "(I)I"⟩
abbrev cX6_speedOf : ByteArray := prog_8_method_5_code
def yX6_speedOf : MethodName := ⟨RX6, "speedOf", "(I)I"⟩
abbrev cX6_canRiseFrom : ByteArray := prog_8_method_6_code
def yX6_canRiseFrom : MethodName := ⟨RX6, "canRiseFrom", "(II)Z"⟩
abbrev cX6_stepTicks : ByteArray := prog_8_method_7_code
def yX6_stepTicks : MethodName := ⟨RX6, "stepTicks", "(I)I"⟩
abbrev cX6_trainingTicks : ByteArray := prog_8_method_8_code
def yX6_trainingTicks : MethodName := ⟨RX6, "trainingTicks", "()I"⟩
abbrev cX6_noiseOf : ByteArray := prog_8_method_9_code
def yX6_noiseOf : MethodName := ⟨RX6, "noiseOf", "(I)I"⟩
def RX7 : String := "ModemLink$SetupReader"
def TX7 : u_T := fun k => match k with
  | _ => ("ModemLink$SetupReader", "tokens", "LModemLink$Tokens;", true)
def tyX7 : Nat → FieldType := fun k => match k with
  | _ => .object "ModemLink$Tokens"
abbrev wsX70 : List Cond := u_ws RX7 TX7 1
theorem nmX7 : ∀ a, a < 1 → ∀ b, b < 1 → a ≠ b → (TX7 a).2.1 ≠ (TX7 b).2.1 := by decide +kernel
theorem tyX7_ok : ∀ k, k < 1 → parseFieldDescriptor (TX7 k).2.2.1 = some (tyX7 k) := by decide +kernel
abbrev cX7_init : ByteArray := prog_9_method_1_code
def yX7_init : MethodName := ⟨RX7, "<init>", "(LModemLink$Tokens;)V"⟩
abbrev cX7_readText : ByteArray := prog_9_method_2_code
def yX7_readText : MethodName := ⟨RX7, "readText", "(LModemLink$Setup;)V"⟩
abbrev cX7_readRates : ByteArray := prog_9_method_3_code
def yX7_readRates : MethodName := ⟨RX7, "readRates", "(LModemLink$Setup;)Z"⟩
abbrev cX7_readRate : ByteArray := prog_9_method_4_code
def yX7_readRate : MethodName := ⟨RX7, "readRate", "(LModemLink$Setup;I)Z"⟩
abbrev cX7_readGreater : ByteArray := prog_9_method_5_code
def yX7_readGreater : MethodName := ⟨RX7, "readGreater", "([IIII)Z"⟩
abbrev cX7_readClause : ByteArray := prog_9_method_6_code
def yX7_readClause : MethodName := ⟨RX7, "readClause", "(LModemLink$Setup;)V"⟩
abbrev cX7_readNumberClause : ByteArray := prog_9_method_7_code
def yX7_readNumberClause : MethodName := ⟨RX7, "readNumberClause", "(LModemLink$Setup;)V"⟩
abbrev cX7_readSteps : ByteArray := prog_9_method_8_code
def yX7_readSteps : MethodName := ⟨RX7, "readSteps", "(LModemLink$Setup;)V"⟩
abbrev cX7_readDelay : ByteArray := prog_9_method_9_code
def yX7_readDelay : MethodName := ⟨RX7, "readDelay", "(LModemLink$Setup;)V"⟩
abbrev cX7_readNoises : ByteArray := prog_9_method_10_code
def yX7_readNoises : MethodName := ⟨RX7, "readNoises", "(LModemLink$Setup;)V"⟩
def RX8 : String := "ModemLink$Tokens"
def TX8 : u_T := fun k => match k with
  | 0 => ("ModemLink$Tokens", "bytes", "[I", true)
  | 1 => ("ModemLink$Tokens", "length", "I", false)
  | 2 => ("ModemLink$Tokens", "kind", "I", false)
  | 3 => ("ModemLink$Tokens", "start", "I", false)
  | 4 => ("ModemLink$Tokens", "behind", "I", false)
  | 5 => ("ModemLink$Tokens", "value", "I", false)
  | _ => ("ModemLink$Tokens", "error", "I", false)
def tyX8 : Nat → FieldType := fun k => match k with
  | 0 => .array .int
  | 1 => .int
  | 2 => .int
  | 3 => .int
  | 4 => .int
  | 5 => .int
  | _ => .int
abbrev wsX80 : List Cond := u_ws RX8 TX8 7
theorem nmX8 : ∀ a, a < 7 → ∀ b, b < 7 → a ≠ b → (TX8 a).2.1 ≠ (TX8 b).2.1 := by decide +kernel
theorem tyX8_ok : ∀ k, k < 7 → parseFieldDescriptor (TX8 k).2.2.1 = some (tyX8 k) := by decide +kernel
abbrev cX8_init : ByteArray := prog_10_method_1_code
def yX8_init : MethodName := ⟨RX8, "<init>", "([I)V"⟩
abbrev cX8_open : ByteArray := prog_10_method_2_code
def yX8_open : MethodName := ⟨RX8, "open", "(I)V"⟩
abbrev cX8_next : ByteArray := prog_10_method_3_code
def yX8_next : MethodName := ⟨RX8, "next", "()V"⟩
abbrev cX8_kindOf : ByteArray := prog_10_method_4_code
def yX8_kindOf : MethodName := ⟨RX8, "kindOf", "(I)I"⟩
abbrev cX8_isWord : ByteArray := prog_10_method_5_code
def yX8_isWord : MethodName := ⟨RX8, "isWord", "(Ljava/lang/String;)Z"⟩
abbrev cX8_isSign : ByteArray := prog_10_method_6_code
def yX8_isSign : MethodName := ⟨RX8, "isSign", "(C)Z"⟩
abbrev cX8_fail : ByteArray := prog_10_method_7_code
def yX8_fail : MethodName := ⟨RX8, "fail", "(I)Z"⟩
abbrev cX8_takeWord : ByteArray := prog_10_method_8_code
def yX8_takeWord : MethodName := ⟨RX8, "takeWord", "(Ljava/lang/String;)Z"⟩
abbrev cX8_takeSign : ByteArray := prog_10_method_9_code
def yX8_takeSign : MethodName := ⟨RX8, "takeSign", "(C)Z"⟩
abbrev cX8_hasNumber : ByteArray := prog_10_method_10_code
def yX8_hasNumber : MethodName := ⟨RX8, "hasNumber", "(II)Z"⟩
abbrev cX8_takeNumber : ByteArray := prog_10_method_11_code
def yX8_takeNumber : MethodName := ⟨RX8, "takeNumber", "(II)I"⟩
abbrev cX8_takeLastNumber : ByteArray := prog_10_method_12_code
def yX8_takeLastNumber : MethodName := ⟨RX8, "takeLastNumber", "(II)I"⟩
def RX9 : String := "ModemLink$Wire"
def TX9 : u_T := fun k => match k with
  | 0 => ("ModemLink$Wire", "ticks", "[I", true)
  | 1 => ("ModemLink$Wire", "senders", "[I", true)
  | 2 => ("ModemLink$Wire", "numbers", "[I", true)
  | 3 => ("ModemLink$Wire", "traits", "[I", true)
  | 4 => ("ModemLink$Wire", "first", "I", false)
  | _ => ("ModemLink$Wire", "count", "I", false)
def tyX9 : Nat → FieldType := fun k => match k with
  | 0 => .array .int
  | 1 => .array .int
  | 2 => .array .int
  | 3 => .array .int
  | 4 => .int
  | _ => .int
abbrev wsX90 : List Cond := u_ws RX9 TX9 6
theorem nmX9 : ∀ a, a < 6 → ∀ b, b < 6 → a ≠ b → (TX9 a).2.1 ≠ (TX9 b).2.1 := by decide +kernel
theorem tyX9_ok : ∀ k, k < 6 → parseFieldDescriptor (TX9 k).2.2.1 = some (tyX9 k) := by decide +kernel
abbrev cX9_init : ByteArray := prog_11_method_1_code
def yX9_init : MethodName := ⟨RX9, "<init>", "()V"⟩
abbrev cX9_copyFrom : ByteArray := prog_11_method_2_code
def yX9_copyFrom : MethodName := ⟨RX9, "copyFrom", "(LModemLink$Wire;)V"⟩
abbrev cX9_put : ByteArray := prog_11_method_3_code
def yX9_put : MethodName := ⟨RX9, "put", "(IIII)V"⟩
abbrev cX9_hasFrom : ByteArray := prog_11_method_4_code
def yX9_hasFrom : MethodName := ⟨RX9, "hasFrom", "(I)Z"⟩
abbrev cX9_take : ByteArray := prog_11_method_5_code
def yX9_take : MethodName := ⟨RX9, "take", "()I"⟩
def RX10 : String := "ModemLink"
def TX10 : u_T := fun k => match k with
  | 0 => ("ModemLink", "setup", "LModemLink$Setup;", true)
  | 1 => ("ModemLink", "draft", "LModemLink$Setup;", true)
  | 2 => ("ModemLink", "line", "LModemLink$Line;", true)
  | 3 => ("ModemLink", "trial", "LModemLink$Line;", true)
  | 4 => ("ModemLink", "snapshot", "LModemLink$Line;", true)
  | 5 => ("ModemLink", "hasSnapshot", "Z", false)
  | 6 => ("ModemLink", "past", "[LModemLink$Line;", true)
  | 7 => ("ModemLink", "pastCount", "I", false)
  | 8 => ("ModemLink", "pastNext", "I", false)
  | 9 => ("ModemLink", "buffer", "[I", true)
  | 10 => ("ModemLink", "bufferCount", "I", false)
  | 11 => ("ModemLink", "faultPosition", "I", false)
  | 12 => ("ModemLink", "tokens", "LModemLink$Tokens;", true)
  | 13 => ("ModemLink", "setupReader", "LModemLink$SetupReader;", true)
  | 14 => ("ModemLink", "queryReader", "LModemLink$QueryReader;", true)
  | _ => ("ModemLink", "text", "Ljava/lang/StringBuilder;", true)
def tyX10 : Nat → FieldType := fun k => match k with
  | 0 => .object "ModemLink$Setup"
  | 1 => .object "ModemLink$Setup"
  | 2 => .object "ModemLink$Line"
  | 3 => .object "ModemLink$Line"
  | 4 => .object "ModemLink$Line"
  | 5 => .boolean
  | 6 => .array (.object "ModemLink$Line")
  | 7 => .int
  | 8 => .int
  | 9 => .array .int
  | 10 => .int
  | 11 => .int
  | 12 => .object "ModemLink$Tokens"
  | 13 => .object "ModemLink$SetupReader"
  | 14 => .object "ModemLink$QueryReader"
  | _ => .object "java/lang/StringBuilder"
abbrev wsX100 : List Cond := u_ws RX10 TX10 16
theorem nmX10 : ∀ a, a < 16 → ∀ b, b < 16 → a ≠ b → (TX10 a).2.1 ≠ (TX10 b).2.1 := by decide +kernel
theorem tyX10_ok : ∀ k, k < 16 → parseFieldDescriptor (TX10 k).2.2.1 = some (tyX10 k) := by decide +kernel
abbrev cX10_init : ByteArray := prog_1_method_1_code
def yX10_init : MethodName := ⟨RX10, "<init>", "()V"⟩
abbrev cX10_feed : ByteArray := prog_1_method_2_code
def yX10_feed : MethodName := ⟨RX10, "feed", "(IIIII)I"⟩
abbrev cX10_append : ByteArray := prog_1_method_3_code
def yX10_append : MethodName := ⟨RX10, "append", "(I)V"⟩
abbrev cX10_load : ByteArray := prog_1_method_4_code
def yX10_load : MethodName := ⟨RX10, "load", "(I)I"⟩
abbrev cX10_checkLength : ByteArray := prog_1_method_5_code
def yX10_checkLength : MethodName := ⟨RX10, "checkLength", "(II)V"⟩
abbrev cX10_closeText : ByteArray := prog_1_method_6_code
def yX10_closeText : MethodName := ⟨RX10, "closeText", "()V"⟩
abbrev cX10_size : ByteArray := prog_1_method_8_code
def yX10_size : MethodName := ⟨RX10, "size", "(I)I"⟩
abbrev cX10_total : ByteArray := prog_1_method_9_code
def yX10_total : MethodName := ⟨RX10, "total", "(I)I"⟩
abbrev cX10_end : ByteArray := prog_1_method_10_code
def yX10_end : MethodName := ⟨RX10, "end", "(II)I"⟩
abbrev cX10_checkEnd : ByteArray := prog_1_method_11_code
def yX10_checkEnd : MethodName := ⟨RX10, "checkEnd", "(I)V"⟩
abbrev cX10_frame : ByteArray := prog_1_method_13_code
def yX10_frame : MethodName := ⟨RX10, "frame", "(III)I"⟩
abbrev cX10_received : ByteArray := prog_1_method_14_code
def yX10_received : MethodName := ⟨RX10, "received", "(II)I"⟩
abbrev cX10_word : ByteArray := prog_1_method_15_code
def yX10_word : MethodName := ⟨RX10, "word", "(IZI)I"⟩
abbrev cX10_event : ByteArray := prog_1_method_16_code
def yX10_event : MethodName := ⟨RX10, "event", "(II)I"⟩
abbrev cX10_checkQuality : ByteArray := prog_1_method_18_code
def yX10_checkQuality : MethodName := ⟨RX10, "checkQuality", "(I)V"⟩
abbrev cX10_nextCost : ByteArray := prog_1_method_19_code
def yX10_nextCost : MethodName := ⟨RX10, "nextCost", "(I)I"⟩
abbrev cX10_ticksToFinish : ByteArray := prog_1_method_20_code
def yX10_ticksToFinish : MethodName := ⟨RX10, "ticksToFinish", "()I"⟩
abbrev cX10_receivedBehind : ByteArray := prog_1_method_21_code
def yX10_receivedBehind : MethodName := ⟨RX10, "receivedBehind", "(II)I"⟩
abbrev cX10_leastQuality : ByteArray := prog_1_method_22_code
def yX10_leastQuality : MethodName := ⟨RX10, "leastQuality", "()I"⟩
abbrev cX10_pass : ByteArray := prog_1_method_25_code
def yX10_pass : MethodName := ⟨RX10, "pass", "(I)I"⟩
abbrev cX10_remember : ByteArray := prog_1_method_26_code
def yX10_remember : MethodName := ⟨RX10, "remember", "()V"⟩
abbrev cX10_dial : ByteArray := prog_1_method_27_code
def yX10_dial : MethodName := ⟨RX10, "dial", "()I"⟩
abbrev cX10_hangUp : ByteArray := prog_1_method_28_code
def yX10_hangUp : MethodName := ⟨RX10, "hangUp", "()I"⟩
abbrev cX10_escape : ByteArray := prog_1_method_29_code
def yX10_escape : MethodName := ⟨RX10, "escape", "(I)I"⟩
abbrev cX10_resume : ByteArray := prog_1_method_30_code
def yX10_resume : MethodName := ⟨RX10, "resume", "(I)I"⟩
abbrev cX10_setEscaped : ByteArray := prog_1_method_31_code
def yX10_setEscaped : MethodName := ⟨RX10, "setEscaped", "(IZ)I"⟩
abbrev cX10_send : ByteArray := prog_1_method_32_code
def yX10_send : MethodName := ⟨RX10, "send", "(II)I"⟩
abbrev cX10_setQuality : ByteArray := prog_1_method_33_code
def yX10_setQuality : MethodName := ⟨RX10, "setQuality", "(I)I"⟩
abbrev cX10_undoCount : ByteArray := prog_1_method_37_code
def yX10_undoCount : MethodName := ⟨RX10, "undoCount", "()I"⟩
abbrev cX10_undo : ByteArray := prog_1_method_38_code
def yX10_undo : MethodName := ⟨RX10, "undo", "()I"⟩
abbrev cX10_saveSnapshot : ByteArray := prog_1_method_39_code
def yX10_saveSnapshot : MethodName := ⟨RX10, "saveSnapshot", "()V"⟩
abbrev cX10_restoreSnapshot : ByteArray := prog_1_method_40_code
def yX10_restoreSnapshot : MethodName := ⟨RX10, "restoreSnapshot", "()Z"⟩
def RX11 : String := "ModemLinkLaw$Own"
def TX11 : u_T := fun k => match k with
  | 0 => ("ModemLinkLaw$Own", "time", "I", false)
  | 1 => ("ModemLinkLaw$Own", "phase", "I", false)
  | 2 => ("ModemLinkLaw$Own", "quality", "I", false)
  | 3 => ("ModemLinkLaw$Own", "rate", "I", false)
  | 4 => ("ModemLinkLaw$Own", "step", "I", false)
  | 5 => ("ModemLinkLaw$Own", "left", "I", false)
  | 6 => ("ModemLinkLaw$Own", "restarts", "I", false)
  | 7 => ("ModemLinkLaw$Own", "loss", "I", false)
  | 8 => ("ModemLinkLaw$Own", "fails", "I", false)
  | 9 => ("ModemLinkLaw$Own", "acks", "I", false)
  | 10 => ("ModemLinkLaw$Own", "events", "I", false)
  | 11 => ("ModemLinkLaw$Own", "flying", "I", false)
  | 12 => ("ModemLinkLaw$Own", "speed", "[I", false)
  | 13 => ("ModemLinkLaw$Own", "need", "[I", false)
  | 14 => ("ModemLinkLaw$Own", "train", "[I", false)
  | 15 => ("ModemLinkLaw$Own", "noise", "[I", false)
  | 16 => ("ModemLinkLaw$Own", "set", "[I", false)
  | 17 => ("ModemLinkLaw$Own", "total", "[I", false)
  | 18 => ("ModemLinkLaw$Own", "queue", "[[I", false)
  | 19 => ("ModemLinkLaw$Own", "got", "[[I", false)
  | 20 => ("ModemLinkLaw$Own", "writes", "[[I", false)
  | 21 => ("ModemLinkLaw$Own", "reads", "[[I", false)
  | 22 => ("ModemLinkLaw$Own", "next", "[I", false)
  | 23 => ("ModemLinkLaw$Own", "expects", "[I", false)
  | 24 => ("ModemLinkLaw$Own", "all", "[I", false)
  | 25 => ("ModemLinkLaw$Own", "credit", "[I", false)
  | 26 => ("ModemLinkLaw$Own", "escaped", "[Z", false)
  | 27 => ("ModemLinkLaw$Own", "mark", "[Z", false)
  | 28 => ("ModemLinkLaw$Own", "frames", "[[[I", false)
  | 29 => ("ModemLinkLaw$Own", "fly", "[[I", false)
  | _ => ("ModemLinkLaw$Own", "event", "[[I", false)
def tyX11 : Nat → FieldType := fun k => match k with
  | 0 => .int
  | 1 => .int
  | 2 => .int
  | 3 => .int
  | 4 => .int
  | 5 => .int
  | 6 => .int
  | 7 => .int
  | 8 => .int
  | 9 => .int
  | 10 => .int
  | 11 => .int
  | 12 => .array .int
  | 13 => .array .int
  | 14 => .array .int
  | 15 => .array .int
  | 16 => .array .int
  | 17 => .array .int
  | 18 => .array (.array .int)
  | 19 => .array (.array .int)
  | 20 => .array (.array .int)
  | 21 => .array (.array .int)
  | 22 => .array .int
  | 23 => .array .int
  | 24 => .array .int
  | 25 => .array .int
  | 26 => .array .boolean
  | 27 => .array .boolean
  | 28 => .array (.array (.array .int))
  | 29 => .array (.array .int)
  | _ => .array (.array .int)
abbrev wsX110 : List Cond := u_ws RX11 TX11 31
theorem nmX11 : ∀ a, a < 31 → ∀ b, b < 31 → a ≠ b → (TX11 a).2.1 ≠ (TX11 b).2.1 := by decide +kernel
theorem tyX11_ok : ∀ k, k < 31 → parseFieldDescriptor (TX11 k).2.2.1 = some (tyX11 k) := by decide +kernel
abbrev cX11_init : ByteArray := prog_13_method_1_code
def yX11_init : MethodName := ⟨RX11, "<init>", "()V"⟩
abbrev cX11_tell : ByteArray := prog_13_method_3_code
def yX11_tell : MethodName := ⟨RX11, "tell", "(II)V"⟩
abbrev cX11_part : ByteArray := prog_13_method_4_code
def yX11_part : MethodName := ⟨RX11, "part", "([III)[I"⟩
abbrev cX11_with : ByteArray := prog_13_method_5_code
def yX11_with : MethodName := ⟨RX11, "with", "([II)[I"⟩
abbrev cX11_has : ByteArray := prog_13_method_6_code
def yX11_has : MethodName := ⟨RX11, "has", "([II)Z"⟩
abbrev cX11_used : ByteArray := prog_13_method_7_code
def yX11_used : MethodName := ⟨RX11, "used", "([II)[I"⟩
abbrev cX11_cost : ByteArray := prog_13_method_8_code
def yX11_cost : MethodName := ⟨RX11, "cost", "(I[I)I"⟩
abbrev cX11_bytes : ByteArray := prog_13_method_9_code
def yX11_bytes : MethodName := ⟨RX11, "bytes", "([I)[I"⟩
abbrev cX11_forget : ByteArray := prog_13_method_10_code
def yX11_forget : MethodName := ⟨RX11, "forget", "(II)V"⟩
abbrev cX11_more : ByteArray := prog_13_method_11_code
def yX11_more : MethodName := ⟨RX11, "more", "([[I[I)[[I"⟩
abbrev cX11_launch : ByteArray := prog_13_method_12_code
def yX11_launch : MethodName := ⟨RX11, "launch", "(II[I)Z"⟩
abbrev cX11_land : ByteArray := prog_13_method_13_code
def yX11_land : MethodName := ⟨RX11, "land", "([I)V"⟩
abbrev cX11_arrivals : ByteArray := prog_13_method_14_code
def yX11_arrivals : MethodName := ⟨RX11, "arrivals", "()V"⟩
abbrev cX11_hang : ByteArray := prog_13_method_15_code
def yX11_hang : MethodName := ⟨RX11, "hang", "()V"⟩
abbrev cX11_rateFor : ByteArray := prog_13_method_16_code
def yX11_rateFor : MethodName := ⟨RX11, "rateFor", "(I)I"⟩
abbrev cX11_online : ByteArray := prog_13_method_17_code
def yX11_online : MethodName := ⟨RX11, "online", "()V"⟩
abbrev cX11_timer : ByteArray := prog_13_method_18_code
def yX11_timer : MethodName := ⟨RX11, "timer", "(I)V"⟩
abbrev cX11_send : ByteArray := prog_13_method_19_code
def yX11_send : MethodName := ⟨RX11, "send", "(I)V"⟩
abbrev cX11_tick : ByteArray := prog_13_method_20_code
def yX11_tick : MethodName := ⟨RX11, "tick", "()V"⟩
abbrev cX11_training : ByteArray := prog_13_method_21_code
def yX11_training : MethodName := ⟨RX11, "training", "()V"⟩
abbrev cX11_live : ByteArray := prog_13_method_22_code
def yX11_live : MethodName := ⟨RX11, "live", "()V"⟩
abbrev cX11_losing : ByteArray := prog_13_method_23_code
def yX11_losing : MethodName := ⟨RX11, "losing", "()I"⟩
def RX12 : String := "ModemLinkModel"
def TX12 : u_T := fun k => match k with
  | _ => ("", "", "", false)
def tyX12 : Nat → FieldType := fun k => match k with
  | _ => .int
abbrev wsX120 : List Cond := u_ws RX12 TX12 0
theorem nmX12 : ∀ a, a < 0 → ∀ b, b < 0 → a ≠ b → (TX12 a).2.1 ≠ (TX12 b).2.1 := by decide +kernel
theorem tyX12_ok : ∀ k, k < 0 → parseFieldDescriptor (TX12 k).2.2.1 = some (tyX12 k) := by decide +kernel
def RJx145de : String := "java/io/Serializable"
def TJx145de : u_T := fun k => match k with
  | _ => ("", "", "", false)
def tyJx145de : Nat → FieldType := fun k => match k with
  | _ => .int
abbrev wsJx145de0 : List Cond := u_ws RJx145de TJx145de 0
theorem nmJx145de : ∀ a, a < 0 → ∀ b, b < 0 → a ≠ b → (TJx145de a).2.1 ≠ (TJx145de b).2.1 := by decide +kernel
theorem tyJx145de_ok : ∀ k, k < 0 → parseFieldDescriptor (TJx145de k).2.2.1 = some (tyJx145de k) := by decide +kernel
def RJ5 : String := "java/lang/AbstractStringBuilder"
def TJ5 : u_T := fun k => match k with
  | _ => ("", "", "", false)
def tyJ5 : Nat → FieldType := fun k => match k with
  | _ => .int
abbrev wsJ50 : List Cond := u_ws RJ5 TJ5 0
theorem nmJ5 : ∀ a, a < 0 → ∀ b, b < 0 → a ≠ b → (TJ5 a).2.1 ≠ (TJ5 b).2.1 := by decide +kernel
theorem tyJ5_ok : ∀ k, k < 0 → parseFieldDescriptor (TJ5 k).2.2.1 = some (tyJ5 k) := by decide +kernel
abbrev cJ5_init_d00df : ByteArray := prog_16_method_2_code
def yJ5_init_d00df : MethodName := ⟨RJ5, "<init>", "(I)V"⟩
def RJx2cfe8 : String := "java/lang/Appendable"
def TJx2cfe8 : u_T := fun k => match k with
  | _ => ("", "", "", false)
def tyJx2cfe8 : Nat → FieldType := fun k => match k with
  | _ => .int
abbrev wsJx2cfe80 : List Cond := u_ws RJx2cfe8 TJx2cfe8 0
theorem nmJx2cfe8 : ∀ a, a < 0 → ∀ b, b < 0 → a ≠ b → (TJx2cfe8 a).2.1 ≠ (TJx2cfe8 b).2.1 := by decide +kernel
theorem tyJx2cfe8_ok : ∀ k, k < 0 → parseFieldDescriptor (TJx2cfe8 k).2.2.1 = some (tyJx2cfe8 k) := by decide +kernel
def RJx9f9b0 : String := "java/lang/CharSequence"
def TJx9f9b0 : u_T := fun k => match k with
  | _ => ("", "", "", false)
def tyJx9f9b0 : Nat → FieldType := fun k => match k with
  | _ => .int
abbrev wsJx9f9b00 : List Cond := u_ws RJx9f9b0 TJx9f9b0 0
theorem nmJx9f9b0 : ∀ a, a < 0 → ∀ b, b < 0 → a ≠ b → (TJx9f9b0 a).2.1 ≠ (TJx9f9b0 b).2.1 := by decide +kernel
theorem tyJx9f9b0_ok : ∀ k, k < 0 → parseFieldDescriptor (TJx9f9b0 k).2.2.1 = some (tyJx9f9b0 k) := by decide +kernel
def RJxb160c : String := "java/lang/Comparable"
def TJxb160c : u_T := fun k => match k with
  | _ => ("", "", "", false)
def tyJxb160c : Nat → FieldType := fun k => match k with
  | _ => .int
abbrev wsJxb160c0 : List Cond := u_ws RJxb160c TJxb160c 0
theorem nmJxb160c : ∀ a, a < 0 → ∀ b, b < 0 → a ≠ b → (TJxb160c a).2.1 ≠ (TJxb160c b).2.1 := by decide +kernel
theorem tyJxb160c_ok : ∀ k, k < 0 → parseFieldDescriptor (TJxb160c k).2.2.1 = some (tyJxb160c k) := by decide +kernel
def RJ9 : String := "java/lang/Math"
def TJ9 : u_T := fun k => match k with
  | _ => ("", "", "", false)
def tyJ9 : Nat → FieldType := fun k => match k with
  | _ => .int
abbrev wsJ90 : List Cond := u_ws RJ9 TJ9 0
theorem nmJ9 : ∀ a, a < 0 → ∀ b, b < 0 → a ≠ b → (TJ9 a).2.1 ≠ (TJ9 b).2.1 := by decide +kernel
theorem tyJ9_ok : ∀ k, k < 0 → parseFieldDescriptor (TJ9 k).2.2.1 = some (tyJ9 k) := by decide +kernel
abbrev cJ9_floorMod_7cf53 : ByteArray := prog_22_method_50_code
def yJ9_floorMod_7cf53 : MethodName := ⟨RJ9, "floorMod", "(II)I"⟩
abbrev cJ9_min_7cf53 : ByteArray := prog_22_method_69_code
def yJ9_min_7cf53 : MethodName := ⟨RJ9, "min", "(II)I"⟩
def RJ0 : String := "java/lang/String"
def TJ0 : u_T := fun k => match k with
  | _ => ("", "", "", false)
def tyJ0 : Nat → FieldType := fun k => match k with
  | _ => .int
abbrev wsJ00 : List Cond := u_ws RJ0 TJ0 0
theorem nmJ0 : ∀ a, a < 0 → ∀ b, b < 0 → a ≠ b → (TJ0 a).2.1 ≠ (TJ0 b).2.1 := by decide +kernel
theorem tyJ0_ok : ∀ k, k < 0 → parseFieldDescriptor (TJ0 k).2.2.1 = some (tyJ0 k) := by decide +kernel
abbrev cJ0_length_8abf5 : ByteArray := prog_24_method_54_code
def yJ0_length_8abf5 : MethodName := ⟨RJ0, "length", "()I"⟩
abbrev cJ0_charAt_5068e : ByteArray := prog_24_method_56_code
def yJ0_charAt_5068e : MethodName := ⟨RJ0, "charAt", "(I)C"⟩
abbrev cJ0_coder_7d493 : ByteArray := prog_24_method_152_code
def yJ0_coder_7d493 : MethodName := ⟨RJ0, "coder", "()B"⟩
abbrev cJ0_isLatin1_aae02 : ByteArray := prog_24_method_154_code
def yJ0_isLatin1_aae02 : MethodName := ⟨RJ0, "isLatin1", "()Z"⟩
abbrev cJ0_checkIndex_df160 : ByteArray := prog_24_method_155_code
def yJ0_checkIndex_df160 : MethodName := ⟨RJ0, "checkIndex", "(II)V"⟩
def RJ4 : String := "java/lang/StringBuilder"
def TJ4 : u_T := fun k => match k with
  | 0 => ("java/lang/AbstractStringBuilder", "value", "[B", false)
  | 1 => ("java/lang/AbstractStringBuilder", "coder", "B", false)
  | 2 => ("java/lang/AbstractStringBuilder", "maybeLatin1", "Z", false)
  | _ => ("java/lang/AbstractStringBuilder", "count", "I", false)
def tyJ4 : Nat → FieldType := fun k => match k with
  | 0 => .array .byte
  | 1 => .byte
  | 2 => .boolean
  | _ => .int
abbrev wsJ40 : List Cond := u_ws RJ4 TJ4 4
theorem nmJ4 : ∀ a, a < 4 → ∀ b, b < 4 → a ≠ b → (TJ4 a).2.1 ≠ (TJ4 b).2.1 := by decide +kernel
theorem tyJ4_ok : ∀ k, k < 4 → parseFieldDescriptor (TJ4 k).2.2.1 = some (tyJ4 k) := by decide +kernel
abbrev cJ4_init_da8c8 : ByteArray := prog_25_method_1_code
def yJ4_init_da8c8 : MethodName := ⟨RJ4, "<init>", "()V"⟩
def RJ1 : String := "java/lang/StringLatin1"
def TJ1 : u_T := fun k => match k with
  | _ => ("", "", "", false)
def tyJ1 : Nat → FieldType := fun k => match k with
  | _ => .int
abbrev wsJ10 : List Cond := u_ws RJ1 TJ1 0
theorem nmJ1 : ∀ a, a < 0 → ∀ b, b < 0 → a ≠ b → (TJ1 a).2.1 ≠ (TJ1 b).2.1 := by decide +kernel
theorem tyJ1_ok : ∀ k, k < 0 → parseFieldDescriptor (TJ1 k).2.2.1 = some (tyJ1 k) := by decide +kernel
abbrev cJ1_charAt_3b067 : ByteArray := prog_26_method_2_code
def yJ1_charAt_3b067 : MethodName := ⟨RJ1, "charAt", "([BI)C"⟩
def RJ2 : String := "java/lang/StringUTF16"
def TJ2 : u_T := fun k => match k with
  | _ => ("", "", "", false)
def tyJ2 : Nat → FieldType := fun k => match k with
  | _ => .int
abbrev wsJ20 : List Cond := u_ws RJ2 TJ2 0
theorem nmJ2 : ∀ a, a < 0 → ∀ b, b < 0 → a ≠ b → (TJ2 a).2.1 ≠ (TJ2 b).2.1 := by decide +kernel
theorem tyJ2_ok : ∀ k, k < 0 → parseFieldDescriptor (TJ2 k).2.2.1 = some (tyJ2 k) := by decide +kernel
abbrev cJ2_newBytesFor_77867 : ByteArray := prog_27_method_2_code
def yJ2_newBytesFor_77867 : MethodName := ⟨RJ2, "newBytesFor", "(I)[B"⟩
abbrev cJ2_newBytesLength_0f7a4 : ByteArray := prog_27_method_3_code
def yJ2_newBytesLength_0f7a4 : MethodName := ⟨RJ2, "newBytesLength", "(I)I"⟩
abbrev cJ2_getChar_3b067 : ByteArray := prog_27_method_5_code
def yJ2_getChar_3b067 : MethodName := ⟨RJ2, "getChar", "([BI)C"⟩
abbrev cJ2_length_9d52b : ByteArray := prog_27_method_6_code
def yJ2_length_9d52b : MethodName := ⟨RJ2, "length", "([B)I"⟩
abbrev cJ2_charAt_3b067 : ByteArray := prog_27_method_83_code
def yJ2_charAt_3b067 : MethodName := ⟨RJ2, "charAt", "([BI)C"⟩
abbrev cJ2_checkIndex_2214a : ByteArray := prog_27_method_91_code
def yJ2_checkIndex_2214a : MethodName := ⟨RJ2, "checkIndex", "(I[B)V"⟩
def RJ10 : String := "java/lang/System"
def TJ10 : u_T := fun k => match k with
  | _ => ("", "", "", false)
def tyJ10 : Nat → FieldType := fun k => match k with
  | _ => .int
abbrev wsJ100 : List Cond := u_ws RJ10 TJ10 0
theorem nmJ10 : ∀ a, a < 0 → ∀ b, b < 0 → a ≠ b → (TJ10 a).2.1 ≠ (TJ10 b).2.1 := by decide +kernel
theorem tyJ10_ok : ∀ k, k < 0 → parseFieldDescriptor (TJ10 k).2.2.1 = some (tyJ10 k) := by decide +kernel
def RJxfd54e : String := "java/lang/constant/Constable"
def TJxfd54e : u_T := fun k => match k with
  | _ => ("", "", "", false)
def tyJxfd54e : Nat → FieldType := fun k => match k with
  | _ => .int
abbrev wsJxfd54e0 : List Cond := u_ws RJxfd54e TJxfd54e 0
theorem nmJxfd54e : ∀ a, a < 0 → ∀ b, b < 0 → a ≠ b → (TJxfd54e a).2.1 ≠ (TJxfd54e b).2.1 := by decide +kernel
theorem tyJxfd54e_ok : ∀ k, k < 0 → parseFieldDescriptor (TJxfd54e k).2.2.1 = some (tyJxfd54e k) := by decide +kernel
def RJx3cf43 : String := "java/lang/constant/ConstantDesc"
def TJx3cf43 : u_T := fun k => match k with
  | _ => ("", "", "", false)
def tyJx3cf43 : Nat → FieldType := fun k => match k with
  | _ => .int
abbrev wsJx3cf430 : List Cond := u_ws RJx3cf43 TJx3cf43 0
theorem nmJx3cf43 : ∀ a, a < 0 → ∀ b, b < 0 → a ≠ b → (TJx3cf43 a).2.1 ≠ (TJx3cf43 b).2.1 := by decide +kernel
theorem tyJx3cf43_ok : ∀ k, k < 0 → parseFieldDescriptor (TJx3cf43 k).2.2.1 = some (tyJx3cf43 k) := by decide +kernel
def RJ3 : String := "jdk/internal/util/Preconditions"
def TJ3 : u_T := fun k => match k with
  | _ => ("", "", "", false)
def tyJ3 : Nat → FieldType := fun k => match k with
  | _ => .int
abbrev wsJ30 : List Cond := u_ws RJ3 TJ3 0
theorem nmJ3 : ∀ a, a < 0 → ∀ b, b < 0 → a ≠ b → (TJ3 a).2.1 ≠ (TJ3 b).2.1 := by decide +kernel
theorem tyJ3_ok : ∀ k, k < 0 → parseFieldDescriptor (TJ3 k).2.2.1 = some (tyJ3 k) := by decide +kernel
abbrev cJ3_checkIndex_8e157 : ByteArray := prog_33_method_11_code
def yJ3_checkIndex_8e157 : MethodName := ⟨RJ3, "checkIndex", "(IILjava/util/function/BiFunction;)I"⟩
def RL : String := "ModemLinkLaw"
abbrev cL_most : ByteArray := method_2_code
def yL_most : MethodName := ⟨RL, "most", "(II)I"⟩
abbrev cL_cell : ByteArray := method_3_code
def yL_cell : MethodName := ⟨RL, "cell", "([II)I"⟩
abbrev cL_add : ByteArray := method_4_code
def yL_add : MethodName := ⟨RL, "add", "(LModemLink;[II)V"⟩
abbrev cL_number : ByteArray := method_6_code
def yL_number : MethodName := ⟨RL, "number", "(LModemLink;[II)V"⟩
abbrev cL_end : ByteArray := method_7_code
def yL_end : MethodName := ⟨RL, "end", "(LModemLink;[I)I"⟩
abbrev cL_drawn : ByteArray := method_8_code
def yL_drawn : MethodName := ⟨RL, "drawn", "([II)LModemLinkLaw$Own;"⟩
abbrev cL_word : ByteArray := method_9_code
def yL_word : MethodName := ⟨RL, "word", "(LModemLink;[ILjava/lang/String;)V"⟩
abbrev cL_line : ByteArray := method_10_code
def yL_line : MethodName := ⟨RL, "line", "(LModemLink;[ILjava/lang/String;[I)V"⟩
abbrev cL_tell : ByteArray := method_11_code
def yL_tell : MethodName := ⟨RL, "tell", "(LModemLink;[ILModemLinkLaw$Own;)I"⟩
abbrev cL_act : ByteArray := method_13_code
def yL_act : MethodName := ⟨RL, "act", "(LModemLink;[ILModemLinkLaw$Own;I)I"⟩
abbrev cL_all : ByteArray := method_14_code
def yL_all : MethodName := ⟨RL, "all", "(LModemLink;)J"⟩
abbrev cL_isSound : ByteArray := method_15_code
def yL_isSound : MethodName := ⟨RL, "isSound", "(LModemLink;)Z"⟩
abbrev cL_isPassed : ByteArray := method_16_code
def yL_isPassed : MethodName := ⟨RL, "isPassed", "(LModemLink;I)Z"⟩
abbrev cL_law : ByteArray := code
def yL_law : MethodName := ⟨RL, "law", "([I)Z"⟩
def wsL_law0_r1 : List Cond := [Cond.classLink RL 9 RX10, Cond.instantiable RX10 16, Cond.initialized RX10, Cond.arrayClass .int, Cond.arrayClass .long, Cond.methodLink RL 240 yX10_init, Cond.instanceMethod yX10_init, Cond.code yX10_init cX10_init 2 none, Cond.methodLink RX10 1 objectInit, Cond.instanceMethod objectInit, Cond.code objectInit ⟨#[0xb1]⟩ 1 none, Cond.classLink RX10 7 RX6, Cond.instantiable RX6 14, Cond.initialized RX6, Cond.fieldLink RX10 10 "ModemLink" "setup" "LModemLink$Setup;", Cond.fieldLink RX10 19 "ModemLink" "draft" "LModemLink$Setup;", Cond.classLink RX10 22 RX3, Cond.instantiable RX3 17, Cond.initialized RX3, Cond.fieldLink RX10 27 "ModemLink" "line" "LModemLink$Line;", Cond.fieldLink RX10 31 "ModemLink" "trial" "LModemLink$Line;", Cond.fieldLink RX10 34 "ModemLink" "snapshot" "LModemLink$Line;", Cond.fieldLink RX10 37 "ModemLink" "past" "[LModemLink$Line;", Cond.fieldLink RX10 41 "ModemLink" "buffer" "[I"]
def wsL_law0_r2 : List Cond := [Cond.fieldLink RX10 45 "ModemLink" "faultPosition" "I", Cond.classLink RX10 49 RX8, Cond.instantiable RX8 7, Cond.initialized RX8, Cond.fieldLink RX10 54 "ModemLink" "tokens" "LModemLink$Tokens;", Cond.classLink RX10 58 RX7, Cond.instantiable RX7 1, Cond.initialized RX7, Cond.fieldLink RX10 63 "ModemLink" "setupReader" "LModemLink$SetupReader;", Cond.classLink RX10 67 RX5, Cond.instantiable RX5 2, Cond.initialized RX5, Cond.fieldLink RX10 69 "ModemLink$Line" "log" "LModemLink$Log;", Cond.fieldLink RX10 76 "ModemLink" "queryReader" "LModemLink$QueryReader;", Cond.classLink RX10 80 RJ4, Cond.instantiable RJ4 4, Cond.initialized RJ4, Cond.fieldLink RX10 83 "ModemLink" "text" "Ljava/lang/StringBuilder;", Cond.instanceMethod yX6_init, Cond.code yX6_init cX6_init 1 none, Cond.methodLink RX6 3 objectInit, Cond.fieldLink RX6 9 "ModemLink$Setup" "speeds" "[I", Cond.fieldLink RX6 15 "ModemLink$Setup" "needs" "[I", Cond.fieldLink RX6 18 "ModemLink$Setup" "steps" "[I"]
def wsL_law0_r3 : List Cond := [Cond.fieldLink RX6 21 "ModemLink$Setup" "noises" "[I", Cond.methodLink RX10 16 yX6_setDefaults, Cond.instanceMethod yX6_setDefaults, Cond.selects RX6 yX6_setDefaults yX6_setDefaults, Cond.code yX6_setDefaults cX6_setDefaults 2 none, Cond.fieldLink RX6 24 "ModemLink$Setup" "quality" "I", Cond.fieldLink RX6 28 "ModemLink$Setup" "rateCount" "I", Cond.fieldLink RX6 31 "ModemLink$Setup" "retries" "I", Cond.fieldLink RX6 34 "ModemLink$Setup" "hold" "I", Cond.fieldLink RX6 37 "ModemLink$Setup" "window" "I", Cond.fieldLink RX6 40 "ModemLink$Setup" "delay" "I", Cond.fieldLink RX6 43 "ModemLink$Setup" "timeout" "I", Cond.fieldLink RX6 46 "ModemLink$Setup" "limit" "I", Cond.fieldLink RX6 49 "ModemLink$Setup" "patience" "I", Cond.fieldLink RX6 52 "ModemLink$Setup" "noiseCount" "I", Cond.methodLink RX10 24 yX3_init, Cond.instanceMethod yX3_init, Cond.code yX3_init cX3_init 2 none, Cond.methodLink RX3 3 objectInit, Cond.classLink RX3 9 RX1, Cond.instantiable RX1 11, Cond.initialized RX1, Cond.fieldLink RX3 12 "ModemLink$Line" "zero" "LModemLink$End;", Cond.fieldLink RX3 18 "ModemLink$Line" "one" "LModemLink$End;"]
def wsL_law0_r4 : List Cond := [Cond.classLink RX3 21 RX9, Cond.instantiable RX9 6, Cond.initialized RX9, Cond.fieldLink RX3 24 "ModemLink$Line" "wire" "LModemLink$Wire;", Cond.classLink RX3 28 RX4, Cond.instantiable RX4 3, Cond.initialized RX4, Cond.fieldLink RX3 31 "ModemLink$Line" "log" "LModemLink$Log;", Cond.fieldLink RX3 35 "ModemLink$Line" "totals" "[I", Cond.classLink RX3 39 RX0, Cond.instantiable RX0 2, Cond.initialized RX0, Cond.fieldLink RX3 42 "ModemLink$Line" "tried" "LModemLink$Dictionary;", Cond.fieldLink RX3 46 "ModemLink$Line" "setup" "LModemLink$Setup;", Cond.instanceMethod yX1_init, Cond.code yX1_init cX1_init 1 none, Cond.methodLink RX1 3 objectInit, Cond.fieldLink RX1 9 "ModemLink$End" "queue" "[I", Cond.fieldLink RX1 15 "ModemLink$End" "received" "[I", Cond.classLink RX1 18 RX2, Cond.instantiable RX2 6, Cond.initialized RX2, Cond.fieldLink RX1 21 "ModemLink$End" "frames" "LModemLink$Frames;", Cond.classLink RX1 25 RX0]
def wsL_law0_r5 : List Cond := [Cond.fieldLink RX1 28 "ModemLink$End" "writing" "LModemLink$Dictionary;", Cond.fieldLink RX1 32 "ModemLink$End" "reading" "LModemLink$Dictionary;", Cond.instanceMethod yX2_init, Cond.code yX2_init cX2_init 1 none, Cond.methodLink RX2 3 objectInit, Cond.fieldLink RX2 9 "ModemLink$Frames" "bytes" "[I", Cond.fieldLink RX2 15 "ModemLink$Frames" "sizes" "[I", Cond.fieldLink RX2 18 "ModemLink$Frames" "sentTicks" "[I", Cond.instanceMethod yX0_init, Cond.code yX0_init cX0_init 1 none, Cond.methodLink RX0 3 objectInit, Cond.fieldLink RX0 9 "ModemLink$Dictionary" "bytes" "[I", Cond.instanceMethod yX9_init, Cond.code yX9_init cX9_init 1 none, Cond.methodLink RX9 3 objectInit, Cond.fieldLink RX9 9 "ModemLink$Wire" "ticks" "[I", Cond.fieldLink RX9 15 "ModemLink$Wire" "senders" "[I", Cond.fieldLink RX9 18 "ModemLink$Wire" "numbers" "[I", Cond.fieldLink RX9 21 "ModemLink$Wire" "traits" "[I", Cond.instanceMethod yX4_init, Cond.code yX4_init cX4_init 1 none, Cond.methodLink RX4 3 objectInit, Cond.fieldLink RX4 11 "ModemLink$Log" "rows" "[I", Cond.methodLink RX10 51 yX8_init]
def wsL_law0_r6 : List Cond := [Cond.instanceMethod yX8_init, Cond.code yX8_init cX8_init 2 none, Cond.methodLink RX8 3 objectInit, Cond.fieldLink RX8 9 "ModemLink$Tokens" "bytes" "[I", Cond.methodLink RX10 60 yX7_init, Cond.instanceMethod yX7_init, Cond.code yX7_init cX7_init 2 none, Cond.methodLink RX7 3 objectInit, Cond.fieldLink RX7 9 "ModemLink$SetupReader" "tokens" "LModemLink$Tokens;", Cond.methodLink RX10 73 yX5_init, Cond.instanceMethod yX5_init, Cond.code yX5_init cX5_init 3 none, Cond.methodLink RX5 3 objectInit, Cond.fieldLink RX5 9 "ModemLink$QueryReader" "tokens" "LModemLink$Tokens;", Cond.fieldLink RX5 15 "ModemLink$QueryReader" "log" "LModemLink$Log;", Cond.methodLink RX10 82 yJ4_init_da8c8, Cond.instanceMethod yJ4_init_da8c8, Cond.code yJ4_init_da8c8 cJ4_init_da8c8 1 none, Cond.methodLink RJ4 1 yJ5_init_d00df, Cond.instanceMethod yJ5_init_d00df, Cond.initialized RJ5, Cond.code yJ5_init_d00df cJ5_init_d00df 2 none, Cond.methodLink RJ5 3 objectInit, Cond.fieldLink RJ5 18 "java/lang/String" "COMPACT_STRINGS" "Z"]
def wsL_law0_r7 : List Cond := [Cond.arrayClass .byte, Cond.fieldLink RJ5 15 "java/lang/AbstractStringBuilder" "value" "[B", Cond.fieldLink RJ5 22 "java/lang/AbstractStringBuilder" "coder" "B", Cond.methodLink RJ5 26 yJ2_newBytesFor_77867, Cond.static yJ2_newBytesFor_77867, Cond.initialized RJ2, Cond.code yJ2_newBytesFor_77867 cJ2_newBytesFor_77867 1 (some (.array .byte)), Cond.methodLink RJ2 11 yJ2_newBytesLength_0f7a4, Cond.static yJ2_newBytesLength_0f7a4, Cond.code yJ2_newBytesLength_0f7a4 cJ2_newBytesLength_0f7a4 1 (some .int), Cond.constant RJ2 20 (1073741823), Cond.methodLink RX10 87 yX3_begin, Cond.instanceMethod yX3_begin, Cond.selects RX3 yX3_begin yX3_begin, Cond.code yX3_begin cX3_begin 2 none, Cond.fieldLink RX3 53 "ModemLink$Wire" "count" "I", Cond.fieldLink RX3 57 "ModemLink$Log" "oldest" "I", Cond.fieldLink RX3 60 "ModemLink$Log" "count" "I", Cond.fieldLink RX3 61 "ModemLink$Line" "time" "I", Cond.fieldLink RX3 64 "ModemLink$Line" "phase" "I", Cond.fieldLink RX3 67 "ModemLink$Setup" "quality" "I", Cond.fieldLink RX3 72 "ModemLink$Line" "quality" "I", Cond.fieldLink RX3 73 "ModemLink$Line" "rate" "I", Cond.fieldLink RX3 76 "ModemLink$Line" "failures" "I"]
def wsL_law0_r8 : List Cond := [Cond.fieldLink RX3 79 "ModemLink$Line" "acknowledged" "I", Cond.methodLink RX3 50 yX1_begin, Cond.instanceMethod yX1_begin, Cond.selects RX1 yX1_begin yX1_begin, Cond.code yX1_begin cX1_begin 1 none, Cond.fieldLink RX1 38 "ModemLink$Dictionary" "count" "I", Cond.fieldLink RX1 42 "ModemLink$End" "queueCount" "I", Cond.fieldLink RX1 45 "ModemLink$End" "receivedCount" "I", Cond.fieldLink RX1 48 "ModemLink$End" "expects" "I", Cond.fieldLink RX1 51 "ModemLink$End" "credit" "I", Cond.fieldLink RX1 54 "ModemLink$End" "escaped" "Z", Cond.fieldLink RX1 58 "ModemLink$End" "marksNext" "Z", Cond.methodLink RX1 35 yX2_beginNumbers, Cond.instanceMethod yX2_beginNumbers, Cond.selects RX2 yX2_beginNumbers yX2_beginNumbers, Cond.code yX2_beginNumbers cX2_beginNumbers 1 none, Cond.fieldLink RX2 27 "ModemLink$Frames" "first" "I", Cond.fieldLink RX2 31 "ModemLink$Frames" "count" "I", Cond.fieldLink RX2 34 "ModemLink$Frames" "sent" "I", Cond.methodLink RL 61 yL_word, Cond.static yL_word, Cond.initialized RL, Cond.code yL_word cL_word 4 none, Cond.methodLink RL 51 yJ0_length_8abf5]
def wsL_law0_r9 : List Cond := [Cond.instanceMethod yJ0_length_8abf5, Cond.selects RJ0 yJ0_length_8abf5 yJ0_length_8abf5, Cond.initialized RJ0, Cond.code yJ0_length_8abf5 cJ0_length_8abf5 1 (some .int), Cond.fieldLink RJ0 9 "java/lang/String" "value" "[B", Cond.methodLink RJ0 335 yJ0_coder_7d493, Cond.instanceMethod yJ0_coder_7d493, Cond.selects RJ0 yJ0_coder_7d493 yJ0_coder_7d493, Cond.code yJ0_coder_7d493 cJ0_coder_7d493 1 (some .byte), Cond.fieldLink RJ0 38 "java/lang/String" "COMPACT_STRINGS" "Z", Cond.fieldLink RJ0 15 "java/lang/String" "coder" "B", Cond.methodLink RL 57 yJ0_charAt_5068e, Cond.instanceMethod yJ0_charAt_5068e, Cond.selects RJ0 yJ0_charAt_5068e yJ0_charAt_5068e, Cond.code yJ0_charAt_5068e cJ0_charAt_5068e 2 (some .char), Cond.methodLink RJ0 492 yJ0_isLatin1_aae02, Cond.instanceMethod yJ0_isLatin1_aae02, Cond.selects RJ0 yJ0_isLatin1_aae02 yJ0_isLatin1_aae02, Cond.code yJ0_isLatin1_aae02 cJ0_isLatin1_aae02 1 (some .boolean), Cond.methodLink RJ0 495 yJ1_charAt_3b067, Cond.static yJ1_charAt_3b067, Cond.initialized RJ1, Cond.code yJ1_charAt_3b067 cJ1_charAt_3b067 2 (some .char), Cond.methodLink RJ1 9 yJ0_checkIndex_df160]
def wsL_law0_r10 : List Cond := [Cond.static yJ0_checkIndex_df160, Cond.code yJ0_checkIndex_df160 cJ0_checkIndex_df160 2 none, Cond.fieldLink RJ0 1053 "jdk/internal/util/Preconditions" "SIOOBE_FORMATTER" "Ljava/util/function/BiFunction;", Cond.methodLink RJ0 1059 yJ3_checkIndex_8e157, Cond.static yJ3_checkIndex_8e157, Cond.initialized RJ3, Cond.code yJ3_checkIndex_8e157 cJ3_checkIndex_8e157 3 (some .int), Cond.methodLink RJ0 498 yJ2_charAt_3b067, Cond.static yJ2_charAt_3b067, Cond.code yJ2_charAt_3b067 cJ2_charAt_3b067 2 (some .char), Cond.methodLink RJ2 67 yJ2_checkIndex_2214a, Cond.static yJ2_checkIndex_2214a, Cond.code yJ2_checkIndex_2214a cJ2_checkIndex_2214a 2 none, Cond.methodLink RJ2 48 yJ2_length_9d52b, Cond.static yJ2_length_9d52b, Cond.code yJ2_length_9d52b cJ2_length_9d52b 1 (some .int), Cond.methodLink RJ2 414 yJ0_checkIndex_df160, Cond.methodLink RJ2 71 yJ2_getChar_3b067, Cond.static yJ2_getChar_3b067, Cond.code yJ2_getChar_3b067 cJ2_getChar_3b067 2 (some .char), Cond.fieldLink RJ2 44 "java/lang/StringUTF16" "$assertionsDisabled" "Z", Cond.fieldLink RJ2 59 "java/lang/StringUTF16" "HI_BYTE_SHIFT" "I", Cond.fieldLink RJ2 63 "java/lang/StringUTF16" "LO_BYTE_SHIFT" "I", Cond.methodLink RL 14 yL_add]
def wsL_law0_r11 : List Cond := [Cond.static yL_add, Cond.code yL_add cL_add 4 none, Cond.methodLink RL 8 yX10_feed, Cond.instanceMethod yX10_feed, Cond.selects RX10 yX10_feed yX10_feed, Cond.code yX10_feed cX10_feed 6 (some .int), Cond.fieldLink RX10 90 "ModemLink" "bufferCount" "I", Cond.methodLink RX10 93 yX10_append, Cond.instanceMethod yX10_append, Cond.selects RX10 yX10_append yX10_append, Cond.code yX10_append cX10_append 3 none, Cond.methodLink RL 89 yL_end, Cond.static yL_end, Cond.code yL_end cL_end 3 (some .int), Cond.methodLink RL 93 yX10_load, Cond.instanceMethod yX10_load, Cond.selects RX10 yX10_load yX10_load, Cond.code yX10_load cX10_load 2 (some .int), Cond.fieldLink RX10 110 "ModemLink$Tokens" "error" "I", Cond.fieldLink RX10 116 "ModemLink" "hasSnapshot" "Z", Cond.fieldLink RX10 120 "ModemLink" "pastCount" "I", Cond.fieldLink RX10 123 "ModemLink$Setup" "rateCount" "I", Cond.methodLink RX10 97 yX10_checkLength, Cond.instanceMethod yX10_checkLength]
def wsL_law0_r12 : List Cond := [Cond.selects RX10 yX10_checkLength yX10_checkLength, Cond.code yX10_checkLength cX10_checkLength 3 none, Cond.classLink RX10 126 "java/lang/IllegalArgumentException", Cond.initialized "java/lang/IllegalArgumentException", Cond.methodLink RX10 101 yX8_open, Cond.instanceMethod yX8_open, Cond.selects RX8 yX8_open yX8_open, Cond.code yX8_open cX8_open 2 none, Cond.methodLink RX8 15 Lib.Math.min.name, Cond.static Lib.Math.min.name, Cond.initialized "java/lang/Math", Cond.code Lib.Math.min.name Lib.Math.min.code 2 (some .int), Cond.fieldLink RX8 21 "ModemLink$Tokens" "length" "I", Cond.fieldLink RX8 25 "ModemLink$Tokens" "kind" "I", Cond.fieldLink RX8 28 "ModemLink$Tokens" "behind" "I", Cond.fieldLink RX8 31 "ModemLink$Tokens" "error" "I", Cond.methodLink RX8 34 yX8_next, Cond.instanceMethod yX8_next, Cond.selects RX8 yX8_next yX8_next, Cond.code yX8_next cX8_next 2 none, Cond.fieldLink RX8 37 "ModemLink$Tokens" "start" "I", Cond.fieldLink RX8 44 "ModemLink$Tokens" "value" "I", Cond.constant RX8 47 (1000000), Cond.methodLink RX8 40 yX8_kindOf]
def wsL_law0_r13 : List Cond := [Cond.static yX8_kindOf, Cond.code yX8_kindOf cX8_kindOf 1 (some .int), Cond.methodLink RX10 104 yX7_readText, Cond.instanceMethod yX7_readText, Cond.selects RX7 yX7_readText yX7_readText, Cond.code yX7_readText cX7_readText 3 none, Cond.fieldLink RX7 32 "ModemLink$Setup" "quality" "I", Cond.fieldLink RX7 42 "ModemLink$Tokens" "kind" "I", Cond.methodLink RX7 15 yX6_setDefaults, Cond.methodLink RX7 22 yX8_takeWord, Cond.instanceMethod yX8_takeWord, Cond.selects RX8 yX8_takeWord yX8_takeWord, Cond.code yX8_takeWord cX8_takeWord 2 (some .boolean), Cond.methodLink RX8 57 yX8_isWord, Cond.instanceMethod yX8_isWord, Cond.selects RX8 yX8_isWord yX8_isWord, Cond.code yX8_isWord cX8_isWord 3 (some .boolean), Cond.methodLink RX8 48 yJ0_length_8abf5, Cond.methodLink RX8 53 yJ0_charAt_5068e, Cond.methodLink RX8 61 yX8_fail, Cond.instanceMethod yX8_fail, Cond.selects RX8 yX8_fail yX8_fail, Cond.code yX8_fail cX8_fail 2 (some .boolean), Cond.methodLink RX7 28 yX8_takeLastNumber]
def wsL_law0_r14 : List Cond := [Cond.instanceMethod yX8_takeLastNumber, Cond.selects RX8 yX8_takeLastNumber yX8_takeLastNumber, Cond.code yX8_takeLastNumber cX8_takeLastNumber 4 (some .int), Cond.methodLink RX8 73 yX8_takeNumber, Cond.instanceMethod yX8_takeNumber, Cond.selects RX8 yX8_takeNumber yX8_takeNumber, Cond.code yX8_takeNumber cX8_takeNumber 4 (some .int), Cond.methodLink RX8 69 yX8_hasNumber, Cond.instanceMethod yX8_hasNumber, Cond.selects RX8 yX8_hasNumber yX8_hasNumber, Cond.code yX8_hasNumber cX8_hasNumber 3 (some .boolean), Cond.methodLink RX8 76 yX8_takeSign, Cond.instanceMethod yX8_takeSign, Cond.selects RX8 yX8_takeSign yX8_takeSign, Cond.code yX8_takeSign cX8_takeSign 2 (some .boolean), Cond.methodLink RX8 65 yX8_isSign, Cond.instanceMethod yX8_isSign, Cond.selects RX8 yX8_isSign yX8_isSign, Cond.code yX8_isSign cX8_isSign 2 (some .boolean), Cond.methodLink RX7 38 yX7_readRates, Cond.instanceMethod yX7_readRates, Cond.selects RX7 yX7_readRates yX7_readRates, Cond.code yX7_readRates cX7_readRates 3 (some .boolean), Cond.fieldLink RX7 57 "ModemLink$Setup" "rateCount" "I"]
def wsL_law0_r15 : List Cond := [Cond.methodLink RX7 53 yX7_readRate, Cond.instanceMethod yX7_readRate, Cond.selects RX7 yX7_readRate yX7_readRate, Cond.code yX7_readRate cX7_readRate 3 (some .boolean), Cond.fieldLink RX7 70 "ModemLink$Setup" "speeds" "[I", Cond.fieldLink RX7 78 "ModemLink$Setup" "needs" "[I", Cond.methodLink RX7 74 yX7_readGreater, Cond.instanceMethod yX7_readGreater, Cond.selects RX7 yX7_readGreater yX7_readGreater, Cond.code yX7_readGreater cX7_readGreater 5 (some .boolean), Cond.fieldLink RX7 85 "ModemLink$Tokens" "value" "I", Cond.methodLink RX7 81 yX8_hasNumber, Cond.methodLink RX7 49 yX8_fail, Cond.methodLink RX7 67 yX8_next, Cond.methodLink RX7 60 yX8_isSign, Cond.methodLink RX7 64 yX8_takeSign, Cond.methodLink RX7 45 yX7_readClause, Cond.instanceMethod yX7_readClause, Cond.selects RX7 yX7_readClause yX7_readClause, Cond.code yX7_readClause cX7_readClause 2 none, Cond.methodLink RX7 90 yX8_isWord, Cond.methodLink RX7 93 yX7_readSteps, Cond.instanceMethod yX7_readSteps, Cond.selects RX7 yX7_readSteps yX7_readSteps]
def wsL_law0_r16 : List Cond := [Cond.code yX7_readSteps cX7_readSteps 3 none, Cond.fieldLink RX7 129 "ModemLink$Setup" "steps" "[I", Cond.methodLink RX7 132 yX8_takeNumber, Cond.methodLink RX7 98 yX7_readDelay, Cond.instanceMethod yX7_readDelay, Cond.selects RX7 yX7_readDelay yX7_readDelay, Cond.code yX7_readDelay cX7_readDelay 2 none, Cond.fieldLink RX7 135 "ModemLink$Setup" "delay" "I", Cond.fieldLink RX7 137 "ModemLink$Setup" "timeout" "I", Cond.methodLink RX7 103 yX7_readNoises, Cond.instanceMethod yX7_readNoises, Cond.selects RX7 yX7_readNoises yX7_readNoises, Cond.code yX7_readNoises cX7_readNoises 3 none, Cond.fieldLink RX7 140 "ModemLink$Setup" "noises" "[I", Cond.fieldLink RX7 143 "ModemLink$Setup" "noiseCount" "I", Cond.methodLink RX7 106 yX7_readNumberClause, Cond.instanceMethod yX7_readNumberClause, Cond.selects RX7 yX7_readNumberClause yX7_readNumberClause, Cond.code yX7_readNumberClause cX7_readNumberClause 2 none, Cond.fieldLink RX7 111 "ModemLink$Setup" "retries" "I", Cond.fieldLink RX7 115 "ModemLink$Setup" "hold" "I", Cond.fieldLink RX7 119 "ModemLink$Setup" "window" "I", Cond.fieldLink RX7 123 "ModemLink$Setup" "limit" "I", Cond.fieldLink RX7 127 "ModemLink$Setup" "patience" "I"]
def wsL_law0_r17 : List Cond := [Cond.methodLink RX10 107 yX10_closeText, Cond.instanceMethod yX10_closeText, Cond.selects RX10 yX10_closeText yX10_closeText, Cond.code yX10_closeText cX10_closeText 1 none, Cond.fieldLink RX10 133 "ModemLink$Tokens" "start" "I", Cond.methodLink RX10 113 yX6_copyFrom, Cond.instanceMethod yX6_copyFrom, Cond.selects RX6 yX6_copyFrom yX6_copyFrom, Cond.code yX6_copyFrom cX6_copyFrom 2 none, Cond.methodLink RX6 55 arraycopyName, Cond.native arraycopyName, Cond.static arraycopyName, Cond.initialized "java/lang/System", Cond.methodLink RL 191 yX10_dial, Cond.instanceMethod yX10_dial, Cond.selects RX10 yX10_dial yX10_dial, Cond.code yX10_dial cX10_dial 1 (some .int), Cond.fieldLink RX10 136 "ModemLink$Line" "phase" "I", Cond.methodLink RX10 300 yX10_remember, Cond.instanceMethod yX10_remember, Cond.selects RX10 yX10_remember yX10_remember, Cond.code yX10_remember cX10_remember 1 none, Cond.fieldLink RX10 303 "ModemLink" "pastNext" "I", Cond.methodLink RX10 306 Lib.Math.min.name]
def wsL_law0_r18 : List Cond := [Cond.methodLink RX10 288 yX3_copyFrom, Cond.instanceMethod yX3_copyFrom, Cond.selects RX3 yX3_copyFrom yX3_copyFrom, Cond.code yX3_copyFrom cX3_copyFrom 2 none, Cond.methodLink RX3 92 arraycopyName, Cond.fieldLink RX3 98 "ModemLink$Line" "step" "I", Cond.fieldLink RX3 101 "ModemLink$Line" "stepLeft" "I", Cond.fieldLink RX3 104 "ModemLink$Line" "restarts" "I", Cond.fieldLink RX3 107 "ModemLink$Line" "loss" "I", Cond.methodLink RX3 82 yX1_copyFrom, Cond.instanceMethod yX1_copyFrom, Cond.selects RX1 yX1_copyFrom yX1_copyFrom, Cond.code yX1_copyFrom cX1_copyFrom 2 none, Cond.methodLink RX1 61 arraycopyName, Cond.methodLink RX1 67 yX1_keptCount, Cond.instanceMethod yX1_keptCount, Cond.selects RX1 yX1_keptCount yX1_keptCount, Cond.code yX1_keptCount cX1_keptCount 1 (some .int), Cond.methodLink RX1 78 Lib.Math.min.name, Cond.methodLink RX1 71 yX2_copyFrom, Cond.instanceMethod yX2_copyFrom, Cond.selects RX2 yX2_copyFrom yX2_copyFrom, Cond.code yX2_copyFrom cX2_copyFrom 2 none, Cond.methodLink RX2 21 arraycopyName]
def wsL_law0_r19 : List Cond := [Cond.methodLink RX1 75 yX0_copyFrom, Cond.instanceMethod yX0_copyFrom, Cond.selects RX0 yX0_copyFrom yX0_copyFrom, Cond.code yX0_copyFrom cX0_copyFrom 2 none, Cond.methodLink RX0 15 arraycopyName, Cond.fieldLink RX0 21 "ModemLink$Dictionary" "count" "I", Cond.methodLink RX3 86 yX9_copyFrom, Cond.instanceMethod yX9_copyFrom, Cond.selects RX9 yX9_copyFrom yX9_copyFrom, Cond.code yX9_copyFrom cX9_copyFrom 2 none, Cond.fieldLink RX9 24 "ModemLink$Wire" "first" "I", Cond.fieldLink RX9 28 "ModemLink$Wire" "count" "I", Cond.methodLink RX9 31 arraycopyName, Cond.methodLink RX3 89 yX4_copyFrom, Cond.instanceMethod yX4_copyFrom, Cond.selects RX4 yX4_copyFrom yX4_copyFrom, Cond.code yX4_copyFrom cX4_copyFrom 2 none, Cond.fieldLink RX4 15 "ModemLink$Log" "count" "I", Cond.methodLink RX4 19 arraycopyName, Cond.fieldLink RX4 25 "ModemLink$Log" "oldest" "I", Cond.methodLink RX10 311 yX3_call, Cond.instanceMethod yX3_call, Cond.selects RX3 yX3_call yX3_call, Cond.code yX3_call cX3_call 1 none]
def wsL_law0_r20 : List Cond := [Cond.fieldLink RX3 120 "ModemLink$End" "frames" "LModemLink$Frames;", Cond.fieldLink RX3 152 "ModemLink$End" "expects" "I", Cond.methodLink RX3 149 yX2_beginNumbers, Cond.methodLink RX3 155 yX3_beginTraining, Cond.instanceMethod yX3_beginTraining, Cond.selects RX3 yX3_beginTraining yX3_beginTraining, Cond.code yX3_beginTraining cX3_beginTraining 2 none, Cond.methodLink RX3 158 yX3_beginStep, Cond.instanceMethod yX3_beginStep, Cond.selects RX3 yX3_beginStep yX3_beginStep, Cond.code yX3_beginStep cX3_beginStep 2 none, Cond.methodLink RX3 161 yX6_stepTicks, Cond.instanceMethod yX6_stepTicks, Cond.selects RX6 yX6_stepTicks yX6_stepTicks, Cond.code yX6_stepTicks cX6_stepTicks 2 (some .int), Cond.methodLink RX10 314 yX6_trainingTicks, Cond.instanceMethod yX6_trainingTicks, Cond.selects RX6 yX6_trainingTicks yX6_trainingTicks, Cond.code yX6_trainingTicks cX6_trainingTicks 1 (some .int), Cond.methodLink RL 188 yX10_pass, Cond.instanceMethod yX10_pass, Cond.selects RX10 yX10_pass yX10_pass, Cond.code yX10_pass cX10_pass 3 (some .int), Cond.fieldLink RX10 139 "ModemLink$Line" "time" "I"]
def wsL_law0_r21 : List Cond := [Cond.constant RX10 299 (99999), Cond.fieldLink RX10 178 "ModemLink$Line" "totals" "[I", Cond.methodLink RX10 296 yX3_run, Cond.instanceMethod yX3_run, Cond.selects RX3 yX3_run yX3_run, Cond.code yX3_run cX3_run 3 none, Cond.methodLink RX3 110 yX3_tick, Cond.instanceMethod yX3_tick, Cond.selects RX3 yX3_tick yX3_tick, Cond.code yX3_tick cX3_tick 1 none, Cond.methodLink RX3 127 yX3_train, Cond.instanceMethod yX3_train, Cond.selects RX3 yX3_train yX3_train, Cond.code yX3_train cX3_train 1 none, Cond.fieldLink RX3 165 "ModemLink$Setup" "retries" "I", Cond.methodLink RX3 168 yX3_cut, Cond.instanceMethod yX3_cut, Cond.selects RX3 yX3_cut yX3_cut, Cond.code yX3_cut cX3_cut 1 none, Cond.methodLink RX3 189 yX1_loseAll, Cond.instanceMethod yX1_loseAll, Cond.selects RX1 yX1_loseAll yX1_loseAll, Cond.code yX1_loseAll cX1_loseAll 1 none, Cond.methodLink RX1 102 yX2_loseAll]
def wsL_law0_r22 : List Cond := [Cond.instanceMethod yX2_loseAll, Cond.selects RX2 yX2_loseAll yX2_loseAll, Cond.code yX2_loseAll cX2_loseAll 1 none, Cond.methodLink RX3 179 yX3_note, Cond.instanceMethod yX3_note, Cond.selects RX3 yX3_note yX3_note, Cond.code yX3_note cX3_note 3 none, Cond.methodLink RX3 195 yX4_add, Cond.instanceMethod yX4_add, Cond.selects RX4 yX4_add yX4_add, Cond.code yX4_add cX4_add 7 none, Cond.methodLink RX3 171 yX3_comeOnline, Cond.instanceMethod yX3_comeOnline, Cond.selects RX3 yX3_comeOnline yX3_comeOnline, Cond.code yX3_comeOnline cX3_comeOnline 2 none, Cond.methodLink RX3 174 yX6_greatestRate, Cond.instanceMethod yX6_greatestRate, Cond.selects RX6 yX6_greatestRate yX6_greatestRate, Cond.code yX6_greatestRate cX6_greatestRate 4 (some .int), Cond.methodLink RX3 177 yX1_comeOnline, Cond.instanceMethod yX1_comeOnline, Cond.selects RX1 yX1_comeOnline yX1_comeOnline, Cond.code yX1_comeOnline cX1_comeOnline 2 none, Cond.fieldLink RX1 99 "ModemLink$Frames" "sent" "I"]
def wsL_law0_r23 : List Cond := [Cond.methodLink RX1 95 yX2_forgetBelow, Cond.instanceMethod yX2_forgetBelow, Cond.selects RX2 yX2_forgetBelow yX2_forgetBelow, Cond.code yX2_forgetBelow cX2_forgetBelow 3 none, Cond.methodLink RX2 43 yX2_forgetFirst, Cond.instanceMethod yX2_forgetFirst, Cond.selects RX2 yX2_forgetFirst yX2_forgetFirst, Cond.code yX2_forgetFirst cX2_forgetFirst 1 none, Cond.methodLink RX3 130 yX3_waitForCarrier, Cond.instanceMethod yX3_waitForCarrier, Cond.selects RX3 yX3_waitForCarrier yX3_waitForCarrier, Cond.code yX3_waitForCarrier cX3_waitForCarrier 1 none, Cond.methodLink RX3 183 yX3_cutAfterHold, Cond.instanceMethod yX3_cutAfterHold, Cond.selects RX3 yX3_cutAfterHold yX3_cutAfterHold, Cond.code yX3_cutAfterHold cX3_cutAfterHold 1 none, Cond.fieldLink RX3 186 "ModemLink$Setup" "hold" "I", Cond.methodLink RX3 133 yX3_loseCarrier, Cond.instanceMethod yX3_loseCarrier, Cond.selects RX3 yX3_loseCarrier yX3_loseCarrier, Cond.code yX3_loseCarrier cX3_loseCarrier 1 none, Cond.methodLink RX3 136 yX3_arrive, Cond.instanceMethod yX3_arrive, Cond.selects RX3 yX3_arrive yX3_arrive]
def wsL_law0_r24 : List Cond := [Cond.code yX3_arrive cX3_arrive 3 none, Cond.fieldLink RX3 199 "ModemLink$Setup" "delay" "I", Cond.fieldLink RX3 210 "ModemLink$Wire" "traits" "[I", Cond.fieldLink RX3 213 "ModemLink$Wire" "senders" "[I", Cond.fieldLink RX3 216 "ModemLink$Wire" "numbers" "[I", Cond.methodLink RX3 202 yX9_hasFrom, Cond.instanceMethod yX9_hasFrom, Cond.selects RX9 yX9_hasFrom yX9_hasFrom, Cond.code yX9_hasFrom cX9_hasFrom 2 (some .boolean), Cond.methodLink RX3 206 yX9_take, Cond.instanceMethod yX9_take, Cond.selects RX9 yX9_take yX9_take, Cond.code yX9_take cX9_take 2 (some .int), Cond.methodLink RX3 219 yX3_acceptAcknowledgement, Cond.instanceMethod yX3_acceptAcknowledgement, Cond.selects RX3 yX3_acceptAcknowledgement yX3_acceptAcknowledgement, Cond.code yX3_acceptAcknowledgement cX3_acceptAcknowledgement 4 none, Cond.fieldLink RX3 124 "ModemLink$Frames" "count" "I", Cond.fieldLink RX3 230 "ModemLink$Frames" "first" "I", Cond.methodLink RX3 226 yX3_endOf, Cond.instanceMethod yX3_endOf, Cond.selects RX3 yX3_endOf yX3_endOf, Cond.code yX3_endOf cX3_endOf 2 (some (.object "ModemLink$End")), Cond.methodLink RX3 233 yX2_forgetFirst]
def wsL_law0_r25 : List Cond := [Cond.methodLink RX3 222 yX3_acceptFrame, Cond.instanceMethod yX3_acceptFrame, Cond.selects RX3 yX3_acceptFrame yX3_acceptFrame, Cond.code yX3_acceptFrame cX3_acceptFrame 11 none, Cond.fieldLink RX3 236 "ModemLink$End" "reading" "LModemLink$Dictionary;", Cond.fieldLink RX3 239 "ModemLink$Dictionary" "count" "I", Cond.fieldLink RX3 243 "ModemLink$Frames" "sizes" "[I", Cond.fieldLink RX3 246 "ModemLink$Frames" "bytes" "[I", Cond.methodLink RX3 240 yX2_slotOf, Cond.instanceMethod yX2_slotOf, Cond.selects RX2 yX2_slotOf yX2_slotOf, Cond.code yX2_slotOf cX2_slotOf 2 (some .int), Cond.methodLink RX2 37 yJ9_floorMod_7cf53, Cond.static yJ9_floorMod_7cf53, Cond.initialized RJ9, Cond.code yJ9_floorMod_7cf53 cJ9_floorMod_7cf53 3 (some .int), Cond.methodLink RX3 249 yX1_read, Cond.instanceMethod yX1_read, Cond.selects RX1 yX1_read yX1_read, Cond.code yX1_read cX1_read 2 none, Cond.methodLink RX1 91 yX0_putInFront, Cond.instanceMethod yX0_putInFront, Cond.selects RX0 yX0_putInFront yX0_putInFront, Cond.code yX0_putInFront cX0_putInFront 5 (some .int)]
def wsL_law0_r26 : List Cond := [Cond.methodLink RX0 25 Lib.Math.min.name, Cond.methodLink RX3 252 yX9_put, Cond.instanceMethod yX9_put, Cond.selects RX9 yX9_put yX9_put, Cond.code yX9_put cX9_put 6 none, Cond.methodLink RX3 139 yX3_checkTimer, Cond.instanceMethod yX3_checkTimer, Cond.selects RX3 yX3_checkTimer yX3_checkTimer, Cond.code yX3_checkTimer cX3_checkTimer 4 none, Cond.fieldLink RX3 255 "ModemLink$Frames" "sent" "I", Cond.fieldLink RX3 258 "ModemLink$Frames" "sentTicks" "[I", Cond.fieldLink RX3 261 "ModemLink$Setup" "timeout" "I", Cond.fieldLink RX3 264 "ModemLink$End" "marksNext" "Z", Cond.fieldLink RX3 268 "ModemLink$Setup" "limit" "I", Cond.methodLink RX3 271 yX3_fall, Cond.instanceMethod yX3_fall, Cond.selects RX3 yX3_fall yX3_fall, Cond.code yX3_fall cX3_fall 1 none, Cond.methodLink RX3 143 yX3_rise, Cond.instanceMethod yX3_rise, Cond.selects RX3 yX3_rise yX3_rise, Cond.code yX3_rise cX3_rise 1 none, Cond.fieldLink RX3 274 "ModemLink$Setup" "patience" "I", Cond.methodLink RX3 277 yX6_canRiseFrom]
def wsL_law0_r27 : List Cond := [Cond.instanceMethod yX6_canRiseFrom, Cond.selects RX6 yX6_canRiseFrom yX6_canRiseFrom, Cond.code yX6_canRiseFrom cX6_canRiseFrom 4 (some .boolean), Cond.methodLink RX3 146 yX3_sendFrom, Cond.instanceMethod yX3_sendFrom, Cond.selects RX3 yX3_sendFrom yX3_sendFrom, Cond.code yX3_sendFrom cX3_sendFrom 6 none, Cond.fieldLink RX3 284 "ModemLink$End" "credit" "I", Cond.methodLink RX3 287 Lib.Math.min.name, Cond.fieldLink RX3 293 "ModemLink$End" "escaped" "Z", Cond.methodLink RX3 281 yX6_speedOf, Cond.instanceMethod yX6_speedOf, Cond.selects RX6 yX6_speedOf yX6_speedOf, Cond.code yX6_speedOf cX6_speedOf 2 (some .int), Cond.methodLink RX3 296 yX3_sendNext, Cond.instanceMethod yX3_sendNext, Cond.selects RX3 yX3_sendNext yX3_sendNext, Cond.code yX3_sendNext cX3_sendNext 7 (some .boolean), Cond.fieldLink RX3 299 "ModemLink$Setup" "window" "I", Cond.fieldLink RX3 117 "ModemLink$End" "queueCount" "I", Cond.fieldLink RX3 302 "ModemLink$End" "queue" "[I", Cond.fieldLink RX3 315 "ModemLink$End" "writing" "LModemLink$Dictionary;", Cond.methodLink RX3 305 yX1_nextFrameSize, Cond.instanceMethod yX1_nextFrameSize]
def wsL_law0_r28 : List Cond := [Cond.selects RX1 yX1_nextFrameSize yX1_nextFrameSize, Cond.code yX1_nextFrameSize cX1_nextFrameSize 1 (some .int), Cond.methodLink RX3 308 yX3_costOf, Cond.instanceMethod yX3_costOf, Cond.selects RX3 yX3_costOf yX3_costOf, Cond.code yX3_costOf cX3_costOf 7 (some .int), Cond.methodLink RX3 318 yX0_copyFrom, Cond.methodLink RX3 324 yX0_putInFront, Cond.methodLink RX3 312 yX1_makeFrame, Cond.instanceMethod yX1_makeFrame, Cond.selects RX1 yX1_makeFrame yX1_makeFrame, Cond.code yX1_makeFrame cX1_makeFrame 4 none, Cond.methodLink RX1 84 yX1_nextFrameSize, Cond.methodLink RX1 87 yX2_make, Cond.instanceMethod yX2_make, Cond.selects RX2 yX2_make yX2_make, Cond.code yX2_make cX2_make 4 none, Cond.methodLink RX3 321 yX3_launch, Cond.instanceMethod yX3_launch, Cond.selects RX3 yX3_launch yX3_launch, Cond.code yX3_launch cX3_launch 5 none, Cond.methodLink RX3 327 yX6_noiseOf, Cond.instanceMethod yX6_noiseOf, Cond.selects RX6 yX6_noiseOf yX6_noiseOf]
def wsL_law0_r29 : List Cond := [Cond.code yX6_noiseOf cX6_noiseOf 3 (some .int), Cond.methodLink RL 127 yX10_size, Cond.instanceMethod yX10_size, Cond.selects RX10 yX10_size yX10_size, Cond.code yX10_size cX10_size 4 (some .int), Cond.classLink RX10 171 "java/util/NoSuchElementException", Cond.initialized "java/util/NoSuchElementException", Cond.fieldLink RX10 142 "ModemLink$Line" "quality" "I", Cond.fieldLink RX10 145 "ModemLink$Line" "rate" "I", Cond.fieldLink RX10 148 "ModemLink$Line" "step" "I", Cond.fieldLink RX10 151 "ModemLink$Line" "stepLeft" "I", Cond.fieldLink RX10 154 "ModemLink$Line" "restarts" "I", Cond.fieldLink RX10 157 "ModemLink$Line" "loss" "I", Cond.fieldLink RX10 160 "ModemLink$Line" "failures" "I", Cond.fieldLink RX10 163 "ModemLink$Line" "acknowledged" "I", Cond.fieldLink RX10 166 "ModemLink$Log" "count" "I", Cond.methodLink RL 198 yX10_send, Cond.instanceMethod yX10_send, Cond.selects RX10 yX10_send yX10_send, Cond.code yX10_send cX10_send 4 (some .int), Cond.fieldLink RX10 188 "ModemLink$End" "queueCount" "I", Cond.methodLink RX10 181 yX10_checkEnd, Cond.instanceMethod yX10_checkEnd, Cond.selects RX10 yX10_checkEnd yX10_checkEnd]
def wsL_law0_r30 : List Cond := [Cond.code yX10_checkEnd cX10_checkEnd 2 none, Cond.methodLink RX10 184 yX3_endOf, Cond.methodLink RX10 327 yX1_enqueue, Cond.instanceMethod yX1_enqueue, Cond.selects RX1 yX1_enqueue yX1_enqueue, Cond.code yX1_enqueue cX1_enqueue 3 none, Cond.methodLink RL 221 yX10_nextCost, Cond.instanceMethod yX10_nextCost, Cond.selects RX10 yX10_nextCost yX10_nextCost, Cond.code yX10_nextCost cX10_nextCost 3 (some .int), Cond.fieldLink RX10 278 "ModemLink$End" "queue" "[I", Cond.methodLink RX10 281 yX1_nextFrameSize, Cond.methodLink RX10 284 yX3_costOf, Cond.methodLink RL 230 yX10_ticksToFinish, Cond.instanceMethod yX10_ticksToFinish, Cond.selects RX10 yX10_ticksToFinish yX10_ticksToFinish, Cond.code yX10_ticksToFinish cX10_ticksToFinish 1 (some .int), Cond.methodLink RX10 291 yX3_runToFinish, Cond.instanceMethod yX3_runToFinish, Cond.selects RX3 yX3_runToFinish yX3_runToFinish, Cond.code yX3_runToFinish cX3_runToFinish 2 (some .int), Cond.methodLink RX3 113 yX3_isFinished, Cond.instanceMethod yX3_isFinished, Cond.selects RX3 yX3_isFinished yX3_isFinished]
def wsL_law0_r31 : List Cond := [Cond.code yX3_isFinished cX3_isFinished 1 (some .boolean), Cond.methodLink RL 169 yX10_end, Cond.instanceMethod yX10_end, Cond.selects RX10 yX10_end yX10_end, Cond.code yX10_end cX10_end 4 (some .int), Cond.fieldLink RX10 193 "ModemLink$End" "frames" "LModemLink$Frames;", Cond.fieldLink RX10 197 "ModemLink$Frames" "sent" "I", Cond.fieldLink RX10 202 "ModemLink$Frames" "count" "I", Cond.fieldLink RX10 203 "ModemLink$Frames" "first" "I", Cond.fieldLink RX10 206 "ModemLink$End" "expects" "I", Cond.fieldLink RX10 209 "ModemLink$End" "receivedCount" "I", Cond.fieldLink RX10 212 "ModemLink$End" "credit" "I", Cond.fieldLink RX10 215 "ModemLink$End" "escaped" "Z", Cond.fieldLink RX10 218 "ModemLink$End" "writing" "LModemLink$Dictionary;", Cond.fieldLink RX10 222 "ModemLink$Dictionary" "count" "I", Cond.fieldLink RX10 225 "ModemLink$End" "reading" "LModemLink$Dictionary;", Cond.methodLink RL 177 yX10_received, Cond.instanceMethod yX10_received, Cond.selects RX10 yX10_received yX10_received, Cond.code yX10_received cX10_received 4 (some .int), Cond.fieldLink RX10 258 "ModemLink$End" "received" "[I", Cond.methodLink RX10 254 yX1_keptCount, Cond.methodLink RL 171 yX10_word, Cond.instanceMethod yX10_word]
def wsL_law0_r32 : List Cond := [Cond.selects RX10 yX10_word yX10_word, Cond.code yX10_word cX10_word 6 (some .int), Cond.fieldLink RX10 261 "ModemLink$Dictionary" "bytes" "[I", Cond.methodLink RL 180 yX10_event, Cond.instanceMethod yX10_event, Cond.selects RX10 yX10_event yX10_event, Cond.code yX10_event cX10_event 3 (some .int), Cond.methodLink RX10 266 yX4_propertyOf, Cond.instanceMethod yX4_propertyOf, Cond.selects RX4 yX4_propertyOf yX4_propertyOf, Cond.code yX4_propertyOf cX4_propertyOf 4 (some .int), Cond.methodLink RX4 28 yJ9_floorMod_7cf53, Cond.methodLink RL 201 yX10_setQuality, Cond.instanceMethod yX10_setQuality, Cond.selects RX10 yX10_setQuality yX10_setQuality, Cond.code yX10_setQuality cX10_setQuality 3 (some .int), Cond.methodLink RX10 270 yX10_checkQuality, Cond.instanceMethod yX10_checkQuality, Cond.selects RX10 yX10_checkQuality yX10_checkQuality, Cond.code yX10_checkQuality cX10_checkQuality 2 none, Cond.methodLink RL 245 yX10_leastQuality, Cond.instanceMethod yX10_leastQuality, Cond.selects RX10 yX10_leastQuality yX10_leastQuality, Cond.code yX10_leastQuality cX10_leastQuality 2 (some .int)]
def wsL_law0_r33 : List Cond := [Cond.methodLink RL 248 yL_drawn, Cond.static yL_drawn, Cond.code yL_drawn cL_drawn 9 (some (.object "ModemLinkLaw$Own")), Cond.classLink RL 20 RX11, Cond.instantiable RX11 31, Cond.initialized RX11, Cond.instanceMethod yX11_init, Cond.code yX11_init cX11_init 1 none, Cond.methodLink RX11 1 objectInit, Cond.fieldLink RX11 7 "ModemLinkLaw$Own" "quality" "I", Cond.fieldLink RX11 13 "ModemLinkLaw$Own" "speed" "[I", Cond.fieldLink RX11 17 "ModemLinkLaw$Own" "need" "[I", Cond.fieldLink RX11 20 "ModemLinkLaw$Own" "train" "[I", Cond.fieldLink RX11 23 "ModemLinkLaw$Own" "noise" "[I", Cond.fieldLink RX11 26 "ModemLinkLaw$Own" "set" "[I", Cond.fieldLink RX11 29 "ModemLinkLaw$Own" "total" "[I", Cond.classLink RX11 32 "[[I", Cond.fieldLink RX11 34 "ModemLinkLaw$Own" "queue" "[[I", Cond.fieldLink RX11 37 "ModemLinkLaw$Own" "got" "[[I", Cond.fieldLink RX11 40 "ModemLinkLaw$Own" "writes" "[[I", Cond.fieldLink RX11 43 "ModemLinkLaw$Own" "reads" "[[I", Cond.fieldLink RX11 46 "ModemLinkLaw$Own" "next" "[I", Cond.fieldLink RX11 49 "ModemLinkLaw$Own" "expects" "[I", Cond.fieldLink RX11 52 "ModemLinkLaw$Own" "all" "[I"]
def wsL_law0_r34 : List Cond := [Cond.fieldLink RX11 55 "ModemLinkLaw$Own" "credit" "[I", Cond.arrayClass .boolean, Cond.fieldLink RX11 58 "ModemLinkLaw$Own" "escaped" "[Z", Cond.fieldLink RX11 62 "ModemLinkLaw$Own" "mark" "[Z", Cond.fieldLink RX11 67 "ModemLinkLaw$Own" "frames" "[[[I", Cond.classLink RX11 70 "[I", Cond.fieldLink RX11 71 "ModemLinkLaw$Own" "fly" "[[I", Cond.fieldLink RX11 74 "ModemLinkLaw$Own" "event" "[[I", Cond.methodLink RL 23 yL_cell, Cond.static yL_cell, Cond.code yL_cell cL_cell 2 (some .int), Cond.methodLink RL 27 yL_most, Cond.static yL_most, Cond.code yL_most cL_most 2 (some .int), Cond.constant RL 7 (2147483647), Cond.methodLink RL 252 yL_tell, Cond.static yL_tell, Cond.code yL_tell cL_tell 7 (some .int), Cond.methodLink RL 70 yL_line, Cond.static yL_line, Cond.code yL_line cL_line 8 none, Cond.methodLink RL 65 yL_number, Cond.static yL_number, Cond.code yL_number cL_number 4 none]
def wsL_law0_r35 : List Cond := [Cond.methodLink RL 233 yL_isSound, Cond.static yL_isSound, Cond.code yL_isSound cL_isSound 7 (some .boolean), Cond.methodLink RL 139 yX10_frame, Cond.instanceMethod yX10_frame, Cond.selects RX10 yX10_frame yX10_frame, Cond.code yX10_frame cX10_frame 5 (some .int), Cond.fieldLink RX10 242 "ModemLink$Frames" "sizes" "[I", Cond.fieldLink RX10 249 "ModemLink$Frames" "sentTicks" "[I", Cond.methodLink RX10 245 yX2_slotOf, Cond.methodLink RL 130 yX10_total, Cond.instanceMethod yX10_total, Cond.selects RX10 yX10_total yX10_total, Cond.code yX10_total cX10_total 2 (some .int), Cond.methodLink RL 256 yX10_saveSnapshot, Cond.instanceMethod yX10_saveSnapshot, Cond.selects RX10 yX10_saveSnapshot yX10_saveSnapshot, Cond.code yX10_saveSnapshot cX10_saveSnapshot 1 none, Cond.methodLink RL 224 yL_all, Cond.static yL_all, Cond.code yL_all cL_all 7 (some .long), Cond.constantLong RL 219 (31), Cond.methodLink RL 259 yL_act, Cond.static yL_act]
def wsL_law0_r36 : List Cond := [Cond.code yL_act cL_act 11 (some .int), Cond.instanceMethod yX11_tick, Cond.selects RX11 yX11_tick yX11_tick, Cond.code yX11_tick cX11_tick 1 none, Cond.fieldLink RX11 81 "ModemLinkLaw$Own" "phase" "I", Cond.fieldLink RX11 87 "ModemLinkLaw$Own" "step" "I", Cond.fieldLink RX11 90 "ModemLinkLaw$Own" "left" "I", Cond.fieldLink RX11 93 "ModemLinkLaw$Own" "restarts" "I", Cond.fieldLink RX11 96 "ModemLinkLaw$Own" "loss" "I", Cond.fieldLink RX11 78 "ModemLinkLaw$Own" "time" "I", Cond.methodLink RX11 172 yX11_training, Cond.instanceMethod yX11_training, Cond.selects RX11 yX11_training yX11_training, Cond.code yX11_training cX11_training 1 none, Cond.methodLink RX11 155 yX11_hang, Cond.instanceMethod yX11_hang, Cond.selects RX11 yX11_hang yX11_hang, Cond.code yX11_hang cX11_hang 2 none, Cond.fieldLink RX11 108 "ModemLinkLaw$Own" "flying" "I", Cond.methodLink RX11 144 yX11_tell, Cond.instanceMethod yX11_tell, Cond.selects RX11 yX11_tell yX11_tell, Cond.code yX11_tell cX11_tell 4 none, Cond.fieldLink RX11 105 "ModemLinkLaw$Own" "events" "I"]
def wsL_law0_r37 : List Cond := [Cond.fieldLink RX11 84 "ModemLinkLaw$Own" "rate" "I", Cond.methodLink RX11 178 yX11_online, Cond.instanceMethod yX11_online, Cond.selects RX11 yX11_online yX11_online, Cond.code yX11_online cX11_online 8 none, Cond.fieldLink RX11 99 "ModemLinkLaw$Own" "fails" "I", Cond.fieldLink RX11 102 "ModemLinkLaw$Own" "acks" "I", Cond.methodLink RX11 151 yX11_rateFor, Cond.instanceMethod yX11_rateFor, Cond.selects RX11 yX11_rateFor yX11_rateFor, Cond.code yX11_rateFor cX11_rateFor 4 (some .int), Cond.methodLink RX11 132 yX11_more, Cond.static yX11_more, Cond.code yX11_more cX11_more 4 (some (.array (.array .int))), Cond.methodLink RX11 175 yX11_live, Cond.instanceMethod yX11_live, Cond.selects RX11 yX11_live yX11_live, Cond.code yX11_live cX11_live 1 none, Cond.methodLink RX11 181 yX11_arrivals, Cond.instanceMethod yX11_arrivals, Cond.selects RX11 yX11_arrivals yX11_arrivals, Cond.code yX11_arrivals cX11_arrivals 4 none, Cond.methodLink RX11 147 yX11_land, Cond.instanceMethod yX11_land]
def wsL_law0_r38 : List Cond := [Cond.selects RX11 yX11_land yX11_land, Cond.code yX11_land cX11_land 4 none, Cond.methodLink RX11 140 yX11_forget, Cond.instanceMethod yX11_forget, Cond.selects RX11 yX11_forget yX11_forget, Cond.code yX11_forget cX11_forget 8 none, Cond.methodLink RX11 125 yX11_used, Cond.static yX11_used, Cond.code yX11_used cX11_used 7 (some (.array .int)), Cond.methodLink RX11 117 yX11_with, Cond.static yX11_with, Cond.code yX11_with cX11_with 4 (some (.array .int)), Cond.methodLink RX11 184 yX11_timer, Cond.instanceMethod yX11_timer, Cond.selects RX11 yX11_timer yX11_timer, Cond.code yX11_timer cX11_timer 8 none, Cond.methodLink RX11 188 yX11_send, Cond.instanceMethod yX11_send, Cond.selects RX11 yX11_send yX11_send, Cond.code yX11_send cX11_send 11 none, Cond.methodLink RX11 158 Lib.Math.min.name, Cond.methodLink RX11 164 yX11_bytes, Cond.static yX11_bytes, Cond.code yX11_bytes cX11_bytes 1 (some (.array .int))]
def wsL_law0_r39 : List Cond := [Cond.methodLink RX11 128 yX11_part, Cond.static yX11_part, Cond.code yX11_part cX11_part 5 (some (.array .int)), Cond.methodLink RX11 168 yX11_launch, Cond.instanceMethod yX11_launch, Cond.selects RX11 yX11_launch yX11_launch, Cond.code yX11_launch cX11_launch 11 (some .boolean), Cond.methodLink RX11 136 yX11_cost, Cond.instanceMethod yX11_cost, Cond.selects RX11 yX11_cost yX11_cost, Cond.code yX11_cost cX11_cost 9 (some .int), Cond.methodLink RX11 121 yX11_has, Cond.static yX11_has, Cond.code yX11_has cX11_has 6 (some .boolean), Cond.methodLink RL 204 yX10_escape, Cond.instanceMethod yX10_escape, Cond.selects RX10 yX10_escape yX10_escape, Cond.code yX10_escape cX10_escape 2 (some .int), Cond.methodLink RX10 323 yX10_setEscaped, Cond.instanceMethod yX10_setEscaped, Cond.selects RX10 yX10_setEscaped yX10_setEscaped, Cond.code yX10_setEscaped cX10_setEscaped 4 (some .int), Cond.methodLink RL 207 yX10_resume, Cond.instanceMethod yX10_resume]
def wsL_law0_r40 : List Cond := [Cond.selects RX10 yX10_resume yX10_resume, Cond.code yX10_resume cX10_resume 2 (some .int), Cond.instanceMethod yX11_losing, Cond.selects RX11 yX11_losing yX11_losing, Cond.code yX11_losing cX11_losing 7 (some .int), Cond.methodLink RL 216 yX10_hangUp, Cond.instanceMethod yX10_hangUp, Cond.selects RX10 yX10_hangUp yX10_hangUp, Cond.code yX10_hangUp cX10_hangUp 2 (some .int), Cond.methodLink RX10 317 yX3_unreceivedBytes, Cond.instanceMethod yX3_unreceivedBytes, Cond.selects RX3 yX3_unreceivedBytes yX3_unreceivedBytes, Cond.code yX3_unreceivedBytes cX3_unreceivedBytes 1 (some .int), Cond.methodLink RX3 192 yX2_bytesFrom, Cond.instanceMethod yX2_bytesFrom, Cond.selects RX2 yX2_bytesFrom yX2_bytesFrom, Cond.code yX2_bytesFrom cX2_bytesFrom 4 (some .int), Cond.methodLink RX2 46 yX2_slotOf, Cond.methodLink RX10 320 yX3_cut, Cond.methodLink RL 263 yX10_undoCount, Cond.instanceMethod yX10_undoCount, Cond.selects RX10 yX10_undoCount yX10_undoCount, Cond.code yX10_undoCount cX10_undoCount 1 (some .int), Cond.methodLink RL 266 yL_isPassed]
def wsL_law0_r41 : List Cond := [Cond.static yL_isPassed, Cond.code yL_isPassed cL_isPassed 9 (some .boolean), Cond.methodLink RL 227 yX10_receivedBehind, Cond.instanceMethod yX10_receivedBehind, Cond.selects RX10 yX10_receivedBehind yX10_receivedBehind, Cond.code yX10_receivedBehind cX10_receivedBehind 3 (some .int), Cond.methodLink RL 237 yX10_undo, Cond.instanceMethod yX10_undo, Cond.selects RX10 yX10_undo yX10_undo, Cond.code yX10_undo cX10_undo 1 (some .int), Cond.methodLink RL 270 yX10_restoreSnapshot, Cond.instanceMethod yX10_restoreSnapshot, Cond.selects RX10 yX10_restoreSnapshot yX10_restoreSnapshot, Cond.code yX10_restoreSnapshot cX10_restoreSnapshot 1 (some .boolean)]
def wsL_law0 : List Cond := (wsL_law0_r1 ++ (wsL_law0_r2 ++ (wsL_law0_r3 ++ (wsL_law0_r4 ++ (wsL_law0_r5 ++ (wsL_law0_r6 ++ (wsL_law0_r7 ++ (wsL_law0_r8 ++ (wsL_law0_r9 ++ (wsL_law0_r10 ++ (wsL_law0_r11 ++ (wsL_law0_r12 ++ (wsL_law0_r13 ++ (wsL_law0_r14 ++ (wsL_law0_r15 ++ (wsL_law0_r16 ++ (wsL_law0_r17 ++ (wsL_law0_r18 ++ (wsL_law0_r19 ++ (wsL_law0_r20 ++ (wsL_law0_r21 ++ (wsL_law0_r22 ++ (wsL_law0_r23 ++ (wsL_law0_r24 ++ (wsL_law0_r25 ++ (wsL_law0_r26 ++ (wsL_law0_r27 ++ (wsL_law0_r28 ++ (wsL_law0_r29 ++ (wsL_law0_r30 ++ (wsL_law0_r31 ++ (wsL_law0_r32 ++ (wsL_law0_r33 ++ (wsL_law0_r34 ++ (wsL_law0_r35 ++ (wsL_law0_r36 ++ (wsL_law0_r37 ++ (wsL_law0_r38 ++ (wsL_law0_r39 ++ (wsL_law0_r40 ++ wsL_law0_r41)))))))))))))))))))))))))))))))))))))))) ++ wsX100 ++ wsX110 ++ wsX60 ++ wsX30 ++ wsX80 ++ wsX70 ++ wsX50 ++ wsJ40 ++ wsX10 ++ wsX90 ++ wsX40 ++ wsX00 ++ wsX20 ++ ([] : List Cond)
def wsL_law : List Cond := wsL_law0 ++ ([] : List Cond) ++ ([] : List Cond)
theorem inlX0 : ∀ w ∈ wsX00, w ∈ wsL_law := fun _ h => List.mem_append_left _ (List.mem_append_left _ (List.mem_append_left _ (List.mem_append_left _ (List.mem_append_right _ h))))
theorem inlX1 : ∀ w ∈ wsX10, w ∈ wsL_law := fun _ h => List.mem_append_left _ (List.mem_append_left _ (List.mem_append_left _ (List.mem_append_left _ (List.mem_append_left _ (List.mem_append_left _ (List.mem_append_left _ (List.mem_append_right _ h)))))))
theorem inlX2 : ∀ w ∈ wsX20, w ∈ wsL_law := fun _ h => List.mem_append_left _ (List.mem_append_left _ (List.mem_append_left _ (List.mem_append_right _ h)))
theorem inlX3 : ∀ w ∈ wsX30, w ∈ wsL_law := fun _ h => List.mem_append_left _ (List.mem_append_left _ (List.mem_append_left _ (List.mem_append_left _ (List.mem_append_left _ (List.mem_append_left _ (List.mem_append_left _ (List.mem_append_left _ (List.mem_append_left _ (List.mem_append_left _ (List.mem_append_left _ (List.mem_append_left _ (List.mem_append_right _ h))))))))))))
theorem inlX4 : ∀ w ∈ wsX40, w ∈ wsL_law := fun _ h => List.mem_append_left _ (List.mem_append_left _ (List.mem_append_left _ (List.mem_append_left _ (List.mem_append_left _ (List.mem_append_right _ h)))))
theorem inlX5 : ∀ w ∈ wsX50, w ∈ wsL_law := fun _ h => List.mem_append_left _ (List.mem_append_left _ (List.mem_append_left _ (List.mem_append_left _ (List.mem_append_left _ (List.mem_append_left _ (List.mem_append_left _ (List.mem_append_left _ (List.mem_append_left _ (List.mem_append_right _ h)))))))))
theorem inlX6 : ∀ w ∈ wsX60, w ∈ wsL_law := fun _ h => List.mem_append_left _ (List.mem_append_left _ (List.mem_append_left _ (List.mem_append_left _ (List.mem_append_left _ (List.mem_append_left _ (List.mem_append_left _ (List.mem_append_left _ (List.mem_append_left _ (List.mem_append_left _ (List.mem_append_left _ (List.mem_append_left _ (List.mem_append_left _ (List.mem_append_right _ h)))))))))))))
theorem inlX7 : ∀ w ∈ wsX70, w ∈ wsL_law := fun _ h => List.mem_append_left _ (List.mem_append_left _ (List.mem_append_left _ (List.mem_append_left _ (List.mem_append_left _ (List.mem_append_left _ (List.mem_append_left _ (List.mem_append_left _ (List.mem_append_left _ (List.mem_append_left _ (List.mem_append_right _ h))))))))))
theorem inlX8 : ∀ w ∈ wsX80, w ∈ wsL_law := fun _ h => List.mem_append_left _ (List.mem_append_left _ (List.mem_append_left _ (List.mem_append_left _ (List.mem_append_left _ (List.mem_append_left _ (List.mem_append_left _ (List.mem_append_left _ (List.mem_append_left _ (List.mem_append_left _ (List.mem_append_left _ (List.mem_append_right _ h)))))))))))
theorem inlX9 : ∀ w ∈ wsX90, w ∈ wsL_law := fun _ h => List.mem_append_left _ (List.mem_append_left _ (List.mem_append_left _ (List.mem_append_left _ (List.mem_append_left _ (List.mem_append_left _ (List.mem_append_right _ h))))))
theorem inlX10 : ∀ w ∈ wsX100, w ∈ wsL_law := fun _ h => List.mem_append_left _ (List.mem_append_left _ (List.mem_append_left _ (List.mem_append_left _ (List.mem_append_left _ (List.mem_append_left _ (List.mem_append_left _ (List.mem_append_left _ (List.mem_append_left _ (List.mem_append_left _ (List.mem_append_left _ (List.mem_append_left _ (List.mem_append_left _ (List.mem_append_left _ (List.mem_append_left _ (List.mem_append_right _ h)))))))))))))))
theorem inlX11 : ∀ w ∈ wsX110, w ∈ wsL_law := fun _ h => List.mem_append_left _ (List.mem_append_left _ (List.mem_append_left _ (List.mem_append_left _ (List.mem_append_left _ (List.mem_append_left _ (List.mem_append_left _ (List.mem_append_left _ (List.mem_append_left _ (List.mem_append_left _ (List.mem_append_left _ (List.mem_append_left _ (List.mem_append_left _ (List.mem_append_left _ (List.mem_append_right _ h))))))))))))))
theorem inJx145de : ∀ w ∈ wsJx145de0, w ∈ lw_tbl := by decide +kernel
theorem inJx2cfe8 : ∀ w ∈ wsJx2cfe80, w ∈ lw_tbl := by decide +kernel
theorem inJx9f9b0 : ∀ w ∈ wsJx9f9b00, w ∈ lw_tbl := by decide +kernel
theorem inJxb160c : ∀ w ∈ wsJxb160c0, w ∈ lw_tbl := by decide +kernel
theorem inlJ4 : ∀ w ∈ wsJ40, w ∈ wsL_law := fun _ h => List.mem_append_left _ (List.mem_append_left _ (List.mem_append_left _ (List.mem_append_left _ (List.mem_append_left _ (List.mem_append_left _ (List.mem_append_left _ (List.mem_append_left _ (List.mem_append_right _ h))))))))
theorem inJxfd54e : ∀ w ∈ wsJxfd54e0, w ∈ lw_tbl := by decide +kernel
theorem inJx3cf43 : ∀ w ∈ wsJx3cf430, w ∈ lw_tbl := by decide +kernel
abbrev vwCl : List vw_C := [(RJ4, TJ4, 4), (RX0, TX0, 2), (RX1, TX1, 11), (RX2, TX2, 6), (RX3, TX3, 17), (RX4, TX4, 3), (RX5, TX5, 2), (RX6, TX6, 14), (RX7, TX7, 1), (RX8, TX8, 7), (RX9, TX9, 6), (RX10, TX10, 16), (RX11, TX11, 31)]
