/-! ===== BEGIN printed: names, fields, word lists, decode rows ===== -/
def RX0 : String := "AnimationController$Blend"
def TX0 : u_T := fun k => match k with
  | _ => ("AnimationController$Blend", "weights", "[I", true)
def tyX0 : Nat → FieldType := fun k => match k with
  | _ => .array .int
abbrev wsX00 : List Cond := u_ws RX0 TX0 1
theorem nmX0 : ∀ a, a < 1 → ∀ b, b < 1 → a ≠ b → (TX0 a).2.1 ≠ (TX0 b).2.1 := by decide +kernel
theorem tyX0_ok : ∀ k, k < 1 → parseFieldDescriptor (TX0 k).2.2.1 = some (tyX0 k) := by decide +kernel
abbrev cX0_init : ByteArray := prog_2_method_1_code
def yX0_init : MethodName := ⟨RX0, "<init>", "()V"⟩
abbrev cX0_fill : ByteArray := prog_2_method_2_code
def yX0_fill : MethodName := ⟨RX0, "fill", "(LAnimationController$Node;I[I)V"⟩
abbrev cX0_weightOf : ByteArray := prog_2_method_3_code
def yX0_weightOf : MethodName := ⟨RX0, "weightOf", "(I)I"⟩
abbrev cX0_addParts : ByteArray := prog_2_method_4_code
def yX0_addParts : MethodName := ⟨RX0, "addParts", "([ILAnimationController$Node;I[II)V"⟩
def RX1 : String := "AnimationController$Clip"
def TX1 : u_T := fun k => match k with
  | 0 => ("AnimationController$Clip", "number", "I", true)
  | 1 => ("AnimationController$Clip", "length", "I", true)
  | 2 => ("AnimationController$Clip", "times", "[I", true)
  | 3 => ("AnimationController$Clip", "ids", "[I", true)
  | _ => ("AnimationController$Clip", "events", "I", false)
def tyX1 : Nat → FieldType := fun k => match k with
  | 0 => .int
  | 1 => .int
  | 2 => .array .int
  | 3 => .array .int
  | _ => .int
abbrev wsX10 : List Cond := u_ws RX1 TX1 5
theorem nmX1 : ∀ a, a < 5 → ∀ b, b < 5 → a ≠ b → (TX1 a).2.1 ≠ (TX1 b).2.1 := by decide +kernel
theorem tyX1_ok : ∀ k, k < 5 → parseFieldDescriptor (TX1 k).2.2.1 = some (tyX1 k) := by decide +kernel
abbrev cX1_init : ByteArray := prog_3_method_1_code
def yX1_init : MethodName := ⟨RX1, "<init>", "(II)V"⟩
abbrev cX1_insertEvent : ByteArray := prog_3_method_2_code
def yX1_insertEvent : MethodName := ⟨RX1, "insertEvent", "(II)V"⟩
def RX2 : String := "AnimationController$EventLog"
def TX2 : u_T := fun k => match k with
  | 0 => ("AnimationController$EventLog", "properties", "[[I", true)
  | _ => ("AnimationController$EventLog", "total", "I", false)
def tyX2 : Nat → FieldType := fun k => match k with
  | 0 => .array (.array .int)
  | _ => .int
abbrev wsX20 : List Cond := u_ws RX2 TX2 2
theorem nmX2 : ∀ a, a < 2 → ∀ b, b < 2 → a ≠ b → (TX2 a).2.1 ≠ (TX2 b).2.1 := by decide +kernel
theorem tyX2_ok : ∀ k, k < 2 → parseFieldDescriptor (TX2 k).2.2.1 = some (tyX2 k) := by decide +kernel
abbrev cX2_init : ByteArray := prog_4_method_1_code
def yX2_init : MethodName := ⟨RX2, "<init>", "()V"⟩
abbrev cX2_append : ByteArray := prog_4_method_2_code
def yX2_append : MethodName := ⟨RX2, "append", "(IIII)V"⟩
abbrev cX2_kept : ByteArray := prog_4_method_3_code
def yX2_kept : MethodName := ⟨RX2, "kept", "()I"⟩
abbrev cX2_propertyOf : ByteArray := prog_4_method_4_code
def yX2_propertyOf : MethodName := ⟨RX2, "propertyOf", "(II)I"⟩
abbrev cX2_copyFrom : ByteArray := prog_4_method_5_code
def yX2_copyFrom : MethodName := ⟨RX2, "copyFrom", "(LAnimationController$EventLog;)V"⟩
abbrev cX2_placeOf : ByteArray := prog_4_method_6_code
def yX2_placeOf : MethodName := ⟨RX2, "placeOf", "(I)I"⟩
def RX3 : String := "AnimationController$Machine"
def TX3 : u_T := fun k => match k with
  | 0 => ("AnimationController$Machine", "model", "LAnimationController$Model;", true)
  | 1 => ("AnimationController$Machine", "values", "[I", true)
  | 2 => ("AnimationController$Machine", "source", "LAnimationController$Track;", true)
  | 3 => ("AnimationController$Machine", "target", "LAnimationController$Track;", true)
  | 4 => ("AnimationController$Machine", "current", "LAnimationController$Transition;", false)
  | 5 => ("AnimationController$Machine", "elapsed", "I", false)
  | 6 => ("AnimationController$Machine", "frozen", "Z", false)
  | 7 => ("AnimationController$Machine", "frozenPose", "LAnimationController$Pose;", true)
  | 8 => ("AnimationController$Machine", "interruptions", "I", false)
  | 9 => ("AnimationController$Machine", "ticks", "I", false)
  | 10 => ("AnimationController$Machine", "log", "LAnimationController$EventLog;", true)
  | 11 => ("AnimationController$Machine", "blend", "LAnimationController$Blend;", true)
  | _ => ("AnimationController$Machine", "pose", "LAnimationController$Pose;", true)
def tyX3 : Nat → FieldType := fun k => match k with
  | 0 => .object "AnimationController$Model"
  | 1 => .array .int
  | 2 => .object "AnimationController$Track"
  | 3 => .object "AnimationController$Track"
  | 4 => .object "AnimationController$Transition"
  | 5 => .int
  | 6 => .boolean
  | 7 => .object "AnimationController$Pose"
  | 8 => .int
  | 9 => .int
  | 10 => .object "AnimationController$EventLog"
  | 11 => .object "AnimationController$Blend"
  | _ => .object "AnimationController$Pose"
abbrev wsX30 : List Cond := u_ws RX3 TX3 13
theorem nmX3 : ∀ a, a < 13 → ∀ b, b < 13 → a ≠ b → (TX3 a).2.1 ≠ (TX3 b).2.1 := by decide +kernel
theorem tyX3_ok : ∀ k, k < 13 → parseFieldDescriptor (TX3 k).2.2.1 = some (tyX3 k) := by decide +kernel
abbrev cX3_init : ByteArray := prog_5_method_1_code
def yX3_init : MethodName := ⟨RX3, "<init>", "(LAnimationController$Model;)V"⟩
abbrev cX3_copyFrom : ByteArray := prog_5_method_2_code
def yX3_copyFrom : MethodName := ⟨RX3, "copyFrom", "(LAnimationController$Machine;)V"⟩
abbrev cX3_beginIn : ByteArray := prog_5_method_3_code
def yX3_beginIn : MethodName := ⟨RX3, "beginIn", "(LAnimationController$State;)V"⟩
abbrev cX3_forget : ByteArray := prog_5_method_4_code
def yX3_forget : MethodName := ⟨RX3, "forget", "()V"⟩
abbrev cX3_valueOf : ByteArray := prog_5_method_5_code
def yX3_valueOf : MethodName := ⟨RX3, "valueOf", "(I)I"⟩
abbrev cX3_setValue : ByteArray := prog_5_method_6_code
def yX3_setValue : MethodName := ⟨RX3, "setValue", "(II)V"⟩
abbrev cX3_lengthOf : ByteArray := prog_5_method_7_code
def yX3_lengthOf : MethodName := ⟨RX3, "lengthOf", "(LAnimationController$State;)I"⟩
abbrev cX3_runTick : ByteArray := prog_5_method_8_code
def yX3_runTick : MethodName := ⟨RX3, "runTick", "()V"⟩
abbrev cX3_firstPossible : ByteArray := prog_5_method_9_code
def yX3_firstPossible : MethodName := ⟨RX3, "firstPossible", "()LAnimationController$Transition;"⟩
abbrev cX3_firstPossibleOf : ByteArray := prog_5_method_10_code
def yX3_firstPossibleOf : MethodName := ⟨RX3, "firstPossibleOf", "(I)LAnimationController$Transition;"⟩
abbrev cX3_originOf : ByteArray := prog_5_method_11_code
def yX3_originOf : MethodName := ⟨RX3, "originOf", "(LAnimationController$Transition;)I"⟩
abbrev cX3_obstacleFrom : ByteArray := prog_5_method_12_code
def yX3_obstacleFrom : MethodName := ⟨RX3, "obstacleFrom", "(ILAnimationController$Transition;)I"⟩
abbrev cX3_take : ByteArray := prog_5_method_13_code
def yX3_take : MethodName := ⟨RX3, "take", "(LAnimationController$Transition;)V"⟩
abbrev cX3_clearTriggers : ByteArray := prog_5_method_14_code
def yX3_clearTriggers : MethodName := ⟨RX3, "clearTriggers", "(LAnimationController$Transition;)V"⟩
abbrev cX3_firstPhase : ByteArray := prog_5_method_15_code
def yX3_firstPhase : MethodName := ⟨RX3, "firstPhase", "(LAnimationController$Transition;)I"⟩
abbrev cX3_becomeIdle : ByteArray := prog_5_method_16_code
def yX3_becomeIdle : MethodName := ⟨RX3, "becomeIdle", "()V"⟩
abbrev cX3_targetShare : ByteArray := prog_5_method_17_code
def yX3_targetShare : MethodName := ⟨RX3, "targetShare", "()I"⟩
abbrev cX3_advanceTracks : ByteArray := prog_5_method_18_code
def yX3_advanceTracks : MethodName := ⟨RX3, "advanceTracks", "()V"⟩
abbrev cX3_stepOf : ByteArray := prog_5_method_19_code
def yX3_stepOf : MethodName := ⟨RX3, "stepOf", "(LAnimationController$State;)J"⟩
abbrev cX3_commonStep : ByteArray := prog_5_method_20_code
def yX3_commonStep : MethodName := ⟨RX3, "commonStep", "()J"⟩
abbrev cX3_mixed : ByteArray := prog_5_method_21_code
def yX3_mixed : MethodName := ⟨RX3, "mixed", "(II)J"⟩
abbrev cX3_stepBy : ByteArray := prog_5_method_22_code
def yX3_stepBy : MethodName := ⟨RX3, "stepBy", "(JJ)J"⟩
abbrev cX3_fireEvents : ByteArray := prog_5_method_23_code
def yX3_fireEvents : MethodName := ⟨RX3, "fireEvents", "()V"⟩
abbrev cX3_fireTrack : ByteArray := prog_5_method_24_code
def yX3_fireTrack : MethodName := ⟨RX3, "fireTrack", "(LAnimationController$Track;I)V"⟩
abbrev cX3_fireClip : ByteArray := prog_5_method_25_code
def yX3_fireClip : MethodName := ⟨RX3, "fireClip", "(LAnimationController$Track;LAnimationController$Clip;)V"⟩
abbrev cX3_fillPose : ByteArray := prog_5_method_26_code
def yX3_fillPose : MethodName := ⟨RX3, "fillPose", "()V"⟩
abbrev cX3_addTrackPose : ByteArray := prog_5_method_27_code
def yX3_addTrackPose : MethodName := ⟨RX3, "addTrackPose", "(LAnimationController$Track;I)V"⟩
def RX4 : String := "AnimationController$Model"
def TX4 : u_T := fun k => match k with
  | 0 => ("AnimationController$Model", "kinds", "[I", true)
  | 1 => ("AnimationController$Model", "parameters", "I", false)
  | 2 => ("AnimationController$Model", "clips", "Ljava/util/ArrayList;", true)
  | 3 => ("AnimationController$Model", "nodes", "Ljava/util/ArrayList;", true)
  | 4 => ("AnimationController$Model", "states", "Ljava/util/ArrayList;", true)
  | 5 => ("AnimationController$Model", "transitions", "Ljava/util/ArrayList;", true)
  | 6 => ("AnimationController$Model", "threshold", "I", false)
  | _ => ("AnimationController$Model", "standIn", "LAnimationController$State;", true)
def tyX4 : Nat → FieldType := fun k => match k with
  | 0 => .array .int
  | 1 => .int
  | 2 => .object "java/util/ArrayList"
  | 3 => .object "java/util/ArrayList"
  | 4 => .object "java/util/ArrayList"
  | 5 => .object "java/util/ArrayList"
  | 6 => .int
  | _ => .object "AnimationController$State"
abbrev wsX40 : List Cond := u_ws RX4 TX4 8
theorem nmX4 : ∀ a, a < 8 → ∀ b, b < 8 → a ≠ b → (TX4 a).2.1 ≠ (TX4 b).2.1 := by decide +kernel
theorem tyX4_ok : ∀ k, k < 8 → parseFieldDescriptor (TX4 k).2.2.1 = some (tyX4 k) := by decide +kernel
abbrev cX4_init : ByteArray := prog_6_method_1_code
def yX4_init : MethodName := ⟨RX4, "<init>", "()V"⟩
abbrev cX4_hasParameter : ByteArray := prog_6_method_2_code
def yX4_hasParameter : MethodName := ⟨RX4, "hasParameter", "(I)Z"⟩
abbrev cX4_kindOf : ByteArray := prog_6_method_3_code
def yX4_kindOf : MethodName := ⟨RX4, "kindOf", "(I)I"⟩
abbrev cX4_isValue : ByteArray := prog_6_method_4_code
def yX4_isValue : MethodName := ⟨RX4, "isValue", "(II)Z"⟩
abbrev cX4_isCondition : ByteArray := prog_6_method_5_code
def yX4_isCondition : MethodName := ⟨RX4, "isCondition", "(III)Z"⟩
abbrev cX4_greatestDepthWith : ByteArray := prog_6_method_6_code
def yX4_greatestDepthWith : MethodName := ⟨RX4, "greatestDepthWith", "(LAnimationController$Node;LAnimationController$Node;)I"⟩
def RX5 : String := "AnimationController$Node"
def TX5 : u_T := fun k => match k with
  | 0 => ("AnimationController$Node", "clip", "LAnimationController$Clip;", true)
  | 1 => ("AnimationController$Node", "parameter", "I", true)
  | 2 => ("AnimationController$Node", "children", "Ljava/util/ArrayList;", true)
  | 3 => ("AnimationController$Node", "positions", "[I", true)
  | _ => ("AnimationController$Node", "depth", "I", false)
def tyX5 : Nat → FieldType := fun k => match k with
  | 0 => .object "AnimationController$Clip"
  | 1 => .int
  | 2 => .object "java/util/ArrayList"
  | 3 => .array .int
  | _ => .int
abbrev wsX50 : List Cond := u_ws RX5 TX5 5
theorem nmX5 : ∀ a, a < 5 → ∀ b, b < 5 → a ≠ b → (TX5 a).2.1 ≠ (TX5 b).2.1 := by decide +kernel
theorem tyX5_ok : ∀ k, k < 5 → parseFieldDescriptor (TX5 k).2.2.1 = some (tyX5 k) := by decide +kernel
abbrev cX5_init : ByteArray := prog_7_method_1_code
def yX5_init : MethodName := ⟨RX5, "<init>", "(LAnimationController$Clip;I)V"⟩
abbrev cX5_isLine : ByteArray := prog_7_method_2_code
def yX5_isLine : MethodName := ⟨RX5, "isLine", "()Z"⟩
abbrev cX5_isComplete : ByteArray := prog_7_method_3_code
def yX5_isComplete : MethodName := ⟨RX5, "isComplete", "()Z"⟩
abbrev cX5_positionOf : ByteArray := prog_7_method_4_code
def yX5_positionOf : MethodName := ⟨RX5, "positionOf", "(I)I"⟩
abbrev cX5_hasPosition : ByteArray := prog_7_method_5_code
def yX5_hasPosition : MethodName := ⟨RX5, "hasPosition", "(I)Z"⟩
abbrev cX5_insertChild : ByteArray := prog_7_method_6_code
def yX5_insertChild : MethodName := ⟨RX5, "insertChild", "(LAnimationController$Node;I)V"⟩
abbrev cX5_depthByChildren : ByteArray := prog_7_method_7_code
def yX5_depthByChildren : MethodName := ⟨RX5, "depthByChildren", "()I"⟩
def RX6 : String := "AnimationController$Pose"
def TX6 : u_T := fun k => match k with
  | 0 => ("AnimationController$Pose", "clips", "[I", true)
  | 1 => ("AnimationController$Pose", "times", "[I", true)
  | 2 => ("AnimationController$Pose", "weights", "[I", true)
  | _ => ("AnimationController$Pose", "size", "I", false)
def tyX6 : Nat → FieldType := fun k => match k with
  | 0 => .array .int
  | 1 => .array .int
  | 2 => .array .int
  | _ => .int
abbrev wsX60 : List Cond := u_ws RX6 TX6 4
theorem nmX6 : ∀ a, a < 4 → ∀ b, b < 4 → a ≠ b → (TX6 a).2.1 ≠ (TX6 b).2.1 := by decide +kernel
theorem tyX6_ok : ∀ k, k < 4 → parseFieldDescriptor (TX6 k).2.2.1 = some (tyX6 k) := by decide +kernel
abbrev cX6_init : ByteArray := prog_8_method_1_code
def yX6_init : MethodName := ⟨RX6, "<init>", "()V"⟩
abbrev cX6_copyFrom : ByteArray := prog_8_method_2_code
def yX6_copyFrom : MethodName := ⟨RX6, "copyFrom", "(LAnimationController$Pose;)V"⟩
abbrev cX6_addEntry : ByteArray := prog_8_method_3_code
def yX6_addEntry : MethodName := ⟨RX6, "addEntry", "(III)V"⟩
abbrev cX6_isBefore : ByteArray := prog_8_method_4_code
def yX6_isBefore : MethodName := ⟨RX6, "isBefore", "(III)Z"⟩
abbrev cX6_addFrozen : ByteArray := prog_8_method_5_code
def yX6_addFrozen : MethodName := ⟨RX6, "addFrozen", "(LAnimationController$Pose;I)V"⟩
def RX7 : String := "AnimationController$State"
def TX7 : u_T := fun k => match k with
  | 0 => ("AnimationController$State", "number", "I", true)
  | 1 => ("AnimationController$State", "motion", "LAnimationController$Node;", true)
  | 2 => ("AnimationController$State", "speed", "I", true)
  | 3 => ("AnimationController$State", "loops", "Z", true)
  | _ => ("AnimationController$State", "group", "I", true)
def tyX7 : Nat → FieldType := fun k => match k with
  | 0 => .int
  | 1 => .object "AnimationController$Node"
  | 2 => .int
  | 3 => .boolean
  | _ => .int
abbrev wsX70 : List Cond := u_ws RX7 TX7 5
theorem nmX7 : ∀ a, a < 5 → ∀ b, b < 5 → a ≠ b → (TX7 a).2.1 ≠ (TX7 b).2.1 := by decide +kernel
theorem tyX7_ok : ∀ k, k < 5 → parseFieldDescriptor (TX7 k).2.2.1 = some (tyX7 k) := by decide +kernel
abbrev cX7_init : ByteArray := prog_9_method_1_code
def yX7_init : MethodName := ⟨RX7, "<init>", "(ILAnimationController$Node;IZI)V"⟩
abbrev cX7_isSyncedWith : ByteArray := prog_9_method_2_code
def yX7_isSyncedWith : MethodName := ⟨RX7, "isSyncedWith", "(LAnimationController$State;)Z"⟩
def RX8 : String := "AnimationController$Track"
def TX8 : u_T := fun k => match k with
  | 0 => ("AnimationController$Track", "state", "LAnimationController$State;", false)
  | 1 => ("AnimationController$Track", "cycles", "J", false)
  | 2 => ("AnimationController$Track", "phase", "I", false)
  | 3 => ("AnimationController$Track", "fresh", "Z", false)
  | 4 => ("AnimationController$Track", "before", "J", false)
  | _ => ("AnimationController$Track", "wasFresh", "Z", false)
def tyX8 : Nat → FieldType := fun k => match k with
  | 0 => .object "AnimationController$State"
  | 1 => .long
  | 2 => .int
  | 3 => .boolean
  | 4 => .long
  | _ => .boolean
abbrev wsX80 : List Cond := u_ws RX8 TX8 6
theorem nmX8 : ∀ a, a < 6 → ∀ b, b < 6 → a ≠ b → (TX8 a).2.1 ≠ (TX8 b).2.1 := by decide +kernel
theorem tyX8_ok : ∀ k, k < 6 → parseFieldDescriptor (TX8 k).2.2.1 = some (tyX8 k) := by decide +kernel
abbrev cX8_init : ByteArray := prog_10_method_1_code
def yX8_init : MethodName := ⟨RX8, "<init>", "(LAnimationController$State;)V"⟩
abbrev cX8_begin : ByteArray := prog_10_method_2_code
def yX8_begin : MethodName := ⟨RX8, "begin", "(LAnimationController$State;I)V"⟩
abbrev cX8_copyFrom : ByteArray := prog_10_method_3_code
def yX8_copyFrom : MethodName := ⟨RX8, "copyFrom", "(LAnimationController$Track;)V"⟩
abbrev cX8_progressNow : ByteArray := prog_10_method_4_code
def yX8_progressNow : MethodName := ⟨RX8, "progressNow", "()J"⟩
abbrev cX8_advance : ByteArray := prog_10_method_5_code
def yX8_advance : MethodName := ⟨RX8, "advance", "(J)V"⟩
abbrev cX8_hasReached : ByteArray := prog_10_method_6_code
def yX8_hasReached : MethodName := ⟨RX8, "hasReached", "(J)Z"⟩
def RX9 : String := "AnimationController$Transition"
def TX9 : u_T := fun k => match k with
  | 0 => ("AnimationController$Transition", "number", "I", true)
  | 1 => ("AnimationController$Transition", "from", "LAnimationController$State;", false)
  | 2 => ("AnimationController$Transition", "to", "LAnimationController$State;", false)
  | 3 => ("AnimationController$Transition", "duration", "I", false)
  | 4 => ("AnimationController$Transition", "exit", "I", false)
  | 5 => ("AnimationController$Transition", "start", "I", false)
  | 6 => ("AnimationController$Transition", "mode", "I", false)
  | 7 => ("AnimationController$Transition", "ordered", "Z", false)
  | 8 => ("AnimationController$Transition", "parameters", "[I", true)
  | 9 => ("AnimationController$Transition", "operators", "[I", true)
  | 10 => ("AnimationController$Transition", "operands", "[I", true)
  | _ => ("AnimationController$Transition", "conditions", "I", false)
def tyX9 : Nat → FieldType := fun k => match k with
  | 0 => .int
  | 1 => .object "AnimationController$State"
  | 2 => .object "AnimationController$State"
  | 3 => .int
  | 4 => .int
  | 5 => .int
  | 6 => .int
  | 7 => .boolean
  | 8 => .array .int
  | 9 => .array .int
  | 10 => .array .int
  | _ => .int
abbrev wsX90 : List Cond := u_ws RX9 TX9 12
theorem nmX9 : ∀ a, a < 12 → ∀ b, b < 12 → a ≠ b → (TX9 a).2.1 ≠ (TX9 b).2.1 := by decide +kernel
theorem tyX9_ok : ∀ k, k < 12 → parseFieldDescriptor (TX9 k).2.2.1 = some (tyX9 k) := by decide +kernel
abbrev cX9_init : ByteArray := prog_11_method_1_code
def yX9_init : MethodName := ⟨RX9, "<init>", "(ILAnimationController$State;)V"⟩
abbrev cX9_begin : ByteArray := prog_11_method_2_code
def yX9_begin : MethodName := ⟨RX9, "begin", "(LAnimationController$State;LAnimationController$State;I)V"⟩
abbrev cX9_appendCondition : ByteArray := prog_11_method_4_code
def yX9_appendCondition : MethodName := ⟨RX9, "appendCondition", "(III)V"⟩
abbrev cX9_isListed : ByteArray := prog_11_method_5_code
def yX9_isListed : MethodName := ⟨RX9, "isListed", "(LAnimationController$State;LAnimationController$State;)Z"⟩
abbrev cX9_holds : ByteArray := prog_11_method_6_code
def yX9_holds : MethodName := ⟨RX9, "holds", "(II)Z"⟩
def RX10 : String := "AnimationController$TransitionText"
def TX10 : u_T := fun k => match k with
  | 0 => ("AnimationController$TransitionText", "model", "LAnimationController$Model;", true)
  | 1 => ("AnimationController$TransitionText", "bytes", "[I", true)
  | 2 => ("AnimationController$TransitionText", "length", "I", false)
  | 3 => ("AnimationController$TransitionText", "at", "I", false)
  | _ => ("AnimationController$TransitionText", "draft", "LAnimationController$Transition;", true)
def tyX10 : Nat → FieldType := fun k => match k with
  | 0 => .object "AnimationController$Model"
  | 1 => .array .int
  | 2 => .int
  | 3 => .int
  | _ => .object "AnimationController$Transition"
abbrev wsX100 : List Cond := u_ws RX10 TX10 5
theorem nmX10 : ∀ a, a < 5 → ∀ b, b < 5 → a ≠ b → (TX10 a).2.1 ≠ (TX10 b).2.1 := by decide +kernel
theorem tyX10_ok : ∀ k, k < 5 → parseFieldDescriptor (TX10 k).2.2.1 = some (tyX10 k) := by decide +kernel
abbrev cX10_init : ByteArray := prog_12_method_1_code
def yX10_init : MethodName := ⟨RX10, "<init>", "(LAnimationController$Model;)V"⟩
def RX11 : String := "AnimationController"
def TX11 : u_T := fun k => match k with
  | 0 => ("AnimationController", "model", "LAnimationController$Model;", true)
  | 1 => ("AnimationController", "text", "LAnimationController$TransitionText;", true)
  | 2 => ("AnimationController", "machine", "LAnimationController$Machine;", true)
  | 3 => ("AnimationController", "foretold", "LAnimationController$Machine;", true)
  | 4 => ("AnimationController", "images", "[LAnimationController$Machine;", true)
  | 5 => ("AnimationController", "isKept", "[Z", true)
  | _ => ("AnimationController", "distances", "[I", true)
def tyX11 : Nat → FieldType := fun k => match k with
  | 0 => .object "AnimationController$Model"
  | 1 => .object "AnimationController$TransitionText"
  | 2 => .object "AnimationController$Machine"
  | 3 => .object "AnimationController$Machine"
  | 4 => .array (.object "AnimationController$Machine")
  | 5 => .array .boolean
  | _ => .array .int
abbrev wsX110 : List Cond := u_ws RX11 TX11 7
theorem nmX11 : ∀ a, a < 7 → ∀ b, b < 7 → a ≠ b → (TX11 a).2.1 ≠ (TX11 b).2.1 := by decide +kernel
theorem tyX11_ok : ∀ k, k < 7 → parseFieldDescriptor (TX11 k).2.2.1 = some (tyX11 k) := by decide +kernel
abbrev cX11_init : ByteArray := prog_1_method_1_code
def yX11_init : MethodName := ⟨RX11, "<init>", "()V"⟩
abbrev cX11_addParameter : ByteArray := prog_1_method_2_code
def yX11_addParameter : MethodName := ⟨RX11, "addParameter", "(I)I"⟩
abbrev cX11_set : ByteArray := prog_1_method_3_code
def yX11_set : MethodName := ⟨RX11, "set", "(II)I"⟩
abbrev cX11_value : ByteArray := prog_1_method_4_code
def yX11_value : MethodName := ⟨RX11, "value", "(I)I"⟩
abbrev cX11_addClip : ByteArray := prog_1_method_5_code
def yX11_addClip : MethodName := ⟨RX11, "addClip", "(I)I"⟩
abbrev cX11_addEvent : ByteArray := prog_1_method_6_code
def yX11_addEvent : MethodName := ⟨RX11, "addEvent", "(III)I"⟩
abbrev cX11_addClipNode : ByteArray := prog_1_method_7_code
def yX11_addClipNode : MethodName := ⟨RX11, "addClipNode", "(I)I"⟩
abbrev cX11_addLine : ByteArray := prog_1_method_8_code
def yX11_addLine : MethodName := ⟨RX11, "addLine", "(I)I"⟩
abbrev cX11_addChild : ByteArray := prog_1_method_9_code
def yX11_addChild : MethodName := ⟨RX11, "addChild", "(III)I"⟩
abbrev cX11_addState : ByteArray := prog_1_method_10_code
def yX11_addState : MethodName := ⟨RX11, "addState", "(IIZI)I"⟩
abbrev cX11_addTransition : ByteArray := prog_1_method_11_code
def yX11_addTransition : MethodName := ⟨RX11, "addTransition", "(III)I"⟩
abbrev cX11_setTiming : ByteArray := prog_1_method_12_code
def yX11_setTiming : MethodName := ⟨RX11, "setTiming", "(III)I"⟩
abbrev cX11_setInterruption : ByteArray := prog_1_method_13_code
def yX11_setInterruption : MethodName := ⟨RX11, "setInterruption", "(IIZ)I"⟩
abbrev cX11_addCondition : ByteArray := prog_1_method_14_code
def yX11_addCondition : MethodName := ⟨RX11, "addCondition", "(IIII)I"⟩
abbrev cX11_tick : ByteArray := prog_1_method_20_code
def yX11_tick : MethodName := ⟨RX11, "tick", "(I)I"⟩
abbrev cX11_reset : ByteArray := prog_1_method_21_code
def yX11_reset : MethodName := ⟨RX11, "reset", "()I"⟩
abbrev cX11_state : ByteArray := prog_1_method_22_code
def yX11_state : MethodName := ⟨RX11, "state", "()I"⟩
abbrev cX11_target : ByteArray := prog_1_method_23_code
def yX11_target : MethodName := ⟨RX11, "target", "()I"⟩
abbrev cX11_transition : ByteArray := prog_1_method_24_code
def yX11_transition : MethodName := ⟨RX11, "transition", "()I"⟩
abbrev cX11_elapsed : ByteArray := prog_1_method_25_code
def yX11_elapsed : MethodName := ⟨RX11, "elapsed", "()I"⟩
abbrev cX11_isFrozen : ByteArray := prog_1_method_26_code
def yX11_isFrozen : MethodName := ⟨RX11, "isFrozen", "()Z"⟩
abbrev cX11_progress : ByteArray := prog_1_method_27_code
def yX11_progress : MethodName := ⟨RX11, "progress", "(Z)J"⟩
abbrev cX11_stateLength : ByteArray := prog_1_method_28_code
def yX11_stateLength : MethodName := ⟨RX11, "stateLength", "(I)I"⟩
abbrev cX11_partWeight : ByteArray := prog_1_method_29_code
def yX11_partWeight : MethodName := ⟨RX11, "partWeight", "(II)I"⟩
abbrev cX11_poseSize : ByteArray := prog_1_method_31_code
def yX11_poseSize : MethodName := ⟨RX11, "poseSize", "()I"⟩
abbrev cX11_poseClip : ByteArray := prog_1_method_32_code
def yX11_poseClip : MethodName := ⟨RX11, "poseClip", "(I)I"⟩
abbrev cX11_poseTime : ByteArray := prog_1_method_33_code
def yX11_poseTime : MethodName := ⟨RX11, "poseTime", "(I)I"⟩
abbrev cX11_poseWeight : ByteArray := prog_1_method_34_code
def yX11_poseWeight : MethodName := ⟨RX11, "poseWeight", "(I)I"⟩
abbrev cX11_fired : ByteArray := prog_1_method_35_code
def yX11_fired : MethodName := ⟨RX11, "fired", "()I"⟩
abbrev cX11_event : ByteArray := prog_1_method_36_code
def yX11_event : MethodName := ⟨RX11, "event", "(II)I"⟩
abbrev cX11_foretell : ByteArray := prog_1_method_37_code
def yX11_foretell : MethodName := ⟨RX11, "foretell", "(I)I"⟩
abbrev cX11_ticksTo : ByteArray := prog_1_method_38_code
def yX11_ticksTo : MethodName := ⟨RX11, "ticksTo", "(I)I"⟩
abbrev cX11_keep : ByteArray := prog_1_method_40_code
def yX11_keep : MethodName := ⟨RX11, "keep", "(I)I"⟩
abbrev cX11_restore : ByteArray := prog_1_method_41_code
def yX11_restore : MethodName := ⟨RX11, "restore", "(I)I"⟩
abbrev cX11_count : ByteArray := prog_1_method_42_code
def yX11_count : MethodName := ⟨RX11, "count", "(I)I"⟩
abbrev cX11_requireParameter : ByteArray := prog_1_method_43_code
def yX11_requireParameter : MethodName := ⟨RX11, "requireParameter", "(I)V"⟩
abbrev cX11_requireRoomForNode : ByteArray := prog_1_method_44_code
def yX11_requireRoomForNode : MethodName := ⟨RX11, "requireRoomForNode", "()V"⟩
abbrev cX11_requireStates : ByteArray := prog_1_method_45_code
def yX11_requireStates : MethodName := ⟨RX11, "requireStates", "()V"⟩
abbrev cX11_requireTicks : ByteArray := prog_1_method_46_code
def yX11_requireTicks : MethodName := ⟨RX11, "requireTicks", "(I)V"⟩
abbrev cX11_requireSlot : ByteArray := prog_1_method_47_code
def yX11_requireSlot : MethodName := ⟨RX11, "requireSlot", "(I)V"⟩
abbrev cX11_clipAt : ByteArray := prog_1_method_48_code
def yX11_clipAt : MethodName := ⟨RX11, "clipAt", "(I)LAnimationController$Clip;"⟩
abbrev cX11_nodeAt : ByteArray := prog_1_method_49_code
def yX11_nodeAt : MethodName := ⟨RX11, "nodeAt", "(I)LAnimationController$Node;"⟩
abbrev cX11_stateAt : ByteArray := prog_1_method_50_code
def yX11_stateAt : MethodName := ⟨RX11, "stateAt", "(I)LAnimationController$State;"⟩
abbrev cX11_transitionAt : ByteArray := prog_1_method_51_code
def yX11_transitionAt : MethodName := ⟨RX11, "transitionAt", "(I)LAnimationController$Transition;"⟩
abbrev cX11_presentPose : ByteArray := prog_1_method_52_code
def yX11_presentPose : MethodName := ⟨RX11, "presentPose", "()LAnimationController$Pose;"⟩
def RX12 : String := "AnimationControllerModel"
def TX12 : u_T := fun k => match k with
  | _ => ("", "", "", false)
def tyX12 : Nat → FieldType := fun k => match k with
  | _ => .int
abbrev wsX120 : List Cond := u_ws RX12 TX12 0
theorem nmX12 : ∀ a, a < 0 → ∀ b, b < 0 → a ≠ b → (TX12 a).2.1 ≠ (TX12 b).2.1 := by decide +kernel
theorem tyX12_ok : ∀ k, k < 0 → parseFieldDescriptor (TX12 k).2.2.1 = some (tyX12 k) := by decide +kernel
def RJx145de : String := "java/io/Serializable"
def TJx145de : u_T := fun k => match k with
  | _ => ("", "", "", false)
def tyJx145de : Nat → FieldType := fun k => match k with
  | _ => .int
abbrev wsJx145de0 : List Cond := u_ws RJx145de TJx145de 0
theorem nmJx145de : ∀ a, a < 0 → ∀ b, b < 0 → a ≠ b → (TJx145de a).2.1 ≠ (TJx145de b).2.1 := by decide +kernel
theorem tyJx145de_ok : ∀ k, k < 0 → parseFieldDescriptor (TJx145de k).2.2.1 = some (tyJx145de k) := by decide +kernel
def RJ5 : String := "java/lang/AbstractStringBuilder"
def TJ5 : u_T := fun k => match k with
  | _ => ("", "", "", false)
def tyJ5 : Nat → FieldType := fun k => match k with
  | _ => .int
abbrev wsJ50 : List Cond := u_ws RJ5 TJ5 0
theorem nmJ5 : ∀ a, a < 0 → ∀ b, b < 0 → a ≠ b → (TJ5 a).2.1 ≠ (TJ5 b).2.1 := by decide +kernel
theorem tyJ5_ok : ∀ k, k < 0 → parseFieldDescriptor (TJ5 k).2.2.1 = some (tyJ5 k) := by decide +kernel
abbrev cJ5_init_d00df : ByteArray := prog_16_method_2_code
def yJ5_init_d00df : MethodName := ⟨RJ5, "<init>", "(I)V"⟩
abbrev cJ5_length_8abf5 : ByteArray := prog_16_method_6_code
def yJ5_length_8abf5 : MethodName := ⟨RJ5, "length", "()I"⟩
abbrev cJ5_ensureCapacityInternal_d00df : ByteArray := prog_16_method_9_code
def yJ5_ensureCapacityInternal_d00df : MethodName := ⟨RJ5, "ensureCapacityInternal", "(I)V"⟩
abbrev cJ5_newCapacity_0f7a4 : ByteArray := prog_16_method_10_code
def yJ5_newCapacity_0f7a4 : MethodName := ⟨RJ5, "newCapacity", "(I)I"⟩
abbrev cJ5_inflate_da8c8 : ByteArray := prog_16_method_11_code
def yJ5_inflate_da8c8 : MethodName := ⟨RJ5, "inflate", "()V"⟩
abbrev cJ5_append_cf1ce : ByteArray := prog_16_method_22_code
def yJ5_append_cf1ce : MethodName := ⟨RJ5, "append", "(Ljava/lang/String;)Ljava/lang/AbstractStringBuilder;"⟩
abbrev cJ5_appendNull_278bc : ByteArray := prog_16_method_26_code
def yJ5_appendNull_278bc : MethodName := ⟨RJ5, "appendNull", "()Ljava/lang/AbstractStringBuilder;"⟩
abbrev cJ5_append_c97b9 : ByteArray := prog_16_method_32_code
def yJ5_append_c97b9 : MethodName := ⟨RJ5, "append", "(I)Ljava/lang/AbstractStringBuilder;"⟩
abbrev cJ5_getValue_6d5f1 : ByteArray := prog_16_method_64_code
def yJ5_getValue_6d5f1 : MethodName := ⟨RJ5, "getValue", "()[B"⟩
abbrev cJ5_isLatin1_aae02 : ByteArray := prog_16_method_68_code
def yJ5_isLatin1_aae02 : MethodName := ⟨RJ5, "isLatin1", "()Z"⟩
abbrev cJ5_inflateIfNeededFor_a7421 : ByteArray := prog_16_method_71_code
def yJ5_inflateIfNeededFor_a7421 : MethodName := ⟨RJ5, "inflateIfNeededFor", "(Ljava/lang/String;)V"⟩
abbrev cJ5_putStringAt_47b60 : ByteArray := prog_16_method_73_code
def yJ5_putStringAt_47b60 : MethodName := ⟨RJ5, "putStringAt", "(ILjava/lang/String;)V"⟩
def RJx2cfe8 : String := "java/lang/Appendable"
def TJx2cfe8 : u_T := fun k => match k with
  | _ => ("", "", "", false)
def tyJx2cfe8 : Nat → FieldType := fun k => match k with
  | _ => .int
abbrev wsJx2cfe80 : List Cond := u_ws RJx2cfe8 TJx2cfe8 0
theorem nmJx2cfe8 : ∀ a, a < 0 → ∀ b, b < 0 → a ≠ b → (TJx2cfe8 a).2.1 ≠ (TJx2cfe8 b).2.1 := by decide +kernel
theorem tyJx2cfe8_ok : ∀ k, k < 0 → parseFieldDescriptor (TJx2cfe8 k).2.2.1 = some (tyJx2cfe8 k) := by decide +kernel
def RJx9f9b0 : String := "java/lang/CharSequence"
def TJx9f9b0 : u_T := fun k => match k with
  | _ => ("", "", "", false)
def tyJx9f9b0 : Nat → FieldType := fun k => match k with
  | _ => .int
abbrev wsJx9f9b00 : List Cond := u_ws RJx9f9b0 TJx9f9b0 0
theorem nmJx9f9b0 : ∀ a, a < 0 → ∀ b, b < 0 → a ≠ b → (TJx9f9b0 a).2.1 ≠ (TJx9f9b0 b).2.1 := by decide +kernel
theorem tyJx9f9b0_ok : ∀ k, k < 0 → parseFieldDescriptor (TJx9f9b0 k).2.2.1 = some (tyJx9f9b0 k) := by decide +kernel
def RJx8e188 : String := "java/lang/Cloneable"
def TJx8e188 : u_T := fun k => match k with
  | _ => ("", "", "", false)
def tyJx8e188 : Nat → FieldType := fun k => match k with
  | _ => .int
abbrev wsJx8e1880 : List Cond := u_ws RJx8e188 TJx8e188 0
theorem nmJx8e188 : ∀ a, a < 0 → ∀ b, b < 0 → a ≠ b → (TJx8e188 a).2.1 ≠ (TJx8e188 b).2.1 := by decide +kernel
theorem tyJx8e188_ok : ∀ k, k < 0 → parseFieldDescriptor (TJx8e188 k).2.2.1 = some (tyJx8e188 k) := by decide +kernel
def RJxb160c : String := "java/lang/Comparable"
def TJxb160c : u_T := fun k => match k with
  | _ => ("", "", "", false)
def tyJxb160c : Nat → FieldType := fun k => match k with
  | _ => .int
abbrev wsJxb160c0 : List Cond := u_ws RJxb160c TJxb160c 0
theorem nmJxb160c : ∀ a, a < 0 → ∀ b, b < 0 → a ≠ b → (TJxb160c a).2.1 ≠ (TJxb160c b).2.1 := by decide +kernel
theorem tyJxb160c_ok : ∀ k, k < 0 → parseFieldDescriptor (TJxb160c k).2.2.1 = some (tyJxb160c k) := by decide +kernel
def RJ6 : String := "java/lang/Integer"
def TJ6 : u_T := fun k => match k with
  | _ => ("", "", "", false)
def tyJ6 : Nat → FieldType := fun k => match k with
  | _ => .int
abbrev wsJ60 : List Cond := u_ws RJ6 TJ6 0
theorem nmJ6 : ∀ a, a < 0 → ∀ b, b < 0 → a ≠ b → (TJ6 a).2.1 ≠ (TJ6 b).2.1 := by decide +kernel
theorem tyJ6_ok : ∀ k, k < 0 → parseFieldDescriptor (TJ6 k).2.2.1 = some (tyJ6 k) := by decide +kernel
abbrev cJ6_getChars_ba4f3 : ByteArray := prog_25_method_12_code
def yJ6_getChars_ba4f3 : MethodName := ⟨RJ6, "getChars", "(II[B)I"⟩
abbrev cJ6_stringSize_0f7a4 : ByteArray := prog_25_method_13_code
def yJ6_stringSize_0f7a4 : MethodName := ⟨RJ6, "stringSize", "(I)I"⟩
def RJxab1ab : String := "java/lang/Iterable"
def TJxab1ab : u_T := fun k => match k with
  | _ => ("", "", "", false)
def tyJxab1ab : Nat → FieldType := fun k => match k with
  | _ => .int
abbrev wsJxab1ab0 : List Cond := u_ws RJxab1ab TJxab1ab 0
theorem nmJxab1ab : ∀ a, a < 0 → ∀ b, b < 0 → a ≠ b → (TJxab1ab a).2.1 ≠ (TJxab1ab b).2.1 := by decide +kernel
theorem tyJxab1ab_ok : ∀ k, k < 0 → parseFieldDescriptor (TJxab1ab k).2.2.1 = some (tyJxab1ab k) := by decide +kernel
def RJ9 : String := "java/lang/Math"
def TJ9 : u_T := fun k => match k with
  | _ => ("", "", "", false)
def tyJ9 : Nat → FieldType := fun k => match k with
  | _ => .int
abbrev wsJ90 : List Cond := u_ws RJ9 TJ9 0
theorem nmJ9 : ∀ a, a < 0 → ∀ b, b < 0 → a ≠ b → (TJ9 a).2.1 ≠ (TJ9 b).2.1 := by decide +kernel
theorem tyJ9_ok : ∀ k, k < 0 → parseFieldDescriptor (TJ9 k).2.2.1 = some (tyJ9 k) := by decide +kernel
abbrev cJ9_floorMod_7cf53 : ByteArray := prog_27_method_50_code
def yJ9_floorMod_7cf53 : MethodName := ⟨RJ9, "floorMod", "(II)I"⟩
abbrev cJ9_max_7cf53 : ByteArray := prog_27_method_65_code
def yJ9_max_7cf53 : MethodName := ⟨RJ9, "max", "(II)I"⟩
abbrev cJ9_max_f86c9 : ByteArray := prog_27_method_66_code
def yJ9_max_f86c9 : MethodName := ⟨RJ9, "max", "(JJ)J"⟩
abbrev cJ9_min_7cf53 : ByteArray := prog_27_method_69_code
def yJ9_min_7cf53 : MethodName := ⟨RJ9, "min", "(II)I"⟩
abbrev cJ9_min_f86c9 : ByteArray := prog_27_method_70_code
def yJ9_min_f86c9 : MethodName := ⟨RJ9, "min", "(JJ)J"⟩
def RJxd2413 : String := "java/lang/Number"
def TJxd2413 : u_T := fun k => match k with
  | _ => ("", "", "", false)
def tyJxd2413 : Nat → FieldType := fun k => match k with
  | _ => .int
abbrev wsJxd24130 : List Cond := u_ws RJxd2413 TJxd2413 0
theorem nmJxd2413 : ∀ a, a < 0 → ∀ b, b < 0 → a ≠ b → (TJxd2413 a).2.1 ≠ (TJxd2413 b).2.1 := by decide +kernel
theorem tyJxd2413_ok : ∀ k, k < 0 → parseFieldDescriptor (TJxd2413 k).2.2.1 = some (tyJxd2413 k) := by decide +kernel
def RJ0 : String := "java/lang/String"
def TJ0 : u_T := fun k => match k with
  | 0 => ("java/lang/String", "value", "[B", true)
  | 1 => ("java/lang/String", "coder", "B", true)
  | 2 => ("java/lang/String", "hash", "I", false)
  | _ => ("java/lang/String", "hashIsZero", "Z", false)
def tyJ0 : Nat → FieldType := fun k => match k with
  | 0 => .array .byte
  | 1 => .byte
  | 2 => .int
  | _ => .boolean
abbrev wsJ00 : List Cond := u_ws RJ0 TJ0 4
theorem nmJ0 : ∀ a, a < 4 → ∀ b, b < 4 → a ≠ b → (TJ0 a).2.1 ≠ (TJ0 b).2.1 := by decide +kernel
theorem tyJ0_ok : ∀ k, k < 4 → parseFieldDescriptor (TJ0 k).2.2.1 = some (tyJ0 k) := by decide +kernel
abbrev cJ0_init_81219 : ByteArray := prog_30_method_53_code
def yJ0_init_81219 : MethodName := ⟨RJ0, "<init>", "(Ljava/lang/StringBuilder;)V"⟩
abbrev cJ0_length_8abf5 : ByteArray := prog_30_method_54_code
def yJ0_length_8abf5 : MethodName := ⟨RJ0, "length", "()I"⟩
abbrev cJ0_getBytes_840e7 : ByteArray := prog_30_method_147_code
def yJ0_getBytes_840e7 : MethodName := ⟨RJ0, "getBytes", "([BIB)V"⟩
abbrev cJ0_init_db425 : ByteArray := prog_30_method_150_code
def yJ0_init_db425 : MethodName := ⟨RJ0, "<init>", "(Ljava/lang/AbstractStringBuilder;Ljava/lang/Void;)V"⟩
abbrev cJ0_coder_7d493 : ByteArray := prog_30_method_152_code
def yJ0_coder_7d493 : MethodName := ⟨RJ0, "coder", "()B"⟩
abbrev cJ0_checkBoundsOffCount_cabcc : ByteArray := prog_30_method_157_code
def yJ0_checkBoundsOffCount_cabcc : MethodName := ⟨RJ0, "checkBoundsOffCount", "(III)I"⟩
abbrev cJ0_checkBoundsBeginEnd_23922 : ByteArray := prog_30_method_158_code
def yJ0_checkBoundsBeginEnd_23922 : MethodName := ⟨RJ0, "checkBoundsBeginEnd", "(III)V"⟩
def RJ4 : String := "java/lang/StringBuilder"
def TJ4 : u_T := fun k => match k with
  | 0 => ("java/lang/AbstractStringBuilder", "value", "[B", false)
  | 1 => ("java/lang/AbstractStringBuilder", "coder", "B", false)
  | 2 => ("java/lang/AbstractStringBuilder", "maybeLatin1", "Z", false)
  | _ => ("java/lang/AbstractStringBuilder", "count", "I", false)
def tyJ4 : Nat → FieldType := fun k => match k with
  | 0 => .array .byte
  | 1 => .byte
  | 2 => .boolean
  | _ => .int
abbrev wsJ40 : List Cond := u_ws RJ4 TJ4 4
theorem nmJ4 : ∀ a, a < 4 → ∀ b, b < 4 → a ≠ b → (TJ4 a).2.1 ≠ (TJ4 b).2.1 := by decide +kernel
theorem tyJ4_ok : ∀ k, k < 4 → parseFieldDescriptor (TJ4 k).2.2.1 = some (tyJ4 k) := by decide +kernel
abbrev cJ4_init_da8c8 : ByteArray := prog_31_method_1_code
def yJ4_init_da8c8 : MethodName := ⟨RJ4, "<init>", "()V"⟩
abbrev cJ4_append_15ec4 : ByteArray := prog_31_method_7_code
def yJ4_append_15ec4 : MethodName := ⟨RJ4, "append", "(Ljava/lang/String;)Ljava/lang/StringBuilder;"⟩
abbrev cJ4_append_bf812 : ByteArray := prog_31_method_15_code
def yJ4_append_bf812 : MethodName := ⟨RJ4, "append", "(I)Ljava/lang/StringBuilder;"⟩
abbrev cJ4_toString_0e30d : ByteArray := prog_31_method_42_code
def yJ4_toString_0e30d : MethodName := ⟨RJ4, "toString", "()Ljava/lang/String;"⟩
abbrev cJ4_length_8abf5 : ByteArray := prog_31_method_93_code
def yJ4_length_8abf5 : MethodName := ⟨RJ4, "length", "()I"⟩
def RJ1 : String := "java/lang/StringLatin1"
def TJ1 : u_T := fun k => match k with
  | _ => ("", "", "", false)
def tyJ1 : Nat → FieldType := fun k => match k with
  | _ => .int
abbrev wsJ10 : List Cond := u_ws RJ1 TJ1 0
theorem nmJ1 : ∀ a, a < 0 → ∀ b, b < 0 → a ≠ b → (TJ1 a).2.1 ≠ (TJ1 b).2.1 := by decide +kernel
theorem tyJ1_ok : ∀ k, k < 0 → parseFieldDescriptor (TJ1 k).2.2.1 = some (tyJ1 k) := by decide +kernel
abbrev cJ1_inflate_0e8fd : ByteArray := prog_32_method_50_code
def yJ1_inflate_0e8fd : MethodName := ⟨RJ1, "inflate", "([BI[BII)V"⟩
def RJ2 : String := "java/lang/StringUTF16"
def TJ2 : u_T := fun k => match k with
  | _ => ("", "", "", false)
def tyJ2 : Nat → FieldType := fun k => match k with
  | _ => .int
abbrev wsJ20 : List Cond := u_ws RJ2 TJ2 0
theorem nmJ2 : ∀ a, a < 0 → ∀ b, b < 0 → a ≠ b → (TJ2 a).2.1 ≠ (TJ2 b).2.1 := by decide +kernel
theorem tyJ2_ok : ∀ k, k < 0 → parseFieldDescriptor (TJ2 k).2.2.1 = some (tyJ2 k) := by decide +kernel
abbrev cJ2_newBytesFor_77867 : ByteArray := prog_33_method_2_code
def yJ2_newBytesFor_77867 : MethodName := ⟨RJ2, "newBytesFor", "(I)[B"⟩
abbrev cJ2_newBytesLength_0f7a4 : ByteArray := prog_33_method_3_code
def yJ2_newBytesLength_0f7a4 : MethodName := ⟨RJ2, "newBytesLength", "(I)I"⟩
abbrev cJ2_putChar_b72d1 : ByteArray := prog_33_method_4_code
def yJ2_putChar_b72d1 : MethodName := ⟨RJ2, "putChar", "([BII)V"⟩
abbrev cJ2_getChar_3b067 : ByteArray := prog_33_method_5_code
def yJ2_getChar_3b067 : MethodName := ⟨RJ2, "getChar", "([BI)C"⟩
abbrev cJ2_length_9d52b : ByteArray := prog_33_method_6_code
def yJ2_length_9d52b : MethodName := ⟨RJ2, "length", "([B)I"⟩
abbrev cJ2_coderFromArrayLen_85cad : ByteArray := prog_33_method_15_code
def yJ2_coderFromArrayLen_85cad : MethodName := ⟨RJ2, "coderFromArrayLen", "([BI)B"⟩
abbrev cJ2_compress_39247 : ByteArray := prog_33_method_17_code
def yJ2_compress_39247 : MethodName := ⟨RJ2, "compress", "([BII)[B"⟩
abbrev cJ2_compress_5af95 : ByteArray := prog_33_method_22_code
def yJ2_compress_5af95 : MethodName := ⟨RJ2, "compress", "([BI[BII)I"⟩
abbrev cJ2_getChars_46870 : ByteArray := prog_33_method_77_code
def yJ2_getChars_46870 : MethodName := ⟨RJ2, "getChars", "(III[B)I"⟩
abbrev cJ2_putCharsAt_cd4e5 : ByteArray := prog_33_method_81_code
def yJ2_putCharsAt_cd4e5 : MethodName := ⟨RJ2, "putCharsAt", "([BICCCC)I"⟩
abbrev cJ2_inflate_0e8fd : ByteArray := prog_33_method_86_code
def yJ2_inflate_0e8fd : MethodName := ⟨RJ2, "inflate", "([BI[BII)V"⟩
abbrev cJ2_getChars_ba4f3 : ByteArray := prog_33_method_89_code
def yJ2_getChars_ba4f3 : MethodName := ⟨RJ2, "getChars", "(II[B)I"⟩
abbrev cJ2_checkBoundsBeginEnd_d044e : ByteArray := prog_33_method_93_code
def yJ2_checkBoundsBeginEnd_d044e : MethodName := ⟨RJ2, "checkBoundsBeginEnd", "(II[B)V"⟩
abbrev cJ2_checkBoundsOffCount_d044e : ByteArray := prog_33_method_94_code
def yJ2_checkBoundsOffCount_d044e : MethodName := ⟨RJ2, "checkBoundsOffCount", "(II[B)V"⟩
def RJ10 : String := "java/lang/System"
def TJ10 : u_T := fun k => match k with
  | _ => ("", "", "", false)
def tyJ10 : Nat → FieldType := fun k => match k with
  | _ => .int
abbrev wsJ100 : List Cond := u_ws RJ10 TJ10 0
theorem nmJ10 : ∀ a, a < 0 → ∀ b, b < 0 → a ≠ b → (TJ10 a).2.1 ≠ (TJ10 b).2.1 := by decide +kernel
theorem tyJ10_ok : ∀ k, k < 0 → parseFieldDescriptor (TJ10 k).2.2.1 = some (tyJ10 k) := by decide +kernel
def RJxfd54e : String := "java/lang/constant/Constable"
def TJxfd54e : u_T := fun k => match k with
  | _ => ("", "", "", false)
def tyJxfd54e : Nat → FieldType := fun k => match k with
  | _ => .int
abbrev wsJxfd54e0 : List Cond := u_ws RJxfd54e TJxfd54e 0
theorem nmJxfd54e : ∀ a, a < 0 → ∀ b, b < 0 → a ≠ b → (TJxfd54e a).2.1 ≠ (TJxfd54e b).2.1 := by decide +kernel
theorem tyJxfd54e_ok : ∀ k, k < 0 → parseFieldDescriptor (TJxfd54e k).2.2.1 = some (tyJxfd54e k) := by decide +kernel
def RJx3cf43 : String := "java/lang/constant/ConstantDesc"
def TJx3cf43 : u_T := fun k => match k with
  | _ => ("", "", "", false)
def tyJx3cf43 : Nat → FieldType := fun k => match k with
  | _ => .int
abbrev wsJx3cf430 : List Cond := u_ws RJx3cf43 TJx3cf43 0
theorem nmJx3cf43 : ∀ a, a < 0 → ∀ b, b < 0 → a ≠ b → (TJx3cf43 a).2.1 ≠ (TJx3cf43 b).2.1 := by decide +kernel
theorem tyJx3cf43_ok : ∀ k, k < 0 → parseFieldDescriptor (TJx3cf43 k).2.2.1 = some (tyJx3cf43 k) := by decide +kernel
def RJxa1e45 : String := "java/util/AbstractCollection"
def TJxa1e45 : u_T := fun k => match k with
  | _ => ("", "", "", false)
def tyJxa1e45 : Nat → FieldType := fun k => match k with
  | _ => .int
abbrev wsJxa1e450 : List Cond := u_ws RJxa1e45 TJxa1e45 0
theorem nmJxa1e45 : ∀ a, a < 0 → ∀ b, b < 0 → a ≠ b → (TJxa1e45 a).2.1 ≠ (TJxa1e45 b).2.1 := by decide +kernel
theorem tyJxa1e45_ok : ∀ k, k < 0 → parseFieldDescriptor (TJxa1e45 k).2.2.1 = some (tyJxa1e45 k) := by decide +kernel
abbrev cJxa1e45_init_da8c8 : ByteArray := prog_38_method_1_code
def yJxa1e45_init_da8c8 : MethodName := ⟨RJxa1e45, "<init>", "()V"⟩
def RJxc12de : String := "java/util/AbstractList"
def TJxc12de : u_T := fun k => match k with
  | _ => ("", "", "", false)
def tyJxc12de : Nat → FieldType := fun k => match k with
  | _ => .int
abbrev wsJxc12de0 : List Cond := u_ws RJxc12de TJxc12de 0
theorem nmJxc12de : ∀ a, a < 0 → ∀ b, b < 0 → a ≠ b → (TJxc12de a).2.1 ≠ (TJxc12de b).2.1 := by decide +kernel
theorem tyJxc12de_ok : ∀ k, k < 0 → parseFieldDescriptor (TJxc12de k).2.2.1 = some (tyJxc12de k) := by decide +kernel
abbrev cJxc12de_init_da8c8 : ByteArray := prog_39_method_1_code
def yJxc12de_init_da8c8 : MethodName := ⟨RJxc12de, "<init>", "()V"⟩
def RJx4a65c : String := "java/util/ArrayList"
def TJx4a65c : u_T := fun k => match k with
  | 0 => ("java/util/AbstractList", "modCount", "I", false)
  | 1 => ("java/util/ArrayList", "elementData", "[Ljava/lang/Object;", false)
  | _ => ("java/util/ArrayList", "size", "I", false)
def tyJx4a65c : Nat → FieldType := fun k => match k with
  | 0 => .int
  | 1 => .array (.object "java/lang/Object")
  | _ => .int
abbrev wsJx4a65c0 : List Cond := u_ws RJx4a65c TJx4a65c 3
theorem nmJx4a65c : ∀ a, a < 3 → ∀ b, b < 3 → a ≠ b → (TJx4a65c a).2.1 ≠ (TJx4a65c b).2.1 := by decide +kernel
theorem tyJx4a65c_ok : ∀ k, k < 3 → parseFieldDescriptor (TJx4a65c k).2.2.1 = some (tyJx4a65c k) := by decide +kernel
abbrev cJx4a65c_init_da8c8 : ByteArray := prog_40_method_2_code
def yJx4a65c_init_da8c8 : MethodName := ⟨RJx4a65c, "<init>", "()V"⟩
abbrev cJx4a65c_grow_92f84 : ByteArray := prog_40_method_6_code
def yJx4a65c_grow_92f84 : MethodName := ⟨RJx4a65c, "grow", "(I)[Ljava/lang/Object;"⟩
abbrev cJx4a65c_grow_d5877 : ByteArray := prog_40_method_7_code
def yJx4a65c_grow_d5877 : MethodName := ⟨RJx4a65c, "grow", "()[Ljava/lang/Object;"⟩
abbrev cJx4a65c_size_8abf5 : ByteArray := prog_40_method_8_code
def yJx4a65c_size_8abf5 : MethodName := ⟨RJx4a65c, "size", "()I"⟩
abbrev cJx4a65c_isEmpty_aae02 : ByteArray := prog_40_method_9_code
def yJx4a65c_isEmpty_aae02 : MethodName := ⟨RJx4a65c, "isEmpty", "()Z"⟩
abbrev cJx4a65c_elementData_915e3 : ByteArray := prog_40_method_18_code
def yJx4a65c_elementData_915e3 : MethodName := ⟨RJx4a65c, "elementData", "(I)Ljava/lang/Object;"⟩
abbrev cJx4a65c_get_915e3 : ByteArray := prog_40_method_20_code
def yJx4a65c_get_915e3 : MethodName := ⟨RJx4a65c, "get", "(I)Ljava/lang/Object;"⟩
abbrev cJx4a65c_add_72be8 : ByteArray := prog_40_method_24_code
def yJx4a65c_add_72be8 : MethodName := ⟨RJx4a65c, "add", "(Ljava/lang/Object;[Ljava/lang/Object;I)V"⟩
abbrev cJx4a65c_add_9ea2d : ByteArray := prog_40_method_25_code
def yJx4a65c_add_9ea2d : MethodName := ⟨RJx4a65c, "add", "(Ljava/lang/Object;)Z"⟩
abbrev cJx4a65c_add_7a177 : ByteArray := prog_40_method_26_code
def yJx4a65c_add_7a177 : MethodName := ⟨RJx4a65c, "add", "(ILjava/lang/Object;)V"⟩
abbrev cJx4a65c_rangeCheckForAdd_d00df : ByteArray := prog_40_method_45_code
def yJx4a65c_rangeCheckForAdd_d00df : MethodName := ⟨RJx4a65c, "rangeCheckForAdd", "(I)V"⟩
abbrev cJx4a65c_outOfBoundsMsg_b52d3 : ByteArray := prog_40_method_46_code
def yJx4a65c_outOfBoundsMsg_b52d3 : MethodName := ⟨RJx4a65c, "outOfBoundsMsg", "(I)Ljava/lang/String;"⟩
def RJ7 : String := "java/util/Arrays"
def TJ7 : u_T := fun k => match k with
  | _ => ("", "", "", false)
def tyJ7 : Nat → FieldType := fun k => match k with
  | _ => .int
abbrev wsJ70 : List Cond := u_ws RJ7 TJ7 0
theorem nmJ7 : ∀ a, a < 0 → ∀ b, b < 0 → a ≠ b → (TJ7 a).2.1 ≠ (TJ7 b).2.1 := by decide +kernel
theorem tyJ7_ok : ∀ k, k < 0 → parseFieldDescriptor (TJ7 k).2.2.1 = some (tyJ7 k) := by decide +kernel
abbrev cJ7_copyOf_1904c : ByteArray := prog_41_method_119_code
def yJ7_copyOf_1904c : MethodName := ⟨RJ7, "copyOf", "([Ljava/lang/Object;I)[Ljava/lang/Object;"⟩
abbrev cJ7_copyOf_6403c : ByteArray := prog_41_method_120_code
def yJ7_copyOf_6403c : MethodName := ⟨RJ7, "copyOf", "([Ljava/lang/Object;ILjava/lang/Class;)[Ljava/lang/Object;"⟩
abbrev cJ7_copyOf_9075b : ByteArray := prog_41_method_121_code
def yJ7_copyOf_9075b : MethodName := ⟨RJ7, "copyOf", "([BI)[B"⟩
abbrev cJ7_checkLength_df160 : ByteArray := prog_41_method_131_code
def yJ7_checkLength_df160 : MethodName := ⟨RJ7, "checkLength", "(II)V"⟩
abbrev cJ7_copyOfRange_39247 : ByteArray := prog_41_method_132_code
def yJ7_copyOfRange_39247 : MethodName := ⟨RJ7, "copyOfRange", "([BII)[B"⟩
abbrev cJ7_copyOfRangeByte_39247 : ByteArray := prog_41_method_133_code
def yJ7_copyOfRangeByte_39247 : MethodName := ⟨RJ7, "copyOfRangeByte", "([BII)[B"⟩
def RJx5ef63 : String := "java/util/Collection"
def TJx5ef63 : u_T := fun k => match k with
  | _ => ("", "", "", false)
def tyJx5ef63 : Nat → FieldType := fun k => match k with
  | _ => .int
abbrev wsJx5ef630 : List Cond := u_ws RJx5ef63 TJx5ef63 0
theorem nmJx5ef63 : ∀ a, a < 0 → ∀ b, b < 0 → a ≠ b → (TJx5ef63 a).2.1 ≠ (TJx5ef63 b).2.1 := by decide +kernel
theorem tyJx5ef63_ok : ∀ k, k < 0 → parseFieldDescriptor (TJx5ef63 k).2.2.1 = some (tyJx5ef63 k) := by decide +kernel
def RJxbd725 : String := "java/util/List"
def TJxbd725 : u_T := fun k => match k with
  | _ => ("", "", "", false)
def tyJxbd725 : Nat → FieldType := fun k => match k with
  | _ => .int
abbrev wsJxbd7250 : List Cond := u_ws RJxbd725 TJxbd725 0
theorem nmJxbd725 : ∀ a, a < 0 → ∀ b, b < 0 → a ≠ b → (TJxbd725 a).2.1 ≠ (TJxbd725 b).2.1 := by decide +kernel
theorem tyJxbd725_ok : ∀ k, k < 0 → parseFieldDescriptor (TJxbd725 k).2.2.1 = some (tyJxbd725 k) := by decide +kernel
def RJ15 : String := "java/util/Objects"
def TJ15 : u_T := fun k => match k with
  | _ => ("", "", "", false)
def tyJ15 : Nat → FieldType := fun k => match k with
  | _ => .int
abbrev wsJ150 : List Cond := u_ws RJ15 TJ15 0
theorem nmJ15 : ∀ a, a < 0 → ∀ b, b < 0 → a ≠ b → (TJ15 a).2.1 ≠ (TJ15 b).2.1 := by decide +kernel
theorem tyJ15_ok : ∀ k, k < 0 → parseFieldDescriptor (TJ15 k).2.2.1 = some (tyJ15 k) := by decide +kernel
abbrev cJ15_checkIndex_7cf53 : ByteArray := prog_44_method_17_code
def yJ15_checkIndex_7cf53 : MethodName := ⟨RJ15, "checkIndex", "(II)I"⟩
def RJxf0a74 : String := "java/util/RandomAccess"
def TJxf0a74 : u_T := fun k => match k with
  | _ => ("", "", "", false)
def tyJxf0a74 : Nat → FieldType := fun k => match k with
  | _ => .int
abbrev wsJxf0a740 : List Cond := u_ws RJxf0a74 TJxf0a74 0
theorem nmJxf0a74 : ∀ a, a < 0 → ∀ b, b < 0 → a ≠ b → (TJxf0a74 a).2.1 ≠ (TJxf0a74 b).2.1 := by decide +kernel
theorem tyJxf0a74_ok : ∀ k, k < 0 → parseFieldDescriptor (TJxf0a74 k).2.2.1 = some (tyJxf0a74 k) := by decide +kernel
def RJxa66e6 : String := "java/util/SequencedCollection"
def TJxa66e6 : u_T := fun k => match k with
  | _ => ("", "", "", false)
def tyJxa66e6 : Nat → FieldType := fun k => match k with
  | _ => .int
abbrev wsJxa66e60 : List Cond := u_ws RJxa66e6 TJxa66e6 0
theorem nmJxa66e6 : ∀ a, a < 0 → ∀ b, b < 0 → a ≠ b → (TJxa66e6 a).2.1 ≠ (TJxa66e6 b).2.1 := by decide +kernel
theorem tyJxa66e6_ok : ∀ k, k < 0 → parseFieldDescriptor (TJxa66e6 k).2.2.1 = some (tyJxa66e6 k) := by decide +kernel
def RJ8 : String := "jdk/internal/util/ArraysSupport"
def TJ8 : u_T := fun k => match k with
  | _ => ("", "", "", false)
def tyJ8 : Nat → FieldType := fun k => match k with
  | _ => .int
abbrev wsJ80 : List Cond := u_ws RJ8 TJ8 0
theorem nmJ8 : ∀ a, a < 0 → ∀ b, b < 0 → a ≠ b → (TJ8 a).2.1 ≠ (TJ8 b).2.1 := by decide +kernel
theorem tyJ8_ok : ∀ k, k < 0 → parseFieldDescriptor (TJ8 k).2.2.1 = some (tyJ8 k) := by decide +kernel
abbrev cJ8_newLength_cabcc : ByteArray := prog_47_method_27_code
def yJ8_newLength_cabcc : MethodName := ⟨RJ8, "newLength", "(III)I"⟩
abbrev cJ8_hugeLength_7cf53 : ByteArray := prog_47_method_28_code
def yJ8_hugeLength_7cf53 : MethodName := ⟨RJ8, "hugeLength", "(II)I"⟩
def RJ3 : String := "jdk/internal/util/Preconditions"
def TJ3 : u_T := fun k => match k with
  | _ => ("", "", "", false)
def tyJ3 : Nat → FieldType := fun k => match k with
  | _ => .int
abbrev wsJ30 : List Cond := u_ws RJ3 TJ3 0
theorem nmJ3 : ∀ a, a < 0 → ∀ b, b < 0 → a ≠ b → (TJ3 a).2.1 ≠ (TJ3 b).2.1 := by decide +kernel
theorem tyJ3_ok : ∀ k, k < 0 → parseFieldDescriptor (TJ3 k).2.2.1 = some (tyJ3 k) := by decide +kernel
abbrev cJ3_checkIndex_8e157 : ByteArray := prog_48_method_11_code
def yJ3_checkIndex_8e157 : MethodName := ⟨RJ3, "checkIndex", "(IILjava/util/function/BiFunction;)I"⟩
abbrev cJ3_checkFromToIndex_8c36e : ByteArray := prog_48_method_12_code
def yJ3_checkFromToIndex_8c36e : MethodName := ⟨RJ3, "checkFromToIndex", "(IIILjava/util/function/BiFunction;)I"⟩
abbrev cJ3_checkFromIndexSize_8c36e : ByteArray := prog_48_method_13_code
def yJ3_checkFromIndexSize_8c36e : MethodName := ⟨RJ3, "checkFromIndexSize", "(IIILjava/util/function/BiFunction;)I"⟩
def RL : String := "AnimationControllerLaw"
abbrev cL_cell : ByteArray := method_2_code
def yL_cell : MethodName := ⟨RL, "cell", "([II)I"⟩
abbrev cL_low : ByteArray := method_3_code
def yL_low : MethodName := ⟨RL, "low", "(II)I"⟩
abbrev cL_tick : ByteArray := method_4_code
def yL_tick : MethodName := ⟨RL, "tick", "(LAnimationController;I)I"⟩
abbrev cL_addState : ByteArray := method_5_code
def yL_addState : MethodName := ⟨RL, "addState", "(LAnimationController;II)I"⟩
abbrev cL_addTransition : ByteArray := method_6_code
def yL_addTransition : MethodName := ⟨RL, "addTransition", "(LAnimationController;III)I"⟩
abbrev cL_addChild : ByteArray := method_7_code
def yL_addChild : MethodName := ⟨RL, "addChild", "(LAnimationController;III)I"⟩
abbrev cL_builds : ByteArray := method_8_code
def yL_builds : MethodName := ⟨RL, "builds", "(LAnimationController;[I[I)V"⟩
abbrev cL_poseFits : ByteArray := method_9_code
def yL_poseFits : MethodName := ⟨RL, "poseFits", "(LAnimationController;[I)Z"⟩
abbrev cL_lengthsFit : ByteArray := method_10_code
def yL_lengthsFit : MethodName := ⟨RL, "lengthsFit", "(LAnimationController;[I)Z"⟩
abbrev cL_tale : ByteArray := method_11_code
def yL_tale : MethodName := ⟨RL, "tale", "(LAnimationController;)J"⟩
abbrev cL_place : ByteArray := method_12_code
def yL_place : MethodName := ⟨RL, "place", "(LAnimationController;)I"⟩
abbrev cL_law : ByteArray := code
def yL_law : MethodName := ⟨RL, "law", "([I)Z"⟩
abbrev vwCl : List vw_C := [(RJ0, TJ0, 4), (RJ4, TJ4, 4), (RJx4a65c, TJx4a65c, 3), (RX0, TX0, 1), (RX1, TX1, 5), (RX2, TX2, 2), (RX3, TX3, 13), (RX4, TX4, 8), (RX5, TX5, 5), (RX6, TX6, 4), (RX7, TX7, 5), (RX8, TX8, 6), (RX9, TX9, 12), (RX10, TX10, 5), (RX11, TX11, 7)]
