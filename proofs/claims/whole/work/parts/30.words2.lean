theorem kp_0 : Cond.selects "AnimationController$TransitionText" ⟨"AnimationController$TransitionText", "readTransition", "()Z"⟩ ⟨"AnimationController$TransitionText", "readTransition", "()Z"⟩ ∈ gW := gW_p 0 (by decide +kernel) rfl
theorem kp_1 : Cond.selects "AnimationController$TransitionText" ⟨"AnimationController$TransitionText", "nextByte", "()I"⟩ ⟨"AnimationController$TransitionText", "nextByte", "()I"⟩ ∈ gW := gW_p 1 (by decide +kernel) rfl
theorem kp_10 : Cond.selects "java/util/ArrayList" ⟨"java/util/ArrayList", "grow", "()[Ljava/lang/Object;"⟩ ⟨"java/util/ArrayList", "grow", "()[Ljava/lang/Object;"⟩ ∈ gW := gW_p 10 (by decide +kernel) rfl
theorem kp_11 : Cond.selects "java/util/ArrayList" ⟨"java/util/ArrayList", "grow", "(I)[Ljava/lang/Object;"⟩ ⟨"java/util/ArrayList", "grow", "(I)[Ljava/lang/Object;"⟩ ∈ gW := gW_p 11 (by decide +kernel) rfl
theorem kp_12 : Cond.selects "AnimationController$Machine" ⟨"AnimationController$Machine", "becomeIdle", "()V"⟩ ⟨"AnimationController$Machine", "becomeIdle", "()V"⟩ ∈ gW := gW_p 12 (by decide +kernel) rfl
theorem kp_13 : Cond.selects "AnimationController" ⟨"AnimationController", "presentPose", "()LAnimationController$Pose;"⟩ ⟨"AnimationController", "presentPose", "()LAnimationController$Pose;"⟩ ∈ gW := gW_p 13 (by decide +kernel) rfl
theorem kp_14 : Cond.selects "AnimationController$Machine" ⟨"AnimationController$Machine", "addTrackPose", "(LAnimationController$Track;I)V"⟩ ⟨"AnimationController$Machine", "addTrackPose", "(LAnimationController$Track;I)V"⟩ ∈ gW := gW_p 14 (by decide +kernel) rfl
theorem kp_15 : Cond.selects "AnimationController$Pose" ⟨"AnimationController$Pose", "isBefore", "(III)Z"⟩ ⟨"AnimationController$Pose", "isBefore", "(III)Z"⟩ ∈ gW := gW_p 15 (by decide +kernel) rfl
theorem kp_16 : Cond.selects "AnimationController$Machine" ⟨"AnimationController$Machine", "targetShare", "()I"⟩ ⟨"AnimationController$Machine", "targetShare", "()I"⟩ ∈ gW := gW_p 16 (by decide +kernel) rfl
theorem kp_18 : Cond.selects "AnimationController" ⟨"AnimationController", "requireParameter", "(I)V"⟩ ⟨"AnimationController", "requireParameter", "(I)V"⟩ ∈ gW := gW_p 18 (by decide +kernel) rfl
theorem kp_19 : Cond.selects "AnimationController" ⟨"AnimationController", "clipAt", "(I)LAnimationController$Clip;"⟩ ⟨"AnimationController", "clipAt", "(I)LAnimationController$Clip;"⟩ ∈ gW := gW_p 19 (by decide +kernel) rfl
theorem kp_2 : Cond.selects "AnimationController$TransitionText" ⟨"AnimationController$TransitionText", "stateOf", "(I)LAnimationController$State;"⟩ ⟨"AnimationController$TransitionText", "stateOf", "(I)LAnimationController$State;"⟩ ∈ gW := gW_p 2 (by decide +kernel) rfl
theorem kp_20 : Cond.selects "AnimationController" ⟨"AnimationController", "requireRoomForNode", "()V"⟩ ⟨"AnimationController", "requireRoomForNode", "()V"⟩ ∈ gW := gW_p 20 (by decide +kernel) rfl
theorem kp_21 : Cond.selects "AnimationController" ⟨"AnimationController", "nodeAt", "(I)LAnimationController$Node;"⟩ ⟨"AnimationController", "nodeAt", "(I)LAnimationController$Node;"⟩ ∈ gW := gW_p 21 (by decide +kernel) rfl
theorem kp_22 : Cond.selects "java/util/ArrayList" ⟨"java/util/ArrayList", "rangeCheckForAdd", "(I)V"⟩ ⟨"java/util/ArrayList", "rangeCheckForAdd", "(I)V"⟩ ∈ gW := gW_p 22 (by decide +kernel) rfl
theorem kp_24 : Cond.selects "AnimationController" ⟨"AnimationController", "stateAt", "(I)LAnimationController$State;"⟩ ⟨"AnimationController", "stateAt", "(I)LAnimationController$State;"⟩ ∈ gW := gW_p 24 (by decide +kernel) rfl
theorem kp_25 : Cond.selects "AnimationController" ⟨"AnimationController", "transitionAt", "(I)LAnimationController$Transition;"⟩ ⟨"AnimationController", "transitionAt", "(I)LAnimationController$Transition;"⟩ ∈ gW := gW_p 25 (by decide +kernel) rfl
theorem kp_26 : Cond.selects "AnimationController" ⟨"AnimationController", "requireTicks", "(I)V"⟩ ⟨"AnimationController", "requireTicks", "(I)V"⟩ ∈ gW := gW_p 26 (by decide +kernel) rfl
theorem kp_27 : Cond.selects "AnimationController" ⟨"AnimationController", "requireStates", "()V"⟩ ⟨"AnimationController", "requireStates", "()V"⟩ ∈ gW := gW_p 27 (by decide +kernel) rfl
theorem kp_28 : Cond.selects "AnimationController$Machine" ⟨"AnimationController$Machine", "firstPossible", "()LAnimationController$Transition;"⟩ ⟨"AnimationController$Machine", "firstPossible", "()LAnimationController$Transition;"⟩ ∈ gW := gW_p 28 (by decide +kernel) rfl
theorem kp_29 : Cond.selects "AnimationController$Machine" ⟨"AnimationController$Machine", "firstPossibleOf", "(I)LAnimationController$Transition;"⟩ ⟨"AnimationController$Machine", "firstPossibleOf", "(I)LAnimationController$Transition;"⟩ ∈ gW := gW_p 29 (by decide +kernel) rfl
theorem kp_3 : Cond.selects "AnimationController$TransitionText" ⟨"AnimationController$TransitionText", "readSign", "(I)Z"⟩ ⟨"AnimationController$TransitionText", "readSign", "(I)Z"⟩ ∈ gW := gW_p 3 (by decide +kernel) rfl
theorem kp_30 : Cond.selects "AnimationController$Machine" ⟨"AnimationController$Machine", "take", "(LAnimationController$Transition;)V"⟩ ⟨"AnimationController$Machine", "take", "(LAnimationController$Transition;)V"⟩ ∈ gW := gW_p 30 (by decide +kernel) rfl
theorem kp_31 : Cond.selects "AnimationController$Machine" ⟨"AnimationController$Machine", "clearTriggers", "(LAnimationController$Transition;)V"⟩ ⟨"AnimationController$Machine", "clearTriggers", "(LAnimationController$Transition;)V"⟩ ∈ gW := gW_p 31 (by decide +kernel) rfl
theorem kp_32 : Cond.selects "AnimationController$Machine" ⟨"AnimationController$Machine", "firstPhase", "(LAnimationController$Transition;)I"⟩ ⟨"AnimationController$Machine", "firstPhase", "(LAnimationController$Transition;)I"⟩ ∈ gW := gW_p 32 (by decide +kernel) rfl
theorem kp_33 : Cond.selects "AnimationController$Machine" ⟨"AnimationController$Machine", "advanceTracks", "()V"⟩ ⟨"AnimationController$Machine", "advanceTracks", "()V"⟩ ∈ gW := gW_p 33 (by decide +kernel) rfl
theorem kp_34 : Cond.selects "AnimationController$Machine" ⟨"AnimationController$Machine", "stepOf", "(LAnimationController$State;)J"⟩ ⟨"AnimationController$Machine", "stepOf", "(LAnimationController$State;)J"⟩ ∈ gW := gW_p 34 (by decide +kernel) rfl
theorem kp_35 : Cond.selects "AnimationController$Machine" ⟨"AnimationController$Machine", "commonStep", "()J"⟩ ⟨"AnimationController$Machine", "commonStep", "()J"⟩ ∈ gW := gW_p 35 (by decide +kernel) rfl
theorem kp_36 : Cond.selects "AnimationController$Machine" ⟨"AnimationController$Machine", "mixed", "(II)J"⟩ ⟨"AnimationController$Machine", "mixed", "(II)J"⟩ ∈ gW := gW_p 36 (by decide +kernel) rfl
theorem kp_37 : Cond.selects "AnimationController$Machine" ⟨"AnimationController$Machine", "fireEvents", "()V"⟩ ⟨"AnimationController$Machine", "fireEvents", "()V"⟩ ∈ gW := gW_p 37 (by decide +kernel) rfl
theorem kp_38 : Cond.selects "AnimationController$Machine" ⟨"AnimationController$Machine", "fireTrack", "(LAnimationController$Track;I)V"⟩ ⟨"AnimationController$Machine", "fireTrack", "(LAnimationController$Track;I)V"⟩ ∈ gW := gW_p 38 (by decide +kernel) rfl
theorem kp_39 : Cond.selects "AnimationController$Machine" ⟨"AnimationController$Machine", "fireClip", "(LAnimationController$Track;LAnimationController$Clip;)V"⟩ ⟨"AnimationController$Machine", "fireClip", "(LAnimationController$Track;LAnimationController$Clip;)V"⟩ ∈ gW := gW_p 39 (by decide +kernel) rfl
theorem kp_4 : Cond.selects "AnimationController$TransitionText" ⟨"AnimationController$TransitionText", "readNumber", "(I)I"⟩ ⟨"AnimationController$TransitionText", "readNumber", "(I)I"⟩ ∈ gW := gW_p 4 (by decide +kernel) rfl
theorem kp_40 : Cond.selects "AnimationController" ⟨"AnimationController", "setDistance", "(LAnimationController$State;I)V"⟩ ⟨"AnimationController", "setDistance", "(LAnimationController$State;I)V"⟩ ∈ gW := gW_p 40 (by decide +kernel) rfl
theorem kp_41 : Cond.selects "AnimationController" ⟨"AnimationController", "spreadFrom", "(I)V"⟩ ⟨"AnimationController", "spreadFrom", "(I)V"⟩ ∈ gW := gW_p 41 (by decide +kernel) rfl
theorem kp_42 : Cond.selects "AnimationController" ⟨"AnimationController", "distanceOf", "(LAnimationController$State;)I"⟩ ⟨"AnimationController", "distanceOf", "(LAnimationController$State;)I"⟩ ∈ gW := gW_p 42 (by decide +kernel) rfl
theorem kp_43 : Cond.selects "AnimationController" ⟨"AnimationController", "requireSlot", "(I)V"⟩ ⟨"AnimationController", "requireSlot", "(I)V"⟩ ∈ gW := gW_p 43 (by decide +kernel) rfl
theorem kp_5 : Cond.selects "AnimationController$TransitionText" ⟨"AnimationController$TransitionText", "readAttributes", "()Z"⟩ ⟨"AnimationController$TransitionText", "readAttributes", "()Z"⟩ ∈ gW := gW_p 5 (by decide +kernel) rfl
theorem kp_6 : Cond.selects "AnimationController$TransitionText" ⟨"AnimationController$TransitionText", "readAttribute", "(I)Z"⟩ ⟨"AnimationController$TransitionText", "readAttribute", "(I)Z"⟩ ∈ gW := gW_p 6 (by decide +kernel) rfl
theorem kp_7 : Cond.selects "AnimationController$TransitionText" ⟨"AnimationController$TransitionText", "readCondition", "()Z"⟩ ⟨"AnimationController$TransitionText", "readCondition", "()Z"⟩ ∈ gW := gW_p 7 (by decide +kernel) rfl
theorem kp_8 : Cond.selects "AnimationController$TransitionText" ⟨"AnimationController$TransitionText", "addDraft", "()V"⟩ ⟨"AnimationController$TransitionText", "addDraft", "()V"⟩ ∈ gW := gW_p 8 (by decide +kernel) rfl
theorem kp_9 : Cond.selects "java/util/ArrayList" ⟨"java/util/ArrayList", "add", "(Ljava/lang/Object;[Ljava/lang/Object;I)V"⟩ ⟨"java/util/ArrayList", "add", "(Ljava/lang/Object;[Ljava/lang/Object;I)V"⟩ ∈ gW := gW_p 9 (by decide +kernel) rfl
theorem ku_2158 : (Cond.castable "AnimationController$State" "java/lang/Object") ∈ gU := gU_n 2158 (by decide +kernel) rfl
theorem ku_2159 : (Cond.castable "AnimationController$Node" "java/lang/Object") ∈ gU := gU_n 2159 (by decide +kernel) rfl
theorem ku_2160 : (Cond.castable "AnimationController$Clip" "java/lang/Object") ∈ gU := gU_n 2160 (by decide +kernel) rfl
theorem ku_2162 : (Cond.castable "AnimationController$Transition" "java/lang/Object") ∈ gU := gU_n 2162 (by decide +kernel) rfl
theorem ku_2176 : (Cond.declares ({ cls := "java/lang/Object", name := "getClass", desc := "()Ljava/lang/Class;" } : MethodName)) ∈ gU := gU_n 2176 (by decide +kernel) rfl
theorem ku_306 : (Cond.methodLinkNest "AnimationController$Machine" (17 : Nat) ({ cls := "AnimationController$Pose", name := "<init>", desc := "()V" } : MethodName) "AnimationController") ∈ gU := gU_n 306 (by decide +kernel) rfl
theorem ku_330 : (Cond.methodLinkNest "AnimationController$Machine" (24 : Nat) ({ cls := "AnimationController$EventLog", name := "<init>", desc := "()V" } : MethodName) "AnimationController") ∈ gU := gU_n 330 (by decide +kernel) rfl
theorem ku_335 : (Cond.arrayOver (FieldType.array FieldType.int)) ∈ gU := gU_n 335 (by decide +kernel) rfl
theorem ku_347 : (Cond.methodLinkNest "AnimationController$Machine" (31 : Nat) ({ cls := "AnimationController$Blend", name := "<init>", desc := "()V" } : MethodName) "AnimationController") ∈ gU := gU_n 347 (by decide +kernel) rfl
theorem ku_433 : (Cond.arrayOver (FieldType.object "AnimationController$Machine")) ∈ gU := gU_n 433 (by decide +kernel) rfl
theorem ku_46 : (Cond.methodLinkNest "AnimationController" (11 : Nat) ({ cls := "AnimationController$Model", name := "<init>", desc := "()V" } : MethodName) "AnimationController") ∈ gU := gU_n 46 (by decide +kernel) rfl
theorem ku_607 : (Cond.arrayOver (FieldType.object "java/lang/Object")) ∈ gU := gU_n 607 (by decide +kernel) rfl
theorem kw_1 : (Cond.initialized "AnimationController") ∈ gW := gW_n 1 (by decide +kernel) rfl
theorem kw_10 : (Cond.initialized "AnimationController$Transition") ∈ gW := gW_n 10 (by decide +kernel) rfl
theorem kw_100 : (Cond.fieldLink "AnimationController$Machine" (300 : Nat) "AnimationController$Clip" "events" "I") ∈ gW := gW_n 100 (by decide +kernel) rfl
theorem kw_11 : (Cond.initialized "AnimationController$Machine") ∈ gW := gW_n 11 (by decide +kernel) rfl
theorem kw_112 : (Cond.methodLink "AnimationController$Model" (44 : Nat) ({ cls := "AnimationController$Node", name := "<init>", desc := "(LAnimationController$Clip;I)V" } : MethodName)) ∈ gW := gW_n 112 (by decide +kernel) rfl
theorem kw_113 : (Cond.instanceMethod ({ cls := "AnimationController$Node", name := "<init>", desc := "(LAnimationController$Clip;I)V" } : MethodName)) ∈ gW := gW_n 113 (by decide +kernel) rfl
theorem kw_114 : (Cond.code ({ cls := "AnimationController$Node", name := "<init>", desc := "(LAnimationController$Clip;I)V" } : MethodName) prog_7_method_1_code (3 : Nat) (Option.none : Option FieldType)) ∈ gW := gW_n 114 (by decide +kernel) rfl
theorem kw_115 : (Cond.methodLink "AnimationController$Node" (3 : Nat) ({ cls := "java/lang/Object", name := "<init>", desc := "()V" } : MethodName)) ∈ gW := gW_n 115 (by decide +kernel) rfl
theorem kw_116 : (Cond.classLink "AnimationController$Node" (9 : Nat) "java/util/ArrayList") ∈ gW := gW_n 116 (by decide +kernel) rfl
theorem kw_117 : (Cond.methodLink "AnimationController$Node" (11 : Nat) ({ cls := "java/util/ArrayList", name := "<init>", desc := "()V" } : MethodName)) ∈ gW := gW_n 117 (by decide +kernel) rfl
theorem kw_118 : (Cond.fieldLink "AnimationController$Node" (26 : Nat) "AnimationController$Node" "clip" "LAnimationController$Clip;") ∈ gW := gW_n 118 (by decide +kernel) rfl
theorem kw_119 : (Cond.fieldLink "AnimationController$Blend" (19 : Nat) "AnimationController$Node" "clip" "LAnimationController$Clip;") ∈ gW := gW_n 119 (by decide +kernel) rfl
theorem kw_12 : (Cond.initialized "AnimationController$Pose") ∈ gW := gW_n 12 (by decide +kernel) rfl
theorem kw_120 : (Cond.fieldLink "AnimationController$Node" (30 : Nat) "AnimationController$Node" "parameter" "I") ∈ gW := gW_n 120 (by decide +kernel) rfl
theorem kw_121 : (Cond.fieldLink "AnimationController$Blend" (31 : Nat) "AnimationController$Node" "parameter" "I") ∈ gW := gW_n 121 (by decide +kernel) rfl
theorem kw_122 : (Cond.fieldLink "AnimationController$Node" (12 : Nat) "AnimationController$Node" "children" "Ljava/util/ArrayList;") ∈ gW := gW_n 122 (by decide +kernel) rfl
theorem kw_1221 : (Cond.methodLink "java/util/ArrayList" (112 : Nat) ({ cls := "java/lang/System", name := "arraycopy", desc := "(Ljava/lang/Object;ILjava/lang/Object;II)V" } : MethodName)) ∈ gW := gW_n 1221 (by decide +kernel) rfl
theorem kw_123 : (Cond.fieldLink "AnimationController$Blend" (34 : Nat) "AnimationController$Node" "children" "Ljava/util/ArrayList;") ∈ gW := gW_n 123 (by decide +kernel) rfl
theorem kw_1231 : (Cond.methodLink "AnimationController" (180 : Nat) ({ cls := "AnimationController$State", name := "<init>", desc := "(ILAnimationController$Node;IZI)V" } : MethodName)) ∈ gW := gW_n 1231 (by decide +kernel) rfl
theorem kw_1239 : (Cond.methodLink "AnimationController" (190 : Nat) ({ cls := "AnimationController", name := "stateAt", desc := "(I)LAnimationController$State;" } : MethodName)) ∈ gW := gW_n 1239 (by decide +kernel) rfl
theorem kw_124 : (Cond.fieldLink "AnimationController" (149 : Nat) "AnimationController$Node" "children" "Ljava/util/ArrayList;") ∈ gW := gW_n 124 (by decide +kernel) rfl
theorem kw_1241 : (Cond.instanceMethod ({ cls := "AnimationController", name := "stateAt", desc := "(I)LAnimationController$State;" } : MethodName)) ∈ gW := gW_n 1241 (by decide +kernel) rfl
theorem kw_1242 : (Cond.code ({ cls := "AnimationController", name := "stateAt", desc := "(I)LAnimationController$State;" } : MethodName) prog_1_method_50_code (2 : Nat) (Option.some (FieldType.object "AnimationController$State"))) ∈ gW := gW_n 1242 (by decide +kernel) rfl
theorem kw_1246 : (Cond.classLink "AnimationController" (201 : Nat) "AnimationController$Transition") ∈ gW := gW_n 1246 (by decide +kernel) rfl
theorem kw_1247 : (Cond.methodLink "AnimationController" (203 : Nat) ({ cls := "AnimationController$Transition", name := "<init>", desc := "(ILAnimationController$State;)V" } : MethodName)) ∈ gW := gW_n 1247 (by decide +kernel) rfl
theorem kw_1248 : (Cond.methodLink "AnimationController" (206 : Nat) ({ cls := "AnimationController$Transition", name := "begin", desc := "(LAnimationController$State;LAnimationController$State;I)V" } : MethodName)) ∈ gW := gW_n 1248 (by decide +kernel) rfl
theorem kw_125 : (Cond.fieldLink "AnimationController$Node" (18 : Nat) "AnimationController$Node" "positions" "[I") ∈ gW := gW_n 125 (by decide +kernel) rfl
theorem kw_1256 : (Cond.methodLink "AnimationController" (211 : Nat) ({ cls := "AnimationController", name := "transitionAt", desc := "(I)LAnimationController$Transition;" } : MethodName)) ∈ gW := gW_n 1256 (by decide +kernel) rfl
theorem kw_1258 : (Cond.instanceMethod ({ cls := "AnimationController", name := "transitionAt", desc := "(I)LAnimationController$Transition;" } : MethodName)) ∈ gW := gW_n 1258 (by decide +kernel) rfl
theorem kw_1259 : (Cond.code ({ cls := "AnimationController", name := "transitionAt", desc := "(I)LAnimationController$Transition;" } : MethodName) prog_1_method_51_code (2 : Nat) (Option.some (FieldType.object "AnimationController$Transition"))) ∈ gW := gW_n 1259 (by decide +kernel) rfl
theorem kw_126 : (Cond.fieldLink "AnimationController$Node" (22 : Nat) "AnimationController$Node" "depth" "I") ∈ gW := gW_n 126 (by decide +kernel) rfl
theorem kw_127 : (Cond.fieldLink "AnimationController$Model" (76 : Nat) "AnimationController$Node" "depth" "I") ∈ gW := gW_n 127 (by decide +kernel) rfl
theorem kw_1278 : (Cond.methodLink "AnimationController" (238 : Nat) ({ cls := "AnimationController$Model", name := "isCondition", desc := "(III)Z" } : MethodName)) ∈ gW := gW_n 1278 (by decide +kernel) rfl
theorem kw_1279 : (Cond.instanceMethod ({ cls := "AnimationController$Model", name := "isCondition", desc := "(III)Z" } : MethodName)) ∈ gW := gW_n 1279 (by decide +kernel) rfl
theorem kw_1280 : (Cond.selects "AnimationController$Model" ({ cls := "AnimationController$Model", name := "isCondition", desc := "(III)Z" } : MethodName) ({ cls := "AnimationController$Model", name := "isCondition", desc := "(III)Z" } : MethodName)) ∈ gW := gW_n 1280 (by decide +kernel) rfl
theorem kw_1281 : (Cond.code ({ cls := "AnimationController$Model", name := "isCondition", desc := "(III)Z" } : MethodName) prog_6_method_5_code (4 : Nat) (Option.some FieldType.boolean)) ∈ gW := gW_n 1281 (by decide +kernel) rfl
theorem kw_1282 : (Cond.methodLink "AnimationController$Model" (61 : Nat) ({ cls := "AnimationController$Model", name := "isValue", desc := "(II)Z" } : MethodName)) ∈ gW := gW_n 1282 (by decide +kernel) rfl
theorem kw_1285 : (Cond.methodLink "AnimationController" (249 : Nat) ({ cls := "AnimationController$Transition", name := "appendCondition", desc := "(III)V" } : MethodName)) ∈ gW := gW_n 1285 (by decide +kernel) rfl
theorem kw_13 : (Cond.initialized "AnimationController$EventLog") ∈ gW := gW_n 13 (by decide +kernel) rfl
theorem kw_1318 : (Cond.methodLink "AnimationController" (272 : Nat) ({ cls := "AnimationController", name := "requireTicks", desc := "(I)V" } : MethodName)) ∈ gW := gW_n 1318 (by decide +kernel) rfl
theorem kw_1320 : (Cond.instanceMethod ({ cls := "AnimationController", name := "requireTicks", desc := "(I)V" } : MethodName)) ∈ gW := gW_n 1320 (by decide +kernel) rfl
theorem kw_1321 : (Cond.code ({ cls := "AnimationController", name := "requireTicks", desc := "(I)V" } : MethodName) prog_1_method_46_code (2 : Nat) (Option.none : Option FieldType)) ∈ gW := gW_n 1321 (by decide +kernel) rfl
theorem kw_1323 : (Cond.methodLink "AnimationController" (275 : Nat) ({ cls := "AnimationController", name := "requireStates", desc := "()V" } : MethodName)) ∈ gW := gW_n 1323 (by decide +kernel) rfl
theorem kw_1325 : (Cond.instanceMethod ({ cls := "AnimationController", name := "requireStates", desc := "()V" } : MethodName)) ∈ gW := gW_n 1325 (by decide +kernel) rfl
theorem kw_1326 : (Cond.code ({ cls := "AnimationController", name := "requireStates", desc := "()V" } : MethodName) prog_1_method_45_code (1 : Nat) (Option.none : Option FieldType)) ∈ gW := gW_n 1326 (by decide +kernel) rfl
theorem kw_1328 : (Cond.methodLink "AnimationController" (287 : Nat) ({ cls := "AnimationController$Machine", name := "runTick", desc := "()V" } : MethodName)) ∈ gW := gW_n 1328 (by decide +kernel) rfl
theorem kw_1329 : (Cond.instanceMethod ({ cls := "AnimationController$Machine", name := "runTick", desc := "()V" } : MethodName)) ∈ gW := gW_n 1329 (by decide +kernel) rfl
theorem kw_1330 : (Cond.selects "AnimationController$Machine" ({ cls := "AnimationController$Machine", name := "runTick", desc := "()V" } : MethodName) ({ cls := "AnimationController$Machine", name := "runTick", desc := "()V" } : MethodName)) ∈ gW := gW_n 1330 (by decide +kernel) rfl
theorem kw_1331 : (Cond.code ({ cls := "AnimationController$Machine", name := "runTick", desc := "()V" } : MethodName) prog_5_method_8_code (3 : Nat) (Option.none : Option FieldType)) ∈ gW := gW_n 1331 (by decide +kernel) rfl
theorem kw_1332 : (Cond.methodLink "AnimationController$Machine" (147 : Nat) ({ cls := "AnimationController$Machine", name := "firstPossible", desc := "()LAnimationController$Transition;" } : MethodName)) ∈ gW := gW_n 1332 (by decide +kernel) rfl
theorem kw_1334 : (Cond.instanceMethod ({ cls := "AnimationController$Machine", name := "firstPossible", desc := "()LAnimationController$Transition;" } : MethodName)) ∈ gW := gW_n 1334 (by decide +kernel) rfl
theorem kw_1335 : (Cond.code ({ cls := "AnimationController$Machine", name := "firstPossible", desc := "()LAnimationController$Transition;" } : MethodName) prog_5_method_9_code (3 : Nat) (Option.some (FieldType.object "AnimationController$Transition"))) ∈ gW := gW_n 1335 (by decide +kernel) rfl
theorem kw_1336 : (Cond.methodLink "AnimationController$Machine" (169 : Nat) ({ cls := "AnimationController$Machine", name := "firstPossibleOf", desc := "(I)LAnimationController$Transition;" } : MethodName)) ∈ gW := gW_n 1336 (by decide +kernel) rfl
theorem kw_1338 : (Cond.instanceMethod ({ cls := "AnimationController$Machine", name := "firstPossibleOf", desc := "(I)LAnimationController$Transition;" } : MethodName)) ∈ gW := gW_n 1338 (by decide +kernel) rfl
theorem kw_1339 : (Cond.code ({ cls := "AnimationController$Machine", name := "firstPossibleOf", desc := "(I)LAnimationController$Transition;" } : MethodName) prog_5_method_10_code (6 : Nat) (Option.some (FieldType.object "AnimationController$Transition"))) ∈ gW := gW_n 1339 (by decide +kernel) rfl
theorem kw_1340 : (Cond.classLink "AnimationController$Machine" (159 : Nat) "AnimationController$Transition") ∈ gW := gW_n 1340 (by decide +kernel) rfl
theorem kw_1341 : (Cond.methodLink "AnimationController$Machine" (179 : Nat) ({ cls := "AnimationController$Machine", name := "originOf", desc := "(LAnimationController$Transition;)I" } : MethodName)) ∈ gW := gW_n 1341 (by decide +kernel) rfl
theorem kw_1342 : (Cond.instanceMethod ({ cls := "AnimationController$Machine", name := "originOf", desc := "(LAnimationController$Transition;)I" } : MethodName)) ∈ gW := gW_n 1342 (by decide +kernel) rfl
theorem kw_1343 : (Cond.selects "AnimationController$Machine" ({ cls := "AnimationController$Machine", name := "originOf", desc := "(LAnimationController$Transition;)I" } : MethodName) ({ cls := "AnimationController$Machine", name := "originOf", desc := "(LAnimationController$Transition;)I" } : MethodName)) ∈ gW := gW_n 1343 (by decide +kernel) rfl
theorem kw_1344 : (Cond.code ({ cls := "AnimationController$Machine", name := "originOf", desc := "(LAnimationController$Transition;)I" } : MethodName) prog_5_method_11_code (5 : Nat) (Option.some FieldType.int)) ∈ gW := gW_n 1344 (by decide +kernel) rfl
theorem kw_1345 : (Cond.methodLink "AnimationController$Machine" (190 : Nat) ({ cls := "AnimationController$Transition", name := "isListed", desc := "(LAnimationController$State;LAnimationController$State;)Z" } : MethodName)) ∈ gW := gW_n 1345 (by decide +kernel) rfl
theorem kw_1346 : (Cond.instanceMethod ({ cls := "AnimationController$Transition", name := "isListed", desc := "(LAnimationController$State;LAnimationController$State;)Z" } : MethodName)) ∈ gW := gW_n 1346 (by decide +kernel) rfl
theorem kw_1347 : (Cond.selects "AnimationController$Transition" ({ cls := "AnimationController$Transition", name := "isListed", desc := "(LAnimationController$State;LAnimationController$State;)Z" } : MethodName) ({ cls := "AnimationController$Transition", name := "isListed", desc := "(LAnimationController$State;LAnimationController$State;)Z" } : MethodName)) ∈ gW := gW_n 1347 (by decide +kernel) rfl
theorem kw_1348 : (Cond.code ({ cls := "AnimationController$Transition", name := "isListed", desc := "(LAnimationController$State;LAnimationController$State;)Z" } : MethodName) prog_11_method_5_code (3 : Nat) (Option.some FieldType.boolean)) ∈ gW := gW_n 1348 (by decide +kernel) rfl
theorem kw_1349 : (Cond.methodLink "AnimationController$Machine" (183 : Nat) ({ cls := "AnimationController$Machine", name := "obstacleFrom", desc := "(ILAnimationController$Transition;)I" } : MethodName)) ∈ gW := gW_n 1349 (by decide +kernel) rfl
theorem kw_1350 : (Cond.instanceMethod ({ cls := "AnimationController$Machine", name := "obstacleFrom", desc := "(ILAnimationController$Transition;)I" } : MethodName)) ∈ gW := gW_n 1350 (by decide +kernel) rfl
theorem kw_1351 : (Cond.selects "AnimationController$Machine" ({ cls := "AnimationController$Machine", name := "obstacleFrom", desc := "(ILAnimationController$Transition;)I" } : MethodName) ({ cls := "AnimationController$Machine", name := "obstacleFrom", desc := "(ILAnimationController$Transition;)I" } : MethodName)) ∈ gW := gW_n 1351 (by decide +kernel) rfl
theorem kw_1352 : (Cond.code ({ cls := "AnimationController$Machine", name := "obstacleFrom", desc := "(ILAnimationController$Transition;)I" } : MethodName) prog_5_method_12_code (5 : Nat) (Option.some FieldType.int)) ∈ gW := gW_n 1352 (by decide +kernel) rfl
theorem kw_1353 : (Cond.methodLink "AnimationController$Machine" (203 : Nat) ({ cls := "AnimationController$Track", name := "progressNow", desc := "()J" } : MethodName)) ∈ gW := gW_n 1353 (by decide +kernel) rfl
theorem kw_1354 : (Cond.instanceMethod ({ cls := "AnimationController$Track", name := "progressNow", desc := "()J" } : MethodName)) ∈ gW := gW_n 1354 (by decide +kernel) rfl
theorem kw_1355 : (Cond.selects "AnimationController$Track" ({ cls := "AnimationController$Track", name := "progressNow", desc := "()J" } : MethodName) ({ cls := "AnimationController$Track", name := "progressNow", desc := "()J" } : MethodName)) ∈ gW := gW_n 1355 (by decide +kernel) rfl
theorem kw_1356 : (Cond.code ({ cls := "AnimationController$Track", name := "progressNow", desc := "()J" } : MethodName) prog_10_method_4_code (1 : Nat) (Option.some FieldType.long)) ∈ gW := gW_n 1356 (by decide +kernel) rfl
theorem kw_1357 : (Cond.constantLong "AnimationController$Track" (33 : Nat) (1000000 : Int64)) ∈ gW := gW_n 1357 (by decide +kernel) rfl
theorem kw_1358 : (Cond.constantLong "AnimationController$Machine" (207 : Nat) (10000 : Int64)) ∈ gW := gW_n 1358 (by decide +kernel) rfl
theorem kw_1359 : (Cond.methodLink "AnimationController$Machine" (215 : Nat) ({ cls := "AnimationController$Machine", name := "valueOf", desc := "(I)I" } : MethodName)) ∈ gW := gW_n 1359 (by decide +kernel) rfl
theorem kw_1360 : (Cond.methodLink "AnimationController$Machine" (218 : Nat) ({ cls := "AnimationController$Transition", name := "holds", desc := "(II)Z" } : MethodName)) ∈ gW := gW_n 1360 (by decide +kernel) rfl
theorem kw_1361 : (Cond.instanceMethod ({ cls := "AnimationController$Transition", name := "holds", desc := "(II)Z" } : MethodName)) ∈ gW := gW_n 1361 (by decide +kernel) rfl
theorem kw_1362 : (Cond.selects "AnimationController$Transition" ({ cls := "AnimationController$Transition", name := "holds", desc := "(II)Z" } : MethodName) ({ cls := "AnimationController$Transition", name := "holds", desc := "(II)Z" } : MethodName)) ∈ gW := gW_n 1362 (by decide +kernel) rfl
theorem kw_1363 : (Cond.code ({ cls := "AnimationController$Transition", name := "holds", desc := "(II)Z" } : MethodName) prog_11_method_6_code (4 : Nat) (Option.some FieldType.boolean)) ∈ gW := gW_n 1363 (by decide +kernel) rfl
theorem kw_1364 : (Cond.methodLink "AnimationController$Machine" (151 : Nat) ({ cls := "AnimationController$Machine", name := "take", desc := "(LAnimationController$Transition;)V" } : MethodName)) ∈ gW := gW_n 1364 (by decide +kernel) rfl
theorem kw_1366 : (Cond.instanceMethod ({ cls := "AnimationController$Machine", name := "take", desc := "(LAnimationController$Transition;)V" } : MethodName)) ∈ gW := gW_n 1366 (by decide +kernel) rfl
theorem kw_1367 : (Cond.code ({ cls := "AnimationController$Machine", name := "take", desc := "(LAnimationController$Transition;)V" } : MethodName) prog_5_method_13_code (3 : Nat) (Option.none : Option FieldType)) ∈ gW := gW_n 1367 (by decide +kernel) rfl
theorem kw_1368 : (Cond.methodLink "AnimationController$Machine" (222 : Nat) ({ cls := "AnimationController$Machine", name := "clearTriggers", desc := "(LAnimationController$Transition;)V" } : MethodName)) ∈ gW := gW_n 1368 (by decide +kernel) rfl
theorem kw_1370 : (Cond.instanceMethod ({ cls := "AnimationController$Machine", name := "clearTriggers", desc := "(LAnimationController$Transition;)V" } : MethodName)) ∈ gW := gW_n 1370 (by decide +kernel) rfl
theorem kw_1371 : (Cond.code ({ cls := "AnimationController$Machine", name := "clearTriggers", desc := "(LAnimationController$Transition;)V" } : MethodName) prog_5_method_14_code (3 : Nat) (Option.none : Option FieldType)) ∈ gW := gW_n 1371 (by decide +kernel) rfl
theorem kw_1372 : (Cond.methodLink "AnimationController$Machine" (234 : Nat) ({ cls := "AnimationController$Model", name := "kindOf", desc := "(I)I" } : MethodName)) ∈ gW := gW_n 1372 (by decide +kernel) rfl
theorem kw_1373 : (Cond.methodLink "AnimationController$Machine" (237 : Nat) ({ cls := "AnimationController$Machine", name := "setValue", desc := "(II)V" } : MethodName)) ∈ gW := gW_n 1373 (by decide +kernel) rfl
theorem kw_1374 : (Cond.methodLink "AnimationController$Machine" (225 : Nat) ({ cls := "AnimationController$Machine", name := "fillPose", desc := "()V" } : MethodName)) ∈ gW := gW_n 1374 (by decide +kernel) rfl
theorem kw_1375 : (Cond.methodLink "AnimationController$Machine" (83 : Nat) ({ cls := "AnimationController$Pose", name := "copyFrom", desc := "(LAnimationController$Pose;)V" } : MethodName)) ∈ gW := gW_n 1375 (by decide +kernel) rfl
theorem kw_1376 : (Cond.instanceMethod ({ cls := "AnimationController$Pose", name := "copyFrom", desc := "(LAnimationController$Pose;)V" } : MethodName)) ∈ gW := gW_n 1376 (by decide +kernel) rfl
theorem kw_1377 : (Cond.selects "AnimationController$Pose" ({ cls := "AnimationController$Pose", name := "copyFrom", desc := "(LAnimationController$Pose;)V" } : MethodName) ({ cls := "AnimationController$Pose", name := "copyFrom", desc := "(LAnimationController$Pose;)V" } : MethodName)) ∈ gW := gW_n 1377 (by decide +kernel) rfl
theorem kw_1378 : (Cond.code ({ cls := "AnimationController$Pose", name := "copyFrom", desc := "(LAnimationController$Pose;)V" } : MethodName) prog_8_method_2_code (2 : Nat) (Option.none : Option FieldType)) ∈ gW := gW_n 1378 (by decide +kernel) rfl
theorem kw_1379 : (Cond.methodLink "AnimationController$Pose" (25 : Nat) ({ cls := "java/lang/System", name := "arraycopy", desc := "(Ljava/lang/Object;ILjava/lang/Object;II)V" } : MethodName)) ∈ gW := gW_n 1379 (by decide +kernel) rfl
theorem kw_1380 : (Cond.methodLink "AnimationController$Machine" (231 : Nat) ({ cls := "AnimationController$Machine", name := "firstPhase", desc := "(LAnimationController$Transition;)I" } : MethodName)) ∈ gW := gW_n 1380 (by decide +kernel) rfl
theorem kw_1382 : (Cond.instanceMethod ({ cls := "AnimationController$Machine", name := "firstPhase", desc := "(LAnimationController$Transition;)I" } : MethodName)) ∈ gW := gW_n 1382 (by decide +kernel) rfl
theorem kw_1383 : (Cond.code ({ cls := "AnimationController$Machine", name := "firstPhase", desc := "(LAnimationController$Transition;)I" } : MethodName) prog_5_method_15_code (2 : Nat) (Option.some FieldType.int)) ∈ gW := gW_n 1383 (by decide +kernel) rfl
theorem kw_1384 : (Cond.methodLink "AnimationController$Machine" (241 : Nat) ({ cls := "AnimationController$State", name := "isSyncedWith", desc := "(LAnimationController$State;)Z" } : MethodName)) ∈ gW := gW_n 1384 (by decide +kernel) rfl
theorem kw_1385 : (Cond.instanceMethod ({ cls := "AnimationController$State", name := "isSyncedWith", desc := "(LAnimationController$State;)Z" } : MethodName)) ∈ gW := gW_n 1385 (by decide +kernel) rfl
theorem kw_1386 : (Cond.selects "AnimationController$State" ({ cls := "AnimationController$State", name := "isSyncedWith", desc := "(LAnimationController$State;)Z" } : MethodName) ({ cls := "AnimationController$State", name := "isSyncedWith", desc := "(LAnimationController$State;)Z" } : MethodName)) ∈ gW := gW_n 1386 (by decide +kernel) rfl
theorem kw_1387 : (Cond.code ({ cls := "AnimationController$State", name := "isSyncedWith", desc := "(LAnimationController$State;)Z" } : MethodName) prog_9_method_2_code (2 : Nat) (Option.some FieldType.boolean)) ∈ gW := gW_n 1387 (by decide +kernel) rfl
theorem kw_1388 : (Cond.constant "AnimationController$Machine" (254 : Nat) (999999 : Int32)) ∈ gW := gW_n 1388 (by decide +kernel) rfl
theorem kw_1389 : (Cond.methodLink "AnimationController$Machine" (255 : Nat) ({ cls := "java/lang/Math", name := "min", desc := "(II)I" } : MethodName)) ∈ gW := gW_n 1389 (by decide +kernel) rfl
theorem kw_139 : (Cond.methodLink "AnimationController$Model" (47 : Nat) ({ cls := "AnimationController$State", name := "<init>", desc := "(ILAnimationController$Node;IZI)V" } : MethodName)) ∈ gW := gW_n 139 (by decide +kernel) rfl
theorem kw_1390 : (Cond.methodLink "AnimationController$Machine" (155 : Nat) ({ cls := "AnimationController$Machine", name := "advanceTracks", desc := "()V" } : MethodName)) ∈ gW := gW_n 1390 (by decide +kernel) rfl
theorem kw_1392 : (Cond.instanceMethod ({ cls := "AnimationController$Machine", name := "advanceTracks", desc := "()V" } : MethodName)) ∈ gW := gW_n 1392 (by decide +kernel) rfl
theorem kw_1393 : (Cond.code ({ cls := "AnimationController$Machine", name := "advanceTracks", desc := "()V" } : MethodName) prog_5_method_18_code (3 : Nat) (Option.none : Option FieldType)) ∈ gW := gW_n 1393 (by decide +kernel) rfl
theorem kw_1394 : (Cond.methodLink "AnimationController$Machine" (259 : Nat) ({ cls := "AnimationController$Machine", name := "stepOf", desc := "(LAnimationController$State;)J" } : MethodName)) ∈ gW := gW_n 1394 (by decide +kernel) rfl
theorem kw_1396 : (Cond.instanceMethod ({ cls := "AnimationController$Machine", name := "stepOf", desc := "(LAnimationController$State;)J" } : MethodName)) ∈ gW := gW_n 1396 (by decide +kernel) rfl
theorem kw_1397 : (Cond.code ({ cls := "AnimationController$Machine", name := "stepOf", desc := "(LAnimationController$State;)J" } : MethodName) prog_5_method_19_code (2 : Nat) (Option.some FieldType.long)) ∈ gW := gW_n 1397 (by decide +kernel) rfl
theorem kw_1398 : (Cond.methodLink "AnimationController$Machine" (273 : Nat) ({ cls := "AnimationController$Machine", name := "lengthOf", desc := "(LAnimationController$State;)I" } : MethodName)) ∈ gW := gW_n 1398 (by decide +kernel) rfl
theorem kw_1399 : (Cond.instanceMethod ({ cls := "AnimationController$Machine", name := "lengthOf", desc := "(LAnimationController$State;)I" } : MethodName)) ∈ gW := gW_n 1399 (by decide +kernel) rfl
theorem kw_14 : (Cond.initialized "AnimationController$Blend") ∈ gW := gW_n 14 (by decide +kernel) rfl
theorem kw_140 : (Cond.instanceMethod ({ cls := "AnimationController$State", name := "<init>", desc := "(ILAnimationController$Node;IZI)V" } : MethodName)) ∈ gW := gW_n 140 (by decide +kernel) rfl
theorem kw_1400 : (Cond.selects "AnimationController$Machine" ({ cls := "AnimationController$Machine", name := "lengthOf", desc := "(LAnimationController$State;)I" } : MethodName) ({ cls := "AnimationController$Machine", name := "lengthOf", desc := "(LAnimationController$State;)I" } : MethodName)) ∈ gW := gW_n 1400 (by decide +kernel) rfl
theorem kw_1401 : (Cond.code ({ cls := "AnimationController$Machine", name := "lengthOf", desc := "(LAnimationController$State;)I" } : MethodName) prog_5_method_7_code (5 : Nat) (Option.some FieldType.int)) ∈ gW := gW_n 1401 (by decide +kernel) rfl
theorem kw_1402 : (Cond.methodLink "AnimationController$Machine" (141 : Nat) ({ cls := "java/lang/Math", name := "max", desc := "(JJ)J" } : MethodName)) ∈ gW := gW_n 1402 (by decide +kernel) rfl
theorem kw_1403 : (Cond.static ({ cls := "java/lang/Math", name := "max", desc := "(JJ)J" } : MethodName)) ∈ gW := gW_n 1403 (by decide +kernel) rfl
theorem kw_1404 : (Cond.code ({ cls := "java/lang/Math", name := "max", desc := "(JJ)J" } : MethodName) prog_27_method_66_code (4 : Nat) (Option.some FieldType.long)) ∈ gW := gW_n 1404 (by decide +kernel) rfl
theorem kw_1405 : (Cond.methodLink "AnimationController$Machine" (277 : Nat) ({ cls := "AnimationController$Machine", name := "stepBy", desc := "(JJ)J" } : MethodName)) ∈ gW := gW_n 1405 (by decide +kernel) rfl
theorem kw_1406 : (Cond.static ({ cls := "AnimationController$Machine", name := "stepBy", desc := "(JJ)J" } : MethodName)) ∈ gW := gW_n 1406 (by decide +kernel) rfl
theorem kw_1407 : (Cond.code ({ cls := "AnimationController$Machine", name := "stepBy", desc := "(JJ)J" } : MethodName) prog_5_method_22_code (4 : Nat) (Option.some FieldType.long)) ∈ gW := gW_n 1407 (by decide +kernel) rfl
theorem kw_1408 : (Cond.constantLong "AnimationController$Machine" (287 : Nat) (100 : Int64)) ∈ gW := gW_n 1408 (by decide +kernel) rfl
theorem kw_1409 : (Cond.methodLink "AnimationController$Machine" (263 : Nat) ({ cls := "AnimationController$Track", name := "advance", desc := "(J)V" } : MethodName)) ∈ gW := gW_n 1409 (by decide +kernel) rfl
theorem kw_141 : (Cond.code ({ cls := "AnimationController$State", name := "<init>", desc := "(ILAnimationController$Node;IZI)V" } : MethodName) prog_9_method_1_code (6 : Nat) (Option.none : Option FieldType)) ∈ gW := gW_n 141 (by decide +kernel) rfl
theorem kw_1410 : (Cond.instanceMethod ({ cls := "AnimationController$Track", name := "advance", desc := "(J)V" } : MethodName)) ∈ gW := gW_n 1410 (by decide +kernel) rfl
theorem kw_1411 : (Cond.selects "AnimationController$Track" ({ cls := "AnimationController$Track", name := "advance", desc := "(J)V" } : MethodName) ({ cls := "AnimationController$Track", name := "advance", desc := "(J)V" } : MethodName)) ∈ gW := gW_n 1411 (by decide +kernel) rfl
theorem kw_1412 : (Cond.code ({ cls := "AnimationController$Track", name := "advance", desc := "(J)V" } : MethodName) prog_10_method_5_code (5 : Nat) (Option.none : Option FieldType)) ∈ gW := gW_n 1412 (by decide +kernel) rfl
theorem kw_1413 : (Cond.methodLink "AnimationController$Track" (35 : Nat) ({ cls := "AnimationController$Track", name := "progressNow", desc := "()J" } : MethodName)) ∈ gW := gW_n 1413 (by decide +kernel) rfl
theorem kw_1414 : (Cond.methodLink "AnimationController$Track" (44 : Nat) ({ cls := "java/lang/Math", name := "min", desc := "(JJ)J" } : MethodName)) ∈ gW := gW_n 1414 (by decide +kernel) rfl
theorem kw_1415 : (Cond.methodLink "AnimationController$Machine" (267 : Nat) ({ cls := "AnimationController$Machine", name := "commonStep", desc := "()J" } : MethodName)) ∈ gW := gW_n 1415 (by decide +kernel) rfl
theorem kw_1417 : (Cond.instanceMethod ({ cls := "AnimationController$Machine", name := "commonStep", desc := "()J" } : MethodName)) ∈ gW := gW_n 1417 (by decide +kernel) rfl
theorem kw_1418 : (Cond.code ({ cls := "AnimationController$Machine", name := "commonStep", desc := "()J" } : MethodName) prog_5_method_20_code (5 : Nat) (Option.some FieldType.long)) ∈ gW := gW_n 1418 (by decide +kernel) rfl
theorem kw_1419 : (Cond.methodLink "AnimationController$Machine" (280 : Nat) ({ cls := "AnimationController$Machine", name := "mixed", desc := "(II)J" } : MethodName)) ∈ gW := gW_n 1419 (by decide +kernel) rfl
theorem kw_142 : (Cond.methodLink "AnimationController$State" (1 : Nat) ({ cls := "java/lang/Object", name := "<init>", desc := "()V" } : MethodName)) ∈ gW := gW_n 142 (by decide +kernel) rfl
theorem kw_1421 : (Cond.instanceMethod ({ cls := "AnimationController$Machine", name := "mixed", desc := "(II)J" } : MethodName)) ∈ gW := gW_n 1421 (by decide +kernel) rfl
theorem kw_1422 : (Cond.code ({ cls := "AnimationController$Machine", name := "mixed", desc := "(II)J" } : MethodName) prog_5_method_21_code (5 : Nat) (Option.some FieldType.long)) ∈ gW := gW_n 1422 (by decide +kernel) rfl
theorem kw_1423 : (Cond.methodLink "AnimationController$Machine" (163 : Nat) ({ cls := "AnimationController$Machine", name := "fireEvents", desc := "()V" } : MethodName)) ∈ gW := gW_n 1423 (by decide +kernel) rfl
theorem kw_1425 : (Cond.instanceMethod ({ cls := "AnimationController$Machine", name := "fireEvents", desc := "()V" } : MethodName)) ∈ gW := gW_n 1425 (by decide +kernel) rfl
theorem kw_1426 : (Cond.code ({ cls := "AnimationController$Machine", name := "fireEvents", desc := "()V" } : MethodName) prog_5_method_23_code (2 : Nat) (Option.none : Option FieldType)) ∈ gW := gW_n 1426 (by decide +kernel) rfl
theorem kw_1427 : (Cond.methodLink "AnimationController$Machine" (289 : Nat) ({ cls := "AnimationController$Machine", name := "fireTrack", desc := "(LAnimationController$Track;I)V" } : MethodName)) ∈ gW := gW_n 1427 (by decide +kernel) rfl
theorem kw_1429 : (Cond.instanceMethod ({ cls := "AnimationController$Machine", name := "fireTrack", desc := "(LAnimationController$Track;I)V" } : MethodName)) ∈ gW := gW_n 1429 (by decide +kernel) rfl
theorem kw_143 : (Cond.fieldLink "AnimationController$State" (7 : Nat) "AnimationController$State" "number" "I") ∈ gW := gW_n 143 (by decide +kernel) rfl
theorem kw_1430 : (Cond.code ({ cls := "AnimationController$Machine", name := "fireTrack", desc := "(LAnimationController$Track;I)V" } : MethodName) prog_5_method_24_code (6 : Nat) (Option.none : Option FieldType)) ∈ gW := gW_n 1430 (by decide +kernel) rfl
theorem kw_1431 : (Cond.methodLink "AnimationController$Machine" (296 : Nat) ({ cls := "AnimationController$Machine", name := "fireClip", desc := "(LAnimationController$Track;LAnimationController$Clip;)V" } : MethodName)) ∈ gW := gW_n 1431 (by decide +kernel) rfl
theorem kw_1433 : (Cond.instanceMethod ({ cls := "AnimationController$Machine", name := "fireClip", desc := "(LAnimationController$Track;LAnimationController$Clip;)V" } : MethodName)) ∈ gW := gW_n 1433 (by decide +kernel) rfl
theorem kw_1434 : (Cond.code ({ cls := "AnimationController$Machine", name := "fireClip", desc := "(LAnimationController$Track;LAnimationController$Clip;)V" } : MethodName) prog_5_method_25_code (6 : Nat) (Option.none : Option FieldType)) ∈ gW := gW_n 1434 (by decide +kernel) rfl
theorem kw_1435 : (Cond.methodLink "AnimationController$Machine" (306 : Nat) ({ cls := "AnimationController$Track", name := "hasReached", desc := "(J)Z" } : MethodName)) ∈ gW := gW_n 1435 (by decide +kernel) rfl
theorem kw_1436 : (Cond.instanceMethod ({ cls := "AnimationController$Track", name := "hasReached", desc := "(J)Z" } : MethodName)) ∈ gW := gW_n 1436 (by decide +kernel) rfl
theorem kw_1437 : (Cond.selects "AnimationController$Track" ({ cls := "AnimationController$Track", name := "hasReached", desc := "(J)Z" } : MethodName) ({ cls := "AnimationController$Track", name := "hasReached", desc := "(J)Z" } : MethodName)) ∈ gW := gW_n 1437 (by decide +kernel) rfl
theorem kw_1438 : (Cond.code ({ cls := "AnimationController$Track", name := "hasReached", desc := "(J)Z" } : MethodName) prog_10_method_6_code (7 : Nat) (Option.some FieldType.boolean)) ∈ gW := gW_n 1438 (by decide +kernel) rfl
theorem kw_1439 : (Cond.methodLink "AnimationController$Machine" (315 : Nat) ({ cls := "AnimationController$EventLog", name := "append", desc := "(IIII)V" } : MethodName)) ∈ gW := gW_n 1439 (by decide +kernel) rfl
theorem kw_144 : (Cond.fieldLink "AnimationController" (187 : Nat) "AnimationController$State" "number" "I") ∈ gW := gW_n 144 (by decide +kernel) rfl
theorem kw_1440 : (Cond.instanceMethod ({ cls := "AnimationController$EventLog", name := "append", desc := "(IIII)V" } : MethodName)) ∈ gW := gW_n 1440 (by decide +kernel) rfl
theorem kw_1441 : (Cond.selects "AnimationController$EventLog" ({ cls := "AnimationController$EventLog", name := "append", desc := "(IIII)V" } : MethodName) ({ cls := "AnimationController$EventLog", name := "append", desc := "(IIII)V" } : MethodName)) ∈ gW := gW_n 1441 (by decide +kernel) rfl
theorem kw_1442 : (Cond.code ({ cls := "AnimationController$EventLog", name := "append", desc := "(IIII)V" } : MethodName) prog_4_method_2_code (6 : Nat) (Option.none : Option FieldType)) ∈ gW := gW_n 1442 (by decide +kernel) rfl
theorem kw_1443 : (Cond.methodLink "AnimationController$EventLog" (20 : Nat) ({ cls := "AnimationController$EventLog", name := "placeOf", desc := "(I)I" } : MethodName)) ∈ gW := gW_n 1443 (by decide +kernel) rfl
theorem kw_1444 : (Cond.static ({ cls := "AnimationController$EventLog", name := "placeOf", desc := "(I)I" } : MethodName)) ∈ gW := gW_n 1444 (by decide +kernel) rfl
theorem kw_1445 : (Cond.code ({ cls := "AnimationController$EventLog", name := "placeOf", desc := "(I)I" } : MethodName) prog_4_method_6_code (1 : Nat) (Option.some FieldType.int)) ∈ gW := gW_n 1445 (by decide +kernel) rfl
theorem kw_1446 : (Cond.methodLink "AnimationController$EventLog" (40 : Nat) ({ cls := "java/lang/Math", name := "floorMod", desc := "(II)I" } : MethodName)) ∈ gW := gW_n 1446 (by decide +kernel) rfl
theorem kw_1447 : (Cond.static ({ cls := "java/lang/Math", name := "floorMod", desc := "(II)I" } : MethodName)) ∈ gW := gW_n 1447 (by decide +kernel) rfl
theorem kw_1448 : (Cond.code ({ cls := "java/lang/Math", name := "floorMod", desc := "(II)I" } : MethodName) prog_27_method_50_code (3 : Nat) (Option.some FieldType.int)) ∈ gW := gW_n 1448 (by decide +kernel) rfl
theorem kw_145 : (Cond.fieldLink "AnimationController$Machine" (314 : Nat) "AnimationController$State" "number" "I") ∈ gW := gW_n 145 (by decide +kernel) rfl
theorem kw_146 : (Cond.fieldLink "AnimationController$State" (13 : Nat) "AnimationController$State" "motion" "LAnimationController$Node;") ∈ gW := gW_n 146 (by decide +kernel) rfl
theorem kw_1463 : (Cond.methodLink "AnimationController" (328 : Nat) ({ cls := "AnimationController$Track", name := "progressNow", desc := "()J" } : MethodName)) ∈ gW := gW_n 1463 (by decide +kernel) rfl
theorem kw_147 : (Cond.fieldLink "AnimationController$Machine" (105 : Nat) "AnimationController$State" "motion" "LAnimationController$Node;") ∈ gW := gW_n 147 (by decide +kernel) rfl
theorem kw_1472 : (Cond.methodLink "AnimationController" (334 : Nat) ({ cls := "AnimationController$Machine", name := "lengthOf", desc := "(LAnimationController$State;)I" } : MethodName)) ∈ gW := gW_n 1472 (by decide +kernel) rfl
theorem kw_148 : (Cond.fieldLink "AnimationController" (342 : Nat) "AnimationController$State" "motion" "LAnimationController$Node;") ∈ gW := gW_n 148 (by decide +kernel) rfl
theorem kw_1480 : (Cond.constant "AnimationController" (346 : Nat) (1000000 : Int32)) ∈ gW := gW_n 1480 (by decide +kernel) rfl
theorem kw_1481 : (Cond.methodLink "AnimationController" (350 : Nat) ({ cls := "AnimationController$Blend", name := "fill", desc := "(LAnimationController$Node;I[I)V" } : MethodName)) ∈ gW := gW_n 1481 (by decide +kernel) rfl
theorem kw_1482 : (Cond.methodLink "AnimationController" (357 : Nat) ({ cls := "AnimationController$Blend", name := "weightOf", desc := "(I)I" } : MethodName)) ∈ gW := gW_n 1482 (by decide +kernel) rfl
theorem kw_149 : (Cond.fieldLink "AnimationController$State" (17 : Nat) "AnimationController$State" "speed" "I") ∈ gW := gW_n 149 (by decide +kernel) rfl
theorem kw_1490 : (Cond.methodLink "AnimationController" (360 : Nat) ({ cls := "AnimationController$Machine", name := "originOf", desc := "(LAnimationController$Transition;)I" } : MethodName)) ∈ gW := gW_n 1490 (by decide +kernel) rfl
theorem kw_1491 : (Cond.methodLink "AnimationController" (364 : Nat) ({ cls := "AnimationController$Machine", name := "obstacleFrom", desc := "(ILAnimationController$Transition;)I" } : MethodName)) ∈ gW := gW_n 1491 (by decide +kernel) rfl
theorem kw_15 : (Cond.initialized "AnimationController$Track") ∈ gW := gW_n 15 (by decide +kernel) rfl
theorem kw_150 : (Cond.fieldLink "AnimationController$Machine" (270 : Nat) "AnimationController$State" "speed" "I") ∈ gW := gW_n 150 (by decide +kernel) rfl
theorem kw_151 : (Cond.fieldLink "AnimationController$State" (20 : Nat) "AnimationController$State" "loops" "Z") ∈ gW := gW_n 151 (by decide +kernel) rfl
theorem kw_152 : (Cond.fieldLink "AnimationController$Track" (39 : Nat) "AnimationController$State" "loops" "Z") ∈ gW := gW_n 152 (by decide +kernel) rfl
theorem kw_1521 : (Cond.methodLink "AnimationController" (389 : Nat) ({ cls := "AnimationController$EventLog", name := "kept", desc := "()I" } : MethodName)) ∈ gW := gW_n 1521 (by decide +kernel) rfl
theorem kw_1522 : (Cond.instanceMethod ({ cls := "AnimationController$EventLog", name := "kept", desc := "()I" } : MethodName)) ∈ gW := gW_n 1522 (by decide +kernel) rfl
theorem kw_1523 : (Cond.selects "AnimationController$EventLog" ({ cls := "AnimationController$EventLog", name := "kept", desc := "()I" } : MethodName) ({ cls := "AnimationController$EventLog", name := "kept", desc := "()I" } : MethodName)) ∈ gW := gW_n 1523 (by decide +kernel) rfl
theorem kw_1524 : (Cond.code ({ cls := "AnimationController$EventLog", name := "kept", desc := "()I" } : MethodName) prog_4_method_3_code (1 : Nat) (Option.some FieldType.int)) ∈ gW := gW_n 1524 (by decide +kernel) rfl
theorem kw_1525 : (Cond.methodLink "AnimationController$EventLog" (24 : Nat) ({ cls := "java/lang/Math", name := "min", desc := "(II)I" } : MethodName)) ∈ gW := gW_n 1525 (by decide +kernel) rfl
theorem kw_1528 : (Cond.methodLink "AnimationController" (396 : Nat) ({ cls := "AnimationController$EventLog", name := "propertyOf", desc := "(II)I" } : MethodName)) ∈ gW := gW_n 1528 (by decide +kernel) rfl
theorem kw_1529 : (Cond.instanceMethod ({ cls := "AnimationController$EventLog", name := "propertyOf", desc := "(II)I" } : MethodName)) ∈ gW := gW_n 1529 (by decide +kernel) rfl
theorem kw_153 : (Cond.fieldLink "AnimationController$Machine" (248 : Nat) "AnimationController$State" "loops" "Z") ∈ gW := gW_n 153 (by decide +kernel) rfl
theorem kw_1530 : (Cond.selects "AnimationController$EventLog" ({ cls := "AnimationController$EventLog", name := "propertyOf", desc := "(II)I" } : MethodName) ({ cls := "AnimationController$EventLog", name := "propertyOf", desc := "(II)I" } : MethodName)) ∈ gW := gW_n 1530 (by decide +kernel) rfl
theorem kw_1531 : (Cond.code ({ cls := "AnimationController$EventLog", name := "propertyOf", desc := "(II)I" } : MethodName) prog_4_method_4_code (3 : Nat) (Option.some FieldType.int)) ∈ gW := gW_n 1531 (by decide +kernel) rfl
theorem kw_1532 : (Cond.methodLink "AnimationController$EventLog" (30 : Nat) ({ cls := "AnimationController$EventLog", name := "kept", desc := "()I" } : MethodName)) ∈ gW := gW_n 1532 (by decide +kernel) rfl
theorem kw_154 : (Cond.fieldLink "AnimationController$State" (24 : Nat) "AnimationController$State" "group" "I") ∈ gW := gW_n 154 (by decide +kernel) rfl
theorem kw_1540 : (Cond.methodLink "AnimationController" (400 : Nat) ({ cls := "AnimationController$Machine", name := "copyFrom", desc := "(LAnimationController$Machine;)V" } : MethodName)) ∈ gW := gW_n 1540 (by decide +kernel) rfl
theorem kw_1541 : (Cond.instanceMethod ({ cls := "AnimationController$Machine", name := "copyFrom", desc := "(LAnimationController$Machine;)V" } : MethodName)) ∈ gW := gW_n 1541 (by decide +kernel) rfl
theorem kw_1542 : (Cond.selects "AnimationController$Machine" ({ cls := "AnimationController$Machine", name := "copyFrom", desc := "(LAnimationController$Machine;)V" } : MethodName) ({ cls := "AnimationController$Machine", name := "copyFrom", desc := "(LAnimationController$Machine;)V" } : MethodName)) ∈ gW := gW_n 1542 (by decide +kernel) rfl
theorem kw_1543 : (Cond.code ({ cls := "AnimationController$Machine", name := "copyFrom", desc := "(LAnimationController$Machine;)V" } : MethodName) prog_5_method_2_code (2 : Nat) (Option.none : Option FieldType)) ∈ gW := gW_n 1543 (by decide +kernel) rfl
theorem kw_1544 : (Cond.methodLink "AnimationController$Machine" (61 : Nat) ({ cls := "java/lang/System", name := "arraycopy", desc := "(Ljava/lang/Object;ILjava/lang/Object;II)V" } : MethodName)) ∈ gW := gW_n 1544 (by decide +kernel) rfl
theorem kw_1545 : (Cond.methodLink "AnimationController$Machine" (92 : Nat) ({ cls := "AnimationController$EventLog", name := "copyFrom", desc := "(LAnimationController$EventLog;)V" } : MethodName)) ∈ gW := gW_n 1545 (by decide +kernel) rfl
theorem kw_1546 : (Cond.instanceMethod ({ cls := "AnimationController$EventLog", name := "copyFrom", desc := "(LAnimationController$EventLog;)V" } : MethodName)) ∈ gW := gW_n 1546 (by decide +kernel) rfl
theorem kw_1547 : (Cond.selects "AnimationController$EventLog" ({ cls := "AnimationController$EventLog", name := "copyFrom", desc := "(LAnimationController$EventLog;)V" } : MethodName) ({ cls := "AnimationController$EventLog", name := "copyFrom", desc := "(LAnimationController$EventLog;)V" } : MethodName)) ∈ gW := gW_n 1547 (by decide +kernel) rfl
theorem kw_1548 : (Cond.code ({ cls := "AnimationController$EventLog", name := "copyFrom", desc := "(LAnimationController$EventLog;)V" } : MethodName) prog_4_method_5_code (3 : Nat) (Option.none : Option FieldType)) ∈ gW := gW_n 1548 (by decide +kernel) rfl
theorem kw_1549 : (Cond.methodLink "AnimationController$EventLog" (34 : Nat) ({ cls := "java/lang/System", name := "arraycopy", desc := "(Ljava/lang/Object;ILjava/lang/Object;II)V" } : MethodName)) ∈ gW := gW_n 1549 (by decide +kernel) rfl
theorem kw_1564 : (Cond.methodLink "AnimationController" (404 : Nat) ({ cls := "AnimationController", name := "setDistance", desc := "(LAnimationController$State;I)V" } : MethodName)) ∈ gW := gW_n 1564 (by decide +kernel) rfl
theorem kw_1566 : (Cond.instanceMethod ({ cls := "AnimationController", name := "setDistance", desc := "(LAnimationController$State;I)V" } : MethodName)) ∈ gW := gW_n 1566 (by decide +kernel) rfl
theorem kw_1567 : (Cond.code ({ cls := "AnimationController", name := "setDistance", desc := "(LAnimationController$State;I)V" } : MethodName) prog_1_method_54_code (3 : Nat) (Option.none : Option FieldType)) ∈ gW := gW_n 1567 (by decide +kernel) rfl
theorem kw_1568 : (Cond.methodLink "AnimationController" (408 : Nat) ({ cls := "AnimationController", name := "spreadFrom", desc := "(I)V" } : MethodName)) ∈ gW := gW_n 1568 (by decide +kernel) rfl
theorem kw_1570 : (Cond.instanceMethod ({ cls := "AnimationController", name := "spreadFrom", desc := "(I)V" } : MethodName)) ∈ gW := gW_n 1570 (by decide +kernel) rfl
theorem kw_1571 : (Cond.code ({ cls := "AnimationController", name := "spreadFrom", desc := "(I)V" } : MethodName) prog_1_method_55_code (6 : Nat) (Option.none : Option FieldType)) ∈ gW := gW_n 1571 (by decide +kernel) rfl
theorem kw_1572 : (Cond.methodLink "AnimationController" (411 : Nat) ({ cls := "AnimationController", name := "distanceOf", desc := "(LAnimationController$State;)I" } : MethodName)) ∈ gW := gW_n 1572 (by decide +kernel) rfl
theorem kw_1574 : (Cond.instanceMethod ({ cls := "AnimationController", name := "distanceOf", desc := "(LAnimationController$State;)I" } : MethodName)) ∈ gW := gW_n 1574 (by decide +kernel) rfl
theorem kw_1575 : (Cond.code ({ cls := "AnimationController", name := "distanceOf", desc := "(LAnimationController$State;)I" } : MethodName) prog_1_method_53_code (2 : Nat) (Option.some FieldType.int)) ∈ gW := gW_n 1575 (by decide +kernel) rfl
theorem kw_1583 : (Cond.methodLink "AnimationController" (414 : Nat) ({ cls := "AnimationController", name := "requireSlot", desc := "(I)V" } : MethodName)) ∈ gW := gW_n 1583 (by decide +kernel) rfl
theorem kw_1585 : (Cond.instanceMethod ({ cls := "AnimationController", name := "requireSlot", desc := "(I)V" } : MethodName)) ∈ gW := gW_n 1585 (by decide +kernel) rfl
theorem kw_1586 : (Cond.code ({ cls := "AnimationController", name := "requireSlot", desc := "(I)V" } : MethodName) prog_1_method_47_code (2 : Nat) (Option.none : Option FieldType)) ∈ gW := gW_n 1586 (by decide +kernel) rfl
theorem kw_166 : (Cond.fieldLink "AnimationController$Model" (9 : Nat) "AnimationController$Model" "kinds" "[I") ∈ gW := gW_n 166 (by decide +kernel) rfl
theorem kw_167 : (Cond.fieldLink "AnimationController" (58 : Nat) "AnimationController$Model" "kinds" "[I") ∈ gW := gW_n 167 (by decide +kernel) rfl
theorem kw_168 : (Cond.fieldLink "AnimationController$Model" (54 : Nat) "AnimationController$Model" "parameters" "I") ∈ gW := gW_n 168 (by decide +kernel) rfl
theorem kw_169 : (Cond.fieldLink "AnimationController" (54 : Nat) "AnimationController$Model" "parameters" "I") ∈ gW := gW_n 169 (by decide +kernel) rfl
theorem kw_170 : (Cond.fieldLink "AnimationController$Model" (18 : Nat) "AnimationController$Model" "clips" "Ljava/util/ArrayList;") ∈ gW := gW_n 170 (by decide +kernel) rfl
theorem kw_171 : (Cond.fieldLink "AnimationController" (86 : Nat) "AnimationController$Model" "clips" "Ljava/util/ArrayList;") ∈ gW := gW_n 171 (by decide +kernel) rfl
theorem kw_172 : (Cond.fieldLink "AnimationController$Machine" (116 : Nat) "AnimationController$Model" "clips" "Ljava/util/ArrayList;") ∈ gW := gW_n 172 (by decide +kernel) rfl
theorem kw_173 : (Cond.fieldLink "AnimationController$Model" (22 : Nat) "AnimationController$Model" "nodes" "Ljava/util/ArrayList;") ∈ gW := gW_n 173 (by decide +kernel) rfl
theorem kw_174 : (Cond.fieldLink "AnimationController" (126 : Nat) "AnimationController$Model" "nodes" "Ljava/util/ArrayList;") ∈ gW := gW_n 174 (by decide +kernel) rfl
theorem kw_175 : (Cond.fieldLink "AnimationController$Model" (25 : Nat) "AnimationController$Model" "states" "Ljava/util/ArrayList;") ∈ gW := gW_n 175 (by decide +kernel) rfl
theorem kw_176 : (Cond.fieldLink "AnimationController" (173 : Nat) "AnimationController$Model" "states" "Ljava/util/ArrayList;") ∈ gW := gW_n 176 (by decide +kernel) rfl
theorem kw_177 : (Cond.fieldLink "AnimationController$TransitionText" (132 : Nat) "AnimationController$Model" "states" "Ljava/util/ArrayList;") ∈ gW := gW_n 177 (by decide +kernel) rfl
theorem kw_178 : (Cond.fieldLink "AnimationController$Model" (28 : Nat) "AnimationController$Model" "transitions" "Ljava/util/ArrayList;") ∈ gW := gW_n 178 (by decide +kernel) rfl
theorem kw_179 : (Cond.fieldLink "AnimationController$TransitionText" (38 : Nat) "AnimationController$Model" "transitions" "Ljava/util/ArrayList;") ∈ gW := gW_n 179 (by decide +kernel) rfl
theorem kw_180 : (Cond.fieldLink "AnimationController$Machine" (173 : Nat) "AnimationController$Model" "transitions" "Ljava/util/ArrayList;") ∈ gW := gW_n 180 (by decide +kernel) rfl
theorem kw_181 : (Cond.fieldLink "AnimationController" (196 : Nat) "AnimationController$Model" "transitions" "Ljava/util/ArrayList;") ∈ gW := gW_n 181 (by decide +kernel) rfl
theorem kw_182 : (Cond.fieldLink "AnimationController$Model" (31 : Nat) "AnimationController$Model" "threshold" "I") ∈ gW := gW_n 182 (by decide +kernel) rfl
theorem kw_183 : (Cond.fieldLink "AnimationController" (255 : Nat) "AnimationController$Model" "threshold" "I") ∈ gW := gW_n 183 (by decide +kernel) rfl
theorem kw_184 : (Cond.fieldLink "AnimationController$Machine" (293 : Nat) "AnimationController$Model" "threshold" "I") ∈ gW := gW_n 184 (by decide +kernel) rfl
theorem kw_185 : (Cond.fieldLink "AnimationController$TransitionText" (21 : Nat) "AnimationController$Model" "standIn" "LAnimationController$State;") ∈ gW := gW_n 185 (by decide +kernel) rfl
theorem kw_186 : (Cond.fieldLink "AnimationController$Machine" (45 : Nat) "AnimationController$Model" "standIn" "LAnimationController$State;") ∈ gW := gW_n 186 (by decide +kernel) rfl
theorem kw_187 : (Cond.fieldLink "AnimationController$Model" (50 : Nat) "AnimationController$Model" "standIn" "LAnimationController$State;") ∈ gW := gW_n 187 (by decide +kernel) rfl
theorem kw_188 : (Cond.fieldLink "AnimationController" (299 : Nat) "AnimationController$Model" "standIn" "LAnimationController$State;") ∈ gW := gW_n 188 (by decide +kernel) rfl
theorem kw_2 : (Cond.initialized "AnimationController$Model") ∈ gW := gW_n 2 (by decide +kernel) rfl
theorem kw_20 : (Cond.initialized "java/lang/IllegalArgumentException") ∈ gW := gW_n 20 (by decide +kernel) rfl
theorem kw_206 : (Cond.classLink "AnimationController" (16 : Nat) "AnimationController$TransitionText") ∈ gW := gW_n 206 (by decide +kernel) rfl
theorem kw_207 : (Cond.instantiable "AnimationController$TransitionText" (5 : Nat)) ∈ gW := gW_n 207 (by decide +kernel) rfl
theorem kw_208 : (Cond.methodLink "AnimationController" (18 : Nat) ({ cls := "AnimationController$TransitionText", name := "<init>", desc := "(LAnimationController$Model;)V" } : MethodName)) ∈ gW := gW_n 208 (by decide +kernel) rfl
theorem kw_209 : (Cond.instanceMethod ({ cls := "AnimationController$TransitionText", name := "<init>", desc := "(LAnimationController$Model;)V" } : MethodName)) ∈ gW := gW_n 209 (by decide +kernel) rfl
theorem kw_21 : (Cond.initialized "java/lang/IllegalStateException") ∈ gW := gW_n 21 (by decide +kernel) rfl
theorem kw_210 : (Cond.code ({ cls := "AnimationController$TransitionText", name := "<init>", desc := "(LAnimationController$Model;)V" } : MethodName) prog_12_method_1_code (2 : Nat) (Option.none : Option FieldType)) ∈ gW := gW_n 210 (by decide +kernel) rfl
theorem kw_211 : (Cond.methodLink "AnimationController$TransitionText" (3 : Nat) ({ cls := "java/lang/Object", name := "<init>", desc := "()V" } : MethodName)) ∈ gW := gW_n 211 (by decide +kernel) rfl
theorem kw_212 : (Cond.classLink "AnimationController$TransitionText" (19 : Nat) "AnimationController$Transition") ∈ gW := gW_n 212 (by decide +kernel) rfl
theorem kw_213 : (Cond.instantiable "AnimationController$Transition" (12 : Nat)) ∈ gW := gW_n 213 (by decide +kernel) rfl
theorem kw_214 : (Cond.methodLink "AnimationController$TransitionText" (27 : Nat) ({ cls := "AnimationController$Transition", name := "<init>", desc := "(ILAnimationController$State;)V" } : MethodName)) ∈ gW := gW_n 214 (by decide +kernel) rfl
theorem kw_215 : (Cond.instanceMethod ({ cls := "AnimationController$Transition", name := "<init>", desc := "(ILAnimationController$State;)V" } : MethodName)) ∈ gW := gW_n 215 (by decide +kernel) rfl
theorem kw_216 : (Cond.code ({ cls := "AnimationController$Transition", name := "<init>", desc := "(ILAnimationController$State;)V" } : MethodName) prog_11_method_1_code (3 : Nat) (Option.none : Option FieldType)) ∈ gW := gW_n 216 (by decide +kernel) rfl
theorem kw_217 : (Cond.methodLink "AnimationController$Transition" (3 : Nat) ({ cls := "java/lang/Object", name := "<init>", desc := "()V" } : MethodName)) ∈ gW := gW_n 217 (by decide +kernel) rfl
theorem kw_2175 : (Cond.selects "[Ljava/lang/Object;" ({ cls := "java/lang/Object", name := "getClass", desc := "()Ljava/lang/Class;" } : MethodName) ({ cls := "java/lang/Object", name := "getClass", desc := "()Ljava/lang/Class;" } : MethodName)) ∈ gW := gW_n 2175 (by decide +kernel) rfl
theorem kw_218 : (Cond.fieldLink "AnimationController$Transition" (25 : Nat) "AnimationController$Transition" "number" "I") ∈ gW := gW_n 218 (by decide +kernel) rfl
theorem kw_219 : (Cond.fieldLink "AnimationController$Machine" (197 : Nat) "AnimationController$Transition" "number" "I") ∈ gW := gW_n 219 (by decide +kernel) rfl
theorem kw_22 : (Cond.initialized "java/lang/IndexOutOfBoundsException") ∈ gW := gW_n 22 (by decide +kernel) rfl
theorem kw_220 : (Cond.fieldLink "AnimationController" (210 : Nat) "AnimationController$Transition" "number" "I") ∈ gW := gW_n 220 (by decide +kernel) rfl
theorem kw_221 : (Cond.fieldLink "AnimationController$Transition" (32 : Nat) "AnimationController$Transition" "from" "LAnimationController$State;") ∈ gW := gW_n 221 (by decide +kernel) rfl
theorem kw_222 : (Cond.fieldLink "AnimationController$TransitionText" (94 : Nat) "AnimationController$Transition" "from" "LAnimationController$State;") ∈ gW := gW_n 222 (by decide +kernel) rfl
theorem kw_223 : (Cond.fieldLink "AnimationController$Machine" (176 : Nat) "AnimationController$Transition" "from" "LAnimationController$State;") ∈ gW := gW_n 223 (by decide +kernel) rfl
theorem kw_224 : (Cond.fieldLink "AnimationController" (217 : Nat) "AnimationController$Transition" "from" "LAnimationController$State;") ∈ gW := gW_n 224 (by decide +kernel) rfl
theorem kw_225 : (Cond.fieldLink "AnimationController$Transition" (28 : Nat) "AnimationController$Transition" "to" "LAnimationController$State;") ∈ gW := gW_n 225 (by decide +kernel) rfl
theorem kw_226 : (Cond.fieldLink "AnimationController$TransitionText" (58 : Nat) "AnimationController$Transition" "to" "LAnimationController$State;") ∈ gW := gW_n 226 (by decide +kernel) rfl
theorem kw_227 : (Cond.fieldLink "AnimationController$Machine" (228 : Nat) "AnimationController$Transition" "to" "LAnimationController$State;") ∈ gW := gW_n 227 (by decide +kernel) rfl
theorem kw_228 : (Cond.fieldLink "AnimationController" (447 : Nat) "AnimationController$Transition" "to" "LAnimationController$State;") ∈ gW := gW_n 228 (by decide +kernel) rfl
theorem kw_229 : (Cond.fieldLink "AnimationController$Transition" (35 : Nat) "AnimationController$Transition" "duration" "I") ∈ gW := gW_n 229 (by decide +kernel) rfl
theorem kw_23 : (Cond.initialized "jdk/internal/util/ArraysSupport") ∈ gW := gW_n 23 (by decide +kernel) rfl
theorem kw_230 : (Cond.fieldLink "AnimationController$Machine" (158 : Nat) "AnimationController$Transition" "duration" "I") ∈ gW := gW_n 230 (by decide +kernel) rfl
theorem kw_231 : (Cond.fieldLink "AnimationController$Transition" (9 : Nat) "AnimationController$Transition" "exit" "I") ∈ gW := gW_n 231 (by decide +kernel) rfl
theorem kw_232 : (Cond.fieldLink "AnimationController$TransitionText" (103 : Nat) "AnimationController$Transition" "exit" "I") ∈ gW := gW_n 232 (by decide +kernel) rfl
theorem kw_233 : (Cond.fieldLink "AnimationController$Machine" (200 : Nat) "AnimationController$Transition" "exit" "I") ∈ gW := gW_n 233 (by decide +kernel) rfl
theorem kw_234 : (Cond.fieldLink "AnimationController" (223 : Nat) "AnimationController$Transition" "exit" "I") ∈ gW := gW_n 234 (by decide +kernel) rfl
theorem kw_235 : (Cond.fieldLink "AnimationController$Transition" (38 : Nat) "AnimationController$Transition" "start" "I") ∈ gW := gW_n 235 (by decide +kernel) rfl
theorem kw_236 : (Cond.fieldLink "AnimationController$TransitionText" (106 : Nat) "AnimationController$Transition" "start" "I") ∈ gW := gW_n 236 (by decide +kernel) rfl
theorem kw_237 : (Cond.fieldLink "AnimationController" (226 : Nat) "AnimationController$Transition" "start" "I") ∈ gW := gW_n 237 (by decide +kernel) rfl
theorem kw_238 : (Cond.fieldLink "AnimationController$Machine" (245 : Nat) "AnimationController$Transition" "start" "I") ∈ gW := gW_n 238 (by decide +kernel) rfl
theorem kw_239 : (Cond.fieldLink "AnimationController$Transition" (41 : Nat) "AnimationController$Transition" "mode" "I") ∈ gW := gW_n 239 (by decide +kernel) rfl
theorem kw_24 : (Cond.initialized "java/lang/Math") ∈ gW := gW_n 24 (by decide +kernel) rfl
theorem kw_240 : (Cond.fieldLink "AnimationController$TransitionText" (109 : Nat) "AnimationController$Transition" "mode" "I") ∈ gW := gW_n 240 (by decide +kernel) rfl
theorem kw_241 : (Cond.fieldLink "AnimationController$Machine" (166 : Nat) "AnimationController$Transition" "mode" "I") ∈ gW := gW_n 241 (by decide +kernel) rfl
theorem kw_242 : (Cond.fieldLink "AnimationController" (231 : Nat) "AnimationController$Transition" "mode" "I") ∈ gW := gW_n 242 (by decide +kernel) rfl
theorem kw_243 : (Cond.fieldLink "AnimationController$Transition" (44 : Nat) "AnimationController$Transition" "ordered" "Z") ∈ gW := gW_n 243 (by decide +kernel) rfl
theorem kw_244 : (Cond.fieldLink "AnimationController$TransitionText" (112 : Nat) "AnimationController$Transition" "ordered" "Z") ∈ gW := gW_n 244 (by decide +kernel) rfl
theorem kw_245 : (Cond.fieldLink "AnimationController$Machine" (194 : Nat) "AnimationController$Transition" "ordered" "Z") ∈ gW := gW_n 245 (by decide +kernel) rfl
theorem kw_246 : (Cond.fieldLink "AnimationController" (234 : Nat) "AnimationController$Transition" "ordered" "Z") ∈ gW := gW_n 246 (by decide +kernel) rfl
theorem kw_247 : (Cond.fieldLink "AnimationController$Transition" (15 : Nat) "AnimationController$Transition" "parameters" "[I") ∈ gW := gW_n 247 (by decide +kernel) rfl
theorem kw_248 : (Cond.fieldLink "AnimationController$Machine" (212 : Nat) "AnimationController$Transition" "parameters" "[I") ∈ gW := gW_n 248 (by decide +kernel) rfl
theorem kw_249 : (Cond.fieldLink "AnimationController$Transition" (19 : Nat) "AnimationController$Transition" "operators" "[I") ∈ gW := gW_n 249 (by decide +kernel) rfl
theorem kw_25 : (Cond.initialized "java/util/Arrays") ∈ gW := gW_n 25 (by decide +kernel) rfl
theorem kw_250 : (Cond.fieldLink "AnimationController$Transition" (22 : Nat) "AnimationController$Transition" "operands" "[I") ∈ gW := gW_n 250 (by decide +kernel) rfl
theorem kw_251 : (Cond.fieldLink "AnimationController$Transition" (48 : Nat) "AnimationController$Transition" "conditions" "I") ∈ gW := gW_n 251 (by decide +kernel) rfl
theorem kw_252 : (Cond.fieldLink "AnimationController$TransitionText" (97 : Nat) "AnimationController$Transition" "conditions" "I") ∈ gW := gW_n 252 (by decide +kernel) rfl
theorem kw_253 : (Cond.fieldLink "AnimationController$Machine" (209 : Nat) "AnimationController$Transition" "conditions" "I") ∈ gW := gW_n 253 (by decide +kernel) rfl
theorem kw_254 : (Cond.fieldLink "AnimationController" (244 : Nat) "AnimationController$Transition" "conditions" "I") ∈ gW := gW_n 254 (by decide +kernel) rfl
theorem kw_26 : (Cond.initialized "java/lang/System") ∈ gW := gW_n 26 (by decide +kernel) rfl
theorem kw_27 : (Cond.initialized "java/util/Objects") ∈ gW := gW_n 27 (by decide +kernel) rfl
theorem kw_28 : (Cond.initialized "jdk/internal/util/Preconditions") ∈ gW := gW_n 28 (by decide +kernel) rfl
theorem kw_280 : (Cond.fieldLink "AnimationController$TransitionText" (15 : Nat) "AnimationController$TransitionText" "model" "LAnimationController$Model;") ∈ gW := gW_n 280 (by decide +kernel) rfl
theorem kw_281 : (Cond.fieldLink "AnimationController$TransitionText" (9 : Nat) "AnimationController$TransitionText" "bytes" "[I") ∈ gW := gW_n 281 (by decide +kernel) rfl
theorem kw_282 : (Cond.fieldLink "AnimationController" (261 : Nat) "AnimationController$TransitionText" "bytes" "[I") ∈ gW := gW_n 282 (by decide +kernel) rfl
theorem kw_283 : (Cond.fieldLink "AnimationController$TransitionText" (69 : Nat) "AnimationController$TransitionText" "length" "I") ∈ gW := gW_n 283 (by decide +kernel) rfl
theorem kw_284 : (Cond.fieldLink "AnimationController" (260 : Nat) "AnimationController$TransitionText" "length" "I") ∈ gW := gW_n 284 (by decide +kernel) rfl
theorem kw_285 : (Cond.fieldLink "AnimationController$TransitionText" (34 : Nat) "AnimationController$TransitionText" "at" "I") ∈ gW := gW_n 285 (by decide +kernel) rfl
theorem kw_286 : (Cond.fieldLink "AnimationController$TransitionText" (30 : Nat) "AnimationController$TransitionText" "draft" "LAnimationController$Transition;") ∈ gW := gW_n 286 (by decide +kernel) rfl
theorem kw_298 : (Cond.classLink "AnimationController" (25 : Nat) "AnimationController$Machine") ∈ gW := gW_n 298 (by decide +kernel) rfl
theorem kw_299 : (Cond.instantiable "AnimationController$Machine" (13 : Nat)) ∈ gW := gW_n 299 (by decide +kernel) rfl
theorem kw_3 : (Cond.initialized "java/util/AbstractCollection") ∈ gW := gW_n 3 (by decide +kernel) rfl
theorem kw_300 : (Cond.methodLink "AnimationController" (27 : Nat) ({ cls := "AnimationController$Machine", name := "<init>", desc := "(LAnimationController$Model;)V" } : MethodName)) ∈ gW := gW_n 300 (by decide +kernel) rfl
theorem kw_301 : (Cond.instanceMethod ({ cls := "AnimationController$Machine", name := "<init>", desc := "(LAnimationController$Model;)V" } : MethodName)) ∈ gW := gW_n 301 (by decide +kernel) rfl
theorem kw_302 : (Cond.code ({ cls := "AnimationController$Machine", name := "<init>", desc := "(LAnimationController$Model;)V" } : MethodName) prog_5_method_1_code (2 : Nat) (Option.none : Option FieldType)) ∈ gW := gW_n 302 (by decide +kernel) rfl
theorem kw_303 : (Cond.methodLink "AnimationController$Machine" (3 : Nat) ({ cls := "java/lang/Object", name := "<init>", desc := "()V" } : MethodName)) ∈ gW := gW_n 303 (by decide +kernel) rfl
theorem kw_304 : (Cond.classLink "AnimationController$Machine" (15 : Nat) "AnimationController$Pose") ∈ gW := gW_n 304 (by decide +kernel) rfl
theorem kw_305 : (Cond.instantiable "AnimationController$Pose" (4 : Nat)) ∈ gW := gW_n 305 (by decide +kernel) rfl
theorem kw_307 : (Cond.instanceMethod ({ cls := "AnimationController$Pose", name := "<init>", desc := "()V" } : MethodName)) ∈ gW := gW_n 307 (by decide +kernel) rfl
theorem kw_308 : (Cond.code ({ cls := "AnimationController$Pose", name := "<init>", desc := "()V" } : MethodName) prog_8_method_1_code (1 : Nat) (Option.none : Option FieldType)) ∈ gW := gW_n 308 (by decide +kernel) rfl
theorem kw_309 : (Cond.methodLink "AnimationController$Pose" (3 : Nat) ({ cls := "java/lang/Object", name := "<init>", desc := "()V" } : MethodName)) ∈ gW := gW_n 309 (by decide +kernel) rfl
theorem kw_310 : (Cond.fieldLink "AnimationController$Pose" (9 : Nat) "AnimationController$Pose" "clips" "[I") ∈ gW := gW_n 310 (by decide +kernel) rfl
theorem kw_311 : (Cond.fieldLink "AnimationController" (376 : Nat) "AnimationController$Pose" "clips" "[I") ∈ gW := gW_n 311 (by decide +kernel) rfl
theorem kw_312 : (Cond.fieldLink "AnimationController$Pose" (15 : Nat) "AnimationController$Pose" "times" "[I") ∈ gW := gW_n 312 (by decide +kernel) rfl
theorem kw_313 : (Cond.fieldLink "AnimationController" (383 : Nat) "AnimationController$Pose" "times" "[I") ∈ gW := gW_n 313 (by decide +kernel) rfl
theorem kw_314 : (Cond.fieldLink "AnimationController$Pose" (18 : Nat) "AnimationController$Pose" "weights" "[I") ∈ gW := gW_n 314 (by decide +kernel) rfl
theorem kw_315 : (Cond.fieldLink "AnimationController" (386 : Nat) "AnimationController$Pose" "weights" "[I") ∈ gW := gW_n 315 (by decide +kernel) rfl
theorem kw_316 : (Cond.fieldLink "AnimationController$Pose" (21 : Nat) "AnimationController$Pose" "size" "I") ∈ gW := gW_n 316 (by decide +kernel) rfl
theorem kw_317 : (Cond.fieldLink "AnimationController$Machine" (319 : Nat) "AnimationController$Pose" "size" "I") ∈ gW := gW_n 317 (by decide +kernel) rfl
theorem kw_318 : (Cond.fieldLink "AnimationController" (372 : Nat) "AnimationController$Pose" "size" "I") ∈ gW := gW_n 318 (by decide +kernel) rfl
theorem kw_328 : (Cond.classLink "AnimationController$Machine" (22 : Nat) "AnimationController$EventLog") ∈ gW := gW_n 328 (by decide +kernel) rfl
theorem kw_329 : (Cond.instantiable "AnimationController$EventLog" (2 : Nat)) ∈ gW := gW_n 329 (by decide +kernel) rfl
theorem kw_331 : (Cond.instanceMethod ({ cls := "AnimationController$EventLog", name := "<init>", desc := "()V" } : MethodName)) ∈ gW := gW_n 331 (by decide +kernel) rfl
theorem kw_332 : (Cond.code ({ cls := "AnimationController$EventLog", name := "<init>", desc := "()V" } : MethodName) prog_4_method_1_code (1 : Nat) (Option.none : Option FieldType)) ∈ gW := gW_n 332 (by decide +kernel) rfl
theorem kw_333 : (Cond.methodLink "AnimationController$EventLog" (3 : Nat) ({ cls := "java/lang/Object", name := "<init>", desc := "()V" } : MethodName)) ∈ gW := gW_n 333 (by decide +kernel) rfl
theorem kw_334 : (Cond.classLink "AnimationController$EventLog" (11 : Nat) "[[I") ∈ gW := gW_n 334 (by decide +kernel) rfl
theorem kw_336 : (Cond.fieldLink "AnimationController$EventLog" (13 : Nat) "AnimationController$EventLog" "properties" "[[I") ∈ gW := gW_n 336 (by decide +kernel) rfl
theorem kw_337 : (Cond.fieldLink "AnimationController$EventLog" (16 : Nat) "AnimationController$EventLog" "total" "I") ∈ gW := gW_n 337 (by decide +kernel) rfl
theorem kw_338 : (Cond.fieldLink "AnimationController$Machine" (102 : Nat) "AnimationController$EventLog" "total" "I") ∈ gW := gW_n 338 (by decide +kernel) rfl
theorem kw_339 : (Cond.fieldLink "AnimationController" (282 : Nat) "AnimationController$EventLog" "total" "I") ∈ gW := gW_n 339 (by decide +kernel) rfl
theorem kw_345 : (Cond.classLink "AnimationController$Machine" (29 : Nat) "AnimationController$Blend") ∈ gW := gW_n 345 (by decide +kernel) rfl
theorem kw_346 : (Cond.instantiable "AnimationController$Blend" (1 : Nat)) ∈ gW := gW_n 346 (by decide +kernel) rfl
theorem kw_348 : (Cond.instanceMethod ({ cls := "AnimationController$Blend", name := "<init>", desc := "()V" } : MethodName)) ∈ gW := gW_n 348 (by decide +kernel) rfl
theorem kw_349 : (Cond.code ({ cls := "AnimationController$Blend", name := "<init>", desc := "()V" } : MethodName) prog_2_method_1_code (1 : Nat) (Option.none : Option FieldType)) ∈ gW := gW_n 349 (by decide +kernel) rfl
theorem kw_350 : (Cond.methodLink "AnimationController$Blend" (3 : Nat) ({ cls := "java/lang/Object", name := "<init>", desc := "()V" } : MethodName)) ∈ gW := gW_n 350 (by decide +kernel) rfl
theorem kw_351 : (Cond.fieldLink "AnimationController$Blend" (9 : Nat) "AnimationController$Blend" "weights" "[I") ∈ gW := gW_n 351 (by decide +kernel) rfl
theorem kw_355 : (Cond.classLink "AnimationController$Machine" (43 : Nat) "AnimationController$Track") ∈ gW := gW_n 355 (by decide +kernel) rfl
theorem kw_356 : (Cond.instantiable "AnimationController$Track" (6 : Nat)) ∈ gW := gW_n 356 (by decide +kernel) rfl
theorem kw_357 : (Cond.methodLink "AnimationController$Machine" (51 : Nat) ({ cls := "AnimationController$Track", name := "<init>", desc := "(LAnimationController$State;)V" } : MethodName)) ∈ gW := gW_n 357 (by decide +kernel) rfl
theorem kw_358 : (Cond.instanceMethod ({ cls := "AnimationController$Track", name := "<init>", desc := "(LAnimationController$State;)V" } : MethodName)) ∈ gW := gW_n 358 (by decide +kernel) rfl
theorem kw_359 : (Cond.code ({ cls := "AnimationController$Track", name := "<init>", desc := "(LAnimationController$State;)V" } : MethodName) prog_10_method_1_code (2 : Nat) (Option.none : Option FieldType)) ∈ gW := gW_n 359 (by decide +kernel) rfl
theorem kw_360 : (Cond.methodLink "AnimationController$Track" (3 : Nat) ({ cls := "java/lang/Object", name := "<init>", desc := "()V" } : MethodName)) ∈ gW := gW_n 360 (by decide +kernel) rfl
theorem kw_361 : (Cond.fieldLink "AnimationController$Track" (18 : Nat) "AnimationController$Track" "state" "LAnimationController$State;") ∈ gW := gW_n 361 (by decide +kernel) rfl
theorem kw_362 : (Cond.fieldLink "AnimationController$Machine" (187 : Nat) "AnimationController$Track" "state" "LAnimationController$State;") ∈ gW := gW_n 362 (by decide +kernel) rfl
theorem kw_363 : (Cond.fieldLink "AnimationController" (310 : Nat) "AnimationController$Track" "state" "LAnimationController$State;") ∈ gW := gW_n 363 (by decide +kernel) rfl
theorem kw_364 : (Cond.fieldLink "AnimationController$Track" (22 : Nat) "AnimationController$Track" "cycles" "J") ∈ gW := gW_n 364 (by decide +kernel) rfl
theorem kw_365 : (Cond.fieldLink "AnimationController$Track" (26 : Nat) "AnimationController$Track" "phase" "I") ∈ gW := gW_n 365 (by decide +kernel) rfl
theorem kw_366 : (Cond.fieldLink "AnimationController$Machine" (251 : Nat) "AnimationController$Track" "phase" "I") ∈ gW := gW_n 366 (by decide +kernel) rfl
theorem kw_367 : (Cond.fieldLink "AnimationController$Track" (9 : Nat) "AnimationController$Track" "fresh" "Z") ∈ gW := gW_n 367 (by decide +kernel) rfl
theorem kw_368 : (Cond.fieldLink "AnimationController$Track" (30 : Nat) "AnimationController$Track" "before" "J") ∈ gW := gW_n 368 (by decide +kernel) rfl
theorem kw_369 : (Cond.fieldLink "AnimationController$Track" (15 : Nat) "AnimationController$Track" "wasFresh" "Z") ∈ gW := gW_n 369 (by decide +kernel) rfl
theorem kw_383 : (Cond.fieldLink "AnimationController$Machine" (39 : Nat) "AnimationController$Machine" "model" "LAnimationController$Model;") ∈ gW := gW_n 383 (by decide +kernel) rfl
theorem kw_384 : (Cond.fieldLink "AnimationController$Machine" (9 : Nat) "AnimationController$Machine" "values" "[I") ∈ gW := gW_n 384 (by decide +kernel) rfl
theorem kw_385 : (Cond.fieldLink "AnimationController" (347 : Nat) "AnimationController$Machine" "values" "[I") ∈ gW := gW_n 385 (by decide +kernel) rfl
theorem kw_386 : (Cond.fieldLink "AnimationController$Machine" (54 : Nat) "AnimationController$Machine" "source" "LAnimationController$Track;") ∈ gW := gW_n 386 (by decide +kernel) rfl
theorem kw_387 : (Cond.fieldLink "AnimationController" (306 : Nat) "AnimationController$Machine" "source" "LAnimationController$Track;") ∈ gW := gW_n 387 (by decide +kernel) rfl
theorem kw_388 : (Cond.fieldLink "AnimationController$Machine" (58 : Nat) "AnimationController$Machine" "target" "LAnimationController$Track;") ∈ gW := gW_n 388 (by decide +kernel) rfl
theorem kw_389 : (Cond.fieldLink "AnimationController" (319 : Nat) "AnimationController$Machine" "target" "LAnimationController$Track;") ∈ gW := gW_n 389 (by decide +kernel) rfl
theorem kw_390 : (Cond.fieldLink "AnimationController$Machine" (71 : Nat) "AnimationController$Machine" "current" "LAnimationController$Transition;") ∈ gW := gW_n 390 (by decide +kernel) rfl
theorem kw_391 : (Cond.fieldLink "AnimationController" (315 : Nat) "AnimationController$Machine" "current" "LAnimationController$Transition;") ∈ gW := gW_n 391 (by decide +kernel) rfl
theorem kw_392 : (Cond.fieldLink "AnimationController$Machine" (75 : Nat) "AnimationController$Machine" "elapsed" "I") ∈ gW := gW_n 392 (by decide +kernel) rfl
theorem kw_393 : (Cond.fieldLink "AnimationController" (322 : Nat) "AnimationController$Machine" "elapsed" "I") ∈ gW := gW_n 393 (by decide +kernel) rfl
theorem kw_394 : (Cond.fieldLink "AnimationController$Machine" (79 : Nat) "AnimationController$Machine" "frozen" "Z") ∈ gW := gW_n 394 (by decide +kernel) rfl
theorem kw_395 : (Cond.fieldLink "AnimationController" (325 : Nat) "AnimationController$Machine" "frozen" "Z") ∈ gW := gW_n 395 (by decide +kernel) rfl
theorem kw_396 : (Cond.fieldLink "AnimationController$Machine" (18 : Nat) "AnimationController$Machine" "frozenPose" "LAnimationController$Pose;") ∈ gW := gW_n 396 (by decide +kernel) rfl
theorem kw_397 : (Cond.fieldLink "AnimationController$Machine" (86 : Nat) "AnimationController$Machine" "interruptions" "I") ∈ gW := gW_n 397 (by decide +kernel) rfl
theorem kw_398 : (Cond.fieldLink "AnimationController$Machine" (89 : Nat) "AnimationController$Machine" "ticks" "I") ∈ gW := gW_n 398 (by decide +kernel) rfl
theorem kw_399 : (Cond.fieldLink "AnimationController" (290 : Nat) "AnimationController$Machine" "ticks" "I") ∈ gW := gW_n 399 (by decide +kernel) rfl
theorem kw_4 : (Cond.initialized "java/util/AbstractList") ∈ gW := gW_n 4 (by decide +kernel) rfl
theorem kw_400 : (Cond.fieldLink "AnimationController$Machine" (25 : Nat) "AnimationController$Machine" "log" "LAnimationController$EventLog;") ∈ gW := gW_n 400 (by decide +kernel) rfl
theorem kw_401 : (Cond.fieldLink "AnimationController" (278 : Nat) "AnimationController$Machine" "log" "LAnimationController$EventLog;") ∈ gW := gW_n 401 (by decide +kernel) rfl
theorem kw_402 : (Cond.fieldLink "AnimationController$Machine" (32 : Nat) "AnimationController$Machine" "blend" "LAnimationController$Blend;") ∈ gW := gW_n 402 (by decide +kernel) rfl
theorem kw_403 : (Cond.fieldLink "AnimationController" (338 : Nat) "AnimationController$Machine" "blend" "LAnimationController$Blend;") ∈ gW := gW_n 403 (by decide +kernel) rfl
theorem kw_404 : (Cond.fieldLink "AnimationController$Machine" (36 : Nat) "AnimationController$Machine" "pose" "LAnimationController$Pose;") ∈ gW := gW_n 404 (by decide +kernel) rfl
theorem kw_405 : (Cond.fieldLink "AnimationController" (440 : Nat) "AnimationController$Machine" "pose" "LAnimationController$Pose;") ∈ gW := gW_n 405 (by decide +kernel) rfl
theorem kw_41 : (Cond.methodLink "AnimationController" (3 : Nat) ({ cls := "java/lang/Object", name := "<init>", desc := "()V" } : MethodName)) ∈ gW := gW_n 41 (by decide +kernel) rfl
theorem kw_434 : (Cond.fieldLink "AnimationController" (12 : Nat) "AnimationController" "model" "LAnimationController$Model;") ∈ gW := gW_n 434 (by decide +kernel) rfl
theorem kw_435 : (Cond.fieldLink "AnimationController" (21 : Nat) "AnimationController" "text" "LAnimationController$TransitionText;") ∈ gW := gW_n 435 (by decide +kernel) rfl
theorem kw_436 : (Cond.fieldLink "AnimationController" (28 : Nat) "AnimationController" "machine" "LAnimationController$Machine;") ∈ gW := gW_n 436 (by decide +kernel) rfl
theorem kw_437 : (Cond.fieldLink "AnimationController" (32 : Nat) "AnimationController" "foretold" "LAnimationController$Machine;") ∈ gW := gW_n 437 (by decide +kernel) rfl
theorem kw_438 : (Cond.fieldLink "AnimationController" (35 : Nat) "AnimationController" "images" "[LAnimationController$Machine;") ∈ gW := gW_n 438 (by decide +kernel) rfl
theorem kw_439 : (Cond.fieldLink "AnimationController" (39 : Nat) "AnimationController" "isKept" "[Z") ∈ gW := gW_n 439 (by decide +kernel) rfl
theorem kw_44 : (Cond.classLink "AnimationController" (9 : Nat) "AnimationController$Model") ∈ gW := gW_n 44 (by decide +kernel) rfl
theorem kw_440 : (Cond.fieldLink "AnimationController" (43 : Nat) "AnimationController" "distances" "[I") ∈ gW := gW_n 440 (by decide +kernel) rfl
theorem kw_45 : (Cond.instantiable "AnimationController$Model" (8 : Nat)) ∈ gW := gW_n 45 (by decide +kernel) rfl
theorem kw_465 : (Cond.methodLink "AnimationController" (266 : Nat) ({ cls := "AnimationController$TransitionText", name := "readAll", desc := "(Z)I" } : MethodName)) ∈ gW := gW_n 465 (by decide +kernel) rfl
theorem kw_466 : (Cond.instanceMethod ({ cls := "AnimationController$TransitionText", name := "readAll", desc := "(Z)I" } : MethodName)) ∈ gW := gW_n 466 (by decide +kernel) rfl
theorem kw_467 : (Cond.selects "AnimationController$TransitionText" ({ cls := "AnimationController$TransitionText", name := "readAll", desc := "(Z)I" } : MethodName) ({ cls := "AnimationController$TransitionText", name := "readAll", desc := "(Z)I" } : MethodName)) ∈ gW := gW_n 467 (by decide +kernel) rfl
theorem kw_468 : (Cond.code ({ cls := "AnimationController$TransitionText", name := "readAll", desc := "(Z)I" } : MethodName) prog_12_method_2_code (5 : Nat) (Option.some FieldType.int)) ∈ gW := gW_n 468 (by decide +kernel) rfl
theorem kw_469 : (Cond.methodLink "AnimationController$TransitionText" (42 : Nat) ({ cls := "java/util/ArrayList", name := "size", desc := "()I" } : MethodName)) ∈ gW := gW_n 469 (by decide +kernel) rfl
theorem kw_47 : (Cond.instanceMethod ({ cls := "AnimationController$Model", name := "<init>", desc := "()V" } : MethodName)) ∈ gW := gW_n 47 (by decide +kernel) rfl
theorem kw_470 : (Cond.instanceMethod ({ cls := "java/util/ArrayList", name := "size", desc := "()I" } : MethodName)) ∈ gW := gW_n 470 (by decide +kernel) rfl
theorem kw_471 : (Cond.selects "java/util/ArrayList" ({ cls := "java/util/ArrayList", name := "size", desc := "()I" } : MethodName) ({ cls := "java/util/ArrayList", name := "size", desc := "()I" } : MethodName)) ∈ gW := gW_n 471 (by decide +kernel) rfl
theorem kw_472 : (Cond.code ({ cls := "java/util/ArrayList", name := "size", desc := "()I" } : MethodName) prog_40_method_8_code (1 : Nat) (Option.some FieldType.int)) ∈ gW := gW_n 472 (by decide +kernel) rfl
theorem kw_473 : (Cond.methodLink "AnimationController$TransitionText" (48 : Nat) ({ cls := "AnimationController$TransitionText", name := "readTransition", desc := "()Z" } : MethodName)) ∈ gW := gW_n 473 (by decide +kernel) rfl
theorem kw_475 : (Cond.instanceMethod ({ cls := "AnimationController$TransitionText", name := "readTransition", desc := "()Z" } : MethodName)) ∈ gW := gW_n 475 (by decide +kernel) rfl
theorem kw_476 : (Cond.code ({ cls := "AnimationController$TransitionText", name := "readTransition", desc := "()Z" } : MethodName) prog_12_method_5_code (4 : Nat) (Option.some FieldType.boolean)) ∈ gW := gW_n 476 (by decide +kernel) rfl
theorem kw_477 : (Cond.methodLink "AnimationController$TransitionText" (55 : Nat) ({ cls := "AnimationController$TransitionText", name := "nextByte", desc := "()I" } : MethodName)) ∈ gW := gW_n 477 (by decide +kernel) rfl
theorem kw_479 : (Cond.instanceMethod ({ cls := "AnimationController$TransitionText", name := "nextByte", desc := "()I" } : MethodName)) ∈ gW := gW_n 479 (by decide +kernel) rfl
theorem kw_48 : (Cond.code ({ cls := "AnimationController$Model", name := "<init>", desc := "()V" } : MethodName) prog_6_method_1_code (1 : Nat) (Option.none : Option FieldType)) ∈ gW := gW_n 48 (by decide +kernel) rfl
theorem kw_480 : (Cond.code ({ cls := "AnimationController$TransitionText", name := "nextByte", desc := "()I" } : MethodName) prog_12_method_4_code (1 : Nat) (Option.some FieldType.int)) ∈ gW := gW_n 480 (by decide +kernel) rfl
theorem kw_481 : (Cond.methodLink "AnimationController$TransitionText" (72 : Nat) ({ cls := "AnimationController$TransitionText", name := "stateOf", desc := "(I)LAnimationController$State;" } : MethodName)) ∈ gW := gW_n 481 (by decide +kernel) rfl
theorem kw_483 : (Cond.instanceMethod ({ cls := "AnimationController$TransitionText", name := "stateOf", desc := "(I)LAnimationController$State;" } : MethodName)) ∈ gW := gW_n 483 (by decide +kernel) rfl
theorem kw_484 : (Cond.code ({ cls := "AnimationController$TransitionText", name := "stateOf", desc := "(I)LAnimationController$State;" } : MethodName) prog_12_method_11_code (3 : Nat) (Option.some (FieldType.object "AnimationController$State"))) ∈ gW := gW_n 484 (by decide +kernel) rfl
theorem kw_485 : (Cond.methodLink "AnimationController$TransitionText" (135 : Nat) ({ cls := "java/util/ArrayList", name := "get", desc := "(I)Ljava/lang/Object;" } : MethodName)) ∈ gW := gW_n 485 (by decide +kernel) rfl
theorem kw_486 : (Cond.instanceMethod ({ cls := "java/util/ArrayList", name := "get", desc := "(I)Ljava/lang/Object;" } : MethodName)) ∈ gW := gW_n 486 (by decide +kernel) rfl
theorem kw_487 : (Cond.selects "java/util/ArrayList" ({ cls := "java/util/ArrayList", name := "get", desc := "(I)Ljava/lang/Object;" } : MethodName) ({ cls := "java/util/ArrayList", name := "get", desc := "(I)Ljava/lang/Object;" } : MethodName)) ∈ gW := gW_n 487 (by decide +kernel) rfl
theorem kw_488 : (Cond.code ({ cls := "java/util/ArrayList", name := "get", desc := "(I)Ljava/lang/Object;" } : MethodName) prog_40_method_20_code (2 : Nat) (Option.some (FieldType.object "java/lang/Object"))) ∈ gW := gW_n 488 (by decide +kernel) rfl
theorem kw_489 : (Cond.methodLink "java/util/ArrayList" (118 : Nat) ({ cls := "java/util/Objects", name := "checkIndex", desc := "(II)I" } : MethodName)) ∈ gW := gW_n 489 (by decide +kernel) rfl
theorem kw_49 : (Cond.methodLink "AnimationController$Model" (3 : Nat) ({ cls := "java/lang/Object", name := "<init>", desc := "()V" } : MethodName)) ∈ gW := gW_n 49 (by decide +kernel) rfl
theorem kw_490 : (Cond.static ({ cls := "java/util/Objects", name := "checkIndex", desc := "(II)I" } : MethodName)) ∈ gW := gW_n 490 (by decide +kernel) rfl
theorem kw_491 : (Cond.code ({ cls := "java/util/Objects", name := "checkIndex", desc := "(II)I" } : MethodName) prog_44_method_17_code (2 : Nat) (Option.some FieldType.int)) ∈ gW := gW_n 491 (by decide +kernel) rfl
theorem kw_492 : (Cond.methodLink "java/util/Objects" (105 : Nat) ({ cls := "jdk/internal/util/Preconditions", name := "checkIndex", desc := "(IILjava/util/function/BiFunction;)I" } : MethodName)) ∈ gW := gW_n 492 (by decide +kernel) rfl
theorem kw_493 : (Cond.static ({ cls := "jdk/internal/util/Preconditions", name := "checkIndex", desc := "(IILjava/util/function/BiFunction;)I" } : MethodName)) ∈ gW := gW_n 493 (by decide +kernel) rfl
theorem kw_494 : (Cond.code ({ cls := "jdk/internal/util/Preconditions", name := "checkIndex", desc := "(IILjava/util/function/BiFunction;)I" } : MethodName) prog_48_method_11_code (3 : Nat) (Option.some FieldType.int)) ∈ gW := gW_n 494 (by decide +kernel) rfl
theorem kw_495 : (Cond.methodLink "java/util/ArrayList" (123 : Nat) ({ cls := "java/util/ArrayList", name := "elementData", desc := "(I)Ljava/lang/Object;" } : MethodName)) ∈ gW := gW_n 495 (by decide +kernel) rfl
theorem kw_496 : (Cond.instanceMethod ({ cls := "java/util/ArrayList", name := "elementData", desc := "(I)Ljava/lang/Object;" } : MethodName)) ∈ gW := gW_n 496 (by decide +kernel) rfl
theorem kw_497 : (Cond.selects "java/util/ArrayList" ({ cls := "java/util/ArrayList", name := "elementData", desc := "(I)Ljava/lang/Object;" } : MethodName) ({ cls := "java/util/ArrayList", name := "elementData", desc := "(I)Ljava/lang/Object;" } : MethodName)) ∈ gW := gW_n 497 (by decide +kernel) rfl
theorem kw_498 : (Cond.code ({ cls := "java/util/ArrayList", name := "elementData", desc := "(I)Ljava/lang/Object;" } : MethodName) prog_40_method_18_code (2 : Nat) (Option.some (FieldType.object "java/lang/Object"))) ∈ gW := gW_n 498 (by decide +kernel) rfl
theorem kw_499 : (Cond.classLink "AnimationController$TransitionText" (139 : Nat) "AnimationController$State") ∈ gW := gW_n 499 (by decide +kernel) rfl
theorem kw_5 : (Cond.initialized "java/util/ArrayList") ∈ gW := gW_n 5 (by decide +kernel) rfl
theorem kw_50 : (Cond.classLink "AnimationController$Model" (15 : Nat) "java/util/ArrayList") ∈ gW := gW_n 50 (by decide +kernel) rfl
theorem kw_500 : (Cond.methodLink "AnimationController$TransitionText" (76 : Nat) ({ cls := "AnimationController$TransitionText", name := "readSign", desc := "(I)Z" } : MethodName)) ∈ gW := gW_n 500 (by decide +kernel) rfl
theorem kw_502 : (Cond.instanceMethod ({ cls := "AnimationController$TransitionText", name := "readSign", desc := "(I)Z" } : MethodName)) ∈ gW := gW_n 502 (by decide +kernel) rfl
theorem kw_503 : (Cond.code ({ cls := "AnimationController$TransitionText", name := "readSign", desc := "(I)Z" } : MethodName) prog_12_method_9_code (2 : Nat) (Option.some FieldType.boolean)) ∈ gW := gW_n 503 (by decide +kernel) rfl
theorem kw_504 : (Cond.methodLink "AnimationController$TransitionText" (80 : Nat) ({ cls := "AnimationController$TransitionText", name := "readNumber", desc := "(I)I" } : MethodName)) ∈ gW := gW_n 504 (by decide +kernel) rfl
theorem kw_506 : (Cond.instanceMethod ({ cls := "AnimationController$TransitionText", name := "readNumber", desc := "(I)I" } : MethodName)) ∈ gW := gW_n 506 (by decide +kernel) rfl
theorem kw_507 : (Cond.code ({ cls := "AnimationController$TransitionText", name := "readNumber", desc := "(I)I" } : MethodName) prog_12_method_10_code (5 : Nat) (Option.some FieldType.int)) ∈ gW := gW_n 507 (by decide +kernel) rfl
theorem kw_508 : (Cond.methodLink "AnimationController$TransitionText" (84 : Nat) ({ cls := "AnimationController$Transition", name := "begin", desc := "(LAnimationController$State;LAnimationController$State;I)V" } : MethodName)) ∈ gW := gW_n 508 (by decide +kernel) rfl
theorem kw_509 : (Cond.instanceMethod ({ cls := "AnimationController$Transition", name := "begin", desc := "(LAnimationController$State;LAnimationController$State;I)V" } : MethodName)) ∈ gW := gW_n 509 (by decide +kernel) rfl
theorem kw_51 : (Cond.instantiable "java/util/ArrayList" (3 : Nat)) ∈ gW := gW_n 51 (by decide +kernel) rfl
theorem kw_510 : (Cond.selects "AnimationController$Transition" ({ cls := "AnimationController$Transition", name := "begin", desc := "(LAnimationController$State;LAnimationController$State;I)V" } : MethodName) ({ cls := "AnimationController$Transition", name := "begin", desc := "(LAnimationController$State;LAnimationController$State;I)V" } : MethodName)) ∈ gW := gW_n 510 (by decide +kernel) rfl
theorem kw_511 : (Cond.code ({ cls := "AnimationController$Transition", name := "begin", desc := "(LAnimationController$State;LAnimationController$State;I)V" } : MethodName) prog_11_method_2_code (4 : Nat) (Option.none : Option FieldType)) ∈ gW := gW_n 511 (by decide +kernel) rfl
theorem kw_512 : (Cond.methodLink "AnimationController$TransitionText" (88 : Nat) ({ cls := "AnimationController$TransitionText", name := "readAttributes", desc := "()Z" } : MethodName)) ∈ gW := gW_n 512 (by decide +kernel) rfl
theorem kw_514 : (Cond.instanceMethod ({ cls := "AnimationController$TransitionText", name := "readAttributes", desc := "()Z" } : MethodName)) ∈ gW := gW_n 514 (by decide +kernel) rfl
theorem kw_515 : (Cond.code ({ cls := "AnimationController$TransitionText", name := "readAttributes", desc := "()Z" } : MethodName) prog_12_method_6_code (7 : Nat) (Option.some FieldType.boolean)) ∈ gW := gW_n 515 (by decide +kernel) rfl
theorem kw_516 : (Cond.methodLink "AnimationController$TransitionText" (91 : Nat) ({ cls := "AnimationController$TransitionText", name := "markOf", desc := "(I)I" } : MethodName)) ∈ gW := gW_n 516 (by decide +kernel) rfl
theorem kw_517 : (Cond.static ({ cls := "AnimationController$TransitionText", name := "markOf", desc := "(I)I" } : MethodName)) ∈ gW := gW_n 517 (by decide +kernel) rfl
theorem kw_518 : (Cond.code ({ cls := "AnimationController$TransitionText", name := "markOf", desc := "(I)I" } : MethodName) prog_12_method_13_code (1 : Nat) (Option.some FieldType.int)) ∈ gW := gW_n 518 (by decide +kernel) rfl
theorem kw_519 : (Cond.methodLink "AnimationController$TransitionText" (100 : Nat) ({ cls := "AnimationController$TransitionText", name := "readAttribute", desc := "(I)Z" } : MethodName)) ∈ gW := gW_n 519 (by decide +kernel) rfl
theorem kw_52 : (Cond.methodLink "AnimationController$Model" (17 : Nat) ({ cls := "java/util/ArrayList", name := "<init>", desc := "()V" } : MethodName)) ∈ gW := gW_n 52 (by decide +kernel) rfl
theorem kw_521 : (Cond.instanceMethod ({ cls := "AnimationController$TransitionText", name := "readAttribute", desc := "(I)Z" } : MethodName)) ∈ gW := gW_n 521 (by decide +kernel) rfl
theorem kw_522 : (Cond.code ({ cls := "AnimationController$TransitionText", name := "readAttribute", desc := "(I)Z" } : MethodName) prog_12_method_7_code (2 : Nat) (Option.some FieldType.boolean)) ∈ gW := gW_n 522 (by decide +kernel) rfl
theorem kw_523 : (Cond.methodLink "AnimationController$TransitionText" (116 : Nat) ({ cls := "AnimationController$TransitionText", name := "readCondition", desc := "()Z" } : MethodName)) ∈ gW := gW_n 523 (by decide +kernel) rfl
theorem kw_525 : (Cond.instanceMethod ({ cls := "AnimationController$TransitionText", name := "readCondition", desc := "()Z" } : MethodName)) ∈ gW := gW_n 525 (by decide +kernel) rfl
theorem kw_526 : (Cond.code ({ cls := "AnimationController$TransitionText", name := "readCondition", desc := "()Z" } : MethodName) prog_12_method_8_code (7 : Nat) (Option.some FieldType.boolean)) ∈ gW := gW_n 526 (by decide +kernel) rfl
theorem kw_527 : (Cond.methodLink "AnimationController$TransitionText" (119 : Nat) ({ cls := "AnimationController$TransitionText", name := "parameterOf", desc := "(I)I" } : MethodName)) ∈ gW := gW_n 527 (by decide +kernel) rfl
theorem kw_528 : (Cond.static ({ cls := "AnimationController$TransitionText", name := "parameterOf", desc := "(I)I" } : MethodName)) ∈ gW := gW_n 528 (by decide +kernel) rfl
theorem kw_529 : (Cond.code ({ cls := "AnimationController$TransitionText", name := "parameterOf", desc := "(I)I" } : MethodName) prog_12_method_12_code (1 : Nat) (Option.some FieldType.int)) ∈ gW := gW_n 529 (by decide +kernel) rfl
theorem kw_53 : (Cond.instanceMethod ({ cls := "java/util/ArrayList", name := "<init>", desc := "()V" } : MethodName)) ∈ gW := gW_n 53 (by decide +kernel) rfl
theorem kw_530 : (Cond.methodLink "AnimationController$TransitionText" (122 : Nat) ({ cls := "AnimationController$Model", name := "kindOf", desc := "(I)I" } : MethodName)) ∈ gW := gW_n 530 (by decide +kernel) rfl
theorem kw_531 : (Cond.instanceMethod ({ cls := "AnimationController$Model", name := "kindOf", desc := "(I)I" } : MethodName)) ∈ gW := gW_n 531 (by decide +kernel) rfl
theorem kw_532 : (Cond.selects "AnimationController$Model" ({ cls := "AnimationController$Model", name := "kindOf", desc := "(I)I" } : MethodName) ({ cls := "AnimationController$Model", name := "kindOf", desc := "(I)I" } : MethodName)) ∈ gW := gW_n 532 (by decide +kernel) rfl
theorem kw_533 : (Cond.code ({ cls := "AnimationController$Model", name := "kindOf", desc := "(I)I" } : MethodName) prog_6_method_3_code (2 : Nat) (Option.some FieldType.int)) ∈ gW := gW_n 533 (by decide +kernel) rfl
theorem kw_534 : (Cond.methodLink "AnimationController$TransitionText" (125 : Nat) ({ cls := "AnimationController$Transition", name := "appendCondition", desc := "(III)V" } : MethodName)) ∈ gW := gW_n 534 (by decide +kernel) rfl
theorem kw_535 : (Cond.instanceMethod ({ cls := "AnimationController$Transition", name := "appendCondition", desc := "(III)V" } : MethodName)) ∈ gW := gW_n 535 (by decide +kernel) rfl
theorem kw_536 : (Cond.selects "AnimationController$Transition" ({ cls := "AnimationController$Transition", name := "appendCondition", desc := "(III)V" } : MethodName) ({ cls := "AnimationController$Transition", name := "appendCondition", desc := "(III)V" } : MethodName)) ∈ gW := gW_n 536 (by decide +kernel) rfl
theorem kw_537 : (Cond.code ({ cls := "AnimationController$Transition", name := "appendCondition", desc := "(III)V" } : MethodName) prog_11_method_4_code (4 : Nat) (Option.none : Option FieldType)) ∈ gW := gW_n 537 (by decide +kernel) rfl
theorem kw_538 : (Cond.methodLink "AnimationController$TransitionText" (129 : Nat) ({ cls := "AnimationController$TransitionText", name := "operatorOf", desc := "(I)I" } : MethodName)) ∈ gW := gW_n 538 (by decide +kernel) rfl
theorem kw_539 : (Cond.static ({ cls := "AnimationController$TransitionText", name := "operatorOf", desc := "(I)I" } : MethodName)) ∈ gW := gW_n 539 (by decide +kernel) rfl
theorem kw_54 : (Cond.code ({ cls := "java/util/ArrayList", name := "<init>", desc := "()V" } : MethodName) prog_40_method_2_code (1 : Nat) (Option.none : Option FieldType)) ∈ gW := gW_n 54 (by decide +kernel) rfl
theorem kw_540 : (Cond.code ({ cls := "AnimationController$TransitionText", name := "operatorOf", desc := "(I)I" } : MethodName) prog_12_method_14_code (1 : Nat) (Option.some FieldType.int)) ∈ gW := gW_n 540 (by decide +kernel) rfl
theorem kw_541 : (Cond.methodLink "AnimationController$TransitionText" (52 : Nat) ({ cls := "AnimationController$TransitionText", name := "addDraft", desc := "()V" } : MethodName)) ∈ gW := gW_n 541 (by decide +kernel) rfl
theorem kw_543 : (Cond.instanceMethod ({ cls := "AnimationController$TransitionText", name := "addDraft", desc := "()V" } : MethodName)) ∈ gW := gW_n 543 (by decide +kernel) rfl
theorem kw_544 : (Cond.code ({ cls := "AnimationController$TransitionText", name := "addDraft", desc := "()V" } : MethodName) prog_12_method_3_code (2 : Nat) (Option.none : Option FieldType)) ∈ gW := gW_n 544 (by decide +kernel) rfl
theorem kw_545 : (Cond.methodLink "AnimationController$TransitionText" (61 : Nat) ({ cls := "AnimationController$Transition", name := "copyFrom", desc := "(LAnimationController$Transition;)V" } : MethodName)) ∈ gW := gW_n 545 (by decide +kernel) rfl
theorem kw_546 : (Cond.instanceMethod ({ cls := "AnimationController$Transition", name := "copyFrom", desc := "(LAnimationController$Transition;)V" } : MethodName)) ∈ gW := gW_n 546 (by decide +kernel) rfl
theorem kw_547 : (Cond.selects "AnimationController$Transition" ({ cls := "AnimationController$Transition", name := "copyFrom", desc := "(LAnimationController$Transition;)V" } : MethodName) ({ cls := "AnimationController$Transition", name := "copyFrom", desc := "(LAnimationController$Transition;)V" } : MethodName)) ∈ gW := gW_n 547 (by decide +kernel) rfl
theorem kw_548 : (Cond.code ({ cls := "AnimationController$Transition", name := "copyFrom", desc := "(LAnimationController$Transition;)V" } : MethodName) prog_11_method_3_code (3 : Nat) (Option.none : Option FieldType)) ∈ gW := gW_n 548 (by decide +kernel) rfl
theorem kw_549 : (Cond.methodLink "AnimationController$Transition" (51 : Nat) ({ cls := "AnimationController$Transition", name := "begin", desc := "(LAnimationController$State;LAnimationController$State;I)V" } : MethodName)) ∈ gW := gW_n 549 (by decide +kernel) rfl
theorem kw_55 : (Cond.methodLink "java/util/ArrayList" (1 : Nat) ({ cls := "java/util/AbstractList", name := "<init>", desc := "()V" } : MethodName)) ∈ gW := gW_n 55 (by decide +kernel) rfl
theorem kw_550 : (Cond.methodLink "AnimationController$Transition" (55 : Nat) ({ cls := "AnimationController$Transition", name := "appendCondition", desc := "(III)V" } : MethodName)) ∈ gW := gW_n 550 (by decide +kernel) rfl
theorem kw_551 : (Cond.methodLink "AnimationController$TransitionText" (65 : Nat) ({ cls := "java/util/ArrayList", name := "add", desc := "(Ljava/lang/Object;)Z" } : MethodName)) ∈ gW := gW_n 551 (by decide +kernel) rfl
theorem kw_552 : (Cond.instanceMethod ({ cls := "java/util/ArrayList", name := "add", desc := "(Ljava/lang/Object;)Z" } : MethodName)) ∈ gW := gW_n 552 (by decide +kernel) rfl
theorem kw_553 : (Cond.selects "java/util/ArrayList" ({ cls := "java/util/ArrayList", name := "add", desc := "(Ljava/lang/Object;)Z" } : MethodName) ({ cls := "java/util/ArrayList", name := "add", desc := "(Ljava/lang/Object;)Z" } : MethodName)) ∈ gW := gW_n 553 (by decide +kernel) rfl
theorem kw_554 : (Cond.code ({ cls := "java/util/ArrayList", name := "add", desc := "(Ljava/lang/Object;)Z" } : MethodName) prog_40_method_25_code (2 : Nat) (Option.some FieldType.boolean)) ∈ gW := gW_n 554 (by decide +kernel) rfl
theorem kw_555 : (Cond.methodLink "java/util/ArrayList" (131 : Nat) ({ cls := "java/util/ArrayList", name := "add", desc := "(Ljava/lang/Object;[Ljava/lang/Object;I)V" } : MethodName)) ∈ gW := gW_n 555 (by decide +kernel) rfl
theorem kw_557 : (Cond.instanceMethod ({ cls := "java/util/ArrayList", name := "add", desc := "(Ljava/lang/Object;[Ljava/lang/Object;I)V" } : MethodName)) ∈ gW := gW_n 557 (by decide +kernel) rfl
theorem kw_558 : (Cond.code ({ cls := "java/util/ArrayList", name := "add", desc := "(Ljava/lang/Object;[Ljava/lang/Object;I)V" } : MethodName) prog_40_method_24_code (4 : Nat) (Option.none : Option FieldType)) ∈ gW := gW_n 558 (by decide +kernel) rfl
theorem kw_559 : (Cond.methodLink "java/util/ArrayList" (129 : Nat) ({ cls := "java/util/ArrayList", name := "grow", desc := "()[Ljava/lang/Object;" } : MethodName)) ∈ gW := gW_n 559 (by decide +kernel) rfl
theorem kw_56 : (Cond.instanceMethod ({ cls := "java/util/AbstractList", name := "<init>", desc := "()V" } : MethodName)) ∈ gW := gW_n 56 (by decide +kernel) rfl
theorem kw_561 : (Cond.instanceMethod ({ cls := "java/util/ArrayList", name := "grow", desc := "()[Ljava/lang/Object;" } : MethodName)) ∈ gW := gW_n 561 (by decide +kernel) rfl
theorem kw_562 : (Cond.code ({ cls := "java/util/ArrayList", name := "grow", desc := "()[Ljava/lang/Object;" } : MethodName) prog_40_method_7_code (1 : Nat) (Option.some (FieldType.array (FieldType.object "java/lang/Object")))) ∈ gW := gW_n 562 (by decide +kernel) rfl
theorem kw_563 : (Cond.methodLink "java/util/ArrayList" (69 : Nat) ({ cls := "java/util/ArrayList", name := "grow", desc := "(I)[Ljava/lang/Object;" } : MethodName)) ∈ gW := gW_n 563 (by decide +kernel) rfl
theorem kw_565 : (Cond.instanceMethod ({ cls := "java/util/ArrayList", name := "grow", desc := "(I)[Ljava/lang/Object;" } : MethodName)) ∈ gW := gW_n 565 (by decide +kernel) rfl
theorem kw_566 : (Cond.code ({ cls := "java/util/ArrayList", name := "grow", desc := "(I)[Ljava/lang/Object;" } : MethodName) prog_40_method_6_code (4 : Nat) (Option.some (FieldType.array (FieldType.object "java/lang/Object")))) ∈ gW := gW_n 566 (by decide +kernel) rfl
theorem kw_567 : (Cond.methodLink "java/util/ArrayList" (73 : Nat) ({ cls := "jdk/internal/util/ArraysSupport", name := "newLength", desc := "(III)I" } : MethodName)) ∈ gW := gW_n 567 (by decide +kernel) rfl
theorem kw_568 : (Cond.static ({ cls := "jdk/internal/util/ArraysSupport", name := "newLength", desc := "(III)I" } : MethodName)) ∈ gW := gW_n 568 (by decide +kernel) rfl
theorem kw_569 : (Cond.code ({ cls := "jdk/internal/util/ArraysSupport", name := "newLength", desc := "(III)I" } : MethodName) prog_47_method_27_code (4 : Nat) (Option.some FieldType.int)) ∈ gW := gW_n 569 (by decide +kernel) rfl
theorem kw_57 : (Cond.code ({ cls := "java/util/AbstractList", name := "<init>", desc := "()V" } : MethodName) prog_39_method_1_code (1 : Nat) (Option.none : Option FieldType)) ∈ gW := gW_n 57 (by decide +kernel) rfl
theorem kw_570 : (Cond.methodLink "jdk/internal/util/ArraysSupport" (194 : Nat) ({ cls := "java/lang/Math", name := "max", desc := "(II)I" } : MethodName)) ∈ gW := gW_n 570 (by decide +kernel) rfl
theorem kw_571 : (Cond.static ({ cls := "java/lang/Math", name := "max", desc := "(II)I" } : MethodName)) ∈ gW := gW_n 571 (by decide +kernel) rfl
theorem kw_572 : (Cond.code ({ cls := "java/lang/Math", name := "max", desc := "(II)I" } : MethodName) prog_27_method_65_code (2 : Nat) (Option.some FieldType.int)) ∈ gW := gW_n 572 (by decide +kernel) rfl
theorem kw_573 : (Cond.constant "jdk/internal/util/ArraysSupport" (200 : Nat) (2147483639 : Int32)) ∈ gW := gW_n 573 (by decide +kernel) rfl
theorem kw_577 : (Cond.methodLink "java/util/ArrayList" (66 : Nat) ({ cls := "java/util/Arrays", name := "copyOf", desc := "([Ljava/lang/Object;I)[Ljava/lang/Object;" } : MethodName)) ∈ gW := gW_n 577 (by decide +kernel) rfl
theorem kw_578 : (Cond.static ({ cls := "java/util/Arrays", name := "copyOf", desc := "([Ljava/lang/Object;I)[Ljava/lang/Object;" } : MethodName)) ∈ gW := gW_n 578 (by decide +kernel) rfl
theorem kw_579 : (Cond.code ({ cls := "java/util/Arrays", name := "copyOf", desc := "([Ljava/lang/Object;I)[Ljava/lang/Object;" } : MethodName) prog_41_method_119_code (2 : Nat) (Option.some (FieldType.array (FieldType.object "java/lang/Object")))) ∈ gW := gW_n 579 (by decide +kernel) rfl
theorem kw_58 : (Cond.methodLink "java/util/AbstractList" (1 : Nat) ({ cls := "java/util/AbstractCollection", name := "<init>", desc := "()V" } : MethodName)) ∈ gW := gW_n 58 (by decide +kernel) rfl
theorem kw_580 : (Cond.methodLink "java/util/Arrays" (86 : Nat) ({ cls := "java/lang/Object", name := "getClass", desc := "()Ljava/lang/Class;" } : MethodName)) ∈ gW := gW_n 580 (by decide +kernel) rfl
theorem kw_581 : (Cond.instanceMethod ({ cls := "java/lang/Object", name := "getClass", desc := "()Ljava/lang/Class;" } : MethodName)) ∈ gW := gW_n 581 (by decide +kernel) rfl
theorem kw_59 : (Cond.instanceMethod ({ cls := "java/util/AbstractCollection", name := "<init>", desc := "()V" } : MethodName)) ∈ gW := gW_n 59 (by decide +kernel) rfl
theorem kw_6 : (Cond.initialized "AnimationController$State") ∈ gW := gW_n 6 (by decide +kernel) rfl
theorem kw_60 : (Cond.code ({ cls := "java/util/AbstractCollection", name := "<init>", desc := "()V" } : MethodName) prog_38_method_1_code (1 : Nat) (Option.none : Option FieldType)) ∈ gW := gW_n 60 (by decide +kernel) rfl
theorem kw_602 : (Cond.native ({ cls := "java/lang/Object", name := "getClass", desc := "()Ljava/lang/Class;" } : MethodName)) ∈ gW := gW_n 602 (by decide +kernel) rfl
theorem kw_603 : (Cond.methodLink "java/util/Arrays" (300 : Nat) ({ cls := "java/util/Arrays", name := "copyOf", desc := "([Ljava/lang/Object;ILjava/lang/Class;)[Ljava/lang/Object;" } : MethodName)) ∈ gW := gW_n 603 (by decide +kernel) rfl
theorem kw_604 : (Cond.static ({ cls := "java/util/Arrays", name := "copyOf", desc := "([Ljava/lang/Object;ILjava/lang/Class;)[Ljava/lang/Object;" } : MethodName)) ∈ gW := gW_n 604 (by decide +kernel) rfl
theorem kw_605 : (Cond.code ({ cls := "java/util/Arrays", name := "copyOf", desc := "([Ljava/lang/Object;ILjava/lang/Class;)[Ljava/lang/Object;" } : MethodName) prog_41_method_120_code (4 : Nat) (Option.some (FieldType.array (FieldType.object "java/lang/Object")))) ∈ gW := gW_n 605 (by decide +kernel) rfl
theorem kw_606 : (Cond.classLink "java/util/Arrays" (110 : Nat) "[Ljava/lang/Object;") ∈ gW := gW_n 606 (by decide +kernel) rfl
theorem kw_608 : (Cond.classLink "java/util/Arrays" (2 : Nat) "java/lang/Object") ∈ gW := gW_n 608 (by decide +kernel) rfl
theorem kw_609 : (Cond.methodLink "java/util/Arrays" (304 : Nat) ({ cls := "java/lang/Math", name := "min", desc := "(II)I" } : MethodName)) ∈ gW := gW_n 609 (by decide +kernel) rfl
theorem kw_61 : (Cond.methodLink "java/util/AbstractCollection" (1 : Nat) ({ cls := "java/lang/Object", name := "<init>", desc := "()V" } : MethodName)) ∈ gW := gW_n 61 (by decide +kernel) rfl
theorem kw_610 : (Cond.static ({ cls := "java/lang/Math", name := "min", desc := "(II)I" } : MethodName)) ∈ gW := gW_n 610 (by decide +kernel) rfl
theorem kw_611 : (Cond.code ({ cls := "java/lang/Math", name := "min", desc := "(II)I" } : MethodName) prog_27_method_69_code (2 : Nat) (Option.some FieldType.int)) ∈ gW := gW_n 611 (by decide +kernel) rfl
theorem kw_612 : (Cond.methodLink "java/util/Arrays" (150 : Nat) ({ cls := "java/lang/System", name := "arraycopy", desc := "(Ljava/lang/Object;ILjava/lang/Object;II)V" } : MethodName)) ∈ gW := gW_n 612 (by decide +kernel) rfl
theorem kw_613 : (Cond.static ({ cls := "java/lang/System", name := "arraycopy", desc := "(Ljava/lang/Object;ILjava/lang/Object;II)V" } : MethodName)) ∈ gW := gW_n 613 (by decide +kernel) rfl
theorem kw_614 : (Cond.native ({ cls := "java/lang/System", name := "arraycopy", desc := "(Ljava/lang/Object;ILjava/lang/Object;II)V" } : MethodName)) ∈ gW := gW_n 614 (by decide +kernel) rfl
theorem kw_615 : (Cond.methodLink "java/util/ArrayList" (79 : Nat) ({ cls := "java/lang/Math", name := "max", desc := "(II)I" } : MethodName)) ∈ gW := gW_n 615 (by decide +kernel) rfl
theorem kw_616 : (Cond.classLink "java/util/ArrayList" (7 : Nat) "java/lang/Object") ∈ gW := gW_n 616 (by decide +kernel) rfl
theorem kw_62 : (Cond.fieldLink "java/util/ArrayList" (39 : Nat) "java/util/ArrayList" "DEFAULTCAPACITY_EMPTY_ELEMENTDATA" "[Ljava/lang/Object;") ∈ gW := gW_n 62 (by decide +kernel) rfl
theorem kw_621 : (Cond.methodLink "AnimationController" (293 : Nat) ({ cls := "AnimationController$Machine", name := "forget", desc := "()V" } : MethodName)) ∈ gW := gW_n 621 (by decide +kernel) rfl
theorem kw_622 : (Cond.instanceMethod ({ cls := "AnimationController$Machine", name := "forget", desc := "()V" } : MethodName)) ∈ gW := gW_n 622 (by decide +kernel) rfl
theorem kw_623 : (Cond.selects "AnimationController$Machine" ({ cls := "AnimationController$Machine", name := "forget", desc := "()V" } : MethodName) ({ cls := "AnimationController$Machine", name := "forget", desc := "()V" } : MethodName)) ∈ gW := gW_n 623 (by decide +kernel) rfl
theorem kw_624 : (Cond.code ({ cls := "AnimationController$Machine", name := "forget", desc := "()V" } : MethodName) prog_5_method_4_code (2 : Nat) (Option.none : Option FieldType)) ∈ gW := gW_n 624 (by decide +kernel) rfl
theorem kw_625 : (Cond.methodLink "AnimationController" (296 : Nat) ({ cls := "java/util/ArrayList", name := "isEmpty", desc := "()Z" } : MethodName)) ∈ gW := gW_n 625 (by decide +kernel) rfl
theorem kw_626 : (Cond.instanceMethod ({ cls := "java/util/ArrayList", name := "isEmpty", desc := "()Z" } : MethodName)) ∈ gW := gW_n 626 (by decide +kernel) rfl
theorem kw_627 : (Cond.selects "java/util/ArrayList" ({ cls := "java/util/ArrayList", name := "isEmpty", desc := "()Z" } : MethodName) ({ cls := "java/util/ArrayList", name := "isEmpty", desc := "()Z" } : MethodName)) ∈ gW := gW_n 627 (by decide +kernel) rfl
theorem kw_628 : (Cond.code ({ cls := "java/util/ArrayList", name := "isEmpty", desc := "()Z" } : MethodName) prog_40_method_9_code (1 : Nat) (Option.some FieldType.boolean)) ∈ gW := gW_n 628 (by decide +kernel) rfl
theorem kw_629 : (Cond.methodLink "AnimationController" (302 : Nat) ({ cls := "java/util/ArrayList", name := "get", desc := "(I)Ljava/lang/Object;" } : MethodName)) ∈ gW := gW_n 629 (by decide +kernel) rfl
theorem kw_630 : (Cond.classLink "AnimationController" (178 : Nat) "AnimationController$State") ∈ gW := gW_n 630 (by decide +kernel) rfl
theorem kw_631 : (Cond.methodLink "AnimationController" (183 : Nat) ({ cls := "AnimationController$Machine", name := "beginIn", desc := "(LAnimationController$State;)V" } : MethodName)) ∈ gW := gW_n 631 (by decide +kernel) rfl
theorem kw_632 : (Cond.instanceMethod ({ cls := "AnimationController$Machine", name := "beginIn", desc := "(LAnimationController$State;)V" } : MethodName)) ∈ gW := gW_n 632 (by decide +kernel) rfl
theorem kw_633 : (Cond.selects "AnimationController$Machine" ({ cls := "AnimationController$Machine", name := "beginIn", desc := "(LAnimationController$State;)V" } : MethodName) ({ cls := "AnimationController$Machine", name := "beginIn", desc := "(LAnimationController$State;)V" } : MethodName)) ∈ gW := gW_n 633 (by decide +kernel) rfl
theorem kw_634 : (Cond.code ({ cls := "AnimationController$Machine", name := "beginIn", desc := "(LAnimationController$State;)V" } : MethodName) prog_5_method_3_code (2 : Nat) (Option.none : Option FieldType)) ∈ gW := gW_n 634 (by decide +kernel) rfl
theorem kw_635 : (Cond.methodLink "AnimationController$Machine" (95 : Nat) ({ cls := "AnimationController$Track", name := "begin", desc := "(LAnimationController$State;I)V" } : MethodName)) ∈ gW := gW_n 635 (by decide +kernel) rfl
theorem kw_636 : (Cond.instanceMethod ({ cls := "AnimationController$Track", name := "begin", desc := "(LAnimationController$State;I)V" } : MethodName)) ∈ gW := gW_n 636 (by decide +kernel) rfl
theorem kw_637 : (Cond.selects "AnimationController$Track" ({ cls := "AnimationController$Track", name := "begin", desc := "(LAnimationController$State;I)V" } : MethodName) ({ cls := "AnimationController$Track", name := "begin", desc := "(LAnimationController$State;I)V" } : MethodName)) ∈ gW := gW_n 637 (by decide +kernel) rfl
theorem kw_638 : (Cond.code ({ cls := "AnimationController$Track", name := "begin", desc := "(LAnimationController$State;I)V" } : MethodName) prog_10_method_2_code (3 : Nat) (Option.none : Option FieldType)) ∈ gW := gW_n 638 (by decide +kernel) rfl
theorem kw_639 : (Cond.methodLink "AnimationController$Machine" (99 : Nat) ({ cls := "AnimationController$Machine", name := "becomeIdle", desc := "()V" } : MethodName)) ∈ gW := gW_n 639 (by decide +kernel) rfl
theorem kw_64 : (Cond.fieldLink "java/util/ArrayList" (9 : Nat) "java/util/ArrayList" "elementData" "[Ljava/lang/Object;") ∈ gW := gW_n 64 (by decide +kernel) rfl
theorem kw_641 : (Cond.instanceMethod ({ cls := "AnimationController$Machine", name := "becomeIdle", desc := "()V" } : MethodName)) ∈ gW := gW_n 641 (by decide +kernel) rfl
theorem kw_642 : (Cond.code ({ cls := "AnimationController$Machine", name := "becomeIdle", desc := "()V" } : MethodName) prog_5_method_16_code (1 : Nat) (Option.none : Option FieldType)) ∈ gW := gW_n 642 (by decide +kernel) rfl
theorem kw_643 : (Cond.methodLink "AnimationController$Machine" (67 : Nat) ({ cls := "AnimationController$Track", name := "copyFrom", desc := "(LAnimationController$Track;)V" } : MethodName)) ∈ gW := gW_n 643 (by decide +kernel) rfl
theorem kw_644 : (Cond.instanceMethod ({ cls := "AnimationController$Track", name := "copyFrom", desc := "(LAnimationController$Track;)V" } : MethodName)) ∈ gW := gW_n 644 (by decide +kernel) rfl
theorem kw_645 : (Cond.selects "AnimationController$Track" ({ cls := "AnimationController$Track", name := "copyFrom", desc := "(LAnimationController$Track;)V" } : MethodName) ({ cls := "AnimationController$Track", name := "copyFrom", desc := "(LAnimationController$Track;)V" } : MethodName)) ∈ gW := gW_n 645 (by decide +kernel) rfl
theorem kw_646 : (Cond.code ({ cls := "AnimationController$Track", name := "copyFrom", desc := "(LAnimationController$Track;)V" } : MethodName) prog_10_method_3_code (2 : Nat) (Option.none : Option FieldType)) ∈ gW := gW_n 646 (by decide +kernel) rfl
theorem kw_65 : (Cond.fieldLink "java/util/ArrayList" (48 : Nat) "java/util/ArrayList" "size" "I") ∈ gW := gW_n 65 (by decide +kernel) rfl
theorem kw_66 : (Cond.fieldLink "java/util/AbstractList" (7 : Nat) "java/util/AbstractList" "modCount" "I") ∈ gW := gW_n 66 (by decide +kernel) rfl
theorem kw_667 : (Cond.methodLink "AnimationController" (368 : Nat) ({ cls := "AnimationController", name := "presentPose", desc := "()LAnimationController$Pose;" } : MethodName)) ∈ gW := gW_n 667 (by decide +kernel) rfl
theorem kw_669 : (Cond.instanceMethod ({ cls := "AnimationController", name := "presentPose", desc := "()LAnimationController$Pose;" } : MethodName)) ∈ gW := gW_n 669 (by decide +kernel) rfl
theorem kw_67 : (Cond.fieldLink "java/util/ArrayList" (63 : Nat) "java/util/ArrayList" "modCount" "I") ∈ gW := gW_n 67 (by decide +kernel) rfl
theorem kw_670 : (Cond.code ({ cls := "AnimationController", name := "presentPose", desc := "()LAnimationController$Pose;" } : MethodName) prog_1_method_52_code (1 : Nat) (Option.some (FieldType.object "AnimationController$Pose"))) ∈ gW := gW_n 670 (by decide +kernel) rfl
theorem kw_671 : (Cond.methodLink "AnimationController" (444 : Nat) ({ cls := "AnimationController$Machine", name := "fillPose", desc := "()V" } : MethodName)) ∈ gW := gW_n 671 (by decide +kernel) rfl
theorem kw_672 : (Cond.instanceMethod ({ cls := "AnimationController$Machine", name := "fillPose", desc := "()V" } : MethodName)) ∈ gW := gW_n 672 (by decide +kernel) rfl
theorem kw_673 : (Cond.selects "AnimationController$Machine" ({ cls := "AnimationController$Machine", name := "fillPose", desc := "()V" } : MethodName) ({ cls := "AnimationController$Machine", name := "fillPose", desc := "()V" } : MethodName)) ∈ gW := gW_n 673 (by decide +kernel) rfl
theorem kw_674 : (Cond.code ({ cls := "AnimationController$Machine", name := "fillPose", desc := "()V" } : MethodName) prog_5_method_26_code (2 : Nat) (Option.none : Option FieldType)) ∈ gW := gW_n 674 (by decide +kernel) rfl
theorem kw_675 : (Cond.constant "AnimationController$Machine" (111 : Nat) (1000000 : Int32)) ∈ gW := gW_n 675 (by decide +kernel) rfl
theorem kw_676 : (Cond.methodLink "AnimationController$Machine" (321 : Nat) ({ cls := "AnimationController$Machine", name := "addTrackPose", desc := "(LAnimationController$Track;I)V" } : MethodName)) ∈ gW := gW_n 676 (by decide +kernel) rfl
theorem kw_678 : (Cond.instanceMethod ({ cls := "AnimationController$Machine", name := "addTrackPose", desc := "(LAnimationController$Track;I)V" } : MethodName)) ∈ gW := gW_n 678 (by decide +kernel) rfl
theorem kw_679 : (Cond.code ({ cls := "AnimationController$Machine", name := "addTrackPose", desc := "(LAnimationController$Track;I)V" } : MethodName) prog_5_method_27_code (6 : Nat) (Option.none : Option FieldType)) ∈ gW := gW_n 679 (by decide +kernel) rfl
theorem kw_68 : (Cond.sameField "java/util/ArrayList" "java/util/AbstractList" "modCount" "I") ∈ gW := gW_n 68 (by decide +kernel) rfl
theorem kw_680 : (Cond.methodLink "AnimationController$Machine" (112 : Nat) ({ cls := "AnimationController$Blend", name := "fill", desc := "(LAnimationController$Node;I[I)V" } : MethodName)) ∈ gW := gW_n 680 (by decide +kernel) rfl
theorem kw_681 : (Cond.instanceMethod ({ cls := "AnimationController$Blend", name := "fill", desc := "(LAnimationController$Node;I[I)V" } : MethodName)) ∈ gW := gW_n 681 (by decide +kernel) rfl
theorem kw_682 : (Cond.selects "AnimationController$Blend" ({ cls := "AnimationController$Blend", name := "fill", desc := "(LAnimationController$Node;I[I)V" } : MethodName) ({ cls := "AnimationController$Blend", name := "fill", desc := "(LAnimationController$Node;I[I)V" } : MethodName)) ∈ gW := gW_n 682 (by decide +kernel) rfl
theorem kw_683 : (Cond.code ({ cls := "AnimationController$Blend", name := "fill", desc := "(LAnimationController$Node;I[I)V" } : MethodName) prog_2_method_2_code (5 : Nat) (Option.none : Option FieldType)) ∈ gW := gW_n 683 (by decide +kernel) rfl
theorem kw_684 : (Cond.methodLink "AnimationController$Blend" (15 : Nat) ({ cls := "AnimationController$Blend", name := "addParts", desc := "([ILAnimationController$Node;I[II)V" } : MethodName)) ∈ gW := gW_n 684 (by decide +kernel) rfl
theorem kw_685 : (Cond.static ({ cls := "AnimationController$Blend", name := "addParts", desc := "([ILAnimationController$Node;I[II)V" } : MethodName)) ∈ gW := gW_n 685 (by decide +kernel) rfl
theorem kw_686 : (Cond.code ({ cls := "AnimationController$Blend", name := "addParts", desc := "([ILAnimationController$Node;I[II)V" } : MethodName) prog_2_method_4_code (10 : Nat) (Option.none : Option FieldType)) ∈ gW := gW_n 686 (by decide +kernel) rfl
theorem kw_687 : (Cond.methodLink "AnimationController$Blend" (38 : Nat) ({ cls := "java/util/ArrayList", name := "isEmpty", desc := "()Z" } : MethodName)) ∈ gW := gW_n 687 (by decide +kernel) rfl
theorem kw_688 : (Cond.methodLink "AnimationController$Blend" (44 : Nat) ({ cls := "java/util/ArrayList", name := "size", desc := "()I" } : MethodName)) ∈ gW := gW_n 688 (by decide +kernel) rfl
theorem kw_689 : (Cond.methodLink "AnimationController$Blend" (48 : Nat) ({ cls := "AnimationController$Node", name := "positionOf", desc := "(I)I" } : MethodName)) ∈ gW := gW_n 689 (by decide +kernel) rfl
theorem kw_690 : (Cond.instanceMethod ({ cls := "AnimationController$Node", name := "positionOf", desc := "(I)I" } : MethodName)) ∈ gW := gW_n 690 (by decide +kernel) rfl
theorem kw_691 : (Cond.selects "AnimationController$Node" ({ cls := "AnimationController$Node", name := "positionOf", desc := "(I)I" } : MethodName) ({ cls := "AnimationController$Node", name := "positionOf", desc := "(I)I" } : MethodName)) ∈ gW := gW_n 691 (by decide +kernel) rfl
theorem kw_692 : (Cond.code ({ cls := "AnimationController$Node", name := "positionOf", desc := "(I)I" } : MethodName) prog_7_method_4_code (2 : Nat) (Option.some FieldType.int)) ∈ gW := gW_n 692 (by decide +kernel) rfl
theorem kw_693 : (Cond.methodLink "AnimationController$Blend" (52 : Nat) ({ cls := "java/util/ArrayList", name := "get", desc := "(I)Ljava/lang/Object;" } : MethodName)) ∈ gW := gW_n 693 (by decide +kernel) rfl
theorem kw_694 : (Cond.classLink "AnimationController$Blend" (20 : Nat) "AnimationController$Node") ∈ gW := gW_n 694 (by decide +kernel) rfl
theorem kw_695 : (Cond.methodLink "AnimationController$Machine" (120 : Nat) ({ cls := "java/util/ArrayList", name := "size", desc := "()I" } : MethodName)) ∈ gW := gW_n 695 (by decide +kernel) rfl
theorem kw_696 : (Cond.methodLink "AnimationController$Machine" (130 : Nat) ({ cls := "java/util/ArrayList", name := "get", desc := "(I)Ljava/lang/Object;" } : MethodName)) ∈ gW := gW_n 696 (by decide +kernel) rfl
theorem kw_697 : (Cond.classLink "AnimationController$Machine" (134 : Nat) "AnimationController$Clip") ∈ gW := gW_n 697 (by decide +kernel) rfl
theorem kw_698 : (Cond.constantLong "AnimationController$Machine" (139 : Nat) (1000000 : Int64)) ∈ gW := gW_n 698 (by decide +kernel) rfl
theorem kw_699 : (Cond.methodLink "AnimationController$Machine" (328 : Nat) ({ cls := "java/lang/Math", name := "min", desc := "(JJ)J" } : MethodName)) ∈ gW := gW_n 699 (by decide +kernel) rfl
theorem kw_7 : (Cond.initialized "AnimationController$Node") ∈ gW := gW_n 7 (by decide +kernel) rfl
theorem kw_700 : (Cond.static ({ cls := "java/lang/Math", name := "min", desc := "(JJ)J" } : MethodName)) ∈ gW := gW_n 700 (by decide +kernel) rfl
theorem kw_701 : (Cond.code ({ cls := "java/lang/Math", name := "min", desc := "(JJ)J" } : MethodName) prog_27_method_70_code (4 : Nat) (Option.some FieldType.long)) ∈ gW := gW_n 701 (by decide +kernel) rfl
theorem kw_702 : (Cond.methodLink "AnimationController$Machine" (126 : Nat) ({ cls := "AnimationController$Blend", name := "weightOf", desc := "(I)I" } : MethodName)) ∈ gW := gW_n 702 (by decide +kernel) rfl
theorem kw_703 : (Cond.instanceMethod ({ cls := "AnimationController$Blend", name := "weightOf", desc := "(I)I" } : MethodName)) ∈ gW := gW_n 703 (by decide +kernel) rfl
theorem kw_704 : (Cond.selects "AnimationController$Blend" ({ cls := "AnimationController$Blend", name := "weightOf", desc := "(I)I" } : MethodName) ({ cls := "AnimationController$Blend", name := "weightOf", desc := "(I)I" } : MethodName)) ∈ gW := gW_n 704 (by decide +kernel) rfl
theorem kw_705 : (Cond.code ({ cls := "AnimationController$Blend", name := "weightOf", desc := "(I)I" } : MethodName) prog_2_method_3_code (2 : Nat) (Option.some FieldType.int)) ∈ gW := gW_n 705 (by decide +kernel) rfl
theorem kw_706 : (Cond.methodLink "AnimationController$Machine" (330 : Nat) ({ cls := "AnimationController$Pose", name := "addEntry", desc := "(III)V" } : MethodName)) ∈ gW := gW_n 706 (by decide +kernel) rfl
theorem kw_707 : (Cond.instanceMethod ({ cls := "AnimationController$Pose", name := "addEntry", desc := "(III)V" } : MethodName)) ∈ gW := gW_n 707 (by decide +kernel) rfl
theorem kw_708 : (Cond.selects "AnimationController$Pose" ({ cls := "AnimationController$Pose", name := "addEntry", desc := "(III)V" } : MethodName) ({ cls := "AnimationController$Pose", name := "addEntry", desc := "(III)V" } : MethodName)) ∈ gW := gW_n 708 (by decide +kernel) rfl
theorem kw_709 : (Cond.code ({ cls := "AnimationController$Pose", name := "addEntry", desc := "(III)V" } : MethodName) prog_8_method_3_code (6 : Nat) (Option.none : Option FieldType)) ∈ gW := gW_n 709 (by decide +kernel) rfl
theorem kw_710 : (Cond.methodLink "AnimationController$Pose" (31 : Nat) ({ cls := "AnimationController$Pose", name := "isBefore", desc := "(III)Z" } : MethodName)) ∈ gW := gW_n 710 (by decide +kernel) rfl
theorem kw_712 : (Cond.instanceMethod ({ cls := "AnimationController$Pose", name := "isBefore", desc := "(III)Z" } : MethodName)) ∈ gW := gW_n 712 (by decide +kernel) rfl
theorem kw_713 : (Cond.code ({ cls := "AnimationController$Pose", name := "isBefore", desc := "(III)Z" } : MethodName) prog_8_method_4_code (4 : Nat) (Option.some FieldType.boolean)) ∈ gW := gW_n 713 (by decide +kernel) rfl
theorem kw_714 : (Cond.methodLink "AnimationController$Machine" (284 : Nat) ({ cls := "AnimationController$Machine", name := "targetShare", desc := "()I" } : MethodName)) ∈ gW := gW_n 714 (by decide +kernel) rfl
theorem kw_716 : (Cond.instanceMethod ({ cls := "AnimationController$Machine", name := "targetShare", desc := "()I" } : MethodName)) ∈ gW := gW_n 716 (by decide +kernel) rfl
theorem kw_717 : (Cond.code ({ cls := "AnimationController$Machine", name := "targetShare", desc := "()I" } : MethodName) prog_5_method_17_code (1 : Nat) (Option.some FieldType.int)) ∈ gW := gW_n 717 (by decide +kernel) rfl
theorem kw_718 : (Cond.methodLink "AnimationController$Machine" (324 : Nat) ({ cls := "AnimationController$Pose", name := "addFrozen", desc := "(LAnimationController$Pose;I)V" } : MethodName)) ∈ gW := gW_n 718 (by decide +kernel) rfl
theorem kw_719 : (Cond.instanceMethod ({ cls := "AnimationController$Pose", name := "addFrozen", desc := "(LAnimationController$Pose;I)V" } : MethodName)) ∈ gW := gW_n 719 (by decide +kernel) rfl
theorem kw_720 : (Cond.selects "AnimationController$Pose" ({ cls := "AnimationController$Pose", name := "addFrozen", desc := "(LAnimationController$Pose;I)V" } : MethodName) ({ cls := "AnimationController$Pose", name := "addFrozen", desc := "(LAnimationController$Pose;I)V" } : MethodName)) ∈ gW := gW_n 720 (by decide +kernel) rfl
theorem kw_721 : (Cond.code ({ cls := "AnimationController$Pose", name := "addFrozen", desc := "(LAnimationController$Pose;I)V" } : MethodName) prog_8_method_5_code (8 : Nat) (Option.none : Option FieldType)) ∈ gW := gW_n 721 (by decide +kernel) rfl
theorem kw_722 : (Cond.constantLong "AnimationController$Pose" (35 : Nat) (1000000 : Int64)) ∈ gW := gW_n 722 (by decide +kernel) rfl
theorem kw_723 : (Cond.methodLink "AnimationController$Pose" (37 : Nat) ({ cls := "AnimationController$Pose", name := "addEntry", desc := "(III)V" } : MethodName)) ∈ gW := gW_n 723 (by decide +kernel) rfl
theorem kw_737 : (Cond.classLink "AnimationController" (47 : Nat) "java/lang/IllegalArgumentException") ∈ gW := gW_n 737 (by decide +kernel) rfl
theorem kw_77 : (Cond.classLink "AnimationController$Model" (35 : Nat) "AnimationController$State") ∈ gW := gW_n 77 (by decide +kernel) rfl
theorem kw_78 : (Cond.instantiable "AnimationController$State" (5 : Nat)) ∈ gW := gW_n 78 (by decide +kernel) rfl
theorem kw_79 : (Cond.classLink "AnimationController$Model" (37 : Nat) "AnimationController$Node") ∈ gW := gW_n 79 (by decide +kernel) rfl
theorem kw_8 : (Cond.initialized "AnimationController$Clip") ∈ gW := gW_n 8 (by decide +kernel) rfl
theorem kw_80 : (Cond.instantiable "AnimationController$Node" (5 : Nat)) ∈ gW := gW_n 80 (by decide +kernel) rfl
theorem kw_805 : (Cond.classLink "AnimationController" (61 : Nat) "java/lang/IllegalStateException") ∈ gW := gW_n 805 (by decide +kernel) rfl
theorem kw_81 : (Cond.classLink "AnimationController$Model" (39 : Nat) "AnimationController$Clip") ∈ gW := gW_n 81 (by decide +kernel) rfl
theorem kw_82 : (Cond.instantiable "AnimationController$Clip" (5 : Nat)) ∈ gW := gW_n 82 (by decide +kernel) rfl
theorem kw_829 : (Cond.methodLink "AnimationController" (66 : Nat) ({ cls := "AnimationController", name := "requireParameter", desc := "(I)V" } : MethodName)) ∈ gW := gW_n 829 (by decide +kernel) rfl
theorem kw_83 : (Cond.methodLink "AnimationController$Model" (41 : Nat) ({ cls := "AnimationController$Clip", name := "<init>", desc := "(II)V" } : MethodName)) ∈ gW := gW_n 83 (by decide +kernel) rfl
theorem kw_831 : (Cond.instanceMethod ({ cls := "AnimationController", name := "requireParameter", desc := "(I)V" } : MethodName)) ∈ gW := gW_n 831 (by decide +kernel) rfl
theorem kw_832 : (Cond.code ({ cls := "AnimationController", name := "requireParameter", desc := "(I)V" } : MethodName) prog_1_method_43_code (2 : Nat) (Option.none : Option FieldType)) ∈ gW := gW_n 832 (by decide +kernel) rfl
theorem kw_833 : (Cond.methodLink "AnimationController" (419 : Nat) ({ cls := "AnimationController$Model", name := "hasParameter", desc := "(I)Z" } : MethodName)) ∈ gW := gW_n 833 (by decide +kernel) rfl
theorem kw_834 : (Cond.instanceMethod ({ cls := "AnimationController$Model", name := "hasParameter", desc := "(I)Z" } : MethodName)) ∈ gW := gW_n 834 (by decide +kernel) rfl
theorem kw_835 : (Cond.selects "AnimationController$Model" ({ cls := "AnimationController$Model", name := "hasParameter", desc := "(I)Z" } : MethodName) ({ cls := "AnimationController$Model", name := "hasParameter", desc := "(I)Z" } : MethodName)) ∈ gW := gW_n 835 (by decide +kernel) rfl
theorem kw_836 : (Cond.code ({ cls := "AnimationController$Model", name := "hasParameter", desc := "(I)Z" } : MethodName) prog_6_method_2_code (2 : Nat) (Option.some FieldType.boolean)) ∈ gW := gW_n 836 (by decide +kernel) rfl
theorem kw_837 : (Cond.classLink "AnimationController" (378 : Nat) "java/lang/IndexOutOfBoundsException") ∈ gW := gW_n 837 (by decide +kernel) rfl
theorem kw_84 : (Cond.instanceMethod ({ cls := "AnimationController$Clip", name := "<init>", desc := "(II)V" } : MethodName)) ∈ gW := gW_n 84 (by decide +kernel) rfl
theorem kw_85 : (Cond.code ({ cls := "AnimationController$Clip", name := "<init>", desc := "(II)V" } : MethodName) prog_3_method_1_code (3 : Nat) (Option.none : Option FieldType)) ∈ gW := gW_n 85 (by decide +kernel) rfl
theorem kw_853 : (Cond.methodLink "AnimationController" (70 : Nat) ({ cls := "AnimationController$Model", name := "isValue", desc := "(II)Z" } : MethodName)) ∈ gW := gW_n 853 (by decide +kernel) rfl
theorem kw_854 : (Cond.instanceMethod ({ cls := "AnimationController$Model", name := "isValue", desc := "(II)Z" } : MethodName)) ∈ gW := gW_n 854 (by decide +kernel) rfl
theorem kw_855 : (Cond.selects "AnimationController$Model" ({ cls := "AnimationController$Model", name := "isValue", desc := "(II)Z" } : MethodName) ({ cls := "AnimationController$Model", name := "isValue", desc := "(II)Z" } : MethodName)) ∈ gW := gW_n 855 (by decide +kernel) rfl
theorem kw_856 : (Cond.code ({ cls := "AnimationController$Model", name := "isValue", desc := "(II)Z" } : MethodName) prog_6_method_4_code (3 : Nat) (Option.some FieldType.boolean)) ∈ gW := gW_n 856 (by decide +kernel) rfl
theorem kw_857 : (Cond.methodLink "AnimationController$Model" (57 : Nat) ({ cls := "AnimationController$Model", name := "kindOf", desc := "(I)I" } : MethodName)) ∈ gW := gW_n 857 (by decide +kernel) rfl
theorem kw_859 : (Cond.methodLink "AnimationController" (76 : Nat) ({ cls := "AnimationController$Machine", name := "valueOf", desc := "(I)I" } : MethodName)) ∈ gW := gW_n 859 (by decide +kernel) rfl
theorem kw_86 : (Cond.methodLink "AnimationController$Clip" (3 : Nat) ({ cls := "java/lang/Object", name := "<init>", desc := "()V" } : MethodName)) ∈ gW := gW_n 86 (by decide +kernel) rfl
theorem kw_860 : (Cond.instanceMethod ({ cls := "AnimationController$Machine", name := "valueOf", desc := "(I)I" } : MethodName)) ∈ gW := gW_n 860 (by decide +kernel) rfl
theorem kw_861 : (Cond.selects "AnimationController$Machine" ({ cls := "AnimationController$Machine", name := "valueOf", desc := "(I)I" } : MethodName) ({ cls := "AnimationController$Machine", name := "valueOf", desc := "(I)I" } : MethodName)) ∈ gW := gW_n 861 (by decide +kernel) rfl
theorem kw_862 : (Cond.code ({ cls := "AnimationController$Machine", name := "valueOf", desc := "(I)I" } : MethodName) prog_5_method_5_code (2 : Nat) (Option.some FieldType.int)) ∈ gW := gW_n 862 (by decide +kernel) rfl
theorem kw_863 : (Cond.methodLink "AnimationController" (80 : Nat) ({ cls := "AnimationController$Machine", name := "setValue", desc := "(II)V" } : MethodName)) ∈ gW := gW_n 863 (by decide +kernel) rfl
theorem kw_864 : (Cond.instanceMethod ({ cls := "AnimationController$Machine", name := "setValue", desc := "(II)V" } : MethodName)) ∈ gW := gW_n 864 (by decide +kernel) rfl
theorem kw_865 : (Cond.selects "AnimationController$Machine" ({ cls := "AnimationController$Machine", name := "setValue", desc := "(II)V" } : MethodName) ({ cls := "AnimationController$Machine", name := "setValue", desc := "(II)V" } : MethodName)) ∈ gW := gW_n 865 (by decide +kernel) rfl
theorem kw_866 : (Cond.code ({ cls := "AnimationController$Machine", name := "setValue", desc := "(II)V" } : MethodName) prog_5_method_6_code (3 : Nat) (Option.none : Option FieldType)) ∈ gW := gW_n 866 (by decide +kernel) rfl
theorem kw_87 : (Cond.fieldLink "AnimationController$Clip" (18 : Nat) "AnimationController$Clip" "number" "I") ∈ gW := gW_n 87 (by decide +kernel) rfl
theorem kw_88 : (Cond.fieldLink "AnimationController$Blend" (25 : Nat) "AnimationController$Clip" "number" "I") ∈ gW := gW_n 88 (by decide +kernel) rfl
theorem kw_882 : (Cond.methodLink "AnimationController" (90 : Nat) ({ cls := "java/util/ArrayList", name := "size", desc := "()I" } : MethodName)) ∈ gW := gW_n 882 (by decide +kernel) rfl
theorem kw_884 : (Cond.classLink "AnimationController" (98 : Nat) "AnimationController$Clip") ∈ gW := gW_n 884 (by decide +kernel) rfl
theorem kw_885 : (Cond.methodLink "AnimationController" (100 : Nat) ({ cls := "AnimationController$Clip", name := "<init>", desc := "(II)V" } : MethodName)) ∈ gW := gW_n 885 (by decide +kernel) rfl
theorem kw_886 : (Cond.methodLink "AnimationController" (102 : Nat) ({ cls := "java/util/ArrayList", name := "add", desc := "(Ljava/lang/Object;)Z" } : MethodName)) ∈ gW := gW_n 886 (by decide +kernel) rfl
theorem kw_89 : (Cond.fieldLink "AnimationController$Machine" (313 : Nat) "AnimationController$Clip" "number" "I") ∈ gW := gW_n 89 (by decide +kernel) rfl
theorem kw_894 : (Cond.methodLink "AnimationController" (106 : Nat) ({ cls := "AnimationController", name := "clipAt", desc := "(I)LAnimationController$Clip;" } : MethodName)) ∈ gW := gW_n 894 (by decide +kernel) rfl
theorem kw_896 : (Cond.instanceMethod ({ cls := "AnimationController", name := "clipAt", desc := "(I)LAnimationController$Clip;" } : MethodName)) ∈ gW := gW_n 896 (by decide +kernel) rfl
theorem kw_897 : (Cond.code ({ cls := "AnimationController", name := "clipAt", desc := "(I)LAnimationController$Clip;" } : MethodName) prog_1_method_48_code (2 : Nat) (Option.some (FieldType.object "AnimationController$Clip"))) ∈ gW := gW_n 897 (by decide +kernel) rfl
theorem kw_9 : (Cond.initialized "AnimationController$TransitionText") ∈ gW := gW_n 9 (by decide +kernel) rfl
theorem kw_90 : (Cond.fieldLink "AnimationController" (356 : Nat) "AnimationController$Clip" "number" "I") ∈ gW := gW_n 90 (by decide +kernel) rfl
theorem kw_901 : (Cond.methodLink "AnimationController" (120 : Nat) ({ cls := "AnimationController$Clip", name := "insertEvent", desc := "(II)V" } : MethodName)) ∈ gW := gW_n 901 (by decide +kernel) rfl
theorem kw_902 : (Cond.instanceMethod ({ cls := "AnimationController$Clip", name := "insertEvent", desc := "(II)V" } : MethodName)) ∈ gW := gW_n 902 (by decide +kernel) rfl
theorem kw_903 : (Cond.selects "AnimationController$Clip" ({ cls := "AnimationController$Clip", name := "insertEvent", desc := "(II)V" } : MethodName) ({ cls := "AnimationController$Clip", name := "insertEvent", desc := "(II)V" } : MethodName)) ∈ gW := gW_n 903 (by decide +kernel) rfl
theorem kw_904 : (Cond.code ({ cls := "AnimationController$Clip", name := "insertEvent", desc := "(II)V" } : MethodName) prog_3_method_2_code (4 : Nat) (Option.none : Option FieldType)) ∈ gW := gW_n 904 (by decide +kernel) rfl
theorem kw_91 : (Cond.fieldLink "AnimationController$Clip" (22 : Nat) "AnimationController$Clip" "length" "I") ∈ gW := gW_n 91 (by decide +kernel) rfl
theorem kw_912 : (Cond.methodLink "AnimationController" (123 : Nat) ({ cls := "AnimationController", name := "requireRoomForNode", desc := "()V" } : MethodName)) ∈ gW := gW_n 912 (by decide +kernel) rfl
theorem kw_914 : (Cond.instanceMethod ({ cls := "AnimationController", name := "requireRoomForNode", desc := "()V" } : MethodName)) ∈ gW := gW_n 914 (by decide +kernel) rfl
theorem kw_915 : (Cond.code ({ cls := "AnimationController", name := "requireRoomForNode", desc := "()V" } : MethodName) prog_1_method_44_code (1 : Nat) (Option.none : Option FieldType)) ∈ gW := gW_n 915 (by decide +kernel) rfl
theorem kw_917 : (Cond.classLink "AnimationController" (129 : Nat) "AnimationController$Node") ∈ gW := gW_n 917 (by decide +kernel) rfl
theorem kw_918 : (Cond.methodLink "AnimationController" (131 : Nat) ({ cls := "AnimationController$Node", name := "<init>", desc := "(LAnimationController$Clip;I)V" } : MethodName)) ∈ gW := gW_n 918 (by decide +kernel) rfl
theorem kw_92 : (Cond.fieldLink "AnimationController" (110 : Nat) "AnimationController$Clip" "length" "I") ∈ gW := gW_n 92 (by decide +kernel) rfl
theorem kw_926 : (Cond.methodLink "AnimationController" (134 : Nat) ({ cls := "AnimationController$Model", name := "kindOf", desc := "(I)I" } : MethodName)) ∈ gW := gW_n 926 (by decide +kernel) rfl
theorem kw_93 : (Cond.fieldLink "AnimationController$Machine" (136 : Nat) "AnimationController$Clip" "length" "I") ∈ gW := gW_n 93 (by decide +kernel) rfl
theorem kw_935 : (Cond.methodLink "AnimationController" (139 : Nat) ({ cls := "AnimationController", name := "nodeAt", desc := "(I)LAnimationController$Node;" } : MethodName)) ∈ gW := gW_n 935 (by decide +kernel) rfl
theorem kw_937 : (Cond.instanceMethod ({ cls := "AnimationController", name := "nodeAt", desc := "(I)LAnimationController$Node;" } : MethodName)) ∈ gW := gW_n 937 (by decide +kernel) rfl
theorem kw_938 : (Cond.code ({ cls := "AnimationController", name := "nodeAt", desc := "(I)LAnimationController$Node;" } : MethodName) prog_1_method_49_code (2 : Nat) (Option.some (FieldType.object "AnimationController$Node"))) ∈ gW := gW_n 938 (by decide +kernel) rfl
theorem kw_94 : (Cond.fieldLink "AnimationController$Clip" (9 : Nat) "AnimationController$Clip" "times" "[I") ∈ gW := gW_n 94 (by decide +kernel) rfl
theorem kw_940 : (Cond.methodLink "AnimationController" (143 : Nat) ({ cls := "AnimationController$Node", name := "isLine", desc := "()Z" } : MethodName)) ∈ gW := gW_n 940 (by decide +kernel) rfl
theorem kw_941 : (Cond.instanceMethod ({ cls := "AnimationController$Node", name := "isLine", desc := "()Z" } : MethodName)) ∈ gW := gW_n 941 (by decide +kernel) rfl
theorem kw_942 : (Cond.selects "AnimationController$Node" ({ cls := "AnimationController$Node", name := "isLine", desc := "()Z" } : MethodName) ({ cls := "AnimationController$Node", name := "isLine", desc := "()Z" } : MethodName)) ∈ gW := gW_n 942 (by decide +kernel) rfl
theorem kw_943 : (Cond.code ({ cls := "AnimationController$Node", name := "isLine", desc := "()Z" } : MethodName) prog_7_method_2_code (1 : Nat) (Option.some FieldType.boolean)) ∈ gW := gW_n 943 (by decide +kernel) rfl
theorem kw_945 : (Cond.methodLink "AnimationController" (152 : Nat) ({ cls := "AnimationController$Node", name := "hasPosition", desc := "(I)Z" } : MethodName)) ∈ gW := gW_n 945 (by decide +kernel) rfl
theorem kw_946 : (Cond.instanceMethod ({ cls := "AnimationController$Node", name := "hasPosition", desc := "(I)Z" } : MethodName)) ∈ gW := gW_n 946 (by decide +kernel) rfl
theorem kw_947 : (Cond.selects "AnimationController$Node" ({ cls := "AnimationController$Node", name := "hasPosition", desc := "(I)Z" } : MethodName) ({ cls := "AnimationController$Node", name := "hasPosition", desc := "(I)Z" } : MethodName)) ∈ gW := gW_n 947 (by decide +kernel) rfl
theorem kw_948 : (Cond.code ({ cls := "AnimationController$Node", name := "hasPosition", desc := "(I)Z" } : MethodName) prog_7_method_5_code (3 : Nat) (Option.some FieldType.boolean)) ∈ gW := gW_n 948 (by decide +kernel) rfl
theorem kw_949 : (Cond.methodLink "AnimationController$Node" (37 : Nat) ({ cls := "java/util/ArrayList", name := "size", desc := "()I" } : MethodName)) ∈ gW := gW_n 949 (by decide +kernel) rfl
theorem kw_95 : (Cond.fieldLink "AnimationController$Machine" (303 : Nat) "AnimationController$Clip" "times" "[I") ∈ gW := gW_n 95 (by decide +kernel) rfl
theorem kw_950 : (Cond.methodLink "AnimationController$Node" (41 : Nat) ({ cls := "AnimationController$Node", name := "positionOf", desc := "(I)I" } : MethodName)) ∈ gW := gW_n 950 (by decide +kernel) rfl
theorem kw_952 : (Cond.methodLink "AnimationController" (158 : Nat) ({ cls := "AnimationController$Node", name := "isComplete", desc := "()Z" } : MethodName)) ∈ gW := gW_n 952 (by decide +kernel) rfl
theorem kw_953 : (Cond.instanceMethod ({ cls := "AnimationController$Node", name := "isComplete", desc := "()Z" } : MethodName)) ∈ gW := gW_n 953 (by decide +kernel) rfl
theorem kw_954 : (Cond.selects "AnimationController$Node" ({ cls := "AnimationController$Node", name := "isComplete", desc := "()Z" } : MethodName) ({ cls := "AnimationController$Node", name := "isComplete", desc := "()Z" } : MethodName)) ∈ gW := gW_n 954 (by decide +kernel) rfl
theorem kw_955 : (Cond.code ({ cls := "AnimationController$Node", name := "isComplete", desc := "()Z" } : MethodName) prog_7_method_3_code (1 : Nat) (Option.some FieldType.boolean)) ∈ gW := gW_n 955 (by decide +kernel) rfl
theorem kw_956 : (Cond.methodLink "AnimationController$Node" (33 : Nat) ({ cls := "java/util/ArrayList", name := "isEmpty", desc := "()Z" } : MethodName)) ∈ gW := gW_n 956 (by decide +kernel) rfl
theorem kw_957 : (Cond.methodLink "AnimationController" (161 : Nat) ({ cls := "AnimationController$Model", name := "greatestDepthWith", desc := "(LAnimationController$Node;LAnimationController$Node;)I" } : MethodName)) ∈ gW := gW_n 957 (by decide +kernel) rfl
theorem kw_958 : (Cond.instanceMethod ({ cls := "AnimationController$Model", name := "greatestDepthWith", desc := "(LAnimationController$Node;LAnimationController$Node;)I" } : MethodName)) ∈ gW := gW_n 958 (by decide +kernel) rfl
theorem kw_959 : (Cond.selects "AnimationController$Model" ({ cls := "AnimationController$Model", name := "greatestDepthWith", desc := "(LAnimationController$Node;LAnimationController$Node;)I" } : MethodName) ({ cls := "AnimationController$Model", name := "greatestDepthWith", desc := "(LAnimationController$Node;LAnimationController$Node;)I" } : MethodName)) ∈ gW := gW_n 959 (by decide +kernel) rfl
theorem kw_96 : (Cond.fieldLink "AnimationController$Clip" (15 : Nat) "AnimationController$Clip" "ids" "[I") ∈ gW := gW_n 96 (by decide +kernel) rfl
theorem kw_960 : (Cond.code ({ cls := "AnimationController$Model", name := "greatestDepthWith", desc := "(LAnimationController$Node;LAnimationController$Node;)I" } : MethodName) prog_6_method_6_code (6 : Nat) (Option.some FieldType.int)) ∈ gW := gW_n 960 (by decide +kernel) rfl
theorem kw_961 : (Cond.methodLink "AnimationController$Model" (65 : Nat) ({ cls := "java/util/ArrayList", name := "size", desc := "()I" } : MethodName)) ∈ gW := gW_n 961 (by decide +kernel) rfl
theorem kw_962 : (Cond.methodLink "AnimationController$Model" (69 : Nat) ({ cls := "java/util/ArrayList", name := "get", desc := "(I)Ljava/lang/Object;" } : MethodName)) ∈ gW := gW_n 962 (by decide +kernel) rfl
theorem kw_963 : (Cond.methodLink "AnimationController$Model" (73 : Nat) ({ cls := "AnimationController$Node", name := "depthByChildren", desc := "()I" } : MethodName)) ∈ gW := gW_n 963 (by decide +kernel) rfl
theorem kw_964 : (Cond.instanceMethod ({ cls := "AnimationController$Node", name := "depthByChildren", desc := "()I" } : MethodName)) ∈ gW := gW_n 964 (by decide +kernel) rfl
theorem kw_965 : (Cond.selects "AnimationController$Node" ({ cls := "AnimationController$Node", name := "depthByChildren", desc := "()I" } : MethodName) ({ cls := "AnimationController$Node", name := "depthByChildren", desc := "()I" } : MethodName)) ∈ gW := gW_n 965 (by decide +kernel) rfl
theorem kw_966 : (Cond.code ({ cls := "AnimationController$Node", name := "depthByChildren", desc := "()I" } : MethodName) prog_7_method_7_code (3 : Nat) (Option.some FieldType.int)) ∈ gW := gW_n 966 (by decide +kernel) rfl
theorem kw_967 : (Cond.methodLink "AnimationController$Node" (49 : Nat) ({ cls := "java/util/ArrayList", name := "get", desc := "(I)Ljava/lang/Object;" } : MethodName)) ∈ gW := gW_n 967 (by decide +kernel) rfl
theorem kw_968 : (Cond.classLink "AnimationController$Node" (13 : Nat) "AnimationController$Node") ∈ gW := gW_n 968 (by decide +kernel) rfl
theorem kw_969 : (Cond.methodLink "AnimationController$Node" (53 : Nat) ({ cls := "java/lang/Math", name := "max", desc := "(II)I" } : MethodName)) ∈ gW := gW_n 969 (by decide +kernel) rfl
theorem kw_97 : (Cond.fieldLink "AnimationController$Machine" (310 : Nat) "AnimationController$Clip" "ids" "[I") ∈ gW := gW_n 97 (by decide +kernel) rfl
theorem kw_970 : (Cond.methodLink "AnimationController$Model" (79 : Nat) ({ cls := "java/lang/Math", name := "max", desc := "(II)I" } : MethodName)) ∈ gW := gW_n 970 (by decide +kernel) rfl
theorem kw_972 : (Cond.methodLink "AnimationController" (167 : Nat) ({ cls := "AnimationController$Node", name := "insertChild", desc := "(LAnimationController$Node;I)V" } : MethodName)) ∈ gW := gW_n 972 (by decide +kernel) rfl
theorem kw_973 : (Cond.instanceMethod ({ cls := "AnimationController$Node", name := "insertChild", desc := "(LAnimationController$Node;I)V" } : MethodName)) ∈ gW := gW_n 973 (by decide +kernel) rfl
theorem kw_974 : (Cond.selects "AnimationController$Node" ({ cls := "AnimationController$Node", name := "insertChild", desc := "(LAnimationController$Node;I)V" } : MethodName) ({ cls := "AnimationController$Node", name := "insertChild", desc := "(LAnimationController$Node;I)V" } : MethodName)) ∈ gW := gW_n 974 (by decide +kernel) rfl
theorem kw_975 : (Cond.code ({ cls := "AnimationController$Node", name := "insertChild", desc := "(LAnimationController$Node;I)V" } : MethodName) prog_7_method_6_code (4 : Nat) (Option.none : Option FieldType)) ∈ gW := gW_n 975 (by decide +kernel) rfl
theorem kw_976 : (Cond.methodLink "AnimationController$Node" (45 : Nat) ({ cls := "java/util/ArrayList", name := "add", desc := "(ILjava/lang/Object;)V" } : MethodName)) ∈ gW := gW_n 976 (by decide +kernel) rfl
theorem kw_977 : (Cond.instanceMethod ({ cls := "java/util/ArrayList", name := "add", desc := "(ILjava/lang/Object;)V" } : MethodName)) ∈ gW := gW_n 977 (by decide +kernel) rfl
theorem kw_978 : (Cond.selects "java/util/ArrayList" ({ cls := "java/util/ArrayList", name := "add", desc := "(ILjava/lang/Object;)V" } : MethodName) ({ cls := "java/util/ArrayList", name := "add", desc := "(ILjava/lang/Object;)V" } : MethodName)) ∈ gW := gW_n 978 (by decide +kernel) rfl
theorem kw_979 : (Cond.code ({ cls := "java/util/ArrayList", name := "add", desc := "(ILjava/lang/Object;)V" } : MethodName) prog_40_method_26_code (5 : Nat) (Option.none : Option FieldType)) ∈ gW := gW_n 979 (by decide +kernel) rfl
theorem kw_98 : (Cond.fieldLink "AnimationController$Clip" (25 : Nat) "AnimationController$Clip" "events" "I") ∈ gW := gW_n 98 (by decide +kernel) rfl
theorem kw_980 : (Cond.methodLink "java/util/ArrayList" (135 : Nat) ({ cls := "java/util/ArrayList", name := "rangeCheckForAdd", desc := "(I)V" } : MethodName)) ∈ gW := gW_n 980 (by decide +kernel) rfl
theorem kw_982 : (Cond.instanceMethod ({ cls := "java/util/ArrayList", name := "rangeCheckForAdd", desc := "(I)V" } : MethodName)) ∈ gW := gW_n 982 (by decide +kernel) rfl
theorem kw_983 : (Cond.code ({ cls := "java/util/ArrayList", name := "rangeCheckForAdd", desc := "(I)V" } : MethodName) prog_40_method_45_code (2 : Nat) (Option.none : Option FieldType)) ∈ gW := gW_n 983 (by decide +kernel) rfl
theorem kw_99 : (Cond.fieldLink "AnimationController" (115 : Nat) "AnimationController$Clip" "events" "I") ∈ gW := gW_n 99 (by decide +kernel) rfl
theorem inwX0 : ∀ w ∈ u_ws RX0 TX0 1, w ∈ gW := gW_of (by decide +kernel) (by decide +kernel)
theorem inwJx4a65c : ∀ w ∈ u_ws RJx4a65c TJx4a65c 3, w ∈ gW := gW_of (by decide +kernel) (by decide +kernel)
theorem inwX5 : ∀ w ∈ u_ws RX5 TX5 5, w ∈ gW := gW_of (by decide +kernel) (by decide +kernel)
theorem inwX1 : ∀ w ∈ u_ws RX1 TX1 5, w ∈ gW := gW_of (by decide +kernel) (by decide +kernel)
theorem inwX2 : ∀ w ∈ u_ws RX2 TX2 2, w ∈ gW := gW_of (by decide +kernel) (by decide +kernel)
theorem inwX6 : ∀ w ∈ u_ws RX6 TX6 4, w ∈ gW := gW_of (by decide +kernel) (by decide +kernel)
theorem inwX8 : ∀ w ∈ u_ws RX8 TX8 6, w ∈ gW := gW_of (by decide +kernel) (by decide +kernel)
theorem inwX3 : ∀ w ∈ u_ws RX3 TX3 13, w ∈ gW := gW_of (by decide +kernel) (by decide +kernel)
theorem inwX4 : ∀ w ∈ u_ws RX4 TX4 8, w ∈ gW := gW_of (by decide +kernel) (by decide +kernel)
theorem inwX7 : ∀ w ∈ u_ws RX7 TX7 5, w ∈ gW := gW_of (by decide +kernel) (by decide +kernel)
theorem inwX9 : ∀ w ∈ u_ws RX9 TX9 12, w ∈ gW := gW_of (by decide +kernel) (by decide +kernel)
theorem inwX10 : ∀ w ∈ u_ws RX10 TX10 5, w ∈ gW := gW_of (by decide +kernel) (by decide +kernel)
theorem inwX11 : ∀ w ∈ u_ws RX11 TX11 7, w ∈ gW := gW_of (by decide +kernel) (by decide +kernel)
theorem flX0_9 : gFl RX0 9 3 0 (.array .int) true := ⟨RX0, TX0, 1, tyX0, rfl, by decide, kw_351, inwX0, tyX0_ok, nmX0, by decide +kernel, rfl, fun _ => rfl⟩
theorem flJx4a65c_48 : gFl RJx4a65c 48 2 2 .int false := ⟨RJx4a65c, TJx4a65c, 3, tyJx4a65c, rfl, by decide, kw_65, inwJx4a65c, tyJx4a65c_ok, nmJx4a65c, by decide +kernel, rfl, fun z => Bool.noConfusion z⟩
theorem flX5_18 : gFl RX5 18 8 3 (.array .int) true := ⟨RX5, TX5, 5, tyX5, rfl, by decide, kw_125, inwX5, tyX5_ok, nmX5, by decide +kernel, rfl, fun _ => rfl⟩
theorem gY_J3_checkIndex_8e157 : gYn yJ3_checkIndex_8e157 3 := ⟨by decide +kernel, by decide +kernel, by decide +kernel⟩
theorem lkJ15_105 : gLS RJ15 105 yJ3_checkIndex_8e157 cJ3_checkIndex_8e157 3 (some FieldType.int) 3 := ⟨kw_492, kw_493, kw_28, kw_494, gY_J3_checkIndex_8e157⟩
theorem flJx4a65c_9 : gFl RJx4a65c 9 2 1 (.array (.object "java/lang/Object")) false := ⟨RJx4a65c, TJx4a65c, 3, tyJx4a65c, rfl, by decide, kw_64, inwJx4a65c, tyJx4a65c_ok, nmJx4a65c, by decide +kernel, rfl, fun z => Bool.noConfusion z⟩
theorem gY_J15_checkIndex_7cf53 : gYn yJ15_checkIndex_7cf53 2 := ⟨by decide +kernel, by decide +kernel, by decide +kernel⟩
theorem lkJx4a65c_118 : gLS RJx4a65c 118 yJ15_checkIndex_7cf53 cJ15_checkIndex_7cf53 2 (some FieldType.int) 2 := ⟨kw_489, kw_490, kw_27, kw_491, gY_J15_checkIndex_7cf53⟩
theorem gY_Jx4a65c_elementData_915e3 : gYn yJx4a65c_elementData_915e3 1 := ⟨by decide +kernel, by decide +kernel, by decide +kernel⟩
theorem lkJx4a65c_123 : gLV RJx4a65c 123 yJx4a65c_elementData_915e3 cJx4a65c_elementData_915e3 2 (some (FieldType.object "java/lang/Object")) 1 := ⟨kw_495, kw_496, kw_497, kw_5, kw_498, gY_Jx4a65c_elementData_915e3⟩
theorem frX0_34 : gFr RX0 34 8 2 := ⟨RX5, TX5, 5, rfl, by decide, kw_123, inwX5⟩
theorem gY_Jx4a65c_get_915e3 : gYn yJx4a65c_get_915e3 1 := ⟨by decide +kernel, by decide +kernel, by decide +kernel⟩
theorem lkX0_52 : gLV RX0 52 yJx4a65c_get_915e3 cJx4a65c_get_915e3 2 (some (FieldType.object "java/lang/Object")) 1 := ⟨kw_693, kw_486, kw_487, kw_5, kw_488, gY_Jx4a65c_get_915e3⟩
theorem gY_X5_positionOf : gYn yX5_positionOf 1 := ⟨by decide +kernel, by decide +kernel, by decide +kernel⟩
theorem lkX0_48 : gLV RX0 48 yX5_positionOf cX5_positionOf 2 (some FieldType.int) 1 := ⟨kw_689, kw_690, kw_691, kw_7, kw_692, gY_X5_positionOf⟩
theorem gY_Jx4a65c_size_8abf5 : gYn yJx4a65c_size_8abf5 0 := ⟨by decide +kernel, by decide +kernel, by decide +kernel⟩
theorem lkX0_44 : gLV RX0 44 yJx4a65c_size_8abf5 cJx4a65c_size_8abf5 1 (some FieldType.int) 0 := ⟨kw_688, kw_470, kw_471, kw_5, kw_472, gY_Jx4a65c_size_8abf5⟩
theorem frX0_19 : gFr RX0 19 8 0 := ⟨RX5, TX5, 5, rfl, by decide, kw_119, inwX5⟩
theorem frX0_31 : gFr RX0 31 8 1 := ⟨RX5, TX5, 5, rfl, by decide, kw_121, inwX5⟩
theorem gY_Jx4a65c_isEmpty_aae02 : gYn yJx4a65c_isEmpty_aae02 0 := ⟨by decide +kernel, by decide +kernel, by decide +kernel⟩
theorem lkX0_38 : gLV RX0 38 yJx4a65c_isEmpty_aae02 cJx4a65c_isEmpty_aae02 1 (some FieldType.boolean) 0 := ⟨kw_687, kw_626, kw_627, kw_5, kw_628, gY_Jx4a65c_isEmpty_aae02⟩
theorem frX0_25 : gFr RX0 25 4 0 := ⟨RX1, TX1, 5, rfl, by decide, kw_88, inwX1⟩
theorem gY_X0_addParts : gYn yX0_addParts 5 := ⟨by decide +kernel, by decide +kernel, by decide +kernel⟩
theorem lkX0_15 : gLS RX0 15 yX0_addParts cX0_addParts 10 none 5 := ⟨kw_684, kw_685, kw_14, kw_686, gY_X0_addParts⟩
theorem flX1_9 : gFl RX1 9 4 2 (.array .int) true := ⟨RX1, TX1, 5, tyX1, rfl, by decide, kw_94, inwX1, tyX1_ok, nmX1, by decide +kernel, rfl, fun _ => rfl⟩
theorem flX1_15 : gFl RX1 15 4 3 (.array .int) true := ⟨RX1, TX1, 5, tyX1, rfl, by decide, kw_96, inwX1, tyX1_ok, nmX1, by decide +kernel, rfl, fun _ => rfl⟩
theorem flX1_18 : gFl RX1 18 4 0 .int true := ⟨RX1, TX1, 5, tyX1, rfl, by decide, kw_87, inwX1, tyX1_ok, nmX1, by decide +kernel, rfl, fun _ => rfl⟩
theorem flX1_22 : gFl RX1 22 4 1 .int true := ⟨RX1, TX1, 5, tyX1, rfl, by decide, kw_91, inwX1, tyX1_ok, nmX1, by decide +kernel, rfl, fun _ => rfl⟩
theorem flX1_25 : gFl RX1 25 4 4 .int false := ⟨RX1, TX1, 5, tyX1, rfl, by decide, kw_98, inwX1, tyX1_ok, nmX1, by decide +kernel, rfl, fun z => Bool.noConfusion z⟩
theorem flX2_13 : gFl RX2 13 5 0 (.array (.array .int)) true := ⟨RX2, TX2, 2, tyX2, rfl, by decide, kw_336, inwX2, tyX2_ok, nmX2, by decide +kernel, rfl, fun _ => rfl⟩
theorem gY_J9_floorMod_7cf53 : gYn yJ9_floorMod_7cf53 2 := ⟨by decide +kernel, by decide +kernel, by decide +kernel⟩
theorem lkX2_40 : gLS RX2 40 yJ9_floorMod_7cf53 cJ9_floorMod_7cf53 3 (some FieldType.int) 2 := ⟨kw_1446, kw_1447, kw_24, kw_1448, gY_J9_floorMod_7cf53⟩
theorem flX2_16 : gFl RX2 16 5 1 .int false := ⟨RX2, TX2, 2, tyX2, rfl, by decide, kw_337, inwX2, tyX2_ok, nmX2, by decide +kernel, rfl, fun z => Bool.noConfusion z⟩
theorem gY_X2_placeOf : gYn yX2_placeOf 1 := ⟨by decide +kernel, by decide +kernel, by decide +kernel⟩
theorem lkX2_20 : gLS RX2 20 yX2_placeOf cX2_placeOf 1 (some FieldType.int) 1 := ⟨kw_1443, kw_1444, kw_13, kw_1445, gY_X2_placeOf⟩
theorem gY_J9_min_7cf53 : gYn yJ9_min_7cf53 2 := ⟨by decide +kernel, by decide +kernel, by decide +kernel⟩
theorem lkX2_24 : gLS RX2 24 yJ9_min_7cf53 cJ9_min_7cf53 2 (some FieldType.int) 2 := ⟨kw_1525, kw_610, kw_24, kw_611, gY_J9_min_7cf53⟩
theorem gY_X2_kept : gYn yX2_kept 0 := ⟨by decide +kernel, by decide +kernel, by decide +kernel⟩
theorem lkX2_30 : gLV RX2 30 yX2_kept cX2_kept 1 (some FieldType.int) 0 := ⟨kw_1532, kw_1522, kw_1523, kw_13, kw_1524, gY_X2_kept⟩
theorem acX2_34 : gAC RX2 34 := ⟨kw_1549, kw_614, kw_613, kw_26⟩
theorem flX6_9 : gFl RX6 9 9 0 (.array .int) true := ⟨RX6, TX6, 4, tyX6, rfl, by decide, kw_310, inwX6, tyX6_ok, nmX6, by decide +kernel, rfl, fun _ => rfl⟩
theorem flX6_15 : gFl RX6 15 9 1 (.array .int) true := ⟨RX6, TX6, 4, tyX6, rfl, by decide, kw_312, inwX6, tyX6_ok, nmX6, by decide +kernel, rfl, fun _ => rfl⟩
theorem flX6_18 : gFl RX6 18 9 2 (.array .int) true := ⟨RX6, TX6, 4, tyX6, rfl, by decide, kw_314, inwX6, tyX6_ok, nmX6, by decide +kernel, rfl, fun _ => rfl⟩
theorem flX8_9 : gFl RX8 9 11 3 .boolean false := ⟨RX8, TX8, 6, tyX8, rfl, by decide, kw_367, inwX8, tyX8_ok, nmX8, by decide +kernel, rfl, fun z => Bool.noConfusion z⟩
theorem flX8_15 : gFl RX8 15 11 5 .boolean false := ⟨RX8, TX8, 6, tyX8, rfl, by decide, kw_369, inwX8, tyX8_ok, nmX8, by decide +kernel, rfl, fun z => Bool.noConfusion z⟩
theorem flX8_18 : gFl RX8 18 11 0 (.object "AnimationController$State") false := ⟨RX8, TX8, 6, tyX8, rfl, by decide, kw_361, inwX8, tyX8_ok, nmX8, by decide +kernel, rfl, fun z => Bool.noConfusion z⟩
theorem flX3_9 : gFl RX3 9 6 1 (.array .int) true := ⟨RX3, TX3, 13, tyX3, rfl, by decide, kw_384, inwX3, tyX3_ok, nmX3, by decide +kernel, rfl, fun _ => rfl⟩
theorem nwX3_15 : gNw RX3 15 9 4 [.null, .null, .null, .int 0] := ⟨RX6, TX6, tyX6, rfl, kw_304, kw_305, kw_12, inwX6, tyX6_ok, by decide +kernel⟩
theorem gY_X6_init : gYn yX6_init 0 := ⟨by decide +kernel, by decide +kernel, by decide +kernel⟩
theorem lkX3_17 : gLIN RX3 17 yX6_init "AnimationController" cX6_init 1 0 := ⟨ku_306, kw_307, kw_12, kw_308, rfl, gY_X6_init⟩
theorem flX3_18 : gFl RX3 18 6 7 (.object "AnimationController$Pose") true := ⟨RX3, TX3, 13, tyX3, rfl, by decide, kw_396, inwX3, tyX3_ok, nmX3, by decide +kernel, rfl, fun _ => rfl⟩
theorem nwX3_22 : gNw RX3 22 5 2 [.null, .int 0] := ⟨RX2, TX2, tyX2, rfl, kw_328, kw_329, kw_13, inwX2, tyX2_ok, by decide +kernel⟩
theorem gY_X2_init : gYn yX2_init 0 := ⟨by decide +kernel, by decide +kernel, by decide +kernel⟩
theorem lkX3_24 : gLIN RX3 24 yX2_init "AnimationController" cX2_init 1 0 := ⟨ku_330, kw_331, kw_13, kw_332, rfl, gY_X2_init⟩
theorem flX3_25 : gFl RX3 25 6 10 (.object "AnimationController$EventLog") true := ⟨RX3, TX3, 13, tyX3, rfl, by decide, kw_400, inwX3, tyX3_ok, nmX3, by decide +kernel, rfl, fun _ => rfl⟩
theorem nwX3_29 : gNw RX3 29 3 1 [.null] := ⟨RX0, TX0, tyX0, rfl, kw_345, kw_346, kw_14, inwX0, tyX0_ok, by decide +kernel⟩
theorem gY_X0_init : gYn yX0_init 0 := ⟨by decide +kernel, by decide +kernel, by decide +kernel⟩
theorem lkX3_31 : gLIN RX3 31 yX0_init "AnimationController" cX0_init 1 0 := ⟨ku_347, kw_348, kw_14, kw_349, rfl, gY_X0_init⟩
theorem flX3_32 : gFl RX3 32 6 11 (.object "AnimationController$Blend") true := ⟨RX3, TX3, 13, tyX3, rfl, by decide, kw_402, inwX3, tyX3_ok, nmX3, by decide +kernel, rfl, fun _ => rfl⟩
theorem flX3_36 : gFl RX3 36 6 12 (.object "AnimationController$Pose") true := ⟨RX3, TX3, 13, tyX3, rfl, by decide, kw_404, inwX3, tyX3_ok, nmX3, by decide +kernel, rfl, fun _ => rfl⟩
theorem flX3_39 : gFl RX3 39 6 0 (.object "AnimationController$Model") true := ⟨RX3, TX3, 13, tyX3, rfl, by decide, kw_383, inwX3, tyX3_ok, nmX3, by decide +kernel, rfl, fun _ => rfl⟩
theorem nwX3_43 : gNw RX3 43 11 6 [.null, .long 0, .int 0, .int 0, .long 0, .int 0] := ⟨RX8, TX8, tyX8, rfl, kw_355, kw_356, kw_15, inwX8, tyX8_ok, by decide +kernel⟩
theorem frX3_45 : gFr RX3 45 7 7 := ⟨RX4, TX4, 8, rfl, by decide, kw_186, inwX4⟩
theorem gY_X8_init : gYn yX8_init 1 := ⟨by decide +kernel, by decide +kernel, by decide +kernel⟩
theorem lkX3_51 : gLI RX3 51 yX8_init cX8_init 2 1 := ⟨kw_357, kw_358, kw_15, kw_359, rfl, gY_X8_init⟩
theorem flX3_54 : gFl RX3 54 6 2 (.object "AnimationController$Track") true := ⟨RX3, TX3, 13, tyX3, rfl, by decide, kw_386, inwX3, tyX3_ok, nmX3, by decide +kernel, rfl, fun _ => rfl⟩
theorem flX3_58 : gFl RX3 58 6 3 (.object "AnimationController$Track") true := ⟨RX3, TX3, 13, tyX3, rfl, by decide, kw_388, inwX3, tyX3_ok, nmX3, by decide +kernel, rfl, fun _ => rfl⟩
theorem flX8_22 : gFl RX8 22 11 1 .long false := ⟨RX8, TX8, 6, tyX8, rfl, by decide, kw_364, inwX8, tyX8_ok, nmX8, by decide +kernel, rfl, fun z => Bool.noConfusion z⟩
theorem flX8_26 : gFl RX8 26 11 2 .int false := ⟨RX8, TX8, 6, tyX8, rfl, by decide, kw_365, inwX8, tyX8_ok, nmX8, by decide +kernel, rfl, fun z => Bool.noConfusion z⟩
theorem flX8_30 : gFl RX8 30 11 4 .long false := ⟨RX8, TX8, 6, tyX8, rfl, by decide, kw_368, inwX8, tyX8_ok, nmX8, by decide +kernel, rfl, fun z => Bool.noConfusion z⟩
theorem flX6_21 : gFl RX6 21 9 3 .int false := ⟨RX6, TX6, 4, tyX6, rfl, by decide, kw_316, inwX6, tyX6_ok, nmX6, by decide +kernel, rfl, fun z => Bool.noConfusion z⟩
theorem acX6_25 : gAC RX6 25 := ⟨kw_1379, kw_614, kw_613, kw_26⟩
theorem acX3_61 : gAC RX3 61 := ⟨kw_1544, kw_614, kw_613, kw_26⟩
theorem gY_X8_copyFrom : gYn yX8_copyFrom 1 := ⟨by decide +kernel, by decide +kernel, by decide +kernel⟩
theorem lkX3_67 : gLV RX3 67 yX8_copyFrom cX8_copyFrom 2 none 1 := ⟨kw_643, kw_644, kw_645, kw_15, kw_646, gY_X8_copyFrom⟩
theorem flX3_71 : gFl RX3 71 6 4 (.object "AnimationController$Transition") false := ⟨RX3, TX3, 13, tyX3, rfl, by decide, kw_390, inwX3, tyX3_ok, nmX3, by decide +kernel, rfl, fun z => Bool.noConfusion z⟩
theorem flX3_75 : gFl RX3 75 6 5 .int false := ⟨RX3, TX3, 13, tyX3, rfl, by decide, kw_392, inwX3, tyX3_ok, nmX3, by decide +kernel, rfl, fun z => Bool.noConfusion z⟩
theorem flX3_79 : gFl RX3 79 6 6 .boolean false := ⟨RX3, TX3, 13, tyX3, rfl, by decide, kw_394, inwX3, tyX3_ok, nmX3, by decide +kernel, rfl, fun z => Bool.noConfusion z⟩
theorem gY_X6_copyFrom : gYn yX6_copyFrom 1 := ⟨by decide +kernel, by decide +kernel, by decide +kernel⟩
theorem lkX3_83 : gLV RX3 83 yX6_copyFrom cX6_copyFrom 2 none 1 := ⟨kw_1375, kw_1376, kw_1377, kw_12, kw_1378, gY_X6_copyFrom⟩
theorem flX3_86 : gFl RX3 86 6 8 .int false := ⟨RX3, TX3, 13, tyX3, rfl, by decide, kw_397, inwX3, tyX3_ok, nmX3, by decide +kernel, rfl, fun z => Bool.noConfusion z⟩
theorem flX3_89 : gFl RX3 89 6 9 .int false := ⟨RX3, TX3, 13, tyX3, rfl, by decide, kw_398, inwX3, tyX3_ok, nmX3, by decide +kernel, rfl, fun z => Bool.noConfusion z⟩
theorem gY_X2_copyFrom : gYn yX2_copyFrom 1 := ⟨by decide +kernel, by decide +kernel, by decide +kernel⟩
theorem lkX3_92 : gLV RX3 92 yX2_copyFrom cX2_copyFrom 3 none 1 := ⟨kw_1545, kw_1546, kw_1547, kw_13, kw_1548, gY_X2_copyFrom⟩
theorem gY_X8_begin : gYn yX8_begin 2 := ⟨by decide +kernel, by decide +kernel, by decide +kernel⟩
theorem lkX3_95 : gLV RX3 95 yX8_begin cX8_begin 3 none 2 := ⟨kw_635, kw_636, kw_637, kw_15, kw_638, gY_X8_begin⟩
theorem gY_X3_becomeIdle : gYn yX3_becomeIdle 0 := ⟨by decide +kernel, by decide +kernel, by decide +kernel⟩
theorem lkX3_99 : gLV RX3 99 yX3_becomeIdle cX3_becomeIdle 1 none 0 := ⟨kw_639, kw_641, kp_12, kw_11, kw_642, gY_X3_becomeIdle⟩
theorem flX3_102 : gFl RX3 102 5 1 .int false := ⟨RX2, TX2, 2, tyX2, rfl, by decide, kw_338, inwX2, tyX2_ok, nmX2, by decide +kernel, rfl, fun z => Bool.noConfusion z⟩
theorem frX3_116 : gFr RX3 116 7 2 := ⟨RX4, TX4, 8, rfl, by decide, kw_172, inwX4⟩
theorem lkX3_120 : gLV RX3 120 yJx4a65c_size_8abf5 cJx4a65c_size_8abf5 1 (some FieldType.int) 0 := ⟨kw_695, kw_470, kw_471, kw_5, kw_472, gY_Jx4a65c_size_8abf5⟩
theorem gY_J9_max_f86c9 : gYn yJ9_max_f86c9 2 := ⟨by decide +kernel, by decide +kernel, by decide +kernel⟩
theorem lkX3_141 : gLS RX3 141 yJ9_max_f86c9 cJ9_max_f86c9 4 (some FieldType.long) 2 := ⟨kw_1402, kw_1403, kw_24, kw_1404, gY_J9_max_f86c9⟩
theorem gY_X0_weightOf : gYn yX0_weightOf 1 := ⟨by decide +kernel, by decide +kernel, by decide +kernel⟩
theorem lkX3_126 : gLV RX3 126 yX0_weightOf cX0_weightOf 2 (some FieldType.int) 1 := ⟨kw_702, kw_703, kw_704, kw_14, kw_705, gY_X0_weightOf⟩
theorem lkX3_130 : gLV RX3 130 yJx4a65c_get_915e3 cJx4a65c_get_915e3 2 (some (FieldType.object "java/lang/Object")) 1 := ⟨kw_696, kw_486, kw_487, kw_5, kw_488, gY_Jx4a65c_get_915e3⟩
theorem frX3_136 : gFr RX3 136 4 1 := ⟨RX1, TX1, 5, rfl, by decide, kw_93, inwX1⟩
theorem frX3_105 : gFr RX3 105 10 1 := ⟨RX7, TX7, 5, rfl, by decide, kw_147, inwX7⟩
theorem gY_X0_fill : gYn yX0_fill 3 := ⟨by decide +kernel, by decide +kernel, by decide +kernel⟩
theorem lkX3_112 : gLV RX3 112 yX0_fill cX0_fill 5 none 3 := ⟨kw_680, kw_681, kw_682, kw_14, kw_683, gY_X0_fill⟩
theorem flX9_32 : gFl RX9 32 12 1 (.object "AnimationController$State") false := ⟨RX9, TX9, 12, tyX9, rfl, by decide, kw_221, inwX9, tyX9_ok, nmX9, by decide +kernel, rfl, fun z => Bool.noConfusion z⟩
theorem flX9_28 : gFl RX9 28 12 2 (.object "AnimationController$State") false := ⟨RX9, TX9, 12, tyX9, rfl, by decide, kw_225, inwX9, tyX9_ok, nmX9, by decide +kernel, rfl, fun z => Bool.noConfusion z⟩
theorem flX3_187 : gFl RX3 187 11 0 (.object "AnimationController$State") false := ⟨RX8, TX8, 6, tyX8, rfl, by decide, kw_362, inwX8, tyX8_ok, nmX8, by decide +kernel, rfl, fun z => Bool.noConfusion z⟩
theorem gY_X9_isListed : gYn yX9_isListed 2 := ⟨by decide +kernel, by decide +kernel, by decide +kernel⟩
theorem lkX3_190 : gLV RX3 190 yX9_isListed cX9_isListed 3 (some FieldType.boolean) 2 := ⟨kw_1345, kw_1346, kw_1347, kw_10, kw_1348, gY_X9_isListed⟩
theorem flX3_166 : gFl RX3 166 12 6 .int false := ⟨RX9, TX9, 12, tyX9, rfl, by decide, kw_241, inwX9, tyX9_ok, nmX9, by decide +kernel, rfl, fun z => Bool.noConfusion z⟩
theorem flX3_194 : gFl RX3 194 12 7 .boolean false := ⟨RX9, TX9, 12, tyX9, rfl, by decide, kw_245, inwX9, tyX9_ok, nmX9, by decide +kernel, rfl, fun z => Bool.noConfusion z⟩
theorem frX3_197 : gFr RX3 197 12 0 := ⟨RX9, TX9, 12, rfl, by decide, kw_219, inwX9⟩
theorem flX9_48 : gFl RX9 48 12 11 .int false := ⟨RX9, TX9, 12, tyX9, rfl, by decide, kw_251, inwX9, tyX9_ok, nmX9, by decide +kernel, rfl, fun z => Bool.noConfusion z⟩
theorem flX9_22 : gFl RX9 22 12 10 (.array .int) true := ⟨RX9, TX9, 12, tyX9, rfl, by decide, kw_250, inwX9, tyX9_ok, nmX9, by decide +kernel, rfl, fun _ => rfl⟩
theorem flX9_19 : gFl RX9 19 12 9 (.array .int) true := ⟨RX9, TX9, 12, tyX9, rfl, by decide, kw_249, inwX9, tyX9_ok, nmX9, by decide +kernel, rfl, fun _ => rfl⟩
theorem flX3_209 : gFl RX3 209 12 11 .int false := ⟨RX9, TX9, 12, tyX9, rfl, by decide, kw_253, inwX9, tyX9_ok, nmX9, by decide +kernel, rfl, fun z => Bool.noConfusion z⟩
theorem frX3_212 : gFr RX3 212 12 8 := ⟨RX9, TX9, 12, rfl, by decide, kw_248, inwX9⟩
theorem gY_X3_valueOf : gYn yX3_valueOf 1 := ⟨by decide +kernel, by decide +kernel, by decide +kernel⟩
theorem lkX3_215 : gLV RX3 215 yX3_valueOf cX3_valueOf 2 (some FieldType.int) 1 := ⟨kw_1359, kw_860, kw_861, kw_11, kw_862, gY_X3_valueOf⟩
theorem gY_X9_holds : gYn yX9_holds 2 := ⟨by decide +kernel, by decide +kernel, by decide +kernel⟩
theorem lkX3_218 : gLV RX3 218 yX9_holds cX9_holds 4 (some FieldType.boolean) 2 := ⟨kw_1360, kw_1361, kw_1362, kw_10, kw_1363, gY_X9_holds⟩
theorem flX3_200 : gFl RX3 200 12 4 .int false := ⟨RX9, TX9, 12, tyX9, rfl, by decide, kw_233, inwX9, tyX9_ok, nmX9, by decide +kernel, rfl, fun z => Bool.noConfusion z⟩
theorem gY_X8_progressNow : gYn yX8_progressNow 0 := ⟨by decide +kernel, by decide +kernel, by decide +kernel⟩
theorem lkX3_203 : gLV RX3 203 yX8_progressNow cX8_progressNow 1 (some FieldType.long) 0 := ⟨kw_1353, kw_1354, kw_1355, kw_15, kw_1356, gY_X8_progressNow⟩
theorem gY_X3_originOf : gYn yX3_originOf 1 := ⟨by decide +kernel, by decide +kernel, by decide +kernel⟩
theorem lkX3_179 : gLV RX3 179 yX3_originOf cX3_originOf 5 (some FieldType.int) 1 := ⟨kw_1341, kw_1342, kw_1343, kw_11, kw_1344, gY_X3_originOf⟩
theorem gY_X3_obstacleFrom : gYn yX3_obstacleFrom 2 := ⟨by decide +kernel, by decide +kernel, by decide +kernel⟩
theorem lkX3_183 : gLV RX3 183 yX3_obstacleFrom cX3_obstacleFrom 5 (some FieldType.int) 2 := ⟨kw_1349, kw_1350, kw_1351, kw_11, kw_1352, gY_X3_obstacleFrom⟩
theorem frX3_173 : gFr RX3 173 7 5 := ⟨RX4, TX4, 8, rfl, by decide, kw_180, inwX4⟩
theorem flX3_176 : gFl RX3 176 12 1 (.object "AnimationController$State") false := ⟨RX9, TX9, 12, tyX9, rfl, by decide, kw_223, inwX9, tyX9_ok, nmX9, by decide +kernel, rfl, fun z => Bool.noConfusion z⟩
theorem gY_X3_firstPossibleOf : gYn yX3_firstPossibleOf 1 := ⟨by decide +kernel, by decide +kernel, by decide +kernel⟩
theorem lkX3_169 : gLV RX3 169 yX3_firstPossibleOf cX3_firstPossibleOf 6 (some (FieldType.object "AnimationController$Transition")) 1 := ⟨kw_1336, kw_1338, kp_29, kw_11, kw_1339, gY_X3_firstPossibleOf⟩
theorem flX4_54 : gFl RX4 54 7 1 .int false := ⟨RX4, TX4, 8, tyX4, rfl, by decide, kw_168, inwX4, tyX4_ok, nmX4, by decide +kernel, rfl, fun z => Bool.noConfusion z⟩
theorem flX4_9 : gFl RX4 9 7 0 (.array .int) true := ⟨RX4, TX4, 8, tyX4, rfl, by decide, kw_166, inwX4, tyX4_ok, nmX4, by decide +kernel, rfl, fun _ => rfl⟩
theorem gY_X4_kindOf : gYn yX4_kindOf 1 := ⟨by decide +kernel, by decide +kernel, by decide +kernel⟩
theorem lkX3_234 : gLV RX3 234 yX4_kindOf cX4_kindOf 2 (some FieldType.int) 1 := ⟨kw_1372, kw_531, kw_532, kw_2, kw_533, gY_X4_kindOf⟩
theorem gY_X3_setValue : gYn yX3_setValue 2 := ⟨by decide +kernel, by decide +kernel, by decide +kernel⟩
theorem lkX3_237 : gLV RX3 237 yX3_setValue cX3_setValue 3 none 2 := ⟨kw_1373, kw_864, kw_865, kw_11, kw_866, gY_X3_setValue⟩
theorem gY_X6_isBefore : gYn yX6_isBefore 3 := ⟨by decide +kernel, by decide +kernel, by decide +kernel⟩
theorem lkX6_31 : gLV RX6 31 yX6_isBefore cX6_isBefore 4 (some FieldType.boolean) 3 := ⟨kw_710, kw_712, kp_15, kw_12, kw_713, gY_X6_isBefore⟩
theorem flX3_251 : gFl RX3 251 11 2 .int false := ⟨RX8, TX8, 6, tyX8, rfl, by decide, kw_366, inwX8, tyX8_ok, nmX8, by decide +kernel, rfl, fun z => Bool.noConfusion z⟩
theorem gY_J9_min_f86c9 : gYn yJ9_min_f86c9 2 := ⟨by decide +kernel, by decide +kernel, by decide +kernel⟩
theorem lkX3_328 : gLS RX3 328 yJ9_min_f86c9 cJ9_min_f86c9 4 (some FieldType.long) 2 := ⟨kw_699, kw_700, kw_24, kw_701, gY_J9_min_f86c9⟩
theorem gY_X6_addEntry : gYn yX6_addEntry 3 := ⟨by decide +kernel, by decide +kernel, by decide +kernel⟩
theorem lkX3_330 : gLV RX3 330 yX6_addEntry cX6_addEntry 6 none 3 := ⟨kw_706, kw_707, kw_708, kw_12, kw_709, gY_X6_addEntry⟩
theorem flX3_158 : gFl RX3 158 12 3 .int false := ⟨RX9, TX9, 12, tyX9, rfl, by decide, kw_230, inwX9, tyX9_ok, nmX9, by decide +kernel, rfl, fun z => Bool.noConfusion z⟩
theorem lkX6_37 : gLV RX6 37 yX6_addEntry cX6_addEntry 6 none 3 := ⟨kw_723, kw_707, kw_708, kw_12, kw_709, gY_X6_addEntry⟩
theorem gY_X3_addTrackPose : gYn yX3_addTrackPose 2 := ⟨by decide +kernel, by decide +kernel, by decide +kernel⟩
theorem lkX3_321 : gLV RX3 321 yX3_addTrackPose cX3_addTrackPose 6 none 2 := ⟨kw_676, kw_678, kp_14, kw_11, kw_679, gY_X3_addTrackPose⟩
theorem flX3_319 : gFl RX3 319 9 3 .int false := ⟨RX6, TX6, 4, tyX6, rfl, by decide, kw_317, inwX6, tyX6_ok, nmX6, by decide +kernel, rfl, fun z => Bool.noConfusion z⟩
theorem gY_X3_targetShare : gYn yX3_targetShare 0 := ⟨by decide +kernel, by decide +kernel, by decide +kernel⟩
theorem lkX3_284 : gLV RX3 284 yX3_targetShare cX3_targetShare 1 (some FieldType.int) 0 := ⟨kw_714, kw_716, kp_16, kw_11, kw_717, gY_X3_targetShare⟩
theorem gY_X6_addFrozen : gYn yX6_addFrozen 2 := ⟨by decide +kernel, by decide +kernel, by decide +kernel⟩
theorem lkX3_324 : gLV RX3 324 yX6_addFrozen cX6_addFrozen 8 none 2 := ⟨kw_718, kw_719, kw_720, kw_12, kw_721, gY_X6_addFrozen⟩
theorem flX7_24 : gFl RX7 24 10 4 .int true := ⟨RX7, TX7, 5, tyX7, rfl, by decide, kw_154, inwX7, tyX7_ok, nmX7, by decide +kernel, rfl, fun _ => rfl⟩
theorem flX3_245 : gFl RX3 245 12 5 .int false := ⟨RX9, TX9, 12, tyX9, rfl, by decide, kw_238, inwX9, tyX9_ok, nmX9, by decide +kernel, rfl, fun z => Bool.noConfusion z⟩
theorem flX3_228 : gFl RX3 228 12 2 (.object "AnimationController$State") false := ⟨RX9, TX9, 12, tyX9, rfl, by decide, kw_227, inwX9, tyX9_ok, nmX9, by decide +kernel, rfl, fun z => Bool.noConfusion z⟩
theorem gY_X7_isSyncedWith : gYn yX7_isSyncedWith 1 := ⟨by decide +kernel, by decide +kernel, by decide +kernel⟩
theorem lkX3_241 : gLV RX3 241 yX7_isSyncedWith cX7_isSyncedWith 2 (some FieldType.boolean) 1 := ⟨kw_1384, kw_1385, kw_1386, kw_6, kw_1387, gY_X7_isSyncedWith⟩
theorem frX3_248 : gFr RX3 248 10 3 := ⟨RX7, TX7, 5, rfl, by decide, kw_153, inwX7⟩
theorem lkX3_255 : gLS RX3 255 yJ9_min_7cf53 cJ9_min_7cf53 2 (some FieldType.int) 2 := ⟨kw_1389, kw_610, kw_24, kw_611, gY_J9_min_7cf53⟩
theorem gY_X3_firstPhase : gYn yX3_firstPhase 1 := ⟨by decide +kernel, by decide +kernel, by decide +kernel⟩
theorem lkX3_231 : gLV RX3 231 yX3_firstPhase cX3_firstPhase 2 (some FieldType.int) 1 := ⟨kw_1380, kw_1382, kp_32, kw_11, kw_1383, gY_X3_firstPhase⟩
theorem gY_X3_clearTriggers : gYn yX3_clearTriggers 1 := ⟨by decide +kernel, by decide +kernel, by decide +kernel⟩
theorem lkX3_222 : gLV RX3 222 yX3_clearTriggers cX3_clearTriggers 3 none 1 := ⟨kw_1368, kw_1370, kp_31, kw_11, kw_1371, gY_X3_clearTriggers⟩
theorem gY_X3_fillPose : gYn yX3_fillPose 0 := ⟨by decide +kernel, by decide +kernel, by decide +kernel⟩
theorem lkX3_225 : gLV RX3 225 yX3_fillPose cX3_fillPose 2 none 0 := ⟨kw_1374, kw_672, kw_673, kw_11, kw_674, gY_X3_fillPose⟩
theorem frX3_270 : gFr RX3 270 10 2 := ⟨RX7, TX7, 5, rfl, by decide, kw_150, inwX7⟩
theorem gY_X3_lengthOf : gYn yX3_lengthOf 1 := ⟨by decide +kernel, by decide +kernel, by decide +kernel⟩
theorem lkX3_273 : gLV RX3 273 yX3_lengthOf cX3_lengthOf 5 (some FieldType.int) 1 := ⟨kw_1398, kw_1399, kw_1400, kw_11, kw_1401, gY_X3_lengthOf⟩
theorem gY_X3_stepBy : gYn yX3_stepBy 2 := ⟨by decide +kernel, by decide +kernel, by decide +kernel⟩
theorem lkX3_277 : gLS RX3 277 yX3_stepBy cX3_stepBy 4 (some FieldType.long) 2 := ⟨kw_1405, kw_1406, kw_11, kw_1407, gY_X3_stepBy⟩
theorem lkX8_35 : gLV RX8 35 yX8_progressNow cX8_progressNow 1 (some FieldType.long) 0 := ⟨kw_1413, kw_1354, kw_1355, kw_15, kw_1356, gY_X8_progressNow⟩
theorem frX8_39 : gFr RX8 39 10 3 := ⟨RX7, TX7, 5, rfl, by decide, kw_152, inwX7⟩
theorem lkX8_44 : gLS RX8 44 yJ9_min_f86c9 cJ9_min_f86c9 4 (some FieldType.long) 2 := ⟨kw_1414, kw_700, kw_24, kw_701, gY_J9_min_f86c9⟩
theorem gY_X3_mixed : gYn yX3_mixed 2 := ⟨by decide +kernel, by decide +kernel, by decide +kernel⟩
theorem lkX3_280 : gLV RX3 280 yX3_mixed cX3_mixed 5 (some FieldType.long) 2 := ⟨kw_1419, kw_1421, kp_36, kw_11, kw_1422, gY_X3_mixed⟩
theorem gY_X3_stepOf : gYn yX3_stepOf 1 := ⟨by decide +kernel, by decide +kernel, by decide +kernel⟩
theorem lkX3_259 : gLV RX3 259 yX3_stepOf cX3_stepOf 2 (some FieldType.long) 1 := ⟨kw_1394, kw_1396, kp_34, kw_11, kw_1397, gY_X3_stepOf⟩
theorem gY_X8_advance : gYn yX8_advance 1 := ⟨by decide +kernel, by decide +kernel, by decide +kernel⟩
theorem lkX3_263 : gLV RX3 263 yX8_advance cX8_advance 5 none 1 := ⟨kw_1409, kw_1410, kw_1411, kw_15, kw_1412, gY_X8_advance⟩
theorem gY_X3_commonStep : gYn yX3_commonStep 0 := ⟨by decide +kernel, by decide +kernel, by decide +kernel⟩
theorem lkX3_267 : gLV RX3 267 yX3_commonStep cX3_commonStep 5 (some FieldType.long) 0 := ⟨kw_1415, kw_1417, kp_35, kw_11, kw_1418, gY_X3_commonStep⟩
theorem flX3_300 : gFl RX3 300 4 4 .int false := ⟨RX1, TX1, 5, tyX1, rfl, by decide, kw_100, inwX1, tyX1_ok, nmX1, by decide +kernel, rfl, fun z => Bool.noConfusion z⟩
theorem frX3_303 : gFr RX3 303 4 2 := ⟨RX1, TX1, 5, rfl, by decide, kw_95, inwX1⟩
theorem gY_X8_hasReached : gYn yX8_hasReached 1 := ⟨by decide +kernel, by decide +kernel, by decide +kernel⟩
theorem lkX3_306 : gLV RX3 306 yX8_hasReached cX8_hasReached 7 (some FieldType.boolean) 1 := ⟨kw_1435, kw_1436, kw_1437, kw_15, kw_1438, gY_X8_hasReached⟩
theorem frX3_310 : gFr RX3 310 4 3 := ⟨RX1, TX1, 5, rfl, by decide, kw_97, inwX1⟩
theorem frX3_313 : gFr RX3 313 4 0 := ⟨RX1, TX1, 5, rfl, by decide, kw_89, inwX1⟩
theorem frX3_314 : gFr RX3 314 10 0 := ⟨RX7, TX7, 5, rfl, by decide, kw_145, inwX7⟩
theorem gY_X2_append : gYn yX2_append 4 := ⟨by decide +kernel, by decide +kernel, by decide +kernel⟩
theorem lkX3_315 : gLV RX3 315 yX2_append cX2_append 6 none 4 := ⟨kw_1439, kw_1440, kw_1441, kw_13, kw_1442, gY_X2_append⟩
theorem flX3_293 : gFl RX3 293 7 6 .int false := ⟨RX4, TX4, 8, tyX4, rfl, by decide, kw_184, inwX4, tyX4_ok, nmX4, by decide +kernel, rfl, fun z => Bool.noConfusion z⟩
theorem gY_X3_fireClip : gYn yX3_fireClip 2 := ⟨by decide +kernel, by decide +kernel, by decide +kernel⟩
theorem lkX3_296 : gLV RX3 296 yX3_fireClip cX3_fireClip 6 none 2 := ⟨kw_1431, kw_1433, kp_39, kw_11, kw_1434, gY_X3_fireClip⟩
theorem gY_X3_fireTrack : gYn yX3_fireTrack 2 := ⟨by decide +kernel, by decide +kernel, by decide +kernel⟩
theorem lkX3_289 : gLV RX3 289 yX3_fireTrack cX3_fireTrack 6 none 2 := ⟨kw_1427, kw_1429, kp_38, kw_11, kw_1430, gY_X3_fireTrack⟩
theorem gY_X3_fireEvents : gYn yX3_fireEvents 0 := ⟨by decide +kernel, by decide +kernel, by decide +kernel⟩
theorem lkX3_163 : gLV RX3 163 yX3_fireEvents cX3_fireEvents 2 none 0 := ⟨kw_1423, kw_1425, kp_37, kw_11, kw_1426, gY_X3_fireEvents⟩
theorem gY_X3_advanceTracks : gYn yX3_advanceTracks 0 := ⟨by decide +kernel, by decide +kernel, by decide +kernel⟩
theorem lkX3_155 : gLV RX3 155 yX3_advanceTracks cX3_advanceTracks 3 none 0 := ⟨kw_1390, kw_1392, kp_33, kw_11, kw_1393, gY_X3_advanceTracks⟩
theorem gY_X3_firstPossible : gYn yX3_firstPossible 0 := ⟨by decide +kernel, by decide +kernel, by decide +kernel⟩
theorem lkX3_147 : gLV RX3 147 yX3_firstPossible cX3_firstPossible 3 (some (FieldType.object "AnimationController$Transition")) 0 := ⟨kw_1332, kw_1334, kp_28, kw_11, kw_1335, gY_X3_firstPossible⟩
theorem gY_X3_take : gYn yX3_take 1 := ⟨by decide +kernel, by decide +kernel, by decide +kernel⟩
theorem lkX3_151 : gLV RX3 151 yX3_take cX3_take 3 none 1 := ⟨kw_1364, kw_1366, kp_30, kw_11, kw_1367, gY_X3_take⟩
theorem gY_Jxa1e45_init_da8c8 : gYn yJxa1e45_init_da8c8 0 := ⟨by decide +kernel, by decide +kernel, by decide +kernel⟩
theorem lkJxc12de_1 : gLI RJxc12de 1 yJxa1e45_init_da8c8 cJxa1e45_init_da8c8 1 0 := ⟨kw_58, kw_59, kw_3, kw_60, rfl, gY_Jxa1e45_init_da8c8⟩
theorem flJxc12de_7 : gFl RJxc12de 7 2 0 .int false := ⟨RJx4a65c, TJx4a65c, 3, tyJx4a65c, rfl, by decide, kw_66, inwJx4a65c, tyJx4a65c_ok, nmJx4a65c, by decide +kernel, rfl, fun z => Bool.noConfusion z⟩
theorem gY_Jxc12de_init_da8c8 : gYn yJxc12de_init_da8c8 0 := ⟨by decide +kernel, by decide +kernel, by decide +kernel⟩
theorem lkJx4a65c_1 : gLI RJx4a65c 1 yJxc12de_init_da8c8 cJxc12de_init_da8c8 1 0 := ⟨kw_55, kw_56, kw_4, kw_57, rfl, gY_Jxc12de_init_da8c8⟩
theorem nwX5_9 : gNw RX5 9 2 3 [.int 0, .null, .int 0] := ⟨RJx4a65c, TJx4a65c, tyJx4a65c, rfl, kw_116, kw_51, kw_5, inwJx4a65c, tyJx4a65c_ok, by decide +kernel⟩
theorem gY_Jx4a65c_init_da8c8 : gYn yJx4a65c_init_da8c8 0 := ⟨by decide +kernel, by decide +kernel, by decide +kernel⟩
theorem lkX5_11 : gLI RX5 11 yJx4a65c_init_da8c8 cJx4a65c_init_da8c8 1 0 := ⟨kw_117, kw_53, kw_5, kw_54, rfl, gY_Jx4a65c_init_da8c8⟩
theorem flX5_12 : gFl RX5 12 8 2 (.object "java/util/ArrayList") true := ⟨RX5, TX5, 5, tyX5, rfl, by decide, kw_122, inwX5, tyX5_ok, nmX5, by decide +kernel, rfl, fun _ => rfl⟩
theorem flX5_22 : gFl RX5 22 8 4 .int false := ⟨RX5, TX5, 5, tyX5, rfl, by decide, kw_126, inwX5, tyX5_ok, nmX5, by decide +kernel, rfl, fun z => Bool.noConfusion z⟩
theorem flX5_26 : gFl RX5 26 8 0 (.object "AnimationController$Clip") true := ⟨RX5, TX5, 5, tyX5, rfl, by decide, kw_118, inwX5, tyX5_ok, nmX5, by decide +kernel, rfl, fun _ => rfl⟩
theorem flX5_30 : gFl RX5 30 8 1 .int true := ⟨RX5, TX5, 5, tyX5, rfl, by decide, kw_120, inwX5, tyX5_ok, nmX5, by decide +kernel, rfl, fun _ => rfl⟩
theorem flX7_7 : gFl RX7 7 10 0 .int true := ⟨RX7, TX7, 5, tyX7, rfl, by decide, kw_143, inwX7, tyX7_ok, nmX7, by decide +kernel, rfl, fun _ => rfl⟩
theorem flX7_13 : gFl RX7 13 10 1 (.object "AnimationController$Node") true := ⟨RX7, TX7, 5, tyX7, rfl, by decide, kw_146, inwX7, tyX7_ok, nmX7, by decide +kernel, rfl, fun _ => rfl⟩
theorem flX7_17 : gFl RX7 17 10 2 .int true := ⟨RX7, TX7, 5, tyX7, rfl, by decide, kw_149, inwX7, tyX7_ok, nmX7, by decide +kernel, rfl, fun _ => rfl⟩
theorem flX7_20 : gFl RX7 20 10 3 .boolean true := ⟨RX7, TX7, 5, tyX7, rfl, by decide, kw_151, inwX7, tyX7_ok, nmX7, by decide +kernel, rfl, fun _ => rfl⟩
theorem nwX4_15 : gNw RX4 15 2 3 [.int 0, .null, .int 0] := ⟨RJx4a65c, TJx4a65c, tyJx4a65c, rfl, kw_50, kw_51, kw_5, inwJx4a65c, tyJx4a65c_ok, by decide +kernel⟩
theorem lkX4_17 : gLI RX4 17 yJx4a65c_init_da8c8 cJx4a65c_init_da8c8 1 0 := ⟨kw_52, kw_53, kw_5, kw_54, rfl, gY_Jx4a65c_init_da8c8⟩
theorem flX4_18 : gFl RX4 18 7 2 (.object "java/util/ArrayList") true := ⟨RX4, TX4, 8, tyX4, rfl, by decide, kw_170, inwX4, tyX4_ok, nmX4, by decide +kernel, rfl, fun _ => rfl⟩
theorem flX4_22 : gFl RX4 22 7 3 (.object "java/util/ArrayList") true := ⟨RX4, TX4, 8, tyX4, rfl, by decide, kw_173, inwX4, tyX4_ok, nmX4, by decide +kernel, rfl, fun _ => rfl⟩
theorem flX4_25 : gFl RX4 25 7 4 (.object "java/util/ArrayList") true := ⟨RX4, TX4, 8, tyX4, rfl, by decide, kw_175, inwX4, tyX4_ok, nmX4, by decide +kernel, rfl, fun _ => rfl⟩
theorem flX4_28 : gFl RX4 28 7 5 (.object "java/util/ArrayList") true := ⟨RX4, TX4, 8, tyX4, rfl, by decide, kw_178, inwX4, tyX4_ok, nmX4, by decide +kernel, rfl, fun _ => rfl⟩
theorem flX4_31 : gFl RX4 31 7 6 .int false := ⟨RX4, TX4, 8, tyX4, rfl, by decide, kw_182, inwX4, tyX4_ok, nmX4, by decide +kernel, rfl, fun z => Bool.noConfusion z⟩
theorem nwX4_35 : gNw RX4 35 10 5 [.int 0, .null, .int 0, .int 0, .int 0] := ⟨RX7, TX7, tyX7, rfl, kw_77, kw_78, kw_6, inwX7, tyX7_ok, by decide +kernel⟩
theorem nwX4_37 : gNw RX4 37 8 5 [.null, .int 0, .null, .null, .int 0] := ⟨RX5, TX5, tyX5, rfl, kw_79, kw_80, kw_7, inwX5, tyX5_ok, by decide +kernel⟩
theorem nwX4_39 : gNw RX4 39 4 5 [.int 0, .int 0, .null, .null, .int 0] := ⟨RX1, TX1, tyX1, rfl, kw_81, kw_82, kw_8, inwX1, tyX1_ok, by decide +kernel⟩
theorem gY_X1_init : gYn yX1_init 2 := ⟨by decide +kernel, by decide +kernel, by decide +kernel⟩
theorem lkX4_41 : gLI RX4 41 yX1_init cX1_init 3 2 := ⟨kw_83, kw_84, kw_8, kw_85, rfl, gY_X1_init⟩
theorem gY_X5_init : gYn yX5_init 2 := ⟨by decide +kernel, by decide +kernel, by decide +kernel⟩
theorem lkX4_44 : gLI RX4 44 yX5_init cX5_init 3 2 := ⟨kw_112, kw_113, kw_7, kw_114, rfl, gY_X5_init⟩
theorem gY_X7_init : gYn yX7_init 5 := ⟨by decide +kernel, by decide +kernel, by decide +kernel⟩
theorem lkX4_47 : gLI RX4 47 yX7_init cX7_init 6 5 := ⟨kw_139, kw_140, kw_6, kw_141, rfl, gY_X7_init⟩
theorem flX4_50 : gFl RX4 50 7 7 (.object "AnimationController$State") true := ⟨RX4, TX4, 8, tyX4, rfl, by decide, kw_187, inwX4, tyX4_ok, nmX4, by decide +kernel, rfl, fun _ => rfl⟩
theorem lkX4_57 : gLV RX4 57 yX4_kindOf cX4_kindOf 2 (some FieldType.int) 1 := ⟨kw_857, kw_531, kw_532, kw_2, kw_533, gY_X4_kindOf⟩
theorem gY_X4_isValue : gYn yX4_isValue 2 := ⟨by decide +kernel, by decide +kernel, by decide +kernel⟩
theorem lkX4_61 : gLV RX4 61 yX4_isValue cX4_isValue 3 (some FieldType.boolean) 2 := ⟨kw_1282, kw_854, kw_855, kw_2, kw_856, gY_X4_isValue⟩
theorem lkX5_37 : gLV RX5 37 yJx4a65c_size_8abf5 cJx4a65c_size_8abf5 1 (some FieldType.int) 0 := ⟨kw_949, kw_470, kw_471, kw_5, kw_472, gY_Jx4a65c_size_8abf5⟩
theorem lkX5_49 : gLV RX5 49 yJx4a65c_get_915e3 cJx4a65c_get_915e3 2 (some (FieldType.object "java/lang/Object")) 1 := ⟨kw_967, kw_486, kw_487, kw_5, kw_488, gY_Jx4a65c_get_915e3⟩
theorem gY_J9_max_7cf53 : gYn yJ9_max_7cf53 2 := ⟨by decide +kernel, by decide +kernel, by decide +kernel⟩
theorem lkX5_53 : gLS RX5 53 yJ9_max_7cf53 cJ9_max_7cf53 2 (some FieldType.int) 2 := ⟨kw_969, kw_571, kw_24, kw_572, gY_J9_max_7cf53⟩
theorem flX4_76 : gFl RX4 76 8 4 .int false := ⟨RX5, TX5, 5, tyX5, rfl, by decide, kw_127, inwX5, tyX5_ok, nmX5, by decide +kernel, rfl, fun z => Bool.noConfusion z⟩
theorem lkX4_79 : gLS RX4 79 yJ9_max_7cf53 cJ9_max_7cf53 2 (some FieldType.int) 2 := ⟨kw_970, kw_571, kw_24, kw_572, gY_J9_max_7cf53⟩
theorem lkX4_65 : gLV RX4 65 yJx4a65c_size_8abf5 cJx4a65c_size_8abf5 1 (some FieldType.int) 0 := ⟨kw_961, kw_470, kw_471, kw_5, kw_472, gY_Jx4a65c_size_8abf5⟩
theorem lkX4_69 : gLV RX4 69 yJx4a65c_get_915e3 cJx4a65c_get_915e3 2 (some (FieldType.object "java/lang/Object")) 1 := ⟨kw_962, kw_486, kw_487, kw_5, kw_488, gY_Jx4a65c_get_915e3⟩
theorem gY_X5_depthByChildren : gYn yX5_depthByChildren 0 := ⟨by decide +kernel, by decide +kernel, by decide +kernel⟩
theorem lkX4_73 : gLV RX4 73 yX5_depthByChildren cX5_depthByChildren 3 (some FieldType.int) 0 := ⟨kw_963, kw_964, kw_965, kw_7, kw_966, gY_X5_depthByChildren⟩
theorem lkX5_33 : gLV RX5 33 yJx4a65c_isEmpty_aae02 cJx4a65c_isEmpty_aae02 1 (some FieldType.boolean) 0 := ⟨kw_956, kw_626, kw_627, kw_5, kw_628, gY_Jx4a65c_isEmpty_aae02⟩
theorem lkX5_41 : gLV RX5 41 yX5_positionOf cX5_positionOf 2 (some FieldType.int) 1 := ⟨kw_950, kw_690, kw_691, kw_7, kw_692, gY_X5_positionOf⟩
theorem lkJ8_194 : gLS RJ8 194 yJ9_max_7cf53 cJ9_max_7cf53 2 (some FieldType.int) 2 := ⟨kw_570, kw_571, kw_24, kw_572, gY_J9_max_7cf53⟩
theorem lkJ7_304 : gLS RJ7 304 yJ9_min_7cf53 cJ9_min_7cf53 2 (some FieldType.int) 2 := ⟨kw_609, kw_610, kw_24, kw_611, gY_J9_min_7cf53⟩
theorem acJ7_150 : gAC RJ7 150 := ⟨kw_612, kw_614, kw_613, kw_26⟩
theorem gY_J7_copyOf_6403c : gYn yJ7_copyOf_6403c 3 := ⟨by decide +kernel, by decide +kernel, by decide +kernel⟩
theorem lkJ7_300 : gLS RJ7 300 yJ7_copyOf_6403c cJ7_copyOf_6403c 4 (some (FieldType.array (FieldType.object "java/lang/Object"))) 3 := ⟨kw_603, kw_604, kw_25, kw_605, gY_J7_copyOf_6403c⟩
theorem gY_J8_newLength_cabcc : gYn yJ8_newLength_cabcc 3 := ⟨by decide +kernel, by decide +kernel, by decide +kernel⟩
theorem lkJx4a65c_73 : gLS RJx4a65c 73 yJ8_newLength_cabcc cJ8_newLength_cabcc 4 (some FieldType.int) 3 := ⟨kw_567, kw_568, kw_23, kw_569, gY_J8_newLength_cabcc⟩
theorem gY_J7_copyOf_1904c : gYn yJ7_copyOf_1904c 2 := ⟨by decide +kernel, by decide +kernel, by decide +kernel⟩
theorem lkJx4a65c_66 : gLS RJx4a65c 66 yJ7_copyOf_1904c cJ7_copyOf_1904c 2 (some (FieldType.array (FieldType.object "java/lang/Object"))) 2 := ⟨kw_577, kw_578, kw_25, kw_579, gY_J7_copyOf_1904c⟩
theorem lkJx4a65c_79 : gLS RJx4a65c 79 yJ9_max_7cf53 cJ9_max_7cf53 2 (some FieldType.int) 2 := ⟨kw_615, kw_571, kw_24, kw_572, gY_J9_max_7cf53⟩
theorem gY_Jx4a65c_grow_92f84 : gYn yJx4a65c_grow_92f84 1 := ⟨by decide +kernel, by decide +kernel, by decide +kernel⟩
theorem lkJx4a65c_69 : gLV RJx4a65c 69 yJx4a65c_grow_92f84 cJx4a65c_grow_92f84 4 (some (FieldType.array (FieldType.object "java/lang/Object"))) 1 := ⟨kw_563, kw_565, kp_11, kw_5, kw_566, gY_Jx4a65c_grow_92f84⟩
theorem acJx4a65c_112 : gAC RJx4a65c 112 := ⟨kw_1221, kw_614, kw_613, kw_26⟩
theorem gY_Jx4a65c_rangeCheckForAdd_d00df : gYn yJx4a65c_rangeCheckForAdd_d00df 1 := ⟨by decide +kernel, by decide +kernel, by decide +kernel⟩
theorem lkJx4a65c_135 : gLV RJx4a65c 135 yJx4a65c_rangeCheckForAdd_d00df cJx4a65c_rangeCheckForAdd_d00df 2 none 1 := ⟨kw_980, kw_982, kp_22, kw_5, kw_983, gY_Jx4a65c_rangeCheckForAdd_d00df⟩
theorem fmJx4a65c_63 : gFl2 RJx4a65c 63 2 0 .int := ⟨RJx4a65c, "java/util/ArrayList", TJx4a65c, 3, tyJx4a65c, rfl, by decide, kw_67, kw_68, inwJx4a65c, tyJx4a65c_ok, nmJx4a65c, by decide +kernel, rfl⟩
theorem gY_Jx4a65c_grow_d5877 : gYn yJx4a65c_grow_d5877 0 := ⟨by decide +kernel, by decide +kernel, by decide +kernel⟩
theorem lkJx4a65c_129 : gLV RJx4a65c 129 yJx4a65c_grow_d5877 cJx4a65c_grow_d5877 1 (some (FieldType.array (FieldType.object "java/lang/Object"))) 0 := ⟨kw_559, kw_561, kp_10, kw_5, kw_562, gY_Jx4a65c_grow_d5877⟩
theorem gY_Jx4a65c_add_7a177 : gYn yJx4a65c_add_7a177 2 := ⟨by decide +kernel, by decide +kernel, by decide +kernel⟩
theorem lkX5_45 : gLV RX5 45 yJx4a65c_add_7a177 cJx4a65c_add_7a177 5 none 2 := ⟨kw_976, kw_977, kw_978, kw_5, kw_979, gY_Jx4a65c_add_7a177⟩
theorem flX9_9 : gFl RX9 9 12 4 .int false := ⟨RX9, TX9, 12, tyX9, rfl, by decide, kw_231, inwX9, tyX9_ok, nmX9, by decide +kernel, rfl, fun z => Bool.noConfusion z⟩
theorem flX9_15 : gFl RX9 15 12 8 (.array .int) true := ⟨RX9, TX9, 12, tyX9, rfl, by decide, kw_247, inwX9, tyX9_ok, nmX9, by decide +kernel, rfl, fun _ => rfl⟩
theorem flX9_25 : gFl RX9 25 12 0 .int true := ⟨RX9, TX9, 12, tyX9, rfl, by decide, kw_218, inwX9, tyX9_ok, nmX9, by decide +kernel, rfl, fun _ => rfl⟩
theorem flX9_35 : gFl RX9 35 12 3 .int false := ⟨RX9, TX9, 12, tyX9, rfl, by decide, kw_229, inwX9, tyX9_ok, nmX9, by decide +kernel, rfl, fun z => Bool.noConfusion z⟩
theorem flX9_38 : gFl RX9 38 12 5 .int false := ⟨RX9, TX9, 12, tyX9, rfl, by decide, kw_235, inwX9, tyX9_ok, nmX9, by decide +kernel, rfl, fun z => Bool.noConfusion z⟩
theorem flX9_41 : gFl RX9 41 12 6 .int false := ⟨RX9, TX9, 12, tyX9, rfl, by decide, kw_239, inwX9, tyX9_ok, nmX9, by decide +kernel, rfl, fun z => Bool.noConfusion z⟩
theorem flX9_44 : gFl RX9 44 12 7 .boolean false := ⟨RX9, TX9, 12, tyX9, rfl, by decide, kw_243, inwX9, tyX9_ok, nmX9, by decide +kernel, rfl, fun z => Bool.noConfusion z⟩
theorem gY_X9_appendCondition : gYn yX9_appendCondition 3 := ⟨by decide +kernel, by decide +kernel, by decide +kernel⟩
theorem lkX9_55 : gLV RX9 55 yX9_appendCondition cX9_appendCondition 4 none 3 := ⟨kw_550, kw_535, kw_536, kw_10, kw_537, gY_X9_appendCondition⟩
theorem gY_X9_begin : gYn yX9_begin 3 := ⟨by decide +kernel, by decide +kernel, by decide +kernel⟩
theorem lkX9_51 : gLV RX9 51 yX9_begin cX9_begin 4 none 3 := ⟨kw_549, kw_509, kw_510, kw_10, kw_511, gY_X9_begin⟩
theorem flX10_9 : gFl RX10 9 13 1 (.array .int) true := ⟨RX10, TX10, 5, tyX10, rfl, by decide, kw_281, inwX10, tyX10_ok, nmX10, by decide +kernel, rfl, fun _ => rfl⟩
theorem flX10_15 : gFl RX10 15 13 0 (.object "AnimationController$Model") true := ⟨RX10, TX10, 5, tyX10, rfl, by decide, kw_280, inwX10, tyX10_ok, nmX10, by decide +kernel, rfl, fun _ => rfl⟩
theorem nwX10_19 : gNw RX10 19 12 12 [.int 0, .null, .null, .int 0, .int 0, .int 0, .int 0, .int 0, .null, .null, .null, .int 0] := ⟨RX9, TX9, tyX9, rfl, kw_212, kw_213, kw_10, inwX9, tyX9_ok, by decide +kernel⟩
theorem frX10_21 : gFr RX10 21 7 7 := ⟨RX4, TX4, 8, rfl, by decide, kw_185, inwX4⟩
theorem gY_X9_init : gYn yX9_init 2 := ⟨by decide +kernel, by decide +kernel, by decide +kernel⟩
theorem lkX10_27 : gLI RX10 27 yX9_init cX9_init 3 2 := ⟨kw_214, kw_215, kw_10, kw_216, rfl, gY_X9_init⟩
theorem flX10_30 : gFl RX10 30 13 4 (.object "AnimationController$Transition") true := ⟨RX10, TX10, 5, tyX10, rfl, by decide, kw_286, inwX10, tyX10_ok, nmX10, by decide +kernel, rfl, fun _ => rfl⟩
theorem flX10_34 : gFl RX10 34 13 3 .int false := ⟨RX10, TX10, 5, tyX10, rfl, by decide, kw_285, inwX10, tyX10_ok, nmX10, by decide +kernel, rfl, fun z => Bool.noConfusion z⟩
theorem flX10_69 : gFl RX10 69 13 2 .int false := ⟨RX10, TX10, 5, tyX10, rfl, by decide, kw_283, inwX10, tyX10_ok, nmX10, by decide +kernel, rfl, fun z => Bool.noConfusion z⟩
theorem frX10_132 : gFr RX10 132 7 4 := ⟨RX4, TX4, 8, rfl, by decide, kw_177, inwX4⟩
theorem lkX10_42 : gLV RX10 42 yJx4a65c_size_8abf5 cJx4a65c_size_8abf5 1 (some FieldType.int) 0 := ⟨kw_469, kw_470, kw_471, kw_5, kw_472, gY_Jx4a65c_size_8abf5⟩
theorem lkX10_135 : gLV RX10 135 yJx4a65c_get_915e3 cJx4a65c_get_915e3 2 (some (FieldType.object "java/lang/Object")) 1 := ⟨kw_485, kw_486, kw_487, kw_5, kw_488, gY_Jx4a65c_get_915e3⟩
theorem gY_X10_nextByte : gYn yX10_nextByte 0 := ⟨by decide +kernel, by decide +kernel, by decide +kernel⟩
theorem lkX10_55 : gLV RX10 55 yX10_nextByte cX10_nextByte 1 (some FieldType.int) 0 := ⟨kw_477, kw_479, kp_1, kw_9, kw_480, gY_X10_nextByte⟩
theorem lkX10_125 : gLV RX10 125 yX9_appendCondition cX9_appendCondition 4 none 3 := ⟨kw_534, kw_535, kw_536, kw_10, kw_537, gY_X9_appendCondition⟩
theorem gY_X10_readNumber : gYn yX10_readNumber 1 := ⟨by decide +kernel, by decide +kernel, by decide +kernel⟩
theorem lkX10_80 : gLV RX10 80 yX10_readNumber cX10_readNumber 5 (some FieldType.int) 1 := ⟨kw_504, kw_506, kp_4, kw_9, kw_507, gY_X10_readNumber⟩
theorem gY_X10_operatorOf : gYn yX10_operatorOf 1 := ⟨by decide +kernel, by decide +kernel, by decide +kernel⟩
theorem lkX10_129 : gLS RX10 129 yX10_operatorOf cX10_operatorOf 1 (some FieldType.int) 1 := ⟨kw_538, kw_539, kw_9, kw_540, gY_X10_operatorOf⟩
theorem gY_X10_parameterOf : gYn yX10_parameterOf 1 := ⟨by decide +kernel, by decide +kernel, by decide +kernel⟩
theorem lkX10_119 : gLS RX10 119 yX10_parameterOf cX10_parameterOf 1 (some FieldType.int) 1 := ⟨kw_527, kw_528, kw_9, kw_529, gY_X10_parameterOf⟩
theorem lkX10_122 : gLV RX10 122 yX4_kindOf cX4_kindOf 2 (some FieldType.int) 1 := ⟨kw_530, kw_531, kw_532, kw_2, kw_533, gY_X4_kindOf⟩
theorem flX10_109 : gFl RX10 109 12 6 .int false := ⟨RX9, TX9, 12, tyX9, rfl, by decide, kw_240, inwX9, tyX9_ok, nmX9, by decide +kernel, rfl, fun z => Bool.noConfusion z⟩
theorem flX10_106 : gFl RX10 106 12 5 .int false := ⟨RX9, TX9, 12, tyX9, rfl, by decide, kw_236, inwX9, tyX9_ok, nmX9, by decide +kernel, rfl, fun z => Bool.noConfusion z⟩
theorem flX10_103 : gFl RX10 103 12 4 .int false := ⟨RX9, TX9, 12, tyX9, rfl, by decide, kw_232, inwX9, tyX9_ok, nmX9, by decide +kernel, rfl, fun z => Bool.noConfusion z⟩
theorem flX10_112 : gFl RX10 112 12 7 .boolean false := ⟨RX9, TX9, 12, tyX9, rfl, by decide, kw_244, inwX9, tyX9_ok, nmX9, by decide +kernel, rfl, fun z => Bool.noConfusion z⟩
theorem gY_X10_readCondition : gYn yX10_readCondition 0 := ⟨by decide +kernel, by decide +kernel, by decide +kernel⟩
theorem lkX10_116 : gLV RX10 116 yX10_readCondition cX10_readCondition 7 (some FieldType.boolean) 0 := ⟨kw_523, kw_525, kp_7, kw_9, kw_526, gY_X10_readCondition⟩
theorem gY_X10_readAttribute : gYn yX10_readAttribute 1 := ⟨by decide +kernel, by decide +kernel, by decide +kernel⟩
theorem lkX10_100 : gLV RX10 100 yX10_readAttribute cX10_readAttribute 2 (some FieldType.boolean) 1 := ⟨kw_519, kw_521, kp_6, kw_9, kw_522, gY_X10_readAttribute⟩
theorem flX10_97 : gFl RX10 97 12 11 .int false := ⟨RX9, TX9, 12, tyX9, rfl, by decide, kw_252, inwX9, tyX9_ok, nmX9, by decide +kernel, rfl, fun z => Bool.noConfusion z⟩
theorem gY_X10_markOf : gYn yX10_markOf 1 := ⟨by decide +kernel, by decide +kernel, by decide +kernel⟩
theorem lkX10_91 : gLS RX10 91 yX10_markOf cX10_markOf 1 (some FieldType.int) 1 := ⟨kw_516, kw_517, kw_9, kw_518, gY_X10_markOf⟩
theorem flX10_94 : gFl RX10 94 12 1 (.object "AnimationController$State") false := ⟨RX9, TX9, 12, tyX9, rfl, by decide, kw_222, inwX9, tyX9_ok, nmX9, by decide +kernel, rfl, fun z => Bool.noConfusion z⟩
theorem gY_X10_readSign : gYn yX10_readSign 1 := ⟨by decide +kernel, by decide +kernel, by decide +kernel⟩
theorem lkX10_76 : gLV RX10 76 yX10_readSign cX10_readSign 2 (some FieldType.boolean) 1 := ⟨kw_500, kw_502, kp_3, kw_9, kw_503, gY_X10_readSign⟩
theorem gY_X10_stateOf : gYn yX10_stateOf 1 := ⟨by decide +kernel, by decide +kernel, by decide +kernel⟩
theorem lkX10_72 : gLV RX10 72 yX10_stateOf cX10_stateOf 3 (some (FieldType.object "AnimationController$State")) 1 := ⟨kw_481, kw_483, kp_2, kw_9, kw_484, gY_X10_stateOf⟩
theorem lkX10_84 : gLV RX10 84 yX9_begin cX9_begin 4 none 3 := ⟨kw_508, kw_509, kw_510, kw_10, kw_511, gY_X9_begin⟩
theorem gY_X10_readAttributes : gYn yX10_readAttributes 0 := ⟨by decide +kernel, by decide +kernel, by decide +kernel⟩
theorem lkX10_88 : gLV RX10 88 yX10_readAttributes cX10_readAttributes 7 (some FieldType.boolean) 0 := ⟨kw_512, kw_514, kp_5, kw_9, kw_515, gY_X10_readAttributes⟩
theorem gY_Jx4a65c_add_72be8 : gYn yJx4a65c_add_72be8 3 := ⟨by decide +kernel, by decide +kernel, by decide +kernel⟩
theorem lkJx4a65c_131 : gLV RJx4a65c 131 yJx4a65c_add_72be8 cJx4a65c_add_72be8 4 none 3 := ⟨kw_555, kw_557, kp_9, kw_5, kw_558, gY_Jx4a65c_add_72be8⟩
theorem frX10_38 : gFr RX10 38 7 5 := ⟨RX4, TX4, 8, rfl, by decide, kw_179, inwX4⟩
theorem flX10_58 : gFl RX10 58 12 2 (.object "AnimationController$State") false := ⟨RX9, TX9, 12, tyX9, rfl, by decide, kw_226, inwX9, tyX9_ok, nmX9, by decide +kernel, rfl, fun z => Bool.noConfusion z⟩
theorem gY_X9_copyFrom : gYn yX9_copyFrom 1 := ⟨by decide +kernel, by decide +kernel, by decide +kernel⟩
theorem lkX10_61 : gLV RX10 61 yX9_copyFrom cX9_copyFrom 3 none 1 := ⟨kw_545, kw_546, kw_547, kw_10, kw_548, gY_X9_copyFrom⟩
theorem gY_Jx4a65c_add_9ea2d : gYn yJx4a65c_add_9ea2d 1 := ⟨by decide +kernel, by decide +kernel, by decide +kernel⟩
theorem lkX10_65 : gLV RX10 65 yJx4a65c_add_9ea2d cJx4a65c_add_9ea2d 2 (some FieldType.boolean) 1 := ⟨kw_551, kw_552, kw_553, kw_5, kw_554, gY_Jx4a65c_add_9ea2d⟩
theorem gY_X10_readTransition : gYn yX10_readTransition 0 := ⟨by decide +kernel, by decide +kernel, by decide +kernel⟩
theorem lkX10_48 : gLV RX10 48 yX10_readTransition cX10_readTransition 4 (some FieldType.boolean) 0 := ⟨kw_473, kw_475, kp_0, kw_9, kw_476, gY_X10_readTransition⟩
theorem gY_X10_addDraft : gYn yX10_addDraft 0 := ⟨by decide +kernel, by decide +kernel, by decide +kernel⟩
theorem lkX10_52 : gLV RX10 52 yX10_addDraft cX10_addDraft 2 none 0 := ⟨kw_541, kw_543, kp_8, kw_9, kw_544, gY_X10_addDraft⟩
theorem flX11_35 : gFl RX11 35 14 4 (.array (.object "AnimationController$Machine")) true := ⟨RX11, TX11, 7, tyX11, rfl, by decide, kw_438, inwX11, tyX11_ok, nmX11, by decide +kernel, rfl, fun _ => rfl⟩
theorem flX11_39 : gFl RX11 39 14 5 (.array .boolean) true := ⟨RX11, TX11, 7, tyX11, rfl, by decide, kw_439, inwX11, tyX11_ok, nmX11, by decide +kernel, rfl, fun _ => rfl⟩
theorem flX11_43 : gFl RX11 43 14 6 (.array .int) true := ⟨RX11, TX11, 7, tyX11, rfl, by decide, kw_440, inwX11, tyX11_ok, nmX11, by decide +kernel, rfl, fun _ => rfl⟩
theorem nwX11_25 : gNw RX11 25 6 13 [.null, .null, .null, .null, .null, .int 0, .int 0, .null, .int 0, .int 0, .null, .null, .null] := ⟨RX3, TX3, tyX3, rfl, kw_298, kw_299, kw_11, inwX3, tyX3_ok, by decide +kernel⟩
theorem flX11_12 : gFl RX11 12 14 0 (.object "AnimationController$Model") true := ⟨RX11, TX11, 7, tyX11, rfl, by decide, kw_434, inwX11, tyX11_ok, nmX11, by decide +kernel, rfl, fun _ => rfl⟩
theorem gY_X3_init : gYn yX3_init 1 := ⟨by decide +kernel, by decide +kernel, by decide +kernel⟩
theorem lkX11_27 : gLI RX11 27 yX3_init cX3_init 2 1 := ⟨kw_300, kw_301, kw_11, kw_302, rfl, gY_X3_init⟩
theorem nwX11_9 : gNw RX11 9 7 8 [.null, .int 0, .null, .null, .null, .null, .int 0, .null] := ⟨RX4, TX4, tyX4, rfl, kw_44, kw_45, kw_2, inwX4, tyX4_ok, by decide +kernel⟩
theorem gY_X4_init : gYn yX4_init 0 := ⟨by decide +kernel, by decide +kernel, by decide +kernel⟩
theorem lkX11_11 : gLIN RX11 11 yX4_init "AnimationController" cX4_init 1 0 := ⟨ku_46, kw_47, kw_2, kw_48, rfl, gY_X4_init⟩
theorem nwX11_16 : gNw RX11 16 13 5 [.null, .null, .int 0, .int 0, .null] := ⟨RX10, TX10, tyX10, rfl, kw_206, kw_207, kw_9, inwX10, tyX10_ok, by decide +kernel⟩
theorem gY_X10_init : gYn yX10_init 1 := ⟨by decide +kernel, by decide +kernel, by decide +kernel⟩
theorem lkX11_18 : gLI RX11 18 yX10_init cX10_init 2 1 := ⟨kw_208, kw_209, kw_9, kw_210, rfl, gY_X10_init⟩
theorem flX11_21 : gFl RX11 21 14 1 (.object "AnimationController$TransitionText") true := ⟨RX11, TX11, 7, tyX11, rfl, by decide, kw_435, inwX11, tyX11_ok, nmX11, by decide +kernel, rfl, fun _ => rfl⟩
theorem flX11_28 : gFl RX11 28 14 2 (.object "AnimationController$Machine") true := ⟨RX11, TX11, 7, tyX11, rfl, by decide, kw_436, inwX11, tyX11_ok, nmX11, by decide +kernel, rfl, fun _ => rfl⟩
theorem flX11_32 : gFl RX11 32 14 3 (.object "AnimationController$Machine") true := ⟨RX11, TX11, 7, tyX11, rfl, by decide, kw_437, inwX11, tyX11_ok, nmX11, by decide +kernel, rfl, fun _ => rfl⟩
theorem thX11_49_47 : gTh RX11 47 49 51 "java/lang/IllegalArgumentException" "kind is out of range" := ⟨kw_737, kw_20, List.mem_of_getElem? (i := 0) rfl, thg_51, thn_51, by decide +kernel, by decide +kernel, List.forall_mem_cons.mpr ⟨rfl, List.forall_mem_cons.mpr ⟨rfl, fun w hw => List.all_eq_true.mp tho_51 w hw⟩⟩⟩
theorem flX11_54 : gFl RX11 54 7 1 .int false := ⟨RX4, TX4, 8, tyX4, rfl, by decide, kw_169, inwX4, tyX4_ok, nmX4, by decide +kernel, rfl, fun z => Bool.noConfusion z⟩
theorem frX11_58 : gFr RX11 58 7 0 := ⟨RX4, TX4, 8, rfl, by decide, kw_167, inwX4⟩
theorem thX11_63_61 : gTh RX11 61 63 65 "java/lang/IllegalStateException" "there are 8 parameters" := ⟨kw_805, kw_21, List.mem_of_getElem? (i := 1) rfl, thg_65, thn_65, by decide +kernel, by decide +kernel, List.forall_mem_cons.mpr ⟨rfl, List.forall_mem_cons.mpr ⟨rfl, fun w hw => List.all_eq_true.mp tho_65 w hw⟩⟩⟩
theorem gY_X4_hasParameter : gYn yX4_hasParameter 1 := ⟨by decide +kernel, by decide +kernel, by decide +kernel⟩
theorem lkX11_419 : gLV RX11 419 yX4_hasParameter cX4_hasParameter 2 (some FieldType.boolean) 1 := ⟨kw_833, kw_834, kw_835, kw_2, kw_836, gY_X4_hasParameter⟩
theorem thX11_422_378 : gTh RX11 378 422 382 "java/lang/IndexOutOfBoundsException" "no such parameter" := ⟨kw_837, kw_22, List.mem_of_getElem? (i := 2) rfl, thg_382, thn_382, by decide +kernel, by decide +kernel, List.forall_mem_cons.mpr ⟨rfl, List.forall_mem_cons.mpr ⟨rfl, fun w hw => List.all_eq_true.mp tho_382 w hw⟩⟩⟩
theorem gY_X11_requireParameter : gYn yX11_requireParameter 1 := ⟨by decide +kernel, by decide +kernel, by decide +kernel⟩
theorem lkX11_66 : gLV RX11 66 yX11_requireParameter cX11_requireParameter 2 none 1 := ⟨kw_829, kw_831, kp_18, kw_1, kw_832, gY_X11_requireParameter⟩
theorem lkX11_70 : gLV RX11 70 yX4_isValue cX4_isValue 3 (some FieldType.boolean) 2 := ⟨kw_853, kw_854, kw_855, kw_2, kw_856, gY_X4_isValue⟩
theorem lkX11_76 : gLV RX11 76 yX3_valueOf cX3_valueOf 2 (some FieldType.int) 1 := ⟨kw_859, kw_860, kw_861, kw_11, kw_862, gY_X3_valueOf⟩
theorem lkX11_80 : gLV RX11 80 yX3_setValue cX3_setValue 3 none 2 := ⟨kw_863, kw_864, kw_865, kw_11, kw_866, gY_X3_setValue⟩
theorem thX11_74_47 : gTh RX11 47 74 51 "java/lang/IllegalArgumentException" "value is out of range" := ⟨kw_737, kw_20, List.mem_of_getElem? (i := 3) rfl, thg_51, thn_51, by decide +kernel, by decide +kernel, List.forall_mem_cons.mpr ⟨rfl, List.forall_mem_cons.mpr ⟨rfl, fun w hw => List.all_eq_true.mp tho_51 w hw⟩⟩⟩
theorem thX11_84_47 : gTh RX11 47 84 51 "java/lang/IllegalArgumentException" "length is out of range" := ⟨kw_737, kw_20, List.mem_of_getElem? (i := 4) rfl, thg_51, thn_51, by decide +kernel, by decide +kernel, List.forall_mem_cons.mpr ⟨rfl, List.forall_mem_cons.mpr ⟨rfl, fun w hw => List.all_eq_true.mp tho_51 w hw⟩⟩⟩
theorem frX11_86 : gFr RX11 86 7 2 := ⟨RX4, TX4, 8, rfl, by decide, kw_171, inwX4⟩
theorem lkX11_90 : gLV RX11 90 yJx4a65c_size_8abf5 cJx4a65c_size_8abf5 1 (some FieldType.int) 0 := ⟨kw_882, kw_470, kw_471, kw_5, kw_472, gY_Jx4a65c_size_8abf5⟩
theorem nwX11_98 : gNw RX11 98 4 5 [.int 0, .int 0, .null, .null, .int 0] := ⟨RX1, TX1, tyX1, rfl, kw_884, kw_82, kw_8, inwX1, tyX1_ok, by decide +kernel⟩
theorem lkX11_100 : gLI RX11 100 yX1_init cX1_init 3 2 := ⟨kw_885, kw_84, kw_8, kw_85, rfl, gY_X1_init⟩
theorem lkX11_102 : gLV RX11 102 yJx4a65c_add_9ea2d cJx4a65c_add_9ea2d 2 (some FieldType.boolean) 1 := ⟨kw_886, kw_552, kw_553, kw_5, kw_554, gY_Jx4a65c_add_9ea2d⟩
theorem thX11_96_61 : gTh RX11 61 96 65 "java/lang/IllegalStateException" "there are 12 clips" := ⟨kw_805, kw_21, List.mem_of_getElem? (i := 5) rfl, thg_65, thn_65, by decide +kernel, by decide +kernel, List.forall_mem_cons.mpr ⟨rfl, List.forall_mem_cons.mpr ⟨rfl, fun w hw => List.all_eq_true.mp tho_65 w hw⟩⟩⟩
theorem thX11_432_378 : gTh RX11 378 432 382 "java/lang/IndexOutOfBoundsException" "no such clip" := ⟨kw_837, kw_22, List.mem_of_getElem? (i := 6) rfl, thg_382, thn_382, by decide +kernel, by decide +kernel, List.forall_mem_cons.mpr ⟨rfl, List.forall_mem_cons.mpr ⟨rfl, fun w hw => List.all_eq_true.mp tho_382 w hw⟩⟩⟩
theorem lkX11_302 : gLV RX11 302 yJx4a65c_get_915e3 cJx4a65c_get_915e3 2 (some (FieldType.object "java/lang/Object")) 1 := ⟨kw_629, kw_486, kw_487, kw_5, kw_488, gY_Jx4a65c_get_915e3⟩
theorem thX11_113_47 : gTh RX11 47 113 51 "java/lang/IllegalArgumentException" "time or id is out of range" := ⟨kw_737, kw_20, List.mem_of_getElem? (i := 7) rfl, thg_51, thn_51, by decide +kernel, by decide +kernel, List.forall_mem_cons.mpr ⟨rfl, List.forall_mem_cons.mpr ⟨rfl, fun w hw => List.all_eq_true.mp tho_51 w hw⟩⟩⟩
theorem gY_X11_clipAt : gYn yX11_clipAt 1 := ⟨by decide +kernel, by decide +kernel, by decide +kernel⟩
theorem lkX11_106 : gLV RX11 106 yX11_clipAt cX11_clipAt 2 (some (FieldType.object "AnimationController$Clip")) 1 := ⟨kw_894, kw_896, kp_19, kw_1, kw_897, gY_X11_clipAt⟩
theorem frX11_110 : gFr RX11 110 4 1 := ⟨RX1, TX1, 5, rfl, by decide, kw_92, inwX1⟩
theorem flX11_115 : gFl RX11 115 4 4 .int false := ⟨RX1, TX1, 5, tyX1, rfl, by decide, kw_99, inwX1, tyX1_ok, nmX1, by decide +kernel, rfl, fun z => Bool.noConfusion z⟩
theorem gY_X1_insertEvent : gYn yX1_insertEvent 2 := ⟨by decide +kernel, by decide +kernel, by decide +kernel⟩
theorem lkX11_120 : gLV RX11 120 yX1_insertEvent cX1_insertEvent 4 none 2 := ⟨kw_901, kw_902, kw_903, kw_8, kw_904, gY_X1_insertEvent⟩
theorem thX11_118_61 : gTh RX11 61 118 65 "java/lang/IllegalStateException" "the clip has 5 events" := ⟨kw_805, kw_21, List.mem_of_getElem? (i := 8) rfl, thg_65, thn_65, by decide +kernel, by decide +kernel, List.forall_mem_cons.mpr ⟨rfl, List.forall_mem_cons.mpr ⟨rfl, fun w hw => List.all_eq_true.mp tho_65 w hw⟩⟩⟩
theorem frX11_126 : gFr RX11 126 7 3 := ⟨RX4, TX4, 8, rfl, by decide, kw_174, inwX4⟩
theorem thX11_424_61 : gTh RX11 61 424 65 "java/lang/IllegalStateException" "there are 20 nodes" := ⟨kw_805, kw_21, List.mem_of_getElem? (i := 9) rfl, thg_65, thn_65, by decide +kernel, by decide +kernel, List.forall_mem_cons.mpr ⟨rfl, List.forall_mem_cons.mpr ⟨rfl, fun w hw => List.all_eq_true.mp tho_65 w hw⟩⟩⟩
theorem gY_X11_requireRoomForNode : gYn yX11_requireRoomForNode 0 := ⟨by decide +kernel, by decide +kernel, by decide +kernel⟩
theorem lkX11_123 : gLV RX11 123 yX11_requireRoomForNode cX11_requireRoomForNode 1 none 0 := ⟨kw_912, kw_914, kp_20, kw_1, kw_915, gY_X11_requireRoomForNode⟩
theorem nwX11_129 : gNw RX11 129 8 5 [.null, .int 0, .null, .null, .int 0] := ⟨RX5, TX5, tyX5, rfl, kw_917, kw_80, kw_7, inwX5, tyX5_ok, by decide +kernel⟩
theorem lkX11_131 : gLI RX11 131 yX5_init cX5_init 3 2 := ⟨kw_918, kw_113, kw_7, kw_114, rfl, gY_X5_init⟩
theorem lkX11_134 : gLV RX11 134 yX4_kindOf cX4_kindOf 2 (some FieldType.int) 1 := ⟨kw_926, kw_531, kw_532, kw_2, kw_533, gY_X4_kindOf⟩
theorem thX11_137_61 : gTh RX11 61 137 65 "java/lang/IllegalStateException" "the parameter is not a number" := ⟨kw_805, kw_21, List.mem_of_getElem? (i := 10) rfl, thg_65, thn_65, by decide +kernel, by decide +kernel, List.forall_mem_cons.mpr ⟨rfl, List.forall_mem_cons.mpr ⟨rfl, fun w hw => List.all_eq_true.mp tho_65 w hw⟩⟩⟩
theorem thX11_434_378 : gTh RX11 378 434 382 "java/lang/IndexOutOfBoundsException" "no such node" := ⟨kw_837, kw_22, List.mem_of_getElem? (i := 11) rfl, thg_382, thn_382, by decide +kernel, by decide +kernel, List.forall_mem_cons.mpr ⟨rfl, List.forall_mem_cons.mpr ⟨rfl, fun w hw => List.all_eq_true.mp tho_382 w hw⟩⟩⟩
theorem thX11_147_47 : gTh RX11 47 147 51 "java/lang/IllegalArgumentException" "no line, no lower node, or position is out of range" := ⟨kw_737, kw_20, List.mem_of_getElem? (i := 12) rfl, thg_51, thn_51, by decide +kernel, by decide +kernel, List.forall_mem_cons.mpr ⟨rfl, List.forall_mem_cons.mpr ⟨rfl, fun w hw => List.all_eq_true.mp tho_51 w hw⟩⟩⟩
theorem thX11_156_61 : gTh RX11 61 156 65 "java/lang/IllegalStateException" "the line has no room for this child" := ⟨kw_805, kw_21, List.mem_of_getElem? (i := 13) rfl, thg_65, thn_65, by decide +kernel, by decide +kernel, List.forall_mem_cons.mpr ⟨rfl, List.forall_mem_cons.mpr ⟨rfl, fun w hw => List.all_eq_true.mp tho_65 w hw⟩⟩⟩
theorem thX11_165_61 : gTh RX11 61 165 65 "java/lang/IllegalStateException" "the child is not complete, or a node would be too deep" := ⟨kw_805, kw_21, List.mem_of_getElem? (i := 14) rfl, thg_65, thn_65, by decide +kernel, by decide +kernel, List.forall_mem_cons.mpr ⟨rfl, List.forall_mem_cons.mpr ⟨rfl, fun w hw => List.all_eq_true.mp tho_65 w hw⟩⟩⟩
theorem gY_X11_nodeAt : gYn yX11_nodeAt 1 := ⟨by decide +kernel, by decide +kernel, by decide +kernel⟩
theorem lkX11_139 : gLV RX11 139 yX11_nodeAt cX11_nodeAt 2 (some (FieldType.object "AnimationController$Node")) 1 := ⟨kw_935, kw_937, kp_21, kw_1, kw_938, gY_X11_nodeAt⟩
theorem gY_X5_isLine : gYn yX5_isLine 0 := ⟨by decide +kernel, by decide +kernel, by decide +kernel⟩
theorem lkX11_143 : gLV RX11 143 yX5_isLine cX5_isLine 1 (some FieldType.boolean) 0 := ⟨kw_940, kw_941, kw_942, kw_7, kw_943, gY_X5_isLine⟩
theorem frX11_149 : gFr RX11 149 8 2 := ⟨RX5, TX5, 5, rfl, by decide, kw_124, inwX5⟩
theorem gY_X5_hasPosition : gYn yX5_hasPosition 1 := ⟨by decide +kernel, by decide +kernel, by decide +kernel⟩
theorem lkX11_152 : gLV RX11 152 yX5_hasPosition cX5_hasPosition 3 (some FieldType.boolean) 1 := ⟨kw_945, kw_946, kw_947, kw_7, kw_948, gY_X5_hasPosition⟩
theorem gY_X5_isComplete : gYn yX5_isComplete 0 := ⟨by decide +kernel, by decide +kernel, by decide +kernel⟩
theorem lkX11_158 : gLV RX11 158 yX5_isComplete cX5_isComplete 1 (some FieldType.boolean) 0 := ⟨kw_952, kw_953, kw_954, kw_7, kw_955, gY_X5_isComplete⟩
theorem gY_X4_greatestDepthWith : gYn yX4_greatestDepthWith 2 := ⟨by decide +kernel, by decide +kernel, by decide +kernel⟩
theorem lkX11_161 : gLV RX11 161 yX4_greatestDepthWith cX4_greatestDepthWith 6 (some FieldType.int) 2 := ⟨kw_957, kw_958, kw_959, kw_2, kw_960, gY_X4_greatestDepthWith⟩
theorem gY_X5_insertChild : gYn yX5_insertChild 2 := ⟨by decide +kernel, by decide +kernel, by decide +kernel⟩
theorem lkX11_167 : gLV RX11 167 yX5_insertChild cX5_insertChild 4 none 2 := ⟨kw_972, kw_973, kw_974, kw_7, kw_975, gY_X5_insertChild⟩
theorem thX11_171_47 : gTh RX11 47 171 51 "java/lang/IllegalArgumentException" "speed or group is out of range" := ⟨kw_737, kw_20, List.mem_of_getElem? (i := 15) rfl, thg_51, thn_51, by decide +kernel, by decide +kernel, List.forall_mem_cons.mpr ⟨rfl, List.forall_mem_cons.mpr ⟨rfl, fun w hw => List.all_eq_true.mp tho_51 w hw⟩⟩⟩
theorem thX11_176_61 : gTh RX11 61 176 65 "java/lang/IllegalStateException" "the node is not complete, or there are 10 states" := ⟨kw_805, kw_21, List.mem_of_getElem? (i := 16) rfl, thg_65, thn_65, by decide +kernel, by decide +kernel, List.forall_mem_cons.mpr ⟨rfl, List.forall_mem_cons.mpr ⟨rfl, fun w hw => List.all_eq_true.mp tho_65 w hw⟩⟩⟩
theorem frX11_187 : gFr RX11 187 10 0 := ⟨RX7, TX7, 5, rfl, by decide, kw_144, inwX7⟩
theorem frX11_173 : gFr RX11 173 7 4 := ⟨RX4, TX4, 8, rfl, by decide, kw_176, inwX4⟩
theorem nwX11_178 : gNw RX11 178 10 5 [.int 0, .null, .int 0, .int 0, .int 0] := ⟨RX7, TX7, tyX7, rfl, kw_630, kw_78, kw_6, inwX7, tyX7_ok, by decide +kernel⟩
theorem lkX11_180 : gLI RX11 180 yX7_init cX7_init 6 5 := ⟨kw_1231, kw_140, kw_6, kw_141, rfl, gY_X7_init⟩
theorem gY_X3_beginIn : gYn yX3_beginIn 1 := ⟨by decide +kernel, by decide +kernel, by decide +kernel⟩
theorem lkX11_183 : gLV RX11 183 yX3_beginIn cX3_beginIn 2 none 1 := ⟨kw_631, kw_632, kw_633, kw_11, kw_634, gY_X3_beginIn⟩
theorem thX11_436_378 : gTh RX11 378 436 382 "java/lang/IndexOutOfBoundsException" "no such state" := ⟨kw_837, kw_22, List.mem_of_getElem? (i := 17) rfl, thg_382, thn_382, by decide +kernel, by decide +kernel, List.forall_mem_cons.mpr ⟨rfl, List.forall_mem_cons.mpr ⟨rfl, fun w hw => List.all_eq_true.mp tho_382 w hw⟩⟩⟩
theorem thX11_194_47 : gTh RX11 47 194 51 "java/lang/IllegalArgumentException" "duration is out of range" := ⟨kw_737, kw_20, List.mem_of_getElem? (i := 18) rfl, thg_51, thn_51, by decide +kernel, by decide +kernel, List.forall_mem_cons.mpr ⟨rfl, List.forall_mem_cons.mpr ⟨rfl, fun w hw => List.all_eq_true.mp tho_51 w hw⟩⟩⟩
theorem gY_X11_stateAt : gYn yX11_stateAt 1 := ⟨by decide +kernel, by decide +kernel, by decide +kernel⟩
theorem lkX11_190 : gLV RX11 190 yX11_stateAt cX11_stateAt 2 (some (FieldType.object "AnimationController$State")) 1 := ⟨kw_1239, kw_1241, kp_24, kw_1, kw_1242, gY_X11_stateAt⟩
theorem frX11_196 : gFr RX11 196 7 5 := ⟨RX4, TX4, 8, rfl, by decide, kw_181, inwX4⟩
theorem nwX11_201 : gNw RX11 201 12 12 [.int 0, .null, .null, .int 0, .int 0, .int 0, .int 0, .int 0, .null, .null, .null, .int 0] := ⟨RX9, TX9, tyX9, rfl, kw_1246, kw_213, kw_10, inwX9, tyX9_ok, by decide +kernel⟩
theorem lkX11_203 : gLI RX11 203 yX9_init cX9_init 3 2 := ⟨kw_1247, kw_215, kw_10, kw_216, rfl, gY_X9_init⟩
theorem lkX11_206 : gLV RX11 206 yX9_begin cX9_begin 4 none 3 := ⟨kw_1248, kw_509, kw_510, kw_10, kw_511, gY_X9_begin⟩
theorem frX11_210 : gFr RX11 210 12 0 := ⟨RX9, TX9, 12, rfl, by decide, kw_220, inwX9⟩
theorem thX11_199_61 : gTh RX11 61 199 65 "java/lang/IllegalStateException" "there are 24 transitions" := ⟨kw_805, kw_21, List.mem_of_getElem? (i := 19) rfl, thg_65, thn_65, by decide +kernel, by decide +kernel, List.forall_mem_cons.mpr ⟨rfl, List.forall_mem_cons.mpr ⟨rfl, fun w hw => List.all_eq_true.mp tho_65 w hw⟩⟩⟩
theorem thX11_438_378 : gTh RX11 378 438 382 "java/lang/IndexOutOfBoundsException" "no such transition" := ⟨kw_837, kw_22, List.mem_of_getElem? (i := 20) rfl, thg_382, thn_382, by decide +kernel, by decide +kernel, List.forall_mem_cons.mpr ⟨rfl, List.forall_mem_cons.mpr ⟨rfl, fun w hw => List.all_eq_true.mp tho_382 w hw⟩⟩⟩
theorem thX11_215_47 : gTh RX11 47 215 51 "java/lang/IllegalArgumentException" "exit or start is out of range" := ⟨kw_737, kw_20, List.mem_of_getElem? (i := 21) rfl, thg_51, thn_51, by decide +kernel, by decide +kernel, List.forall_mem_cons.mpr ⟨rfl, List.forall_mem_cons.mpr ⟨rfl, fun w hw => List.all_eq_true.mp tho_51 w hw⟩⟩⟩
theorem flX11_223 : gFl RX11 223 12 4 .int false := ⟨RX9, TX9, 12, tyX9, rfl, by decide, kw_234, inwX9, tyX9_ok, nmX9, by decide +kernel, rfl, fun z => Bool.noConfusion z⟩
theorem flX11_226 : gFl RX11 226 12 5 .int false := ⟨RX9, TX9, 12, tyX9, rfl, by decide, kw_237, inwX9, tyX9_ok, nmX9, by decide +kernel, rfl, fun z => Bool.noConfusion z⟩
theorem gY_X11_transitionAt : gYn yX11_transitionAt 1 := ⟨by decide +kernel, by decide +kernel, by decide +kernel⟩
theorem lkX11_211 : gLV RX11 211 yX11_transitionAt cX11_transitionAt 2 (some (FieldType.object "AnimationController$Transition")) 1 := ⟨kw_1256, kw_1258, kp_25, kw_1, kw_1259, gY_X11_transitionAt⟩
theorem flX11_217 : gFl RX11 217 12 1 (.object "AnimationController$State") false := ⟨RX9, TX9, 12, tyX9, rfl, by decide, kw_224, inwX9, tyX9_ok, nmX9, by decide +kernel, rfl, fun z => Bool.noConfusion z⟩
theorem thX11_221_61 : gTh RX11 61 221 65 "java/lang/IllegalStateException" "a transition from any state has no exit" := ⟨kw_805, kw_21, List.mem_of_getElem? (i := 22) rfl, thg_65, thn_65, by decide +kernel, by decide +kernel, List.forall_mem_cons.mpr ⟨rfl, List.forall_mem_cons.mpr ⟨rfl, fun w hw => List.all_eq_true.mp tho_65 w hw⟩⟩⟩
theorem thX11_229_47 : gTh RX11 47 229 51 "java/lang/IllegalArgumentException" "mode is out of range" := ⟨kw_737, kw_20, List.mem_of_getElem? (i := 23) rfl, thg_51, thn_51, by decide +kernel, by decide +kernel, List.forall_mem_cons.mpr ⟨rfl, List.forall_mem_cons.mpr ⟨rfl, fun w hw => List.all_eq_true.mp tho_51 w hw⟩⟩⟩
theorem flX11_231 : gFl RX11 231 12 6 .int false := ⟨RX9, TX9, 12, tyX9, rfl, by decide, kw_242, inwX9, tyX9_ok, nmX9, by decide +kernel, rfl, fun z => Bool.noConfusion z⟩
theorem flX11_234 : gFl RX11 234 12 7 .boolean false := ⟨RX9, TX9, 12, tyX9, rfl, by decide, kw_246, inwX9, tyX9_ok, nmX9, by decide +kernel, rfl, fun z => Bool.noConfusion z⟩
theorem gY_X4_isCondition : gYn yX4_isCondition 3 := ⟨by decide +kernel, by decide +kernel, by decide +kernel⟩
theorem lkX11_238 : gLV RX11 238 yX4_isCondition cX4_isCondition 4 (some FieldType.boolean) 3 := ⟨kw_1278, kw_1279, kw_1280, kw_2, kw_1281, gY_X4_isCondition⟩
theorem flX11_244 : gFl RX11 244 12 11 .int false := ⟨RX9, TX9, 12, tyX9, rfl, by decide, kw_254, inwX9, tyX9_ok, nmX9, by decide +kernel, rfl, fun z => Bool.noConfusion z⟩
theorem lkX11_249 : gLV RX11 249 yX9_appendCondition cX9_appendCondition 4 none 3 := ⟨kw_1285, kw_535, kw_536, kw_10, kw_537, gY_X9_appendCondition⟩
theorem thX11_247_61 : gTh RX11 61 247 65 "java/lang/IllegalStateException" "the transition has 3 conditions" := ⟨kw_805, kw_21, List.mem_of_getElem? (i := 25) rfl, thg_65, thn_65, by decide +kernel, by decide +kernel, List.forall_mem_cons.mpr ⟨rfl, List.forall_mem_cons.mpr ⟨rfl, fun w hw => List.all_eq_true.mp tho_65 w hw⟩⟩⟩
theorem thX11_242_47 : gTh RX11 47 242 51 "java/lang/IllegalArgumentException" "operator or value is out of range" := ⟨kw_737, kw_20, List.mem_of_getElem? (i := 24) rfl, thg_51, thn_51, by decide +kernel, by decide +kernel, List.forall_mem_cons.mpr ⟨rfl, List.forall_mem_cons.mpr ⟨rfl, fun w hw => List.all_eq_true.mp tho_51 w hw⟩⟩⟩
theorem thX11_253_47 : gTh RX11 47 253 51 "java/lang/IllegalArgumentException" "percent is out of range" := ⟨kw_737, kw_20, List.mem_of_getElem? (i := 26) rfl, thg_51, thn_51, by decide +kernel, by decide +kernel, List.forall_mem_cons.mpr ⟨rfl, List.forall_mem_cons.mpr ⟨rfl, fun w hw => List.all_eq_true.mp tho_51 w hw⟩⟩⟩
theorem flX11_255 : gFl RX11 255 7 6 .int false := ⟨RX4, TX4, 8, tyX4, rfl, by decide, kw_183, inwX4, tyX4_ok, nmX4, by decide +kernel, rfl, fun z => Bool.noConfusion z⟩
theorem thX11_258_47 : gTh RX11 47 258 51 "java/lang/IllegalArgumentException" "code is out of range" := ⟨kw_737, kw_20, List.mem_of_getElem? (i := 27) rfl, thg_51, thn_51, by decide +kernel, by decide +kernel, List.forall_mem_cons.mpr ⟨rfl, List.forall_mem_cons.mpr ⟨rfl, fun w hw => List.all_eq_true.mp tho_51 w hw⟩⟩⟩
theorem flX11_260 : gFl RX11 260 13 2 .int false := ⟨RX10, TX10, 5, tyX10, rfl, by decide, kw_284, inwX10, tyX10_ok, nmX10, by decide +kernel, rfl, fun z => Bool.noConfusion z⟩
theorem frX11_261 : gFr RX11 261 13 1 := ⟨RX10, TX10, 5, rfl, by decide, kw_282, inwX10⟩
theorem thX11_264_61 : gTh RX11 61 264 65 "java/lang/IllegalStateException" "the text has 150 bytes" := ⟨kw_805, kw_21, List.mem_of_getElem? (i := 28) rfl, thg_65, thn_65, by decide +kernel, by decide +kernel, List.forall_mem_cons.mpr ⟨rfl, List.forall_mem_cons.mpr ⟨rfl, fun w hw => List.all_eq_true.mp tho_65 w hw⟩⟩⟩
theorem gY_X10_readAll : gYn yX10_readAll 1 := ⟨by decide +kernel, by decide +kernel, by decide +kernel⟩
theorem lkX11_266 : gLV RX11 266 yX10_readAll cX10_readAll 5 (some FieldType.int) 1 := ⟨kw_465, kw_466, kw_467, kw_9, kw_468, gY_X10_readAll⟩
theorem thX11_270_61 : gTh RX11 61 270 65 "java/lang/IllegalStateException" "the text has a fault" := ⟨kw_805, kw_21, List.mem_of_getElem? (i := 29) rfl, thg_65, thn_65, by decide +kernel, by decide +kernel, List.forall_mem_cons.mpr ⟨rfl, List.forall_mem_cons.mpr ⟨rfl, fun w hw => List.all_eq_true.mp tho_65 w hw⟩⟩⟩
theorem thX11_428_47 : gTh RX11 47 428 51 "java/lang/IllegalArgumentException" "ticks is out of range" := ⟨kw_737, kw_20, List.mem_of_getElem? (i := 30) rfl, thg_51, thn_51, by decide +kernel, by decide +kernel, List.forall_mem_cons.mpr ⟨rfl, List.forall_mem_cons.mpr ⟨rfl, fun w hw => List.all_eq_true.mp tho_51 w hw⟩⟩⟩
theorem lkX11_296 : gLV RX11 296 yJx4a65c_isEmpty_aae02 cJx4a65c_isEmpty_aae02 1 (some FieldType.boolean) 0 := ⟨kw_625, kw_626, kw_627, kw_5, kw_628, gY_Jx4a65c_isEmpty_aae02⟩
theorem thX11_426_61 : gTh RX11 61 426 65 "java/lang/IllegalStateException" "there are no states" := ⟨kw_805, kw_21, List.mem_of_getElem? (i := 31) rfl, thg_65, thn_65, by decide +kernel, by decide +kernel, List.forall_mem_cons.mpr ⟨rfl, List.forall_mem_cons.mpr ⟨rfl, fun w hw => List.all_eq_true.mp tho_65 w hw⟩⟩⟩
theorem frX11_278 : gFr RX11 278 6 10 := ⟨RX3, TX3, 13, rfl, by decide, kw_401, inwX3⟩
theorem flX11_282 : gFl RX11 282 5 1 .int false := ⟨RX2, TX2, 2, tyX2, rfl, by decide, kw_339, inwX2, tyX2_ok, nmX2, by decide +kernel, rfl, fun z => Bool.noConfusion z⟩
theorem gY_X3_runTick : gYn yX3_runTick 0 := ⟨by decide +kernel, by decide +kernel, by decide +kernel⟩
theorem lkX11_287 : gLV RX11 287 yX3_runTick cX3_runTick 3 none 0 := ⟨kw_1328, kw_1329, kw_1330, kw_11, kw_1331, gY_X3_runTick⟩
theorem gY_X11_requireTicks : gYn yX11_requireTicks 1 := ⟨by decide +kernel, by decide +kernel, by decide +kernel⟩
theorem lkX11_272 : gLV RX11 272 yX11_requireTicks cX11_requireTicks 2 none 1 := ⟨kw_1318, kw_1320, kp_26, kw_1, kw_1321, gY_X11_requireTicks⟩
theorem gY_X11_requireStates : gYn yX11_requireStates 0 := ⟨by decide +kernel, by decide +kernel, by decide +kernel⟩
theorem lkX11_275 : gLV RX11 275 yX11_requireStates cX11_requireStates 1 none 0 := ⟨kw_1323, kw_1325, kp_27, kw_1, kw_1326, gY_X11_requireStates⟩
theorem flX11_290 : gFl RX11 290 6 9 .int false := ⟨RX3, TX3, 13, tyX3, rfl, by decide, kw_399, inwX3, tyX3_ok, nmX3, by decide +kernel, rfl, fun z => Bool.noConfusion z⟩
theorem gY_X3_forget : gYn yX3_forget 0 := ⟨by decide +kernel, by decide +kernel, by decide +kernel⟩
theorem lkX11_293 : gLV RX11 293 yX3_forget cX3_forget 2 none 0 := ⟨kw_621, kw_622, kw_623, kw_11, kw_624, gY_X3_forget⟩
theorem frX11_299 : gFr RX11 299 7 7 := ⟨RX4, TX4, 8, rfl, by decide, kw_188, inwX4⟩
theorem frX11_306 : gFr RX11 306 6 2 := ⟨RX3, TX3, 13, rfl, by decide, kw_387, inwX3⟩
theorem flX11_310 : gFl RX11 310 11 0 (.object "AnimationController$State") false := ⟨RX8, TX8, 6, tyX8, rfl, by decide, kw_363, inwX8, tyX8_ok, nmX8, by decide +kernel, rfl, fun z => Bool.noConfusion z⟩
theorem flX11_315 : gFl RX11 315 6 4 (.object "AnimationController$Transition") false := ⟨RX3, TX3, 13, tyX3, rfl, by decide, kw_391, inwX3, tyX3_ok, nmX3, by decide +kernel, rfl, fun z => Bool.noConfusion z⟩
theorem frX11_319 : gFr RX11 319 6 3 := ⟨RX3, TX3, 13, rfl, by decide, kw_389, inwX3⟩
theorem flX11_322 : gFl RX11 322 6 5 .int false := ⟨RX3, TX3, 13, tyX3, rfl, by decide, kw_393, inwX3, tyX3_ok, nmX3, by decide +kernel, rfl, fun z => Bool.noConfusion z⟩
theorem flX11_325 : gFl RX11 325 6 6 .boolean false := ⟨RX3, TX3, 13, tyX3, rfl, by decide, kw_395, inwX3, tyX3_ok, nmX3, by decide +kernel, rfl, fun z => Bool.noConfusion z⟩
theorem thX11_332_61 : gTh RX11 61 332 65 "java/lang/IllegalStateException" "the machine is idle" := ⟨kw_805, kw_21, List.mem_of_getElem? (i := 32) rfl, thg_65, thn_65, by decide +kernel, by decide +kernel, List.forall_mem_cons.mpr ⟨rfl, List.forall_mem_cons.mpr ⟨rfl, fun w hw => List.all_eq_true.mp tho_65 w hw⟩⟩⟩
theorem lkX11_328 : gLV RX11 328 yX8_progressNow cX8_progressNow 1 (some FieldType.long) 0 := ⟨kw_1463, kw_1354, kw_1355, kw_15, kw_1356, gY_X8_progressNow⟩
theorem lkX11_334 : gLV RX11 334 yX3_lengthOf cX3_lengthOf 5 (some FieldType.int) 1 := ⟨kw_1472, kw_1399, kw_1400, kw_11, kw_1401, gY_X3_lengthOf⟩
theorem frX11_338 : gFr RX11 338 6 11 := ⟨RX3, TX3, 13, rfl, by decide, kw_403, inwX3⟩
theorem frX11_342 : gFr RX11 342 10 1 := ⟨RX7, TX7, 5, rfl, by decide, kw_148, inwX7⟩
theorem frX11_347 : gFr RX11 347 6 1 := ⟨RX3, TX3, 13, rfl, by decide, kw_385, inwX3⟩
theorem lkX11_350 : gLV RX11 350 yX0_fill cX0_fill 5 none 3 := ⟨kw_1481, kw_681, kw_682, kw_14, kw_683, gY_X0_fill⟩
theorem frX11_356 : gFr RX11 356 4 0 := ⟨RX1, TX1, 5, rfl, by decide, kw_90, inwX1⟩
theorem lkX11_357 : gLV RX11 357 yX0_weightOf cX0_weightOf 2 (some FieldType.int) 1 := ⟨kw_1482, kw_703, kw_704, kw_14, kw_705, gY_X0_weightOf⟩
theorem lkX11_360 : gLV RX11 360 yX3_originOf cX3_originOf 5 (some FieldType.int) 1 := ⟨kw_1490, kw_1342, kw_1343, kw_11, kw_1344, gY_X3_originOf⟩
theorem lkX11_364 : gLV RX11 364 yX3_obstacleFrom cX3_obstacleFrom 5 (some FieldType.int) 2 := ⟨kw_1491, kw_1350, kw_1351, kw_11, kw_1352, gY_X3_obstacleFrom⟩
theorem frX11_440 : gFr RX11 440 6 12 := ⟨RX3, TX3, 13, rfl, by decide, kw_405, inwX3⟩
theorem lkX11_444 : gLV RX11 444 yX3_fillPose cX3_fillPose 2 none 0 := ⟨kw_671, kw_672, kw_673, kw_11, kw_674, gY_X3_fillPose⟩
theorem flX11_372 : gFl RX11 372 9 3 .int false := ⟨RX6, TX6, 4, tyX6, rfl, by decide, kw_318, inwX6, tyX6_ok, nmX6, by decide +kernel, rfl, fun z => Bool.noConfusion z⟩
theorem gY_X11_presentPose : gYn yX11_presentPose 0 := ⟨by decide +kernel, by decide +kernel, by decide +kernel⟩
theorem lkX11_368 : gLV RX11 368 yX11_presentPose cX11_presentPose 1 (some (FieldType.object "AnimationController$Pose")) 0 := ⟨kw_667, kw_669, kp_13, kw_1, kw_670, gY_X11_presentPose⟩
theorem thX11_380_378 : gTh RX11 378 380 382 "java/lang/IndexOutOfBoundsException" "no such entry" := ⟨kw_837, kw_22, List.mem_of_getElem? (i := 33) rfl, thg_382, thn_382, by decide +kernel, by decide +kernel, List.forall_mem_cons.mpr ⟨rfl, List.forall_mem_cons.mpr ⟨rfl, fun w hw => List.all_eq_true.mp tho_382 w hw⟩⟩⟩
theorem frX11_376 : gFr RX11 376 9 0 := ⟨RX6, TX6, 4, rfl, by decide, kw_311, inwX6⟩
theorem frX11_383 : gFr RX11 383 9 1 := ⟨RX6, TX6, 4, rfl, by decide, kw_313, inwX6⟩
theorem frX11_386 : gFr RX11 386 9 2 := ⟨RX6, TX6, 4, rfl, by decide, kw_315, inwX6⟩
theorem thX11_392_378 : gTh RX11 378 392 382 "java/lang/IndexOutOfBoundsException" "no such event" := ⟨kw_837, kw_22, List.mem_of_getElem? (i := 34) rfl, thg_382, thn_382, by decide +kernel, by decide +kernel, List.forall_mem_cons.mpr ⟨rfl, List.forall_mem_cons.mpr ⟨rfl, fun w hw => List.all_eq_true.mp tho_382 w hw⟩⟩⟩
theorem thX11_394_47 : gTh RX11 47 394 51 "java/lang/IllegalArgumentException" "what is out of range" := ⟨kw_737, kw_20, List.mem_of_getElem? (i := 35) rfl, thg_51, thn_51, by decide +kernel, by decide +kernel, List.forall_mem_cons.mpr ⟨rfl, List.forall_mem_cons.mpr ⟨rfl, fun w hw => List.all_eq_true.mp tho_51 w hw⟩⟩⟩
theorem lkX11_389 : gLV RX11 389 yX2_kept cX2_kept 1 (some FieldType.int) 0 := ⟨kw_1521, kw_1522, kw_1523, kw_13, kw_1524, gY_X2_kept⟩
theorem gY_X2_propertyOf : gYn yX2_propertyOf 2 := ⟨by decide +kernel, by decide +kernel, by decide +kernel⟩
theorem lkX11_396 : gLV RX11 396 yX2_propertyOf cX2_propertyOf 3 (some FieldType.int) 2 := ⟨kw_1528, kw_1529, kw_1530, kw_13, kw_1531, gY_X2_propertyOf⟩
theorem gY_X3_copyFrom : gYn yX3_copyFrom 1 := ⟨by decide +kernel, by decide +kernel, by decide +kernel⟩
theorem lkX11_400 : gLV RX11 400 yX3_copyFrom cX3_copyFrom 2 none 1 := ⟨kw_1540, kw_1541, kw_1542, kw_11, kw_1543, gY_X3_copyFrom⟩
theorem flX11_447 : gFl RX11 447 12 2 (.object "AnimationController$State") false := ⟨RX9, TX9, 12, tyX9, rfl, by decide, kw_228, inwX9, tyX9_ok, nmX9, by decide +kernel, rfl, fun z => Bool.noConfusion z⟩
theorem gY_X11_setDistance : gYn yX11_setDistance 2 := ⟨by decide +kernel, by decide +kernel, by decide +kernel⟩
theorem lkX11_404 : gLV RX11 404 yX11_setDistance cX11_setDistance 3 none 2 := ⟨kw_1564, kw_1566, kp_40, kw_1, kw_1567, gY_X11_setDistance⟩
theorem gY_X11_distanceOf : gYn yX11_distanceOf 1 := ⟨by decide +kernel, by decide +kernel, by decide +kernel⟩
theorem lkX11_411 : gLV RX11 411 yX11_distanceOf cX11_distanceOf 2 (some FieldType.int) 1 := ⟨kw_1572, kw_1574, kp_42, kw_1, kw_1575, gY_X11_distanceOf⟩
theorem gY_X11_spreadFrom : gYn yX11_spreadFrom 1 := ⟨by decide +kernel, by decide +kernel, by decide +kernel⟩
theorem lkX11_408 : gLV RX11 408 yX11_spreadFrom cX11_spreadFrom 6 none 1 := ⟨kw_1568, kw_1570, kp_41, kw_1, kw_1571, gY_X11_spreadFrom⟩
theorem thX11_430_47 : gTh RX11 47 430 51 "java/lang/IllegalArgumentException" "slot is out of range" := ⟨kw_737, kw_20, List.mem_of_getElem? (i := 36) rfl, thg_51, thn_51, by decide +kernel, by decide +kernel, List.forall_mem_cons.mpr ⟨rfl, List.forall_mem_cons.mpr ⟨rfl, fun w hw => List.all_eq_true.mp tho_51 w hw⟩⟩⟩
theorem gY_X11_requireSlot : gYn yX11_requireSlot 1 := ⟨by decide +kernel, by decide +kernel, by decide +kernel⟩
theorem lkX11_414 : gLV RX11 414 yX11_requireSlot cX11_requireSlot 2 none 1 := ⟨kw_1583, kw_1585, kp_43, kw_1, kw_1586, gY_X11_requireSlot⟩
theorem thX11_417_61 : gTh RX11 61 417 65 "java/lang/IllegalStateException" "nothing is kept in the slot" := ⟨kw_805, kw_21, List.mem_of_getElem? (i := 37) rfl, thg_65, thn_65, by decide +kernel, by decide +kernel, List.forall_mem_cons.mpr ⟨rfl, List.forall_mem_cons.mpr ⟨rfl, fun w hw => List.all_eq_true.mp tho_65 w hw⟩⟩⟩
theorem gcs : gCs := ⟨ku_2160, ku_2159, ku_2158, ku_2162⟩
theorem ggc : gGC RJ7 86 := ⟨kw_580, ku_2176, kw_2175, kw_581, kw_602⟩
