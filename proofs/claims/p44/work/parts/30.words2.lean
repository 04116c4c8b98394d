theorem kp_0 : Cond.selects "AnimationController" ⟨"AnimationController", "requireParameter", "(I)V"⟩ ⟨"AnimationController", "requireParameter", "(I)V"⟩ ∈ gW := gW_p 0 (by decide +kernel) rfl
theorem kp_10 : Cond.selects "AnimationController$Machine" ⟨"AnimationController$Machine", "firstPossibleOf", "(I)LAnimationController$Transition;"⟩ ⟨"AnimationController$Machine", "firstPossibleOf", "(I)LAnimationController$Transition;"⟩ ∈ gW := gW_p 10 (by decide +kernel) rfl
theorem kp_11 : Cond.selects "AnimationController$Machine" ⟨"AnimationController$Machine", "take", "(LAnimationController$Transition;)V"⟩ ⟨"AnimationController$Machine", "take", "(LAnimationController$Transition;)V"⟩ ∈ gW := gW_p 11 (by decide +kernel) rfl
theorem kp_12 : Cond.selects "AnimationController$Machine" ⟨"AnimationController$Machine", "clearTriggers", "(LAnimationController$Transition;)V"⟩ ⟨"AnimationController$Machine", "clearTriggers", "(LAnimationController$Transition;)V"⟩ ∈ gW := gW_p 12 (by decide +kernel) rfl
theorem kp_13 : Cond.selects "AnimationController$Machine" ⟨"AnimationController$Machine", "firstPhase", "(LAnimationController$Transition;)I"⟩ ⟨"AnimationController$Machine", "firstPhase", "(LAnimationController$Transition;)I"⟩ ∈ gW := gW_p 13 (by decide +kernel) rfl
theorem kp_14 : Cond.selects "AnimationController$Machine" ⟨"AnimationController$Machine", "advanceTracks", "()V"⟩ ⟨"AnimationController$Machine", "advanceTracks", "()V"⟩ ∈ gW := gW_p 14 (by decide +kernel) rfl
theorem kp_15 : Cond.selects "AnimationController$Machine" ⟨"AnimationController$Machine", "stepOf", "(LAnimationController$State;)J"⟩ ⟨"AnimationController$Machine", "stepOf", "(LAnimationController$State;)J"⟩ ∈ gW := gW_p 15 (by decide +kernel) rfl
theorem kp_16 : Cond.selects "AnimationController$Machine" ⟨"AnimationController$Machine", "commonStep", "()J"⟩ ⟨"AnimationController$Machine", "commonStep", "()J"⟩ ∈ gW := gW_p 16 (by decide +kernel) rfl
theorem kp_17 : Cond.selects "AnimationController$Machine" ⟨"AnimationController$Machine", "mixed", "(II)J"⟩ ⟨"AnimationController$Machine", "mixed", "(II)J"⟩ ∈ gW := gW_p 17 (by decide +kernel) rfl
theorem kp_18 : Cond.selects "AnimationController$Machine" ⟨"AnimationController$Machine", "fireEvents", "()V"⟩ ⟨"AnimationController$Machine", "fireEvents", "()V"⟩ ∈ gW := gW_p 18 (by decide +kernel) rfl
theorem kp_19 : Cond.selects "AnimationController$Machine" ⟨"AnimationController$Machine", "fireTrack", "(LAnimationController$Track;I)V"⟩ ⟨"AnimationController$Machine", "fireTrack", "(LAnimationController$Track;I)V"⟩ ∈ gW := gW_p 19 (by decide +kernel) rfl
theorem kp_2 : Cond.selects "AnimationController$Machine" ⟨"AnimationController$Machine", "becomeIdle", "()V"⟩ ⟨"AnimationController$Machine", "becomeIdle", "()V"⟩ ∈ gW := gW_p 2 (by decide +kernel) rfl
theorem kp_20 : Cond.selects "AnimationController$Machine" ⟨"AnimationController$Machine", "fireClip", "(LAnimationController$Track;LAnimationController$Clip;)V"⟩ ⟨"AnimationController$Machine", "fireClip", "(LAnimationController$Track;LAnimationController$Clip;)V"⟩ ∈ gW := gW_p 20 (by decide +kernel) rfl
theorem kp_21 : Cond.selects "AnimationController" ⟨"AnimationController", "stateAt", "(I)LAnimationController$State;"⟩ ⟨"AnimationController", "stateAt", "(I)LAnimationController$State;"⟩ ∈ gW := gW_p 21 (by decide +kernel) rfl
theorem kp_22 : Cond.selects "AnimationController" ⟨"AnimationController", "requireSlot", "(I)V"⟩ ⟨"AnimationController", "requireSlot", "(I)V"⟩ ∈ gW := gW_p 22 (by decide +kernel) rfl
theorem kp_23 : Cond.selects "AnimationController" ⟨"AnimationController", "nodeAt", "(I)LAnimationController$Node;"⟩ ⟨"AnimationController", "nodeAt", "(I)LAnimationController$Node;"⟩ ∈ gW := gW_p 23 (by decide +kernel) rfl
theorem kp_24 : Cond.selects "java/util/ArrayList" ⟨"java/util/ArrayList", "add", "(Ljava/lang/Object;[Ljava/lang/Object;I)V"⟩ ⟨"java/util/ArrayList", "add", "(Ljava/lang/Object;[Ljava/lang/Object;I)V"⟩ ∈ gW := gW_p 24 (by decide +kernel) rfl
theorem kp_25 : Cond.selects "java/util/ArrayList" ⟨"java/util/ArrayList", "grow", "()[Ljava/lang/Object;"⟩ ⟨"java/util/ArrayList", "grow", "()[Ljava/lang/Object;"⟩ ∈ gW := gW_p 25 (by decide +kernel) rfl
theorem kp_26 : Cond.selects "java/util/ArrayList" ⟨"java/util/ArrayList", "grow", "(I)[Ljava/lang/Object;"⟩ ⟨"java/util/ArrayList", "grow", "(I)[Ljava/lang/Object;"⟩ ∈ gW := gW_p 26 (by decide +kernel) rfl
theorem kp_27 : Cond.selects "java/util/ArrayList" ⟨"java/util/ArrayList", "rangeCheckForAdd", "(I)V"⟩ ⟨"java/util/ArrayList", "rangeCheckForAdd", "(I)V"⟩ ∈ gW := gW_p 27 (by decide +kernel) rfl
theorem kp_29 : Cond.selects "AnimationController" ⟨"AnimationController", "clipAt", "(I)LAnimationController$Clip;"⟩ ⟨"AnimationController", "clipAt", "(I)LAnimationController$Clip;"⟩ ∈ gW := gW_p 29 (by decide +kernel) rfl
theorem kp_3 : Cond.selects "AnimationController" ⟨"AnimationController", "requireStates", "()V"⟩ ⟨"AnimationController", "requireStates", "()V"⟩ ∈ gW := gW_p 3 (by decide +kernel) rfl
theorem kp_30 : Cond.selects "AnimationController" ⟨"AnimationController", "requireRoomForNode", "()V"⟩ ⟨"AnimationController", "requireRoomForNode", "()V"⟩ ∈ gW := gW_p 30 (by decide +kernel) rfl
theorem kp_31 : Cond.selects "AnimationController" ⟨"AnimationController", "transitionAt", "(I)LAnimationController$Transition;"⟩ ⟨"AnimationController", "transitionAt", "(I)LAnimationController$Transition;"⟩ ∈ gW := gW_p 31 (by decide +kernel) rfl
theorem kp_4 : Cond.selects "AnimationController" ⟨"AnimationController", "presentPose", "()LAnimationController$Pose;"⟩ ⟨"AnimationController", "presentPose", "()LAnimationController$Pose;"⟩ ∈ gW := gW_p 4 (by decide +kernel) rfl
theorem kp_5 : Cond.selects "AnimationController$Machine" ⟨"AnimationController$Machine", "addTrackPose", "(LAnimationController$Track;I)V"⟩ ⟨"AnimationController$Machine", "addTrackPose", "(LAnimationController$Track;I)V"⟩ ∈ gW := gW_p 5 (by decide +kernel) rfl
theorem kp_6 : Cond.selects "AnimationController$Pose" ⟨"AnimationController$Pose", "isBefore", "(III)Z"⟩ ⟨"AnimationController$Pose", "isBefore", "(III)Z"⟩ ∈ gW := gW_p 6 (by decide +kernel) rfl
theorem kp_7 : Cond.selects "AnimationController$Machine" ⟨"AnimationController$Machine", "targetShare", "()I"⟩ ⟨"AnimationController$Machine", "targetShare", "()I"⟩ ∈ gW := gW_p 7 (by decide +kernel) rfl
theorem kp_8 : Cond.selects "AnimationController" ⟨"AnimationController", "requireTicks", "(I)V"⟩ ⟨"AnimationController", "requireTicks", "(I)V"⟩ ∈ gW := gW_p 8 (by decide +kernel) rfl
theorem kp_9 : Cond.selects "AnimationController$Machine" ⟨"AnimationController$Machine", "firstPossible", "()LAnimationController$Transition;"⟩ ⟨"AnimationController$Machine", "firstPossible", "()LAnimationController$Transition;"⟩ ∈ gW := gW_p 9 (by decide +kernel) rfl
theorem ku_1447 : (Cond.castable "AnimationController$State" "java/lang/Object") ∈ gU := gU_n 1447 (by decide +kernel) rfl
theorem ku_1448 : (Cond.castable "AnimationController$Node" "java/lang/Object") ∈ gU := gU_n 1448 (by decide +kernel) rfl
theorem ku_1449 : (Cond.castable "AnimationController$Clip" "java/lang/Object") ∈ gU := gU_n 1449 (by decide +kernel) rfl
theorem ku_1451 : (Cond.castable "AnimationController$Transition" "java/lang/Object") ∈ gU := gU_n 1451 (by decide +kernel) rfl
theorem ku_1464 : (Cond.declares ({ cls := "java/lang/Object", name := "getClass", desc := "()Ljava/lang/Class;" } : MethodName)) ∈ gU := gU_n 1464 (by decide +kernel) rfl
theorem ku_291 : (Cond.methodLinkNest "AnimationController$Machine" (17 : Nat) ({ cls := "AnimationController$Pose", name := "<init>", desc := "()V" } : MethodName) "AnimationController") ∈ gU := gU_n 291 (by decide +kernel) rfl
theorem ku_315 : (Cond.methodLinkNest "AnimationController$Machine" (24 : Nat) ({ cls := "AnimationController$EventLog", name := "<init>", desc := "()V" } : MethodName) "AnimationController") ∈ gU := gU_n 315 (by decide +kernel) rfl
theorem ku_320 : (Cond.arrayOver (FieldType.array FieldType.int)) ∈ gU := gU_n 320 (by decide +kernel) rfl
theorem ku_332 : (Cond.methodLinkNest "AnimationController$Machine" (31 : Nat) ({ cls := "AnimationController$Blend", name := "<init>", desc := "()V" } : MethodName) "AnimationController") ∈ gU := gU_n 332 (by decide +kernel) rfl
theorem ku_418 : (Cond.arrayOver (FieldType.object "AnimationController$Machine")) ∈ gU := gU_n 418 (by decide +kernel) rfl
theorem ku_45 : (Cond.methodLinkNest "AnimationController" (11 : Nat) ({ cls := "AnimationController$Model", name := "<init>", desc := "()V" } : MethodName) "AnimationController") ∈ gU := gU_n 45 (by decide +kernel) rfl
theorem ku_974 : (Cond.arrayOver (FieldType.object "java/lang/Object")) ∈ gU := gU_n 974 (by decide +kernel) rfl
theorem kw_1 : (Cond.initialized "AnimationController") ∈ gW := gW_n 1 (by decide +kernel) rfl
theorem kw_10 : (Cond.initialized "AnimationController$Transition") ∈ gW := gW_n 10 (by decide +kernel) rfl
theorem kw_1002 : (Cond.methodLink "AnimationController" (143 : Nat) ({ cls := "AnimationController$Node", name := "isLine", desc := "()Z" } : MethodName)) ∈ gW := gW_n 1002 (by decide +kernel) rfl
theorem kw_1003 : (Cond.instanceMethod ({ cls := "AnimationController$Node", name := "isLine", desc := "()Z" } : MethodName)) ∈ gW := gW_n 1003 (by decide +kernel) rfl
theorem kw_1004 : (Cond.selects "AnimationController$Node" ({ cls := "AnimationController$Node", name := "isLine", desc := "()Z" } : MethodName) ({ cls := "AnimationController$Node", name := "isLine", desc := "()Z" } : MethodName)) ∈ gW := gW_n 1004 (by decide +kernel) rfl
theorem kw_1005 : (Cond.code ({ cls := "AnimationController$Node", name := "isLine", desc := "()Z" } : MethodName) prog_7_method_2_code (1 : Nat) (Option.some FieldType.boolean)) ∈ gW := gW_n 1005 (by decide +kernel) rfl
theorem kw_1007 : (Cond.methodLink "AnimationController" (152 : Nat) ({ cls := "AnimationController$Node", name := "hasPosition", desc := "(I)Z" } : MethodName)) ∈ gW := gW_n 1007 (by decide +kernel) rfl
theorem kw_1008 : (Cond.instanceMethod ({ cls := "AnimationController$Node", name := "hasPosition", desc := "(I)Z" } : MethodName)) ∈ gW := gW_n 1008 (by decide +kernel) rfl
theorem kw_1009 : (Cond.selects "AnimationController$Node" ({ cls := "AnimationController$Node", name := "hasPosition", desc := "(I)Z" } : MethodName) ({ cls := "AnimationController$Node", name := "hasPosition", desc := "(I)Z" } : MethodName)) ∈ gW := gW_n 1009 (by decide +kernel) rfl
theorem kw_1010 : (Cond.code ({ cls := "AnimationController$Node", name := "hasPosition", desc := "(I)Z" } : MethodName) prog_7_method_5_code (3 : Nat) (Option.some FieldType.boolean)) ∈ gW := gW_n 1010 (by decide +kernel) rfl
theorem kw_1011 : (Cond.methodLink "AnimationController$Node" (37 : Nat) ({ cls := "java/util/ArrayList", name := "size", desc := "()I" } : MethodName)) ∈ gW := gW_n 1011 (by decide +kernel) rfl
theorem kw_1012 : (Cond.methodLink "AnimationController$Node" (41 : Nat) ({ cls := "AnimationController$Node", name := "positionOf", desc := "(I)I" } : MethodName)) ∈ gW := gW_n 1012 (by decide +kernel) rfl
theorem kw_1014 : (Cond.methodLink "AnimationController" (161 : Nat) ({ cls := "AnimationController$Model", name := "greatestDepthWith", desc := "(LAnimationController$Node;LAnimationController$Node;)I" } : MethodName)) ∈ gW := gW_n 1014 (by decide +kernel) rfl
theorem kw_1015 : (Cond.instanceMethod ({ cls := "AnimationController$Model", name := "greatestDepthWith", desc := "(LAnimationController$Node;LAnimationController$Node;)I" } : MethodName)) ∈ gW := gW_n 1015 (by decide +kernel) rfl
theorem kw_1016 : (Cond.selects "AnimationController$Model" ({ cls := "AnimationController$Model", name := "greatestDepthWith", desc := "(LAnimationController$Node;LAnimationController$Node;)I" } : MethodName) ({ cls := "AnimationController$Model", name := "greatestDepthWith", desc := "(LAnimationController$Node;LAnimationController$Node;)I" } : MethodName)) ∈ gW := gW_n 1016 (by decide +kernel) rfl
theorem kw_1017 : (Cond.code ({ cls := "AnimationController$Model", name := "greatestDepthWith", desc := "(LAnimationController$Node;LAnimationController$Node;)I" } : MethodName) prog_6_method_6_code (6 : Nat) (Option.some FieldType.int)) ∈ gW := gW_n 1017 (by decide +kernel) rfl
theorem kw_1018 : (Cond.methodLink "AnimationController$Model" (65 : Nat) ({ cls := "java/util/ArrayList", name := "size", desc := "()I" } : MethodName)) ∈ gW := gW_n 1018 (by decide +kernel) rfl
theorem kw_1019 : (Cond.methodLink "AnimationController$Model" (69 : Nat) ({ cls := "java/util/ArrayList", name := "get", desc := "(I)Ljava/lang/Object;" } : MethodName)) ∈ gW := gW_n 1019 (by decide +kernel) rfl
theorem kw_1020 : (Cond.methodLink "AnimationController$Model" (73 : Nat) ({ cls := "AnimationController$Node", name := "depthByChildren", desc := "()I" } : MethodName)) ∈ gW := gW_n 1020 (by decide +kernel) rfl
theorem kw_1021 : (Cond.instanceMethod ({ cls := "AnimationController$Node", name := "depthByChildren", desc := "()I" } : MethodName)) ∈ gW := gW_n 1021 (by decide +kernel) rfl
theorem kw_1022 : (Cond.selects "AnimationController$Node" ({ cls := "AnimationController$Node", name := "depthByChildren", desc := "()I" } : MethodName) ({ cls := "AnimationController$Node", name := "depthByChildren", desc := "()I" } : MethodName)) ∈ gW := gW_n 1022 (by decide +kernel) rfl
theorem kw_1023 : (Cond.code ({ cls := "AnimationController$Node", name := "depthByChildren", desc := "()I" } : MethodName) prog_7_method_7_code (3 : Nat) (Option.some FieldType.int)) ∈ gW := gW_n 1023 (by decide +kernel) rfl
theorem kw_1024 : (Cond.methodLink "AnimationController$Node" (49 : Nat) ({ cls := "java/util/ArrayList", name := "get", desc := "(I)Ljava/lang/Object;" } : MethodName)) ∈ gW := gW_n 1024 (by decide +kernel) rfl
theorem kw_1025 : (Cond.classLink "AnimationController$Node" (13 : Nat) "AnimationController$Node") ∈ gW := gW_n 1025 (by decide +kernel) rfl
theorem kw_1026 : (Cond.methodLink "AnimationController$Node" (53 : Nat) ({ cls := "java/lang/Math", name := "max", desc := "(II)I" } : MethodName)) ∈ gW := gW_n 1026 (by decide +kernel) rfl
theorem kw_1027 : (Cond.methodLink "AnimationController$Model" (79 : Nat) ({ cls := "java/lang/Math", name := "max", desc := "(II)I" } : MethodName)) ∈ gW := gW_n 1027 (by decide +kernel) rfl
theorem kw_1029 : (Cond.methodLink "AnimationController" (167 : Nat) ({ cls := "AnimationController$Node", name := "insertChild", desc := "(LAnimationController$Node;I)V" } : MethodName)) ∈ gW := gW_n 1029 (by decide +kernel) rfl
theorem kw_1030 : (Cond.instanceMethod ({ cls := "AnimationController$Node", name := "insertChild", desc := "(LAnimationController$Node;I)V" } : MethodName)) ∈ gW := gW_n 1030 (by decide +kernel) rfl
theorem kw_1031 : (Cond.selects "AnimationController$Node" ({ cls := "AnimationController$Node", name := "insertChild", desc := "(LAnimationController$Node;I)V" } : MethodName) ({ cls := "AnimationController$Node", name := "insertChild", desc := "(LAnimationController$Node;I)V" } : MethodName)) ∈ gW := gW_n 1031 (by decide +kernel) rfl
theorem kw_1032 : (Cond.code ({ cls := "AnimationController$Node", name := "insertChild", desc := "(LAnimationController$Node;I)V" } : MethodName) prog_7_method_6_code (4 : Nat) (Option.none : Option FieldType)) ∈ gW := gW_n 1032 (by decide +kernel) rfl
theorem kw_1033 : (Cond.methodLink "AnimationController$Node" (45 : Nat) ({ cls := "java/util/ArrayList", name := "add", desc := "(ILjava/lang/Object;)V" } : MethodName)) ∈ gW := gW_n 1033 (by decide +kernel) rfl
theorem kw_1034 : (Cond.instanceMethod ({ cls := "java/util/ArrayList", name := "add", desc := "(ILjava/lang/Object;)V" } : MethodName)) ∈ gW := gW_n 1034 (by decide +kernel) rfl
theorem kw_1035 : (Cond.selects "java/util/ArrayList" ({ cls := "java/util/ArrayList", name := "add", desc := "(ILjava/lang/Object;)V" } : MethodName) ({ cls := "java/util/ArrayList", name := "add", desc := "(ILjava/lang/Object;)V" } : MethodName)) ∈ gW := gW_n 1035 (by decide +kernel) rfl
theorem kw_1036 : (Cond.code ({ cls := "java/util/ArrayList", name := "add", desc := "(ILjava/lang/Object;)V" } : MethodName) prog_40_method_26_code (5 : Nat) (Option.none : Option FieldType)) ∈ gW := gW_n 1036 (by decide +kernel) rfl
theorem kw_1037 : (Cond.methodLink "java/util/ArrayList" (135 : Nat) ({ cls := "java/util/ArrayList", name := "rangeCheckForAdd", desc := "(I)V" } : MethodName)) ∈ gW := gW_n 1037 (by decide +kernel) rfl
theorem kw_1039 : (Cond.instanceMethod ({ cls := "java/util/ArrayList", name := "rangeCheckForAdd", desc := "(I)V" } : MethodName)) ∈ gW := gW_n 1039 (by decide +kernel) rfl
theorem kw_1040 : (Cond.code ({ cls := "java/util/ArrayList", name := "rangeCheckForAdd", desc := "(I)V" } : MethodName) prog_40_method_45_code (2 : Nat) (Option.none : Option FieldType)) ∈ gW := gW_n 1040 (by decide +kernel) rfl
theorem kw_11 : (Cond.initialized "AnimationController$Machine") ∈ gW := gW_n 11 (by decide +kernel) rfl
theorem kw_111 : (Cond.methodLink "AnimationController$Model" (44 : Nat) ({ cls := "AnimationController$Node", name := "<init>", desc := "(LAnimationController$Clip;I)V" } : MethodName)) ∈ gW := gW_n 111 (by decide +kernel) rfl
theorem kw_112 : (Cond.instanceMethod ({ cls := "AnimationController$Node", name := "<init>", desc := "(LAnimationController$Clip;I)V" } : MethodName)) ∈ gW := gW_n 112 (by decide +kernel) rfl
theorem kw_113 : (Cond.code ({ cls := "AnimationController$Node", name := "<init>", desc := "(LAnimationController$Clip;I)V" } : MethodName) prog_7_method_1_code (3 : Nat) (Option.none : Option FieldType)) ∈ gW := gW_n 113 (by decide +kernel) rfl
theorem kw_114 : (Cond.methodLink "AnimationController$Node" (3 : Nat) ({ cls := "java/lang/Object", name := "<init>", desc := "()V" } : MethodName)) ∈ gW := gW_n 114 (by decide +kernel) rfl
theorem kw_115 : (Cond.classLink "AnimationController$Node" (9 : Nat) "java/util/ArrayList") ∈ gW := gW_n 115 (by decide +kernel) rfl
theorem kw_116 : (Cond.methodLink "AnimationController$Node" (11 : Nat) ({ cls := "java/util/ArrayList", name := "<init>", desc := "()V" } : MethodName)) ∈ gW := gW_n 116 (by decide +kernel) rfl
theorem kw_117 : (Cond.fieldLink "AnimationController$Node" (26 : Nat) "AnimationController$Node" "clip" "LAnimationController$Clip;") ∈ gW := gW_n 117 (by decide +kernel) rfl
theorem kw_118 : (Cond.fieldLink "AnimationController$Blend" (19 : Nat) "AnimationController$Node" "clip" "LAnimationController$Clip;") ∈ gW := gW_n 118 (by decide +kernel) rfl
theorem kw_119 : (Cond.fieldLink "AnimationController$Node" (30 : Nat) "AnimationController$Node" "parameter" "I") ∈ gW := gW_n 119 (by decide +kernel) rfl
theorem kw_12 : (Cond.initialized "AnimationController$Pose") ∈ gW := gW_n 12 (by decide +kernel) rfl
theorem kw_120 : (Cond.fieldLink "AnimationController$Blend" (31 : Nat) "AnimationController$Node" "parameter" "I") ∈ gW := gW_n 120 (by decide +kernel) rfl
theorem kw_121 : (Cond.fieldLink "AnimationController$Node" (12 : Nat) "AnimationController$Node" "children" "Ljava/util/ArrayList;") ∈ gW := gW_n 121 (by decide +kernel) rfl
theorem kw_122 : (Cond.fieldLink "AnimationController$Blend" (34 : Nat) "AnimationController$Node" "children" "Ljava/util/ArrayList;") ∈ gW := gW_n 122 (by decide +kernel) rfl
theorem kw_123 : (Cond.fieldLink "AnimationController" (149 : Nat) "AnimationController$Node" "children" "Ljava/util/ArrayList;") ∈ gW := gW_n 123 (by decide +kernel) rfl
theorem kw_124 : (Cond.fieldLink "AnimationController$Node" (18 : Nat) "AnimationController$Node" "positions" "[I") ∈ gW := gW_n 124 (by decide +kernel) rfl
theorem kw_125 : (Cond.fieldLink "AnimationController$Node" (22 : Nat) "AnimationController$Node" "depth" "I") ∈ gW := gW_n 125 (by decide +kernel) rfl
theorem kw_126 : (Cond.fieldLink "AnimationController$Model" (76 : Nat) "AnimationController$Node" "depth" "I") ∈ gW := gW_n 126 (by decide +kernel) rfl
theorem kw_1278 : (Cond.methodLink "java/util/ArrayList" (112 : Nat) ({ cls := "java/lang/System", name := "arraycopy", desc := "(Ljava/lang/Object;ILjava/lang/Object;II)V" } : MethodName)) ∈ gW := gW_n 1278 (by decide +kernel) rfl
theorem kw_1294 : (Cond.classLink "AnimationController" (98 : Nat) "AnimationController$Clip") ∈ gW := gW_n 1294 (by decide +kernel) rfl
theorem kw_1295 : (Cond.methodLink "AnimationController" (100 : Nat) ({ cls := "AnimationController$Clip", name := "<init>", desc := "(II)V" } : MethodName)) ∈ gW := gW_n 1295 (by decide +kernel) rfl
theorem kw_13 : (Cond.initialized "AnimationController$EventLog") ∈ gW := gW_n 13 (by decide +kernel) rfl
theorem kw_1300 : (Cond.methodLink "AnimationController" (106 : Nat) ({ cls := "AnimationController", name := "clipAt", desc := "(I)LAnimationController$Clip;" } : MethodName)) ∈ gW := gW_n 1300 (by decide +kernel) rfl
theorem kw_1302 : (Cond.instanceMethod ({ cls := "AnimationController", name := "clipAt", desc := "(I)LAnimationController$Clip;" } : MethodName)) ∈ gW := gW_n 1302 (by decide +kernel) rfl
theorem kw_1303 : (Cond.code ({ cls := "AnimationController", name := "clipAt", desc := "(I)LAnimationController$Clip;" } : MethodName) prog_1_method_48_code (2 : Nat) (Option.some (FieldType.object "AnimationController$Clip"))) ∈ gW := gW_n 1303 (by decide +kernel) rfl
theorem kw_1307 : (Cond.methodLink "AnimationController" (120 : Nat) ({ cls := "AnimationController$Clip", name := "insertEvent", desc := "(II)V" } : MethodName)) ∈ gW := gW_n 1307 (by decide +kernel) rfl
theorem kw_1308 : (Cond.instanceMethod ({ cls := "AnimationController$Clip", name := "insertEvent", desc := "(II)V" } : MethodName)) ∈ gW := gW_n 1308 (by decide +kernel) rfl
theorem kw_1309 : (Cond.selects "AnimationController$Clip" ({ cls := "AnimationController$Clip", name := "insertEvent", desc := "(II)V" } : MethodName) ({ cls := "AnimationController$Clip", name := "insertEvent", desc := "(II)V" } : MethodName)) ∈ gW := gW_n 1309 (by decide +kernel) rfl
theorem kw_1310 : (Cond.code ({ cls := "AnimationController$Clip", name := "insertEvent", desc := "(II)V" } : MethodName) prog_3_method_2_code (4 : Nat) (Option.none : Option FieldType)) ∈ gW := gW_n 1310 (by decide +kernel) rfl
theorem kw_1315 : (Cond.methodLink "AnimationController" (123 : Nat) ({ cls := "AnimationController", name := "requireRoomForNode", desc := "()V" } : MethodName)) ∈ gW := gW_n 1315 (by decide +kernel) rfl
theorem kw_1317 : (Cond.instanceMethod ({ cls := "AnimationController", name := "requireRoomForNode", desc := "()V" } : MethodName)) ∈ gW := gW_n 1317 (by decide +kernel) rfl
theorem kw_1318 : (Cond.code ({ cls := "AnimationController", name := "requireRoomForNode", desc := "()V" } : MethodName) prog_1_method_44_code (1 : Nat) (Option.none : Option FieldType)) ∈ gW := gW_n 1318 (by decide +kernel) rfl
theorem kw_1320 : (Cond.methodLink "AnimationController" (131 : Nat) ({ cls := "AnimationController$Node", name := "<init>", desc := "(LAnimationController$Clip;I)V" } : MethodName)) ∈ gW := gW_n 1320 (by decide +kernel) rfl
theorem kw_1325 : (Cond.methodLink "AnimationController" (134 : Nat) ({ cls := "AnimationController$Model", name := "kindOf", desc := "(I)I" } : MethodName)) ∈ gW := gW_n 1325 (by decide +kernel) rfl
theorem kw_1331 : (Cond.methodLink "AnimationController" (211 : Nat) ({ cls := "AnimationController", name := "transitionAt", desc := "(I)LAnimationController$Transition;" } : MethodName)) ∈ gW := gW_n 1331 (by decide +kernel) rfl
theorem kw_1333 : (Cond.instanceMethod ({ cls := "AnimationController", name := "transitionAt", desc := "(I)LAnimationController$Transition;" } : MethodName)) ∈ gW := gW_n 1333 (by decide +kernel) rfl
theorem kw_1334 : (Cond.code ({ cls := "AnimationController", name := "transitionAt", desc := "(I)LAnimationController$Transition;" } : MethodName) prog_1_method_51_code (2 : Nat) (Option.some (FieldType.object "AnimationController$Transition"))) ∈ gW := gW_n 1334 (by decide +kernel) rfl
theorem kw_1347 : (Cond.methodLink "AnimationController" (238 : Nat) ({ cls := "AnimationController$Model", name := "isCondition", desc := "(III)Z" } : MethodName)) ∈ gW := gW_n 1347 (by decide +kernel) rfl
theorem kw_1348 : (Cond.instanceMethod ({ cls := "AnimationController$Model", name := "isCondition", desc := "(III)Z" } : MethodName)) ∈ gW := gW_n 1348 (by decide +kernel) rfl
theorem kw_1349 : (Cond.selects "AnimationController$Model" ({ cls := "AnimationController$Model", name := "isCondition", desc := "(III)Z" } : MethodName) ({ cls := "AnimationController$Model", name := "isCondition", desc := "(III)Z" } : MethodName)) ∈ gW := gW_n 1349 (by decide +kernel) rfl
theorem kw_1350 : (Cond.code ({ cls := "AnimationController$Model", name := "isCondition", desc := "(III)Z" } : MethodName) prog_6_method_5_code (4 : Nat) (Option.some FieldType.boolean)) ∈ gW := gW_n 1350 (by decide +kernel) rfl
theorem kw_1351 : (Cond.methodLink "AnimationController$Model" (61 : Nat) ({ cls := "AnimationController$Model", name := "isValue", desc := "(II)Z" } : MethodName)) ∈ gW := gW_n 1351 (by decide +kernel) rfl
theorem kw_1354 : (Cond.methodLink "AnimationController" (249 : Nat) ({ cls := "AnimationController$Transition", name := "appendCondition", desc := "(III)V" } : MethodName)) ∈ gW := gW_n 1354 (by decide +kernel) rfl
theorem kw_1355 : (Cond.instanceMethod ({ cls := "AnimationController$Transition", name := "appendCondition", desc := "(III)V" } : MethodName)) ∈ gW := gW_n 1355 (by decide +kernel) rfl
theorem kw_1356 : (Cond.selects "AnimationController$Transition" ({ cls := "AnimationController$Transition", name := "appendCondition", desc := "(III)V" } : MethodName) ({ cls := "AnimationController$Transition", name := "appendCondition", desc := "(III)V" } : MethodName)) ∈ gW := gW_n 1356 (by decide +kernel) rfl
theorem kw_1357 : (Cond.code ({ cls := "AnimationController$Transition", name := "appendCondition", desc := "(III)V" } : MethodName) prog_11_method_4_code (4 : Nat) (Option.none : Option FieldType)) ∈ gW := gW_n 1357 (by decide +kernel) rfl
theorem kw_138 : (Cond.methodLink "AnimationController$Model" (47 : Nat) ({ cls := "AnimationController$State", name := "<init>", desc := "(ILAnimationController$Node;IZI)V" } : MethodName)) ∈ gW := gW_n 138 (by decide +kernel) rfl
theorem kw_139 : (Cond.instanceMethod ({ cls := "AnimationController$State", name := "<init>", desc := "(ILAnimationController$Node;IZI)V" } : MethodName)) ∈ gW := gW_n 139 (by decide +kernel) rfl
theorem kw_1394 : (Cond.constant "AnimationController" (346 : Nat) (1000000 : Int32)) ∈ gW := gW_n 1394 (by decide +kernel) rfl
theorem kw_1395 : (Cond.methodLink "AnimationController" (350 : Nat) ({ cls := "AnimationController$Blend", name := "fill", desc := "(LAnimationController$Node;I[I)V" } : MethodName)) ∈ gW := gW_n 1395 (by decide +kernel) rfl
theorem kw_1396 : (Cond.methodLink "AnimationController" (357 : Nat) ({ cls := "AnimationController$Blend", name := "weightOf", desc := "(I)I" } : MethodName)) ∈ gW := gW_n 1396 (by decide +kernel) rfl
theorem kw_14 : (Cond.initialized "AnimationController$Blend") ∈ gW := gW_n 14 (by decide +kernel) rfl
theorem kw_140 : (Cond.code ({ cls := "AnimationController$State", name := "<init>", desc := "(ILAnimationController$Node;IZI)V" } : MethodName) prog_9_method_1_code (6 : Nat) (Option.none : Option FieldType)) ∈ gW := gW_n 140 (by decide +kernel) rfl
theorem kw_1401 : (Cond.methodLink "AnimationController" (334 : Nat) ({ cls := "AnimationController$Machine", name := "lengthOf", desc := "(LAnimationController$State;)I" } : MethodName)) ∈ gW := gW_n 1401 (by decide +kernel) rfl
theorem kw_141 : (Cond.methodLink "AnimationController$State" (1 : Nat) ({ cls := "java/lang/Object", name := "<init>", desc := "()V" } : MethodName)) ∈ gW := gW_n 141 (by decide +kernel) rfl
theorem kw_142 : (Cond.fieldLink "AnimationController$State" (7 : Nat) "AnimationController$State" "number" "I") ∈ gW := gW_n 142 (by decide +kernel) rfl
theorem kw_1425 : (Cond.methodLink "AnimationController" (396 : Nat) ({ cls := "AnimationController$EventLog", name := "propertyOf", desc := "(II)I" } : MethodName)) ∈ gW := gW_n 1425 (by decide +kernel) rfl
theorem kw_1426 : (Cond.instanceMethod ({ cls := "AnimationController$EventLog", name := "propertyOf", desc := "(II)I" } : MethodName)) ∈ gW := gW_n 1426 (by decide +kernel) rfl
theorem kw_1427 : (Cond.selects "AnimationController$EventLog" ({ cls := "AnimationController$EventLog", name := "propertyOf", desc := "(II)I" } : MethodName) ({ cls := "AnimationController$EventLog", name := "propertyOf", desc := "(II)I" } : MethodName)) ∈ gW := gW_n 1427 (by decide +kernel) rfl
theorem kw_1428 : (Cond.code ({ cls := "AnimationController$EventLog", name := "propertyOf", desc := "(II)I" } : MethodName) prog_4_method_4_code (3 : Nat) (Option.some FieldType.int)) ∈ gW := gW_n 1428 (by decide +kernel) rfl
theorem kw_1429 : (Cond.methodLink "AnimationController$EventLog" (30 : Nat) ({ cls := "AnimationController$EventLog", name := "kept", desc := "()I" } : MethodName)) ∈ gW := gW_n 1429 (by decide +kernel) rfl
theorem kw_143 : (Cond.fieldLink "AnimationController" (187 : Nat) "AnimationController$State" "number" "I") ∈ gW := gW_n 143 (by decide +kernel) rfl
theorem kw_144 : (Cond.fieldLink "AnimationController$Machine" (314 : Nat) "AnimationController$State" "number" "I") ∈ gW := gW_n 144 (by decide +kernel) rfl
theorem kw_145 : (Cond.fieldLink "AnimationController$State" (13 : Nat) "AnimationController$State" "motion" "LAnimationController$Node;") ∈ gW := gW_n 145 (by decide +kernel) rfl
theorem kw_146 : (Cond.fieldLink "AnimationController$Machine" (105 : Nat) "AnimationController$State" "motion" "LAnimationController$Node;") ∈ gW := gW_n 146 (by decide +kernel) rfl
theorem kw_1463 : (Cond.selects "[Ljava/lang/Object;" ({ cls := "java/lang/Object", name := "getClass", desc := "()Ljava/lang/Class;" } : MethodName) ({ cls := "java/lang/Object", name := "getClass", desc := "()Ljava/lang/Class;" } : MethodName)) ∈ gW := gW_n 1463 (by decide +kernel) rfl
theorem kw_147 : (Cond.fieldLink "AnimationController" (342 : Nat) "AnimationController$State" "motion" "LAnimationController$Node;") ∈ gW := gW_n 147 (by decide +kernel) rfl
theorem kw_148 : (Cond.fieldLink "AnimationController$State" (17 : Nat) "AnimationController$State" "speed" "I") ∈ gW := gW_n 148 (by decide +kernel) rfl
theorem kw_149 : (Cond.fieldLink "AnimationController$Machine" (270 : Nat) "AnimationController$State" "speed" "I") ∈ gW := gW_n 149 (by decide +kernel) rfl
theorem kw_15 : (Cond.initialized "AnimationController$Track") ∈ gW := gW_n 15 (by decide +kernel) rfl
theorem kw_150 : (Cond.fieldLink "AnimationController$State" (20 : Nat) "AnimationController$State" "loops" "Z") ∈ gW := gW_n 150 (by decide +kernel) rfl
theorem kw_151 : (Cond.fieldLink "AnimationController$Track" (39 : Nat) "AnimationController$State" "loops" "Z") ∈ gW := gW_n 151 (by decide +kernel) rfl
theorem kw_152 : (Cond.fieldLink "AnimationController$Machine" (248 : Nat) "AnimationController$State" "loops" "Z") ∈ gW := gW_n 152 (by decide +kernel) rfl
theorem kw_153 : (Cond.fieldLink "AnimationController$State" (24 : Nat) "AnimationController$State" "group" "I") ∈ gW := gW_n 153 (by decide +kernel) rfl
theorem kw_165 : (Cond.fieldLink "AnimationController$Model" (9 : Nat) "AnimationController$Model" "kinds" "[I") ∈ gW := gW_n 165 (by decide +kernel) rfl
theorem kw_166 : (Cond.fieldLink "AnimationController" (58 : Nat) "AnimationController$Model" "kinds" "[I") ∈ gW := gW_n 166 (by decide +kernel) rfl
theorem kw_167 : (Cond.fieldLink "AnimationController$Model" (54 : Nat) "AnimationController$Model" "parameters" "I") ∈ gW := gW_n 167 (by decide +kernel) rfl
theorem kw_168 : (Cond.fieldLink "AnimationController" (54 : Nat) "AnimationController$Model" "parameters" "I") ∈ gW := gW_n 168 (by decide +kernel) rfl
theorem kw_169 : (Cond.fieldLink "AnimationController$Model" (18 : Nat) "AnimationController$Model" "clips" "Ljava/util/ArrayList;") ∈ gW := gW_n 169 (by decide +kernel) rfl
theorem kw_170 : (Cond.fieldLink "AnimationController" (86 : Nat) "AnimationController$Model" "clips" "Ljava/util/ArrayList;") ∈ gW := gW_n 170 (by decide +kernel) rfl
theorem kw_171 : (Cond.fieldLink "AnimationController$Machine" (116 : Nat) "AnimationController$Model" "clips" "Ljava/util/ArrayList;") ∈ gW := gW_n 171 (by decide +kernel) rfl
theorem kw_172 : (Cond.fieldLink "AnimationController$Model" (22 : Nat) "AnimationController$Model" "nodes" "Ljava/util/ArrayList;") ∈ gW := gW_n 172 (by decide +kernel) rfl
theorem kw_173 : (Cond.fieldLink "AnimationController" (126 : Nat) "AnimationController$Model" "nodes" "Ljava/util/ArrayList;") ∈ gW := gW_n 173 (by decide +kernel) rfl
theorem kw_174 : (Cond.fieldLink "AnimationController$Model" (25 : Nat) "AnimationController$Model" "states" "Ljava/util/ArrayList;") ∈ gW := gW_n 174 (by decide +kernel) rfl
theorem kw_175 : (Cond.fieldLink "AnimationController" (173 : Nat) "AnimationController$Model" "states" "Ljava/util/ArrayList;") ∈ gW := gW_n 175 (by decide +kernel) rfl
theorem kw_176 : (Cond.fieldLink "AnimationController$Model" (28 : Nat) "AnimationController$Model" "transitions" "Ljava/util/ArrayList;") ∈ gW := gW_n 176 (by decide +kernel) rfl
theorem kw_177 : (Cond.fieldLink "AnimationController$Machine" (173 : Nat) "AnimationController$Model" "transitions" "Ljava/util/ArrayList;") ∈ gW := gW_n 177 (by decide +kernel) rfl
theorem kw_178 : (Cond.fieldLink "AnimationController" (196 : Nat) "AnimationController$Model" "transitions" "Ljava/util/ArrayList;") ∈ gW := gW_n 178 (by decide +kernel) rfl
theorem kw_179 : (Cond.fieldLink "AnimationController$Model" (31 : Nat) "AnimationController$Model" "threshold" "I") ∈ gW := gW_n 179 (by decide +kernel) rfl
theorem kw_180 : (Cond.fieldLink "AnimationController$Machine" (293 : Nat) "AnimationController$Model" "threshold" "I") ∈ gW := gW_n 180 (by decide +kernel) rfl
theorem kw_181 : (Cond.fieldLink "AnimationController$TransitionText" (21 : Nat) "AnimationController$Model" "standIn" "LAnimationController$State;") ∈ gW := gW_n 181 (by decide +kernel) rfl
theorem kw_182 : (Cond.fieldLink "AnimationController$Machine" (45 : Nat) "AnimationController$Model" "standIn" "LAnimationController$State;") ∈ gW := gW_n 182 (by decide +kernel) rfl
theorem kw_183 : (Cond.fieldLink "AnimationController$Model" (50 : Nat) "AnimationController$Model" "standIn" "LAnimationController$State;") ∈ gW := gW_n 183 (by decide +kernel) rfl
theorem kw_184 : (Cond.fieldLink "AnimationController" (299 : Nat) "AnimationController$Model" "standIn" "LAnimationController$State;") ∈ gW := gW_n 184 (by decide +kernel) rfl
theorem kw_19 : (Cond.initialized "java/lang/IllegalArgumentException") ∈ gW := gW_n 19 (by decide +kernel) rfl
theorem kw_2 : (Cond.initialized "AnimationController$Model") ∈ gW := gW_n 2 (by decide +kernel) rfl
theorem kw_20 : (Cond.initialized "java/lang/IllegalStateException") ∈ gW := gW_n 20 (by decide +kernel) rfl
theorem kw_202 : (Cond.classLink "AnimationController" (16 : Nat) "AnimationController$TransitionText") ∈ gW := gW_n 202 (by decide +kernel) rfl
theorem kw_203 : (Cond.instantiable "AnimationController$TransitionText" (5 : Nat)) ∈ gW := gW_n 203 (by decide +kernel) rfl
theorem kw_204 : (Cond.methodLink "AnimationController" (18 : Nat) ({ cls := "AnimationController$TransitionText", name := "<init>", desc := "(LAnimationController$Model;)V" } : MethodName)) ∈ gW := gW_n 204 (by decide +kernel) rfl
theorem kw_205 : (Cond.instanceMethod ({ cls := "AnimationController$TransitionText", name := "<init>", desc := "(LAnimationController$Model;)V" } : MethodName)) ∈ gW := gW_n 205 (by decide +kernel) rfl
theorem kw_206 : (Cond.code ({ cls := "AnimationController$TransitionText", name := "<init>", desc := "(LAnimationController$Model;)V" } : MethodName) prog_12_method_1_code (2 : Nat) (Option.none : Option FieldType)) ∈ gW := gW_n 206 (by decide +kernel) rfl
theorem kw_207 : (Cond.methodLink "AnimationController$TransitionText" (3 : Nat) ({ cls := "java/lang/Object", name := "<init>", desc := "()V" } : MethodName)) ∈ gW := gW_n 207 (by decide +kernel) rfl
theorem kw_208 : (Cond.classLink "AnimationController$TransitionText" (19 : Nat) "AnimationController$Transition") ∈ gW := gW_n 208 (by decide +kernel) rfl
theorem kw_209 : (Cond.instantiable "AnimationController$Transition" (12 : Nat)) ∈ gW := gW_n 209 (by decide +kernel) rfl
theorem kw_21 : (Cond.initialized "java/util/Objects") ∈ gW := gW_n 21 (by decide +kernel) rfl
theorem kw_210 : (Cond.methodLink "AnimationController$TransitionText" (27 : Nat) ({ cls := "AnimationController$Transition", name := "<init>", desc := "(ILAnimationController$State;)V" } : MethodName)) ∈ gW := gW_n 210 (by decide +kernel) rfl
theorem kw_211 : (Cond.instanceMethod ({ cls := "AnimationController$Transition", name := "<init>", desc := "(ILAnimationController$State;)V" } : MethodName)) ∈ gW := gW_n 211 (by decide +kernel) rfl
theorem kw_212 : (Cond.code ({ cls := "AnimationController$Transition", name := "<init>", desc := "(ILAnimationController$State;)V" } : MethodName) prog_11_method_1_code (3 : Nat) (Option.none : Option FieldType)) ∈ gW := gW_n 212 (by decide +kernel) rfl
theorem kw_213 : (Cond.methodLink "AnimationController$Transition" (3 : Nat) ({ cls := "java/lang/Object", name := "<init>", desc := "()V" } : MethodName)) ∈ gW := gW_n 213 (by decide +kernel) rfl
theorem kw_214 : (Cond.fieldLink "AnimationController$Transition" (25 : Nat) "AnimationController$Transition" "number" "I") ∈ gW := gW_n 214 (by decide +kernel) rfl
theorem kw_215 : (Cond.fieldLink "AnimationController$Machine" (197 : Nat) "AnimationController$Transition" "number" "I") ∈ gW := gW_n 215 (by decide +kernel) rfl
theorem kw_216 : (Cond.fieldLink "AnimationController" (210 : Nat) "AnimationController$Transition" "number" "I") ∈ gW := gW_n 216 (by decide +kernel) rfl
theorem kw_217 : (Cond.fieldLink "AnimationController$Transition" (32 : Nat) "AnimationController$Transition" "from" "LAnimationController$State;") ∈ gW := gW_n 217 (by decide +kernel) rfl
theorem kw_218 : (Cond.fieldLink "AnimationController$Machine" (176 : Nat) "AnimationController$Transition" "from" "LAnimationController$State;") ∈ gW := gW_n 218 (by decide +kernel) rfl
theorem kw_219 : (Cond.fieldLink "AnimationController" (217 : Nat) "AnimationController$Transition" "from" "LAnimationController$State;") ∈ gW := gW_n 219 (by decide +kernel) rfl
theorem kw_22 : (Cond.initialized "jdk/internal/util/Preconditions") ∈ gW := gW_n 22 (by decide +kernel) rfl
theorem kw_220 : (Cond.fieldLink "AnimationController$Transition" (28 : Nat) "AnimationController$Transition" "to" "LAnimationController$State;") ∈ gW := gW_n 220 (by decide +kernel) rfl
theorem kw_221 : (Cond.fieldLink "AnimationController$Machine" (228 : Nat) "AnimationController$Transition" "to" "LAnimationController$State;") ∈ gW := gW_n 221 (by decide +kernel) rfl
theorem kw_222 : (Cond.fieldLink "AnimationController$Transition" (35 : Nat) "AnimationController$Transition" "duration" "I") ∈ gW := gW_n 222 (by decide +kernel) rfl
theorem kw_223 : (Cond.fieldLink "AnimationController$Machine" (158 : Nat) "AnimationController$Transition" "duration" "I") ∈ gW := gW_n 223 (by decide +kernel) rfl
theorem kw_224 : (Cond.fieldLink "AnimationController$Transition" (9 : Nat) "AnimationController$Transition" "exit" "I") ∈ gW := gW_n 224 (by decide +kernel) rfl
theorem kw_225 : (Cond.fieldLink "AnimationController$Machine" (200 : Nat) "AnimationController$Transition" "exit" "I") ∈ gW := gW_n 225 (by decide +kernel) rfl
theorem kw_226 : (Cond.fieldLink "AnimationController" (223 : Nat) "AnimationController$Transition" "exit" "I") ∈ gW := gW_n 226 (by decide +kernel) rfl
theorem kw_227 : (Cond.fieldLink "AnimationController$Transition" (38 : Nat) "AnimationController$Transition" "start" "I") ∈ gW := gW_n 227 (by decide +kernel) rfl
theorem kw_228 : (Cond.fieldLink "AnimationController" (226 : Nat) "AnimationController$Transition" "start" "I") ∈ gW := gW_n 228 (by decide +kernel) rfl
theorem kw_229 : (Cond.fieldLink "AnimationController$Machine" (245 : Nat) "AnimationController$Transition" "start" "I") ∈ gW := gW_n 229 (by decide +kernel) rfl
theorem kw_23 : (Cond.initialized "java/lang/Math") ∈ gW := gW_n 23 (by decide +kernel) rfl
theorem kw_230 : (Cond.fieldLink "AnimationController$Transition" (41 : Nat) "AnimationController$Transition" "mode" "I") ∈ gW := gW_n 230 (by decide +kernel) rfl
theorem kw_231 : (Cond.fieldLink "AnimationController$Machine" (166 : Nat) "AnimationController$Transition" "mode" "I") ∈ gW := gW_n 231 (by decide +kernel) rfl
theorem kw_232 : (Cond.fieldLink "AnimationController" (231 : Nat) "AnimationController$Transition" "mode" "I") ∈ gW := gW_n 232 (by decide +kernel) rfl
theorem kw_233 : (Cond.fieldLink "AnimationController$Transition" (44 : Nat) "AnimationController$Transition" "ordered" "Z") ∈ gW := gW_n 233 (by decide +kernel) rfl
theorem kw_234 : (Cond.fieldLink "AnimationController$Machine" (194 : Nat) "AnimationController$Transition" "ordered" "Z") ∈ gW := gW_n 234 (by decide +kernel) rfl
theorem kw_235 : (Cond.fieldLink "AnimationController" (234 : Nat) "AnimationController$Transition" "ordered" "Z") ∈ gW := gW_n 235 (by decide +kernel) rfl
theorem kw_236 : (Cond.fieldLink "AnimationController$Transition" (15 : Nat) "AnimationController$Transition" "parameters" "[I") ∈ gW := gW_n 236 (by decide +kernel) rfl
theorem kw_237 : (Cond.fieldLink "AnimationController$Machine" (212 : Nat) "AnimationController$Transition" "parameters" "[I") ∈ gW := gW_n 237 (by decide +kernel) rfl
theorem kw_238 : (Cond.fieldLink "AnimationController$Transition" (19 : Nat) "AnimationController$Transition" "operators" "[I") ∈ gW := gW_n 238 (by decide +kernel) rfl
theorem kw_239 : (Cond.fieldLink "AnimationController$Transition" (22 : Nat) "AnimationController$Transition" "operands" "[I") ∈ gW := gW_n 239 (by decide +kernel) rfl
theorem kw_24 : (Cond.initialized "java/lang/System") ∈ gW := gW_n 24 (by decide +kernel) rfl
theorem kw_240 : (Cond.fieldLink "AnimationController$Transition" (48 : Nat) "AnimationController$Transition" "conditions" "I") ∈ gW := gW_n 240 (by decide +kernel) rfl
theorem kw_241 : (Cond.fieldLink "AnimationController$Machine" (209 : Nat) "AnimationController$Transition" "conditions" "I") ∈ gW := gW_n 241 (by decide +kernel) rfl
theorem kw_242 : (Cond.fieldLink "AnimationController" (244 : Nat) "AnimationController$Transition" "conditions" "I") ∈ gW := gW_n 242 (by decide +kernel) rfl
theorem kw_25 : (Cond.initialized "java/lang/IndexOutOfBoundsException") ∈ gW := gW_n 25 (by decide +kernel) rfl
theorem kw_26 : (Cond.initialized "jdk/internal/util/ArraysSupport") ∈ gW := gW_n 26 (by decide +kernel) rfl
theorem kw_268 : (Cond.fieldLink "AnimationController$TransitionText" (15 : Nat) "AnimationController$TransitionText" "model" "LAnimationController$Model;") ∈ gW := gW_n 268 (by decide +kernel) rfl
theorem kw_269 : (Cond.fieldLink "AnimationController$TransitionText" (9 : Nat) "AnimationController$TransitionText" "bytes" "[I") ∈ gW := gW_n 269 (by decide +kernel) rfl
theorem kw_27 : (Cond.initialized "java/util/Arrays") ∈ gW := gW_n 27 (by decide +kernel) rfl
theorem kw_270 : (Cond.fieldLink "AnimationController" (260 : Nat) "AnimationController$TransitionText" "length" "I") ∈ gW := gW_n 270 (by decide +kernel) rfl
theorem kw_271 : (Cond.fieldLink "AnimationController$TransitionText" (30 : Nat) "AnimationController$TransitionText" "draft" "LAnimationController$Transition;") ∈ gW := gW_n 271 (by decide +kernel) rfl
theorem kw_283 : (Cond.classLink "AnimationController" (25 : Nat) "AnimationController$Machine") ∈ gW := gW_n 283 (by decide +kernel) rfl
theorem kw_284 : (Cond.instantiable "AnimationController$Machine" (13 : Nat)) ∈ gW := gW_n 284 (by decide +kernel) rfl
theorem kw_285 : (Cond.methodLink "AnimationController" (27 : Nat) ({ cls := "AnimationController$Machine", name := "<init>", desc := "(LAnimationController$Model;)V" } : MethodName)) ∈ gW := gW_n 285 (by decide +kernel) rfl
theorem kw_286 : (Cond.instanceMethod ({ cls := "AnimationController$Machine", name := "<init>", desc := "(LAnimationController$Model;)V" } : MethodName)) ∈ gW := gW_n 286 (by decide +kernel) rfl
theorem kw_287 : (Cond.code ({ cls := "AnimationController$Machine", name := "<init>", desc := "(LAnimationController$Model;)V" } : MethodName) prog_5_method_1_code (2 : Nat) (Option.none : Option FieldType)) ∈ gW := gW_n 287 (by decide +kernel) rfl
theorem kw_288 : (Cond.methodLink "AnimationController$Machine" (3 : Nat) ({ cls := "java/lang/Object", name := "<init>", desc := "()V" } : MethodName)) ∈ gW := gW_n 288 (by decide +kernel) rfl
theorem kw_289 : (Cond.classLink "AnimationController$Machine" (15 : Nat) "AnimationController$Pose") ∈ gW := gW_n 289 (by decide +kernel) rfl
theorem kw_290 : (Cond.instantiable "AnimationController$Pose" (4 : Nat)) ∈ gW := gW_n 290 (by decide +kernel) rfl
theorem kw_292 : (Cond.instanceMethod ({ cls := "AnimationController$Pose", name := "<init>", desc := "()V" } : MethodName)) ∈ gW := gW_n 292 (by decide +kernel) rfl
theorem kw_293 : (Cond.code ({ cls := "AnimationController$Pose", name := "<init>", desc := "()V" } : MethodName) prog_8_method_1_code (1 : Nat) (Option.none : Option FieldType)) ∈ gW := gW_n 293 (by decide +kernel) rfl
theorem kw_294 : (Cond.methodLink "AnimationController$Pose" (3 : Nat) ({ cls := "java/lang/Object", name := "<init>", desc := "()V" } : MethodName)) ∈ gW := gW_n 294 (by decide +kernel) rfl
theorem kw_295 : (Cond.fieldLink "AnimationController$Pose" (9 : Nat) "AnimationController$Pose" "clips" "[I") ∈ gW := gW_n 295 (by decide +kernel) rfl
theorem kw_296 : (Cond.fieldLink "AnimationController" (376 : Nat) "AnimationController$Pose" "clips" "[I") ∈ gW := gW_n 296 (by decide +kernel) rfl
theorem kw_297 : (Cond.fieldLink "AnimationController$Pose" (15 : Nat) "AnimationController$Pose" "times" "[I") ∈ gW := gW_n 297 (by decide +kernel) rfl
theorem kw_298 : (Cond.fieldLink "AnimationController" (383 : Nat) "AnimationController$Pose" "times" "[I") ∈ gW := gW_n 298 (by decide +kernel) rfl
theorem kw_299 : (Cond.fieldLink "AnimationController$Pose" (18 : Nat) "AnimationController$Pose" "weights" "[I") ∈ gW := gW_n 299 (by decide +kernel) rfl
theorem kw_3 : (Cond.initialized "java/util/AbstractCollection") ∈ gW := gW_n 3 (by decide +kernel) rfl
theorem kw_300 : (Cond.fieldLink "AnimationController" (386 : Nat) "AnimationController$Pose" "weights" "[I") ∈ gW := gW_n 300 (by decide +kernel) rfl
theorem kw_301 : (Cond.fieldLink "AnimationController$Pose" (21 : Nat) "AnimationController$Pose" "size" "I") ∈ gW := gW_n 301 (by decide +kernel) rfl
theorem kw_302 : (Cond.fieldLink "AnimationController$Machine" (319 : Nat) "AnimationController$Pose" "size" "I") ∈ gW := gW_n 302 (by decide +kernel) rfl
theorem kw_303 : (Cond.fieldLink "AnimationController" (372 : Nat) "AnimationController$Pose" "size" "I") ∈ gW := gW_n 303 (by decide +kernel) rfl
theorem kw_313 : (Cond.classLink "AnimationController$Machine" (22 : Nat) "AnimationController$EventLog") ∈ gW := gW_n 313 (by decide +kernel) rfl
theorem kw_314 : (Cond.instantiable "AnimationController$EventLog" (2 : Nat)) ∈ gW := gW_n 314 (by decide +kernel) rfl
theorem kw_316 : (Cond.instanceMethod ({ cls := "AnimationController$EventLog", name := "<init>", desc := "()V" } : MethodName)) ∈ gW := gW_n 316 (by decide +kernel) rfl
theorem kw_317 : (Cond.code ({ cls := "AnimationController$EventLog", name := "<init>", desc := "()V" } : MethodName) prog_4_method_1_code (1 : Nat) (Option.none : Option FieldType)) ∈ gW := gW_n 317 (by decide +kernel) rfl
theorem kw_318 : (Cond.methodLink "AnimationController$EventLog" (3 : Nat) ({ cls := "java/lang/Object", name := "<init>", desc := "()V" } : MethodName)) ∈ gW := gW_n 318 (by decide +kernel) rfl
theorem kw_319 : (Cond.classLink "AnimationController$EventLog" (11 : Nat) "[[I") ∈ gW := gW_n 319 (by decide +kernel) rfl
theorem kw_321 : (Cond.fieldLink "AnimationController$EventLog" (13 : Nat) "AnimationController$EventLog" "properties" "[[I") ∈ gW := gW_n 321 (by decide +kernel) rfl
theorem kw_322 : (Cond.fieldLink "AnimationController$EventLog" (16 : Nat) "AnimationController$EventLog" "total" "I") ∈ gW := gW_n 322 (by decide +kernel) rfl
theorem kw_323 : (Cond.fieldLink "AnimationController$Machine" (102 : Nat) "AnimationController$EventLog" "total" "I") ∈ gW := gW_n 323 (by decide +kernel) rfl
theorem kw_324 : (Cond.fieldLink "AnimationController" (282 : Nat) "AnimationController$EventLog" "total" "I") ∈ gW := gW_n 324 (by decide +kernel) rfl
theorem kw_330 : (Cond.classLink "AnimationController$Machine" (29 : Nat) "AnimationController$Blend") ∈ gW := gW_n 330 (by decide +kernel) rfl
theorem kw_331 : (Cond.instantiable "AnimationController$Blend" (1 : Nat)) ∈ gW := gW_n 331 (by decide +kernel) rfl
theorem kw_333 : (Cond.instanceMethod ({ cls := "AnimationController$Blend", name := "<init>", desc := "()V" } : MethodName)) ∈ gW := gW_n 333 (by decide +kernel) rfl
theorem kw_334 : (Cond.code ({ cls := "AnimationController$Blend", name := "<init>", desc := "()V" } : MethodName) prog_2_method_1_code (1 : Nat) (Option.none : Option FieldType)) ∈ gW := gW_n 334 (by decide +kernel) rfl
theorem kw_335 : (Cond.methodLink "AnimationController$Blend" (3 : Nat) ({ cls := "java/lang/Object", name := "<init>", desc := "()V" } : MethodName)) ∈ gW := gW_n 335 (by decide +kernel) rfl
theorem kw_336 : (Cond.fieldLink "AnimationController$Blend" (9 : Nat) "AnimationController$Blend" "weights" "[I") ∈ gW := gW_n 336 (by decide +kernel) rfl
theorem kw_340 : (Cond.classLink "AnimationController$Machine" (43 : Nat) "AnimationController$Track") ∈ gW := gW_n 340 (by decide +kernel) rfl
theorem kw_341 : (Cond.instantiable "AnimationController$Track" (6 : Nat)) ∈ gW := gW_n 341 (by decide +kernel) rfl
theorem kw_342 : (Cond.methodLink "AnimationController$Machine" (51 : Nat) ({ cls := "AnimationController$Track", name := "<init>", desc := "(LAnimationController$State;)V" } : MethodName)) ∈ gW := gW_n 342 (by decide +kernel) rfl
theorem kw_343 : (Cond.instanceMethod ({ cls := "AnimationController$Track", name := "<init>", desc := "(LAnimationController$State;)V" } : MethodName)) ∈ gW := gW_n 343 (by decide +kernel) rfl
theorem kw_344 : (Cond.code ({ cls := "AnimationController$Track", name := "<init>", desc := "(LAnimationController$State;)V" } : MethodName) prog_10_method_1_code (2 : Nat) (Option.none : Option FieldType)) ∈ gW := gW_n 344 (by decide +kernel) rfl
theorem kw_345 : (Cond.methodLink "AnimationController$Track" (3 : Nat) ({ cls := "java/lang/Object", name := "<init>", desc := "()V" } : MethodName)) ∈ gW := gW_n 345 (by decide +kernel) rfl
theorem kw_346 : (Cond.fieldLink "AnimationController$Track" (18 : Nat) "AnimationController$Track" "state" "LAnimationController$State;") ∈ gW := gW_n 346 (by decide +kernel) rfl
theorem kw_347 : (Cond.fieldLink "AnimationController$Machine" (187 : Nat) "AnimationController$Track" "state" "LAnimationController$State;") ∈ gW := gW_n 347 (by decide +kernel) rfl
theorem kw_348 : (Cond.fieldLink "AnimationController" (310 : Nat) "AnimationController$Track" "state" "LAnimationController$State;") ∈ gW := gW_n 348 (by decide +kernel) rfl
theorem kw_349 : (Cond.fieldLink "AnimationController$Track" (22 : Nat) "AnimationController$Track" "cycles" "J") ∈ gW := gW_n 349 (by decide +kernel) rfl
theorem kw_350 : (Cond.fieldLink "AnimationController$Track" (26 : Nat) "AnimationController$Track" "phase" "I") ∈ gW := gW_n 350 (by decide +kernel) rfl
theorem kw_351 : (Cond.fieldLink "AnimationController$Machine" (251 : Nat) "AnimationController$Track" "phase" "I") ∈ gW := gW_n 351 (by decide +kernel) rfl
theorem kw_352 : (Cond.fieldLink "AnimationController$Track" (9 : Nat) "AnimationController$Track" "fresh" "Z") ∈ gW := gW_n 352 (by decide +kernel) rfl
theorem kw_353 : (Cond.fieldLink "AnimationController$Track" (30 : Nat) "AnimationController$Track" "before" "J") ∈ gW := gW_n 353 (by decide +kernel) rfl
theorem kw_354 : (Cond.fieldLink "AnimationController$Track" (15 : Nat) "AnimationController$Track" "wasFresh" "Z") ∈ gW := gW_n 354 (by decide +kernel) rfl
theorem kw_368 : (Cond.fieldLink "AnimationController$Machine" (39 : Nat) "AnimationController$Machine" "model" "LAnimationController$Model;") ∈ gW := gW_n 368 (by decide +kernel) rfl
theorem kw_369 : (Cond.fieldLink "AnimationController$Machine" (9 : Nat) "AnimationController$Machine" "values" "[I") ∈ gW := gW_n 369 (by decide +kernel) rfl
theorem kw_370 : (Cond.fieldLink "AnimationController" (347 : Nat) "AnimationController$Machine" "values" "[I") ∈ gW := gW_n 370 (by decide +kernel) rfl
theorem kw_371 : (Cond.fieldLink "AnimationController$Machine" (54 : Nat) "AnimationController$Machine" "source" "LAnimationController$Track;") ∈ gW := gW_n 371 (by decide +kernel) rfl
theorem kw_372 : (Cond.fieldLink "AnimationController" (306 : Nat) "AnimationController$Machine" "source" "LAnimationController$Track;") ∈ gW := gW_n 372 (by decide +kernel) rfl
theorem kw_373 : (Cond.fieldLink "AnimationController$Machine" (58 : Nat) "AnimationController$Machine" "target" "LAnimationController$Track;") ∈ gW := gW_n 373 (by decide +kernel) rfl
theorem kw_374 : (Cond.fieldLink "AnimationController" (319 : Nat) "AnimationController$Machine" "target" "LAnimationController$Track;") ∈ gW := gW_n 374 (by decide +kernel) rfl
theorem kw_375 : (Cond.fieldLink "AnimationController$Machine" (71 : Nat) "AnimationController$Machine" "current" "LAnimationController$Transition;") ∈ gW := gW_n 375 (by decide +kernel) rfl
theorem kw_376 : (Cond.fieldLink "AnimationController" (315 : Nat) "AnimationController$Machine" "current" "LAnimationController$Transition;") ∈ gW := gW_n 376 (by decide +kernel) rfl
theorem kw_377 : (Cond.fieldLink "AnimationController$Machine" (75 : Nat) "AnimationController$Machine" "elapsed" "I") ∈ gW := gW_n 377 (by decide +kernel) rfl
theorem kw_378 : (Cond.fieldLink "AnimationController" (322 : Nat) "AnimationController$Machine" "elapsed" "I") ∈ gW := gW_n 378 (by decide +kernel) rfl
theorem kw_379 : (Cond.fieldLink "AnimationController$Machine" (79 : Nat) "AnimationController$Machine" "frozen" "Z") ∈ gW := gW_n 379 (by decide +kernel) rfl
theorem kw_380 : (Cond.fieldLink "AnimationController" (325 : Nat) "AnimationController$Machine" "frozen" "Z") ∈ gW := gW_n 380 (by decide +kernel) rfl
theorem kw_381 : (Cond.fieldLink "AnimationController$Machine" (18 : Nat) "AnimationController$Machine" "frozenPose" "LAnimationController$Pose;") ∈ gW := gW_n 381 (by decide +kernel) rfl
theorem kw_382 : (Cond.fieldLink "AnimationController$Machine" (86 : Nat) "AnimationController$Machine" "interruptions" "I") ∈ gW := gW_n 382 (by decide +kernel) rfl
theorem kw_383 : (Cond.fieldLink "AnimationController$Machine" (89 : Nat) "AnimationController$Machine" "ticks" "I") ∈ gW := gW_n 383 (by decide +kernel) rfl
theorem kw_384 : (Cond.fieldLink "AnimationController" (290 : Nat) "AnimationController$Machine" "ticks" "I") ∈ gW := gW_n 384 (by decide +kernel) rfl
theorem kw_385 : (Cond.fieldLink "AnimationController$Machine" (25 : Nat) "AnimationController$Machine" "log" "LAnimationController$EventLog;") ∈ gW := gW_n 385 (by decide +kernel) rfl
theorem kw_386 : (Cond.fieldLink "AnimationController" (278 : Nat) "AnimationController$Machine" "log" "LAnimationController$EventLog;") ∈ gW := gW_n 386 (by decide +kernel) rfl
theorem kw_387 : (Cond.fieldLink "AnimationController$Machine" (32 : Nat) "AnimationController$Machine" "blend" "LAnimationController$Blend;") ∈ gW := gW_n 387 (by decide +kernel) rfl
theorem kw_388 : (Cond.fieldLink "AnimationController" (338 : Nat) "AnimationController$Machine" "blend" "LAnimationController$Blend;") ∈ gW := gW_n 388 (by decide +kernel) rfl
theorem kw_389 : (Cond.fieldLink "AnimationController$Machine" (36 : Nat) "AnimationController$Machine" "pose" "LAnimationController$Pose;") ∈ gW := gW_n 389 (by decide +kernel) rfl
theorem kw_390 : (Cond.fieldLink "AnimationController" (440 : Nat) "AnimationController$Machine" "pose" "LAnimationController$Pose;") ∈ gW := gW_n 390 (by decide +kernel) rfl
theorem kw_4 : (Cond.initialized "java/util/AbstractList") ∈ gW := gW_n 4 (by decide +kernel) rfl
theorem kw_40 : (Cond.methodLink "AnimationController" (3 : Nat) ({ cls := "java/lang/Object", name := "<init>", desc := "()V" } : MethodName)) ∈ gW := gW_n 40 (by decide +kernel) rfl
theorem kw_41 : (Cond.instanceMethod ({ cls := "java/lang/Object", name := "<init>", desc := "()V" } : MethodName)) ∈ gW := gW_n 41 (by decide +kernel) rfl
theorem kw_419 : (Cond.fieldLink "AnimationController" (12 : Nat) "AnimationController" "model" "LAnimationController$Model;") ∈ gW := gW_n 419 (by decide +kernel) rfl
theorem kw_42 : (Cond.code ({ cls := "java/lang/Object", name := "<init>", desc := "()V" } : MethodName) object_method_1_code (1 : Nat) (Option.none : Option FieldType)) ∈ gW := gW_n 42 (by decide +kernel) rfl
theorem kw_420 : (Cond.fieldLink "AnimationController" (21 : Nat) "AnimationController" "text" "LAnimationController$TransitionText;") ∈ gW := gW_n 420 (by decide +kernel) rfl
theorem kw_421 : (Cond.fieldLink "AnimationController" (28 : Nat) "AnimationController" "machine" "LAnimationController$Machine;") ∈ gW := gW_n 421 (by decide +kernel) rfl
theorem kw_422 : (Cond.fieldLink "AnimationController" (32 : Nat) "AnimationController" "foretold" "LAnimationController$Machine;") ∈ gW := gW_n 422 (by decide +kernel) rfl
theorem kw_423 : (Cond.fieldLink "AnimationController" (35 : Nat) "AnimationController" "images" "[LAnimationController$Machine;") ∈ gW := gW_n 423 (by decide +kernel) rfl
theorem kw_424 : (Cond.fieldLink "AnimationController" (39 : Nat) "AnimationController" "isKept" "[Z") ∈ gW := gW_n 424 (by decide +kernel) rfl
theorem kw_425 : (Cond.fieldLink "AnimationController" (43 : Nat) "AnimationController" "distances" "[I") ∈ gW := gW_n 425 (by decide +kernel) rfl
theorem kw_43 : (Cond.classLink "AnimationController" (9 : Nat) "AnimationController$Model") ∈ gW := gW_n 43 (by decide +kernel) rfl
theorem kw_44 : (Cond.instantiable "AnimationController$Model" (8 : Nat)) ∈ gW := gW_n 44 (by decide +kernel) rfl
theorem kw_441 : (Cond.arrayClass FieldType.boolean) ∈ gW := gW_n 441 (by decide +kernel) rfl
theorem kw_446 : (Cond.methodLink "AnimationController" (66 : Nat) ({ cls := "AnimationController", name := "requireParameter", desc := "(I)V" } : MethodName)) ∈ gW := gW_n 446 (by decide +kernel) rfl
theorem kw_448 : (Cond.instanceMethod ({ cls := "AnimationController", name := "requireParameter", desc := "(I)V" } : MethodName)) ∈ gW := gW_n 448 (by decide +kernel) rfl
theorem kw_449 : (Cond.code ({ cls := "AnimationController", name := "requireParameter", desc := "(I)V" } : MethodName) prog_1_method_43_code (2 : Nat) (Option.none : Option FieldType)) ∈ gW := gW_n 449 (by decide +kernel) rfl
theorem kw_450 : (Cond.methodLink "AnimationController" (419 : Nat) ({ cls := "AnimationController$Model", name := "hasParameter", desc := "(I)Z" } : MethodName)) ∈ gW := gW_n 450 (by decide +kernel) rfl
theorem kw_451 : (Cond.instanceMethod ({ cls := "AnimationController$Model", name := "hasParameter", desc := "(I)Z" } : MethodName)) ∈ gW := gW_n 451 (by decide +kernel) rfl
theorem kw_452 : (Cond.selects "AnimationController$Model" ({ cls := "AnimationController$Model", name := "hasParameter", desc := "(I)Z" } : MethodName) ({ cls := "AnimationController$Model", name := "hasParameter", desc := "(I)Z" } : MethodName)) ∈ gW := gW_n 452 (by decide +kernel) rfl
theorem kw_453 : (Cond.code ({ cls := "AnimationController$Model", name := "hasParameter", desc := "(I)Z" } : MethodName) prog_6_method_2_code (2 : Nat) (Option.some FieldType.boolean)) ∈ gW := gW_n 453 (by decide +kernel) rfl
theorem kw_454 : (Cond.classLink "AnimationController" (378 : Nat) "java/lang/IndexOutOfBoundsException") ∈ gW := gW_n 454 (by decide +kernel) rfl
theorem kw_46 : (Cond.instanceMethod ({ cls := "AnimationController$Model", name := "<init>", desc := "()V" } : MethodName)) ∈ gW := gW_n 46 (by decide +kernel) rfl
theorem kw_47 : (Cond.code ({ cls := "AnimationController$Model", name := "<init>", desc := "()V" } : MethodName) prog_6_method_1_code (1 : Nat) (Option.none : Option FieldType)) ∈ gW := gW_n 47 (by decide +kernel) rfl
theorem kw_48 : (Cond.methodLink "AnimationController$Model" (3 : Nat) ({ cls := "java/lang/Object", name := "<init>", desc := "()V" } : MethodName)) ∈ gW := gW_n 48 (by decide +kernel) rfl
theorem kw_49 : (Cond.classLink "AnimationController$Model" (15 : Nat) "java/util/ArrayList") ∈ gW := gW_n 49 (by decide +kernel) rfl
theorem kw_5 : (Cond.initialized "java/util/ArrayList") ∈ gW := gW_n 5 (by decide +kernel) rfl
theorem kw_50 : (Cond.instantiable "java/util/ArrayList" (3 : Nat)) ∈ gW := gW_n 50 (by decide +kernel) rfl
theorem kw_51 : (Cond.methodLink "AnimationController$Model" (17 : Nat) ({ cls := "java/util/ArrayList", name := "<init>", desc := "()V" } : MethodName)) ∈ gW := gW_n 51 (by decide +kernel) rfl
theorem kw_52 : (Cond.instanceMethod ({ cls := "java/util/ArrayList", name := "<init>", desc := "()V" } : MethodName)) ∈ gW := gW_n 52 (by decide +kernel) rfl
theorem kw_522 : (Cond.methodLink "AnimationController" (70 : Nat) ({ cls := "AnimationController$Model", name := "isValue", desc := "(II)Z" } : MethodName)) ∈ gW := gW_n 522 (by decide +kernel) rfl
theorem kw_523 : (Cond.instanceMethod ({ cls := "AnimationController$Model", name := "isValue", desc := "(II)Z" } : MethodName)) ∈ gW := gW_n 523 (by decide +kernel) rfl
theorem kw_524 : (Cond.selects "AnimationController$Model" ({ cls := "AnimationController$Model", name := "isValue", desc := "(II)Z" } : MethodName) ({ cls := "AnimationController$Model", name := "isValue", desc := "(II)Z" } : MethodName)) ∈ gW := gW_n 524 (by decide +kernel) rfl
theorem kw_525 : (Cond.code ({ cls := "AnimationController$Model", name := "isValue", desc := "(II)Z" } : MethodName) prog_6_method_4_code (3 : Nat) (Option.some FieldType.boolean)) ∈ gW := gW_n 525 (by decide +kernel) rfl
theorem kw_526 : (Cond.methodLink "AnimationController$Model" (57 : Nat) ({ cls := "AnimationController$Model", name := "kindOf", desc := "(I)I" } : MethodName)) ∈ gW := gW_n 526 (by decide +kernel) rfl
theorem kw_527 : (Cond.instanceMethod ({ cls := "AnimationController$Model", name := "kindOf", desc := "(I)I" } : MethodName)) ∈ gW := gW_n 527 (by decide +kernel) rfl
theorem kw_528 : (Cond.selects "AnimationController$Model" ({ cls := "AnimationController$Model", name := "kindOf", desc := "(I)I" } : MethodName) ({ cls := "AnimationController$Model", name := "kindOf", desc := "(I)I" } : MethodName)) ∈ gW := gW_n 528 (by decide +kernel) rfl
theorem kw_529 : (Cond.code ({ cls := "AnimationController$Model", name := "kindOf", desc := "(I)I" } : MethodName) prog_6_method_3_code (2 : Nat) (Option.some FieldType.int)) ∈ gW := gW_n 529 (by decide +kernel) rfl
theorem kw_53 : (Cond.code ({ cls := "java/util/ArrayList", name := "<init>", desc := "()V" } : MethodName) prog_40_method_2_code (1 : Nat) (Option.none : Option FieldType)) ∈ gW := gW_n 53 (by decide +kernel) rfl
theorem kw_530 : (Cond.classLink "AnimationController" (47 : Nat) "java/lang/IllegalArgumentException") ∈ gW := gW_n 530 (by decide +kernel) rfl
theorem kw_54 : (Cond.methodLink "java/util/ArrayList" (1 : Nat) ({ cls := "java/util/AbstractList", name := "<init>", desc := "()V" } : MethodName)) ∈ gW := gW_n 54 (by decide +kernel) rfl
theorem kw_546 : (Cond.methodLink "AnimationController" (76 : Nat) ({ cls := "AnimationController$Machine", name := "valueOf", desc := "(I)I" } : MethodName)) ∈ gW := gW_n 546 (by decide +kernel) rfl
theorem kw_547 : (Cond.instanceMethod ({ cls := "AnimationController$Machine", name := "valueOf", desc := "(I)I" } : MethodName)) ∈ gW := gW_n 547 (by decide +kernel) rfl
theorem kw_548 : (Cond.selects "AnimationController$Machine" ({ cls := "AnimationController$Machine", name := "valueOf", desc := "(I)I" } : MethodName) ({ cls := "AnimationController$Machine", name := "valueOf", desc := "(I)I" } : MethodName)) ∈ gW := gW_n 548 (by decide +kernel) rfl
theorem kw_549 : (Cond.code ({ cls := "AnimationController$Machine", name := "valueOf", desc := "(I)I" } : MethodName) prog_5_method_5_code (2 : Nat) (Option.some FieldType.int)) ∈ gW := gW_n 549 (by decide +kernel) rfl
theorem kw_55 : (Cond.instanceMethod ({ cls := "java/util/AbstractList", name := "<init>", desc := "()V" } : MethodName)) ∈ gW := gW_n 55 (by decide +kernel) rfl
theorem kw_550 : (Cond.methodLink "AnimationController" (80 : Nat) ({ cls := "AnimationController$Machine", name := "setValue", desc := "(II)V" } : MethodName)) ∈ gW := gW_n 550 (by decide +kernel) rfl
theorem kw_551 : (Cond.instanceMethod ({ cls := "AnimationController$Machine", name := "setValue", desc := "(II)V" } : MethodName)) ∈ gW := gW_n 551 (by decide +kernel) rfl
theorem kw_552 : (Cond.selects "AnimationController$Machine" ({ cls := "AnimationController$Machine", name := "setValue", desc := "(II)V" } : MethodName) ({ cls := "AnimationController$Machine", name := "setValue", desc := "(II)V" } : MethodName)) ∈ gW := gW_n 552 (by decide +kernel) rfl
theorem kw_553 : (Cond.code ({ cls := "AnimationController$Machine", name := "setValue", desc := "(II)V" } : MethodName) prog_5_method_6_code (3 : Nat) (Option.none : Option FieldType)) ∈ gW := gW_n 553 (by decide +kernel) rfl
theorem kw_56 : (Cond.code ({ cls := "java/util/AbstractList", name := "<init>", desc := "()V" } : MethodName) prog_39_method_1_code (1 : Nat) (Option.none : Option FieldType)) ∈ gW := gW_n 56 (by decide +kernel) rfl
theorem kw_562 : (Cond.methodLink "AnimationController" (293 : Nat) ({ cls := "AnimationController$Machine", name := "forget", desc := "()V" } : MethodName)) ∈ gW := gW_n 562 (by decide +kernel) rfl
theorem kw_563 : (Cond.instanceMethod ({ cls := "AnimationController$Machine", name := "forget", desc := "()V" } : MethodName)) ∈ gW := gW_n 563 (by decide +kernel) rfl
theorem kw_564 : (Cond.selects "AnimationController$Machine" ({ cls := "AnimationController$Machine", name := "forget", desc := "()V" } : MethodName) ({ cls := "AnimationController$Machine", name := "forget", desc := "()V" } : MethodName)) ∈ gW := gW_n 564 (by decide +kernel) rfl
theorem kw_565 : (Cond.code ({ cls := "AnimationController$Machine", name := "forget", desc := "()V" } : MethodName) prog_5_method_4_code (2 : Nat) (Option.none : Option FieldType)) ∈ gW := gW_n 565 (by decide +kernel) rfl
theorem kw_566 : (Cond.methodLink "AnimationController" (296 : Nat) ({ cls := "java/util/ArrayList", name := "isEmpty", desc := "()Z" } : MethodName)) ∈ gW := gW_n 566 (by decide +kernel) rfl
theorem kw_567 : (Cond.instanceMethod ({ cls := "java/util/ArrayList", name := "isEmpty", desc := "()Z" } : MethodName)) ∈ gW := gW_n 567 (by decide +kernel) rfl
theorem kw_568 : (Cond.selects "java/util/ArrayList" ({ cls := "java/util/ArrayList", name := "isEmpty", desc := "()Z" } : MethodName) ({ cls := "java/util/ArrayList", name := "isEmpty", desc := "()Z" } : MethodName)) ∈ gW := gW_n 568 (by decide +kernel) rfl
theorem kw_569 : (Cond.code ({ cls := "java/util/ArrayList", name := "isEmpty", desc := "()Z" } : MethodName) prog_40_method_9_code (1 : Nat) (Option.some FieldType.boolean)) ∈ gW := gW_n 569 (by decide +kernel) rfl
theorem kw_57 : (Cond.methodLink "java/util/AbstractList" (1 : Nat) ({ cls := "java/util/AbstractCollection", name := "<init>", desc := "()V" } : MethodName)) ∈ gW := gW_n 57 (by decide +kernel) rfl
theorem kw_570 : (Cond.methodLink "AnimationController" (302 : Nat) ({ cls := "java/util/ArrayList", name := "get", desc := "(I)Ljava/lang/Object;" } : MethodName)) ∈ gW := gW_n 570 (by decide +kernel) rfl
theorem kw_571 : (Cond.instanceMethod ({ cls := "java/util/ArrayList", name := "get", desc := "(I)Ljava/lang/Object;" } : MethodName)) ∈ gW := gW_n 571 (by decide +kernel) rfl
theorem kw_572 : (Cond.selects "java/util/ArrayList" ({ cls := "java/util/ArrayList", name := "get", desc := "(I)Ljava/lang/Object;" } : MethodName) ({ cls := "java/util/ArrayList", name := "get", desc := "(I)Ljava/lang/Object;" } : MethodName)) ∈ gW := gW_n 572 (by decide +kernel) rfl
theorem kw_573 : (Cond.code ({ cls := "java/util/ArrayList", name := "get", desc := "(I)Ljava/lang/Object;" } : MethodName) prog_40_method_20_code (2 : Nat) (Option.some (FieldType.object "java/lang/Object"))) ∈ gW := gW_n 573 (by decide +kernel) rfl
theorem kw_574 : (Cond.methodLink "java/util/ArrayList" (118 : Nat) ({ cls := "java/util/Objects", name := "checkIndex", desc := "(II)I" } : MethodName)) ∈ gW := gW_n 574 (by decide +kernel) rfl
theorem kw_575 : (Cond.static ({ cls := "java/util/Objects", name := "checkIndex", desc := "(II)I" } : MethodName)) ∈ gW := gW_n 575 (by decide +kernel) rfl
theorem kw_576 : (Cond.code ({ cls := "java/util/Objects", name := "checkIndex", desc := "(II)I" } : MethodName) prog_44_method_17_code (2 : Nat) (Option.some FieldType.int)) ∈ gW := gW_n 576 (by decide +kernel) rfl
theorem kw_577 : (Cond.methodLink "java/util/Objects" (105 : Nat) ({ cls := "jdk/internal/util/Preconditions", name := "checkIndex", desc := "(IILjava/util/function/BiFunction;)I" } : MethodName)) ∈ gW := gW_n 577 (by decide +kernel) rfl
theorem kw_578 : (Cond.static ({ cls := "jdk/internal/util/Preconditions", name := "checkIndex", desc := "(IILjava/util/function/BiFunction;)I" } : MethodName)) ∈ gW := gW_n 578 (by decide +kernel) rfl
theorem kw_579 : (Cond.code ({ cls := "jdk/internal/util/Preconditions", name := "checkIndex", desc := "(IILjava/util/function/BiFunction;)I" } : MethodName) prog_48_method_11_code (3 : Nat) (Option.some FieldType.int)) ∈ gW := gW_n 579 (by decide +kernel) rfl
theorem kw_58 : (Cond.instanceMethod ({ cls := "java/util/AbstractCollection", name := "<init>", desc := "()V" } : MethodName)) ∈ gW := gW_n 58 (by decide +kernel) rfl
theorem kw_580 : (Cond.methodLink "java/util/ArrayList" (123 : Nat) ({ cls := "java/util/ArrayList", name := "elementData", desc := "(I)Ljava/lang/Object;" } : MethodName)) ∈ gW := gW_n 580 (by decide +kernel) rfl
theorem kw_581 : (Cond.instanceMethod ({ cls := "java/util/ArrayList", name := "elementData", desc := "(I)Ljava/lang/Object;" } : MethodName)) ∈ gW := gW_n 581 (by decide +kernel) rfl
theorem kw_582 : (Cond.selects "java/util/ArrayList" ({ cls := "java/util/ArrayList", name := "elementData", desc := "(I)Ljava/lang/Object;" } : MethodName) ({ cls := "java/util/ArrayList", name := "elementData", desc := "(I)Ljava/lang/Object;" } : MethodName)) ∈ gW := gW_n 582 (by decide +kernel) rfl
theorem kw_583 : (Cond.code ({ cls := "java/util/ArrayList", name := "elementData", desc := "(I)Ljava/lang/Object;" } : MethodName) prog_40_method_18_code (2 : Nat) (Option.some (FieldType.object "java/lang/Object"))) ∈ gW := gW_n 583 (by decide +kernel) rfl
theorem kw_584 : (Cond.classLink "AnimationController" (178 : Nat) "AnimationController$State") ∈ gW := gW_n 584 (by decide +kernel) rfl
theorem kw_585 : (Cond.methodLink "AnimationController" (183 : Nat) ({ cls := "AnimationController$Machine", name := "beginIn", desc := "(LAnimationController$State;)V" } : MethodName)) ∈ gW := gW_n 585 (by decide +kernel) rfl
theorem kw_586 : (Cond.instanceMethod ({ cls := "AnimationController$Machine", name := "beginIn", desc := "(LAnimationController$State;)V" } : MethodName)) ∈ gW := gW_n 586 (by decide +kernel) rfl
theorem kw_587 : (Cond.selects "AnimationController$Machine" ({ cls := "AnimationController$Machine", name := "beginIn", desc := "(LAnimationController$State;)V" } : MethodName) ({ cls := "AnimationController$Machine", name := "beginIn", desc := "(LAnimationController$State;)V" } : MethodName)) ∈ gW := gW_n 587 (by decide +kernel) rfl
theorem kw_588 : (Cond.code ({ cls := "AnimationController$Machine", name := "beginIn", desc := "(LAnimationController$State;)V" } : MethodName) prog_5_method_3_code (2 : Nat) (Option.none : Option FieldType)) ∈ gW := gW_n 588 (by decide +kernel) rfl
theorem kw_589 : (Cond.methodLink "AnimationController$Machine" (95 : Nat) ({ cls := "AnimationController$Track", name := "begin", desc := "(LAnimationController$State;I)V" } : MethodName)) ∈ gW := gW_n 589 (by decide +kernel) rfl
theorem kw_59 : (Cond.code ({ cls := "java/util/AbstractCollection", name := "<init>", desc := "()V" } : MethodName) prog_38_method_1_code (1 : Nat) (Option.none : Option FieldType)) ∈ gW := gW_n 59 (by decide +kernel) rfl
theorem kw_590 : (Cond.instanceMethod ({ cls := "AnimationController$Track", name := "begin", desc := "(LAnimationController$State;I)V" } : MethodName)) ∈ gW := gW_n 590 (by decide +kernel) rfl
theorem kw_591 : (Cond.selects "AnimationController$Track" ({ cls := "AnimationController$Track", name := "begin", desc := "(LAnimationController$State;I)V" } : MethodName) ({ cls := "AnimationController$Track", name := "begin", desc := "(LAnimationController$State;I)V" } : MethodName)) ∈ gW := gW_n 591 (by decide +kernel) rfl
theorem kw_592 : (Cond.code ({ cls := "AnimationController$Track", name := "begin", desc := "(LAnimationController$State;I)V" } : MethodName) prog_10_method_2_code (3 : Nat) (Option.none : Option FieldType)) ∈ gW := gW_n 592 (by decide +kernel) rfl
theorem kw_593 : (Cond.methodLink "AnimationController$Machine" (99 : Nat) ({ cls := "AnimationController$Machine", name := "becomeIdle", desc := "()V" } : MethodName)) ∈ gW := gW_n 593 (by decide +kernel) rfl
theorem kw_595 : (Cond.instanceMethod ({ cls := "AnimationController$Machine", name := "becomeIdle", desc := "()V" } : MethodName)) ∈ gW := gW_n 595 (by decide +kernel) rfl
theorem kw_596 : (Cond.code ({ cls := "AnimationController$Machine", name := "becomeIdle", desc := "()V" } : MethodName) prog_5_method_16_code (1 : Nat) (Option.none : Option FieldType)) ∈ gW := gW_n 596 (by decide +kernel) rfl
theorem kw_597 : (Cond.methodLink "AnimationController$Machine" (67 : Nat) ({ cls := "AnimationController$Track", name := "copyFrom", desc := "(LAnimationController$Track;)V" } : MethodName)) ∈ gW := gW_n 597 (by decide +kernel) rfl
theorem kw_598 : (Cond.instanceMethod ({ cls := "AnimationController$Track", name := "copyFrom", desc := "(LAnimationController$Track;)V" } : MethodName)) ∈ gW := gW_n 598 (by decide +kernel) rfl
theorem kw_599 : (Cond.selects "AnimationController$Track" ({ cls := "AnimationController$Track", name := "copyFrom", desc := "(LAnimationController$Track;)V" } : MethodName) ({ cls := "AnimationController$Track", name := "copyFrom", desc := "(LAnimationController$Track;)V" } : MethodName)) ∈ gW := gW_n 599 (by decide +kernel) rfl
theorem kw_6 : (Cond.initialized "AnimationController$State") ∈ gW := gW_n 6 (by decide +kernel) rfl
theorem kw_60 : (Cond.methodLink "java/util/AbstractCollection" (1 : Nat) ({ cls := "java/lang/Object", name := "<init>", desc := "()V" } : MethodName)) ∈ gW := gW_n 60 (by decide +kernel) rfl
theorem kw_600 : (Cond.code ({ cls := "AnimationController$Track", name := "copyFrom", desc := "(LAnimationController$Track;)V" } : MethodName) prog_10_method_3_code (2 : Nat) (Option.none : Option FieldType)) ∈ gW := gW_n 600 (by decide +kernel) rfl
theorem kw_605 : (Cond.methodLink "AnimationController" (275 : Nat) ({ cls := "AnimationController", name := "requireStates", desc := "()V" } : MethodName)) ∈ gW := gW_n 605 (by decide +kernel) rfl
theorem kw_607 : (Cond.instanceMethod ({ cls := "AnimationController", name := "requireStates", desc := "()V" } : MethodName)) ∈ gW := gW_n 607 (by decide +kernel) rfl
theorem kw_608 : (Cond.code ({ cls := "AnimationController", name := "requireStates", desc := "()V" } : MethodName) prog_1_method_45_code (1 : Nat) (Option.none : Option FieldType)) ∈ gW := gW_n 608 (by decide +kernel) rfl
theorem kw_609 : (Cond.classLink "AnimationController" (61 : Nat) "java/lang/IllegalStateException") ∈ gW := gW_n 609 (by decide +kernel) rfl
theorem kw_61 : (Cond.fieldLink "java/util/ArrayList" (39 : Nat) "java/util/ArrayList" "DEFAULTCAPACITY_EMPTY_ELEMENTDATA" "[Ljava/lang/Object;") ∈ gW := gW_n 61 (by decide +kernel) rfl
theorem kw_63 : (Cond.fieldLink "java/util/ArrayList" (9 : Nat) "java/util/ArrayList" "elementData" "[Ljava/lang/Object;") ∈ gW := gW_n 63 (by decide +kernel) rfl
theorem kw_633 : (Cond.methodLink "AnimationController" (328 : Nat) ({ cls := "AnimationController$Track", name := "progressNow", desc := "()J" } : MethodName)) ∈ gW := gW_n 633 (by decide +kernel) rfl
theorem kw_634 : (Cond.instanceMethod ({ cls := "AnimationController$Track", name := "progressNow", desc := "()J" } : MethodName)) ∈ gW := gW_n 634 (by decide +kernel) rfl
theorem kw_635 : (Cond.selects "AnimationController$Track" ({ cls := "AnimationController$Track", name := "progressNow", desc := "()J" } : MethodName) ({ cls := "AnimationController$Track", name := "progressNow", desc := "()J" } : MethodName)) ∈ gW := gW_n 635 (by decide +kernel) rfl
theorem kw_636 : (Cond.code ({ cls := "AnimationController$Track", name := "progressNow", desc := "()J" } : MethodName) prog_10_method_4_code (1 : Nat) (Option.some FieldType.long)) ∈ gW := gW_n 636 (by decide +kernel) rfl
theorem kw_637 : (Cond.constantLong "AnimationController$Track" (33 : Nat) (1000000 : Int64)) ∈ gW := gW_n 637 (by decide +kernel) rfl
theorem kw_64 : (Cond.fieldLink "java/util/ArrayList" (48 : Nat) "java/util/ArrayList" "size" "I") ∈ gW := gW_n 64 (by decide +kernel) rfl
theorem kw_643 : (Cond.methodLink "AnimationController" (368 : Nat) ({ cls := "AnimationController", name := "presentPose", desc := "()LAnimationController$Pose;" } : MethodName)) ∈ gW := gW_n 643 (by decide +kernel) rfl
theorem kw_645 : (Cond.instanceMethod ({ cls := "AnimationController", name := "presentPose", desc := "()LAnimationController$Pose;" } : MethodName)) ∈ gW := gW_n 645 (by decide +kernel) rfl
theorem kw_646 : (Cond.code ({ cls := "AnimationController", name := "presentPose", desc := "()LAnimationController$Pose;" } : MethodName) prog_1_method_52_code (1 : Nat) (Option.some (FieldType.object "AnimationController$Pose"))) ∈ gW := gW_n 646 (by decide +kernel) rfl
theorem kw_647 : (Cond.methodLink "AnimationController" (444 : Nat) ({ cls := "AnimationController$Machine", name := "fillPose", desc := "()V" } : MethodName)) ∈ gW := gW_n 647 (by decide +kernel) rfl
theorem kw_648 : (Cond.instanceMethod ({ cls := "AnimationController$Machine", name := "fillPose", desc := "()V" } : MethodName)) ∈ gW := gW_n 648 (by decide +kernel) rfl
theorem kw_649 : (Cond.selects "AnimationController$Machine" ({ cls := "AnimationController$Machine", name := "fillPose", desc := "()V" } : MethodName) ({ cls := "AnimationController$Machine", name := "fillPose", desc := "()V" } : MethodName)) ∈ gW := gW_n 649 (by decide +kernel) rfl
theorem kw_65 : (Cond.fieldLink "java/util/AbstractList" (7 : Nat) "java/util/AbstractList" "modCount" "I") ∈ gW := gW_n 65 (by decide +kernel) rfl
theorem kw_650 : (Cond.code ({ cls := "AnimationController$Machine", name := "fillPose", desc := "()V" } : MethodName) prog_5_method_26_code (2 : Nat) (Option.none : Option FieldType)) ∈ gW := gW_n 650 (by decide +kernel) rfl
theorem kw_651 : (Cond.constant "AnimationController$Machine" (111 : Nat) (1000000 : Int32)) ∈ gW := gW_n 651 (by decide +kernel) rfl
theorem kw_652 : (Cond.methodLink "AnimationController$Machine" (321 : Nat) ({ cls := "AnimationController$Machine", name := "addTrackPose", desc := "(LAnimationController$Track;I)V" } : MethodName)) ∈ gW := gW_n 652 (by decide +kernel) rfl
theorem kw_654 : (Cond.instanceMethod ({ cls := "AnimationController$Machine", name := "addTrackPose", desc := "(LAnimationController$Track;I)V" } : MethodName)) ∈ gW := gW_n 654 (by decide +kernel) rfl
theorem kw_655 : (Cond.code ({ cls := "AnimationController$Machine", name := "addTrackPose", desc := "(LAnimationController$Track;I)V" } : MethodName) prog_5_method_27_code (6 : Nat) (Option.none : Option FieldType)) ∈ gW := gW_n 655 (by decide +kernel) rfl
theorem kw_656 : (Cond.methodLink "AnimationController$Machine" (112 : Nat) ({ cls := "AnimationController$Blend", name := "fill", desc := "(LAnimationController$Node;I[I)V" } : MethodName)) ∈ gW := gW_n 656 (by decide +kernel) rfl
theorem kw_657 : (Cond.instanceMethod ({ cls := "AnimationController$Blend", name := "fill", desc := "(LAnimationController$Node;I[I)V" } : MethodName)) ∈ gW := gW_n 657 (by decide +kernel) rfl
theorem kw_658 : (Cond.selects "AnimationController$Blend" ({ cls := "AnimationController$Blend", name := "fill", desc := "(LAnimationController$Node;I[I)V" } : MethodName) ({ cls := "AnimationController$Blend", name := "fill", desc := "(LAnimationController$Node;I[I)V" } : MethodName)) ∈ gW := gW_n 658 (by decide +kernel) rfl
theorem kw_659 : (Cond.code ({ cls := "AnimationController$Blend", name := "fill", desc := "(LAnimationController$Node;I[I)V" } : MethodName) prog_2_method_2_code (5 : Nat) (Option.none : Option FieldType)) ∈ gW := gW_n 659 (by decide +kernel) rfl
theorem kw_66 : (Cond.fieldLink "java/util/ArrayList" (63 : Nat) "java/util/ArrayList" "modCount" "I") ∈ gW := gW_n 66 (by decide +kernel) rfl
theorem kw_660 : (Cond.methodLink "AnimationController$Blend" (15 : Nat) ({ cls := "AnimationController$Blend", name := "addParts", desc := "([ILAnimationController$Node;I[II)V" } : MethodName)) ∈ gW := gW_n 660 (by decide +kernel) rfl
theorem kw_661 : (Cond.static ({ cls := "AnimationController$Blend", name := "addParts", desc := "([ILAnimationController$Node;I[II)V" } : MethodName)) ∈ gW := gW_n 661 (by decide +kernel) rfl
theorem kw_662 : (Cond.code ({ cls := "AnimationController$Blend", name := "addParts", desc := "([ILAnimationController$Node;I[II)V" } : MethodName) prog_2_method_4_code (10 : Nat) (Option.none : Option FieldType)) ∈ gW := gW_n 662 (by decide +kernel) rfl
theorem kw_663 : (Cond.methodLink "AnimationController$Blend" (38 : Nat) ({ cls := "java/util/ArrayList", name := "isEmpty", desc := "()Z" } : MethodName)) ∈ gW := gW_n 663 (by decide +kernel) rfl
theorem kw_664 : (Cond.methodLink "AnimationController$Blend" (44 : Nat) ({ cls := "java/util/ArrayList", name := "size", desc := "()I" } : MethodName)) ∈ gW := gW_n 664 (by decide +kernel) rfl
theorem kw_665 : (Cond.instanceMethod ({ cls := "java/util/ArrayList", name := "size", desc := "()I" } : MethodName)) ∈ gW := gW_n 665 (by decide +kernel) rfl
theorem kw_666 : (Cond.selects "java/util/ArrayList" ({ cls := "java/util/ArrayList", name := "size", desc := "()I" } : MethodName) ({ cls := "java/util/ArrayList", name := "size", desc := "()I" } : MethodName)) ∈ gW := gW_n 666 (by decide +kernel) rfl
theorem kw_667 : (Cond.code ({ cls := "java/util/ArrayList", name := "size", desc := "()I" } : MethodName) prog_40_method_8_code (1 : Nat) (Option.some FieldType.int)) ∈ gW := gW_n 667 (by decide +kernel) rfl
theorem kw_668 : (Cond.methodLink "AnimationController$Blend" (48 : Nat) ({ cls := "AnimationController$Node", name := "positionOf", desc := "(I)I" } : MethodName)) ∈ gW := gW_n 668 (by decide +kernel) rfl
theorem kw_669 : (Cond.instanceMethod ({ cls := "AnimationController$Node", name := "positionOf", desc := "(I)I" } : MethodName)) ∈ gW := gW_n 669 (by decide +kernel) rfl
theorem kw_67 : (Cond.sameField "java/util/ArrayList" "java/util/AbstractList" "modCount" "I") ∈ gW := gW_n 67 (by decide +kernel) rfl
theorem kw_670 : (Cond.selects "AnimationController$Node" ({ cls := "AnimationController$Node", name := "positionOf", desc := "(I)I" } : MethodName) ({ cls := "AnimationController$Node", name := "positionOf", desc := "(I)I" } : MethodName)) ∈ gW := gW_n 670 (by decide +kernel) rfl
theorem kw_671 : (Cond.code ({ cls := "AnimationController$Node", name := "positionOf", desc := "(I)I" } : MethodName) prog_7_method_4_code (2 : Nat) (Option.some FieldType.int)) ∈ gW := gW_n 671 (by decide +kernel) rfl
theorem kw_672 : (Cond.methodLink "AnimationController$Blend" (52 : Nat) ({ cls := "java/util/ArrayList", name := "get", desc := "(I)Ljava/lang/Object;" } : MethodName)) ∈ gW := gW_n 672 (by decide +kernel) rfl
theorem kw_673 : (Cond.classLink "AnimationController$Blend" (20 : Nat) "AnimationController$Node") ∈ gW := gW_n 673 (by decide +kernel) rfl
theorem kw_674 : (Cond.methodLink "AnimationController$Machine" (120 : Nat) ({ cls := "java/util/ArrayList", name := "size", desc := "()I" } : MethodName)) ∈ gW := gW_n 674 (by decide +kernel) rfl
theorem kw_675 : (Cond.methodLink "AnimationController$Machine" (130 : Nat) ({ cls := "java/util/ArrayList", name := "get", desc := "(I)Ljava/lang/Object;" } : MethodName)) ∈ gW := gW_n 675 (by decide +kernel) rfl
theorem kw_676 : (Cond.classLink "AnimationController$Machine" (134 : Nat) "AnimationController$Clip") ∈ gW := gW_n 676 (by decide +kernel) rfl
theorem kw_677 : (Cond.constantLong "AnimationController$Machine" (139 : Nat) (1000000 : Int64)) ∈ gW := gW_n 677 (by decide +kernel) rfl
theorem kw_678 : (Cond.methodLink "AnimationController$Machine" (328 : Nat) ({ cls := "java/lang/Math", name := "min", desc := "(JJ)J" } : MethodName)) ∈ gW := gW_n 678 (by decide +kernel) rfl
theorem kw_679 : (Cond.static ({ cls := "java/lang/Math", name := "min", desc := "(JJ)J" } : MethodName)) ∈ gW := gW_n 679 (by decide +kernel) rfl
theorem kw_680 : (Cond.code ({ cls := "java/lang/Math", name := "min", desc := "(JJ)J" } : MethodName) prog_27_method_70_code (4 : Nat) (Option.some FieldType.long)) ∈ gW := gW_n 680 (by decide +kernel) rfl
theorem kw_681 : (Cond.methodLink "AnimationController$Machine" (126 : Nat) ({ cls := "AnimationController$Blend", name := "weightOf", desc := "(I)I" } : MethodName)) ∈ gW := gW_n 681 (by decide +kernel) rfl
theorem kw_682 : (Cond.instanceMethod ({ cls := "AnimationController$Blend", name := "weightOf", desc := "(I)I" } : MethodName)) ∈ gW := gW_n 682 (by decide +kernel) rfl
theorem kw_683 : (Cond.selects "AnimationController$Blend" ({ cls := "AnimationController$Blend", name := "weightOf", desc := "(I)I" } : MethodName) ({ cls := "AnimationController$Blend", name := "weightOf", desc := "(I)I" } : MethodName)) ∈ gW := gW_n 683 (by decide +kernel) rfl
theorem kw_684 : (Cond.code ({ cls := "AnimationController$Blend", name := "weightOf", desc := "(I)I" } : MethodName) prog_2_method_3_code (2 : Nat) (Option.some FieldType.int)) ∈ gW := gW_n 684 (by decide +kernel) rfl
theorem kw_685 : (Cond.methodLink "AnimationController$Machine" (330 : Nat) ({ cls := "AnimationController$Pose", name := "addEntry", desc := "(III)V" } : MethodName)) ∈ gW := gW_n 685 (by decide +kernel) rfl
theorem kw_686 : (Cond.instanceMethod ({ cls := "AnimationController$Pose", name := "addEntry", desc := "(III)V" } : MethodName)) ∈ gW := gW_n 686 (by decide +kernel) rfl
theorem kw_687 : (Cond.selects "AnimationController$Pose" ({ cls := "AnimationController$Pose", name := "addEntry", desc := "(III)V" } : MethodName) ({ cls := "AnimationController$Pose", name := "addEntry", desc := "(III)V" } : MethodName)) ∈ gW := gW_n 687 (by decide +kernel) rfl
theorem kw_688 : (Cond.code ({ cls := "AnimationController$Pose", name := "addEntry", desc := "(III)V" } : MethodName) prog_8_method_3_code (6 : Nat) (Option.none : Option FieldType)) ∈ gW := gW_n 688 (by decide +kernel) rfl
theorem kw_689 : (Cond.methodLink "AnimationController$Pose" (31 : Nat) ({ cls := "AnimationController$Pose", name := "isBefore", desc := "(III)Z" } : MethodName)) ∈ gW := gW_n 689 (by decide +kernel) rfl
theorem kw_691 : (Cond.instanceMethod ({ cls := "AnimationController$Pose", name := "isBefore", desc := "(III)Z" } : MethodName)) ∈ gW := gW_n 691 (by decide +kernel) rfl
theorem kw_692 : (Cond.code ({ cls := "AnimationController$Pose", name := "isBefore", desc := "(III)Z" } : MethodName) prog_8_method_4_code (4 : Nat) (Option.some FieldType.boolean)) ∈ gW := gW_n 692 (by decide +kernel) rfl
theorem kw_693 : (Cond.methodLink "AnimationController$Machine" (284 : Nat) ({ cls := "AnimationController$Machine", name := "targetShare", desc := "()I" } : MethodName)) ∈ gW := gW_n 693 (by decide +kernel) rfl
theorem kw_695 : (Cond.instanceMethod ({ cls := "AnimationController$Machine", name := "targetShare", desc := "()I" } : MethodName)) ∈ gW := gW_n 695 (by decide +kernel) rfl
theorem kw_696 : (Cond.code ({ cls := "AnimationController$Machine", name := "targetShare", desc := "()I" } : MethodName) prog_5_method_17_code (1 : Nat) (Option.some FieldType.int)) ∈ gW := gW_n 696 (by decide +kernel) rfl
theorem kw_697 : (Cond.methodLink "AnimationController$Machine" (324 : Nat) ({ cls := "AnimationController$Pose", name := "addFrozen", desc := "(LAnimationController$Pose;I)V" } : MethodName)) ∈ gW := gW_n 697 (by decide +kernel) rfl
theorem kw_698 : (Cond.instanceMethod ({ cls := "AnimationController$Pose", name := "addFrozen", desc := "(LAnimationController$Pose;I)V" } : MethodName)) ∈ gW := gW_n 698 (by decide +kernel) rfl
theorem kw_699 : (Cond.selects "AnimationController$Pose" ({ cls := "AnimationController$Pose", name := "addFrozen", desc := "(LAnimationController$Pose;I)V" } : MethodName) ({ cls := "AnimationController$Pose", name := "addFrozen", desc := "(LAnimationController$Pose;I)V" } : MethodName)) ∈ gW := gW_n 699 (by decide +kernel) rfl
theorem kw_7 : (Cond.initialized "AnimationController$Node") ∈ gW := gW_n 7 (by decide +kernel) rfl
theorem kw_700 : (Cond.code ({ cls := "AnimationController$Pose", name := "addFrozen", desc := "(LAnimationController$Pose;I)V" } : MethodName) prog_8_method_5_code (8 : Nat) (Option.none : Option FieldType)) ∈ gW := gW_n 700 (by decide +kernel) rfl
theorem kw_701 : (Cond.constantLong "AnimationController$Pose" (35 : Nat) (1000000 : Int64)) ∈ gW := gW_n 701 (by decide +kernel) rfl
theorem kw_702 : (Cond.methodLink "AnimationController$Pose" (37 : Nat) ({ cls := "AnimationController$Pose", name := "addEntry", desc := "(III)V" } : MethodName)) ∈ gW := gW_n 702 (by decide +kernel) rfl
theorem kw_711 : (Cond.methodLink "AnimationController" (272 : Nat) ({ cls := "AnimationController", name := "requireTicks", desc := "(I)V" } : MethodName)) ∈ gW := gW_n 711 (by decide +kernel) rfl
theorem kw_713 : (Cond.instanceMethod ({ cls := "AnimationController", name := "requireTicks", desc := "(I)V" } : MethodName)) ∈ gW := gW_n 713 (by decide +kernel) rfl
theorem kw_714 : (Cond.code ({ cls := "AnimationController", name := "requireTicks", desc := "(I)V" } : MethodName) prog_1_method_46_code (2 : Nat) (Option.none : Option FieldType)) ∈ gW := gW_n 714 (by decide +kernel) rfl
theorem kw_716 : (Cond.methodLink "AnimationController" (400 : Nat) ({ cls := "AnimationController$Machine", name := "copyFrom", desc := "(LAnimationController$Machine;)V" } : MethodName)) ∈ gW := gW_n 716 (by decide +kernel) rfl
theorem kw_717 : (Cond.instanceMethod ({ cls := "AnimationController$Machine", name := "copyFrom", desc := "(LAnimationController$Machine;)V" } : MethodName)) ∈ gW := gW_n 717 (by decide +kernel) rfl
theorem kw_718 : (Cond.selects "AnimationController$Machine" ({ cls := "AnimationController$Machine", name := "copyFrom", desc := "(LAnimationController$Machine;)V" } : MethodName) ({ cls := "AnimationController$Machine", name := "copyFrom", desc := "(LAnimationController$Machine;)V" } : MethodName)) ∈ gW := gW_n 718 (by decide +kernel) rfl
theorem kw_719 : (Cond.code ({ cls := "AnimationController$Machine", name := "copyFrom", desc := "(LAnimationController$Machine;)V" } : MethodName) prog_5_method_2_code (2 : Nat) (Option.none : Option FieldType)) ∈ gW := gW_n 719 (by decide +kernel) rfl
theorem kw_720 : (Cond.methodLink "AnimationController$Machine" (61 : Nat) ({ cls := "java/lang/System", name := "arraycopy", desc := "(Ljava/lang/Object;ILjava/lang/Object;II)V" } : MethodName)) ∈ gW := gW_n 720 (by decide +kernel) rfl
theorem kw_721 : (Cond.static ({ cls := "java/lang/System", name := "arraycopy", desc := "(Ljava/lang/Object;ILjava/lang/Object;II)V" } : MethodName)) ∈ gW := gW_n 721 (by decide +kernel) rfl
theorem kw_722 : (Cond.native ({ cls := "java/lang/System", name := "arraycopy", desc := "(Ljava/lang/Object;ILjava/lang/Object;II)V" } : MethodName)) ∈ gW := gW_n 722 (by decide +kernel) rfl
theorem kw_723 : (Cond.methodLink "AnimationController$Machine" (83 : Nat) ({ cls := "AnimationController$Pose", name := "copyFrom", desc := "(LAnimationController$Pose;)V" } : MethodName)) ∈ gW := gW_n 723 (by decide +kernel) rfl
theorem kw_724 : (Cond.instanceMethod ({ cls := "AnimationController$Pose", name := "copyFrom", desc := "(LAnimationController$Pose;)V" } : MethodName)) ∈ gW := gW_n 724 (by decide +kernel) rfl
theorem kw_725 : (Cond.selects "AnimationController$Pose" ({ cls := "AnimationController$Pose", name := "copyFrom", desc := "(LAnimationController$Pose;)V" } : MethodName) ({ cls := "AnimationController$Pose", name := "copyFrom", desc := "(LAnimationController$Pose;)V" } : MethodName)) ∈ gW := gW_n 725 (by decide +kernel) rfl
theorem kw_726 : (Cond.code ({ cls := "AnimationController$Pose", name := "copyFrom", desc := "(LAnimationController$Pose;)V" } : MethodName) prog_8_method_2_code (2 : Nat) (Option.none : Option FieldType)) ∈ gW := gW_n 726 (by decide +kernel) rfl
theorem kw_727 : (Cond.methodLink "AnimationController$Pose" (25 : Nat) ({ cls := "java/lang/System", name := "arraycopy", desc := "(Ljava/lang/Object;ILjava/lang/Object;II)V" } : MethodName)) ∈ gW := gW_n 727 (by decide +kernel) rfl
theorem kw_728 : (Cond.methodLink "AnimationController$Machine" (92 : Nat) ({ cls := "AnimationController$EventLog", name := "copyFrom", desc := "(LAnimationController$EventLog;)V" } : MethodName)) ∈ gW := gW_n 728 (by decide +kernel) rfl
theorem kw_729 : (Cond.instanceMethod ({ cls := "AnimationController$EventLog", name := "copyFrom", desc := "(LAnimationController$EventLog;)V" } : MethodName)) ∈ gW := gW_n 729 (by decide +kernel) rfl
theorem kw_730 : (Cond.selects "AnimationController$EventLog" ({ cls := "AnimationController$EventLog", name := "copyFrom", desc := "(LAnimationController$EventLog;)V" } : MethodName) ({ cls := "AnimationController$EventLog", name := "copyFrom", desc := "(LAnimationController$EventLog;)V" } : MethodName)) ∈ gW := gW_n 730 (by decide +kernel) rfl
theorem kw_731 : (Cond.code ({ cls := "AnimationController$EventLog", name := "copyFrom", desc := "(LAnimationController$EventLog;)V" } : MethodName) prog_4_method_5_code (3 : Nat) (Option.none : Option FieldType)) ∈ gW := gW_n 731 (by decide +kernel) rfl
theorem kw_732 : (Cond.methodLink "AnimationController$EventLog" (34 : Nat) ({ cls := "java/lang/System", name := "arraycopy", desc := "(Ljava/lang/Object;ILjava/lang/Object;II)V" } : MethodName)) ∈ gW := gW_n 732 (by decide +kernel) rfl
theorem kw_733 : (Cond.methodLink "AnimationController" (287 : Nat) ({ cls := "AnimationController$Machine", name := "runTick", desc := "()V" } : MethodName)) ∈ gW := gW_n 733 (by decide +kernel) rfl
theorem kw_734 : (Cond.instanceMethod ({ cls := "AnimationController$Machine", name := "runTick", desc := "()V" } : MethodName)) ∈ gW := gW_n 734 (by decide +kernel) rfl
theorem kw_735 : (Cond.selects "AnimationController$Machine" ({ cls := "AnimationController$Machine", name := "runTick", desc := "()V" } : MethodName) ({ cls := "AnimationController$Machine", name := "runTick", desc := "()V" } : MethodName)) ∈ gW := gW_n 735 (by decide +kernel) rfl
theorem kw_736 : (Cond.code ({ cls := "AnimationController$Machine", name := "runTick", desc := "()V" } : MethodName) prog_5_method_8_code (3 : Nat) (Option.none : Option FieldType)) ∈ gW := gW_n 736 (by decide +kernel) rfl
theorem kw_737 : (Cond.methodLink "AnimationController$Machine" (147 : Nat) ({ cls := "AnimationController$Machine", name := "firstPossible", desc := "()LAnimationController$Transition;" } : MethodName)) ∈ gW := gW_n 737 (by decide +kernel) rfl
theorem kw_739 : (Cond.instanceMethod ({ cls := "AnimationController$Machine", name := "firstPossible", desc := "()LAnimationController$Transition;" } : MethodName)) ∈ gW := gW_n 739 (by decide +kernel) rfl
theorem kw_740 : (Cond.code ({ cls := "AnimationController$Machine", name := "firstPossible", desc := "()LAnimationController$Transition;" } : MethodName) prog_5_method_9_code (3 : Nat) (Option.some (FieldType.object "AnimationController$Transition"))) ∈ gW := gW_n 740 (by decide +kernel) rfl
theorem kw_741 : (Cond.methodLink "AnimationController$Machine" (169 : Nat) ({ cls := "AnimationController$Machine", name := "firstPossibleOf", desc := "(I)LAnimationController$Transition;" } : MethodName)) ∈ gW := gW_n 741 (by decide +kernel) rfl
theorem kw_743 : (Cond.instanceMethod ({ cls := "AnimationController$Machine", name := "firstPossibleOf", desc := "(I)LAnimationController$Transition;" } : MethodName)) ∈ gW := gW_n 743 (by decide +kernel) rfl
theorem kw_744 : (Cond.code ({ cls := "AnimationController$Machine", name := "firstPossibleOf", desc := "(I)LAnimationController$Transition;" } : MethodName) prog_5_method_10_code (6 : Nat) (Option.some (FieldType.object "AnimationController$Transition"))) ∈ gW := gW_n 744 (by decide +kernel) rfl
theorem kw_745 : (Cond.classLink "AnimationController$Machine" (159 : Nat) "AnimationController$Transition") ∈ gW := gW_n 745 (by decide +kernel) rfl
theorem kw_746 : (Cond.methodLink "AnimationController$Machine" (179 : Nat) ({ cls := "AnimationController$Machine", name := "originOf", desc := "(LAnimationController$Transition;)I" } : MethodName)) ∈ gW := gW_n 746 (by decide +kernel) rfl
theorem kw_747 : (Cond.instanceMethod ({ cls := "AnimationController$Machine", name := "originOf", desc := "(LAnimationController$Transition;)I" } : MethodName)) ∈ gW := gW_n 747 (by decide +kernel) rfl
theorem kw_748 : (Cond.selects "AnimationController$Machine" ({ cls := "AnimationController$Machine", name := "originOf", desc := "(LAnimationController$Transition;)I" } : MethodName) ({ cls := "AnimationController$Machine", name := "originOf", desc := "(LAnimationController$Transition;)I" } : MethodName)) ∈ gW := gW_n 748 (by decide +kernel) rfl
theorem kw_749 : (Cond.code ({ cls := "AnimationController$Machine", name := "originOf", desc := "(LAnimationController$Transition;)I" } : MethodName) prog_5_method_11_code (5 : Nat) (Option.some FieldType.int)) ∈ gW := gW_n 749 (by decide +kernel) rfl
theorem kw_75 : (Cond.arrayClass FieldType.int) ∈ gW := gW_n 75 (by decide +kernel) rfl
theorem kw_750 : (Cond.methodLink "AnimationController$Machine" (190 : Nat) ({ cls := "AnimationController$Transition", name := "isListed", desc := "(LAnimationController$State;LAnimationController$State;)Z" } : MethodName)) ∈ gW := gW_n 750 (by decide +kernel) rfl
theorem kw_751 : (Cond.instanceMethod ({ cls := "AnimationController$Transition", name := "isListed", desc := "(LAnimationController$State;LAnimationController$State;)Z" } : MethodName)) ∈ gW := gW_n 751 (by decide +kernel) rfl
theorem kw_752 : (Cond.selects "AnimationController$Transition" ({ cls := "AnimationController$Transition", name := "isListed", desc := "(LAnimationController$State;LAnimationController$State;)Z" } : MethodName) ({ cls := "AnimationController$Transition", name := "isListed", desc := "(LAnimationController$State;LAnimationController$State;)Z" } : MethodName)) ∈ gW := gW_n 752 (by decide +kernel) rfl
theorem kw_753 : (Cond.code ({ cls := "AnimationController$Transition", name := "isListed", desc := "(LAnimationController$State;LAnimationController$State;)Z" } : MethodName) prog_11_method_5_code (3 : Nat) (Option.some FieldType.boolean)) ∈ gW := gW_n 753 (by decide +kernel) rfl
theorem kw_754 : (Cond.methodLink "AnimationController$Machine" (183 : Nat) ({ cls := "AnimationController$Machine", name := "obstacleFrom", desc := "(ILAnimationController$Transition;)I" } : MethodName)) ∈ gW := gW_n 754 (by decide +kernel) rfl
theorem kw_755 : (Cond.instanceMethod ({ cls := "AnimationController$Machine", name := "obstacleFrom", desc := "(ILAnimationController$Transition;)I" } : MethodName)) ∈ gW := gW_n 755 (by decide +kernel) rfl
theorem kw_756 : (Cond.selects "AnimationController$Machine" ({ cls := "AnimationController$Machine", name := "obstacleFrom", desc := "(ILAnimationController$Transition;)I" } : MethodName) ({ cls := "AnimationController$Machine", name := "obstacleFrom", desc := "(ILAnimationController$Transition;)I" } : MethodName)) ∈ gW := gW_n 756 (by decide +kernel) rfl
theorem kw_757 : (Cond.code ({ cls := "AnimationController$Machine", name := "obstacleFrom", desc := "(ILAnimationController$Transition;)I" } : MethodName) prog_5_method_12_code (5 : Nat) (Option.some FieldType.int)) ∈ gW := gW_n 757 (by decide +kernel) rfl
theorem kw_758 : (Cond.methodLink "AnimationController$Machine" (203 : Nat) ({ cls := "AnimationController$Track", name := "progressNow", desc := "()J" } : MethodName)) ∈ gW := gW_n 758 (by decide +kernel) rfl
theorem kw_759 : (Cond.constantLong "AnimationController$Machine" (207 : Nat) (10000 : Int64)) ∈ gW := gW_n 759 (by decide +kernel) rfl
theorem kw_76 : (Cond.classLink "AnimationController$Model" (35 : Nat) "AnimationController$State") ∈ gW := gW_n 76 (by decide +kernel) rfl
theorem kw_760 : (Cond.methodLink "AnimationController$Machine" (215 : Nat) ({ cls := "AnimationController$Machine", name := "valueOf", desc := "(I)I" } : MethodName)) ∈ gW := gW_n 760 (by decide +kernel) rfl
theorem kw_761 : (Cond.methodLink "AnimationController$Machine" (218 : Nat) ({ cls := "AnimationController$Transition", name := "holds", desc := "(II)Z" } : MethodName)) ∈ gW := gW_n 761 (by decide +kernel) rfl
theorem kw_762 : (Cond.instanceMethod ({ cls := "AnimationController$Transition", name := "holds", desc := "(II)Z" } : MethodName)) ∈ gW := gW_n 762 (by decide +kernel) rfl
theorem kw_763 : (Cond.selects "AnimationController$Transition" ({ cls := "AnimationController$Transition", name := "holds", desc := "(II)Z" } : MethodName) ({ cls := "AnimationController$Transition", name := "holds", desc := "(II)Z" } : MethodName)) ∈ gW := gW_n 763 (by decide +kernel) rfl
theorem kw_764 : (Cond.code ({ cls := "AnimationController$Transition", name := "holds", desc := "(II)Z" } : MethodName) prog_11_method_6_code (4 : Nat) (Option.some FieldType.boolean)) ∈ gW := gW_n 764 (by decide +kernel) rfl
theorem kw_765 : (Cond.methodLink "AnimationController$Machine" (151 : Nat) ({ cls := "AnimationController$Machine", name := "take", desc := "(LAnimationController$Transition;)V" } : MethodName)) ∈ gW := gW_n 765 (by decide +kernel) rfl
theorem kw_767 : (Cond.instanceMethod ({ cls := "AnimationController$Machine", name := "take", desc := "(LAnimationController$Transition;)V" } : MethodName)) ∈ gW := gW_n 767 (by decide +kernel) rfl
theorem kw_768 : (Cond.code ({ cls := "AnimationController$Machine", name := "take", desc := "(LAnimationController$Transition;)V" } : MethodName) prog_5_method_13_code (3 : Nat) (Option.none : Option FieldType)) ∈ gW := gW_n 768 (by decide +kernel) rfl
theorem kw_769 : (Cond.methodLink "AnimationController$Machine" (222 : Nat) ({ cls := "AnimationController$Machine", name := "clearTriggers", desc := "(LAnimationController$Transition;)V" } : MethodName)) ∈ gW := gW_n 769 (by decide +kernel) rfl
theorem kw_77 : (Cond.instantiable "AnimationController$State" (5 : Nat)) ∈ gW := gW_n 77 (by decide +kernel) rfl
theorem kw_771 : (Cond.instanceMethod ({ cls := "AnimationController$Machine", name := "clearTriggers", desc := "(LAnimationController$Transition;)V" } : MethodName)) ∈ gW := gW_n 771 (by decide +kernel) rfl
theorem kw_772 : (Cond.code ({ cls := "AnimationController$Machine", name := "clearTriggers", desc := "(LAnimationController$Transition;)V" } : MethodName) prog_5_method_14_code (3 : Nat) (Option.none : Option FieldType)) ∈ gW := gW_n 772 (by decide +kernel) rfl
theorem kw_773 : (Cond.methodLink "AnimationController$Machine" (234 : Nat) ({ cls := "AnimationController$Model", name := "kindOf", desc := "(I)I" } : MethodName)) ∈ gW := gW_n 773 (by decide +kernel) rfl
theorem kw_774 : (Cond.methodLink "AnimationController$Machine" (237 : Nat) ({ cls := "AnimationController$Machine", name := "setValue", desc := "(II)V" } : MethodName)) ∈ gW := gW_n 774 (by decide +kernel) rfl
theorem kw_775 : (Cond.methodLink "AnimationController$Machine" (225 : Nat) ({ cls := "AnimationController$Machine", name := "fillPose", desc := "()V" } : MethodName)) ∈ gW := gW_n 775 (by decide +kernel) rfl
theorem kw_776 : (Cond.methodLink "AnimationController$Machine" (231 : Nat) ({ cls := "AnimationController$Machine", name := "firstPhase", desc := "(LAnimationController$Transition;)I" } : MethodName)) ∈ gW := gW_n 776 (by decide +kernel) rfl
theorem kw_778 : (Cond.instanceMethod ({ cls := "AnimationController$Machine", name := "firstPhase", desc := "(LAnimationController$Transition;)I" } : MethodName)) ∈ gW := gW_n 778 (by decide +kernel) rfl
theorem kw_779 : (Cond.code ({ cls := "AnimationController$Machine", name := "firstPhase", desc := "(LAnimationController$Transition;)I" } : MethodName) prog_5_method_15_code (2 : Nat) (Option.some FieldType.int)) ∈ gW := gW_n 779 (by decide +kernel) rfl
theorem kw_78 : (Cond.classLink "AnimationController$Model" (37 : Nat) "AnimationController$Node") ∈ gW := gW_n 78 (by decide +kernel) rfl
theorem kw_780 : (Cond.methodLink "AnimationController$Machine" (241 : Nat) ({ cls := "AnimationController$State", name := "isSyncedWith", desc := "(LAnimationController$State;)Z" } : MethodName)) ∈ gW := gW_n 780 (by decide +kernel) rfl
theorem kw_781 : (Cond.instanceMethod ({ cls := "AnimationController$State", name := "isSyncedWith", desc := "(LAnimationController$State;)Z" } : MethodName)) ∈ gW := gW_n 781 (by decide +kernel) rfl
theorem kw_782 : (Cond.selects "AnimationController$State" ({ cls := "AnimationController$State", name := "isSyncedWith", desc := "(LAnimationController$State;)Z" } : MethodName) ({ cls := "AnimationController$State", name := "isSyncedWith", desc := "(LAnimationController$State;)Z" } : MethodName)) ∈ gW := gW_n 782 (by decide +kernel) rfl
theorem kw_783 : (Cond.code ({ cls := "AnimationController$State", name := "isSyncedWith", desc := "(LAnimationController$State;)Z" } : MethodName) prog_9_method_2_code (2 : Nat) (Option.some FieldType.boolean)) ∈ gW := gW_n 783 (by decide +kernel) rfl
theorem kw_784 : (Cond.constant "AnimationController$Machine" (254 : Nat) (999999 : Int32)) ∈ gW := gW_n 784 (by decide +kernel) rfl
theorem kw_785 : (Cond.methodLink "AnimationController$Machine" (255 : Nat) ({ cls := "java/lang/Math", name := "min", desc := "(II)I" } : MethodName)) ∈ gW := gW_n 785 (by decide +kernel) rfl
theorem kw_786 : (Cond.static ({ cls := "java/lang/Math", name := "min", desc := "(II)I" } : MethodName)) ∈ gW := gW_n 786 (by decide +kernel) rfl
theorem kw_787 : (Cond.code ({ cls := "java/lang/Math", name := "min", desc := "(II)I" } : MethodName) prog_27_method_69_code (2 : Nat) (Option.some FieldType.int)) ∈ gW := gW_n 787 (by decide +kernel) rfl
theorem kw_788 : (Cond.methodLink "AnimationController$Machine" (155 : Nat) ({ cls := "AnimationController$Machine", name := "advanceTracks", desc := "()V" } : MethodName)) ∈ gW := gW_n 788 (by decide +kernel) rfl
theorem kw_79 : (Cond.instantiable "AnimationController$Node" (5 : Nat)) ∈ gW := gW_n 79 (by decide +kernel) rfl
theorem kw_790 : (Cond.instanceMethod ({ cls := "AnimationController$Machine", name := "advanceTracks", desc := "()V" } : MethodName)) ∈ gW := gW_n 790 (by decide +kernel) rfl
theorem kw_791 : (Cond.code ({ cls := "AnimationController$Machine", name := "advanceTracks", desc := "()V" } : MethodName) prog_5_method_18_code (3 : Nat) (Option.none : Option FieldType)) ∈ gW := gW_n 791 (by decide +kernel) rfl
theorem kw_792 : (Cond.methodLink "AnimationController$Machine" (259 : Nat) ({ cls := "AnimationController$Machine", name := "stepOf", desc := "(LAnimationController$State;)J" } : MethodName)) ∈ gW := gW_n 792 (by decide +kernel) rfl
theorem kw_794 : (Cond.instanceMethod ({ cls := "AnimationController$Machine", name := "stepOf", desc := "(LAnimationController$State;)J" } : MethodName)) ∈ gW := gW_n 794 (by decide +kernel) rfl
theorem kw_795 : (Cond.code ({ cls := "AnimationController$Machine", name := "stepOf", desc := "(LAnimationController$State;)J" } : MethodName) prog_5_method_19_code (2 : Nat) (Option.some FieldType.long)) ∈ gW := gW_n 795 (by decide +kernel) rfl
theorem kw_796 : (Cond.methodLink "AnimationController$Machine" (273 : Nat) ({ cls := "AnimationController$Machine", name := "lengthOf", desc := "(LAnimationController$State;)I" } : MethodName)) ∈ gW := gW_n 796 (by decide +kernel) rfl
theorem kw_797 : (Cond.instanceMethod ({ cls := "AnimationController$Machine", name := "lengthOf", desc := "(LAnimationController$State;)I" } : MethodName)) ∈ gW := gW_n 797 (by decide +kernel) rfl
theorem kw_798 : (Cond.selects "AnimationController$Machine" ({ cls := "AnimationController$Machine", name := "lengthOf", desc := "(LAnimationController$State;)I" } : MethodName) ({ cls := "AnimationController$Machine", name := "lengthOf", desc := "(LAnimationController$State;)I" } : MethodName)) ∈ gW := gW_n 798 (by decide +kernel) rfl
theorem kw_799 : (Cond.code ({ cls := "AnimationController$Machine", name := "lengthOf", desc := "(LAnimationController$State;)I" } : MethodName) prog_5_method_7_code (5 : Nat) (Option.some FieldType.int)) ∈ gW := gW_n 799 (by decide +kernel) rfl
theorem kw_8 : (Cond.initialized "AnimationController$Clip") ∈ gW := gW_n 8 (by decide +kernel) rfl
theorem kw_80 : (Cond.classLink "AnimationController$Model" (39 : Nat) "AnimationController$Clip") ∈ gW := gW_n 80 (by decide +kernel) rfl
theorem kw_800 : (Cond.methodLink "AnimationController$Machine" (141 : Nat) ({ cls := "java/lang/Math", name := "max", desc := "(JJ)J" } : MethodName)) ∈ gW := gW_n 800 (by decide +kernel) rfl
theorem kw_801 : (Cond.static ({ cls := "java/lang/Math", name := "max", desc := "(JJ)J" } : MethodName)) ∈ gW := gW_n 801 (by decide +kernel) rfl
theorem kw_802 : (Cond.code ({ cls := "java/lang/Math", name := "max", desc := "(JJ)J" } : MethodName) prog_27_method_66_code (4 : Nat) (Option.some FieldType.long)) ∈ gW := gW_n 802 (by decide +kernel) rfl
theorem kw_803 : (Cond.methodLink "AnimationController$Machine" (277 : Nat) ({ cls := "AnimationController$Machine", name := "stepBy", desc := "(JJ)J" } : MethodName)) ∈ gW := gW_n 803 (by decide +kernel) rfl
theorem kw_804 : (Cond.static ({ cls := "AnimationController$Machine", name := "stepBy", desc := "(JJ)J" } : MethodName)) ∈ gW := gW_n 804 (by decide +kernel) rfl
theorem kw_805 : (Cond.code ({ cls := "AnimationController$Machine", name := "stepBy", desc := "(JJ)J" } : MethodName) prog_5_method_22_code (4 : Nat) (Option.some FieldType.long)) ∈ gW := gW_n 805 (by decide +kernel) rfl
theorem kw_806 : (Cond.constantLong "AnimationController$Machine" (287 : Nat) (100 : Int64)) ∈ gW := gW_n 806 (by decide +kernel) rfl
theorem kw_807 : (Cond.methodLink "AnimationController$Machine" (263 : Nat) ({ cls := "AnimationController$Track", name := "advance", desc := "(J)V" } : MethodName)) ∈ gW := gW_n 807 (by decide +kernel) rfl
theorem kw_808 : (Cond.instanceMethod ({ cls := "AnimationController$Track", name := "advance", desc := "(J)V" } : MethodName)) ∈ gW := gW_n 808 (by decide +kernel) rfl
theorem kw_809 : (Cond.selects "AnimationController$Track" ({ cls := "AnimationController$Track", name := "advance", desc := "(J)V" } : MethodName) ({ cls := "AnimationController$Track", name := "advance", desc := "(J)V" } : MethodName)) ∈ gW := gW_n 809 (by decide +kernel) rfl
theorem kw_81 : (Cond.instantiable "AnimationController$Clip" (5 : Nat)) ∈ gW := gW_n 81 (by decide +kernel) rfl
theorem kw_810 : (Cond.code ({ cls := "AnimationController$Track", name := "advance", desc := "(J)V" } : MethodName) prog_10_method_5_code (5 : Nat) (Option.none : Option FieldType)) ∈ gW := gW_n 810 (by decide +kernel) rfl
theorem kw_811 : (Cond.methodLink "AnimationController$Track" (35 : Nat) ({ cls := "AnimationController$Track", name := "progressNow", desc := "()J" } : MethodName)) ∈ gW := gW_n 811 (by decide +kernel) rfl
theorem kw_812 : (Cond.methodLink "AnimationController$Track" (44 : Nat) ({ cls := "java/lang/Math", name := "min", desc := "(JJ)J" } : MethodName)) ∈ gW := gW_n 812 (by decide +kernel) rfl
theorem kw_813 : (Cond.methodLink "AnimationController$Machine" (267 : Nat) ({ cls := "AnimationController$Machine", name := "commonStep", desc := "()J" } : MethodName)) ∈ gW := gW_n 813 (by decide +kernel) rfl
theorem kw_815 : (Cond.instanceMethod ({ cls := "AnimationController$Machine", name := "commonStep", desc := "()J" } : MethodName)) ∈ gW := gW_n 815 (by decide +kernel) rfl
theorem kw_816 : (Cond.code ({ cls := "AnimationController$Machine", name := "commonStep", desc := "()J" } : MethodName) prog_5_method_20_code (5 : Nat) (Option.some FieldType.long)) ∈ gW := gW_n 816 (by decide +kernel) rfl
theorem kw_817 : (Cond.methodLink "AnimationController$Machine" (280 : Nat) ({ cls := "AnimationController$Machine", name := "mixed", desc := "(II)J" } : MethodName)) ∈ gW := gW_n 817 (by decide +kernel) rfl
theorem kw_819 : (Cond.instanceMethod ({ cls := "AnimationController$Machine", name := "mixed", desc := "(II)J" } : MethodName)) ∈ gW := gW_n 819 (by decide +kernel) rfl
theorem kw_82 : (Cond.methodLink "AnimationController$Model" (41 : Nat) ({ cls := "AnimationController$Clip", name := "<init>", desc := "(II)V" } : MethodName)) ∈ gW := gW_n 82 (by decide +kernel) rfl
theorem kw_820 : (Cond.code ({ cls := "AnimationController$Machine", name := "mixed", desc := "(II)J" } : MethodName) prog_5_method_21_code (5 : Nat) (Option.some FieldType.long)) ∈ gW := gW_n 820 (by decide +kernel) rfl
theorem kw_821 : (Cond.methodLink "AnimationController$Machine" (163 : Nat) ({ cls := "AnimationController$Machine", name := "fireEvents", desc := "()V" } : MethodName)) ∈ gW := gW_n 821 (by decide +kernel) rfl
theorem kw_823 : (Cond.instanceMethod ({ cls := "AnimationController$Machine", name := "fireEvents", desc := "()V" } : MethodName)) ∈ gW := gW_n 823 (by decide +kernel) rfl
theorem kw_824 : (Cond.code ({ cls := "AnimationController$Machine", name := "fireEvents", desc := "()V" } : MethodName) prog_5_method_23_code (2 : Nat) (Option.none : Option FieldType)) ∈ gW := gW_n 824 (by decide +kernel) rfl
theorem kw_825 : (Cond.methodLink "AnimationController$Machine" (289 : Nat) ({ cls := "AnimationController$Machine", name := "fireTrack", desc := "(LAnimationController$Track;I)V" } : MethodName)) ∈ gW := gW_n 825 (by decide +kernel) rfl
theorem kw_827 : (Cond.instanceMethod ({ cls := "AnimationController$Machine", name := "fireTrack", desc := "(LAnimationController$Track;I)V" } : MethodName)) ∈ gW := gW_n 827 (by decide +kernel) rfl
theorem kw_828 : (Cond.code ({ cls := "AnimationController$Machine", name := "fireTrack", desc := "(LAnimationController$Track;I)V" } : MethodName) prog_5_method_24_code (6 : Nat) (Option.none : Option FieldType)) ∈ gW := gW_n 828 (by decide +kernel) rfl
theorem kw_829 : (Cond.methodLink "AnimationController$Machine" (296 : Nat) ({ cls := "AnimationController$Machine", name := "fireClip", desc := "(LAnimationController$Track;LAnimationController$Clip;)V" } : MethodName)) ∈ gW := gW_n 829 (by decide +kernel) rfl
theorem kw_83 : (Cond.instanceMethod ({ cls := "AnimationController$Clip", name := "<init>", desc := "(II)V" } : MethodName)) ∈ gW := gW_n 83 (by decide +kernel) rfl
theorem kw_831 : (Cond.instanceMethod ({ cls := "AnimationController$Machine", name := "fireClip", desc := "(LAnimationController$Track;LAnimationController$Clip;)V" } : MethodName)) ∈ gW := gW_n 831 (by decide +kernel) rfl
theorem kw_832 : (Cond.code ({ cls := "AnimationController$Machine", name := "fireClip", desc := "(LAnimationController$Track;LAnimationController$Clip;)V" } : MethodName) prog_5_method_25_code (6 : Nat) (Option.none : Option FieldType)) ∈ gW := gW_n 832 (by decide +kernel) rfl
theorem kw_833 : (Cond.methodLink "AnimationController$Machine" (306 : Nat) ({ cls := "AnimationController$Track", name := "hasReached", desc := "(J)Z" } : MethodName)) ∈ gW := gW_n 833 (by decide +kernel) rfl
theorem kw_834 : (Cond.instanceMethod ({ cls := "AnimationController$Track", name := "hasReached", desc := "(J)Z" } : MethodName)) ∈ gW := gW_n 834 (by decide +kernel) rfl
theorem kw_835 : (Cond.selects "AnimationController$Track" ({ cls := "AnimationController$Track", name := "hasReached", desc := "(J)Z" } : MethodName) ({ cls := "AnimationController$Track", name := "hasReached", desc := "(J)Z" } : MethodName)) ∈ gW := gW_n 835 (by decide +kernel) rfl
theorem kw_836 : (Cond.code ({ cls := "AnimationController$Track", name := "hasReached", desc := "(J)Z" } : MethodName) prog_10_method_6_code (7 : Nat) (Option.some FieldType.boolean)) ∈ gW := gW_n 836 (by decide +kernel) rfl
theorem kw_837 : (Cond.methodLink "AnimationController$Machine" (315 : Nat) ({ cls := "AnimationController$EventLog", name := "append", desc := "(IIII)V" } : MethodName)) ∈ gW := gW_n 837 (by decide +kernel) rfl
theorem kw_838 : (Cond.instanceMethod ({ cls := "AnimationController$EventLog", name := "append", desc := "(IIII)V" } : MethodName)) ∈ gW := gW_n 838 (by decide +kernel) rfl
theorem kw_839 : (Cond.selects "AnimationController$EventLog" ({ cls := "AnimationController$EventLog", name := "append", desc := "(IIII)V" } : MethodName) ({ cls := "AnimationController$EventLog", name := "append", desc := "(IIII)V" } : MethodName)) ∈ gW := gW_n 839 (by decide +kernel) rfl
theorem kw_84 : (Cond.code ({ cls := "AnimationController$Clip", name := "<init>", desc := "(II)V" } : MethodName) prog_3_method_1_code (3 : Nat) (Option.none : Option FieldType)) ∈ gW := gW_n 84 (by decide +kernel) rfl
theorem kw_840 : (Cond.code ({ cls := "AnimationController$EventLog", name := "append", desc := "(IIII)V" } : MethodName) prog_4_method_2_code (6 : Nat) (Option.none : Option FieldType)) ∈ gW := gW_n 840 (by decide +kernel) rfl
theorem kw_841 : (Cond.methodLink "AnimationController$EventLog" (20 : Nat) ({ cls := "AnimationController$EventLog", name := "placeOf", desc := "(I)I" } : MethodName)) ∈ gW := gW_n 841 (by decide +kernel) rfl
theorem kw_842 : (Cond.static ({ cls := "AnimationController$EventLog", name := "placeOf", desc := "(I)I" } : MethodName)) ∈ gW := gW_n 842 (by decide +kernel) rfl
theorem kw_843 : (Cond.code ({ cls := "AnimationController$EventLog", name := "placeOf", desc := "(I)I" } : MethodName) prog_4_method_6_code (1 : Nat) (Option.some FieldType.int)) ∈ gW := gW_n 843 (by decide +kernel) rfl
theorem kw_844 : (Cond.methodLink "AnimationController$EventLog" (40 : Nat) ({ cls := "java/lang/Math", name := "floorMod", desc := "(II)I" } : MethodName)) ∈ gW := gW_n 844 (by decide +kernel) rfl
theorem kw_845 : (Cond.static ({ cls := "java/lang/Math", name := "floorMod", desc := "(II)I" } : MethodName)) ∈ gW := gW_n 845 (by decide +kernel) rfl
theorem kw_846 : (Cond.code ({ cls := "java/lang/Math", name := "floorMod", desc := "(II)I" } : MethodName) prog_27_method_50_code (3 : Nat) (Option.some FieldType.int)) ∈ gW := gW_n 846 (by decide +kernel) rfl
theorem kw_85 : (Cond.methodLink "AnimationController$Clip" (3 : Nat) ({ cls := "java/lang/Object", name := "<init>", desc := "()V" } : MethodName)) ∈ gW := gW_n 85 (by decide +kernel) rfl
theorem kw_851 : (Cond.methodLink "AnimationController" (190 : Nat) ({ cls := "AnimationController", name := "stateAt", desc := "(I)LAnimationController$State;" } : MethodName)) ∈ gW := gW_n 851 (by decide +kernel) rfl
theorem kw_853 : (Cond.instanceMethod ({ cls := "AnimationController", name := "stateAt", desc := "(I)LAnimationController$State;" } : MethodName)) ∈ gW := gW_n 853 (by decide +kernel) rfl
theorem kw_854 : (Cond.code ({ cls := "AnimationController", name := "stateAt", desc := "(I)LAnimationController$State;" } : MethodName) prog_1_method_50_code (2 : Nat) (Option.some (FieldType.object "AnimationController$State"))) ∈ gW := gW_n 854 (by decide +kernel) rfl
theorem kw_855 : (Cond.methodLink "AnimationController" (90 : Nat) ({ cls := "java/util/ArrayList", name := "size", desc := "()I" } : MethodName)) ∈ gW := gW_n 855 (by decide +kernel) rfl
theorem kw_86 : (Cond.fieldLink "AnimationController$Clip" (18 : Nat) "AnimationController$Clip" "number" "I") ∈ gW := gW_n 86 (by decide +kernel) rfl
theorem kw_861 : (Cond.methodLink "AnimationController" (414 : Nat) ({ cls := "AnimationController", name := "requireSlot", desc := "(I)V" } : MethodName)) ∈ gW := gW_n 861 (by decide +kernel) rfl
theorem kw_863 : (Cond.instanceMethod ({ cls := "AnimationController", name := "requireSlot", desc := "(I)V" } : MethodName)) ∈ gW := gW_n 863 (by decide +kernel) rfl
theorem kw_864 : (Cond.code ({ cls := "AnimationController", name := "requireSlot", desc := "(I)V" } : MethodName) prog_1_method_47_code (2 : Nat) (Option.none : Option FieldType)) ∈ gW := gW_n 864 (by decide +kernel) rfl
theorem kw_87 : (Cond.fieldLink "AnimationController$Blend" (25 : Nat) "AnimationController$Clip" "number" "I") ∈ gW := gW_n 87 (by decide +kernel) rfl
theorem kw_875 : (Cond.methodLink "AnimationController" (389 : Nat) ({ cls := "AnimationController$EventLog", name := "kept", desc := "()I" } : MethodName)) ∈ gW := gW_n 875 (by decide +kernel) rfl
theorem kw_876 : (Cond.instanceMethod ({ cls := "AnimationController$EventLog", name := "kept", desc := "()I" } : MethodName)) ∈ gW := gW_n 876 (by decide +kernel) rfl
theorem kw_877 : (Cond.selects "AnimationController$EventLog" ({ cls := "AnimationController$EventLog", name := "kept", desc := "()I" } : MethodName) ({ cls := "AnimationController$EventLog", name := "kept", desc := "()I" } : MethodName)) ∈ gW := gW_n 877 (by decide +kernel) rfl
theorem kw_878 : (Cond.code ({ cls := "AnimationController$EventLog", name := "kept", desc := "()I" } : MethodName) prog_4_method_3_code (1 : Nat) (Option.some FieldType.int)) ∈ gW := gW_n 878 (by decide +kernel) rfl
theorem kw_879 : (Cond.methodLink "AnimationController$EventLog" (24 : Nat) ({ cls := "java/lang/Math", name := "min", desc := "(II)I" } : MethodName)) ∈ gW := gW_n 879 (by decide +kernel) rfl
theorem kw_88 : (Cond.fieldLink "AnimationController$Machine" (313 : Nat) "AnimationController$Clip" "number" "I") ∈ gW := gW_n 88 (by decide +kernel) rfl
theorem kw_89 : (Cond.fieldLink "AnimationController" (356 : Nat) "AnimationController$Clip" "number" "I") ∈ gW := gW_n 89 (by decide +kernel) rfl
theorem kw_9 : (Cond.initialized "AnimationController$TransitionText") ∈ gW := gW_n 9 (by decide +kernel) rfl
theorem kw_90 : (Cond.fieldLink "AnimationController$Clip" (22 : Nat) "AnimationController$Clip" "length" "I") ∈ gW := gW_n 90 (by decide +kernel) rfl
theorem kw_905 : (Cond.methodLink "AnimationController" (139 : Nat) ({ cls := "AnimationController", name := "nodeAt", desc := "(I)LAnimationController$Node;" } : MethodName)) ∈ gW := gW_n 905 (by decide +kernel) rfl
theorem kw_907 : (Cond.instanceMethod ({ cls := "AnimationController", name := "nodeAt", desc := "(I)LAnimationController$Node;" } : MethodName)) ∈ gW := gW_n 907 (by decide +kernel) rfl
theorem kw_908 : (Cond.code ({ cls := "AnimationController", name := "nodeAt", desc := "(I)LAnimationController$Node;" } : MethodName) prog_1_method_49_code (2 : Nat) (Option.some (FieldType.object "AnimationController$Node"))) ∈ gW := gW_n 908 (by decide +kernel) rfl
theorem kw_91 : (Cond.fieldLink "AnimationController" (110 : Nat) "AnimationController$Clip" "length" "I") ∈ gW := gW_n 91 (by decide +kernel) rfl
theorem kw_910 : (Cond.classLink "AnimationController" (129 : Nat) "AnimationController$Node") ∈ gW := gW_n 910 (by decide +kernel) rfl
theorem kw_912 : (Cond.methodLink "AnimationController" (158 : Nat) ({ cls := "AnimationController$Node", name := "isComplete", desc := "()Z" } : MethodName)) ∈ gW := gW_n 912 (by decide +kernel) rfl
theorem kw_913 : (Cond.instanceMethod ({ cls := "AnimationController$Node", name := "isComplete", desc := "()Z" } : MethodName)) ∈ gW := gW_n 913 (by decide +kernel) rfl
theorem kw_914 : (Cond.selects "AnimationController$Node" ({ cls := "AnimationController$Node", name := "isComplete", desc := "()Z" } : MethodName) ({ cls := "AnimationController$Node", name := "isComplete", desc := "()Z" } : MethodName)) ∈ gW := gW_n 914 (by decide +kernel) rfl
theorem kw_915 : (Cond.code ({ cls := "AnimationController$Node", name := "isComplete", desc := "()Z" } : MethodName) prog_7_method_3_code (1 : Nat) (Option.some FieldType.boolean)) ∈ gW := gW_n 915 (by decide +kernel) rfl
theorem kw_916 : (Cond.methodLink "AnimationController$Node" (33 : Nat) ({ cls := "java/util/ArrayList", name := "isEmpty", desc := "()Z" } : MethodName)) ∈ gW := gW_n 916 (by decide +kernel) rfl
theorem kw_918 : (Cond.methodLink "AnimationController" (180 : Nat) ({ cls := "AnimationController$State", name := "<init>", desc := "(ILAnimationController$Node;IZI)V" } : MethodName)) ∈ gW := gW_n 918 (by decide +kernel) rfl
theorem kw_919 : (Cond.methodLink "AnimationController" (102 : Nat) ({ cls := "java/util/ArrayList", name := "add", desc := "(Ljava/lang/Object;)Z" } : MethodName)) ∈ gW := gW_n 919 (by decide +kernel) rfl
theorem kw_92 : (Cond.fieldLink "AnimationController$Machine" (136 : Nat) "AnimationController$Clip" "length" "I") ∈ gW := gW_n 92 (by decide +kernel) rfl
theorem kw_920 : (Cond.instanceMethod ({ cls := "java/util/ArrayList", name := "add", desc := "(Ljava/lang/Object;)Z" } : MethodName)) ∈ gW := gW_n 920 (by decide +kernel) rfl
theorem kw_921 : (Cond.selects "java/util/ArrayList" ({ cls := "java/util/ArrayList", name := "add", desc := "(Ljava/lang/Object;)Z" } : MethodName) ({ cls := "java/util/ArrayList", name := "add", desc := "(Ljava/lang/Object;)Z" } : MethodName)) ∈ gW := gW_n 921 (by decide +kernel) rfl
theorem kw_922 : (Cond.code ({ cls := "java/util/ArrayList", name := "add", desc := "(Ljava/lang/Object;)Z" } : MethodName) prog_40_method_25_code (2 : Nat) (Option.some FieldType.boolean)) ∈ gW := gW_n 922 (by decide +kernel) rfl
theorem kw_923 : (Cond.methodLink "java/util/ArrayList" (131 : Nat) ({ cls := "java/util/ArrayList", name := "add", desc := "(Ljava/lang/Object;[Ljava/lang/Object;I)V" } : MethodName)) ∈ gW := gW_n 923 (by decide +kernel) rfl
theorem kw_925 : (Cond.instanceMethod ({ cls := "java/util/ArrayList", name := "add", desc := "(Ljava/lang/Object;[Ljava/lang/Object;I)V" } : MethodName)) ∈ gW := gW_n 925 (by decide +kernel) rfl
theorem kw_926 : (Cond.code ({ cls := "java/util/ArrayList", name := "add", desc := "(Ljava/lang/Object;[Ljava/lang/Object;I)V" } : MethodName) prog_40_method_24_code (4 : Nat) (Option.none : Option FieldType)) ∈ gW := gW_n 926 (by decide +kernel) rfl
theorem kw_927 : (Cond.methodLink "java/util/ArrayList" (129 : Nat) ({ cls := "java/util/ArrayList", name := "grow", desc := "()[Ljava/lang/Object;" } : MethodName)) ∈ gW := gW_n 927 (by decide +kernel) rfl
theorem kw_929 : (Cond.instanceMethod ({ cls := "java/util/ArrayList", name := "grow", desc := "()[Ljava/lang/Object;" } : MethodName)) ∈ gW := gW_n 929 (by decide +kernel) rfl
theorem kw_93 : (Cond.fieldLink "AnimationController$Clip" (9 : Nat) "AnimationController$Clip" "times" "[I") ∈ gW := gW_n 93 (by decide +kernel) rfl
theorem kw_930 : (Cond.code ({ cls := "java/util/ArrayList", name := "grow", desc := "()[Ljava/lang/Object;" } : MethodName) prog_40_method_7_code (1 : Nat) (Option.some (FieldType.array (FieldType.object "java/lang/Object")))) ∈ gW := gW_n 930 (by decide +kernel) rfl
theorem kw_931 : (Cond.methodLink "java/util/ArrayList" (69 : Nat) ({ cls := "java/util/ArrayList", name := "grow", desc := "(I)[Ljava/lang/Object;" } : MethodName)) ∈ gW := gW_n 931 (by decide +kernel) rfl
theorem kw_933 : (Cond.instanceMethod ({ cls := "java/util/ArrayList", name := "grow", desc := "(I)[Ljava/lang/Object;" } : MethodName)) ∈ gW := gW_n 933 (by decide +kernel) rfl
theorem kw_934 : (Cond.code ({ cls := "java/util/ArrayList", name := "grow", desc := "(I)[Ljava/lang/Object;" } : MethodName) prog_40_method_6_code (4 : Nat) (Option.some (FieldType.array (FieldType.object "java/lang/Object")))) ∈ gW := gW_n 934 (by decide +kernel) rfl
theorem kw_935 : (Cond.methodLink "java/util/ArrayList" (73 : Nat) ({ cls := "jdk/internal/util/ArraysSupport", name := "newLength", desc := "(III)I" } : MethodName)) ∈ gW := gW_n 935 (by decide +kernel) rfl
theorem kw_936 : (Cond.static ({ cls := "jdk/internal/util/ArraysSupport", name := "newLength", desc := "(III)I" } : MethodName)) ∈ gW := gW_n 936 (by decide +kernel) rfl
theorem kw_937 : (Cond.code ({ cls := "jdk/internal/util/ArraysSupport", name := "newLength", desc := "(III)I" } : MethodName) prog_47_method_27_code (4 : Nat) (Option.some FieldType.int)) ∈ gW := gW_n 937 (by decide +kernel) rfl
theorem kw_938 : (Cond.methodLink "jdk/internal/util/ArraysSupport" (194 : Nat) ({ cls := "java/lang/Math", name := "max", desc := "(II)I" } : MethodName)) ∈ gW := gW_n 938 (by decide +kernel) rfl
theorem kw_939 : (Cond.static ({ cls := "java/lang/Math", name := "max", desc := "(II)I" } : MethodName)) ∈ gW := gW_n 939 (by decide +kernel) rfl
theorem kw_94 : (Cond.fieldLink "AnimationController$Machine" (303 : Nat) "AnimationController$Clip" "times" "[I") ∈ gW := gW_n 94 (by decide +kernel) rfl
theorem kw_940 : (Cond.code ({ cls := "java/lang/Math", name := "max", desc := "(II)I" } : MethodName) prog_27_method_65_code (2 : Nat) (Option.some FieldType.int)) ∈ gW := gW_n 940 (by decide +kernel) rfl
theorem kw_941 : (Cond.constant "jdk/internal/util/ArraysSupport" (200 : Nat) (2147483639 : Int32)) ∈ gW := gW_n 941 (by decide +kernel) rfl
theorem kw_945 : (Cond.methodLink "java/util/ArrayList" (66 : Nat) ({ cls := "java/util/Arrays", name := "copyOf", desc := "([Ljava/lang/Object;I)[Ljava/lang/Object;" } : MethodName)) ∈ gW := gW_n 945 (by decide +kernel) rfl
theorem kw_946 : (Cond.static ({ cls := "java/util/Arrays", name := "copyOf", desc := "([Ljava/lang/Object;I)[Ljava/lang/Object;" } : MethodName)) ∈ gW := gW_n 946 (by decide +kernel) rfl
theorem kw_947 : (Cond.code ({ cls := "java/util/Arrays", name := "copyOf", desc := "([Ljava/lang/Object;I)[Ljava/lang/Object;" } : MethodName) prog_41_method_119_code (2 : Nat) (Option.some (FieldType.array (FieldType.object "java/lang/Object")))) ∈ gW := gW_n 947 (by decide +kernel) rfl
theorem kw_948 : (Cond.methodLink "java/util/Arrays" (86 : Nat) ({ cls := "java/lang/Object", name := "getClass", desc := "()Ljava/lang/Class;" } : MethodName)) ∈ gW := gW_n 948 (by decide +kernel) rfl
theorem kw_949 : (Cond.instanceMethod ({ cls := "java/lang/Object", name := "getClass", desc := "()Ljava/lang/Class;" } : MethodName)) ∈ gW := gW_n 949 (by decide +kernel) rfl
theorem kw_95 : (Cond.fieldLink "AnimationController$Clip" (15 : Nat) "AnimationController$Clip" "ids" "[I") ∈ gW := gW_n 95 (by decide +kernel) rfl
theorem kw_96 : (Cond.fieldLink "AnimationController$Machine" (310 : Nat) "AnimationController$Clip" "ids" "[I") ∈ gW := gW_n 96 (by decide +kernel) rfl
theorem kw_969 : (Cond.native ({ cls := "java/lang/Object", name := "getClass", desc := "()Ljava/lang/Class;" } : MethodName)) ∈ gW := gW_n 969 (by decide +kernel) rfl
theorem kw_97 : (Cond.fieldLink "AnimationController$Clip" (25 : Nat) "AnimationController$Clip" "events" "I") ∈ gW := gW_n 97 (by decide +kernel) rfl
theorem kw_970 : (Cond.methodLink "java/util/Arrays" (300 : Nat) ({ cls := "java/util/Arrays", name := "copyOf", desc := "([Ljava/lang/Object;ILjava/lang/Class;)[Ljava/lang/Object;" } : MethodName)) ∈ gW := gW_n 970 (by decide +kernel) rfl
theorem kw_971 : (Cond.static ({ cls := "java/util/Arrays", name := "copyOf", desc := "([Ljava/lang/Object;ILjava/lang/Class;)[Ljava/lang/Object;" } : MethodName)) ∈ gW := gW_n 971 (by decide +kernel) rfl
theorem kw_972 : (Cond.code ({ cls := "java/util/Arrays", name := "copyOf", desc := "([Ljava/lang/Object;ILjava/lang/Class;)[Ljava/lang/Object;" } : MethodName) prog_41_method_120_code (4 : Nat) (Option.some (FieldType.array (FieldType.object "java/lang/Object")))) ∈ gW := gW_n 972 (by decide +kernel) rfl
theorem kw_973 : (Cond.classLink "java/util/Arrays" (110 : Nat) "[Ljava/lang/Object;") ∈ gW := gW_n 973 (by decide +kernel) rfl
theorem kw_975 : (Cond.classLink "java/util/Arrays" (2 : Nat) "java/lang/Object") ∈ gW := gW_n 975 (by decide +kernel) rfl
theorem kw_976 : (Cond.methodLink "java/util/Arrays" (304 : Nat) ({ cls := "java/lang/Math", name := "min", desc := "(II)I" } : MethodName)) ∈ gW := gW_n 976 (by decide +kernel) rfl
theorem kw_977 : (Cond.methodLink "java/util/Arrays" (150 : Nat) ({ cls := "java/lang/System", name := "arraycopy", desc := "(Ljava/lang/Object;ILjava/lang/Object;II)V" } : MethodName)) ∈ gW := gW_n 977 (by decide +kernel) rfl
theorem kw_978 : (Cond.methodLink "java/util/ArrayList" (79 : Nat) ({ cls := "java/lang/Math", name := "max", desc := "(II)I" } : MethodName)) ∈ gW := gW_n 978 (by decide +kernel) rfl
theorem kw_979 : (Cond.classLink "java/util/ArrayList" (7 : Nat) "java/lang/Object") ∈ gW := gW_n 979 (by decide +kernel) rfl
theorem kw_98 : (Cond.fieldLink "AnimationController" (115 : Nat) "AnimationController$Clip" "events" "I") ∈ gW := gW_n 98 (by decide +kernel) rfl
theorem kw_989 : (Cond.classLink "AnimationController" (201 : Nat) "AnimationController$Transition") ∈ gW := gW_n 989 (by decide +kernel) rfl
theorem kw_99 : (Cond.fieldLink "AnimationController$Machine" (300 : Nat) "AnimationController$Clip" "events" "I") ∈ gW := gW_n 99 (by decide +kernel) rfl
theorem kw_990 : (Cond.methodLink "AnimationController" (203 : Nat) ({ cls := "AnimationController$Transition", name := "<init>", desc := "(ILAnimationController$State;)V" } : MethodName)) ∈ gW := gW_n 990 (by decide +kernel) rfl
theorem kw_991 : (Cond.methodLink "AnimationController" (206 : Nat) ({ cls := "AnimationController$Transition", name := "begin", desc := "(LAnimationController$State;LAnimationController$State;I)V" } : MethodName)) ∈ gW := gW_n 991 (by decide +kernel) rfl
theorem kw_992 : (Cond.instanceMethod ({ cls := "AnimationController$Transition", name := "begin", desc := "(LAnimationController$State;LAnimationController$State;I)V" } : MethodName)) ∈ gW := gW_n 992 (by decide +kernel) rfl
theorem kw_993 : (Cond.selects "AnimationController$Transition" ({ cls := "AnimationController$Transition", name := "begin", desc := "(LAnimationController$State;LAnimationController$State;I)V" } : MethodName) ({ cls := "AnimationController$Transition", name := "begin", desc := "(LAnimationController$State;LAnimationController$State;I)V" } : MethodName)) ∈ gW := gW_n 993 (by decide +kernel) rfl
theorem kw_994 : (Cond.code ({ cls := "AnimationController$Transition", name := "begin", desc := "(LAnimationController$State;LAnimationController$State;I)V" } : MethodName) prog_11_method_2_code (4 : Nat) (Option.none : Option FieldType)) ∈ gW := gW_n 994 (by decide +kernel) rfl
theorem inwX0 : ∀ w ∈ u_ws RX0 TX0 1, w ∈ gW := gW_of (by decide +kernel) (by decide +kernel)
theorem inwJx4a65c : ∀ w ∈ u_ws RJx4a65c TJx4a65c 3, w ∈ gW := gW_of (by decide +kernel) (by decide +kernel)
theorem inwX5 : ∀ w ∈ u_ws RX5 TX5 5, w ∈ gW := gW_of (by decide +kernel) (by decide +kernel)
theorem inwX1 : ∀ w ∈ u_ws RX1 TX1 5, w ∈ gW := gW_of (by decide +kernel) (by decide +kernel)
theorem inwX2 : ∀ w ∈ u_ws RX2 TX2 2, w ∈ gW := gW_of (by decide +kernel) (by decide +kernel)
theorem inwX6 : ∀ w ∈ u_ws RX6 TX6 4, w ∈ gW := gW_of (by decide +kernel) (by decide +kernel)
theorem inwX8 : ∀ w ∈ u_ws RX8 TX8 6, w ∈ gW := gW_of (by decide +kernel) (by decide +kernel)
theorem inwX3 : ∀ w ∈ u_ws RX3 TX3 13, w ∈ gW := gW_of (by decide +kernel) (by decide +kernel)
theorem inwX4 : ∀ w ∈ u_ws RX4 TX4 8, w ∈ gW := gW_of (by decide +kernel) (by decide +kernel)
theorem inwX7 : ∀ w ∈ u_ws RX7 TX7 5, w ∈ gW := gW_of (by decide +kernel) (by decide +kernel)
theorem inwX9 : ∀ w ∈ u_ws RX9 TX9 12, w ∈ gW := gW_of (by decide +kernel) (by decide +kernel)
theorem inwX10 : ∀ w ∈ u_ws RX10 TX10 5, w ∈ gW := gW_of (by decide +kernel) (by decide +kernel)
theorem inwX11 : ∀ w ∈ u_ws RX11 TX11 7, w ∈ gW := gW_of (by decide +kernel) (by decide +kernel)
theorem flX0_9 : gFl RX0 9 3 0 (.array .int) true := ⟨RX0, TX0, 1, tyX0, rfl, by decide, kw_336, inwX0, tyX0_ok, nmX0, by decide +kernel, rfl, fun _ => rfl⟩
theorem flJx4a65c_48 : gFl RJx4a65c 48 2 2 .int false := ⟨RJx4a65c, TJx4a65c, 3, tyJx4a65c, rfl, by decide, kw_64, inwJx4a65c, tyJx4a65c_ok, nmJx4a65c, by decide +kernel, rfl, fun z => Bool.noConfusion z⟩
theorem flX5_18 : gFl RX5 18 8 3 (.array .int) true := ⟨RX5, TX5, 5, tyX5, rfl, by decide, kw_124, inwX5, tyX5_ok, nmX5, by decide +kernel, rfl, fun _ => rfl⟩
theorem gY_J3_checkIndex_8e157 : gYn yJ3_checkIndex_8e157 3 := ⟨by decide +kernel, by decide +kernel, by decide +kernel⟩
theorem lkJ15_105 : gLS RJ15 105 yJ3_checkIndex_8e157 cJ3_checkIndex_8e157 3 (some FieldType.int) 3 := ⟨kw_577, kw_578, kw_22, kw_579, gY_J3_checkIndex_8e157⟩
theorem flJx4a65c_9 : gFl RJx4a65c 9 2 1 (.array (.object "java/lang/Object")) false := ⟨RJx4a65c, TJx4a65c, 3, tyJx4a65c, rfl, by decide, kw_63, inwJx4a65c, tyJx4a65c_ok, nmJx4a65c, by decide +kernel, rfl, fun z => Bool.noConfusion z⟩
theorem gY_J15_checkIndex_7cf53 : gYn yJ15_checkIndex_7cf53 2 := ⟨by decide +kernel, by decide +kernel, by decide +kernel⟩
theorem lkJx4a65c_118 : gLS RJx4a65c 118 yJ15_checkIndex_7cf53 cJ15_checkIndex_7cf53 2 (some FieldType.int) 2 := ⟨kw_574, kw_575, kw_21, kw_576, gY_J15_checkIndex_7cf53⟩
theorem gY_Jx4a65c_elementData_915e3 : gYn yJx4a65c_elementData_915e3 1 := ⟨by decide +kernel, by decide +kernel, by decide +kernel⟩
theorem lkJx4a65c_123 : gLV RJx4a65c 123 yJx4a65c_elementData_915e3 cJx4a65c_elementData_915e3 2 (some (FieldType.object "java/lang/Object")) 1 := ⟨kw_580, kw_581, kw_582, kw_5, kw_583, gY_Jx4a65c_elementData_915e3⟩
theorem frX0_34 : gFr RX0 34 8 2 := ⟨RX5, TX5, 5, rfl, by decide, kw_122, inwX5⟩
theorem gY_Jx4a65c_get_915e3 : gYn yJx4a65c_get_915e3 1 := ⟨by decide +kernel, by decide +kernel, by decide +kernel⟩
theorem lkX0_52 : gLV RX0 52 yJx4a65c_get_915e3 cJx4a65c_get_915e3 2 (some (FieldType.object "java/lang/Object")) 1 := ⟨kw_672, kw_571, kw_572, kw_5, kw_573, gY_Jx4a65c_get_915e3⟩
theorem gY_X5_positionOf : gYn yX5_positionOf 1 := ⟨by decide +kernel, by decide +kernel, by decide +kernel⟩
theorem lkX0_48 : gLV RX0 48 yX5_positionOf cX5_positionOf 2 (some FieldType.int) 1 := ⟨kw_668, kw_669, kw_670, kw_7, kw_671, gY_X5_positionOf⟩
theorem gY_Jx4a65c_size_8abf5 : gYn yJx4a65c_size_8abf5 0 := ⟨by decide +kernel, by decide +kernel, by decide +kernel⟩
theorem lkX0_44 : gLV RX0 44 yJx4a65c_size_8abf5 cJx4a65c_size_8abf5 1 (some FieldType.int) 0 := ⟨kw_664, kw_665, kw_666, kw_5, kw_667, gY_Jx4a65c_size_8abf5⟩
theorem frX0_19 : gFr RX0 19 8 0 := ⟨RX5, TX5, 5, rfl, by decide, kw_118, inwX5⟩
theorem frX0_31 : gFr RX0 31 8 1 := ⟨RX5, TX5, 5, rfl, by decide, kw_120, inwX5⟩
theorem gY_Jx4a65c_isEmpty_aae02 : gYn yJx4a65c_isEmpty_aae02 0 := ⟨by decide +kernel, by decide +kernel, by decide +kernel⟩
theorem lkX0_38 : gLV RX0 38 yJx4a65c_isEmpty_aae02 cJx4a65c_isEmpty_aae02 1 (some FieldType.boolean) 0 := ⟨kw_663, kw_567, kw_568, kw_5, kw_569, gY_Jx4a65c_isEmpty_aae02⟩
theorem frX0_25 : gFr RX0 25 4 0 := ⟨RX1, TX1, 5, rfl, by decide, kw_87, inwX1⟩
theorem gY_X0_addParts : gYn yX0_addParts 5 := ⟨by decide +kernel, by decide +kernel, by decide +kernel⟩
theorem lkX0_15 : gLS RX0 15 yX0_addParts cX0_addParts 10 none 5 := ⟨kw_660, kw_661, kw_14, kw_662, gY_X0_addParts⟩
theorem flX1_9 : gFl RX1 9 4 2 (.array .int) true := ⟨RX1, TX1, 5, tyX1, rfl, by decide, kw_93, inwX1, tyX1_ok, nmX1, by decide +kernel, rfl, fun _ => rfl⟩
theorem flX1_15 : gFl RX1 15 4 3 (.array .int) true := ⟨RX1, TX1, 5, tyX1, rfl, by decide, kw_95, inwX1, tyX1_ok, nmX1, by decide +kernel, rfl, fun _ => rfl⟩
theorem flX1_18 : gFl RX1 18 4 0 .int true := ⟨RX1, TX1, 5, tyX1, rfl, by decide, kw_86, inwX1, tyX1_ok, nmX1, by decide +kernel, rfl, fun _ => rfl⟩
theorem flX1_22 : gFl RX1 22 4 1 .int true := ⟨RX1, TX1, 5, tyX1, rfl, by decide, kw_90, inwX1, tyX1_ok, nmX1, by decide +kernel, rfl, fun _ => rfl⟩
theorem flX1_25 : gFl RX1 25 4 4 .int false := ⟨RX1, TX1, 5, tyX1, rfl, by decide, kw_97, inwX1, tyX1_ok, nmX1, by decide +kernel, rfl, fun z => Bool.noConfusion z⟩
theorem flX2_13 : gFl RX2 13 5 0 (.array (.array .int)) true := ⟨RX2, TX2, 2, tyX2, rfl, by decide, kw_321, inwX2, tyX2_ok, nmX2, by decide +kernel, rfl, fun _ => rfl⟩
theorem gY_J9_floorMod_7cf53 : gYn yJ9_floorMod_7cf53 2 := ⟨by decide +kernel, by decide +kernel, by decide +kernel⟩
theorem lkX2_40 : gLS RX2 40 yJ9_floorMod_7cf53 cJ9_floorMod_7cf53 3 (some FieldType.int) 2 := ⟨kw_844, kw_845, kw_23, kw_846, gY_J9_floorMod_7cf53⟩
theorem flX2_16 : gFl RX2 16 5 1 .int false := ⟨RX2, TX2, 2, tyX2, rfl, by decide, kw_322, inwX2, tyX2_ok, nmX2, by decide +kernel, rfl, fun z => Bool.noConfusion z⟩
theorem gY_X2_placeOf : gYn yX2_placeOf 1 := ⟨by decide +kernel, by decide +kernel, by decide +kernel⟩
theorem lkX2_20 : gLS RX2 20 yX2_placeOf cX2_placeOf 1 (some FieldType.int) 1 := ⟨kw_841, kw_842, kw_13, kw_843, gY_X2_placeOf⟩
theorem gY_J9_min_7cf53 : gYn yJ9_min_7cf53 2 := ⟨by decide +kernel, by decide +kernel, by decide +kernel⟩
theorem lkX2_24 : gLS RX2 24 yJ9_min_7cf53 cJ9_min_7cf53 2 (some FieldType.int) 2 := ⟨kw_879, kw_786, kw_23, kw_787, gY_J9_min_7cf53⟩
theorem gY_X2_kept : gYn yX2_kept 0 := ⟨by decide +kernel, by decide +kernel, by decide +kernel⟩
theorem lkX2_30 : gLV RX2 30 yX2_kept cX2_kept 1 (some FieldType.int) 0 := ⟨kw_1429, kw_876, kw_877, kw_13, kw_878, gY_X2_kept⟩
theorem acX2_34 : gAC RX2 34 := ⟨kw_732, kw_722, kw_721, kw_24⟩
theorem flX6_9 : gFl RX6 9 9 0 (.array .int) true := ⟨RX6, TX6, 4, tyX6, rfl, by decide, kw_295, inwX6, tyX6_ok, nmX6, by decide +kernel, rfl, fun _ => rfl⟩
theorem flX6_15 : gFl RX6 15 9 1 (.array .int) true := ⟨RX6, TX6, 4, tyX6, rfl, by decide, kw_297, inwX6, tyX6_ok, nmX6, by decide +kernel, rfl, fun _ => rfl⟩
theorem flX6_18 : gFl RX6 18 9 2 (.array .int) true := ⟨RX6, TX6, 4, tyX6, rfl, by decide, kw_299, inwX6, tyX6_ok, nmX6, by decide +kernel, rfl, fun _ => rfl⟩
theorem flX8_9 : gFl RX8 9 11 3 .boolean false := ⟨RX8, TX8, 6, tyX8, rfl, by decide, kw_352, inwX8, tyX8_ok, nmX8, by decide +kernel, rfl, fun z => Bool.noConfusion z⟩
theorem flX8_15 : gFl RX8 15 11 5 .boolean false := ⟨RX8, TX8, 6, tyX8, rfl, by decide, kw_354, inwX8, tyX8_ok, nmX8, by decide +kernel, rfl, fun z => Bool.noConfusion z⟩
theorem flX8_18 : gFl RX8 18 11 0 (.object "AnimationController$State") false := ⟨RX8, TX8, 6, tyX8, rfl, by decide, kw_346, inwX8, tyX8_ok, nmX8, by decide +kernel, rfl, fun z => Bool.noConfusion z⟩
theorem flX3_9 : gFl RX3 9 6 1 (.array .int) true := ⟨RX3, TX3, 13, tyX3, rfl, by decide, kw_369, inwX3, tyX3_ok, nmX3, by decide +kernel, rfl, fun _ => rfl⟩
theorem nwX3_15 : gNw RX3 15 9 4 [.null, .null, .null, .int 0] := ⟨RX6, TX6, tyX6, rfl, kw_289, kw_290, kw_12, inwX6, tyX6_ok, by decide +kernel⟩
theorem gY_X6_init : gYn yX6_init 0 := ⟨by decide +kernel, by decide +kernel, by decide +kernel⟩
theorem lkX3_17 : gLIN RX3 17 yX6_init "AnimationController" cX6_init 1 0 := ⟨ku_291, kw_292, kw_12, kw_293, rfl, gY_X6_init⟩
theorem flX3_18 : gFl RX3 18 6 7 (.object "AnimationController$Pose") true := ⟨RX3, TX3, 13, tyX3, rfl, by decide, kw_381, inwX3, tyX3_ok, nmX3, by decide +kernel, rfl, fun _ => rfl⟩
theorem nwX3_22 : gNw RX3 22 5 2 [.null, .int 0] := ⟨RX2, TX2, tyX2, rfl, kw_313, kw_314, kw_13, inwX2, tyX2_ok, by decide +kernel⟩
theorem gY_X2_init : gYn yX2_init 0 := ⟨by decide +kernel, by decide +kernel, by decide +kernel⟩
theorem lkX3_24 : gLIN RX3 24 yX2_init "AnimationController" cX2_init 1 0 := ⟨ku_315, kw_316, kw_13, kw_317, rfl, gY_X2_init⟩
theorem flX3_25 : gFl RX3 25 6 10 (.object "AnimationController$EventLog") true := ⟨RX3, TX3, 13, tyX3, rfl, by decide, kw_385, inwX3, tyX3_ok, nmX3, by decide +kernel, rfl, fun _ => rfl⟩
theorem nwX3_29 : gNw RX3 29 3 1 [.null] := ⟨RX0, TX0, tyX0, rfl, kw_330, kw_331, kw_14, inwX0, tyX0_ok, by decide +kernel⟩
theorem gY_X0_init : gYn yX0_init 0 := ⟨by decide +kernel, by decide +kernel, by decide +kernel⟩
theorem lkX3_31 : gLIN RX3 31 yX0_init "AnimationController" cX0_init 1 0 := ⟨ku_332, kw_333, kw_14, kw_334, rfl, gY_X0_init⟩
theorem flX3_32 : gFl RX3 32 6 11 (.object "AnimationController$Blend") true := ⟨RX3, TX3, 13, tyX3, rfl, by decide, kw_387, inwX3, tyX3_ok, nmX3, by decide +kernel, rfl, fun _ => rfl⟩
theorem flX3_36 : gFl RX3 36 6 12 (.object "AnimationController$Pose") true := ⟨RX3, TX3, 13, tyX3, rfl, by decide, kw_389, inwX3, tyX3_ok, nmX3, by decide +kernel, rfl, fun _ => rfl⟩
theorem flX3_39 : gFl RX3 39 6 0 (.object "AnimationController$Model") true := ⟨RX3, TX3, 13, tyX3, rfl, by decide, kw_368, inwX3, tyX3_ok, nmX3, by decide +kernel, rfl, fun _ => rfl⟩
theorem nwX3_43 : gNw RX3 43 11 6 [.null, .long 0, .int 0, .int 0, .long 0, .int 0] := ⟨RX8, TX8, tyX8, rfl, kw_340, kw_341, kw_15, inwX8, tyX8_ok, by decide +kernel⟩
theorem frX3_45 : gFr RX3 45 7 7 := ⟨RX4, TX4, 8, rfl, by decide, kw_182, inwX4⟩
theorem gY_X8_init : gYn yX8_init 1 := ⟨by decide +kernel, by decide +kernel, by decide +kernel⟩
theorem lkX3_51 : gLI RX3 51 yX8_init cX8_init 2 1 := ⟨kw_342, kw_343, kw_15, kw_344, rfl, gY_X8_init⟩
theorem flX3_54 : gFl RX3 54 6 2 (.object "AnimationController$Track") true := ⟨RX3, TX3, 13, tyX3, rfl, by decide, kw_371, inwX3, tyX3_ok, nmX3, by decide +kernel, rfl, fun _ => rfl⟩
theorem flX3_58 : gFl RX3 58 6 3 (.object "AnimationController$Track") true := ⟨RX3, TX3, 13, tyX3, rfl, by decide, kw_373, inwX3, tyX3_ok, nmX3, by decide +kernel, rfl, fun _ => rfl⟩
theorem flX8_22 : gFl RX8 22 11 1 .long false := ⟨RX8, TX8, 6, tyX8, rfl, by decide, kw_349, inwX8, tyX8_ok, nmX8, by decide +kernel, rfl, fun z => Bool.noConfusion z⟩
theorem flX8_26 : gFl RX8 26 11 2 .int false := ⟨RX8, TX8, 6, tyX8, rfl, by decide, kw_350, inwX8, tyX8_ok, nmX8, by decide +kernel, rfl, fun z => Bool.noConfusion z⟩
theorem flX8_30 : gFl RX8 30 11 4 .long false := ⟨RX8, TX8, 6, tyX8, rfl, by decide, kw_353, inwX8, tyX8_ok, nmX8, by decide +kernel, rfl, fun z => Bool.noConfusion z⟩
theorem flX6_21 : gFl RX6 21 9 3 .int false := ⟨RX6, TX6, 4, tyX6, rfl, by decide, kw_301, inwX6, tyX6_ok, nmX6, by decide +kernel, rfl, fun z => Bool.noConfusion z⟩
theorem acX6_25 : gAC RX6 25 := ⟨kw_727, kw_722, kw_721, kw_24⟩
theorem acX3_61 : gAC RX3 61 := ⟨kw_720, kw_722, kw_721, kw_24⟩
theorem gY_X8_copyFrom : gYn yX8_copyFrom 1 := ⟨by decide +kernel, by decide +kernel, by decide +kernel⟩
theorem lkX3_67 : gLV RX3 67 yX8_copyFrom cX8_copyFrom 2 none 1 := ⟨kw_597, kw_598, kw_599, kw_15, kw_600, gY_X8_copyFrom⟩
theorem flX3_71 : gFl RX3 71 6 4 (.object "AnimationController$Transition") false := ⟨RX3, TX3, 13, tyX3, rfl, by decide, kw_375, inwX3, tyX3_ok, nmX3, by decide +kernel, rfl, fun z => Bool.noConfusion z⟩
theorem flX3_75 : gFl RX3 75 6 5 .int false := ⟨RX3, TX3, 13, tyX3, rfl, by decide, kw_377, inwX3, tyX3_ok, nmX3, by decide +kernel, rfl, fun z => Bool.noConfusion z⟩
theorem flX3_79 : gFl RX3 79 6 6 .boolean false := ⟨RX3, TX3, 13, tyX3, rfl, by decide, kw_379, inwX3, tyX3_ok, nmX3, by decide +kernel, rfl, fun z => Bool.noConfusion z⟩
theorem gY_X6_copyFrom : gYn yX6_copyFrom 1 := ⟨by decide +kernel, by decide +kernel, by decide +kernel⟩
theorem lkX3_83 : gLV RX3 83 yX6_copyFrom cX6_copyFrom 2 none 1 := ⟨kw_723, kw_724, kw_725, kw_12, kw_726, gY_X6_copyFrom⟩
theorem flX3_86 : gFl RX3 86 6 8 .int false := ⟨RX3, TX3, 13, tyX3, rfl, by decide, kw_382, inwX3, tyX3_ok, nmX3, by decide +kernel, rfl, fun z => Bool.noConfusion z⟩
theorem flX3_89 : gFl RX3 89 6 9 .int false := ⟨RX3, TX3, 13, tyX3, rfl, by decide, kw_383, inwX3, tyX3_ok, nmX3, by decide +kernel, rfl, fun z => Bool.noConfusion z⟩
theorem gY_X2_copyFrom : gYn yX2_copyFrom 1 := ⟨by decide +kernel, by decide +kernel, by decide +kernel⟩
theorem lkX3_92 : gLV RX3 92 yX2_copyFrom cX2_copyFrom 3 none 1 := ⟨kw_728, kw_729, kw_730, kw_13, kw_731, gY_X2_copyFrom⟩
theorem gY_X8_begin : gYn yX8_begin 2 := ⟨by decide +kernel, by decide +kernel, by decide +kernel⟩
theorem lkX3_95 : gLV RX3 95 yX8_begin cX8_begin 3 none 2 := ⟨kw_589, kw_590, kw_591, kw_15, kw_592, gY_X8_begin⟩
theorem gY_X3_becomeIdle : gYn yX3_becomeIdle 0 := ⟨by decide +kernel, by decide +kernel, by decide +kernel⟩
theorem lkX3_99 : gLV RX3 99 yX3_becomeIdle cX3_becomeIdle 1 none 0 := ⟨kw_593, kw_595, kp_2, kw_11, kw_596, gY_X3_becomeIdle⟩
theorem flX3_102 : gFl RX3 102 5 1 .int false := ⟨RX2, TX2, 2, tyX2, rfl, by decide, kw_323, inwX2, tyX2_ok, nmX2, by decide +kernel, rfl, fun z => Bool.noConfusion z⟩
theorem frX3_116 : gFr RX3 116 7 2 := ⟨RX4, TX4, 8, rfl, by decide, kw_171, inwX4⟩
theorem lkX3_120 : gLV RX3 120 yJx4a65c_size_8abf5 cJx4a65c_size_8abf5 1 (some FieldType.int) 0 := ⟨kw_674, kw_665, kw_666, kw_5, kw_667, gY_Jx4a65c_size_8abf5⟩
theorem gY_J9_max_f86c9 : gYn yJ9_max_f86c9 2 := ⟨by decide +kernel, by decide +kernel, by decide +kernel⟩
theorem lkX3_141 : gLS RX3 141 yJ9_max_f86c9 cJ9_max_f86c9 4 (some FieldType.long) 2 := ⟨kw_800, kw_801, kw_23, kw_802, gY_J9_max_f86c9⟩
theorem gY_X0_weightOf : gYn yX0_weightOf 1 := ⟨by decide +kernel, by decide +kernel, by decide +kernel⟩
theorem lkX3_126 : gLV RX3 126 yX0_weightOf cX0_weightOf 2 (some FieldType.int) 1 := ⟨kw_681, kw_682, kw_683, kw_14, kw_684, gY_X0_weightOf⟩
theorem lkX3_130 : gLV RX3 130 yJx4a65c_get_915e3 cJx4a65c_get_915e3 2 (some (FieldType.object "java/lang/Object")) 1 := ⟨kw_675, kw_571, kw_572, kw_5, kw_573, gY_Jx4a65c_get_915e3⟩
theorem frX3_136 : gFr RX3 136 4 1 := ⟨RX1, TX1, 5, rfl, by decide, kw_92, inwX1⟩
theorem frX3_105 : gFr RX3 105 10 1 := ⟨RX7, TX7, 5, rfl, by decide, kw_146, inwX7⟩
theorem gY_X0_fill : gYn yX0_fill 3 := ⟨by decide +kernel, by decide +kernel, by decide +kernel⟩
theorem lkX3_112 : gLV RX3 112 yX0_fill cX0_fill 5 none 3 := ⟨kw_656, kw_657, kw_658, kw_14, kw_659, gY_X0_fill⟩
theorem flX9_32 : gFl RX9 32 12 1 (.object "AnimationController$State") false := ⟨RX9, TX9, 12, tyX9, rfl, by decide, kw_217, inwX9, tyX9_ok, nmX9, by decide +kernel, rfl, fun z => Bool.noConfusion z⟩
theorem flX9_28 : gFl RX9 28 12 2 (.object "AnimationController$State") false := ⟨RX9, TX9, 12, tyX9, rfl, by decide, kw_220, inwX9, tyX9_ok, nmX9, by decide +kernel, rfl, fun z => Bool.noConfusion z⟩
theorem flX3_187 : gFl RX3 187 11 0 (.object "AnimationController$State") false := ⟨RX8, TX8, 6, tyX8, rfl, by decide, kw_347, inwX8, tyX8_ok, nmX8, by decide +kernel, rfl, fun z => Bool.noConfusion z⟩
theorem gY_X9_isListed : gYn yX9_isListed 2 := ⟨by decide +kernel, by decide +kernel, by decide +kernel⟩
theorem lkX3_190 : gLV RX3 190 yX9_isListed cX9_isListed 3 (some FieldType.boolean) 2 := ⟨kw_750, kw_751, kw_752, kw_10, kw_753, gY_X9_isListed⟩
theorem flX3_166 : gFl RX3 166 12 6 .int false := ⟨RX9, TX9, 12, tyX9, rfl, by decide, kw_231, inwX9, tyX9_ok, nmX9, by decide +kernel, rfl, fun z => Bool.noConfusion z⟩
theorem flX3_194 : gFl RX3 194 12 7 .boolean false := ⟨RX9, TX9, 12, tyX9, rfl, by decide, kw_234, inwX9, tyX9_ok, nmX9, by decide +kernel, rfl, fun z => Bool.noConfusion z⟩
theorem frX3_197 : gFr RX3 197 12 0 := ⟨RX9, TX9, 12, rfl, by decide, kw_215, inwX9⟩
theorem flX9_48 : gFl RX9 48 12 11 .int false := ⟨RX9, TX9, 12, tyX9, rfl, by decide, kw_240, inwX9, tyX9_ok, nmX9, by decide +kernel, rfl, fun z => Bool.noConfusion z⟩
theorem flX9_22 : gFl RX9 22 12 10 (.array .int) true := ⟨RX9, TX9, 12, tyX9, rfl, by decide, kw_239, inwX9, tyX9_ok, nmX9, by decide +kernel, rfl, fun _ => rfl⟩
theorem flX9_19 : gFl RX9 19 12 9 (.array .int) true := ⟨RX9, TX9, 12, tyX9, rfl, by decide, kw_238, inwX9, tyX9_ok, nmX9, by decide +kernel, rfl, fun _ => rfl⟩
theorem flX3_209 : gFl RX3 209 12 11 .int false := ⟨RX9, TX9, 12, tyX9, rfl, by decide, kw_241, inwX9, tyX9_ok, nmX9, by decide +kernel, rfl, fun z => Bool.noConfusion z⟩
theorem frX3_212 : gFr RX3 212 12 8 := ⟨RX9, TX9, 12, rfl, by decide, kw_237, inwX9⟩
theorem gY_X3_valueOf : gYn yX3_valueOf 1 := ⟨by decide +kernel, by decide +kernel, by decide +kernel⟩
theorem lkX3_215 : gLV RX3 215 yX3_valueOf cX3_valueOf 2 (some FieldType.int) 1 := ⟨kw_760, kw_547, kw_548, kw_11, kw_549, gY_X3_valueOf⟩
theorem gY_X9_holds : gYn yX9_holds 2 := ⟨by decide +kernel, by decide +kernel, by decide +kernel⟩
theorem lkX3_218 : gLV RX3 218 yX9_holds cX9_holds 4 (some FieldType.boolean) 2 := ⟨kw_761, kw_762, kw_763, kw_10, kw_764, gY_X9_holds⟩
theorem flX3_200 : gFl RX3 200 12 4 .int false := ⟨RX9, TX9, 12, tyX9, rfl, by decide, kw_225, inwX9, tyX9_ok, nmX9, by decide +kernel, rfl, fun z => Bool.noConfusion z⟩
theorem gY_X8_progressNow : gYn yX8_progressNow 0 := ⟨by decide +kernel, by decide +kernel, by decide +kernel⟩
theorem lkX3_203 : gLV RX3 203 yX8_progressNow cX8_progressNow 1 (some FieldType.long) 0 := ⟨kw_758, kw_634, kw_635, kw_15, kw_636, gY_X8_progressNow⟩
theorem gY_X3_originOf : gYn yX3_originOf 1 := ⟨by decide +kernel, by decide +kernel, by decide +kernel⟩
theorem lkX3_179 : gLV RX3 179 yX3_originOf cX3_originOf 5 (some FieldType.int) 1 := ⟨kw_746, kw_747, kw_748, kw_11, kw_749, gY_X3_originOf⟩
theorem gY_X3_obstacleFrom : gYn yX3_obstacleFrom 2 := ⟨by decide +kernel, by decide +kernel, by decide +kernel⟩
theorem lkX3_183 : gLV RX3 183 yX3_obstacleFrom cX3_obstacleFrom 5 (some FieldType.int) 2 := ⟨kw_754, kw_755, kw_756, kw_11, kw_757, gY_X3_obstacleFrom⟩
theorem frX3_173 : gFr RX3 173 7 5 := ⟨RX4, TX4, 8, rfl, by decide, kw_177, inwX4⟩
theorem flX3_176 : gFl RX3 176 12 1 (.object "AnimationController$State") false := ⟨RX9, TX9, 12, tyX9, rfl, by decide, kw_218, inwX9, tyX9_ok, nmX9, by decide +kernel, rfl, fun z => Bool.noConfusion z⟩
theorem gY_X3_firstPossibleOf : gYn yX3_firstPossibleOf 1 := ⟨by decide +kernel, by decide +kernel, by decide +kernel⟩
theorem lkX3_169 : gLV RX3 169 yX3_firstPossibleOf cX3_firstPossibleOf 6 (some (FieldType.object "AnimationController$Transition")) 1 := ⟨kw_741, kw_743, kp_10, kw_11, kw_744, gY_X3_firstPossibleOf⟩
theorem flX4_54 : gFl RX4 54 7 1 .int false := ⟨RX4, TX4, 8, tyX4, rfl, by decide, kw_167, inwX4, tyX4_ok, nmX4, by decide +kernel, rfl, fun z => Bool.noConfusion z⟩
theorem flX4_9 : gFl RX4 9 7 0 (.array .int) true := ⟨RX4, TX4, 8, tyX4, rfl, by decide, kw_165, inwX4, tyX4_ok, nmX4, by decide +kernel, rfl, fun _ => rfl⟩
theorem gY_X4_kindOf : gYn yX4_kindOf 1 := ⟨by decide +kernel, by decide +kernel, by decide +kernel⟩
theorem lkX3_234 : gLV RX3 234 yX4_kindOf cX4_kindOf 2 (some FieldType.int) 1 := ⟨kw_773, kw_527, kw_528, kw_2, kw_529, gY_X4_kindOf⟩
theorem gY_X3_setValue : gYn yX3_setValue 2 := ⟨by decide +kernel, by decide +kernel, by decide +kernel⟩
theorem lkX3_237 : gLV RX3 237 yX3_setValue cX3_setValue 3 none 2 := ⟨kw_774, kw_551, kw_552, kw_11, kw_553, gY_X3_setValue⟩
theorem gY_X6_isBefore : gYn yX6_isBefore 3 := ⟨by decide +kernel, by decide +kernel, by decide +kernel⟩
theorem lkX6_31 : gLV RX6 31 yX6_isBefore cX6_isBefore 4 (some FieldType.boolean) 3 := ⟨kw_689, kw_691, kp_6, kw_12, kw_692, gY_X6_isBefore⟩
theorem flX3_251 : gFl RX3 251 11 2 .int false := ⟨RX8, TX8, 6, tyX8, rfl, by decide, kw_351, inwX8, tyX8_ok, nmX8, by decide +kernel, rfl, fun z => Bool.noConfusion z⟩
theorem gY_J9_min_f86c9 : gYn yJ9_min_f86c9 2 := ⟨by decide +kernel, by decide +kernel, by decide +kernel⟩
theorem lkX3_328 : gLS RX3 328 yJ9_min_f86c9 cJ9_min_f86c9 4 (some FieldType.long) 2 := ⟨kw_678, kw_679, kw_23, kw_680, gY_J9_min_f86c9⟩
theorem gY_X6_addEntry : gYn yX6_addEntry 3 := ⟨by decide +kernel, by decide +kernel, by decide +kernel⟩
theorem lkX3_330 : gLV RX3 330 yX6_addEntry cX6_addEntry 6 none 3 := ⟨kw_685, kw_686, kw_687, kw_12, kw_688, gY_X6_addEntry⟩
theorem flX3_158 : gFl RX3 158 12 3 .int false := ⟨RX9, TX9, 12, tyX9, rfl, by decide, kw_223, inwX9, tyX9_ok, nmX9, by decide +kernel, rfl, fun z => Bool.noConfusion z⟩
theorem lkX6_37 : gLV RX6 37 yX6_addEntry cX6_addEntry 6 none 3 := ⟨kw_702, kw_686, kw_687, kw_12, kw_688, gY_X6_addEntry⟩
theorem gY_X3_addTrackPose : gYn yX3_addTrackPose 2 := ⟨by decide +kernel, by decide +kernel, by decide +kernel⟩
theorem lkX3_321 : gLV RX3 321 yX3_addTrackPose cX3_addTrackPose 6 none 2 := ⟨kw_652, kw_654, kp_5, kw_11, kw_655, gY_X3_addTrackPose⟩
theorem flX3_319 : gFl RX3 319 9 3 .int false := ⟨RX6, TX6, 4, tyX6, rfl, by decide, kw_302, inwX6, tyX6_ok, nmX6, by decide +kernel, rfl, fun z => Bool.noConfusion z⟩
theorem gY_X3_targetShare : gYn yX3_targetShare 0 := ⟨by decide +kernel, by decide +kernel, by decide +kernel⟩
theorem lkX3_284 : gLV RX3 284 yX3_targetShare cX3_targetShare 1 (some FieldType.int) 0 := ⟨kw_693, kw_695, kp_7, kw_11, kw_696, gY_X3_targetShare⟩
theorem gY_X6_addFrozen : gYn yX6_addFrozen 2 := ⟨by decide +kernel, by decide +kernel, by decide +kernel⟩
theorem lkX3_324 : gLV RX3 324 yX6_addFrozen cX6_addFrozen 8 none 2 := ⟨kw_697, kw_698, kw_699, kw_12, kw_700, gY_X6_addFrozen⟩
theorem flX7_24 : gFl RX7 24 10 4 .int true := ⟨RX7, TX7, 5, tyX7, rfl, by decide, kw_153, inwX7, tyX7_ok, nmX7, by decide +kernel, rfl, fun _ => rfl⟩
theorem flX3_245 : gFl RX3 245 12 5 .int false := ⟨RX9, TX9, 12, tyX9, rfl, by decide, kw_229, inwX9, tyX9_ok, nmX9, by decide +kernel, rfl, fun z => Bool.noConfusion z⟩
theorem flX3_228 : gFl RX3 228 12 2 (.object "AnimationController$State") false := ⟨RX9, TX9, 12, tyX9, rfl, by decide, kw_221, inwX9, tyX9_ok, nmX9, by decide +kernel, rfl, fun z => Bool.noConfusion z⟩
theorem gY_X7_isSyncedWith : gYn yX7_isSyncedWith 1 := ⟨by decide +kernel, by decide +kernel, by decide +kernel⟩
theorem lkX3_241 : gLV RX3 241 yX7_isSyncedWith cX7_isSyncedWith 2 (some FieldType.boolean) 1 := ⟨kw_780, kw_781, kw_782, kw_6, kw_783, gY_X7_isSyncedWith⟩
theorem frX3_248 : gFr RX3 248 10 3 := ⟨RX7, TX7, 5, rfl, by decide, kw_152, inwX7⟩
theorem lkX3_255 : gLS RX3 255 yJ9_min_7cf53 cJ9_min_7cf53 2 (some FieldType.int) 2 := ⟨kw_785, kw_786, kw_23, kw_787, gY_J9_min_7cf53⟩
theorem gY_X3_firstPhase : gYn yX3_firstPhase 1 := ⟨by decide +kernel, by decide +kernel, by decide +kernel⟩
theorem lkX3_231 : gLV RX3 231 yX3_firstPhase cX3_firstPhase 2 (some FieldType.int) 1 := ⟨kw_776, kw_778, kp_13, kw_11, kw_779, gY_X3_firstPhase⟩
theorem gY_X3_clearTriggers : gYn yX3_clearTriggers 1 := ⟨by decide +kernel, by decide +kernel, by decide +kernel⟩
theorem lkX3_222 : gLV RX3 222 yX3_clearTriggers cX3_clearTriggers 3 none 1 := ⟨kw_769, kw_771, kp_12, kw_11, kw_772, gY_X3_clearTriggers⟩
theorem gY_X3_fillPose : gYn yX3_fillPose 0 := ⟨by decide +kernel, by decide +kernel, by decide +kernel⟩
theorem lkX3_225 : gLV RX3 225 yX3_fillPose cX3_fillPose 2 none 0 := ⟨kw_775, kw_648, kw_649, kw_11, kw_650, gY_X3_fillPose⟩
theorem frX3_270 : gFr RX3 270 10 2 := ⟨RX7, TX7, 5, rfl, by decide, kw_149, inwX7⟩
theorem gY_X3_lengthOf : gYn yX3_lengthOf 1 := ⟨by decide +kernel, by decide +kernel, by decide +kernel⟩
theorem lkX3_273 : gLV RX3 273 yX3_lengthOf cX3_lengthOf 5 (some FieldType.int) 1 := ⟨kw_796, kw_797, kw_798, kw_11, kw_799, gY_X3_lengthOf⟩
theorem gY_X3_stepBy : gYn yX3_stepBy 2 := ⟨by decide +kernel, by decide +kernel, by decide +kernel⟩
theorem lkX3_277 : gLS RX3 277 yX3_stepBy cX3_stepBy 4 (some FieldType.long) 2 := ⟨kw_803, kw_804, kw_11, kw_805, gY_X3_stepBy⟩
theorem lkX8_35 : gLV RX8 35 yX8_progressNow cX8_progressNow 1 (some FieldType.long) 0 := ⟨kw_811, kw_634, kw_635, kw_15, kw_636, gY_X8_progressNow⟩
theorem frX8_39 : gFr RX8 39 10 3 := ⟨RX7, TX7, 5, rfl, by decide, kw_151, inwX7⟩
theorem lkX8_44 : gLS RX8 44 yJ9_min_f86c9 cJ9_min_f86c9 4 (some FieldType.long) 2 := ⟨kw_812, kw_679, kw_23, kw_680, gY_J9_min_f86c9⟩
theorem gY_X3_mixed : gYn yX3_mixed 2 := ⟨by decide +kernel, by decide +kernel, by decide +kernel⟩
theorem lkX3_280 : gLV RX3 280 yX3_mixed cX3_mixed 5 (some FieldType.long) 2 := ⟨kw_817, kw_819, kp_17, kw_11, kw_820, gY_X3_mixed⟩
theorem gY_X3_stepOf : gYn yX3_stepOf 1 := ⟨by decide +kernel, by decide +kernel, by decide +kernel⟩
theorem lkX3_259 : gLV RX3 259 yX3_stepOf cX3_stepOf 2 (some FieldType.long) 1 := ⟨kw_792, kw_794, kp_15, kw_11, kw_795, gY_X3_stepOf⟩
theorem gY_X8_advance : gYn yX8_advance 1 := ⟨by decide +kernel, by decide +kernel, by decide +kernel⟩
theorem lkX3_263 : gLV RX3 263 yX8_advance cX8_advance 5 none 1 := ⟨kw_807, kw_808, kw_809, kw_15, kw_810, gY_X8_advance⟩
theorem gY_X3_commonStep : gYn yX3_commonStep 0 := ⟨by decide +kernel, by decide +kernel, by decide +kernel⟩
theorem lkX3_267 : gLV RX3 267 yX3_commonStep cX3_commonStep 5 (some FieldType.long) 0 := ⟨kw_813, kw_815, kp_16, kw_11, kw_816, gY_X3_commonStep⟩
theorem flX3_300 : gFl RX3 300 4 4 .int false := ⟨RX1, TX1, 5, tyX1, rfl, by decide, kw_99, inwX1, tyX1_ok, nmX1, by decide +kernel, rfl, fun z => Bool.noConfusion z⟩
theorem frX3_303 : gFr RX3 303 4 2 := ⟨RX1, TX1, 5, rfl, by decide, kw_94, inwX1⟩
theorem gY_X8_hasReached : gYn yX8_hasReached 1 := ⟨by decide +kernel, by decide +kernel, by decide +kernel⟩
theorem lkX3_306 : gLV RX3 306 yX8_hasReached cX8_hasReached 7 (some FieldType.boolean) 1 := ⟨kw_833, kw_834, kw_835, kw_15, kw_836, gY_X8_hasReached⟩
theorem frX3_310 : gFr RX3 310 4 3 := ⟨RX1, TX1, 5, rfl, by decide, kw_96, inwX1⟩
theorem frX3_313 : gFr RX3 313 4 0 := ⟨RX1, TX1, 5, rfl, by decide, kw_88, inwX1⟩
theorem frX3_314 : gFr RX3 314 10 0 := ⟨RX7, TX7, 5, rfl, by decide, kw_144, inwX7⟩
theorem gY_X2_append : gYn yX2_append 4 := ⟨by decide +kernel, by decide +kernel, by decide +kernel⟩
theorem lkX3_315 : gLV RX3 315 yX2_append cX2_append 6 none 4 := ⟨kw_837, kw_838, kw_839, kw_13, kw_840, gY_X2_append⟩
theorem flX3_293 : gFl RX3 293 7 6 .int false := ⟨RX4, TX4, 8, tyX4, rfl, by decide, kw_180, inwX4, tyX4_ok, nmX4, by decide +kernel, rfl, fun z => Bool.noConfusion z⟩
theorem gY_X3_fireClip : gYn yX3_fireClip 2 := ⟨by decide +kernel, by decide +kernel, by decide +kernel⟩
theorem lkX3_296 : gLV RX3 296 yX3_fireClip cX3_fireClip 6 none 2 := ⟨kw_829, kw_831, kp_20, kw_11, kw_832, gY_X3_fireClip⟩
theorem gY_X3_fireTrack : gYn yX3_fireTrack 2 := ⟨by decide +kernel, by decide +kernel, by decide +kernel⟩
theorem lkX3_289 : gLV RX3 289 yX3_fireTrack cX3_fireTrack 6 none 2 := ⟨kw_825, kw_827, kp_19, kw_11, kw_828, gY_X3_fireTrack⟩
theorem gY_X3_fireEvents : gYn yX3_fireEvents 0 := ⟨by decide +kernel, by decide +kernel, by decide +kernel⟩
theorem lkX3_163 : gLV RX3 163 yX3_fireEvents cX3_fireEvents 2 none 0 := ⟨kw_821, kw_823, kp_18, kw_11, kw_824, gY_X3_fireEvents⟩
theorem gY_X3_advanceTracks : gYn yX3_advanceTracks 0 := ⟨by decide +kernel, by decide +kernel, by decide +kernel⟩
theorem lkX3_155 : gLV RX3 155 yX3_advanceTracks cX3_advanceTracks 3 none 0 := ⟨kw_788, kw_790, kp_14, kw_11, kw_791, gY_X3_advanceTracks⟩
theorem gY_X3_firstPossible : gYn yX3_firstPossible 0 := ⟨by decide +kernel, by decide +kernel, by decide +kernel⟩
theorem lkX3_147 : gLV RX3 147 yX3_firstPossible cX3_firstPossible 3 (some (FieldType.object "AnimationController$Transition")) 0 := ⟨kw_737, kw_739, kp_9, kw_11, kw_740, gY_X3_firstPossible⟩
theorem gY_X3_take : gYn yX3_take 1 := ⟨by decide +kernel, by decide +kernel, by decide +kernel⟩
theorem lkX3_151 : gLV RX3 151 yX3_take cX3_take 3 none 1 := ⟨kw_765, kw_767, kp_11, kw_11, kw_768, gY_X3_take⟩
theorem gY_Jxa1e45_init_da8c8 : gYn yJxa1e45_init_da8c8 0 := ⟨by decide +kernel, by decide +kernel, by decide +kernel⟩
theorem lkJxc12de_1 : gLI RJxc12de 1 yJxa1e45_init_da8c8 cJxa1e45_init_da8c8 1 0 := ⟨kw_57, kw_58, kw_3, kw_59, rfl, gY_Jxa1e45_init_da8c8⟩
theorem flJxc12de_7 : gFl RJxc12de 7 2 0 .int false := ⟨RJx4a65c, TJx4a65c, 3, tyJx4a65c, rfl, by decide, kw_65, inwJx4a65c, tyJx4a65c_ok, nmJx4a65c, by decide +kernel, rfl, fun z => Bool.noConfusion z⟩
theorem gY_Jxc12de_init_da8c8 : gYn yJxc12de_init_da8c8 0 := ⟨by decide +kernel, by decide +kernel, by decide +kernel⟩
theorem lkJx4a65c_1 : gLI RJx4a65c 1 yJxc12de_init_da8c8 cJxc12de_init_da8c8 1 0 := ⟨kw_54, kw_55, kw_4, kw_56, rfl, gY_Jxc12de_init_da8c8⟩
theorem nwX5_9 : gNw RX5 9 2 3 [.int 0, .null, .int 0] := ⟨RJx4a65c, TJx4a65c, tyJx4a65c, rfl, kw_115, kw_50, kw_5, inwJx4a65c, tyJx4a65c_ok, by decide +kernel⟩
theorem gY_Jx4a65c_init_da8c8 : gYn yJx4a65c_init_da8c8 0 := ⟨by decide +kernel, by decide +kernel, by decide +kernel⟩
theorem lkX5_11 : gLI RX5 11 yJx4a65c_init_da8c8 cJx4a65c_init_da8c8 1 0 := ⟨kw_116, kw_52, kw_5, kw_53, rfl, gY_Jx4a65c_init_da8c8⟩
theorem flX5_12 : gFl RX5 12 8 2 (.object "java/util/ArrayList") true := ⟨RX5, TX5, 5, tyX5, rfl, by decide, kw_121, inwX5, tyX5_ok, nmX5, by decide +kernel, rfl, fun _ => rfl⟩
theorem flX5_22 : gFl RX5 22 8 4 .int false := ⟨RX5, TX5, 5, tyX5, rfl, by decide, kw_125, inwX5, tyX5_ok, nmX5, by decide +kernel, rfl, fun z => Bool.noConfusion z⟩
theorem flX5_26 : gFl RX5 26 8 0 (.object "AnimationController$Clip") true := ⟨RX5, TX5, 5, tyX5, rfl, by decide, kw_117, inwX5, tyX5_ok, nmX5, by decide +kernel, rfl, fun _ => rfl⟩
theorem flX5_30 : gFl RX5 30 8 1 .int true := ⟨RX5, TX5, 5, tyX5, rfl, by decide, kw_119, inwX5, tyX5_ok, nmX5, by decide +kernel, rfl, fun _ => rfl⟩
theorem flX7_7 : gFl RX7 7 10 0 .int true := ⟨RX7, TX7, 5, tyX7, rfl, by decide, kw_142, inwX7, tyX7_ok, nmX7, by decide +kernel, rfl, fun _ => rfl⟩
theorem flX7_13 : gFl RX7 13 10 1 (.object "AnimationController$Node") true := ⟨RX7, TX7, 5, tyX7, rfl, by decide, kw_145, inwX7, tyX7_ok, nmX7, by decide +kernel, rfl, fun _ => rfl⟩
theorem flX7_17 : gFl RX7 17 10 2 .int true := ⟨RX7, TX7, 5, tyX7, rfl, by decide, kw_148, inwX7, tyX7_ok, nmX7, by decide +kernel, rfl, fun _ => rfl⟩
theorem flX7_20 : gFl RX7 20 10 3 .boolean true := ⟨RX7, TX7, 5, tyX7, rfl, by decide, kw_150, inwX7, tyX7_ok, nmX7, by decide +kernel, rfl, fun _ => rfl⟩
theorem nwX4_15 : gNw RX4 15 2 3 [.int 0, .null, .int 0] := ⟨RJx4a65c, TJx4a65c, tyJx4a65c, rfl, kw_49, kw_50, kw_5, inwJx4a65c, tyJx4a65c_ok, by decide +kernel⟩
theorem lkX4_17 : gLI RX4 17 yJx4a65c_init_da8c8 cJx4a65c_init_da8c8 1 0 := ⟨kw_51, kw_52, kw_5, kw_53, rfl, gY_Jx4a65c_init_da8c8⟩
theorem flX4_18 : gFl RX4 18 7 2 (.object "java/util/ArrayList") true := ⟨RX4, TX4, 8, tyX4, rfl, by decide, kw_169, inwX4, tyX4_ok, nmX4, by decide +kernel, rfl, fun _ => rfl⟩
theorem flX4_22 : gFl RX4 22 7 3 (.object "java/util/ArrayList") true := ⟨RX4, TX4, 8, tyX4, rfl, by decide, kw_172, inwX4, tyX4_ok, nmX4, by decide +kernel, rfl, fun _ => rfl⟩
theorem flX4_25 : gFl RX4 25 7 4 (.object "java/util/ArrayList") true := ⟨RX4, TX4, 8, tyX4, rfl, by decide, kw_174, inwX4, tyX4_ok, nmX4, by decide +kernel, rfl, fun _ => rfl⟩
theorem flX4_28 : gFl RX4 28 7 5 (.object "java/util/ArrayList") true := ⟨RX4, TX4, 8, tyX4, rfl, by decide, kw_176, inwX4, tyX4_ok, nmX4, by decide +kernel, rfl, fun _ => rfl⟩
theorem flX4_31 : gFl RX4 31 7 6 .int false := ⟨RX4, TX4, 8, tyX4, rfl, by decide, kw_179, inwX4, tyX4_ok, nmX4, by decide +kernel, rfl, fun z => Bool.noConfusion z⟩
theorem nwX4_35 : gNw RX4 35 10 5 [.int 0, .null, .int 0, .int 0, .int 0] := ⟨RX7, TX7, tyX7, rfl, kw_76, kw_77, kw_6, inwX7, tyX7_ok, by decide +kernel⟩
theorem nwX4_37 : gNw RX4 37 8 5 [.null, .int 0, .null, .null, .int 0] := ⟨RX5, TX5, tyX5, rfl, kw_78, kw_79, kw_7, inwX5, tyX5_ok, by decide +kernel⟩
theorem nwX4_39 : gNw RX4 39 4 5 [.int 0, .int 0, .null, .null, .int 0] := ⟨RX1, TX1, tyX1, rfl, kw_80, kw_81, kw_8, inwX1, tyX1_ok, by decide +kernel⟩
theorem gY_X1_init : gYn yX1_init 2 := ⟨by decide +kernel, by decide +kernel, by decide +kernel⟩
theorem lkX4_41 : gLI RX4 41 yX1_init cX1_init 3 2 := ⟨kw_82, kw_83, kw_8, kw_84, rfl, gY_X1_init⟩
theorem gY_X5_init : gYn yX5_init 2 := ⟨by decide +kernel, by decide +kernel, by decide +kernel⟩
theorem lkX4_44 : gLI RX4 44 yX5_init cX5_init 3 2 := ⟨kw_111, kw_112, kw_7, kw_113, rfl, gY_X5_init⟩
theorem gY_X7_init : gYn yX7_init 5 := ⟨by decide +kernel, by decide +kernel, by decide +kernel⟩
theorem lkX4_47 : gLI RX4 47 yX7_init cX7_init 6 5 := ⟨kw_138, kw_139, kw_6, kw_140, rfl, gY_X7_init⟩
theorem flX4_50 : gFl RX4 50 7 7 (.object "AnimationController$State") true := ⟨RX4, TX4, 8, tyX4, rfl, by decide, kw_183, inwX4, tyX4_ok, nmX4, by decide +kernel, rfl, fun _ => rfl⟩
theorem lkX4_57 : gLV RX4 57 yX4_kindOf cX4_kindOf 2 (some FieldType.int) 1 := ⟨kw_526, kw_527, kw_528, kw_2, kw_529, gY_X4_kindOf⟩
theorem gY_X4_isValue : gYn yX4_isValue 2 := ⟨by decide +kernel, by decide +kernel, by decide +kernel⟩
theorem lkX4_61 : gLV RX4 61 yX4_isValue cX4_isValue 3 (some FieldType.boolean) 2 := ⟨kw_1351, kw_523, kw_524, kw_2, kw_525, gY_X4_isValue⟩
theorem lkX5_37 : gLV RX5 37 yJx4a65c_size_8abf5 cJx4a65c_size_8abf5 1 (some FieldType.int) 0 := ⟨kw_1011, kw_665, kw_666, kw_5, kw_667, gY_Jx4a65c_size_8abf5⟩
theorem lkX5_49 : gLV RX5 49 yJx4a65c_get_915e3 cJx4a65c_get_915e3 2 (some (FieldType.object "java/lang/Object")) 1 := ⟨kw_1024, kw_571, kw_572, kw_5, kw_573, gY_Jx4a65c_get_915e3⟩
theorem gY_J9_max_7cf53 : gYn yJ9_max_7cf53 2 := ⟨by decide +kernel, by decide +kernel, by decide +kernel⟩
theorem lkX5_53 : gLS RX5 53 yJ9_max_7cf53 cJ9_max_7cf53 2 (some FieldType.int) 2 := ⟨kw_1026, kw_939, kw_23, kw_940, gY_J9_max_7cf53⟩
theorem flX4_76 : gFl RX4 76 8 4 .int false := ⟨RX5, TX5, 5, tyX5, rfl, by decide, kw_126, inwX5, tyX5_ok, nmX5, by decide +kernel, rfl, fun z => Bool.noConfusion z⟩
theorem lkX4_79 : gLS RX4 79 yJ9_max_7cf53 cJ9_max_7cf53 2 (some FieldType.int) 2 := ⟨kw_1027, kw_939, kw_23, kw_940, gY_J9_max_7cf53⟩
theorem lkX4_65 : gLV RX4 65 yJx4a65c_size_8abf5 cJx4a65c_size_8abf5 1 (some FieldType.int) 0 := ⟨kw_1018, kw_665, kw_666, kw_5, kw_667, gY_Jx4a65c_size_8abf5⟩
theorem lkX4_69 : gLV RX4 69 yJx4a65c_get_915e3 cJx4a65c_get_915e3 2 (some (FieldType.object "java/lang/Object")) 1 := ⟨kw_1019, kw_571, kw_572, kw_5, kw_573, gY_Jx4a65c_get_915e3⟩
theorem gY_X5_depthByChildren : gYn yX5_depthByChildren 0 := ⟨by decide +kernel, by decide +kernel, by decide +kernel⟩
theorem lkX4_73 : gLV RX4 73 yX5_depthByChildren cX5_depthByChildren 3 (some FieldType.int) 0 := ⟨kw_1020, kw_1021, kw_1022, kw_7, kw_1023, gY_X5_depthByChildren⟩
theorem lkX5_33 : gLV RX5 33 yJx4a65c_isEmpty_aae02 cJx4a65c_isEmpty_aae02 1 (some FieldType.boolean) 0 := ⟨kw_916, kw_567, kw_568, kw_5, kw_569, gY_Jx4a65c_isEmpty_aae02⟩
theorem lkX5_41 : gLV RX5 41 yX5_positionOf cX5_positionOf 2 (some FieldType.int) 1 := ⟨kw_1012, kw_669, kw_670, kw_7, kw_671, gY_X5_positionOf⟩
theorem lkJ8_194 : gLS RJ8 194 yJ9_max_7cf53 cJ9_max_7cf53 2 (some FieldType.int) 2 := ⟨kw_938, kw_939, kw_23, kw_940, gY_J9_max_7cf53⟩
theorem lkJ7_304 : gLS RJ7 304 yJ9_min_7cf53 cJ9_min_7cf53 2 (some FieldType.int) 2 := ⟨kw_976, kw_786, kw_23, kw_787, gY_J9_min_7cf53⟩
theorem acJ7_150 : gAC RJ7 150 := ⟨kw_977, kw_722, kw_721, kw_24⟩
theorem gY_J7_copyOf_6403c : gYn yJ7_copyOf_6403c 3 := ⟨by decide +kernel, by decide +kernel, by decide +kernel⟩
theorem lkJ7_300 : gLS RJ7 300 yJ7_copyOf_6403c cJ7_copyOf_6403c 4 (some (FieldType.array (FieldType.object "java/lang/Object"))) 3 := ⟨kw_970, kw_971, kw_27, kw_972, gY_J7_copyOf_6403c⟩
theorem gY_J8_newLength_cabcc : gYn yJ8_newLength_cabcc 3 := ⟨by decide +kernel, by decide +kernel, by decide +kernel⟩
theorem lkJx4a65c_73 : gLS RJx4a65c 73 yJ8_newLength_cabcc cJ8_newLength_cabcc 4 (some FieldType.int) 3 := ⟨kw_935, kw_936, kw_26, kw_937, gY_J8_newLength_cabcc⟩
theorem gY_J7_copyOf_1904c : gYn yJ7_copyOf_1904c 2 := ⟨by decide +kernel, by decide +kernel, by decide +kernel⟩
theorem lkJx4a65c_66 : gLS RJx4a65c 66 yJ7_copyOf_1904c cJ7_copyOf_1904c 2 (some (FieldType.array (FieldType.object "java/lang/Object"))) 2 := ⟨kw_945, kw_946, kw_27, kw_947, gY_J7_copyOf_1904c⟩
theorem lkJx4a65c_79 : gLS RJx4a65c 79 yJ9_max_7cf53 cJ9_max_7cf53 2 (some FieldType.int) 2 := ⟨kw_978, kw_939, kw_23, kw_940, gY_J9_max_7cf53⟩
theorem gY_Jx4a65c_grow_92f84 : gYn yJx4a65c_grow_92f84 1 := ⟨by decide +kernel, by decide +kernel, by decide +kernel⟩
theorem lkJx4a65c_69 : gLV RJx4a65c 69 yJx4a65c_grow_92f84 cJx4a65c_grow_92f84 4 (some (FieldType.array (FieldType.object "java/lang/Object"))) 1 := ⟨kw_931, kw_933, kp_26, kw_5, kw_934, gY_Jx4a65c_grow_92f84⟩
theorem acJx4a65c_112 : gAC RJx4a65c 112 := ⟨kw_1278, kw_722, kw_721, kw_24⟩
theorem gY_Jx4a65c_rangeCheckForAdd_d00df : gYn yJx4a65c_rangeCheckForAdd_d00df 1 := ⟨by decide +kernel, by decide +kernel, by decide +kernel⟩
theorem lkJx4a65c_135 : gLV RJx4a65c 135 yJx4a65c_rangeCheckForAdd_d00df cJx4a65c_rangeCheckForAdd_d00df 2 none 1 := ⟨kw_1037, kw_1039, kp_27, kw_5, kw_1040, gY_Jx4a65c_rangeCheckForAdd_d00df⟩
theorem fmJx4a65c_63 : gFl2 RJx4a65c 63 2 0 .int := ⟨RJx4a65c, "java/util/ArrayList", TJx4a65c, 3, tyJx4a65c, rfl, by decide, kw_66, kw_67, inwJx4a65c, tyJx4a65c_ok, nmJx4a65c, by decide +kernel, rfl⟩
theorem gY_Jx4a65c_grow_d5877 : gYn yJx4a65c_grow_d5877 0 := ⟨by decide +kernel, by decide +kernel, by decide +kernel⟩
theorem lkJx4a65c_129 : gLV RJx4a65c 129 yJx4a65c_grow_d5877 cJx4a65c_grow_d5877 1 (some (FieldType.array (FieldType.object "java/lang/Object"))) 0 := ⟨kw_927, kw_929, kp_25, kw_5, kw_930, gY_Jx4a65c_grow_d5877⟩
theorem gY_Jx4a65c_add_7a177 : gYn yJx4a65c_add_7a177 2 := ⟨by decide +kernel, by decide +kernel, by decide +kernel⟩
theorem lkX5_45 : gLV RX5 45 yJx4a65c_add_7a177 cJx4a65c_add_7a177 5 none 2 := ⟨kw_1033, kw_1034, kw_1035, kw_5, kw_1036, gY_Jx4a65c_add_7a177⟩
theorem flX9_9 : gFl RX9 9 12 4 .int false := ⟨RX9, TX9, 12, tyX9, rfl, by decide, kw_224, inwX9, tyX9_ok, nmX9, by decide +kernel, rfl, fun z => Bool.noConfusion z⟩
theorem flX9_15 : gFl RX9 15 12 8 (.array .int) true := ⟨RX9, TX9, 12, tyX9, rfl, by decide, kw_236, inwX9, tyX9_ok, nmX9, by decide +kernel, rfl, fun _ => rfl⟩
theorem flX9_25 : gFl RX9 25 12 0 .int true := ⟨RX9, TX9, 12, tyX9, rfl, by decide, kw_214, inwX9, tyX9_ok, nmX9, by decide +kernel, rfl, fun _ => rfl⟩
theorem flX9_35 : gFl RX9 35 12 3 .int false := ⟨RX9, TX9, 12, tyX9, rfl, by decide, kw_222, inwX9, tyX9_ok, nmX9, by decide +kernel, rfl, fun z => Bool.noConfusion z⟩
theorem flX9_38 : gFl RX9 38 12 5 .int false := ⟨RX9, TX9, 12, tyX9, rfl, by decide, kw_227, inwX9, tyX9_ok, nmX9, by decide +kernel, rfl, fun z => Bool.noConfusion z⟩
theorem flX9_41 : gFl RX9 41 12 6 .int false := ⟨RX9, TX9, 12, tyX9, rfl, by decide, kw_230, inwX9, tyX9_ok, nmX9, by decide +kernel, rfl, fun z => Bool.noConfusion z⟩
theorem flX9_44 : gFl RX9 44 12 7 .boolean false := ⟨RX9, TX9, 12, tyX9, rfl, by decide, kw_233, inwX9, tyX9_ok, nmX9, by decide +kernel, rfl, fun z => Bool.noConfusion z⟩
theorem flX10_9 : gFl RX10 9 13 1 (.array .int) true := ⟨RX10, TX10, 5, tyX10, rfl, by decide, kw_269, inwX10, tyX10_ok, nmX10, by decide +kernel, rfl, fun _ => rfl⟩
theorem flX10_15 : gFl RX10 15 13 0 (.object "AnimationController$Model") true := ⟨RX10, TX10, 5, tyX10, rfl, by decide, kw_268, inwX10, tyX10_ok, nmX10, by decide +kernel, rfl, fun _ => rfl⟩
theorem nwX10_19 : gNw RX10 19 12 12 [.int 0, .null, .null, .int 0, .int 0, .int 0, .int 0, .int 0, .null, .null, .null, .int 0] := ⟨RX9, TX9, tyX9, rfl, kw_208, kw_209, kw_10, inwX9, tyX9_ok, by decide +kernel⟩
theorem frX10_21 : gFr RX10 21 7 7 := ⟨RX4, TX4, 8, rfl, by decide, kw_181, inwX4⟩
theorem gY_X9_init : gYn yX9_init 2 := ⟨by decide +kernel, by decide +kernel, by decide +kernel⟩
theorem lkX10_27 : gLI RX10 27 yX9_init cX9_init 3 2 := ⟨kw_210, kw_211, kw_10, kw_212, rfl, gY_X9_init⟩
theorem flX10_30 : gFl RX10 30 13 4 (.object "AnimationController$Transition") true := ⟨RX10, TX10, 5, tyX10, rfl, by decide, kw_271, inwX10, tyX10_ok, nmX10, by decide +kernel, rfl, fun _ => rfl⟩
theorem flX11_35 : gFl RX11 35 14 4 (.array (.object "AnimationController$Machine")) true := ⟨RX11, TX11, 7, tyX11, rfl, by decide, kw_423, inwX11, tyX11_ok, nmX11, by decide +kernel, rfl, fun _ => rfl⟩
theorem flX11_39 : gFl RX11 39 14 5 (.array .boolean) true := ⟨RX11, TX11, 7, tyX11, rfl, by decide, kw_424, inwX11, tyX11_ok, nmX11, by decide +kernel, rfl, fun _ => rfl⟩
theorem flX11_43 : gFl RX11 43 14 6 (.array .int) true := ⟨RX11, TX11, 7, tyX11, rfl, by decide, kw_425, inwX11, tyX11_ok, nmX11, by decide +kernel, rfl, fun _ => rfl⟩
theorem nwX11_25 : gNw RX11 25 6 13 [.null, .null, .null, .null, .null, .int 0, .int 0, .null, .int 0, .int 0, .null, .null, .null] := ⟨RX3, TX3, tyX3, rfl, kw_283, kw_284, kw_11, inwX3, tyX3_ok, by decide +kernel⟩
theorem flX11_12 : gFl RX11 12 14 0 (.object "AnimationController$Model") true := ⟨RX11, TX11, 7, tyX11, rfl, by decide, kw_419, inwX11, tyX11_ok, nmX11, by decide +kernel, rfl, fun _ => rfl⟩
theorem gY_X3_init : gYn yX3_init 1 := ⟨by decide +kernel, by decide +kernel, by decide +kernel⟩
theorem lkX11_27 : gLI RX11 27 yX3_init cX3_init 2 1 := ⟨kw_285, kw_286, kw_11, kw_287, rfl, gY_X3_init⟩
theorem nwX11_9 : gNw RX11 9 7 8 [.null, .int 0, .null, .null, .null, .null, .int 0, .null] := ⟨RX4, TX4, tyX4, rfl, kw_43, kw_44, kw_2, inwX4, tyX4_ok, by decide +kernel⟩
theorem gY_X4_init : gYn yX4_init 0 := ⟨by decide +kernel, by decide +kernel, by decide +kernel⟩
theorem lkX11_11 : gLIN RX11 11 yX4_init "AnimationController" cX4_init 1 0 := ⟨ku_45, kw_46, kw_2, kw_47, rfl, gY_X4_init⟩
theorem nwX11_16 : gNw RX11 16 13 5 [.null, .null, .int 0, .int 0, .null] := ⟨RX10, TX10, tyX10, rfl, kw_202, kw_203, kw_9, inwX10, tyX10_ok, by decide +kernel⟩
theorem gY_X10_init : gYn yX10_init 1 := ⟨by decide +kernel, by decide +kernel, by decide +kernel⟩
theorem lkX11_18 : gLI RX11 18 yX10_init cX10_init 2 1 := ⟨kw_204, kw_205, kw_9, kw_206, rfl, gY_X10_init⟩
theorem flX11_21 : gFl RX11 21 14 1 (.object "AnimationController$TransitionText") true := ⟨RX11, TX11, 7, tyX11, rfl, by decide, kw_420, inwX11, tyX11_ok, nmX11, by decide +kernel, rfl, fun _ => rfl⟩
theorem flX11_28 : gFl RX11 28 14 2 (.object "AnimationController$Machine") true := ⟨RX11, TX11, 7, tyX11, rfl, by decide, kw_421, inwX11, tyX11_ok, nmX11, by decide +kernel, rfl, fun _ => rfl⟩
theorem flX11_32 : gFl RX11 32 14 3 (.object "AnimationController$Machine") true := ⟨RX11, TX11, 7, tyX11, rfl, by decide, kw_422, inwX11, tyX11_ok, nmX11, by decide +kernel, rfl, fun _ => rfl⟩
theorem thX11_49_47 : gTh RX11 47 49 51 "java/lang/IllegalArgumentException" "kind is out of range" := ⟨kw_530, kw_19, List.mem_of_getElem? (i := 17) rfl, thg_51, thn_51, by decide +kernel, by decide +kernel, List.forall_mem_cons.mpr ⟨rfl, List.forall_mem_cons.mpr ⟨rfl, fun w hw => List.all_eq_true.mp tho_51 w hw⟩⟩⟩
theorem flX11_54 : gFl RX11 54 7 1 .int false := ⟨RX4, TX4, 8, tyX4, rfl, by decide, kw_168, inwX4, tyX4_ok, nmX4, by decide +kernel, rfl, fun z => Bool.noConfusion z⟩
theorem frX11_58 : gFr RX11 58 7 0 := ⟨RX4, TX4, 8, rfl, by decide, kw_166, inwX4⟩
theorem thX11_63_61 : gTh RX11 61 63 65 "java/lang/IllegalStateException" "there are 8 parameters" := ⟨kw_609, kw_20, List.mem_of_getElem? (i := 18) rfl, thg_65, thn_65, by decide +kernel, by decide +kernel, List.forall_mem_cons.mpr ⟨rfl, List.forall_mem_cons.mpr ⟨rfl, fun w hw => List.all_eq_true.mp tho_65 w hw⟩⟩⟩
theorem gY_X4_hasParameter : gYn yX4_hasParameter 1 := ⟨by decide +kernel, by decide +kernel, by decide +kernel⟩
theorem lkX11_419 : gLV RX11 419 yX4_hasParameter cX4_hasParameter 2 (some FieldType.boolean) 1 := ⟨kw_450, kw_451, kw_452, kw_2, kw_453, gY_X4_hasParameter⟩
theorem thX11_422_378 : gTh RX11 378 422 382 "java/lang/IndexOutOfBoundsException" "no such parameter" := ⟨kw_454, kw_25, List.mem_of_getElem? (i := 0) rfl, thg_382, thn_382, by decide +kernel, by decide +kernel, List.forall_mem_cons.mpr ⟨rfl, List.forall_mem_cons.mpr ⟨rfl, fun w hw => List.all_eq_true.mp tho_382 w hw⟩⟩⟩
theorem gY_X11_requireParameter : gYn yX11_requireParameter 1 := ⟨by decide +kernel, by decide +kernel, by decide +kernel⟩
theorem lkX11_66 : gLV RX11 66 yX11_requireParameter cX11_requireParameter 2 none 1 := ⟨kw_446, kw_448, kp_0, kw_1, kw_449, gY_X11_requireParameter⟩
theorem lkX11_70 : gLV RX11 70 yX4_isValue cX4_isValue 3 (some FieldType.boolean) 2 := ⟨kw_522, kw_523, kw_524, kw_2, kw_525, gY_X4_isValue⟩
theorem lkX11_76 : gLV RX11 76 yX3_valueOf cX3_valueOf 2 (some FieldType.int) 1 := ⟨kw_546, kw_547, kw_548, kw_11, kw_549, gY_X3_valueOf⟩
theorem lkX11_80 : gLV RX11 80 yX3_setValue cX3_setValue 3 none 2 := ⟨kw_550, kw_551, kw_552, kw_11, kw_553, gY_X3_setValue⟩
theorem thX11_74_47 : gTh RX11 47 74 51 "java/lang/IllegalArgumentException" "value is out of range" := ⟨kw_530, kw_19, List.mem_of_getElem? (i := 1) rfl, thg_51, thn_51, by decide +kernel, by decide +kernel, List.forall_mem_cons.mpr ⟨rfl, List.forall_mem_cons.mpr ⟨rfl, fun w hw => List.all_eq_true.mp tho_51 w hw⟩⟩⟩
theorem gY_Jx4a65c_add_72be8 : gYn yJx4a65c_add_72be8 3 := ⟨by decide +kernel, by decide +kernel, by decide +kernel⟩
theorem lkJx4a65c_131 : gLV RJx4a65c 131 yJx4a65c_add_72be8 cJx4a65c_add_72be8 4 none 3 := ⟨kw_923, kw_925, kp_24, kw_5, kw_926, gY_Jx4a65c_add_72be8⟩
theorem thX11_84_47 : gTh RX11 47 84 51 "java/lang/IllegalArgumentException" "length is out of range" := ⟨kw_530, kw_19, List.mem_of_getElem? (i := 19) rfl, thg_51, thn_51, by decide +kernel, by decide +kernel, List.forall_mem_cons.mpr ⟨rfl, List.forall_mem_cons.mpr ⟨rfl, fun w hw => List.all_eq_true.mp tho_51 w hw⟩⟩⟩
theorem frX11_86 : gFr RX11 86 7 2 := ⟨RX4, TX4, 8, rfl, by decide, kw_170, inwX4⟩
theorem lkX11_90 : gLV RX11 90 yJx4a65c_size_8abf5 cJx4a65c_size_8abf5 1 (some FieldType.int) 0 := ⟨kw_855, kw_665, kw_666, kw_5, kw_667, gY_Jx4a65c_size_8abf5⟩
theorem nwX11_98 : gNw RX11 98 4 5 [.int 0, .int 0, .null, .null, .int 0] := ⟨RX1, TX1, tyX1, rfl, kw_1294, kw_81, kw_8, inwX1, tyX1_ok, by decide +kernel⟩
theorem lkX11_100 : gLI RX11 100 yX1_init cX1_init 3 2 := ⟨kw_1295, kw_83, kw_8, kw_84, rfl, gY_X1_init⟩
theorem gY_Jx4a65c_add_9ea2d : gYn yJx4a65c_add_9ea2d 1 := ⟨by decide +kernel, by decide +kernel, by decide +kernel⟩
theorem lkX11_102 : gLV RX11 102 yJx4a65c_add_9ea2d cJx4a65c_add_9ea2d 2 (some FieldType.boolean) 1 := ⟨kw_919, kw_920, kw_921, kw_5, kw_922, gY_Jx4a65c_add_9ea2d⟩
theorem thX11_96_61 : gTh RX11 61 96 65 "java/lang/IllegalStateException" "there are 12 clips" := ⟨kw_609, kw_20, List.mem_of_getElem? (i := 20) rfl, thg_65, thn_65, by decide +kernel, by decide +kernel, List.forall_mem_cons.mpr ⟨rfl, List.forall_mem_cons.mpr ⟨rfl, fun w hw => List.all_eq_true.mp tho_65 w hw⟩⟩⟩
theorem thX11_432_378 : gTh RX11 378 432 382 "java/lang/IndexOutOfBoundsException" "no such clip" := ⟨kw_454, kw_25, List.mem_of_getElem? (i := 21) rfl, thg_382, thn_382, by decide +kernel, by decide +kernel, List.forall_mem_cons.mpr ⟨rfl, List.forall_mem_cons.mpr ⟨rfl, fun w hw => List.all_eq_true.mp tho_382 w hw⟩⟩⟩
theorem lkX11_302 : gLV RX11 302 yJx4a65c_get_915e3 cJx4a65c_get_915e3 2 (some (FieldType.object "java/lang/Object")) 1 := ⟨kw_570, kw_571, kw_572, kw_5, kw_573, gY_Jx4a65c_get_915e3⟩
theorem thX11_113_47 : gTh RX11 47 113 51 "java/lang/IllegalArgumentException" "time or id is out of range" := ⟨kw_530, kw_19, List.mem_of_getElem? (i := 22) rfl, thg_51, thn_51, by decide +kernel, by decide +kernel, List.forall_mem_cons.mpr ⟨rfl, List.forall_mem_cons.mpr ⟨rfl, fun w hw => List.all_eq_true.mp tho_51 w hw⟩⟩⟩
theorem gY_X11_clipAt : gYn yX11_clipAt 1 := ⟨by decide +kernel, by decide +kernel, by decide +kernel⟩
theorem lkX11_106 : gLV RX11 106 yX11_clipAt cX11_clipAt 2 (some (FieldType.object "AnimationController$Clip")) 1 := ⟨kw_1300, kw_1302, kp_29, kw_1, kw_1303, gY_X11_clipAt⟩
theorem frX11_110 : gFr RX11 110 4 1 := ⟨RX1, TX1, 5, rfl, by decide, kw_91, inwX1⟩
theorem flX11_115 : gFl RX11 115 4 4 .int false := ⟨RX1, TX1, 5, tyX1, rfl, by decide, kw_98, inwX1, tyX1_ok, nmX1, by decide +kernel, rfl, fun z => Bool.noConfusion z⟩
theorem gY_X1_insertEvent : gYn yX1_insertEvent 2 := ⟨by decide +kernel, by decide +kernel, by decide +kernel⟩
theorem lkX11_120 : gLV RX11 120 yX1_insertEvent cX1_insertEvent 4 none 2 := ⟨kw_1307, kw_1308, kw_1309, kw_8, kw_1310, gY_X1_insertEvent⟩
theorem thX11_118_61 : gTh RX11 61 118 65 "java/lang/IllegalStateException" "the clip has 5 events" := ⟨kw_609, kw_20, List.mem_of_getElem? (i := 23) rfl, thg_65, thn_65, by decide +kernel, by decide +kernel, List.forall_mem_cons.mpr ⟨rfl, List.forall_mem_cons.mpr ⟨rfl, fun w hw => List.all_eq_true.mp tho_65 w hw⟩⟩⟩
theorem frX11_126 : gFr RX11 126 7 3 := ⟨RX4, TX4, 8, rfl, by decide, kw_173, inwX4⟩
theorem thX11_424_61 : gTh RX11 61 424 65 "java/lang/IllegalStateException" "there are 20 nodes" := ⟨kw_609, kw_20, List.mem_of_getElem? (i := 24) rfl, thg_65, thn_65, by decide +kernel, by decide +kernel, List.forall_mem_cons.mpr ⟨rfl, List.forall_mem_cons.mpr ⟨rfl, fun w hw => List.all_eq_true.mp tho_65 w hw⟩⟩⟩
theorem gY_X11_requireRoomForNode : gYn yX11_requireRoomForNode 0 := ⟨by decide +kernel, by decide +kernel, by decide +kernel⟩
theorem lkX11_123 : gLV RX11 123 yX11_requireRoomForNode cX11_requireRoomForNode 1 none 0 := ⟨kw_1315, kw_1317, kp_30, kw_1, kw_1318, gY_X11_requireRoomForNode⟩
theorem nwX11_129 : gNw RX11 129 8 5 [.null, .int 0, .null, .null, .int 0] := ⟨RX5, TX5, tyX5, rfl, kw_910, kw_79, kw_7, inwX5, tyX5_ok, by decide +kernel⟩
theorem lkX11_131 : gLI RX11 131 yX5_init cX5_init 3 2 := ⟨kw_1320, kw_112, kw_7, kw_113, rfl, gY_X5_init⟩
theorem lkX11_134 : gLV RX11 134 yX4_kindOf cX4_kindOf 2 (some FieldType.int) 1 := ⟨kw_1325, kw_527, kw_528, kw_2, kw_529, gY_X4_kindOf⟩
theorem thX11_137_61 : gTh RX11 61 137 65 "java/lang/IllegalStateException" "the parameter is not a number" := ⟨kw_609, kw_20, List.mem_of_getElem? (i := 25) rfl, thg_65, thn_65, by decide +kernel, by decide +kernel, List.forall_mem_cons.mpr ⟨rfl, List.forall_mem_cons.mpr ⟨rfl, fun w hw => List.all_eq_true.mp tho_65 w hw⟩⟩⟩
theorem thX11_434_378 : gTh RX11 378 434 382 "java/lang/IndexOutOfBoundsException" "no such node" := ⟨kw_454, kw_25, List.mem_of_getElem? (i := 9) rfl, thg_382, thn_382, by decide +kernel, by decide +kernel, List.forall_mem_cons.mpr ⟨rfl, List.forall_mem_cons.mpr ⟨rfl, fun w hw => List.all_eq_true.mp tho_382 w hw⟩⟩⟩
theorem thX11_147_47 : gTh RX11 47 147 51 "java/lang/IllegalArgumentException" "no line, no lower node, or position is out of range" := ⟨kw_530, kw_19, List.mem_of_getElem? (i := 14) rfl, thg_51, thn_51, by decide +kernel, by decide +kernel, List.forall_mem_cons.mpr ⟨rfl, List.forall_mem_cons.mpr ⟨rfl, fun w hw => List.all_eq_true.mp tho_51 w hw⟩⟩⟩
theorem thX11_156_61 : gTh RX11 61 156 65 "java/lang/IllegalStateException" "the line has no room for this child" := ⟨kw_609, kw_20, List.mem_of_getElem? (i := 15) rfl, thg_65, thn_65, by decide +kernel, by decide +kernel, List.forall_mem_cons.mpr ⟨rfl, List.forall_mem_cons.mpr ⟨rfl, fun w hw => List.all_eq_true.mp tho_65 w hw⟩⟩⟩
theorem thX11_165_61 : gTh RX11 61 165 65 "java/lang/IllegalStateException" "the child is not complete, or a node would be too deep" := ⟨kw_609, kw_20, List.mem_of_getElem? (i := 16) rfl, thg_65, thn_65, by decide +kernel, by decide +kernel, List.forall_mem_cons.mpr ⟨rfl, List.forall_mem_cons.mpr ⟨rfl, fun w hw => List.all_eq_true.mp tho_65 w hw⟩⟩⟩
theorem gY_X11_nodeAt : gYn yX11_nodeAt 1 := ⟨by decide +kernel, by decide +kernel, by decide +kernel⟩
theorem lkX11_139 : gLV RX11 139 yX11_nodeAt cX11_nodeAt 2 (some (FieldType.object "AnimationController$Node")) 1 := ⟨kw_905, kw_907, kp_23, kw_1, kw_908, gY_X11_nodeAt⟩
theorem gY_X5_isLine : gYn yX5_isLine 0 := ⟨by decide +kernel, by decide +kernel, by decide +kernel⟩
theorem lkX11_143 : gLV RX11 143 yX5_isLine cX5_isLine 1 (some FieldType.boolean) 0 := ⟨kw_1002, kw_1003, kw_1004, kw_7, kw_1005, gY_X5_isLine⟩
theorem frX11_149 : gFr RX11 149 8 2 := ⟨RX5, TX5, 5, rfl, by decide, kw_123, inwX5⟩
theorem gY_X5_hasPosition : gYn yX5_hasPosition 1 := ⟨by decide +kernel, by decide +kernel, by decide +kernel⟩
theorem lkX11_152 : gLV RX11 152 yX5_hasPosition cX5_hasPosition 3 (some FieldType.boolean) 1 := ⟨kw_1007, kw_1008, kw_1009, kw_7, kw_1010, gY_X5_hasPosition⟩
theorem gY_X5_isComplete : gYn yX5_isComplete 0 := ⟨by decide +kernel, by decide +kernel, by decide +kernel⟩
theorem lkX11_158 : gLV RX11 158 yX5_isComplete cX5_isComplete 1 (some FieldType.boolean) 0 := ⟨kw_912, kw_913, kw_914, kw_7, kw_915, gY_X5_isComplete⟩
theorem gY_X4_greatestDepthWith : gYn yX4_greatestDepthWith 2 := ⟨by decide +kernel, by decide +kernel, by decide +kernel⟩
theorem lkX11_161 : gLV RX11 161 yX4_greatestDepthWith cX4_greatestDepthWith 6 (some FieldType.int) 2 := ⟨kw_1014, kw_1015, kw_1016, kw_2, kw_1017, gY_X4_greatestDepthWith⟩
theorem gY_X5_insertChild : gYn yX5_insertChild 2 := ⟨by decide +kernel, by decide +kernel, by decide +kernel⟩
theorem lkX11_167 : gLV RX11 167 yX5_insertChild cX5_insertChild 4 none 2 := ⟨kw_1029, kw_1030, kw_1031, kw_7, kw_1032, gY_X5_insertChild⟩
theorem thX11_171_47 : gTh RX11 47 171 51 "java/lang/IllegalArgumentException" "speed or group is out of range" := ⟨kw_530, kw_19, List.mem_of_getElem? (i := 10) rfl, thg_51, thn_51, by decide +kernel, by decide +kernel, List.forall_mem_cons.mpr ⟨rfl, List.forall_mem_cons.mpr ⟨rfl, fun w hw => List.all_eq_true.mp tho_51 w hw⟩⟩⟩
theorem thX11_176_61 : gTh RX11 61 176 65 "java/lang/IllegalStateException" "the node is not complete, or there are 10 states" := ⟨kw_609, kw_20, List.mem_of_getElem? (i := 11) rfl, thg_65, thn_65, by decide +kernel, by decide +kernel, List.forall_mem_cons.mpr ⟨rfl, List.forall_mem_cons.mpr ⟨rfl, fun w hw => List.all_eq_true.mp tho_65 w hw⟩⟩⟩
theorem frX11_187 : gFr RX11 187 10 0 := ⟨RX7, TX7, 5, rfl, by decide, kw_143, inwX7⟩
theorem frX11_173 : gFr RX11 173 7 4 := ⟨RX4, TX4, 8, rfl, by decide, kw_175, inwX4⟩
theorem nwX11_178 : gNw RX11 178 10 5 [.int 0, .null, .int 0, .int 0, .int 0] := ⟨RX7, TX7, tyX7, rfl, kw_584, kw_77, kw_6, inwX7, tyX7_ok, by decide +kernel⟩
theorem lkX11_180 : gLI RX11 180 yX7_init cX7_init 6 5 := ⟨kw_918, kw_139, kw_6, kw_140, rfl, gY_X7_init⟩
theorem gY_X3_beginIn : gYn yX3_beginIn 1 := ⟨by decide +kernel, by decide +kernel, by decide +kernel⟩
theorem lkX11_183 : gLV RX11 183 yX3_beginIn cX3_beginIn 2 none 1 := ⟨kw_585, kw_586, kw_587, kw_11, kw_588, gY_X3_beginIn⟩
theorem thX11_436_378 : gTh RX11 378 436 382 "java/lang/IndexOutOfBoundsException" "no such state" := ⟨kw_454, kw_25, List.mem_of_getElem? (i := 5) rfl, thg_382, thn_382, by decide +kernel, by decide +kernel, List.forall_mem_cons.mpr ⟨rfl, List.forall_mem_cons.mpr ⟨rfl, fun w hw => List.all_eq_true.mp tho_382 w hw⟩⟩⟩
theorem thX11_194_47 : gTh RX11 47 194 51 "java/lang/IllegalArgumentException" "duration is out of range" := ⟨kw_530, kw_19, List.mem_of_getElem? (i := 12) rfl, thg_51, thn_51, by decide +kernel, by decide +kernel, List.forall_mem_cons.mpr ⟨rfl, List.forall_mem_cons.mpr ⟨rfl, fun w hw => List.all_eq_true.mp tho_51 w hw⟩⟩⟩
theorem gY_X11_stateAt : gYn yX11_stateAt 1 := ⟨by decide +kernel, by decide +kernel, by decide +kernel⟩
theorem lkX11_190 : gLV RX11 190 yX11_stateAt cX11_stateAt 2 (some (FieldType.object "AnimationController$State")) 1 := ⟨kw_851, kw_853, kp_21, kw_1, kw_854, gY_X11_stateAt⟩
theorem frX11_196 : gFr RX11 196 7 5 := ⟨RX4, TX4, 8, rfl, by decide, kw_178, inwX4⟩
theorem nwX11_201 : gNw RX11 201 12 12 [.int 0, .null, .null, .int 0, .int 0, .int 0, .int 0, .int 0, .null, .null, .null, .int 0] := ⟨RX9, TX9, tyX9, rfl, kw_989, kw_209, kw_10, inwX9, tyX9_ok, by decide +kernel⟩
theorem lkX11_203 : gLI RX11 203 yX9_init cX9_init 3 2 := ⟨kw_990, kw_211, kw_10, kw_212, rfl, gY_X9_init⟩
theorem gY_X9_begin : gYn yX9_begin 3 := ⟨by decide +kernel, by decide +kernel, by decide +kernel⟩
theorem lkX11_206 : gLV RX11 206 yX9_begin cX9_begin 4 none 3 := ⟨kw_991, kw_992, kw_993, kw_10, kw_994, gY_X9_begin⟩
theorem frX11_210 : gFr RX11 210 12 0 := ⟨RX9, TX9, 12, rfl, by decide, kw_216, inwX9⟩
theorem thX11_199_61 : gTh RX11 61 199 65 "java/lang/IllegalStateException" "there are 24 transitions" := ⟨kw_609, kw_20, List.mem_of_getElem? (i := 13) rfl, thg_65, thn_65, by decide +kernel, by decide +kernel, List.forall_mem_cons.mpr ⟨rfl, List.forall_mem_cons.mpr ⟨rfl, fun w hw => List.all_eq_true.mp tho_65 w hw⟩⟩⟩
theorem thX11_438_378 : gTh RX11 378 438 382 "java/lang/IndexOutOfBoundsException" "no such transition" := ⟨kw_454, kw_25, List.mem_of_getElem? (i := 26) rfl, thg_382, thn_382, by decide +kernel, by decide +kernel, List.forall_mem_cons.mpr ⟨rfl, List.forall_mem_cons.mpr ⟨rfl, fun w hw => List.all_eq_true.mp tho_382 w hw⟩⟩⟩
theorem thX11_215_47 : gTh RX11 47 215 51 "java/lang/IllegalArgumentException" "exit or start is out of range" := ⟨kw_530, kw_19, List.mem_of_getElem? (i := 27) rfl, thg_51, thn_51, by decide +kernel, by decide +kernel, List.forall_mem_cons.mpr ⟨rfl, List.forall_mem_cons.mpr ⟨rfl, fun w hw => List.all_eq_true.mp tho_51 w hw⟩⟩⟩
theorem flX11_223 : gFl RX11 223 12 4 .int false := ⟨RX9, TX9, 12, tyX9, rfl, by decide, kw_226, inwX9, tyX9_ok, nmX9, by decide +kernel, rfl, fun z => Bool.noConfusion z⟩
theorem flX11_226 : gFl RX11 226 12 5 .int false := ⟨RX9, TX9, 12, tyX9, rfl, by decide, kw_228, inwX9, tyX9_ok, nmX9, by decide +kernel, rfl, fun z => Bool.noConfusion z⟩
theorem gY_X11_transitionAt : gYn yX11_transitionAt 1 := ⟨by decide +kernel, by decide +kernel, by decide +kernel⟩
theorem lkX11_211 : gLV RX11 211 yX11_transitionAt cX11_transitionAt 2 (some (FieldType.object "AnimationController$Transition")) 1 := ⟨kw_1331, kw_1333, kp_31, kw_1, kw_1334, gY_X11_transitionAt⟩
theorem flX11_217 : gFl RX11 217 12 1 (.object "AnimationController$State") false := ⟨RX9, TX9, 12, tyX9, rfl, by decide, kw_219, inwX9, tyX9_ok, nmX9, by decide +kernel, rfl, fun z => Bool.noConfusion z⟩
theorem thX11_221_61 : gTh RX11 61 221 65 "java/lang/IllegalStateException" "a transition from any state has no exit" := ⟨kw_609, kw_20, List.mem_of_getElem? (i := 28) rfl, thg_65, thn_65, by decide +kernel, by decide +kernel, List.forall_mem_cons.mpr ⟨rfl, List.forall_mem_cons.mpr ⟨rfl, fun w hw => List.all_eq_true.mp tho_65 w hw⟩⟩⟩
theorem thX11_229_47 : gTh RX11 47 229 51 "java/lang/IllegalArgumentException" "mode is out of range" := ⟨kw_530, kw_19, List.mem_of_getElem? (i := 29) rfl, thg_51, thn_51, by decide +kernel, by decide +kernel, List.forall_mem_cons.mpr ⟨rfl, List.forall_mem_cons.mpr ⟨rfl, fun w hw => List.all_eq_true.mp tho_51 w hw⟩⟩⟩
theorem flX11_231 : gFl RX11 231 12 6 .int false := ⟨RX9, TX9, 12, tyX9, rfl, by decide, kw_232, inwX9, tyX9_ok, nmX9, by decide +kernel, rfl, fun z => Bool.noConfusion z⟩
theorem flX11_234 : gFl RX11 234 12 7 .boolean false := ⟨RX9, TX9, 12, tyX9, rfl, by decide, kw_235, inwX9, tyX9_ok, nmX9, by decide +kernel, rfl, fun z => Bool.noConfusion z⟩
theorem gY_X4_isCondition : gYn yX4_isCondition 3 := ⟨by decide +kernel, by decide +kernel, by decide +kernel⟩
theorem lkX11_238 : gLV RX11 238 yX4_isCondition cX4_isCondition 4 (some FieldType.boolean) 3 := ⟨kw_1347, kw_1348, kw_1349, kw_2, kw_1350, gY_X4_isCondition⟩
theorem flX11_244 : gFl RX11 244 12 11 .int false := ⟨RX9, TX9, 12, tyX9, rfl, by decide, kw_242, inwX9, tyX9_ok, nmX9, by decide +kernel, rfl, fun z => Bool.noConfusion z⟩
theorem gY_X9_appendCondition : gYn yX9_appendCondition 3 := ⟨by decide +kernel, by decide +kernel, by decide +kernel⟩
theorem lkX11_249 : gLV RX11 249 yX9_appendCondition cX9_appendCondition 4 none 3 := ⟨kw_1354, kw_1355, kw_1356, kw_10, kw_1357, gY_X9_appendCondition⟩
theorem thX11_247_61 : gTh RX11 61 247 65 "java/lang/IllegalStateException" "the transition has 3 conditions" := ⟨kw_609, kw_20, List.mem_of_getElem? (i := 31) rfl, thg_65, thn_65, by decide +kernel, by decide +kernel, List.forall_mem_cons.mpr ⟨rfl, List.forall_mem_cons.mpr ⟨rfl, fun w hw => List.all_eq_true.mp tho_65 w hw⟩⟩⟩
theorem thX11_242_47 : gTh RX11 47 242 51 "java/lang/IllegalArgumentException" "operator or value is out of range" := ⟨kw_530, kw_19, List.mem_of_getElem? (i := 30) rfl, thg_51, thn_51, by decide +kernel, by decide +kernel, List.forall_mem_cons.mpr ⟨rfl, List.forall_mem_cons.mpr ⟨rfl, fun w hw => List.all_eq_true.mp tho_51 w hw⟩⟩⟩
theorem thX11_428_47 : gTh RX11 47 428 51 "java/lang/IllegalArgumentException" "ticks is out of range" := ⟨kw_530, kw_19, List.mem_of_getElem? (i := 4) rfl, thg_51, thn_51, by decide +kernel, by decide +kernel, List.forall_mem_cons.mpr ⟨rfl, List.forall_mem_cons.mpr ⟨rfl, fun w hw => List.all_eq_true.mp tho_51 w hw⟩⟩⟩
theorem lkX11_296 : gLV RX11 296 yJx4a65c_isEmpty_aae02 cJx4a65c_isEmpty_aae02 1 (some FieldType.boolean) 0 := ⟨kw_566, kw_567, kw_568, kw_5, kw_569, gY_Jx4a65c_isEmpty_aae02⟩
theorem thX11_426_61 : gTh RX11 61 426 65 "java/lang/IllegalStateException" "there are no states" := ⟨kw_609, kw_20, List.mem_of_getElem? (i := 2) rfl, thg_65, thn_65, by decide +kernel, by decide +kernel, List.forall_mem_cons.mpr ⟨rfl, List.forall_mem_cons.mpr ⟨rfl, fun w hw => List.all_eq_true.mp tho_65 w hw⟩⟩⟩
theorem frX11_278 : gFr RX11 278 6 10 := ⟨RX3, TX3, 13, rfl, by decide, kw_386, inwX3⟩
theorem flX11_282 : gFl RX11 282 5 1 .int false := ⟨RX2, TX2, 2, tyX2, rfl, by decide, kw_324, inwX2, tyX2_ok, nmX2, by decide +kernel, rfl, fun z => Bool.noConfusion z⟩
theorem gY_X3_runTick : gYn yX3_runTick 0 := ⟨by decide +kernel, by decide +kernel, by decide +kernel⟩
theorem lkX11_287 : gLV RX11 287 yX3_runTick cX3_runTick 3 none 0 := ⟨kw_733, kw_734, kw_735, kw_11, kw_736, gY_X3_runTick⟩
theorem gY_X11_requireTicks : gYn yX11_requireTicks 1 := ⟨by decide +kernel, by decide +kernel, by decide +kernel⟩
theorem lkX11_272 : gLV RX11 272 yX11_requireTicks cX11_requireTicks 2 none 1 := ⟨kw_711, kw_713, kp_8, kw_1, kw_714, gY_X11_requireTicks⟩
theorem gY_X11_requireStates : gYn yX11_requireStates 0 := ⟨by decide +kernel, by decide +kernel, by decide +kernel⟩
theorem lkX11_275 : gLV RX11 275 yX11_requireStates cX11_requireStates 1 none 0 := ⟨kw_605, kw_607, kp_3, kw_1, kw_608, gY_X11_requireStates⟩
theorem flX11_290 : gFl RX11 290 6 9 .int false := ⟨RX3, TX3, 13, tyX3, rfl, by decide, kw_384, inwX3, tyX3_ok, nmX3, by decide +kernel, rfl, fun z => Bool.noConfusion z⟩
theorem gY_X3_forget : gYn yX3_forget 0 := ⟨by decide +kernel, by decide +kernel, by decide +kernel⟩
theorem lkX11_293 : gLV RX11 293 yX3_forget cX3_forget 2 none 0 := ⟨kw_562, kw_563, kw_564, kw_11, kw_565, gY_X3_forget⟩
theorem frX11_299 : gFr RX11 299 7 7 := ⟨RX4, TX4, 8, rfl, by decide, kw_184, inwX4⟩
theorem frX11_306 : gFr RX11 306 6 2 := ⟨RX3, TX3, 13, rfl, by decide, kw_372, inwX3⟩
theorem flX11_310 : gFl RX11 310 11 0 (.object "AnimationController$State") false := ⟨RX8, TX8, 6, tyX8, rfl, by decide, kw_348, inwX8, tyX8_ok, nmX8, by decide +kernel, rfl, fun z => Bool.noConfusion z⟩
theorem flX11_315 : gFl RX11 315 6 4 (.object "AnimationController$Transition") false := ⟨RX3, TX3, 13, tyX3, rfl, by decide, kw_376, inwX3, tyX3_ok, nmX3, by decide +kernel, rfl, fun z => Bool.noConfusion z⟩
theorem frX11_319 : gFr RX11 319 6 3 := ⟨RX3, TX3, 13, rfl, by decide, kw_374, inwX3⟩
theorem flX11_322 : gFl RX11 322 6 5 .int false := ⟨RX3, TX3, 13, tyX3, rfl, by decide, kw_378, inwX3, tyX3_ok, nmX3, by decide +kernel, rfl, fun z => Bool.noConfusion z⟩
theorem flX11_325 : gFl RX11 325 6 6 .boolean false := ⟨RX3, TX3, 13, tyX3, rfl, by decide, kw_380, inwX3, tyX3_ok, nmX3, by decide +kernel, rfl, fun z => Bool.noConfusion z⟩
theorem thX11_332_61 : gTh RX11 61 332 65 "java/lang/IllegalStateException" "the machine is idle" := ⟨kw_609, kw_20, List.mem_of_getElem? (i := 3) rfl, thg_65, thn_65, by decide +kernel, by decide +kernel, List.forall_mem_cons.mpr ⟨rfl, List.forall_mem_cons.mpr ⟨rfl, fun w hw => List.all_eq_true.mp tho_65 w hw⟩⟩⟩
theorem lkX11_328 : gLV RX11 328 yX8_progressNow cX8_progressNow 1 (some FieldType.long) 0 := ⟨kw_633, kw_634, kw_635, kw_15, kw_636, gY_X8_progressNow⟩
theorem lkX11_334 : gLV RX11 334 yX3_lengthOf cX3_lengthOf 5 (some FieldType.int) 1 := ⟨kw_1401, kw_797, kw_798, kw_11, kw_799, gY_X3_lengthOf⟩
theorem frX11_338 : gFr RX11 338 6 11 := ⟨RX3, TX3, 13, rfl, by decide, kw_388, inwX3⟩
theorem frX11_342 : gFr RX11 342 10 1 := ⟨RX7, TX7, 5, rfl, by decide, kw_147, inwX7⟩
theorem frX11_347 : gFr RX11 347 6 1 := ⟨RX3, TX3, 13, rfl, by decide, kw_370, inwX3⟩
theorem lkX11_350 : gLV RX11 350 yX0_fill cX0_fill 5 none 3 := ⟨kw_1395, kw_657, kw_658, kw_14, kw_659, gY_X0_fill⟩
theorem frX11_356 : gFr RX11 356 4 0 := ⟨RX1, TX1, 5, rfl, by decide, kw_89, inwX1⟩
theorem lkX11_357 : gLV RX11 357 yX0_weightOf cX0_weightOf 2 (some FieldType.int) 1 := ⟨kw_1396, kw_682, kw_683, kw_14, kw_684, gY_X0_weightOf⟩
theorem frX11_440 : gFr RX11 440 6 12 := ⟨RX3, TX3, 13, rfl, by decide, kw_390, inwX3⟩
theorem lkX11_444 : gLV RX11 444 yX3_fillPose cX3_fillPose 2 none 0 := ⟨kw_647, kw_648, kw_649, kw_11, kw_650, gY_X3_fillPose⟩
theorem flX11_372 : gFl RX11 372 9 3 .int false := ⟨RX6, TX6, 4, tyX6, rfl, by decide, kw_303, inwX6, tyX6_ok, nmX6, by decide +kernel, rfl, fun z => Bool.noConfusion z⟩
theorem gY_X11_presentPose : gYn yX11_presentPose 0 := ⟨by decide +kernel, by decide +kernel, by decide +kernel⟩
theorem lkX11_368 : gLV RX11 368 yX11_presentPose cX11_presentPose 1 (some (FieldType.object "AnimationController$Pose")) 0 := ⟨kw_643, kw_645, kp_4, kw_1, kw_646, gY_X11_presentPose⟩
theorem thX11_380_378 : gTh RX11 378 380 382 "java/lang/IndexOutOfBoundsException" "no such entry" := ⟨kw_454, kw_25, List.mem_of_getElem? (i := 32) rfl, thg_382, thn_382, by decide +kernel, by decide +kernel, List.forall_mem_cons.mpr ⟨rfl, List.forall_mem_cons.mpr ⟨rfl, fun w hw => List.all_eq_true.mp tho_382 w hw⟩⟩⟩
theorem frX11_376 : gFr RX11 376 9 0 := ⟨RX6, TX6, 4, rfl, by decide, kw_296, inwX6⟩
theorem frX11_383 : gFr RX11 383 9 1 := ⟨RX6, TX6, 4, rfl, by decide, kw_298, inwX6⟩
theorem frX11_386 : gFr RX11 386 9 2 := ⟨RX6, TX6, 4, rfl, by decide, kw_300, inwX6⟩
theorem thX11_392_378 : gTh RX11 378 392 382 "java/lang/IndexOutOfBoundsException" "no such event" := ⟨kw_454, kw_25, List.mem_of_getElem? (i := 33) rfl, thg_382, thn_382, by decide +kernel, by decide +kernel, List.forall_mem_cons.mpr ⟨rfl, List.forall_mem_cons.mpr ⟨rfl, fun w hw => List.all_eq_true.mp tho_382 w hw⟩⟩⟩
theorem thX11_394_47 : gTh RX11 47 394 51 "java/lang/IllegalArgumentException" "what is out of range" := ⟨kw_530, kw_19, List.mem_of_getElem? (i := 8) rfl, thg_51, thn_51, by decide +kernel, by decide +kernel, List.forall_mem_cons.mpr ⟨rfl, List.forall_mem_cons.mpr ⟨rfl, fun w hw => List.all_eq_true.mp tho_51 w hw⟩⟩⟩
theorem lkX11_389 : gLV RX11 389 yX2_kept cX2_kept 1 (some FieldType.int) 0 := ⟨kw_875, kw_876, kw_877, kw_13, kw_878, gY_X2_kept⟩
theorem gY_X2_propertyOf : gYn yX2_propertyOf 2 := ⟨by decide +kernel, by decide +kernel, by decide +kernel⟩
theorem lkX11_396 : gLV RX11 396 yX2_propertyOf cX2_propertyOf 3 (some FieldType.int) 2 := ⟨kw_1425, kw_1426, kw_1427, kw_13, kw_1428, gY_X2_propertyOf⟩
theorem gY_X3_copyFrom : gYn yX3_copyFrom 1 := ⟨by decide +kernel, by decide +kernel, by decide +kernel⟩
theorem lkX11_400 : gLV RX11 400 yX3_copyFrom cX3_copyFrom 2 none 1 := ⟨kw_716, kw_717, kw_718, kw_11, kw_719, gY_X3_copyFrom⟩
theorem thX11_430_47 : gTh RX11 47 430 51 "java/lang/IllegalArgumentException" "slot is out of range" := ⟨kw_530, kw_19, List.mem_of_getElem? (i := 6) rfl, thg_51, thn_51, by decide +kernel, by decide +kernel, List.forall_mem_cons.mpr ⟨rfl, List.forall_mem_cons.mpr ⟨rfl, fun w hw => List.all_eq_true.mp tho_51 w hw⟩⟩⟩
theorem gY_X11_requireSlot : gYn yX11_requireSlot 1 := ⟨by decide +kernel, by decide +kernel, by decide +kernel⟩
theorem lkX11_414 : gLV RX11 414 yX11_requireSlot cX11_requireSlot 2 none 1 := ⟨kw_861, kw_863, kp_22, kw_1, kw_864, gY_X11_requireSlot⟩
theorem thX11_417_61 : gTh RX11 61 417 65 "java/lang/IllegalStateException" "nothing is kept in the slot" := ⟨kw_609, kw_20, List.mem_of_getElem? (i := 7) rfl, thg_65, thn_65, by decide +kernel, by decide +kernel, List.forall_mem_cons.mpr ⟨rfl, List.forall_mem_cons.mpr ⟨rfl, fun w hw => List.all_eq_true.mp tho_65 w hw⟩⟩⟩
theorem flX11_260 : gFl RX11 260 13 2 .int false := ⟨RX10, TX10, 5, tyX10, rfl, by decide, kw_270, inwX10, tyX10_ok, nmX10, by decide +kernel, rfl, fun z => Bool.noConfusion z⟩
theorem gcs : gCs := ⟨ku_1449, ku_1448, ku_1447, ku_1451⟩
theorem ggc : gGC RJ7 86 := ⟨kw_948, ku_1464, kw_1463, kw_949, kw_969⟩
