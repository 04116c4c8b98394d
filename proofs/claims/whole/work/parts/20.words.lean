theorem kp_44 : Cond.selects "AnimationControllerModel" ⟨"AnimationControllerModel", "fails", "(I)I"⟩ ⟨"AnimationControllerModel", "fails", "(I)I"⟩ ∈ gW := gW_p 44 (by decide +kernel) rfl
theorem kp_45 : Cond.selects "AnimationControllerModel" ⟨"AnimationControllerModel", "isParameter", "(I)Z"⟩ ⟨"AnimationControllerModel", "isParameter", "(I)Z"⟩ ∈ gW := gW_p 45 (by decide +kernel) rfl
theorem kp_46 : Cond.selects "AnimationControllerModel" ⟨"AnimationControllerModel", "isClip", "(I)Z"⟩ ⟨"AnimationControllerModel", "isClip", "(I)Z"⟩ ∈ gW := gW_p 46 (by decide +kernel) rfl
theorem kp_47 : Cond.selects "AnimationControllerModel" ⟨"AnimationControllerModel", "isNode", "(I)Z"⟩ ⟨"AnimationControllerModel", "isNode", "(I)Z"⟩ ∈ gW := gW_p 47 (by decide +kernel) rfl
theorem kp_48 : Cond.selects "AnimationControllerModel" ⟨"AnimationControllerModel", "isComplete", "(I)Z"⟩ ⟨"AnimationControllerModel", "isComplete", "(I)Z"⟩ ∈ gW := gW_p 48 (by decide +kernel) rfl
theorem kp_49 : Cond.selects "AnimationControllerModel" ⟨"AnimationControllerModel", "greatestDepth", "(II)I"⟩ ⟨"AnimationControllerModel", "greatestDepth", "(II)I"⟩ ∈ gW := gW_p 49 (by decide +kernel) rfl
theorem kp_50 : Cond.selects "AnimationControllerModel" ⟨"AnimationControllerModel", "begins", "()V"⟩ ⟨"AnimationControllerModel", "begins", "()V"⟩ ∈ gW := gW_p 50 (by decide +kernel) rfl
theorem kp_51 : Cond.selects "AnimationControllerModel" ⟨"AnimationControllerModel", "track", "(III)V"⟩ ⟨"AnimationControllerModel", "track", "(III)V"⟩ ∈ gW := gW_p 51 (by decide +kernel) rfl
theorem kp_52 : Cond.selects "AnimationControllerModel" ⟨"AnimationControllerModel", "isState", "(I)Z"⟩ ⟨"AnimationControllerModel", "isState", "(I)Z"⟩ ∈ gW := gW_p 52 (by decide +kernel) rfl
theorem kp_53 : Cond.selects "AnimationControllerModel" ⟨"AnimationControllerModel", "newTransition", "(III)V"⟩ ⟨"AnimationControllerModel", "newTransition", "(III)V"⟩ ∈ gW := gW_p 53 (by decide +kernel) rfl
theorem kp_54 : Cond.selects "AnimationControllerModel" ⟨"AnimationControllerModel", "isTransition", "(I)Z"⟩ ⟨"AnimationControllerModel", "isTransition", "(I)Z"⟩ ∈ gW := gW_p 54 (by decide +kernel) rfl
theorem kp_55 : Cond.selects "AnimationControllerModel" ⟨"AnimationControllerModel", "of", "(II)I"⟩ ⟨"AnimationControllerModel", "of", "(II)I"⟩ ∈ gW := gW_p 55 (by decide +kernel) rfl
theorem kp_56 : Cond.selects "AnimationControllerModel" ⟨"AnimationControllerModel", "condition", "(IIII)V"⟩ ⟨"AnimationControllerModel", "condition", "(IIII)V"⟩ ∈ gW := gW_p 56 (by decide +kernel) rfl
theorem kp_57 : Cond.selects "AnimationControllerModel" ⟨"AnimationControllerModel", "readsAll", "(Z)Z"⟩ ⟨"AnimationControllerModel", "readsAll", "(Z)Z"⟩ ∈ gW := gW_p 57 (by decide +kernel) rfl
theorem kp_58 : Cond.selects "AnimationControllerModel" ⟨"AnimationControllerModel", "readsTransition", "()V"⟩ ⟨"AnimationControllerModel", "readsTransition", "()V"⟩ ∈ gW := gW_p 58 (by decide +kernel) rfl
theorem kp_59 : Cond.selects "AnimationControllerModel" ⟨"AnimationControllerModel", "skips", "()V"⟩ ⟨"AnimationControllerModel", "skips", "()V"⟩ ∈ gW := gW_p 59 (by decide +kernel) rfl
theorem kp_60 : Cond.selects "AnimationControllerModel" ⟨"AnimationControllerModel", "readsState", "(Z)I"⟩ ⟨"AnimationControllerModel", "readsState", "(Z)I"⟩ ∈ gW := gW_p 60 (by decide +kernel) rfl
theorem kp_61 : Cond.selects "AnimationControllerModel" ⟨"AnimationControllerModel", "here", "(I)Z"⟩ ⟨"AnimationControllerModel", "here", "(I)Z"⟩ ∈ gW := gW_p 61 (by decide +kernel) rfl
theorem kp_62 : Cond.selects "AnimationControllerModel" ⟨"AnimationControllerModel", "reads", "(I)V"⟩ ⟨"AnimationControllerModel", "reads", "(I)V"⟩ ∈ gW := gW_p 62 (by decide +kernel) rfl
theorem kp_63 : Cond.selects "AnimationControllerModel" ⟨"AnimationControllerModel", "readsNumber", "(I)V"⟩ ⟨"AnimationControllerModel", "readsNumber", "(I)V"⟩ ∈ gW := gW_p 63 (by decide +kernel) rfl
theorem kp_64 : Cond.selects "AnimationControllerModel" ⟨"AnimationControllerModel", "readsAttribute", "()V"⟩ ⟨"AnimationControllerModel", "readsAttribute", "()V"⟩ ∈ gW := gW_p 64 (by decide +kernel) rfl
theorem kp_65 : Cond.selects "AnimationControllerModel" ⟨"AnimationControllerModel", "readsCondition", "()V"⟩ ⟨"AnimationControllerModel", "readsCondition", "()V"⟩ ∈ gW := gW_p 65 (by decide +kernel) rfl
theorem kp_66 : Cond.selects "AnimationControllerModel" ⟨"AnimationControllerModel", "sets", "(II)V"⟩ ⟨"AnimationControllerModel", "sets", "(II)V"⟩ ∈ gW := gW_p 66 (by decide +kernel) rfl
theorem kp_67 : Cond.selects "AnimationControllerModel" ⟨"AnimationControllerModel", "poses", "()V"⟩ ⟨"AnimationControllerModel", "poses", "()V"⟩ ∈ gW := gW_p 67 (by decide +kernel) rfl
theorem kp_68 : Cond.selects "AnimationControllerModel" ⟨"AnimationControllerModel", "addsTrack", "(IJ)V"⟩ ⟨"AnimationControllerModel", "addsTrack", "(IJ)V"⟩ ∈ gW := gW_p 68 (by decide +kernel) rfl
theorem kp_69 : Cond.selects "AnimationControllerModel" ⟨"AnimationControllerModel", "blends", "(IJ)V"⟩ ⟨"AnimationControllerModel", "blends", "(IJ)V"⟩ ∈ gW := gW_p 69 (by decide +kernel) rfl
theorem kp_70 : Cond.selects "AnimationControllerModel" ⟨"AnimationControllerModel", "opens", "(IJI)I"⟩ ⟨"AnimationControllerModel", "opens", "(IJI)I"⟩ ∈ gW := gW_p 70 (by decide +kernel) rfl
theorem kp_71 : Cond.selects "AnimationControllerModel" ⟨"AnimationControllerModel", "addsEntry", "(IIJ)V"⟩ ⟨"AnimationControllerModel", "addsEntry", "(IIJ)V"⟩ ∈ gW := gW_p 71 (by decide +kernel) rfl
theorem kp_72 : Cond.selects "AnimationControllerModel" ⟨"AnimationControllerModel", "shareOfTarget", "()J"⟩ ⟨"AnimationControllerModel", "shareOfTarget", "()J"⟩ ∈ gW := gW_p 72 (by decide +kernel) rfl
theorem kp_73 : Cond.selects "AnimationControllerModel" ⟨"AnimationControllerModel", "addsFrozen", "(J)V"⟩ ⟨"AnimationControllerModel", "addsFrozen", "(J)V"⟩ ∈ gW := gW_p 73 (by decide +kernel) rfl
theorem kp_74 : Cond.selects "AnimationControllerModel" ⟨"AnimationControllerModel", "hasEntry", "(I)Z"⟩ ⟨"AnimationControllerModel", "hasEntry", "(I)Z"⟩ ∈ gW := gW_p 74 (by decide +kernel) rfl
theorem kp_75 : Cond.selects "AnimationControllerModel" ⟨"AnimationControllerModel", "listOf", "(I)I"⟩ ⟨"AnimationControllerModel", "listOf", "(I)I"⟩ ∈ gW := gW_p 75 (by decide +kernel) rfl
theorem kp_76 : Cond.selects "AnimationControllerModel" ⟨"AnimationControllerModel", "inList", "(II)Z"⟩ ⟨"AnimationControllerModel", "inList", "(II)Z"⟩ ∈ gW := gW_p 76 (by decide +kernel) rfl
theorem kp_77 : Cond.selects "AnimationControllerModel" ⟨"AnimationControllerModel", "isBack", "(II)Z"⟩ ⟨"AnimationControllerModel", "isBack", "(II)Z"⟩ ∈ gW := gW_p 77 (by decide +kernel) rfl
theorem kp_78 : Cond.selects "AnimationControllerModel" ⟨"AnimationControllerModel", "inSource", "(I)Z"⟩ ⟨"AnimationControllerModel", "inSource", "(I)Z"⟩ ∈ gW := gW_p 78 (by decide +kernel) rfl
theorem kp_79 : Cond.selects "AnimationControllerModel" ⟨"AnimationControllerModel", "inTarget", "(I)Z"⟩ ⟨"AnimationControllerModel", "inTarget", "(I)Z"⟩ ∈ gW := gW_p 79 (by decide +kernel) rfl
theorem kp_80 : Cond.selects "AnimationControllerModel" ⟨"AnimationControllerModel", "against", "(II)I"⟩ ⟨"AnimationControllerModel", "against", "(II)I"⟩ ∈ gW := gW_p 80 (by decide +kernel) rfl
theorem kp_81 : Cond.selects "AnimationControllerModel" ⟨"AnimationControllerModel", "progressOf", "(I)J"⟩ ⟨"AnimationControllerModel", "progressOf", "(I)J"⟩ ∈ gW := gW_p 81 (by decide +kernel) rfl
theorem kp_82 : Cond.selects "AnimationControllerModel" ⟨"AnimationControllerModel", "holds", "(II)Z"⟩ ⟨"AnimationControllerModel", "holds", "(II)Z"⟩ ∈ gW := gW_p 82 (by decide +kernel) rfl
theorem kp_83 : Cond.selects "AnimationControllerModel" ⟨"AnimationControllerModel", "ticks", "()V"⟩ ⟨"AnimationControllerModel", "ticks", "()V"⟩ ∈ gW := gW_p 83 (by decide +kernel) rfl
theorem kp_84 : Cond.selects "AnimationControllerModel" ⟨"AnimationControllerModel", "takes", "()Z"⟩ ⟨"AnimationControllerModel", "takes", "()Z"⟩ ∈ gW := gW_p 84 (by decide +kernel) rfl
theorem kp_85 : Cond.selects "AnimationControllerModel" ⟨"AnimationControllerModel", "firstOf", "(I)I"⟩ ⟨"AnimationControllerModel", "firstOf", "(I)I"⟩ ∈ gW := gW_p 85 (by decide +kernel) rfl
theorem kp_86 : Cond.selects "AnimationControllerModel" ⟨"AnimationControllerModel", "freezes", "(I)V"⟩ ⟨"AnimationControllerModel", "freezes", "(I)V"⟩ ∈ gW := gW_p 86 (by decide +kernel) rfl
theorem kp_87 : Cond.selects "AnimationControllerModel" ⟨"AnimationControllerModel", "copiesTrack", "(II)V"⟩ ⟨"AnimationControllerModel", "copiesTrack", "(II)V"⟩ ∈ gW := gW_p 87 (by decide +kernel) rfl
theorem kp_88 : Cond.selects "AnimationControllerModel" ⟨"AnimationControllerModel", "goesTo", "(I)V"⟩ ⟨"AnimationControllerModel", "goesTo", "(I)V"⟩ ∈ gW := gW_p 88 (by decide +kernel) rfl
theorem kp_89 : Cond.selects "AnimationControllerModel" ⟨"AnimationControllerModel", "isSynced", "()Z"⟩ ⟨"AnimationControllerModel", "isSynced", "()Z"⟩ ∈ gW := gW_p 89 (by decide +kernel) rfl
theorem kp_90 : Cond.selects "AnimationControllerModel" ⟨"AnimationControllerModel", "ends", "()V"⟩ ⟨"AnimationControllerModel", "ends", "()V"⟩ ∈ gW := gW_p 90 (by decide +kernel) rfl
theorem kp_91 : Cond.selects "AnimationControllerModel" ⟨"AnimationControllerModel", "stepOf", "(I)J"⟩ ⟨"AnimationControllerModel", "stepOf", "(I)J"⟩ ∈ gW := gW_p 91 (by decide +kernel) rfl
theorem kp_92 : Cond.selects "AnimationControllerModel" ⟨"AnimationControllerModel", "lengthOf", "(I)J"⟩ ⟨"AnimationControllerModel", "lengthOf", "(I)J"⟩ ∈ gW := gW_p 92 (by decide +kernel) rfl
theorem kp_93 : Cond.selects "AnimationControllerModel" ⟨"AnimationControllerModel", "advances", "(IJ)V"⟩ ⟨"AnimationControllerModel", "advances", "(IJ)V"⟩ ∈ gW := gW_p 93 (by decide +kernel) rfl
theorem kp_94 : Cond.selects "AnimationControllerModel" ⟨"AnimationControllerModel", "fires", "(IJZJJI)V"⟩ ⟨"AnimationControllerModel", "fires", "(IJZJJI)V"⟩ ∈ gW := gW_p 94 (by decide +kernel) rfl
theorem kp_95 : Cond.selects "AnimationControllerModel" ⟨"AnimationControllerModel", "notes", "(IIII)V"⟩ ⟨"AnimationControllerModel", "notes", "(IIII)V"⟩ ∈ gW := gW_p 95 (by decide +kernel) rfl
theorem kp_96 : Cond.selects "AnimationControllerModel" ⟨"AnimationControllerModel", "advancesBoth", "()V"⟩ ⟨"AnimationControllerModel", "advancesBoth", "()V"⟩ ∈ gW := gW_p 96 (by decide +kernel) rfl
theorem kp_97 : Cond.selects "AnimationControllerModel" ⟨"AnimationControllerModel", "copies", "(II)V"⟩ ⟨"AnimationControllerModel", "copies", "(II)V"⟩ ∈ gW := gW_p 97 (by decide +kernel) rfl
theorem kw_16 : (Cond.initialized "AnimationControllerModel") ∈ gW := gW_n 16 (by decide +kernel) rfl
theorem kw_1608 : (Cond.methodLink "AnimationControllerModel" (1 : Nat) ({ cls := "java/lang/Object", name := "<init>", desc := "()V" } : MethodName)) ∈ gW := gW_n 1608 (by decide +kernel) rfl
theorem kw_1609 : (Cond.fieldLink "AnimationControllerModel" (7 : Nat) "AnimationControllerModel" "m" "[I") ∈ gW := gW_n 1609 (by decide +kernel) rfl
theorem kw_1610 : (Cond.fieldLink "AnimationControllerModel" (13 : Nat) "AnimationControllerModel" "isKept" "[Z") ∈ gW := gW_n 1610 (by decide +kernel) rfl
theorem kw_1611 : (Cond.fieldLink "AnimationControllerModel" (17 : Nat) "AnimationControllerModel" "parKind" "[I") ∈ gW := gW_n 1611 (by decide +kernel) rfl
theorem kw_1612 : (Cond.fieldLink "AnimationControllerModel" (107 : Nat) "AnimationControllerModel" "parameters" "I") ∈ gW := gW_n 1612 (by decide +kernel) rfl
theorem kw_1613 : (Cond.fieldLink "AnimationControllerModel" (20 : Nat) "AnimationControllerModel" "clipLength" "[I") ∈ gW := gW_n 1613 (by decide +kernel) rfl
theorem kw_1614 : (Cond.fieldLink "AnimationControllerModel" (23 : Nat) "AnimationControllerModel" "eventMany" "[I") ∈ gW := gW_n 1614 (by decide +kernel) rfl
theorem kw_1615 : (Cond.fieldLink "AnimationControllerModel" (26 : Nat) "AnimationControllerModel" "eventTime" "[I") ∈ gW := gW_n 1615 (by decide +kernel) rfl
theorem kw_1616 : (Cond.fieldLink "AnimationControllerModel" (29 : Nat) "AnimationControllerModel" "eventId" "[I") ∈ gW := gW_n 1616 (by decide +kernel) rfl
theorem kw_1617 : (Cond.fieldLink "AnimationControllerModel" (120 : Nat) "AnimationControllerModel" "clips" "I") ∈ gW := gW_n 1617 (by decide +kernel) rfl
theorem kw_1618 : (Cond.fieldLink "AnimationControllerModel" (32 : Nat) "AnimationControllerModel" "nodeClip" "[I") ∈ gW := gW_n 1618 (by decide +kernel) rfl
theorem kw_1619 : (Cond.fieldLink "AnimationControllerModel" (35 : Nat) "AnimationControllerModel" "nodePar" "[I") ∈ gW := gW_n 1619 (by decide +kernel) rfl
theorem kw_1620 : (Cond.fieldLink "AnimationControllerModel" (38 : Nat) "AnimationControllerModel" "childMany" "[I") ∈ gW := gW_n 1620 (by decide +kernel) rfl
theorem kw_1621 : (Cond.fieldLink "AnimationControllerModel" (41 : Nat) "AnimationControllerModel" "childNode" "[I") ∈ gW := gW_n 1621 (by decide +kernel) rfl
theorem kw_1622 : (Cond.fieldLink "AnimationControllerModel" (44 : Nat) "AnimationControllerModel" "childAt" "[I") ∈ gW := gW_n 1622 (by decide +kernel) rfl
theorem kw_1623 : (Cond.fieldLink "AnimationControllerModel" (128 : Nat) "AnimationControllerModel" "nodes" "I") ∈ gW := gW_n 1623 (by decide +kernel) rfl
theorem kw_1624 : (Cond.fieldLink "AnimationControllerModel" (47 : Nat) "AnimationControllerModel" "motion" "[I") ∈ gW := gW_n 1624 (by decide +kernel) rfl
theorem kw_1625 : (Cond.fieldLink "AnimationControllerModel" (50 : Nat) "AnimationControllerModel" "speed" "[I") ∈ gW := gW_n 1625 (by decide +kernel) rfl
theorem kw_1626 : (Cond.fieldLink "AnimationControllerModel" (53 : Nat) "AnimationControllerModel" "loops" "[Z") ∈ gW := gW_n 1626 (by decide +kernel) rfl
theorem kw_1627 : (Cond.fieldLink "AnimationControllerModel" (56 : Nat) "AnimationControllerModel" "group" "[I") ∈ gW := gW_n 1627 (by decide +kernel) rfl
theorem kw_1628 : (Cond.fieldLink "AnimationControllerModel" (145 : Nat) "AnimationControllerModel" "states" "I") ∈ gW := gW_n 1628 (by decide +kernel) rfl
theorem kw_1629 : (Cond.fieldLink "AnimationControllerModel" (59 : Nat) "AnimationControllerModel" "tr" "[I") ∈ gW := gW_n 1629 (by decide +kernel) rfl
theorem kw_1630 : (Cond.fieldLink "AnimationControllerModel" (159 : Nat) "AnimationControllerModel" "transitions" "I") ∈ gW := gW_n 1630 (by decide +kernel) rfl
theorem kw_1631 : (Cond.fieldLink "AnimationControllerModel" (62 : Nat) "AnimationControllerModel" "threshold" "I") ∈ gW := gW_n 1631 (by decide +kernel) rfl
theorem kw_1632 : (Cond.fieldLink "AnimationControllerModel" (66 : Nat) "AnimationControllerModel" "text" "[I") ∈ gW := gW_n 1632 (by decide +kernel) rfl
theorem kw_1633 : (Cond.fieldLink "AnimationControllerModel" (188 : Nat) "AnimationControllerModel" "length" "I") ∈ gW := gW_n 1633 (by decide +kernel) rfl
theorem kw_1634 : (Cond.fieldLink "AnimationControllerModel" (94 : Nat) "AnimationControllerModel" "code" "I") ∈ gW := gW_n 1634 (by decide +kernel) rfl
theorem kw_1635 : (Cond.fieldLink "AnimationControllerModel" (69 : Nat) "AnimationControllerModel" "depth" "[I") ∈ gW := gW_n 1635 (by decide +kernel) rfl
theorem kw_1636 : (Cond.fieldLink "AnimationControllerModel" (72 : Nat) "AnimationControllerModel" "part" "[J") ∈ gW := gW_n 1636 (by decide +kernel) rfl
theorem kw_1637 : (Cond.fieldLink "AnimationControllerModel" (76 : Nat) "AnimationControllerModel" "openNode" "[I") ∈ gW := gW_n 1637 (by decide +kernel) rfl
theorem kw_1638 : (Cond.fieldLink "AnimationControllerModel" (79 : Nat) "AnimationControllerModel" "openWeight" "[J") ∈ gW := gW_n 1638 (by decide +kernel) rfl
theorem kw_1639 : (Cond.fieldLink "AnimationControllerModel" (191 : Nat) "AnimationControllerModel" "at" "I") ∈ gW := gW_n 1639 (by decide +kernel) rfl
theorem kw_1640 : (Cond.fieldLink "AnimationControllerModel" (197 : Nat) "AnimationControllerModel" "fine" "Z") ∈ gW := gW_n 1640 (by decide +kernel) rfl
theorem kw_1641 : (Cond.fieldLink "AnimationControllerModel" (211 : Nat) "AnimationControllerModel" "adds" "Z") ∈ gW := gW_n 1641 (by decide +kernel) rfl
theorem kw_1642 : (Cond.fieldLink "AnimationControllerModel" (208 : Nat) "AnimationControllerModel" "number" "I") ∈ gW := gW_n 1642 (by decide +kernel) rfl
theorem kw_1643 : (Cond.fieldLink "AnimationControllerModel" (214 : Nat) "AnimationControllerModel" "readMany" "I") ∈ gW := gW_n 1643 (by decide +kernel) rfl
theorem kw_1644 : (Cond.fieldLink "AnimationControllerModel" (228 : Nat) "AnimationControllerModel" "were" "I") ∈ gW := gW_n 1644 (by decide +kernel) rfl
theorem kw_1645 : (Cond.fieldLink "AnimationControllerModel" (231 : Nat) "AnimationControllerModel" "conditions" "I") ∈ gW := gW_n 1645 (by decide +kernel) rfl
theorem kw_1646 : (Cond.fieldLink "AnimationControllerModel" (82 : Nat) "AnimationControllerModel" "poseClips" "[I") ∈ gW := gW_n 1646 (by decide +kernel) rfl
theorem kw_1647 : (Cond.fieldLink "AnimationControllerModel" (85 : Nat) "AnimationControllerModel" "poseTimes" "[I") ∈ gW := gW_n 1647 (by decide +kernel) rfl
theorem kw_1648 : (Cond.fieldLink "AnimationControllerModel" (88 : Nat) "AnimationControllerModel" "poseWeights" "[J") ∈ gW := gW_n 1648 (by decide +kernel) rfl
theorem kw_1649 : (Cond.fieldLink "AnimationControllerModel" (265 : Nat) "AnimationControllerModel" "poseMany" "I") ∈ gW := gW_n 1649 (by decide +kernel) rfl
theorem kw_1650 : (Cond.fieldLink "AnimationControllerModel" (91 : Nat) "AnimationControllerModel" "far" "[I") ∈ gW := gW_n 1650 (by decide +kernel) rfl
theorem kw_1736 : (Cond.arrayClass FieldType.long) ∈ gW := gW_n 1736 (by decide +kernel) rfl
theorem kw_1745 : (Cond.constantLong "AnimationControllerModel" (97 : Nat) (2 : Int64)) ∈ gW := gW_n 1745 (by decide +kernel) rfl
theorem kw_1746 : (Cond.methodLink "AnimationControllerModel" (99 : Nat) ({ cls := "AnimationControllerModel", name := "in", desc := "(JJJ)Z" } : MethodName)) ∈ gW := gW_n 1746 (by decide +kernel) rfl
theorem kw_1747 : (Cond.static ({ cls := "AnimationControllerModel", name := "in", desc := "(JJJ)Z" } : MethodName)) ∈ gW := gW_n 1747 (by decide +kernel) rfl
theorem kw_1748 : (Cond.code ({ cls := "AnimationControllerModel", name := "in", desc := "(JJJ)Z" } : MethodName) prog_14_method_3_code (6 : Nat) (Option.some FieldType.boolean)) ∈ gW := gW_n 1748 (by decide +kernel) rfl
theorem kw_1749 : (Cond.methodLink "AnimationControllerModel" (103 : Nat) ({ cls := "AnimationControllerModel", name := "fails", desc := "(I)I" } : MethodName)) ∈ gW := gW_n 1749 (by decide +kernel) rfl
theorem kw_1751 : (Cond.instanceMethod ({ cls := "AnimationControllerModel", name := "fails", desc := "(I)I" } : MethodName)) ∈ gW := gW_n 1751 (by decide +kernel) rfl
theorem kw_1752 : (Cond.code ({ cls := "AnimationControllerModel", name := "fails", desc := "(I)I" } : MethodName) prog_14_method_4_code (2 : Nat) (Option.some FieldType.int)) ∈ gW := gW_n 1752 (by decide +kernel) rfl
theorem kw_1757 : (Cond.methodLink "AnimationControllerModel" (110 : Nat) ({ cls := "AnimationControllerModel", name := "isParameter", desc := "(I)Z" } : MethodName)) ∈ gW := gW_n 1757 (by decide +kernel) rfl
theorem kw_1759 : (Cond.instanceMethod ({ cls := "AnimationControllerModel", name := "isParameter", desc := "(I)Z" } : MethodName)) ∈ gW := gW_n 1759 (by decide +kernel) rfl
theorem kw_1760 : (Cond.code ({ cls := "AnimationControllerModel", name := "isParameter", desc := "(I)Z" } : MethodName) prog_14_method_6_code (2 : Nat) (Option.some FieldType.boolean)) ∈ gW := gW_n 1760 (by decide +kernel) rfl
theorem kw_1761 : (Cond.constantLong "AnimationControllerModel" (114 : Nat) (-100 : Int64)) ∈ gW := gW_n 1761 (by decide +kernel) rfl
theorem kw_1762 : (Cond.constantLong "AnimationControllerModel" (116 : Nat) (100 : Int64)) ∈ gW := gW_n 1762 (by decide +kernel) rfl
theorem kw_1771 : (Cond.constantLong "AnimationControllerModel" (118 : Nat) (500 : Int64)) ∈ gW := gW_n 1771 (by decide +kernel) rfl
theorem kw_1776 : (Cond.methodLink "AnimationControllerModel" (123 : Nat) ({ cls := "AnimationControllerModel", name := "isClip", desc := "(I)Z" } : MethodName)) ∈ gW := gW_n 1776 (by decide +kernel) rfl
theorem kw_1778 : (Cond.instanceMethod ({ cls := "AnimationControllerModel", name := "isClip", desc := "(I)Z" } : MethodName)) ∈ gW := gW_n 1778 (by decide +kernel) rfl
theorem kw_1779 : (Cond.code ({ cls := "AnimationControllerModel", name := "isClip", desc := "(I)Z" } : MethodName) prog_14_method_10_code (2 : Nat) (Option.some FieldType.boolean)) ∈ gW := gW_n 1779 (by decide +kernel) rfl
theorem kw_1780 : (Cond.constantLong "AnimationControllerModel" (126 : Nat) (99 : Int64)) ∈ gW := gW_n 1780 (by decide +kernel) rfl
theorem kw_1793 : (Cond.methodLink "AnimationControllerModel" (131 : Nat) ({ cls := "AnimationControllerModel", name := "isNode", desc := "(I)Z" } : MethodName)) ∈ gW := gW_n 1793 (by decide +kernel) rfl
theorem kw_1795 : (Cond.instanceMethod ({ cls := "AnimationControllerModel", name := "isNode", desc := "(I)Z" } : MethodName)) ∈ gW := gW_n 1795 (by decide +kernel) rfl
theorem kw_1796 : (Cond.code ({ cls := "AnimationControllerModel", name := "isNode", desc := "(I)Z" } : MethodName) prog_14_method_14_code (2 : Nat) (Option.some FieldType.boolean)) ∈ gW := gW_n 1796 (by decide +kernel) rfl
theorem kw_1797 : (Cond.methodLink "AnimationControllerModel" (134 : Nat) ({ cls := "AnimationControllerModel", name := "isComplete", desc := "(I)Z" } : MethodName)) ∈ gW := gW_n 1797 (by decide +kernel) rfl
theorem kw_1799 : (Cond.instanceMethod ({ cls := "AnimationControllerModel", name := "isComplete", desc := "(I)Z" } : MethodName)) ∈ gW := gW_n 1799 (by decide +kernel) rfl
theorem kw_1800 : (Cond.code ({ cls := "AnimationControllerModel", name := "isComplete", desc := "(I)Z" } : MethodName) prog_14_method_15_code (2 : Nat) (Option.some FieldType.boolean)) ∈ gW := gW_n 1800 (by decide +kernel) rfl
theorem kw_1801 : (Cond.methodLink "AnimationControllerModel" (137 : Nat) ({ cls := "AnimationControllerModel", name := "greatestDepth", desc := "(II)I" } : MethodName)) ∈ gW := gW_n 1801 (by decide +kernel) rfl
theorem kw_1803 : (Cond.instanceMethod ({ cls := "AnimationControllerModel", name := "greatestDepth", desc := "(II)I" } : MethodName)) ∈ gW := gW_n 1803 (by decide +kernel) rfl
theorem kw_1804 : (Cond.code ({ cls := "AnimationControllerModel", name := "greatestDepth", desc := "(II)I" } : MethodName) prog_14_method_16_code (7 : Nat) (Option.some FieldType.int)) ∈ gW := gW_n 1804 (by decide +kernel) rfl
theorem kw_1809 : (Cond.constantLong "AnimationControllerModel" (148 : Nat) (400 : Int64)) ∈ gW := gW_n 1809 (by decide +kernel) rfl
theorem kw_1810 : (Cond.constantLong "AnimationControllerModel" (150 : Nat) (3 : Int64)) ∈ gW := gW_n 1810 (by decide +kernel) rfl
theorem kw_1811 : (Cond.methodLink "AnimationControllerModel" (152 : Nat) ({ cls := "AnimationControllerModel", name := "begins", desc := "()V" } : MethodName)) ∈ gW := gW_n 1811 (by decide +kernel) rfl
theorem kw_1813 : (Cond.instanceMethod ({ cls := "AnimationControllerModel", name := "begins", desc := "()V" } : MethodName)) ∈ gW := gW_n 1813 (by decide +kernel) rfl
theorem kw_1814 : (Cond.code ({ cls := "AnimationControllerModel", name := "begins", desc := "()V" } : MethodName) prog_14_method_22_code (1 : Nat) (Option.none : Option FieldType)) ∈ gW := gW_n 1814 (by decide +kernel) rfl
theorem kw_1815 : (Cond.methodLink "AnimationControllerModel" (155 : Nat) ({ cls := "AnimationControllerModel", name := "track", desc := "(III)V" } : MethodName)) ∈ gW := gW_n 1815 (by decide +kernel) rfl
theorem kw_1817 : (Cond.instanceMethod ({ cls := "AnimationControllerModel", name := "track", desc := "(III)V" } : MethodName)) ∈ gW := gW_n 1817 (by decide +kernel) rfl
theorem kw_1818 : (Cond.code ({ cls := "AnimationControllerModel", name := "track", desc := "(III)V" } : MethodName) prog_14_method_23_code (4 : Nat) (Option.none : Option FieldType)) ∈ gW := gW_n 1818 (by decide +kernel) rfl
theorem kw_1823 : (Cond.methodLink "AnimationControllerModel" (162 : Nat) ({ cls := "AnimationControllerModel", name := "isState", desc := "(I)Z" } : MethodName)) ∈ gW := gW_n 1823 (by decide +kernel) rfl
theorem kw_1825 : (Cond.instanceMethod ({ cls := "AnimationControllerModel", name := "isState", desc := "(I)Z" } : MethodName)) ∈ gW := gW_n 1825 (by decide +kernel) rfl
theorem kw_1826 : (Cond.code ({ cls := "AnimationControllerModel", name := "isState", desc := "(I)Z" } : MethodName) prog_14_method_20_code (2 : Nat) (Option.some FieldType.boolean)) ∈ gW := gW_n 1826 (by decide +kernel) rfl
theorem kw_1827 : (Cond.constantLong "AnimationControllerModel" (165 : Nat) (60 : Int64)) ∈ gW := gW_n 1827 (by decide +kernel) rfl
theorem kw_1828 : (Cond.methodLink "AnimationControllerModel" (167 : Nat) ({ cls := "AnimationControllerModel", name := "newTransition", desc := "(III)V" } : MethodName)) ∈ gW := gW_n 1828 (by decide +kernel) rfl
theorem kw_1830 : (Cond.instanceMethod ({ cls := "AnimationControllerModel", name := "newTransition", desc := "(III)V" } : MethodName)) ∈ gW := gW_n 1830 (by decide +kernel) rfl
theorem kw_1831 : (Cond.code ({ cls := "AnimationControllerModel", name := "newTransition", desc := "(III)V" } : MethodName) prog_14_method_25_code (6 : Nat) (Option.none : Option FieldType)) ∈ gW := gW_n 1831 (by decide +kernel) rfl
theorem kw_1836 : (Cond.methodLink "AnimationControllerModel" (170 : Nat) ({ cls := "AnimationControllerModel", name := "isTransition", desc := "(I)Z" } : MethodName)) ∈ gW := gW_n 1836 (by decide +kernel) rfl
theorem kw_1838 : (Cond.instanceMethod ({ cls := "AnimationControllerModel", name := "isTransition", desc := "(I)Z" } : MethodName)) ∈ gW := gW_n 1838 (by decide +kernel) rfl
theorem kw_1839 : (Cond.code ({ cls := "AnimationControllerModel", name := "isTransition", desc := "(I)Z" } : MethodName) prog_14_method_27_code (2 : Nat) (Option.some FieldType.boolean)) ∈ gW := gW_n 1839 (by decide +kernel) rfl
theorem kw_1840 : (Cond.constantLong "AnimationControllerModel" (173 : Nat) (-1 : Int64)) ∈ gW := gW_n 1840 (by decide +kernel) rfl
theorem kw_1841 : (Cond.constantLong "AnimationControllerModel" (175 : Nat) (300 : Int64)) ∈ gW := gW_n 1841 (by decide +kernel) rfl
theorem kw_1842 : (Cond.methodLink "AnimationControllerModel" (177 : Nat) ({ cls := "AnimationControllerModel", name := "of", desc := "(II)I" } : MethodName)) ∈ gW := gW_n 1842 (by decide +kernel) rfl
theorem kw_1844 : (Cond.instanceMethod ({ cls := "AnimationControllerModel", name := "of", desc := "(II)I" } : MethodName)) ∈ gW := gW_n 1844 (by decide +kernel) rfl
theorem kw_1845 : (Cond.code ({ cls := "AnimationControllerModel", name := "of", desc := "(II)I" } : MethodName) prog_14_method_24_code (3 : Nat) (Option.some FieldType.int)) ∈ gW := gW_n 1845 (by decide +kernel) rfl
theorem kw_1850 : (Cond.constantLong "AnimationControllerModel" (180 : Nat) (4 : Int64)) ∈ gW := gW_n 1850 (by decide +kernel) rfl
theorem kw_1855 : (Cond.methodLink "AnimationControllerModel" (182 : Nat) ({ cls := "AnimationControllerModel", name := "condition", desc := "(IIII)V" } : MethodName)) ∈ gW := gW_n 1855 (by decide +kernel) rfl
theorem kw_1857 : (Cond.instanceMethod ({ cls := "AnimationControllerModel", name := "condition", desc := "(IIII)V" } : MethodName)) ∈ gW := gW_n 1857 (by decide +kernel) rfl
theorem kw_1858 : (Cond.code ({ cls := "AnimationControllerModel", name := "condition", desc := "(IIII)V" } : MethodName) prog_14_method_30_code (6 : Nat) (Option.none : Option FieldType)) ∈ gW := gW_n 1858 (by decide +kernel) rfl
theorem kw_1867 : (Cond.constantLong "AnimationControllerModel" (186 : Nat) (255 : Int64)) ∈ gW := gW_n 1867 (by decide +kernel) rfl
theorem kw_1876 : (Cond.methodLink "AnimationControllerModel" (247 : Nat) ({ cls := "AnimationControllerModel", name := "readsAll", desc := "(Z)Z" } : MethodName)) ∈ gW := gW_n 1876 (by decide +kernel) rfl
theorem kw_1878 : (Cond.instanceMethod ({ cls := "AnimationControllerModel", name := "readsAll", desc := "(Z)Z" } : MethodName)) ∈ gW := gW_n 1878 (by decide +kernel) rfl
theorem kw_1879 : (Cond.code ({ cls := "AnimationControllerModel", name := "readsAll", desc := "(Z)Z" } : MethodName) prog_14_method_44_code (2 : Nat) (Option.some FieldType.boolean)) ∈ gW := gW_n 1879 (by decide +kernel) rfl
theorem kw_1880 : (Cond.methodLink "AnimationControllerModel" (244 : Nat) ({ cls := "AnimationControllerModel", name := "readsTransition", desc := "()V" } : MethodName)) ∈ gW := gW_n 1880 (by decide +kernel) rfl
theorem kw_1882 : (Cond.instanceMethod ({ cls := "AnimationControllerModel", name := "readsTransition", desc := "()V" } : MethodName)) ∈ gW := gW_n 1882 (by decide +kernel) rfl
theorem kw_1883 : (Cond.code ({ cls := "AnimationControllerModel", name := "readsTransition", desc := "()V" } : MethodName) prog_14_method_40_code (3 : Nat) (Option.none : Option FieldType)) ∈ gW := gW_n 1883 (by decide +kernel) rfl
theorem kw_1884 : (Cond.methodLink "AnimationControllerModel" (194 : Nat) ({ cls := "AnimationControllerModel", name := "skips", desc := "()V" } : MethodName)) ∈ gW := gW_n 1884 (by decide +kernel) rfl
theorem kw_1886 : (Cond.instanceMethod ({ cls := "AnimationControllerModel", name := "skips", desc := "()V" } : MethodName)) ∈ gW := gW_n 1886 (by decide +kernel) rfl
theorem kw_1887 : (Cond.code ({ cls := "AnimationControllerModel", name := "skips", desc := "()V" } : MethodName) prog_14_method_35_code (1 : Nat) (Option.none : Option FieldType)) ∈ gW := gW_n 1887 (by decide +kernel) rfl
theorem kw_1888 : (Cond.methodLink "AnimationControllerModel" (217 : Nat) ({ cls := "AnimationControllerModel", name := "readsState", desc := "(Z)I" } : MethodName)) ∈ gW := gW_n 1888 (by decide +kernel) rfl
theorem kw_1890 : (Cond.instanceMethod ({ cls := "AnimationControllerModel", name := "readsState", desc := "(Z)I" } : MethodName)) ∈ gW := gW_n 1890 (by decide +kernel) rfl
theorem kw_1891 : (Cond.code ({ cls := "AnimationControllerModel", name := "readsState", desc := "(Z)I" } : MethodName) prog_14_method_39_code (3 : Nat) (Option.some FieldType.int)) ∈ gW := gW_n 1891 (by decide +kernel) rfl
theorem kw_1892 : (Cond.methodLink "AnimationControllerModel" (201 : Nat) ({ cls := "AnimationControllerModel", name := "here", desc := "(I)Z" } : MethodName)) ∈ gW := gW_n 1892 (by decide +kernel) rfl
theorem kw_1894 : (Cond.instanceMethod ({ cls := "AnimationControllerModel", name := "here", desc := "(I)Z" } : MethodName)) ∈ gW := gW_n 1894 (by decide +kernel) rfl
theorem kw_1895 : (Cond.code ({ cls := "AnimationControllerModel", name := "here", desc := "(I)Z" } : MethodName) prog_14_method_36_code (2 : Nat) (Option.some FieldType.boolean)) ∈ gW := gW_n 1895 (by decide +kernel) rfl
theorem kw_1896 : (Cond.methodLink "AnimationControllerModel" (221 : Nat) ({ cls := "AnimationControllerModel", name := "reads", desc := "(I)V" } : MethodName)) ∈ gW := gW_n 1896 (by decide +kernel) rfl
theorem kw_1898 : (Cond.instanceMethod ({ cls := "AnimationControllerModel", name := "reads", desc := "(I)V" } : MethodName)) ∈ gW := gW_n 1898 (by decide +kernel) rfl
theorem kw_1899 : (Cond.code ({ cls := "AnimationControllerModel", name := "reads", desc := "(I)V" } : MethodName) prog_14_method_37_code (2 : Nat) (Option.none : Option FieldType)) ∈ gW := gW_n 1899 (by decide +kernel) rfl
theorem kw_1900 : (Cond.methodLink "AnimationControllerModel" (225 : Nat) ({ cls := "AnimationControllerModel", name := "readsNumber", desc := "(I)V" } : MethodName)) ∈ gW := gW_n 1900 (by decide +kernel) rfl
theorem kw_1902 : (Cond.instanceMethod ({ cls := "AnimationControllerModel", name := "readsNumber", desc := "(I)V" } : MethodName)) ∈ gW := gW_n 1902 (by decide +kernel) rfl
theorem kw_1903 : (Cond.code ({ cls := "AnimationControllerModel", name := "readsNumber", desc := "(I)V" } : MethodName) prog_14_method_38_code (5 : Nat) (Option.none : Option FieldType)) ∈ gW := gW_n 1903 (by decide +kernel) rfl
theorem kw_1904 : (Cond.constantLong "AnimationControllerModel" (204 : Nat) (48 : Int64)) ∈ gW := gW_n 1904 (by decide +kernel) rfl
theorem kw_1905 : (Cond.constantLong "AnimationControllerModel" (206 : Nat) (57 : Int64)) ∈ gW := gW_n 1905 (by decide +kernel) rfl
theorem kw_1906 : (Cond.methodLink "AnimationControllerModel" (234 : Nat) ({ cls := "AnimationControllerModel", name := "readsAttribute", desc := "()V" } : MethodName)) ∈ gW := gW_n 1906 (by decide +kernel) rfl
theorem kw_1908 : (Cond.instanceMethod ({ cls := "AnimationControllerModel", name := "readsAttribute", desc := "()V" } : MethodName)) ∈ gW := gW_n 1908 (by decide +kernel) rfl
theorem kw_1909 : (Cond.code ({ cls := "AnimationControllerModel", name := "readsAttribute", desc := "()V" } : MethodName) prog_14_method_42_code (2 : Nat) (Option.none : Option FieldType)) ∈ gW := gW_n 1909 (by decide +kernel) rfl
theorem kw_1910 : (Cond.methodLink "AnimationControllerModel" (237 : Nat) ({ cls := "AnimationControllerModel", name := "readsCondition", desc := "()V" } : MethodName)) ∈ gW := gW_n 1910 (by decide +kernel) rfl
theorem kw_1912 : (Cond.instanceMethod ({ cls := "AnimationControllerModel", name := "readsCondition", desc := "()V" } : MethodName)) ∈ gW := gW_n 1912 (by decide +kernel) rfl
theorem kw_1913 : (Cond.code ({ cls := "AnimationControllerModel", name := "readsCondition", desc := "()V" } : MethodName) prog_14_method_43_code (6 : Nat) (Option.none : Option FieldType)) ∈ gW := gW_n 1913 (by decide +kernel) rfl
theorem kw_1914 : (Cond.methodLink "AnimationControllerModel" (240 : Nat) ({ cls := "AnimationControllerModel", name := "sets", desc := "(II)V" } : MethodName)) ∈ gW := gW_n 1914 (by decide +kernel) rfl
theorem kw_1916 : (Cond.instanceMethod ({ cls := "AnimationControllerModel", name := "sets", desc := "(II)V" } : MethodName)) ∈ gW := gW_n 1916 (by decide +kernel) rfl
theorem kw_1917 : (Cond.code ({ cls := "AnimationControllerModel", name := "sets", desc := "(II)V" } : MethodName) prog_14_method_41_code (3 : Nat) (Option.none : Option FieldType)) ∈ gW := gW_n 1917 (by decide +kernel) rfl
theorem kw_1926 : (Cond.methodLink "AnimationControllerModel" (283 : Nat) ({ cls := "AnimationControllerModel", name := "poses", desc := "()V" } : MethodName)) ∈ gW := gW_n 1926 (by decide +kernel) rfl
theorem kw_1928 : (Cond.instanceMethod ({ cls := "AnimationControllerModel", name := "poses", desc := "()V" } : MethodName)) ∈ gW := gW_n 1928 (by decide +kernel) rfl
theorem kw_1929 : (Cond.code ({ cls := "AnimationControllerModel", name := "poses", desc := "()V" } : MethodName) prog_14_method_56_code (3 : Nat) (Option.none : Option FieldType)) ∈ gW := gW_n 1929 (by decide +kernel) rfl
theorem kw_1930 : (Cond.constantLong "AnimationControllerModel" (251 : Nat) (1000000 : Int64)) ∈ gW := gW_n 1930 (by decide +kernel) rfl
theorem kw_1931 : (Cond.methodLink "AnimationControllerModel" (272 : Nat) ({ cls := "AnimationControllerModel", name := "addsTrack", desc := "(IJ)V" } : MethodName)) ∈ gW := gW_n 1931 (by decide +kernel) rfl
theorem kw_1933 : (Cond.instanceMethod ({ cls := "AnimationControllerModel", name := "addsTrack", desc := "(IJ)V" } : MethodName)) ∈ gW := gW_n 1933 (by decide +kernel) rfl
theorem kw_1934 : (Cond.code ({ cls := "AnimationControllerModel", name := "addsTrack", desc := "(IJ)V" } : MethodName) prog_14_method_54_code (7 : Nat) (Option.none : Option FieldType)) ∈ gW := gW_n 1934 (by decide +kernel) rfl
theorem kw_1935 : (Cond.methodLink "AnimationControllerModel" (253 : Nat) ({ cls := "AnimationControllerModel", name := "blends", desc := "(IJ)V" } : MethodName)) ∈ gW := gW_n 1935 (by decide +kernel) rfl
theorem kw_1937 : (Cond.instanceMethod ({ cls := "AnimationControllerModel", name := "blends", desc := "(IJ)V" } : MethodName)) ∈ gW := gW_n 1937 (by decide +kernel) rfl
theorem kw_1938 : (Cond.code ({ cls := "AnimationControllerModel", name := "blends", desc := "(IJ)V" } : MethodName) prog_14_method_18_code (8 : Nat) (Option.none : Option FieldType)) ∈ gW := gW_n 1938 (by decide +kernel) rfl
theorem kw_1939 : (Cond.methodLink "AnimationControllerModel" (141 : Nat) ({ cls := "AnimationControllerModel", name := "opens", desc := "(IJI)I" } : MethodName)) ∈ gW := gW_n 1939 (by decide +kernel) rfl
theorem kw_1941 : (Cond.instanceMethod ({ cls := "AnimationControllerModel", name := "opens", desc := "(IJI)I" } : MethodName)) ∈ gW := gW_n 1941 (by decide +kernel) rfl
theorem kw_1942 : (Cond.code ({ cls := "AnimationControllerModel", name := "opens", desc := "(IJI)I" } : MethodName) prog_14_method_19_code (10 : Nat) (Option.some FieldType.int)) ∈ gW := gW_n 1942 (by decide +kernel) rfl
theorem kw_1943 : (Cond.methodLink "AnimationControllerModel" (268 : Nat) ({ cls := "AnimationControllerModel", name := "addsEntry", desc := "(IIJ)V" } : MethodName)) ∈ gW := gW_n 1943 (by decide +kernel) rfl
theorem kw_1945 : (Cond.instanceMethod ({ cls := "AnimationControllerModel", name := "addsEntry", desc := "(IIJ)V" } : MethodName)) ∈ gW := gW_n 1945 (by decide +kernel) rfl
theorem kw_1946 : (Cond.code ({ cls := "AnimationControllerModel", name := "addsEntry", desc := "(IIJ)V" } : MethodName) prog_14_method_53_code (7 : Nat) (Option.none : Option FieldType)) ∈ gW := gW_n 1946 (by decide +kernel) rfl
theorem kw_1947 : (Cond.methodLink "AnimationControllerModel" (275 : Nat) ({ cls := "AnimationControllerModel", name := "shareOfTarget", desc := "()J" } : MethodName)) ∈ gW := gW_n 1947 (by decide +kernel) rfl
theorem kw_1949 : (Cond.instanceMethod ({ cls := "AnimationControllerModel", name := "shareOfTarget", desc := "()J" } : MethodName)) ∈ gW := gW_n 1949 (by decide +kernel) rfl
theorem kw_1950 : (Cond.code ({ cls := "AnimationControllerModel", name := "shareOfTarget", desc := "()J" } : MethodName) prog_14_method_51_code (1 : Nat) (Option.some FieldType.long)) ∈ gW := gW_n 1950 (by decide +kernel) rfl
theorem kw_1951 : (Cond.methodLink "AnimationControllerModel" (279 : Nat) ({ cls := "AnimationControllerModel", name := "addsFrozen", desc := "(J)V" } : MethodName)) ∈ gW := gW_n 1951 (by decide +kernel) rfl
theorem kw_1953 : (Cond.instanceMethod ({ cls := "AnimationControllerModel", name := "addsFrozen", desc := "(J)V" } : MethodName)) ∈ gW := gW_n 1953 (by decide +kernel) rfl
theorem kw_1954 : (Cond.code ({ cls := "AnimationControllerModel", name := "addsFrozen", desc := "(J)V" } : MethodName) prog_14_method_55_code (8 : Nat) (Option.none : Option FieldType)) ∈ gW := gW_n 1954 (by decide +kernel) rfl
theorem kw_1959 : (Cond.methodLink "AnimationControllerModel" (286 : Nat) ({ cls := "AnimationControllerModel", name := "hasEntry", desc := "(I)Z" } : MethodName)) ∈ gW := gW_n 1959 (by decide +kernel) rfl
theorem kw_1961 : (Cond.instanceMethod ({ cls := "AnimationControllerModel", name := "hasEntry", desc := "(I)Z" } : MethodName)) ∈ gW := gW_n 1961 (by decide +kernel) rfl
theorem kw_1962 : (Cond.code ({ cls := "AnimationControllerModel", name := "hasEntry", desc := "(I)Z" } : MethodName) prog_14_method_58_code (2 : Nat) (Option.some FieldType.boolean)) ∈ gW := gW_n 1962 (by decide +kernel) rfl
theorem kw_1975 : (Cond.methodLink "AnimationControllerModel" (307 : Nat) ({ cls := "AnimationControllerModel", name := "listOf", desc := "(I)I" } : MethodName)) ∈ gW := gW_n 1975 (by decide +kernel) rfl
theorem kw_1977 : (Cond.instanceMethod ({ cls := "AnimationControllerModel", name := "listOf", desc := "(I)I" } : MethodName)) ∈ gW := gW_n 1977 (by decide +kernel) rfl
theorem kw_1978 : (Cond.code ({ cls := "AnimationControllerModel", name := "listOf", desc := "(I)I" } : MethodName) prog_14_method_66_code (5 : Nat) (Option.some FieldType.int)) ∈ gW := gW_n 1978 (by decide +kernel) rfl
theorem kw_1979 : (Cond.methodLink "AnimationControllerModel" (289 : Nat) ({ cls := "AnimationControllerModel", name := "inList", desc := "(II)Z" } : MethodName)) ∈ gW := gW_n 1979 (by decide +kernel) rfl
theorem kw_1981 : (Cond.instanceMethod ({ cls := "AnimationControllerModel", name := "inList", desc := "(II)Z" } : MethodName)) ∈ gW := gW_n 1981 (by decide +kernel) rfl
theorem kw_1982 : (Cond.code ({ cls := "AnimationControllerModel", name := "inList", desc := "(II)Z" } : MethodName) prog_14_method_62_code (3 : Nat) (Option.some FieldType.boolean)) ∈ gW := gW_n 1982 (by decide +kernel) rfl
theorem kw_1983 : (Cond.methodLink "AnimationControllerModel" (293 : Nat) ({ cls := "AnimationControllerModel", name := "isBack", desc := "(II)Z" } : MethodName)) ∈ gW := gW_n 1983 (by decide +kernel) rfl
theorem kw_1985 : (Cond.instanceMethod ({ cls := "AnimationControllerModel", name := "isBack", desc := "(II)Z" } : MethodName)) ∈ gW := gW_n 1985 (by decide +kernel) rfl
theorem kw_1986 : (Cond.code ({ cls := "AnimationControllerModel", name := "isBack", desc := "(II)Z" } : MethodName) prog_14_method_63_code (3 : Nat) (Option.some FieldType.boolean)) ∈ gW := gW_n 1986 (by decide +kernel) rfl
theorem kw_1987 : (Cond.methodLink "AnimationControllerModel" (296 : Nat) ({ cls := "AnimationControllerModel", name := "inSource", desc := "(I)Z" } : MethodName)) ∈ gW := gW_n 1987 (by decide +kernel) rfl
theorem kw_1989 : (Cond.instanceMethod ({ cls := "AnimationControllerModel", name := "inSource", desc := "(I)Z" } : MethodName)) ∈ gW := gW_n 1989 (by decide +kernel) rfl
theorem kw_1990 : (Cond.code ({ cls := "AnimationControllerModel", name := "inSource", desc := "(I)Z" } : MethodName) prog_14_method_64_code (3 : Nat) (Option.some FieldType.boolean)) ∈ gW := gW_n 1990 (by decide +kernel) rfl
theorem kw_1991 : (Cond.methodLink "AnimationControllerModel" (299 : Nat) ({ cls := "AnimationControllerModel", name := "inTarget", desc := "(I)Z" } : MethodName)) ∈ gW := gW_n 1991 (by decide +kernel) rfl
theorem kw_1993 : (Cond.instanceMethod ({ cls := "AnimationControllerModel", name := "inTarget", desc := "(I)Z" } : MethodName)) ∈ gW := gW_n 1993 (by decide +kernel) rfl
theorem kw_1994 : (Cond.code ({ cls := "AnimationControllerModel", name := "inTarget", desc := "(I)Z" } : MethodName) prog_14_method_65_code (2 : Nat) (Option.some FieldType.boolean)) ∈ gW := gW_n 1994 (by decide +kernel) rfl
theorem kw_1995 : (Cond.methodLink "AnimationControllerModel" (310 : Nat) ({ cls := "AnimationControllerModel", name := "against", desc := "(II)I" } : MethodName)) ∈ gW := gW_n 1995 (by decide +kernel) rfl
theorem kw_1997 : (Cond.instanceMethod ({ cls := "AnimationControllerModel", name := "against", desc := "(II)I" } : MethodName)) ∈ gW := gW_n 1997 (by decide +kernel) rfl
theorem kw_1998 : (Cond.code ({ cls := "AnimationControllerModel", name := "against", desc := "(II)I" } : MethodName) prog_14_method_68_code (5 : Nat) (Option.some FieldType.int)) ∈ gW := gW_n 1998 (by decide +kernel) rfl
theorem kw_1999 : (Cond.methodLink "AnimationControllerModel" (257 : Nat) ({ cls := "AnimationControllerModel", name := "progressOf", desc := "(I)J" } : MethodName)) ∈ gW := gW_n 1999 (by decide +kernel) rfl
theorem kw_2001 : (Cond.instanceMethod ({ cls := "AnimationControllerModel", name := "progressOf", desc := "(I)J" } : MethodName)) ∈ gW := gW_n 2001 (by decide +kernel) rfl
theorem kw_2002 : (Cond.code ({ cls := "AnimationControllerModel", name := "progressOf", desc := "(I)J" } : MethodName) prog_14_method_48_code (2 : Nat) (Option.some FieldType.long)) ∈ gW := gW_n 2002 (by decide +kernel) rfl
theorem kw_2003 : (Cond.constantLong "AnimationControllerModel" (302 : Nat) (10000 : Int64)) ∈ gW := gW_n 2003 (by decide +kernel) rfl
theorem kw_2004 : (Cond.methodLink "AnimationControllerModel" (304 : Nat) ({ cls := "AnimationControllerModel", name := "holds", desc := "(II)Z" } : MethodName)) ∈ gW := gW_n 2004 (by decide +kernel) rfl
theorem kw_2006 : (Cond.instanceMethod ({ cls := "AnimationControllerModel", name := "holds", desc := "(II)Z" } : MethodName)) ∈ gW := gW_n 2006 (by decide +kernel) rfl
theorem kw_2007 : (Cond.code ({ cls := "AnimationControllerModel", name := "holds", desc := "(II)Z" } : MethodName) prog_14_method_67_code (7 : Nat) (Option.some FieldType.boolean)) ∈ gW := gW_n 2007 (by decide +kernel) rfl
theorem kw_2012 : (Cond.methodLink "AnimationControllerModel" (356 : Nat) ({ cls := "AnimationControllerModel", name := "ticks", desc := "()V" } : MethodName)) ∈ gW := gW_n 2012 (by decide +kernel) rfl
theorem kw_2014 : (Cond.instanceMethod ({ cls := "AnimationControllerModel", name := "ticks", desc := "()V" } : MethodName)) ∈ gW := gW_n 2014 (by decide +kernel) rfl
theorem kw_2015 : (Cond.code ({ cls := "AnimationControllerModel", name := "ticks", desc := "()V" } : MethodName) prog_14_method_79_code (16 : Nat) (Option.none : Option FieldType)) ∈ gW := gW_n 2015 (by decide +kernel) rfl
theorem kw_2016 : (Cond.methodLink "AnimationControllerModel" (340 : Nat) ({ cls := "AnimationControllerModel", name := "takes", desc := "()Z" } : MethodName)) ∈ gW := gW_n 2016 (by decide +kernel) rfl
theorem kw_2018 : (Cond.instanceMethod ({ cls := "AnimationControllerModel", name := "takes", desc := "()Z" } : MethodName)) ∈ gW := gW_n 2018 (by decide +kernel) rfl
theorem kw_2019 : (Cond.code ({ cls := "AnimationControllerModel", name := "takes", desc := "()Z" } : MethodName) prog_14_method_71_code (6 : Nat) (Option.some FieldType.boolean)) ∈ gW := gW_n 2019 (by decide +kernel) rfl
theorem kw_2020 : (Cond.methodLink "AnimationControllerModel" (313 : Nat) ({ cls := "AnimationControllerModel", name := "firstOf", desc := "(I)I" } : MethodName)) ∈ gW := gW_n 2020 (by decide +kernel) rfl
theorem kw_2022 : (Cond.instanceMethod ({ cls := "AnimationControllerModel", name := "firstOf", desc := "(I)I" } : MethodName)) ∈ gW := gW_n 2022 (by decide +kernel) rfl
theorem kw_2023 : (Cond.code ({ cls := "AnimationControllerModel", name := "firstOf", desc := "(I)I" } : MethodName) prog_14_method_69_code (4 : Nat) (Option.some FieldType.int)) ∈ gW := gW_n 2023 (by decide +kernel) rfl
theorem kw_2024 : (Cond.methodLink "AnimationControllerModel" (316 : Nat) ({ cls := "AnimationControllerModel", name := "freezes", desc := "(I)V" } : MethodName)) ∈ gW := gW_n 2024 (by decide +kernel) rfl
theorem kw_2026 : (Cond.instanceMethod ({ cls := "AnimationControllerModel", name := "freezes", desc := "(I)V" } : MethodName)) ∈ gW := gW_n 2026 (by decide +kernel) rfl
theorem kw_2027 : (Cond.code ({ cls := "AnimationControllerModel", name := "freezes", desc := "(I)V" } : MethodName) prog_14_method_73_code (3 : Nat) (Option.none : Option FieldType)) ∈ gW := gW_n 2027 (by decide +kernel) rfl
theorem kw_2028 : (Cond.methodLink "AnimationControllerModel" (322 : Nat) ({ cls := "AnimationControllerModel", name := "copiesTrack", desc := "(II)V" } : MethodName)) ∈ gW := gW_n 2028 (by decide +kernel) rfl
theorem kw_2030 : (Cond.instanceMethod ({ cls := "AnimationControllerModel", name := "copiesTrack", desc := "(II)V" } : MethodName)) ∈ gW := gW_n 2030 (by decide +kernel) rfl
theorem kw_2031 : (Cond.code ({ cls := "AnimationControllerModel", name := "copiesTrack", desc := "(II)V" } : MethodName) prog_14_method_72_code (4 : Nat) (Option.none : Option FieldType)) ∈ gW := gW_n 2031 (by decide +kernel) rfl
theorem kw_2032 : (Cond.methodLink "AnimationControllerModel" (319 : Nat) ({ cls := "AnimationControllerModel", name := "goesTo", desc := "(I)V" } : MethodName)) ∈ gW := gW_n 2032 (by decide +kernel) rfl
theorem kw_2034 : (Cond.instanceMethod ({ cls := "AnimationControllerModel", name := "goesTo", desc := "(I)V" } : MethodName)) ∈ gW := gW_n 2034 (by decide +kernel) rfl
theorem kw_2035 : (Cond.code ({ cls := "AnimationControllerModel", name := "goesTo", desc := "(I)V" } : MethodName) prog_14_method_74_code (4 : Nat) (Option.none : Option FieldType)) ∈ gW := gW_n 2035 (by decide +kernel) rfl
theorem kw_2036 : (Cond.methodLink "AnimationControllerModel" (325 : Nat) ({ cls := "AnimationControllerModel", name := "isSynced", desc := "()Z" } : MethodName)) ∈ gW := gW_n 2036 (by decide +kernel) rfl
theorem kw_2038 : (Cond.instanceMethod ({ cls := "AnimationControllerModel", name := "isSynced", desc := "()Z" } : MethodName)) ∈ gW := gW_n 2038 (by decide +kernel) rfl
theorem kw_2039 : (Cond.code ({ cls := "AnimationControllerModel", name := "isSynced", desc := "()Z" } : MethodName) prog_14_method_52_code (2 : Nat) (Option.some FieldType.boolean)) ∈ gW := gW_n 2039 (by decide +kernel) rfl
theorem kw_2040 : (Cond.constant "AnimationControllerModel" (261 : Nat) (1000000 : Int32)) ∈ gW := gW_n 2040 (by decide +kernel) rfl
theorem kw_2041 : (Cond.constant "AnimationControllerModel" (329 : Nat) (999999 : Int32)) ∈ gW := gW_n 2041 (by decide +kernel) rfl
theorem kw_2042 : (Cond.methodLink "AnimationControllerModel" (330 : Nat) ({ cls := "AnimationControllerModel", name := "ends", desc := "()V" } : MethodName)) ∈ gW := gW_n 2042 (by decide +kernel) rfl
theorem kw_2044 : (Cond.instanceMethod ({ cls := "AnimationControllerModel", name := "ends", desc := "()V" } : MethodName)) ∈ gW := gW_n 2044 (by decide +kernel) rfl
theorem kw_2045 : (Cond.code ({ cls := "AnimationControllerModel", name := "ends", desc := "()V" } : MethodName) prog_14_method_75_code (1 : Nat) (Option.none : Option FieldType)) ∈ gW := gW_n 2045 (by decide +kernel) rfl
theorem kw_2046 : (Cond.methodLink "AnimationControllerModel" (343 : Nat) ({ cls := "AnimationControllerModel", name := "stepOf", desc := "(I)J" } : MethodName)) ∈ gW := gW_n 2046 (by decide +kernel) rfl
theorem kw_2048 : (Cond.instanceMethod ({ cls := "AnimationControllerModel", name := "stepOf", desc := "(I)J" } : MethodName)) ∈ gW := gW_n 2048 (by decide +kernel) rfl
theorem kw_2049 : (Cond.code ({ cls := "AnimationControllerModel", name := "stepOf", desc := "(I)J" } : MethodName) prog_14_method_50_code (3 : Nat) (Option.some FieldType.long)) ∈ gW := gW_n 2049 (by decide +kernel) rfl
theorem kw_2050 : (Cond.methodLink "AnimationControllerModel" (262 : Nat) ({ cls := "AnimationControllerModel", name := "lengthOf", desc := "(I)J" } : MethodName)) ∈ gW := gW_n 2050 (by decide +kernel) rfl
theorem kw_2052 : (Cond.instanceMethod ({ cls := "AnimationControllerModel", name := "lengthOf", desc := "(I)J" } : MethodName)) ∈ gW := gW_n 2052 (by decide +kernel) rfl
theorem kw_2053 : (Cond.code ({ cls := "AnimationControllerModel", name := "lengthOf", desc := "(I)J" } : MethodName) prog_14_method_47_code (5 : Nat) (Option.some FieldType.long)) ∈ gW := gW_n 2053 (by decide +kernel) rfl
theorem kw_2054 : (Cond.methodLink "AnimationControllerModel" (346 : Nat) ({ cls := "AnimationControllerModel", name := "advances", desc := "(IJ)V" } : MethodName)) ∈ gW := gW_n 2054 (by decide +kernel) rfl
theorem kw_2056 : (Cond.instanceMethod ({ cls := "AnimationControllerModel", name := "advances", desc := "(IJ)V" } : MethodName)) ∈ gW := gW_n 2056 (by decide +kernel) rfl
theorem kw_2057 : (Cond.code ({ cls := "AnimationControllerModel", name := "advances", desc := "(IJ)V" } : MethodName) prog_14_method_49_code (6 : Nat) (Option.none : Option FieldType)) ∈ gW := gW_n 2057 (by decide +kernel) rfl
theorem kw_2058 : (Cond.methodLink "AnimationControllerModel" (349 : Nat) ({ cls := "AnimationControllerModel", name := "fires", desc := "(IJZJJI)V" } : MethodName)) ∈ gW := gW_n 2058 (by decide +kernel) rfl
theorem kw_2060 : (Cond.instanceMethod ({ cls := "AnimationControllerModel", name := "fires", desc := "(IJZJJI)V" } : MethodName)) ∈ gW := gW_n 2060 (by decide +kernel) rfl
theorem kw_2061 : (Cond.code ({ cls := "AnimationControllerModel", name := "fires", desc := "(IJZJJI)V" } : MethodName) prog_14_method_76_code (15 : Nat) (Option.none : Option FieldType)) ∈ gW := gW_n 2061 (by decide +kernel) rfl
theorem kw_2062 : (Cond.methodLink "AnimationControllerModel" (333 : Nat) ({ cls := "AnimationControllerModel", name := "isCrossed", desc := "(JJZJZ)Z" } : MethodName)) ∈ gW := gW_n 2062 (by decide +kernel) rfl
theorem kw_2063 : (Cond.static ({ cls := "AnimationControllerModel", name := "isCrossed", desc := "(JJZJZ)Z" } : MethodName)) ∈ gW := gW_n 2063 (by decide +kernel) rfl
theorem kw_2064 : (Cond.code ({ cls := "AnimationControllerModel", name := "isCrossed", desc := "(JJZJZ)Z" } : MethodName) prog_14_method_77_code (14 : Nat) (Option.some FieldType.boolean)) ∈ gW := gW_n 2064 (by decide +kernel) rfl
theorem kw_2065 : (Cond.methodLink "AnimationControllerModel" (337 : Nat) ({ cls := "AnimationControllerModel", name := "notes", desc := "(IIII)V" } : MethodName)) ∈ gW := gW_n 2065 (by decide +kernel) rfl
theorem kw_2067 : (Cond.instanceMethod ({ cls := "AnimationControllerModel", name := "notes", desc := "(IIII)V" } : MethodName)) ∈ gW := gW_n 2067 (by decide +kernel) rfl
theorem kw_2068 : (Cond.code ({ cls := "AnimationControllerModel", name := "notes", desc := "(IIII)V" } : MethodName) prog_14_method_78_code (6 : Nat) (Option.none : Option FieldType)) ∈ gW := gW_n 2068 (by decide +kernel) rfl
theorem kw_2069 : (Cond.methodLink "AnimationControllerModel" (353 : Nat) ({ cls := "AnimationControllerModel", name := "advancesBoth", desc := "()V" } : MethodName)) ∈ gW := gW_n 2069 (by decide +kernel) rfl
theorem kw_2071 : (Cond.instanceMethod ({ cls := "AnimationControllerModel", name := "advancesBoth", desc := "()V" } : MethodName)) ∈ gW := gW_n 2071 (by decide +kernel) rfl
theorem kw_2072 : (Cond.code ({ cls := "AnimationControllerModel", name := "advancesBoth", desc := "()V" } : MethodName) prog_14_method_80_code (11 : Nat) (Option.none : Option FieldType)) ∈ gW := gW_n 2072 (by decide +kernel) rfl
theorem kw_2121 : (Cond.methodLink "AnimationControllerModel" (359 : Nat) ({ cls := "AnimationControllerModel", name := "copies", desc := "(II)V" } : MethodName)) ∈ gW := gW_n 2121 (by decide +kernel) rfl
theorem kw_2123 : (Cond.instanceMethod ({ cls := "AnimationControllerModel", name := "copies", desc := "(II)V" } : MethodName)) ∈ gW := gW_n 2123 (by decide +kernel) rfl
theorem kw_2124 : (Cond.code ({ cls := "AnimationControllerModel", name := "copies", desc := "(II)V" } : MethodName) prog_14_method_93_code (4 : Nat) (Option.none : Option FieldType)) ∈ gW := gW_n 2124 (by decide +kernel) rfl
theorem kw_42 : (Cond.instanceMethod ({ cls := "java/lang/Object", name := "<init>", desc := "()V" } : MethodName)) ∈ gW := gW_n 42 (by decide +kernel) rfl
theorem kw_43 : (Cond.code ({ cls := "java/lang/Object", name := "<init>", desc := "()V" } : MethodName) object_method_1_code (1 : Nat) (Option.none : Option FieldType)) ∈ gW := gW_n 43 (by decide +kernel) rfl
theorem kw_456 : (Cond.arrayClass FieldType.boolean) ∈ gW := gW_n 456 (by decide +kernel) rfl
theorem kw_76 : (Cond.arrayClass FieldType.int) ∈ gW := gW_n 76 (by decide +kernel) rfl
theorem inwX12 : ∀ w ∈ u_ws RX12 TX12 42, w ∈ gW := gW_of (by decide +kernel) (by decide +kernel)
theorem flX12_7 : gFl RX12 7 15 0 (.array .int) true := ⟨RX12, TX12, 42, tyX12, rfl, by decide, kw_1609, inwX12, tyX12_ok, nmX12, by decide +kernel, rfl, fun _ => rfl⟩
theorem flX12_13 : gFl RX12 13 15 1 (.array .boolean) true := ⟨RX12, TX12, 42, tyX12, rfl, by decide, kw_1610, inwX12, tyX12_ok, nmX12, by decide +kernel, rfl, fun _ => rfl⟩
theorem flX12_17 : gFl RX12 17 15 2 (.array .int) true := ⟨RX12, TX12, 42, tyX12, rfl, by decide, kw_1611, inwX12, tyX12_ok, nmX12, by decide +kernel, rfl, fun _ => rfl⟩
theorem flX12_20 : gFl RX12 20 15 4 (.array .int) true := ⟨RX12, TX12, 42, tyX12, rfl, by decide, kw_1613, inwX12, tyX12_ok, nmX12, by decide +kernel, rfl, fun _ => rfl⟩
theorem flX12_23 : gFl RX12 23 15 5 (.array .int) true := ⟨RX12, TX12, 42, tyX12, rfl, by decide, kw_1614, inwX12, tyX12_ok, nmX12, by decide +kernel, rfl, fun _ => rfl⟩
theorem flX12_26 : gFl RX12 26 15 6 (.array .int) true := ⟨RX12, TX12, 42, tyX12, rfl, by decide, kw_1615, inwX12, tyX12_ok, nmX12, by decide +kernel, rfl, fun _ => rfl⟩
theorem flX12_29 : gFl RX12 29 15 7 (.array .int) true := ⟨RX12, TX12, 42, tyX12, rfl, by decide, kw_1616, inwX12, tyX12_ok, nmX12, by decide +kernel, rfl, fun _ => rfl⟩
theorem flX12_32 : gFl RX12 32 15 9 (.array .int) true := ⟨RX12, TX12, 42, tyX12, rfl, by decide, kw_1618, inwX12, tyX12_ok, nmX12, by decide +kernel, rfl, fun _ => rfl⟩
theorem flX12_35 : gFl RX12 35 15 10 (.array .int) true := ⟨RX12, TX12, 42, tyX12, rfl, by decide, kw_1619, inwX12, tyX12_ok, nmX12, by decide +kernel, rfl, fun _ => rfl⟩
theorem flX12_38 : gFl RX12 38 15 11 (.array .int) true := ⟨RX12, TX12, 42, tyX12, rfl, by decide, kw_1620, inwX12, tyX12_ok, nmX12, by decide +kernel, rfl, fun _ => rfl⟩
theorem flX12_41 : gFl RX12 41 15 12 (.array .int) true := ⟨RX12, TX12, 42, tyX12, rfl, by decide, kw_1621, inwX12, tyX12_ok, nmX12, by decide +kernel, rfl, fun _ => rfl⟩
theorem flX12_44 : gFl RX12 44 15 13 (.array .int) true := ⟨RX12, TX12, 42, tyX12, rfl, by decide, kw_1622, inwX12, tyX12_ok, nmX12, by decide +kernel, rfl, fun _ => rfl⟩
theorem flX12_47 : gFl RX12 47 15 15 (.array .int) true := ⟨RX12, TX12, 42, tyX12, rfl, by decide, kw_1624, inwX12, tyX12_ok, nmX12, by decide +kernel, rfl, fun _ => rfl⟩
theorem flX12_50 : gFl RX12 50 15 16 (.array .int) true := ⟨RX12, TX12, 42, tyX12, rfl, by decide, kw_1625, inwX12, tyX12_ok, nmX12, by decide +kernel, rfl, fun _ => rfl⟩
theorem flX12_53 : gFl RX12 53 15 17 (.array .boolean) true := ⟨RX12, TX12, 42, tyX12, rfl, by decide, kw_1626, inwX12, tyX12_ok, nmX12, by decide +kernel, rfl, fun _ => rfl⟩
theorem flX12_56 : gFl RX12 56 15 18 (.array .int) true := ⟨RX12, TX12, 42, tyX12, rfl, by decide, kw_1627, inwX12, tyX12_ok, nmX12, by decide +kernel, rfl, fun _ => rfl⟩
theorem flX12_59 : gFl RX12 59 15 20 (.array .int) true := ⟨RX12, TX12, 42, tyX12, rfl, by decide, kw_1629, inwX12, tyX12_ok, nmX12, by decide +kernel, rfl, fun _ => rfl⟩
theorem flX12_62 : gFl RX12 62 15 22 .int false := ⟨RX12, TX12, 42, tyX12, rfl, by decide, kw_1631, inwX12, tyX12_ok, nmX12, by decide +kernel, rfl, fun z => Bool.noConfusion z⟩
theorem flX12_66 : gFl RX12 66 15 23 (.array .int) true := ⟨RX12, TX12, 42, tyX12, rfl, by decide, kw_1632, inwX12, tyX12_ok, nmX12, by decide +kernel, rfl, fun _ => rfl⟩
theorem flX12_69 : gFl RX12 69 15 26 (.array .int) true := ⟨RX12, TX12, 42, tyX12, rfl, by decide, kw_1635, inwX12, tyX12_ok, nmX12, by decide +kernel, rfl, fun _ => rfl⟩
theorem flX12_72 : gFl RX12 72 15 27 (.array .long) true := ⟨RX12, TX12, 42, tyX12, rfl, by decide, kw_1636, inwX12, tyX12_ok, nmX12, by decide +kernel, rfl, fun _ => rfl⟩
theorem flX12_76 : gFl RX12 76 15 28 (.array .int) true := ⟨RX12, TX12, 42, tyX12, rfl, by decide, kw_1637, inwX12, tyX12_ok, nmX12, by decide +kernel, rfl, fun _ => rfl⟩
theorem flX12_79 : gFl RX12 79 15 29 (.array .long) true := ⟨RX12, TX12, 42, tyX12, rfl, by decide, kw_1638, inwX12, tyX12_ok, nmX12, by decide +kernel, rfl, fun _ => rfl⟩
theorem flX12_82 : gFl RX12 82 15 37 (.array .int) true := ⟨RX12, TX12, 42, tyX12, rfl, by decide, kw_1646, inwX12, tyX12_ok, nmX12, by decide +kernel, rfl, fun _ => rfl⟩
theorem flX12_85 : gFl RX12 85 15 38 (.array .int) true := ⟨RX12, TX12, 42, tyX12, rfl, by decide, kw_1647, inwX12, tyX12_ok, nmX12, by decide +kernel, rfl, fun _ => rfl⟩
theorem flX12_88 : gFl RX12 88 15 39 (.array .long) true := ⟨RX12, TX12, 42, tyX12, rfl, by decide, kw_1648, inwX12, tyX12_ok, nmX12, by decide +kernel, rfl, fun _ => rfl⟩
theorem flX12_91 : gFl RX12 91 15 41 (.array .int) true := ⟨RX12, TX12, 42, tyX12, rfl, by decide, kw_1650, inwX12, tyX12_ok, nmX12, by decide +kernel, rfl, fun _ => rfl⟩
theorem flX12_94 : gFl RX12 94 15 25 .int false := ⟨RX12, TX12, 42, tyX12, rfl, by decide, kw_1634, inwX12, tyX12_ok, nmX12, by decide +kernel, rfl, fun z => Bool.noConfusion z⟩
theorem gY_X12_in : gYn yX12_in 3 := ⟨by decide +kernel, by decide +kernel, by decide +kernel⟩
theorem lkX12_99 : gLS RX12 99 yX12_in cX12_in 6 (some FieldType.boolean) 3 := ⟨kw_1746, kw_1747, kw_16, kw_1748, gY_X12_in⟩
theorem flX12_107 : gFl RX12 107 15 3 .int false := ⟨RX12, TX12, 42, tyX12, rfl, by decide, kw_1612, inwX12, tyX12_ok, nmX12, by decide +kernel, rfl, fun z => Bool.noConfusion z⟩
theorem gY_X12_fails : gYn yX12_fails 1 := ⟨by decide +kernel, by decide +kernel, by decide +kernel⟩
theorem lkX12_103 : gLV RX12 103 yX12_fails cX12_fails 2 (some FieldType.int) 1 := ⟨kw_1749, kw_1751, kp_44, kw_16, kw_1752, gY_X12_fails⟩
theorem gY_X12_isParameter : gYn yX12_isParameter 1 := ⟨by decide +kernel, by decide +kernel, by decide +kernel⟩
theorem lkX12_110 : gLV RX12 110 yX12_isParameter cX12_isParameter 2 (some FieldType.boolean) 1 := ⟨kw_1757, kw_1759, kp_45, kw_16, kw_1760, gY_X12_isParameter⟩
theorem flX12_120 : gFl RX12 120 15 8 .int false := ⟨RX12, TX12, 42, tyX12, rfl, by decide, kw_1617, inwX12, tyX12_ok, nmX12, by decide +kernel, rfl, fun z => Bool.noConfusion z⟩
theorem gY_X12_isClip : gYn yX12_isClip 1 := ⟨by decide +kernel, by decide +kernel, by decide +kernel⟩
theorem lkX12_123 : gLV RX12 123 yX12_isClip cX12_isClip 2 (some FieldType.boolean) 1 := ⟨kw_1776, kw_1778, kp_46, kw_16, kw_1779, gY_X12_isClip⟩
theorem flX12_128 : gFl RX12 128 15 14 .int false := ⟨RX12, TX12, 42, tyX12, rfl, by decide, kw_1623, inwX12, tyX12_ok, nmX12, by decide +kernel, rfl, fun z => Bool.noConfusion z⟩
theorem gY_X12_isComplete : gYn yX12_isComplete 1 := ⟨by decide +kernel, by decide +kernel, by decide +kernel⟩
theorem lkX12_134 : gLV RX12 134 yX12_isComplete cX12_isComplete 2 (some FieldType.boolean) 1 := ⟨kw_1797, kw_1799, kp_48, kw_16, kw_1800, gY_X12_isComplete⟩
theorem gY_X12_greatestDepth : gYn yX12_greatestDepth 2 := ⟨by decide +kernel, by decide +kernel, by decide +kernel⟩
theorem lkX12_137 : gLV RX12 137 yX12_greatestDepth cX12_greatestDepth 7 (some FieldType.int) 2 := ⟨kw_1801, kw_1803, kp_49, kw_16, kw_1804, gY_X12_greatestDepth⟩
theorem gY_X12_isNode : gYn yX12_isNode 1 := ⟨by decide +kernel, by decide +kernel, by decide +kernel⟩
theorem lkX12_131 : gLV RX12 131 yX12_isNode cX12_isNode 2 (some FieldType.boolean) 1 := ⟨kw_1793, kw_1795, kp_47, kw_16, kw_1796, gY_X12_isNode⟩
theorem gY_X12_opens : gYn yX12_opens 3 := ⟨by decide +kernel, by decide +kernel, by decide +kernel⟩
theorem lkX12_141 : gLV RX12 141 yX12_opens cX12_opens 10 (some FieldType.int) 3 := ⟨kw_1939, kw_1941, kp_70, kw_16, kw_1942, gY_X12_opens⟩
theorem flX12_145 : gFl RX12 145 15 19 .int false := ⟨RX12, TX12, 42, tyX12, rfl, by decide, kw_1628, inwX12, tyX12_ok, nmX12, by decide +kernel, rfl, fun z => Bool.noConfusion z⟩
theorem gY_X12_track : gYn yX12_track 3 := ⟨by decide +kernel, by decide +kernel, by decide +kernel⟩
theorem lkX12_155 : gLV RX12 155 yX12_track cX12_track 4 none 3 := ⟨kw_1815, kw_1817, kp_51, kw_16, kw_1818, gY_X12_track⟩
theorem gY_X12_begins : gYn yX12_begins 0 := ⟨by decide +kernel, by decide +kernel, by decide +kernel⟩
theorem lkX12_152 : gLV RX12 152 yX12_begins cX12_begins 1 none 0 := ⟨kw_1811, kw_1813, kp_50, kw_16, kw_1814, gY_X12_begins⟩
theorem flX12_159 : gFl RX12 159 15 21 .int false := ⟨RX12, TX12, 42, tyX12, rfl, by decide, kw_1630, inwX12, tyX12_ok, nmX12, by decide +kernel, rfl, fun z => Bool.noConfusion z⟩
theorem gY_X12_isState : gYn yX12_isState 1 := ⟨by decide +kernel, by decide +kernel, by decide +kernel⟩
theorem lkX12_162 : gLV RX12 162 yX12_isState cX12_isState 2 (some FieldType.boolean) 1 := ⟨kw_1823, kw_1825, kp_52, kw_16, kw_1826, gY_X12_isState⟩
theorem gY_X12_newTransition : gYn yX12_newTransition 3 := ⟨by decide +kernel, by decide +kernel, by decide +kernel⟩
theorem lkX12_167 : gLV RX12 167 yX12_newTransition cX12_newTransition 6 none 3 := ⟨kw_1828, kw_1830, kp_53, kw_16, kw_1831, gY_X12_newTransition⟩
theorem gY_X12_of : gYn yX12_of 2 := ⟨by decide +kernel, by decide +kernel, by decide +kernel⟩
theorem lkX12_177 : gLV RX12 177 yX12_of cX12_of 3 (some FieldType.int) 2 := ⟨kw_1842, kw_1844, kp_55, kw_16, kw_1845, gY_X12_of⟩
theorem gY_X12_isTransition : gYn yX12_isTransition 1 := ⟨by decide +kernel, by decide +kernel, by decide +kernel⟩
theorem lkX12_170 : gLV RX12 170 yX12_isTransition cX12_isTransition 2 (some FieldType.boolean) 1 := ⟨kw_1836, kw_1838, kp_54, kw_16, kw_1839, gY_X12_isTransition⟩
theorem gY_X12_condition : gYn yX12_condition 4 := ⟨by decide +kernel, by decide +kernel, by decide +kernel⟩
theorem lkX12_182 : gLV RX12 182 yX12_condition cX12_condition 6 none 4 := ⟨kw_1855, kw_1857, kp_56, kw_16, kw_1858, gY_X12_condition⟩
theorem flX12_188 : gFl RX12 188 15 24 .int false := ⟨RX12, TX12, 42, tyX12, rfl, by decide, kw_1633, inwX12, tyX12_ok, nmX12, by decide +kernel, rfl, fun z => Bool.noConfusion z⟩
theorem flX12_191 : gFl RX12 191 15 30 .int false := ⟨RX12, TX12, 42, tyX12, rfl, by decide, kw_1639, inwX12, tyX12_ok, nmX12, by decide +kernel, rfl, fun z => Bool.noConfusion z⟩
theorem flX12_197 : gFl RX12 197 15 31 .boolean false := ⟨RX12, TX12, 42, tyX12, rfl, by decide, kw_1640, inwX12, tyX12_ok, nmX12, by decide +kernel, rfl, fun z => Bool.noConfusion z⟩
theorem gY_X12_skips : gYn yX12_skips 0 := ⟨by decide +kernel, by decide +kernel, by decide +kernel⟩
theorem lkX12_194 : gLV RX12 194 yX12_skips cX12_skips 1 none 0 := ⟨kw_1884, kw_1886, kp_59, kw_16, kw_1887, gY_X12_skips⟩
theorem gY_X12_here : gYn yX12_here 1 := ⟨by decide +kernel, by decide +kernel, by decide +kernel⟩
theorem lkX12_201 : gLV RX12 201 yX12_here cX12_here 2 (some FieldType.boolean) 1 := ⟨kw_1892, kw_1894, kp_61, kw_16, kw_1895, gY_X12_here⟩
theorem flX12_208 : gFl RX12 208 15 33 .int false := ⟨RX12, TX12, 42, tyX12, rfl, by decide, kw_1642, inwX12, tyX12_ok, nmX12, by decide +kernel, rfl, fun z => Bool.noConfusion z⟩
theorem flX12_211 : gFl RX12 211 15 32 .boolean false := ⟨RX12, TX12, 42, tyX12, rfl, by decide, kw_1641, inwX12, tyX12_ok, nmX12, by decide +kernel, rfl, fun z => Bool.noConfusion z⟩
theorem gY_X12_readsNumber : gYn yX12_readsNumber 1 := ⟨by decide +kernel, by decide +kernel, by decide +kernel⟩
theorem lkX12_225 : gLV RX12 225 yX12_readsNumber cX12_readsNumber 5 none 1 := ⟨kw_1900, kw_1902, kp_63, kw_16, kw_1903, gY_X12_readsNumber⟩
theorem gY_X12_sets : gYn yX12_sets 2 := ⟨by decide +kernel, by decide +kernel, by decide +kernel⟩
theorem lkX12_240 : gLV RX12 240 yX12_sets cX12_sets 3 none 2 := ⟨kw_1914, kw_1916, kp_66, kw_16, kw_1917, gY_X12_sets⟩
theorem flX12_228 : gFl RX12 228 15 35 .int false := ⟨RX12, TX12, 42, tyX12, rfl, by decide, kw_1644, inwX12, tyX12_ok, nmX12, by decide +kernel, rfl, fun z => Bool.noConfusion z⟩
theorem flX12_231 : gFl RX12 231 15 36 .int false := ⟨RX12, TX12, 42, tyX12, rfl, by decide, kw_1645, inwX12, tyX12_ok, nmX12, by decide +kernel, rfl, fun z => Bool.noConfusion z⟩
theorem gY_X12_readsCondition : gYn yX12_readsCondition 0 := ⟨by decide +kernel, by decide +kernel, by decide +kernel⟩
theorem lkX12_237 : gLV RX12 237 yX12_readsCondition cX12_readsCondition 6 none 0 := ⟨kw_1910, kw_1912, kp_65, kw_16, kw_1913, gY_X12_readsCondition⟩
theorem gY_X12_readsAttribute : gYn yX12_readsAttribute 0 := ⟨by decide +kernel, by decide +kernel, by decide +kernel⟩
theorem lkX12_234 : gLV RX12 234 yX12_readsAttribute cX12_readsAttribute 2 none 0 := ⟨kw_1906, kw_1908, kp_64, kw_16, kw_1909, gY_X12_readsAttribute⟩
theorem gY_X12_readsState : gYn yX12_readsState 1 := ⟨by decide +kernel, by decide +kernel, by decide +kernel⟩
theorem lkX12_217 : gLV RX12 217 yX12_readsState cX12_readsState 3 (some FieldType.int) 1 := ⟨kw_1888, kw_1890, kp_60, kw_16, kw_1891, gY_X12_readsState⟩
theorem gY_X12_reads : gYn yX12_reads 1 := ⟨by decide +kernel, by decide +kernel, by decide +kernel⟩
theorem lkX12_221 : gLV RX12 221 yX12_reads cX12_reads 2 none 1 := ⟨kw_1896, kw_1898, kp_62, kw_16, kw_1899, gY_X12_reads⟩
theorem flX12_214 : gFl RX12 214 15 34 .int false := ⟨RX12, TX12, 42, tyX12, rfl, by decide, kw_1643, inwX12, tyX12_ok, nmX12, by decide +kernel, rfl, fun z => Bool.noConfusion z⟩
theorem gY_X12_readsTransition : gYn yX12_readsTransition 0 := ⟨by decide +kernel, by decide +kernel, by decide +kernel⟩
theorem lkX12_244 : gLV RX12 244 yX12_readsTransition cX12_readsTransition 3 none 0 := ⟨kw_1880, kw_1882, kp_58, kw_16, kw_1883, gY_X12_readsTransition⟩
theorem gY_X12_readsAll : gYn yX12_readsAll 1 := ⟨by decide +kernel, by decide +kernel, by decide +kernel⟩
theorem lkX12_247 : gLV RX12 247 yX12_readsAll cX12_readsAll 2 (some FieldType.boolean) 1 := ⟨kw_1876, kw_1878, kp_57, kw_16, kw_1879, gY_X12_readsAll⟩
theorem gY_X12_blends : gYn yX12_blends 2 := ⟨by decide +kernel, by decide +kernel, by decide +kernel⟩
theorem lkX12_253 : gLV RX12 253 yX12_blends cX12_blends 8 none 2 := ⟨kw_1935, kw_1937, kp_69, kw_16, kw_1938, gY_X12_blends⟩
theorem gY_X12_progressOf : gYn yX12_progressOf 1 := ⟨by decide +kernel, by decide +kernel, by decide +kernel⟩
theorem lkX12_257 : gLV RX12 257 yX12_progressOf cX12_progressOf 2 (some FieldType.long) 1 := ⟨kw_1999, kw_2001, kp_81, kw_16, kw_2002, gY_X12_progressOf⟩
theorem gY_X12_lengthOf : gYn yX12_lengthOf 1 := ⟨by decide +kernel, by decide +kernel, by decide +kernel⟩
theorem lkX12_262 : gLV RX12 262 yX12_lengthOf cX12_lengthOf 5 (some FieldType.long) 1 := ⟨kw_2050, kw_2052, kp_92, kw_16, kw_2053, gY_X12_lengthOf⟩
theorem flX12_265 : gFl RX12 265 15 40 .int false := ⟨RX12, TX12, 42, tyX12, rfl, by decide, kw_1649, inwX12, tyX12_ok, nmX12, by decide +kernel, rfl, fun z => Bool.noConfusion z⟩
theorem gY_X12_addsEntry : gYn yX12_addsEntry 3 := ⟨by decide +kernel, by decide +kernel, by decide +kernel⟩
theorem lkX12_268 : gLV RX12 268 yX12_addsEntry cX12_addsEntry 7 none 3 := ⟨kw_1943, kw_1945, kp_71, kw_16, kw_1946, gY_X12_addsEntry⟩
theorem gY_X12_addsTrack : gYn yX12_addsTrack 2 := ⟨by decide +kernel, by decide +kernel, by decide +kernel⟩
theorem lkX12_272 : gLV RX12 272 yX12_addsTrack cX12_addsTrack 7 none 2 := ⟨kw_1931, kw_1933, kp_68, kw_16, kw_1934, gY_X12_addsTrack⟩
theorem gY_X12_shareOfTarget : gYn yX12_shareOfTarget 0 := ⟨by decide +kernel, by decide +kernel, by decide +kernel⟩
theorem lkX12_275 : gLV RX12 275 yX12_shareOfTarget cX12_shareOfTarget 1 (some FieldType.long) 0 := ⟨kw_1947, kw_1949, kp_72, kw_16, kw_1950, gY_X12_shareOfTarget⟩
theorem gY_X12_addsFrozen : gYn yX12_addsFrozen 1 := ⟨by decide +kernel, by decide +kernel, by decide +kernel⟩
theorem lkX12_279 : gLV RX12 279 yX12_addsFrozen cX12_addsFrozen 8 none 1 := ⟨kw_1951, kw_1953, kp_73, kw_16, kw_1954, gY_X12_addsFrozen⟩
theorem gY_X12_poses : gYn yX12_poses 0 := ⟨by decide +kernel, by decide +kernel, by decide +kernel⟩
theorem lkX12_283 : gLV RX12 283 yX12_poses cX12_poses 3 none 0 := ⟨kw_1926, kw_1928, kp_67, kw_16, kw_1929, gY_X12_poses⟩
theorem gY_X12_hasEntry : gYn yX12_hasEntry 1 := ⟨by decide +kernel, by decide +kernel, by decide +kernel⟩
theorem lkX12_286 : gLV RX12 286 yX12_hasEntry cX12_hasEntry 2 (some FieldType.boolean) 1 := ⟨kw_1959, kw_1961, kp_74, kw_16, kw_1962, gY_X12_hasEntry⟩
theorem gY_X12_inList : gYn yX12_inList 2 := ⟨by decide +kernel, by decide +kernel, by decide +kernel⟩
theorem lkX12_289 : gLV RX12 289 yX12_inList cX12_inList 3 (some FieldType.boolean) 2 := ⟨kw_1979, kw_1981, kp_76, kw_16, kw_1982, gY_X12_inList⟩
theorem gY_X12_isBack : gYn yX12_isBack 2 := ⟨by decide +kernel, by decide +kernel, by decide +kernel⟩
theorem lkX12_293 : gLV RX12 293 yX12_isBack cX12_isBack 3 (some FieldType.boolean) 2 := ⟨kw_1983, kw_1985, kp_77, kw_16, kw_1986, gY_X12_isBack⟩
theorem gY_X12_inTarget : gYn yX12_inTarget 1 := ⟨by decide +kernel, by decide +kernel, by decide +kernel⟩
theorem lkX12_299 : gLV RX12 299 yX12_inTarget cX12_inTarget 2 (some FieldType.boolean) 1 := ⟨kw_1991, kw_1993, kp_79, kw_16, kw_1994, gY_X12_inTarget⟩
theorem gY_X12_inSource : gYn yX12_inSource 1 := ⟨by decide +kernel, by decide +kernel, by decide +kernel⟩
theorem lkX12_296 : gLV RX12 296 yX12_inSource cX12_inSource 3 (some FieldType.boolean) 1 := ⟨kw_1987, kw_1989, kp_78, kw_16, kw_1990, gY_X12_inSource⟩
theorem gY_X12_holds : gYn yX12_holds 2 := ⟨by decide +kernel, by decide +kernel, by decide +kernel⟩
theorem lkX12_304 : gLV RX12 304 yX12_holds cX12_holds 7 (some FieldType.boolean) 2 := ⟨kw_2004, kw_2006, kp_82, kw_16, kw_2007, gY_X12_holds⟩
theorem gY_X12_listOf : gYn yX12_listOf 1 := ⟨by decide +kernel, by decide +kernel, by decide +kernel⟩
theorem lkX12_307 : gLV RX12 307 yX12_listOf cX12_listOf 5 (some FieldType.int) 1 := ⟨kw_1975, kw_1977, kp_75, kw_16, kw_1978, gY_X12_listOf⟩
theorem gY_X12_against : gYn yX12_against 2 := ⟨by decide +kernel, by decide +kernel, by decide +kernel⟩
theorem lkX12_310 : gLV RX12 310 yX12_against cX12_against 5 (some FieldType.int) 2 := ⟨kw_1995, kw_1997, kp_80, kw_16, kw_1998, gY_X12_against⟩
theorem gY_X12_copiesTrack : gYn yX12_copiesTrack 2 := ⟨by decide +kernel, by decide +kernel, by decide +kernel⟩
theorem lkX12_322 : gLV RX12 322 yX12_copiesTrack cX12_copiesTrack 4 none 2 := ⟨kw_2028, kw_2030, kp_87, kw_16, kw_2031, gY_X12_copiesTrack⟩
theorem gY_X12_ends : gYn yX12_ends 0 := ⟨by decide +kernel, by decide +kernel, by decide +kernel⟩
theorem lkX12_330 : gLV RX12 330 yX12_ends cX12_ends 1 none 0 := ⟨kw_2042, kw_2044, kp_90, kw_16, kw_2045, gY_X12_ends⟩
theorem gY_X12_isSynced : gYn yX12_isSynced 0 := ⟨by decide +kernel, by decide +kernel, by decide +kernel⟩
theorem lkX12_325 : gLV RX12 325 yX12_isSynced cX12_isSynced 2 (some FieldType.boolean) 0 := ⟨kw_2036, kw_2038, kp_89, kw_16, kw_2039, gY_X12_isSynced⟩
theorem gY_X12_goesTo : gYn yX12_goesTo 1 := ⟨by decide +kernel, by decide +kernel, by decide +kernel⟩
theorem lkX12_319 : gLV RX12 319 yX12_goesTo cX12_goesTo 4 none 1 := ⟨kw_2032, kw_2034, kp_88, kw_16, kw_2035, gY_X12_goesTo⟩
theorem gY_X12_freezes : gYn yX12_freezes 1 := ⟨by decide +kernel, by decide +kernel, by decide +kernel⟩
theorem lkX12_316 : gLV RX12 316 yX12_freezes cX12_freezes 3 none 1 := ⟨kw_2024, kw_2026, kp_86, kw_16, kw_2027, gY_X12_freezes⟩
theorem gY_X12_firstOf : gYn yX12_firstOf 1 := ⟨by decide +kernel, by decide +kernel, by decide +kernel⟩
theorem lkX12_313 : gLV RX12 313 yX12_firstOf cX12_firstOf 4 (some FieldType.int) 1 := ⟨kw_2020, kw_2022, kp_85, kw_16, kw_2023, gY_X12_firstOf⟩
theorem gY_X12_isCrossed : gYn yX12_isCrossed 5 := ⟨by decide +kernel, by decide +kernel, by decide +kernel⟩
theorem lkX12_333 : gLS RX12 333 yX12_isCrossed cX12_isCrossed 14 (some FieldType.boolean) 5 := ⟨kw_2062, kw_2063, kw_16, kw_2064, gY_X12_isCrossed⟩
theorem gY_X12_notes : gYn yX12_notes 4 := ⟨by decide +kernel, by decide +kernel, by decide +kernel⟩
theorem lkX12_337 : gLV RX12 337 yX12_notes cX12_notes 6 none 4 := ⟨kw_2065, kw_2067, kp_95, kw_16, kw_2068, gY_X12_notes⟩
theorem gY_X12_stepOf : gYn yX12_stepOf 1 := ⟨by decide +kernel, by decide +kernel, by decide +kernel⟩
theorem lkX12_343 : gLV RX12 343 yX12_stepOf cX12_stepOf 3 (some FieldType.long) 1 := ⟨kw_2046, kw_2048, kp_91, kw_16, kw_2049, gY_X12_stepOf⟩
theorem gY_X12_advances : gYn yX12_advances 2 := ⟨by decide +kernel, by decide +kernel, by decide +kernel⟩
theorem lkX12_346 : gLV RX12 346 yX12_advances cX12_advances 6 none 2 := ⟨kw_2054, kw_2056, kp_93, kw_16, kw_2057, gY_X12_advances⟩
theorem gY_X12_fires : gYn yX12_fires 6 := ⟨by decide +kernel, by decide +kernel, by decide +kernel⟩
theorem lkX12_349 : gLV RX12 349 yX12_fires cX12_fires 15 none 6 := ⟨kw_2058, kw_2060, kp_94, kw_16, kw_2061, gY_X12_fires⟩
theorem gY_X12_advancesBoth : gYn yX12_advancesBoth 0 := ⟨by decide +kernel, by decide +kernel, by decide +kernel⟩
theorem lkX12_353 : gLV RX12 353 yX12_advancesBoth cX12_advancesBoth 11 none 0 := ⟨kw_2069, kw_2071, kp_96, kw_16, kw_2072, gY_X12_advancesBoth⟩
theorem gY_X12_takes : gYn yX12_takes 0 := ⟨by decide +kernel, by decide +kernel, by decide +kernel⟩
theorem lkX12_340 : gLV RX12 340 yX12_takes cX12_takes 6 (some FieldType.boolean) 0 := ⟨kw_2016, kw_2018, kp_84, kw_16, kw_2019, gY_X12_takes⟩
theorem gY_X12_ticks : gYn yX12_ticks 0 := ⟨by decide +kernel, by decide +kernel, by decide +kernel⟩
theorem lkX12_356 : gLV RX12 356 yX12_ticks cX12_ticks 16 none 0 := ⟨kw_2012, kw_2014, kp_83, kw_16, kw_2015, gY_X12_ticks⟩
theorem gY_X12_copies : gYn yX12_copies 2 := ⟨by decide +kernel, by decide +kernel, by decide +kernel⟩
theorem lkX12_359 : gLV RX12 359 yX12_copies cX12_copies 4 none 2 := ⟨kw_2121, kw_2123, kp_97, kw_16, kw_2124, gY_X12_copies⟩
