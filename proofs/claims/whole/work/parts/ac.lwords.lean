theorem ku_739 : (Cond.castable "java/lang/IllegalArgumentException" "java/lang/IllegalArgumentException") ∈ gU := gU_n 739 (by decide +kernel) rfl
theorem ku_807 : (Cond.castable "java/lang/IllegalStateException" "java/lang/IllegalStateException") ∈ gU := gU_n 807 (by decide +kernel) rfl
theorem ku_839 : (Cond.castable "java/lang/IndexOutOfBoundsException" "java/lang/IndexOutOfBoundsException") ∈ gU := gU_n 839 (by decide +kernel) rfl
theorem kw_1225 : (Cond.methodLink "AnimationControllerLaw" (42 : Nat) ({ cls := "AnimationController", name := "addState", desc := "(IIZI)I" } : MethodName)) ∈ gW := gW_n 1225 (by decide +kernel) rfl
theorem kw_1226 : (Cond.instanceMethod ({ cls := "AnimationController", name := "addState", desc := "(IIZI)I" } : MethodName)) ∈ gW := gW_n 1226 (by decide +kernel) rfl
theorem kw_1227 : (Cond.selects "AnimationController" ({ cls := "AnimationController", name := "addState", desc := "(IIZI)I" } : MethodName) ({ cls := "AnimationController", name := "addState", desc := "(IIZI)I" } : MethodName)) ∈ gW := gW_n 1227 (by decide +kernel) rfl
theorem kw_1228 : (Cond.code ({ cls := "AnimationController", name := "addState", desc := "(IIZI)I" } : MethodName) prog_1_method_10_code (7 : Nat) (Option.some FieldType.int)) ∈ gW := gW_n 1228 (by decide +kernel) rfl
theorem kw_1235 : (Cond.methodLink "AnimationControllerLaw" (46 : Nat) ({ cls := "AnimationController", name := "addTransition", desc := "(III)I" } : MethodName)) ∈ gW := gW_n 1235 (by decide +kernel) rfl
theorem kw_1236 : (Cond.instanceMethod ({ cls := "AnimationController", name := "addTransition", desc := "(III)I" } : MethodName)) ∈ gW := gW_n 1236 (by decide +kernel) rfl
theorem kw_1237 : (Cond.selects "AnimationController" ({ cls := "AnimationController", name := "addTransition", desc := "(III)I" } : MethodName) ({ cls := "AnimationController", name := "addTransition", desc := "(III)I" } : MethodName)) ∈ gW := gW_n 1237 (by decide +kernel) rfl
theorem kw_1238 : (Cond.code ({ cls := "AnimationController", name := "addTransition", desc := "(III)I" } : MethodName) prog_1_method_11_code (7 : Nat) (Option.some FieldType.int)) ∈ gW := gW_n 1238 (by decide +kernel) rfl
theorem kw_1252 : (Cond.methodLink "AnimationControllerLaw" (49 : Nat) ({ cls := "AnimationController", name := "setTiming", desc := "(III)I" } : MethodName)) ∈ gW := gW_n 1252 (by decide +kernel) rfl
theorem kw_1253 : (Cond.instanceMethod ({ cls := "AnimationController", name := "setTiming", desc := "(III)I" } : MethodName)) ∈ gW := gW_n 1253 (by decide +kernel) rfl
theorem kw_1254 : (Cond.selects "AnimationController" ({ cls := "AnimationController", name := "setTiming", desc := "(III)I" } : MethodName) ({ cls := "AnimationController", name := "setTiming", desc := "(III)I" } : MethodName)) ∈ gW := gW_n 1254 (by decide +kernel) rfl
theorem kw_1255 : (Cond.code ({ cls := "AnimationController", name := "setTiming", desc := "(III)I" } : MethodName) prog_1_method_12_code (6 : Nat) (Option.some FieldType.int)) ∈ gW := gW_n 1255 (by decide +kernel) rfl
theorem kw_1266 : (Cond.methodLink "AnimationControllerLaw" (52 : Nat) ({ cls := "AnimationController", name := "setInterruption", desc := "(IIZ)I" } : MethodName)) ∈ gW := gW_n 1266 (by decide +kernel) rfl
theorem kw_1267 : (Cond.instanceMethod ({ cls := "AnimationController", name := "setInterruption", desc := "(IIZ)I" } : MethodName)) ∈ gW := gW_n 1267 (by decide +kernel) rfl
theorem kw_1268 : (Cond.selects "AnimationController" ({ cls := "AnimationController", name := "setInterruption", desc := "(IIZ)I" } : MethodName) ({ cls := "AnimationController", name := "setInterruption", desc := "(IIZ)I" } : MethodName)) ∈ gW := gW_n 1268 (by decide +kernel) rfl
theorem kw_1269 : (Cond.code ({ cls := "AnimationController", name := "setInterruption", desc := "(IIZ)I" } : MethodName) prog_1_method_13_code (6 : Nat) (Option.some FieldType.int)) ∈ gW := gW_n 1269 (by decide +kernel) rfl
theorem kw_1274 : (Cond.methodLink "AnimationControllerLaw" (56 : Nat) ({ cls := "AnimationController", name := "addCondition", desc := "(IIII)I" } : MethodName)) ∈ gW := gW_n 1274 (by decide +kernel) rfl
theorem kw_1275 : (Cond.instanceMethod ({ cls := "AnimationController", name := "addCondition", desc := "(IIII)I" } : MethodName)) ∈ gW := gW_n 1275 (by decide +kernel) rfl
theorem kw_1276 : (Cond.selects "AnimationController" ({ cls := "AnimationController", name := "addCondition", desc := "(IIII)I" } : MethodName) ({ cls := "AnimationController", name := "addCondition", desc := "(IIII)I" } : MethodName)) ∈ gW := gW_n 1276 (by decide +kernel) rfl
theorem kw_1277 : (Cond.code ({ cls := "AnimationController", name := "addCondition", desc := "(IIII)I" } : MethodName) prog_1_method_14_code (6 : Nat) (Option.some FieldType.int)) ∈ gW := gW_n 1277 (by decide +kernel) rfl
theorem kw_1289 : (Cond.methodLink "AnimationControllerLaw" (60 : Nat) ({ cls := "AnimationController", name := "setThreshold", desc := "(I)I" } : MethodName)) ∈ gW := gW_n 1289 (by decide +kernel) rfl
theorem kw_1290 : (Cond.instanceMethod ({ cls := "AnimationController", name := "setThreshold", desc := "(I)I" } : MethodName)) ∈ gW := gW_n 1290 (by decide +kernel) rfl
theorem kw_1291 : (Cond.selects "AnimationController" ({ cls := "AnimationController", name := "setThreshold", desc := "(I)I" } : MethodName) ({ cls := "AnimationController", name := "setThreshold", desc := "(I)I" } : MethodName)) ∈ gW := gW_n 1291 (by decide +kernel) rfl
theorem kw_1292 : (Cond.code ({ cls := "AnimationController", name := "setThreshold", desc := "(I)I" } : MethodName) prog_1_method_15_code (3 : Nat) (Option.some FieldType.int)) ∈ gW := gW_n 1292 (by decide +kernel) rfl
theorem kw_1297 : (Cond.methodLink "AnimationControllerLaw" (63 : Nat) ({ cls := "AnimationController", name := "type", desc := "(I)I" } : MethodName)) ∈ gW := gW_n 1297 (by decide +kernel) rfl
theorem kw_1298 : (Cond.instanceMethod ({ cls := "AnimationController", name := "type", desc := "(I)I" } : MethodName)) ∈ gW := gW_n 1298 (by decide +kernel) rfl
theorem kw_1299 : (Cond.selects "AnimationController" ({ cls := "AnimationController", name := "type", desc := "(I)I" } : MethodName) ({ cls := "AnimationController", name := "type", desc := "(I)I" } : MethodName)) ∈ gW := gW_n 1299 (by decide +kernel) rfl
theorem kw_1300 : (Cond.code ({ cls := "AnimationController", name := "type", desc := "(I)I" } : MethodName) prog_1_method_16_code (2 : Nat) (Option.some FieldType.int)) ∈ gW := gW_n 1300 (by decide +kernel) rfl
theorem kw_1306 : (Cond.methodLink "AnimationControllerLaw" (66 : Nat) ({ cls := "AnimationController", name := "load", desc := "()I" } : MethodName)) ∈ gW := gW_n 1306 (by decide +kernel) rfl
theorem kw_1307 : (Cond.instanceMethod ({ cls := "AnimationController", name := "load", desc := "()I" } : MethodName)) ∈ gW := gW_n 1307 (by decide +kernel) rfl
theorem kw_1308 : (Cond.selects "AnimationController" ({ cls := "AnimationController", name := "load", desc := "()I" } : MethodName) ({ cls := "AnimationController", name := "load", desc := "()I" } : MethodName)) ∈ gW := gW_n 1308 (by decide +kernel) rfl
theorem kw_1309 : (Cond.code ({ cls := "AnimationController", name := "load", desc := "()I" } : MethodName) prog_1_method_19_code (2 : Nat) (Option.some FieldType.int)) ∈ gW := gW_n 1309 (by decide +kernel) rfl
theorem kw_1314 : (Cond.methodLink "AnimationControllerLaw" (70 : Nat) ({ cls := "AnimationController", name := "tick", desc := "(I)I" } : MethodName)) ∈ gW := gW_n 1314 (by decide +kernel) rfl
theorem kw_1315 : (Cond.instanceMethod ({ cls := "AnimationController", name := "tick", desc := "(I)I" } : MethodName)) ∈ gW := gW_n 1315 (by decide +kernel) rfl
theorem kw_1316 : (Cond.selects "AnimationController" ({ cls := "AnimationController", name := "tick", desc := "(I)I" } : MethodName) ({ cls := "AnimationController", name := "tick", desc := "(I)I" } : MethodName)) ∈ gW := gW_n 1316 (by decide +kernel) rfl
theorem kw_1317 : (Cond.code ({ cls := "AnimationController", name := "tick", desc := "(I)I" } : MethodName) prog_1_method_20_code (4 : Nat) (Option.some FieldType.int)) ∈ gW := gW_n 1317 (by decide +kernel) rfl
theorem kw_1452 : (Cond.methodLink "AnimationControllerLaw" (73 : Nat) ({ cls := "AnimationController", name := "state", desc := "()I" } : MethodName)) ∈ gW := gW_n 1452 (by decide +kernel) rfl
theorem kw_1453 : (Cond.instanceMethod ({ cls := "AnimationController", name := "state", desc := "()I" } : MethodName)) ∈ gW := gW_n 1453 (by decide +kernel) rfl
theorem kw_1454 : (Cond.selects "AnimationController" ({ cls := "AnimationController", name := "state", desc := "()I" } : MethodName) ({ cls := "AnimationController", name := "state", desc := "()I" } : MethodName)) ∈ gW := gW_n 1454 (by decide +kernel) rfl
theorem kw_1455 : (Cond.code ({ cls := "AnimationController", name := "state", desc := "()I" } : MethodName) prog_1_method_22_code (1 : Nat) (Option.some FieldType.int)) ∈ gW := gW_n 1455 (by decide +kernel) rfl
theorem kw_1459 : (Cond.methodLink "AnimationControllerLaw" (76 : Nat) ({ cls := "AnimationController", name := "progress", desc := "(Z)J" } : MethodName)) ∈ gW := gW_n 1459 (by decide +kernel) rfl
theorem kw_1460 : (Cond.instanceMethod ({ cls := "AnimationController", name := "progress", desc := "(Z)J" } : MethodName)) ∈ gW := gW_n 1460 (by decide +kernel) rfl
theorem kw_1461 : (Cond.selects "AnimationController" ({ cls := "AnimationController", name := "progress", desc := "(Z)J" } : MethodName) ({ cls := "AnimationController", name := "progress", desc := "(Z)J" } : MethodName)) ∈ gW := gW_n 1461 (by decide +kernel) rfl
theorem kw_1462 : (Cond.code ({ cls := "AnimationController", name := "progress", desc := "(Z)J" } : MethodName) prog_1_method_27_code (2 : Nat) (Option.some FieldType.long)) ∈ gW := gW_n 1462 (by decide +kernel) rfl
theorem kw_1468 : (Cond.methodLink "AnimationControllerLaw" (80 : Nat) ({ cls := "AnimationController", name := "stateLength", desc := "(I)I" } : MethodName)) ∈ gW := gW_n 1468 (by decide +kernel) rfl
theorem kw_1469 : (Cond.instanceMethod ({ cls := "AnimationController", name := "stateLength", desc := "(I)I" } : MethodName)) ∈ gW := gW_n 1469 (by decide +kernel) rfl
theorem kw_1470 : (Cond.selects "AnimationController" ({ cls := "AnimationController", name := "stateLength", desc := "(I)I" } : MethodName) ({ cls := "AnimationController", name := "stateLength", desc := "(I)I" } : MethodName)) ∈ gW := gW_n 1470 (by decide +kernel) rfl
theorem kw_1471 : (Cond.code ({ cls := "AnimationController", name := "stateLength", desc := "(I)I" } : MethodName) prog_1_method_28_code (2 : Nat) (Option.some FieldType.int)) ∈ gW := gW_n 1471 (by decide +kernel) rfl
theorem kw_1476 : (Cond.methodLink "AnimationControllerLaw" (83 : Nat) ({ cls := "AnimationController", name := "partWeight", desc := "(II)I" } : MethodName)) ∈ gW := gW_n 1476 (by decide +kernel) rfl
theorem kw_1477 : (Cond.instanceMethod ({ cls := "AnimationController", name := "partWeight", desc := "(II)I" } : MethodName)) ∈ gW := gW_n 1477 (by decide +kernel) rfl
theorem kw_1478 : (Cond.selects "AnimationController" ({ cls := "AnimationController", name := "partWeight", desc := "(II)I" } : MethodName) ({ cls := "AnimationController", name := "partWeight", desc := "(II)I" } : MethodName)) ∈ gW := gW_n 1478 (by decide +kernel) rfl
theorem kw_1479 : (Cond.code ({ cls := "AnimationController", name := "partWeight", desc := "(II)I" } : MethodName) prog_1_method_29_code (5 : Nat) (Option.some FieldType.int)) ∈ gW := gW_n 1479 (by decide +kernel) rfl
theorem kw_1486 : (Cond.methodLink "AnimationControllerLaw" (86 : Nat) ({ cls := "AnimationController", name := "blocked", desc := "(I)I" } : MethodName)) ∈ gW := gW_n 1486 (by decide +kernel) rfl
theorem kw_1487 : (Cond.instanceMethod ({ cls := "AnimationController", name := "blocked", desc := "(I)I" } : MethodName)) ∈ gW := gW_n 1487 (by decide +kernel) rfl
theorem kw_1488 : (Cond.selects "AnimationController" ({ cls := "AnimationController", name := "blocked", desc := "(I)I" } : MethodName) ({ cls := "AnimationController", name := "blocked", desc := "(I)I" } : MethodName)) ∈ gW := gW_n 1488 (by decide +kernel) rfl
theorem kw_1489 : (Cond.code ({ cls := "AnimationController", name := "blocked", desc := "(I)I" } : MethodName) prog_1_method_30_code (3 : Nat) (Option.some FieldType.int)) ∈ gW := gW_n 1489 (by decide +kernel) rfl
theorem kw_1495 : (Cond.methodLink "AnimationControllerLaw" (89 : Nat) ({ cls := "AnimationController", name := "poseClip", desc := "(I)I" } : MethodName)) ∈ gW := gW_n 1495 (by decide +kernel) rfl
theorem kw_1496 : (Cond.instanceMethod ({ cls := "AnimationController", name := "poseClip", desc := "(I)I" } : MethodName)) ∈ gW := gW_n 1496 (by decide +kernel) rfl
theorem kw_1497 : (Cond.selects "AnimationController" ({ cls := "AnimationController", name := "poseClip", desc := "(I)I" } : MethodName) ({ cls := "AnimationController", name := "poseClip", desc := "(I)I" } : MethodName)) ∈ gW := gW_n 1497 (by decide +kernel) rfl
theorem kw_1498 : (Cond.code ({ cls := "AnimationController", name := "poseClip", desc := "(I)I" } : MethodName) prog_1_method_32_code (3 : Nat) (Option.some FieldType.int)) ∈ gW := gW_n 1498 (by decide +kernel) rfl
theorem kw_1503 : (Cond.methodLink "AnimationControllerLaw" (92 : Nat) ({ cls := "AnimationController", name := "poseTime", desc := "(I)I" } : MethodName)) ∈ gW := gW_n 1503 (by decide +kernel) rfl
theorem kw_1504 : (Cond.instanceMethod ({ cls := "AnimationController", name := "poseTime", desc := "(I)I" } : MethodName)) ∈ gW := gW_n 1504 (by decide +kernel) rfl
theorem kw_1505 : (Cond.selects "AnimationController" ({ cls := "AnimationController", name := "poseTime", desc := "(I)I" } : MethodName) ({ cls := "AnimationController", name := "poseTime", desc := "(I)I" } : MethodName)) ∈ gW := gW_n 1505 (by decide +kernel) rfl
theorem kw_1506 : (Cond.code ({ cls := "AnimationController", name := "poseTime", desc := "(I)I" } : MethodName) prog_1_method_33_code (3 : Nat) (Option.some FieldType.int)) ∈ gW := gW_n 1506 (by decide +kernel) rfl
theorem kw_1510 : (Cond.methodLink "AnimationControllerLaw" (95 : Nat) ({ cls := "AnimationController", name := "poseWeight", desc := "(I)I" } : MethodName)) ∈ gW := gW_n 1510 (by decide +kernel) rfl
theorem kw_1511 : (Cond.instanceMethod ({ cls := "AnimationController", name := "poseWeight", desc := "(I)I" } : MethodName)) ∈ gW := gW_n 1511 (by decide +kernel) rfl
theorem kw_1512 : (Cond.selects "AnimationController" ({ cls := "AnimationController", name := "poseWeight", desc := "(I)I" } : MethodName) ({ cls := "AnimationController", name := "poseWeight", desc := "(I)I" } : MethodName)) ∈ gW := gW_n 1512 (by decide +kernel) rfl
theorem kw_1513 : (Cond.code ({ cls := "AnimationController", name := "poseWeight", desc := "(I)I" } : MethodName) prog_1_method_34_code (3 : Nat) (Option.some FieldType.int)) ∈ gW := gW_n 1513 (by decide +kernel) rfl
theorem kw_1517 : (Cond.methodLink "AnimationControllerLaw" (98 : Nat) ({ cls := "AnimationController", name := "event", desc := "(II)I" } : MethodName)) ∈ gW := gW_n 1517 (by decide +kernel) rfl
theorem kw_1518 : (Cond.instanceMethod ({ cls := "AnimationController", name := "event", desc := "(II)I" } : MethodName)) ∈ gW := gW_n 1518 (by decide +kernel) rfl
theorem kw_1519 : (Cond.selects "AnimationController" ({ cls := "AnimationController", name := "event", desc := "(II)I" } : MethodName) ({ cls := "AnimationController", name := "event", desc := "(II)I" } : MethodName)) ∈ gW := gW_n 1519 (by decide +kernel) rfl
theorem kw_1520 : (Cond.code ({ cls := "AnimationController", name := "event", desc := "(II)I" } : MethodName) prog_1_method_36_code (3 : Nat) (Option.some FieldType.int)) ∈ gW := gW_n 1520 (by decide +kernel) rfl
theorem kw_1536 : (Cond.methodLink "AnimationControllerLaw" (101 : Nat) ({ cls := "AnimationController", name := "foretell", desc := "(I)I" } : MethodName)) ∈ gW := gW_n 1536 (by decide +kernel) rfl
theorem kw_1537 : (Cond.instanceMethod ({ cls := "AnimationController", name := "foretell", desc := "(I)I" } : MethodName)) ∈ gW := gW_n 1537 (by decide +kernel) rfl
theorem kw_1538 : (Cond.selects "AnimationController" ({ cls := "AnimationController", name := "foretell", desc := "(I)I" } : MethodName) ({ cls := "AnimationController", name := "foretell", desc := "(I)I" } : MethodName)) ∈ gW := gW_n 1538 (by decide +kernel) rfl
theorem kw_1539 : (Cond.code ({ cls := "AnimationController", name := "foretell", desc := "(I)I" } : MethodName) prog_1_method_37_code (3 : Nat) (Option.some FieldType.int)) ∈ gW := gW_n 1539 (by decide +kernel) rfl
theorem kw_1553 : (Cond.methodLink "AnimationControllerLaw" (104 : Nat) ({ cls := "AnimationController", name := "ticksTo", desc := "(I)I" } : MethodName)) ∈ gW := gW_n 1553 (by decide +kernel) rfl
theorem kw_1554 : (Cond.instanceMethod ({ cls := "AnimationController", name := "ticksTo", desc := "(I)I" } : MethodName)) ∈ gW := gW_n 1554 (by decide +kernel) rfl
theorem kw_1555 : (Cond.selects "AnimationController" ({ cls := "AnimationController", name := "ticksTo", desc := "(I)I" } : MethodName) ({ cls := "AnimationController", name := "ticksTo", desc := "(I)I" } : MethodName)) ∈ gW := gW_n 1555 (by decide +kernel) rfl
theorem kw_1556 : (Cond.code ({ cls := "AnimationController", name := "ticksTo", desc := "(I)I" } : MethodName) prog_1_method_38_code (4 : Nat) (Option.some FieldType.int)) ∈ gW := gW_n 1556 (by decide +kernel) rfl
theorem kw_1560 : (Cond.methodLink "AnimationControllerLaw" (107 : Nat) ({ cls := "AnimationController", name := "steps", desc := "(II)I" } : MethodName)) ∈ gW := gW_n 1560 (by decide +kernel) rfl
theorem kw_1561 : (Cond.instanceMethod ({ cls := "AnimationController", name := "steps", desc := "(II)I" } : MethodName)) ∈ gW := gW_n 1561 (by decide +kernel) rfl
theorem kw_1562 : (Cond.selects "AnimationController" ({ cls := "AnimationController", name := "steps", desc := "(II)I" } : MethodName) ({ cls := "AnimationController", name := "steps", desc := "(II)I" } : MethodName)) ∈ gW := gW_n 1562 (by decide +kernel) rfl
theorem kw_1563 : (Cond.code ({ cls := "AnimationController", name := "steps", desc := "(II)I" } : MethodName) prog_1_method_39_code (6 : Nat) (Option.some FieldType.int)) ∈ gW := gW_n 1563 (by decide +kernel) rfl
theorem kw_1579 : (Cond.methodLink "AnimationControllerLaw" (110 : Nat) ({ cls := "AnimationController", name := "keep", desc := "(I)I" } : MethodName)) ∈ gW := gW_n 1579 (by decide +kernel) rfl
theorem kw_1580 : (Cond.instanceMethod ({ cls := "AnimationController", name := "keep", desc := "(I)I" } : MethodName)) ∈ gW := gW_n 1580 (by decide +kernel) rfl
theorem kw_1581 : (Cond.selects "AnimationController" ({ cls := "AnimationController", name := "keep", desc := "(I)I" } : MethodName) ({ cls := "AnimationController", name := "keep", desc := "(I)I" } : MethodName)) ∈ gW := gW_n 1581 (by decide +kernel) rfl
theorem kw_1582 : (Cond.code ({ cls := "AnimationController", name := "keep", desc := "(I)I" } : MethodName) prog_1_method_40_code (2 : Nat) (Option.some FieldType.int)) ∈ gW := gW_n 1582 (by decide +kernel) rfl
theorem kw_1591 : (Cond.methodLink "AnimationControllerLaw" (113 : Nat) ({ cls := "AnimationController", name := "restore", desc := "(I)I" } : MethodName)) ∈ gW := gW_n 1591 (by decide +kernel) rfl
theorem kw_1592 : (Cond.instanceMethod ({ cls := "AnimationController", name := "restore", desc := "(I)I" } : MethodName)) ∈ gW := gW_n 1592 (by decide +kernel) rfl
theorem kw_1593 : (Cond.selects "AnimationController" ({ cls := "AnimationController", name := "restore", desc := "(I)I" } : MethodName) ({ cls := "AnimationController", name := "restore", desc := "(I)I" } : MethodName)) ∈ gW := gW_n 1593 (by decide +kernel) rfl
theorem kw_1594 : (Cond.code ({ cls := "AnimationController", name := "restore", desc := "(I)I" } : MethodName) prog_1_method_41_code (2 : Nat) (Option.some FieldType.int)) ∈ gW := gW_n 1594 (by decide +kernel) rfl
theorem kw_1599 : (Cond.methodLink "AnimationControllerLaw" (116 : Nat) ({ cls := "AnimationController", name := "count", desc := "(I)I" } : MethodName)) ∈ gW := gW_n 1599 (by decide +kernel) rfl
theorem kw_1600 : (Cond.instanceMethod ({ cls := "AnimationController", name := "count", desc := "(I)I" } : MethodName)) ∈ gW := gW_n 1600 (by decide +kernel) rfl
theorem kw_1601 : (Cond.selects "AnimationController" ({ cls := "AnimationController", name := "count", desc := "(I)I" } : MethodName) ({ cls := "AnimationController", name := "count", desc := "(I)I" } : MethodName)) ∈ gW := gW_n 1601 (by decide +kernel) rfl
theorem kw_1602 : (Cond.code ({ cls := "AnimationController", name := "count", desc := "(I)I" } : MethodName) prog_1_method_42_code (2 : Nat) (Option.some FieldType.int)) ∈ gW := gW_n 1602 (by decide +kernel) rfl
theorem kw_731 : (Cond.classLink "AnimationControllerLaw" (13 : Nat) "java/lang/IllegalArgumentException") ∈ gW := gW_n 731 (by decide +kernel) rfl
theorem kw_732 : (Cond.classLink "AnimationControllerLaw" (15 : Nat) "java/lang/IllegalStateException") ∈ gW := gW_n 732 (by decide +kernel) rfl
theorem kw_733 : (Cond.methodLink "AnimationControllerLaw" (7 : Nat) ({ cls := "AnimationController", name := "addParameter", desc := "(I)I" } : MethodName)) ∈ gW := gW_n 733 (by decide +kernel) rfl
theorem kw_734 : (Cond.instanceMethod ({ cls := "AnimationController", name := "addParameter", desc := "(I)I" } : MethodName)) ∈ gW := gW_n 734 (by decide +kernel) rfl
theorem kw_735 : (Cond.selects "AnimationController" ({ cls := "AnimationController", name := "addParameter", desc := "(I)I" } : MethodName) ({ cls := "AnimationController", name := "addParameter", desc := "(I)I" } : MethodName)) ∈ gW := gW_n 735 (by decide +kernel) rfl
theorem kw_736 : (Cond.code ({ cls := "AnimationController", name := "addParameter", desc := "(I)I" } : MethodName) prog_1_method_2_code (2 : Nat) (Option.some FieldType.int)) ∈ gW := gW_n 736 (by decide +kernel) rfl
theorem kw_824 : (Cond.classLink "AnimationControllerLaw" (21 : Nat) "java/lang/IndexOutOfBoundsException") ∈ gW := gW_n 824 (by decide +kernel) rfl
theorem kw_825 : (Cond.methodLink "AnimationControllerLaw" (17 : Nat) ({ cls := "AnimationController", name := "set", desc := "(II)I" } : MethodName)) ∈ gW := gW_n 825 (by decide +kernel) rfl
theorem kw_826 : (Cond.instanceMethod ({ cls := "AnimationController", name := "set", desc := "(II)I" } : MethodName)) ∈ gW := gW_n 826 (by decide +kernel) rfl
theorem kw_827 : (Cond.selects "AnimationController" ({ cls := "AnimationController", name := "set", desc := "(II)I" } : MethodName) ({ cls := "AnimationController", name := "set", desc := "(II)I" } : MethodName)) ∈ gW := gW_n 827 (by decide +kernel) rfl
theorem kw_828 : (Cond.code ({ cls := "AnimationController", name := "set", desc := "(II)I" } : MethodName) prog_1_method_3_code (4 : Nat) (Option.some FieldType.int)) ∈ gW := gW_n 828 (by decide +kernel) rfl
theorem kw_870 : (Cond.methodLink "AnimationControllerLaw" (23 : Nat) ({ cls := "AnimationController", name := "value", desc := "(I)I" } : MethodName)) ∈ gW := gW_n 870 (by decide +kernel) rfl
theorem kw_871 : (Cond.instanceMethod ({ cls := "AnimationController", name := "value", desc := "(I)I" } : MethodName)) ∈ gW := gW_n 871 (by decide +kernel) rfl
theorem kw_872 : (Cond.selects "AnimationController" ({ cls := "AnimationController", name := "value", desc := "(I)I" } : MethodName) ({ cls := "AnimationController", name := "value", desc := "(I)I" } : MethodName)) ∈ gW := gW_n 872 (by decide +kernel) rfl
theorem kw_873 : (Cond.code ({ cls := "AnimationController", name := "value", desc := "(I)I" } : MethodName) prog_1_method_4_code (2 : Nat) (Option.some FieldType.int)) ∈ gW := gW_n 873 (by decide +kernel) rfl
theorem kw_877 : (Cond.methodLink "AnimationControllerLaw" (26 : Nat) ({ cls := "AnimationController", name := "addClip", desc := "(I)I" } : MethodName)) ∈ gW := gW_n 877 (by decide +kernel) rfl
theorem kw_878 : (Cond.instanceMethod ({ cls := "AnimationController", name := "addClip", desc := "(I)I" } : MethodName)) ∈ gW := gW_n 878 (by decide +kernel) rfl
theorem kw_879 : (Cond.selects "AnimationController" ({ cls := "AnimationController", name := "addClip", desc := "(I)I" } : MethodName) ({ cls := "AnimationController", name := "addClip", desc := "(I)I" } : MethodName)) ∈ gW := gW_n 879 (by decide +kernel) rfl
theorem kw_880 : (Cond.code ({ cls := "AnimationController", name := "addClip", desc := "(I)I" } : MethodName) prog_1_method_5_code (2 : Nat) (Option.some FieldType.int)) ∈ gW := gW_n 880 (by decide +kernel) rfl
theorem kw_890 : (Cond.methodLink "AnimationControllerLaw" (29 : Nat) ({ cls := "AnimationController", name := "addEvent", desc := "(III)I" } : MethodName)) ∈ gW := gW_n 890 (by decide +kernel) rfl
theorem kw_891 : (Cond.instanceMethod ({ cls := "AnimationController", name := "addEvent", desc := "(III)I" } : MethodName)) ∈ gW := gW_n 891 (by decide +kernel) rfl
theorem kw_892 : (Cond.selects "AnimationController" ({ cls := "AnimationController", name := "addEvent", desc := "(III)I" } : MethodName) ({ cls := "AnimationController", name := "addEvent", desc := "(III)I" } : MethodName)) ∈ gW := gW_n 892 (by decide +kernel) rfl
theorem kw_893 : (Cond.code ({ cls := "AnimationController", name := "addEvent", desc := "(III)I" } : MethodName) prog_1_method_6_code (5 : Nat) (Option.some FieldType.int)) ∈ gW := gW_n 893 (by decide +kernel) rfl
theorem kw_908 : (Cond.methodLink "AnimationControllerLaw" (33 : Nat) ({ cls := "AnimationController", name := "addClipNode", desc := "(I)I" } : MethodName)) ∈ gW := gW_n 908 (by decide +kernel) rfl
theorem kw_909 : (Cond.instanceMethod ({ cls := "AnimationController", name := "addClipNode", desc := "(I)I" } : MethodName)) ∈ gW := gW_n 909 (by decide +kernel) rfl
theorem kw_910 : (Cond.selects "AnimationController" ({ cls := "AnimationController", name := "addClipNode", desc := "(I)I" } : MethodName) ({ cls := "AnimationController", name := "addClipNode", desc := "(I)I" } : MethodName)) ∈ gW := gW_n 910 (by decide +kernel) rfl
theorem kw_911 : (Cond.code ({ cls := "AnimationController", name := "addClipNode", desc := "(I)I" } : MethodName) prog_1_method_7_code (3 : Nat) (Option.some FieldType.int)) ∈ gW := gW_n 911 (by decide +kernel) rfl
theorem kw_922 : (Cond.methodLink "AnimationControllerLaw" (36 : Nat) ({ cls := "AnimationController", name := "addLine", desc := "(I)I" } : MethodName)) ∈ gW := gW_n 922 (by decide +kernel) rfl
theorem kw_923 : (Cond.instanceMethod ({ cls := "AnimationController", name := "addLine", desc := "(I)I" } : MethodName)) ∈ gW := gW_n 923 (by decide +kernel) rfl
theorem kw_924 : (Cond.selects "AnimationController" ({ cls := "AnimationController", name := "addLine", desc := "(I)I" } : MethodName) ({ cls := "AnimationController", name := "addLine", desc := "(I)I" } : MethodName)) ∈ gW := gW_n 924 (by decide +kernel) rfl
theorem kw_925 : (Cond.code ({ cls := "AnimationController", name := "addLine", desc := "(I)I" } : MethodName) prog_1_method_8_code (2 : Nat) (Option.some FieldType.int)) ∈ gW := gW_n 925 (by decide +kernel) rfl
theorem kw_931 : (Cond.methodLink "AnimationControllerLaw" (39 : Nat) ({ cls := "AnimationController", name := "addChild", desc := "(III)I" } : MethodName)) ∈ gW := gW_n 931 (by decide +kernel) rfl
theorem kw_932 : (Cond.instanceMethod ({ cls := "AnimationController", name := "addChild", desc := "(III)I" } : MethodName)) ∈ gW := gW_n 932 (by decide +kernel) rfl
theorem kw_933 : (Cond.selects "AnimationController" ({ cls := "AnimationController", name := "addChild", desc := "(III)I" } : MethodName) ({ cls := "AnimationController", name := "addChild", desc := "(III)I" } : MethodName)) ∈ gW := gW_n 933 (by decide +kernel) rfl
theorem kw_934 : (Cond.code ({ cls := "AnimationController", name := "addChild", desc := "(III)I" } : MethodName) prog_1_method_9_code (6 : Nat) (Option.some FieldType.int)) ∈ gW := gW_n 934 (by decide +kernel) rfl
theorem gY_X11_addParameter : gYn yX11_addParameter 1 := ⟨by decide +kernel, by decide +kernel, by decide +kernel⟩
theorem lkL_7 : gLV RL 7 yX11_addParameter cX11_addParameter 2 (some FieldType.int) 1 := ⟨kw_733, kw_734, kw_735, kw_1, kw_736, gY_X11_addParameter⟩
theorem gY_X11_set : gYn yX11_set 2 := ⟨by decide +kernel, by decide +kernel, by decide +kernel⟩
theorem lkL_17 : gLV RL 17 yX11_set cX11_set 4 (some FieldType.int) 2 := ⟨kw_825, kw_826, kw_827, kw_1, kw_828, gY_X11_set⟩
theorem gY_X11_value : gYn yX11_value 1 := ⟨by decide +kernel, by decide +kernel, by decide +kernel⟩
theorem lkL_23 : gLV RL 23 yX11_value cX11_value 2 (some FieldType.int) 1 := ⟨kw_870, kw_871, kw_872, kw_1, kw_873, gY_X11_value⟩
theorem gY_X11_addClip : gYn yX11_addClip 1 := ⟨by decide +kernel, by decide +kernel, by decide +kernel⟩
theorem lkL_26 : gLV RL 26 yX11_addClip cX11_addClip 2 (some FieldType.int) 1 := ⟨kw_877, kw_878, kw_879, kw_1, kw_880, gY_X11_addClip⟩
theorem gY_X11_addEvent : gYn yX11_addEvent 3 := ⟨by decide +kernel, by decide +kernel, by decide +kernel⟩
theorem lkL_29 : gLV RL 29 yX11_addEvent cX11_addEvent 5 (some FieldType.int) 3 := ⟨kw_890, kw_891, kw_892, kw_1, kw_893, gY_X11_addEvent⟩
theorem gY_X11_addClipNode : gYn yX11_addClipNode 1 := ⟨by decide +kernel, by decide +kernel, by decide +kernel⟩
theorem lkL_33 : gLV RL 33 yX11_addClipNode cX11_addClipNode 3 (some FieldType.int) 1 := ⟨kw_908, kw_909, kw_910, kw_1, kw_911, gY_X11_addClipNode⟩
theorem gY_X11_addLine : gYn yX11_addLine 1 := ⟨by decide +kernel, by decide +kernel, by decide +kernel⟩
theorem lkL_36 : gLV RL 36 yX11_addLine cX11_addLine 2 (some FieldType.int) 1 := ⟨kw_922, kw_923, kw_924, kw_1, kw_925, gY_X11_addLine⟩
theorem gY_X11_addChild : gYn yX11_addChild 3 := ⟨by decide +kernel, by decide +kernel, by decide +kernel⟩
theorem lkL_39 : gLV RL 39 yX11_addChild cX11_addChild 6 (some FieldType.int) 3 := ⟨kw_931, kw_932, kw_933, kw_1, kw_934, gY_X11_addChild⟩
theorem gY_X11_addState : gYn yX11_addState 4 := ⟨by decide +kernel, by decide +kernel, by decide +kernel⟩
theorem lkL_42 : gLV RL 42 yX11_addState cX11_addState 7 (some FieldType.int) 4 := ⟨kw_1225, kw_1226, kw_1227, kw_1, kw_1228, gY_X11_addState⟩
theorem gY_X11_addTransition : gYn yX11_addTransition 3 := ⟨by decide +kernel, by decide +kernel, by decide +kernel⟩
theorem lkL_46 : gLV RL 46 yX11_addTransition cX11_addTransition 7 (some FieldType.int) 3 := ⟨kw_1235, kw_1236, kw_1237, kw_1, kw_1238, gY_X11_addTransition⟩
theorem gY_X11_setTiming : gYn yX11_setTiming 3 := ⟨by decide +kernel, by decide +kernel, by decide +kernel⟩
theorem lkL_49 : gLV RL 49 yX11_setTiming cX11_setTiming 6 (some FieldType.int) 3 := ⟨kw_1252, kw_1253, kw_1254, kw_1, kw_1255, gY_X11_setTiming⟩
theorem gY_X11_setInterruption : gYn yX11_setInterruption 3 := ⟨by decide +kernel, by decide +kernel, by decide +kernel⟩
theorem lkL_52 : gLV RL 52 yX11_setInterruption cX11_setInterruption 6 (some FieldType.int) 3 := ⟨kw_1266, kw_1267, kw_1268, kw_1, kw_1269, gY_X11_setInterruption⟩
theorem gY_X11_addCondition : gYn yX11_addCondition 4 := ⟨by decide +kernel, by decide +kernel, by decide +kernel⟩
theorem lkL_56 : gLV RL 56 yX11_addCondition cX11_addCondition 6 (some FieldType.int) 4 := ⟨kw_1274, kw_1275, kw_1276, kw_1, kw_1277, gY_X11_addCondition⟩
theorem gY_X11_setThreshold : gYn yX11_setThreshold 1 := ⟨by decide +kernel, by decide +kernel, by decide +kernel⟩
theorem lkL_60 : gLV RL 60 yX11_setThreshold cX11_setThreshold 3 (some FieldType.int) 1 := ⟨kw_1289, kw_1290, kw_1291, kw_1, kw_1292, gY_X11_setThreshold⟩
theorem gY_X11_type : gYn yX11_type 1 := ⟨by decide +kernel, by decide +kernel, by decide +kernel⟩
theorem lkL_63 : gLV RL 63 yX11_type cX11_type 2 (some FieldType.int) 1 := ⟨kw_1297, kw_1298, kw_1299, kw_1, kw_1300, gY_X11_type⟩
theorem gY_X11_load : gYn yX11_load 0 := ⟨by decide +kernel, by decide +kernel, by decide +kernel⟩
theorem lkL_66 : gLV RL 66 yX11_load cX11_load 2 (some FieldType.int) 0 := ⟨kw_1306, kw_1307, kw_1308, kw_1, kw_1309, gY_X11_load⟩
theorem gY_X11_tick : gYn yX11_tick 1 := ⟨by decide +kernel, by decide +kernel, by decide +kernel⟩
theorem lkL_70 : gLV RL 70 yX11_tick cX11_tick 4 (some FieldType.int) 1 := ⟨kw_1314, kw_1315, kw_1316, kw_1, kw_1317, gY_X11_tick⟩
theorem gY_X11_state : gYn yX11_state 0 := ⟨by decide +kernel, by decide +kernel, by decide +kernel⟩
theorem lkL_73 : gLV RL 73 yX11_state cX11_state 1 (some FieldType.int) 0 := ⟨kw_1452, kw_1453, kw_1454, kw_1, kw_1455, gY_X11_state⟩
theorem gY_X11_progress : gYn yX11_progress 1 := ⟨by decide +kernel, by decide +kernel, by decide +kernel⟩
theorem lkL_76 : gLV RL 76 yX11_progress cX11_progress 2 (some FieldType.long) 1 := ⟨kw_1459, kw_1460, kw_1461, kw_1, kw_1462, gY_X11_progress⟩
theorem gY_X11_stateLength : gYn yX11_stateLength 1 := ⟨by decide +kernel, by decide +kernel, by decide +kernel⟩
theorem lkL_80 : gLV RL 80 yX11_stateLength cX11_stateLength 2 (some FieldType.int) 1 := ⟨kw_1468, kw_1469, kw_1470, kw_1, kw_1471, gY_X11_stateLength⟩
theorem gY_X11_partWeight : gYn yX11_partWeight 2 := ⟨by decide +kernel, by decide +kernel, by decide +kernel⟩
theorem lkL_83 : gLV RL 83 yX11_partWeight cX11_partWeight 5 (some FieldType.int) 2 := ⟨kw_1476, kw_1477, kw_1478, kw_1, kw_1479, gY_X11_partWeight⟩
theorem gY_X11_blocked : gYn yX11_blocked 1 := ⟨by decide +kernel, by decide +kernel, by decide +kernel⟩
theorem lkL_86 : gLV RL 86 yX11_blocked cX11_blocked 3 (some FieldType.int) 1 := ⟨kw_1486, kw_1487, kw_1488, kw_1, kw_1489, gY_X11_blocked⟩
theorem gY_X11_poseClip : gYn yX11_poseClip 1 := ⟨by decide +kernel, by decide +kernel, by decide +kernel⟩
theorem lkL_89 : gLV RL 89 yX11_poseClip cX11_poseClip 3 (some FieldType.int) 1 := ⟨kw_1495, kw_1496, kw_1497, kw_1, kw_1498, gY_X11_poseClip⟩
theorem gY_X11_poseTime : gYn yX11_poseTime 1 := ⟨by decide +kernel, by decide +kernel, by decide +kernel⟩
theorem lkL_92 : gLV RL 92 yX11_poseTime cX11_poseTime 3 (some FieldType.int) 1 := ⟨kw_1503, kw_1504, kw_1505, kw_1, kw_1506, gY_X11_poseTime⟩
theorem gY_X11_poseWeight : gYn yX11_poseWeight 1 := ⟨by decide +kernel, by decide +kernel, by decide +kernel⟩
theorem lkL_95 : gLV RL 95 yX11_poseWeight cX11_poseWeight 3 (some FieldType.int) 1 := ⟨kw_1510, kw_1511, kw_1512, kw_1, kw_1513, gY_X11_poseWeight⟩
theorem gY_X11_event : gYn yX11_event 2 := ⟨by decide +kernel, by decide +kernel, by decide +kernel⟩
theorem lkL_98 : gLV RL 98 yX11_event cX11_event 3 (some FieldType.int) 2 := ⟨kw_1517, kw_1518, kw_1519, kw_1, kw_1520, gY_X11_event⟩
theorem gY_X11_foretell : gYn yX11_foretell 1 := ⟨by decide +kernel, by decide +kernel, by decide +kernel⟩
theorem lkL_101 : gLV RL 101 yX11_foretell cX11_foretell 3 (some FieldType.int) 1 := ⟨kw_1536, kw_1537, kw_1538, kw_1, kw_1539, gY_X11_foretell⟩
theorem gY_X11_ticksTo : gYn yX11_ticksTo 1 := ⟨by decide +kernel, by decide +kernel, by decide +kernel⟩
theorem lkL_104 : gLV RL 104 yX11_ticksTo cX11_ticksTo 4 (some FieldType.int) 1 := ⟨kw_1553, kw_1554, kw_1555, kw_1, kw_1556, gY_X11_ticksTo⟩
theorem gY_X11_steps : gYn yX11_steps 2 := ⟨by decide +kernel, by decide +kernel, by decide +kernel⟩
theorem lkL_107 : gLV RL 107 yX11_steps cX11_steps 6 (some FieldType.int) 2 := ⟨kw_1560, kw_1561, kw_1562, kw_1, kw_1563, gY_X11_steps⟩
theorem gY_X11_keep : gYn yX11_keep 1 := ⟨by decide +kernel, by decide +kernel, by decide +kernel⟩
theorem lkL_110 : gLV RL 110 yX11_keep cX11_keep 2 (some FieldType.int) 1 := ⟨kw_1579, kw_1580, kw_1581, kw_1, kw_1582, gY_X11_keep⟩
theorem gY_X11_restore : gYn yX11_restore 1 := ⟨by decide +kernel, by decide +kernel, by decide +kernel⟩
theorem lkL_113 : gLV RL 113 yX11_restore cX11_restore 2 (some FieldType.int) 1 := ⟨kw_1591, kw_1592, kw_1593, kw_1, kw_1594, gY_X11_restore⟩
theorem gY_X11_count : gYn yX11_count 1 := ⟨by decide +kernel, by decide +kernel, by decide +kernel⟩
theorem lkL_116 : gLV RL 116 yX11_count cX11_count 2 (some FieldType.int) 1 := ⟨kw_1599, kw_1600, kw_1601, kw_1, kw_1602, gY_X11_count⟩
