theorem ku_739 : (Cond.castable "java/lang/IllegalArgumentException" "java/lang/IllegalArgumentException") ∈ gU := gU_n 739 (by decide +kernel) rfl
theorem ku_807 : (Cond.castable "java/lang/IllegalStateException" "java/lang/IllegalStateException") ∈ gU := gU_n 807 (by decide +kernel) rfl
theorem ku_839 : (Cond.castable "java/lang/IndexOutOfBoundsException" "java/lang/IndexOutOfBoundsException") ∈ gU := gU_n 839 (by decide +kernel) rfl
theorem kw_0 : (Cond.initialized "AnimationControllerLaw") ∈ gW := gW_n 0 (by decide +kernel) rfl
theorem kw_1222 : (Cond.methodLink "AnimationControllerLaw" (155 : Nat) ({ cls := "AnimationControllerLaw", name := "addState", desc := "(LAnimationController;IIZI[J)I" } : MethodName)) ∈ gW := gW_n 1222 (by decide +kernel) rfl
theorem kw_1223 : (Cond.static ({ cls := "AnimationControllerLaw", name := "addState", desc := "(LAnimationController;IIZI[J)I" } : MethodName)) ∈ gW := gW_n 1223 (by decide +kernel) rfl
theorem kw_1224 : (Cond.codeWith ({ cls := "AnimationControllerLaw", name := "addState", desc := "(LAnimationController;IIZI[J)I" } : MethodName) method_11_code (7 : Nat) (Option.some FieldType.int) [((0 : Nat), (14 : Nat), (17 : Nat), (21 : Nat)), ((0 : Nat), (14 : Nat), (21 : Nat), (13 : Nat)), ((0 : Nat), (14 : Nat), (25 : Nat), (15 : Nat))]) ∈ gW := gW_n 1224 (by decide +kernel) rfl
theorem kw_1225 : (Cond.methodLink "AnimationControllerLaw" (42 : Nat) ({ cls := "AnimationController", name := "addState", desc := "(IIZI)I" } : MethodName)) ∈ gW := gW_n 1225 (by decide +kernel) rfl
theorem kw_1226 : (Cond.instanceMethod ({ cls := "AnimationController", name := "addState", desc := "(IIZI)I" } : MethodName)) ∈ gW := gW_n 1226 (by decide +kernel) rfl
theorem kw_1227 : (Cond.selects "AnimationController" ({ cls := "AnimationController", name := "addState", desc := "(IIZI)I" } : MethodName) ({ cls := "AnimationController", name := "addState", desc := "(IIZI)I" } : MethodName)) ∈ gW := gW_n 1227 (by decide +kernel) rfl
theorem kw_1228 : (Cond.code ({ cls := "AnimationController", name := "addState", desc := "(IIZI)I" } : MethodName) prog_1_method_10_code (7 : Nat) (Option.some FieldType.int)) ∈ gW := gW_n 1228 (by decide +kernel) rfl
theorem kw_1232 : (Cond.methodLink "AnimationControllerLaw" (159 : Nat) ({ cls := "AnimationControllerLaw", name := "addTransition", desc := "(LAnimationController;III[J)I" } : MethodName)) ∈ gW := gW_n 1232 (by decide +kernel) rfl
theorem kw_1233 : (Cond.static ({ cls := "AnimationControllerLaw", name := "addTransition", desc := "(LAnimationController;III[J)I" } : MethodName)) ∈ gW := gW_n 1233 (by decide +kernel) rfl
theorem kw_1234 : (Cond.codeWith ({ cls := "AnimationControllerLaw", name := "addTransition", desc := "(LAnimationController;III[J)I" } : MethodName) method_12_code (6 : Nat) (Option.some FieldType.int) [((0 : Nat), (12 : Nat), (15 : Nat), (21 : Nat)), ((0 : Nat), (12 : Nat), (19 : Nat), (13 : Nat)), ((0 : Nat), (12 : Nat), (23 : Nat), (15 : Nat))]) ∈ gW := gW_n 1234 (by decide +kernel) rfl
theorem kw_1235 : (Cond.methodLink "AnimationControllerLaw" (46 : Nat) ({ cls := "AnimationController", name := "addTransition", desc := "(III)I" } : MethodName)) ∈ gW := gW_n 1235 (by decide +kernel) rfl
theorem kw_1236 : (Cond.instanceMethod ({ cls := "AnimationController", name := "addTransition", desc := "(III)I" } : MethodName)) ∈ gW := gW_n 1236 (by decide +kernel) rfl
theorem kw_1237 : (Cond.selects "AnimationController" ({ cls := "AnimationController", name := "addTransition", desc := "(III)I" } : MethodName) ({ cls := "AnimationController", name := "addTransition", desc := "(III)I" } : MethodName)) ∈ gW := gW_n 1237 (by decide +kernel) rfl
theorem kw_1238 : (Cond.code ({ cls := "AnimationController", name := "addTransition", desc := "(III)I" } : MethodName) prog_1_method_11_code (7 : Nat) (Option.some FieldType.int)) ∈ gW := gW_n 1238 (by decide +kernel) rfl
theorem kw_1249 : (Cond.methodLink "AnimationControllerLaw" (162 : Nat) ({ cls := "AnimationControllerLaw", name := "setTiming", desc := "(LAnimationController;III[J)I" } : MethodName)) ∈ gW := gW_n 1249 (by decide +kernel) rfl
theorem kw_1250 : (Cond.static ({ cls := "AnimationControllerLaw", name := "setTiming", desc := "(LAnimationController;III[J)I" } : MethodName)) ∈ gW := gW_n 1250 (by decide +kernel) rfl
theorem kw_1251 : (Cond.codeWith ({ cls := "AnimationControllerLaw", name := "setTiming", desc := "(LAnimationController;III[J)I" } : MethodName) method_13_code (6 : Nat) (Option.some FieldType.int) [((0 : Nat), (12 : Nat), (15 : Nat), (21 : Nat)), ((0 : Nat), (12 : Nat), (19 : Nat), (13 : Nat)), ((0 : Nat), (12 : Nat), (23 : Nat), (15 : Nat))]) ∈ gW := gW_n 1251 (by decide +kernel) rfl
theorem kw_1252 : (Cond.methodLink "AnimationControllerLaw" (49 : Nat) ({ cls := "AnimationController", name := "setTiming", desc := "(III)I" } : MethodName)) ∈ gW := gW_n 1252 (by decide +kernel) rfl
theorem kw_1253 : (Cond.instanceMethod ({ cls := "AnimationController", name := "setTiming", desc := "(III)I" } : MethodName)) ∈ gW := gW_n 1253 (by decide +kernel) rfl
theorem kw_1254 : (Cond.selects "AnimationController" ({ cls := "AnimationController", name := "setTiming", desc := "(III)I" } : MethodName) ({ cls := "AnimationController", name := "setTiming", desc := "(III)I" } : MethodName)) ∈ gW := gW_n 1254 (by decide +kernel) rfl
theorem kw_1255 : (Cond.code ({ cls := "AnimationController", name := "setTiming", desc := "(III)I" } : MethodName) prog_1_method_12_code (6 : Nat) (Option.some FieldType.int)) ∈ gW := gW_n 1255 (by decide +kernel) rfl
theorem kw_1263 : (Cond.methodLink "AnimationControllerLaw" (165 : Nat) ({ cls := "AnimationControllerLaw", name := "setInterruption", desc := "(LAnimationController;IIZ[J)I" } : MethodName)) ∈ gW := gW_n 1263 (by decide +kernel) rfl
theorem kw_1264 : (Cond.static ({ cls := "AnimationControllerLaw", name := "setInterruption", desc := "(LAnimationController;IIZ[J)I" } : MethodName)) ∈ gW := gW_n 1264 (by decide +kernel) rfl
theorem kw_1265 : (Cond.codeWith ({ cls := "AnimationControllerLaw", name := "setInterruption", desc := "(LAnimationController;IIZ[J)I" } : MethodName) method_14_code (6 : Nat) (Option.some FieldType.int) [((0 : Nat), (12 : Nat), (15 : Nat), (21 : Nat)), ((0 : Nat), (12 : Nat), (19 : Nat), (13 : Nat))]) ∈ gW := gW_n 1265 (by decide +kernel) rfl
theorem kw_1266 : (Cond.methodLink "AnimationControllerLaw" (52 : Nat) ({ cls := "AnimationController", name := "setInterruption", desc := "(IIZ)I" } : MethodName)) ∈ gW := gW_n 1266 (by decide +kernel) rfl
theorem kw_1267 : (Cond.instanceMethod ({ cls := "AnimationController", name := "setInterruption", desc := "(IIZ)I" } : MethodName)) ∈ gW := gW_n 1267 (by decide +kernel) rfl
theorem kw_1268 : (Cond.selects "AnimationController" ({ cls := "AnimationController", name := "setInterruption", desc := "(IIZ)I" } : MethodName) ({ cls := "AnimationController", name := "setInterruption", desc := "(IIZ)I" } : MethodName)) ∈ gW := gW_n 1268 (by decide +kernel) rfl
theorem kw_1269 : (Cond.code ({ cls := "AnimationController", name := "setInterruption", desc := "(IIZ)I" } : MethodName) prog_1_method_13_code (6 : Nat) (Option.some FieldType.int)) ∈ gW := gW_n 1269 (by decide +kernel) rfl
theorem kw_1271 : (Cond.methodLink "AnimationControllerLaw" (169 : Nat) ({ cls := "AnimationControllerLaw", name := "addCondition", desc := "(LAnimationController;IIII[J)I" } : MethodName)) ∈ gW := gW_n 1271 (by decide +kernel) rfl
theorem kw_1272 : (Cond.static ({ cls := "AnimationControllerLaw", name := "addCondition", desc := "(LAnimationController;IIII[J)I" } : MethodName)) ∈ gW := gW_n 1272 (by decide +kernel) rfl
theorem kw_1273 : (Cond.codeWith ({ cls := "AnimationControllerLaw", name := "addCondition", desc := "(LAnimationController;IIII[J)I" } : MethodName) method_15_code (7 : Nat) (Option.some FieldType.int) [((0 : Nat), (14 : Nat), (17 : Nat), (21 : Nat)), ((0 : Nat), (14 : Nat), (21 : Nat), (13 : Nat)), ((0 : Nat), (14 : Nat), (25 : Nat), (15 : Nat))]) ∈ gW := gW_n 1273 (by decide +kernel) rfl
theorem kw_1274 : (Cond.methodLink "AnimationControllerLaw" (56 : Nat) ({ cls := "AnimationController", name := "addCondition", desc := "(IIII)I" } : MethodName)) ∈ gW := gW_n 1274 (by decide +kernel) rfl
theorem kw_1275 : (Cond.instanceMethod ({ cls := "AnimationController", name := "addCondition", desc := "(IIII)I" } : MethodName)) ∈ gW := gW_n 1275 (by decide +kernel) rfl
theorem kw_1276 : (Cond.selects "AnimationController" ({ cls := "AnimationController", name := "addCondition", desc := "(IIII)I" } : MethodName) ({ cls := "AnimationController", name := "addCondition", desc := "(IIII)I" } : MethodName)) ∈ gW := gW_n 1276 (by decide +kernel) rfl
theorem kw_1277 : (Cond.code ({ cls := "AnimationController", name := "addCondition", desc := "(IIII)I" } : MethodName) prog_1_method_14_code (6 : Nat) (Option.some FieldType.int)) ∈ gW := gW_n 1277 (by decide +kernel) rfl
theorem kw_1286 : (Cond.methodLink "AnimationControllerLaw" (173 : Nat) ({ cls := "AnimationControllerLaw", name := "setThreshold", desc := "(LAnimationController;I[J)I" } : MethodName)) ∈ gW := gW_n 1286 (by decide +kernel) rfl
theorem kw_1287 : (Cond.static ({ cls := "AnimationControllerLaw", name := "setThreshold", desc := "(LAnimationController;I[J)I" } : MethodName)) ∈ gW := gW_n 1287 (by decide +kernel) rfl
theorem kw_1288 : (Cond.codeWith ({ cls := "AnimationControllerLaw", name := "setThreshold", desc := "(LAnimationController;I[J)I" } : MethodName) method_16_code (4 : Nat) (Option.some FieldType.int) [((0 : Nat), (9 : Nat), (12 : Nat), (13 : Nat))]) ∈ gW := gW_n 1288 (by decide +kernel) rfl
theorem kw_1289 : (Cond.methodLink "AnimationControllerLaw" (60 : Nat) ({ cls := "AnimationController", name := "setThreshold", desc := "(I)I" } : MethodName)) ∈ gW := gW_n 1289 (by decide +kernel) rfl
theorem kw_1290 : (Cond.instanceMethod ({ cls := "AnimationController", name := "setThreshold", desc := "(I)I" } : MethodName)) ∈ gW := gW_n 1290 (by decide +kernel) rfl
theorem kw_1291 : (Cond.selects "AnimationController" ({ cls := "AnimationController", name := "setThreshold", desc := "(I)I" } : MethodName) ({ cls := "AnimationController", name := "setThreshold", desc := "(I)I" } : MethodName)) ∈ gW := gW_n 1291 (by decide +kernel) rfl
theorem kw_1292 : (Cond.code ({ cls := "AnimationController", name := "setThreshold", desc := "(I)I" } : MethodName) prog_1_method_15_code (3 : Nat) (Option.some FieldType.int)) ∈ gW := gW_n 1292 (by decide +kernel) rfl
theorem kw_1294 : (Cond.methodLink "AnimationControllerLaw" (176 : Nat) ({ cls := "AnimationControllerLaw", name := "type", desc := "(LAnimationController;I[J)I" } : MethodName)) ∈ gW := gW_n 1294 (by decide +kernel) rfl
theorem kw_1295 : (Cond.static ({ cls := "AnimationControllerLaw", name := "type", desc := "(LAnimationController;I[J)I" } : MethodName)) ∈ gW := gW_n 1295 (by decide +kernel) rfl
theorem kw_1296 : (Cond.codeWith ({ cls := "AnimationControllerLaw", name := "type", desc := "(LAnimationController;I[J)I" } : MethodName) method_17_code (4 : Nat) (Option.some FieldType.int) [((0 : Nat), (9 : Nat), (12 : Nat), (13 : Nat)), ((0 : Nat), (9 : Nat), (15 : Nat), (15 : Nat))]) ∈ gW := gW_n 1296 (by decide +kernel) rfl
theorem kw_1297 : (Cond.methodLink "AnimationControllerLaw" (63 : Nat) ({ cls := "AnimationController", name := "type", desc := "(I)I" } : MethodName)) ∈ gW := gW_n 1297 (by decide +kernel) rfl
theorem kw_1298 : (Cond.instanceMethod ({ cls := "AnimationController", name := "type", desc := "(I)I" } : MethodName)) ∈ gW := gW_n 1298 (by decide +kernel) rfl
theorem kw_1299 : (Cond.selects "AnimationController" ({ cls := "AnimationController", name := "type", desc := "(I)I" } : MethodName) ({ cls := "AnimationController", name := "type", desc := "(I)I" } : MethodName)) ∈ gW := gW_n 1299 (by decide +kernel) rfl
theorem kw_1300 : (Cond.code ({ cls := "AnimationController", name := "type", desc := "(I)I" } : MethodName) prog_1_method_16_code (2 : Nat) (Option.some FieldType.int)) ∈ gW := gW_n 1300 (by decide +kernel) rfl
theorem kw_1303 : (Cond.methodLink "AnimationControllerLaw" (187 : Nat) ({ cls := "AnimationControllerLaw", name := "load", desc := "(LAnimationController;[J)I" } : MethodName)) ∈ gW := gW_n 1303 (by decide +kernel) rfl
theorem kw_1304 : (Cond.static ({ cls := "AnimationControllerLaw", name := "load", desc := "(LAnimationController;[J)I" } : MethodName)) ∈ gW := gW_n 1304 (by decide +kernel) rfl
theorem kw_1305 : (Cond.codeWith ({ cls := "AnimationControllerLaw", name := "load", desc := "(LAnimationController;[J)I" } : MethodName) method_18_code (3 : Nat) (Option.some FieldType.int) [((0 : Nat), (8 : Nat), (11 : Nat), (15 : Nat))]) ∈ gW := gW_n 1305 (by decide +kernel) rfl
theorem kw_1306 : (Cond.methodLink "AnimationControllerLaw" (66 : Nat) ({ cls := "AnimationController", name := "load", desc := "()I" } : MethodName)) ∈ gW := gW_n 1306 (by decide +kernel) rfl
theorem kw_1307 : (Cond.instanceMethod ({ cls := "AnimationController", name := "load", desc := "()I" } : MethodName)) ∈ gW := gW_n 1307 (by decide +kernel) rfl
theorem kw_1308 : (Cond.selects "AnimationController" ({ cls := "AnimationController", name := "load", desc := "()I" } : MethodName) ({ cls := "AnimationController", name := "load", desc := "()I" } : MethodName)) ∈ gW := gW_n 1308 (by decide +kernel) rfl
theorem kw_1309 : (Cond.code ({ cls := "AnimationController", name := "load", desc := "()I" } : MethodName) prog_1_method_19_code (2 : Nat) (Option.some FieldType.int)) ∈ gW := gW_n 1309 (by decide +kernel) rfl
theorem kw_1311 : (Cond.methodLink "AnimationControllerLaw" (191 : Nat) ({ cls := "AnimationControllerLaw", name := "tick", desc := "(LAnimationController;I[J)I" } : MethodName)) ∈ gW := gW_n 1311 (by decide +kernel) rfl
theorem kw_1312 : (Cond.static ({ cls := "AnimationControllerLaw", name := "tick", desc := "(LAnimationController;I[J)I" } : MethodName)) ∈ gW := gW_n 1312 (by decide +kernel) rfl
theorem kw_1313 : (Cond.codeWith ({ cls := "AnimationControllerLaw", name := "tick", desc := "(LAnimationController;I[J)I" } : MethodName) method_19_code (4 : Nat) (Option.some FieldType.int) [((0 : Nat), (9 : Nat), (12 : Nat), (13 : Nat)), ((0 : Nat), (9 : Nat), (15 : Nat), (15 : Nat))]) ∈ gW := gW_n 1313 (by decide +kernel) rfl
theorem kw_1314 : (Cond.methodLink "AnimationControllerLaw" (70 : Nat) ({ cls := "AnimationController", name := "tick", desc := "(I)I" } : MethodName)) ∈ gW := gW_n 1314 (by decide +kernel) rfl
theorem kw_1315 : (Cond.instanceMethod ({ cls := "AnimationController", name := "tick", desc := "(I)I" } : MethodName)) ∈ gW := gW_n 1315 (by decide +kernel) rfl
theorem kw_1316 : (Cond.selects "AnimationController" ({ cls := "AnimationController", name := "tick", desc := "(I)I" } : MethodName) ({ cls := "AnimationController", name := "tick", desc := "(I)I" } : MethodName)) ∈ gW := gW_n 1316 (by decide +kernel) rfl
theorem kw_1317 : (Cond.code ({ cls := "AnimationController", name := "tick", desc := "(I)I" } : MethodName) prog_1_method_20_code (4 : Nat) (Option.some FieldType.int)) ∈ gW := gW_n 1317 (by decide +kernel) rfl
theorem kw_1449 : (Cond.methodLink "AnimationControllerLaw" (198 : Nat) ({ cls := "AnimationControllerLaw", name := "state", desc := "(LAnimationController;[J)I" } : MethodName)) ∈ gW := gW_n 1449 (by decide +kernel) rfl
theorem kw_1450 : (Cond.static ({ cls := "AnimationControllerLaw", name := "state", desc := "(LAnimationController;[J)I" } : MethodName)) ∈ gW := gW_n 1450 (by decide +kernel) rfl
theorem kw_1451 : (Cond.codeWith ({ cls := "AnimationControllerLaw", name := "state", desc := "(LAnimationController;[J)I" } : MethodName) method_20_code (3 : Nat) (Option.some FieldType.int) [((0 : Nat), (8 : Nat), (11 : Nat), (15 : Nat))]) ∈ gW := gW_n 1451 (by decide +kernel) rfl
theorem kw_1452 : (Cond.methodLink "AnimationControllerLaw" (73 : Nat) ({ cls := "AnimationController", name := "state", desc := "()I" } : MethodName)) ∈ gW := gW_n 1452 (by decide +kernel) rfl
theorem kw_1453 : (Cond.instanceMethod ({ cls := "AnimationController", name := "state", desc := "()I" } : MethodName)) ∈ gW := gW_n 1453 (by decide +kernel) rfl
theorem kw_1454 : (Cond.selects "AnimationController" ({ cls := "AnimationController", name := "state", desc := "()I" } : MethodName) ({ cls := "AnimationController", name := "state", desc := "()I" } : MethodName)) ∈ gW := gW_n 1454 (by decide +kernel) rfl
theorem kw_1455 : (Cond.code ({ cls := "AnimationController", name := "state", desc := "()I" } : MethodName) prog_1_method_22_code (1 : Nat) (Option.some FieldType.int)) ∈ gW := gW_n 1455 (by decide +kernel) rfl
theorem kw_1456 : (Cond.methodLink "AnimationControllerLaw" (218 : Nat) ({ cls := "AnimationControllerLaw", name := "progress", desc := "(LAnimationController;Z[J)I" } : MethodName)) ∈ gW := gW_n 1456 (by decide +kernel) rfl
theorem kw_1457 : (Cond.static ({ cls := "AnimationControllerLaw", name := "progress", desc := "(LAnimationController;Z[J)I" } : MethodName)) ∈ gW := gW_n 1457 (by decide +kernel) rfl
theorem kw_1458 : (Cond.codeWith ({ cls := "AnimationControllerLaw", name := "progress", desc := "(LAnimationController;Z[J)I" } : MethodName) method_21_code (4 : Nat) (Option.some FieldType.int) [((0 : Nat), (8 : Nat), (11 : Nat), (15 : Nat))]) ∈ gW := gW_n 1458 (by decide +kernel) rfl
theorem kw_1459 : (Cond.methodLink "AnimationControllerLaw" (76 : Nat) ({ cls := "AnimationController", name := "progress", desc := "(Z)J" } : MethodName)) ∈ gW := gW_n 1459 (by decide +kernel) rfl
theorem kw_1460 : (Cond.instanceMethod ({ cls := "AnimationController", name := "progress", desc := "(Z)J" } : MethodName)) ∈ gW := gW_n 1460 (by decide +kernel) rfl
theorem kw_1461 : (Cond.selects "AnimationController" ({ cls := "AnimationController", name := "progress", desc := "(Z)J" } : MethodName) ({ cls := "AnimationController", name := "progress", desc := "(Z)J" } : MethodName)) ∈ gW := gW_n 1461 (by decide +kernel) rfl
theorem kw_1462 : (Cond.code ({ cls := "AnimationController", name := "progress", desc := "(Z)J" } : MethodName) prog_1_method_27_code (2 : Nat) (Option.some FieldType.long)) ∈ gW := gW_n 1462 (by decide +kernel) rfl
theorem kw_1465 : (Cond.methodLink "AnimationControllerLaw" (222 : Nat) ({ cls := "AnimationControllerLaw", name := "stateLength", desc := "(LAnimationController;I[J)I" } : MethodName)) ∈ gW := gW_n 1465 (by decide +kernel) rfl
theorem kw_1466 : (Cond.static ({ cls := "AnimationControllerLaw", name := "stateLength", desc := "(LAnimationController;I[J)I" } : MethodName)) ∈ gW := gW_n 1466 (by decide +kernel) rfl
theorem kw_1467 : (Cond.codeWith ({ cls := "AnimationControllerLaw", name := "stateLength", desc := "(LAnimationController;I[J)I" } : MethodName) method_22_code (4 : Nat) (Option.some FieldType.int) [((0 : Nat), (9 : Nat), (12 : Nat), (21 : Nat))]) ∈ gW := gW_n 1467 (by decide +kernel) rfl
theorem kw_1468 : (Cond.methodLink "AnimationControllerLaw" (80 : Nat) ({ cls := "AnimationController", name := "stateLength", desc := "(I)I" } : MethodName)) ∈ gW := gW_n 1468 (by decide +kernel) rfl
theorem kw_1469 : (Cond.instanceMethod ({ cls := "AnimationController", name := "stateLength", desc := "(I)I" } : MethodName)) ∈ gW := gW_n 1469 (by decide +kernel) rfl
theorem kw_1470 : (Cond.selects "AnimationController" ({ cls := "AnimationController", name := "stateLength", desc := "(I)I" } : MethodName) ({ cls := "AnimationController", name := "stateLength", desc := "(I)I" } : MethodName)) ∈ gW := gW_n 1470 (by decide +kernel) rfl
theorem kw_1471 : (Cond.code ({ cls := "AnimationController", name := "stateLength", desc := "(I)I" } : MethodName) prog_1_method_28_code (2 : Nat) (Option.some FieldType.int)) ∈ gW := gW_n 1471 (by decide +kernel) rfl
theorem kw_1473 : (Cond.methodLink "AnimationControllerLaw" (225 : Nat) ({ cls := "AnimationControllerLaw", name := "partWeight", desc := "(LAnimationController;II[J)I" } : MethodName)) ∈ gW := gW_n 1473 (by decide +kernel) rfl
theorem kw_1474 : (Cond.static ({ cls := "AnimationControllerLaw", name := "partWeight", desc := "(LAnimationController;II[J)I" } : MethodName)) ∈ gW := gW_n 1474 (by decide +kernel) rfl
theorem kw_1475 : (Cond.codeWith ({ cls := "AnimationControllerLaw", name := "partWeight", desc := "(LAnimationController;II[J)I" } : MethodName) method_23_code (5 : Nat) (Option.some FieldType.int) [((0 : Nat), (10 : Nat), (13 : Nat), (21 : Nat))]) ∈ gW := gW_n 1475 (by decide +kernel) rfl
theorem kw_1476 : (Cond.methodLink "AnimationControllerLaw" (83 : Nat) ({ cls := "AnimationController", name := "partWeight", desc := "(II)I" } : MethodName)) ∈ gW := gW_n 1476 (by decide +kernel) rfl
theorem kw_1477 : (Cond.instanceMethod ({ cls := "AnimationController", name := "partWeight", desc := "(II)I" } : MethodName)) ∈ gW := gW_n 1477 (by decide +kernel) rfl
theorem kw_1478 : (Cond.selects "AnimationController" ({ cls := "AnimationController", name := "partWeight", desc := "(II)I" } : MethodName) ({ cls := "AnimationController", name := "partWeight", desc := "(II)I" } : MethodName)) ∈ gW := gW_n 1478 (by decide +kernel) rfl
theorem kw_1479 : (Cond.code ({ cls := "AnimationController", name := "partWeight", desc := "(II)I" } : MethodName) prog_1_method_29_code (5 : Nat) (Option.some FieldType.int)) ∈ gW := gW_n 1479 (by decide +kernel) rfl
theorem kw_1483 : (Cond.methodLink "AnimationControllerLaw" (228 : Nat) ({ cls := "AnimationControllerLaw", name := "blocked", desc := "(LAnimationController;I[J)I" } : MethodName)) ∈ gW := gW_n 1483 (by decide +kernel) rfl
theorem kw_1484 : (Cond.static ({ cls := "AnimationControllerLaw", name := "blocked", desc := "(LAnimationController;I[J)I" } : MethodName)) ∈ gW := gW_n 1484 (by decide +kernel) rfl
theorem kw_1485 : (Cond.codeWith ({ cls := "AnimationControllerLaw", name := "blocked", desc := "(LAnimationController;I[J)I" } : MethodName) method_24_code (4 : Nat) (Option.some FieldType.int) [((0 : Nat), (9 : Nat), (12 : Nat), (21 : Nat))]) ∈ gW := gW_n 1485 (by decide +kernel) rfl
theorem kw_1486 : (Cond.methodLink "AnimationControllerLaw" (86 : Nat) ({ cls := "AnimationController", name := "blocked", desc := "(I)I" } : MethodName)) ∈ gW := gW_n 1486 (by decide +kernel) rfl
theorem kw_1487 : (Cond.instanceMethod ({ cls := "AnimationController", name := "blocked", desc := "(I)I" } : MethodName)) ∈ gW := gW_n 1487 (by decide +kernel) rfl
theorem kw_1488 : (Cond.selects "AnimationController" ({ cls := "AnimationController", name := "blocked", desc := "(I)I" } : MethodName) ({ cls := "AnimationController", name := "blocked", desc := "(I)I" } : MethodName)) ∈ gW := gW_n 1488 (by decide +kernel) rfl
theorem kw_1489 : (Cond.code ({ cls := "AnimationController", name := "blocked", desc := "(I)I" } : MethodName) prog_1_method_30_code (3 : Nat) (Option.some FieldType.int)) ∈ gW := gW_n 1489 (by decide +kernel) rfl
theorem kw_1492 : (Cond.methodLink "AnimationControllerLaw" (235 : Nat) ({ cls := "AnimationControllerLaw", name := "poseClip", desc := "(LAnimationController;I[J)I" } : MethodName)) ∈ gW := gW_n 1492 (by decide +kernel) rfl
theorem kw_1493 : (Cond.static ({ cls := "AnimationControllerLaw", name := "poseClip", desc := "(LAnimationController;I[J)I" } : MethodName)) ∈ gW := gW_n 1493 (by decide +kernel) rfl
theorem kw_1494 : (Cond.codeWith ({ cls := "AnimationControllerLaw", name := "poseClip", desc := "(LAnimationController;I[J)I" } : MethodName) method_25_code (4 : Nat) (Option.some FieldType.int) [((0 : Nat), (9 : Nat), (12 : Nat), (21 : Nat))]) ∈ gW := gW_n 1494 (by decide +kernel) rfl
theorem kw_1495 : (Cond.methodLink "AnimationControllerLaw" (89 : Nat) ({ cls := "AnimationController", name := "poseClip", desc := "(I)I" } : MethodName)) ∈ gW := gW_n 1495 (by decide +kernel) rfl
theorem kw_1496 : (Cond.instanceMethod ({ cls := "AnimationController", name := "poseClip", desc := "(I)I" } : MethodName)) ∈ gW := gW_n 1496 (by decide +kernel) rfl
theorem kw_1497 : (Cond.selects "AnimationController" ({ cls := "AnimationController", name := "poseClip", desc := "(I)I" } : MethodName) ({ cls := "AnimationController", name := "poseClip", desc := "(I)I" } : MethodName)) ∈ gW := gW_n 1497 (by decide +kernel) rfl
theorem kw_1498 : (Cond.code ({ cls := "AnimationController", name := "poseClip", desc := "(I)I" } : MethodName) prog_1_method_32_code (3 : Nat) (Option.some FieldType.int)) ∈ gW := gW_n 1498 (by decide +kernel) rfl
theorem kw_1500 : (Cond.methodLink "AnimationControllerLaw" (238 : Nat) ({ cls := "AnimationControllerLaw", name := "poseTime", desc := "(LAnimationController;I[J)I" } : MethodName)) ∈ gW := gW_n 1500 (by decide +kernel) rfl
theorem kw_1501 : (Cond.static ({ cls := "AnimationControllerLaw", name := "poseTime", desc := "(LAnimationController;I[J)I" } : MethodName)) ∈ gW := gW_n 1501 (by decide +kernel) rfl
theorem kw_1502 : (Cond.codeWith ({ cls := "AnimationControllerLaw", name := "poseTime", desc := "(LAnimationController;I[J)I" } : MethodName) method_26_code (4 : Nat) (Option.some FieldType.int) [((0 : Nat), (9 : Nat), (12 : Nat), (21 : Nat))]) ∈ gW := gW_n 1502 (by decide +kernel) rfl
theorem kw_1503 : (Cond.methodLink "AnimationControllerLaw" (92 : Nat) ({ cls := "AnimationController", name := "poseTime", desc := "(I)I" } : MethodName)) ∈ gW := gW_n 1503 (by decide +kernel) rfl
theorem kw_1504 : (Cond.instanceMethod ({ cls := "AnimationController", name := "poseTime", desc := "(I)I" } : MethodName)) ∈ gW := gW_n 1504 (by decide +kernel) rfl
theorem kw_1505 : (Cond.selects "AnimationController" ({ cls := "AnimationController", name := "poseTime", desc := "(I)I" } : MethodName) ({ cls := "AnimationController", name := "poseTime", desc := "(I)I" } : MethodName)) ∈ gW := gW_n 1505 (by decide +kernel) rfl
theorem kw_1506 : (Cond.code ({ cls := "AnimationController", name := "poseTime", desc := "(I)I" } : MethodName) prog_1_method_33_code (3 : Nat) (Option.some FieldType.int)) ∈ gW := gW_n 1506 (by decide +kernel) rfl
theorem kw_1507 : (Cond.methodLink "AnimationControllerLaw" (241 : Nat) ({ cls := "AnimationControllerLaw", name := "poseWeight", desc := "(LAnimationController;I[J)I" } : MethodName)) ∈ gW := gW_n 1507 (by decide +kernel) rfl
theorem kw_1508 : (Cond.static ({ cls := "AnimationControllerLaw", name := "poseWeight", desc := "(LAnimationController;I[J)I" } : MethodName)) ∈ gW := gW_n 1508 (by decide +kernel) rfl
theorem kw_1509 : (Cond.codeWith ({ cls := "AnimationControllerLaw", name := "poseWeight", desc := "(LAnimationController;I[J)I" } : MethodName) method_27_code (4 : Nat) (Option.some FieldType.int) [((0 : Nat), (9 : Nat), (12 : Nat), (21 : Nat))]) ∈ gW := gW_n 1509 (by decide +kernel) rfl
theorem kw_1510 : (Cond.methodLink "AnimationControllerLaw" (95 : Nat) ({ cls := "AnimationController", name := "poseWeight", desc := "(I)I" } : MethodName)) ∈ gW := gW_n 1510 (by decide +kernel) rfl
theorem kw_1511 : (Cond.instanceMethod ({ cls := "AnimationController", name := "poseWeight", desc := "(I)I" } : MethodName)) ∈ gW := gW_n 1511 (by decide +kernel) rfl
theorem kw_1512 : (Cond.selects "AnimationController" ({ cls := "AnimationController", name := "poseWeight", desc := "(I)I" } : MethodName) ({ cls := "AnimationController", name := "poseWeight", desc := "(I)I" } : MethodName)) ∈ gW := gW_n 1512 (by decide +kernel) rfl
theorem kw_1513 : (Cond.code ({ cls := "AnimationController", name := "poseWeight", desc := "(I)I" } : MethodName) prog_1_method_34_code (3 : Nat) (Option.some FieldType.int)) ∈ gW := gW_n 1513 (by decide +kernel) rfl
theorem kw_1514 : (Cond.methodLink "AnimationControllerLaw" (248 : Nat) ({ cls := "AnimationControllerLaw", name := "event", desc := "(LAnimationController;II[J)I" } : MethodName)) ∈ gW := gW_n 1514 (by decide +kernel) rfl
theorem kw_1515 : (Cond.static ({ cls := "AnimationControllerLaw", name := "event", desc := "(LAnimationController;II[J)I" } : MethodName)) ∈ gW := gW_n 1515 (by decide +kernel) rfl
theorem kw_1516 : (Cond.codeWith ({ cls := "AnimationControllerLaw", name := "event", desc := "(LAnimationController;II[J)I" } : MethodName) method_28_code (5 : Nat) (Option.some FieldType.int) [((0 : Nat), (10 : Nat), (13 : Nat), (21 : Nat)), ((0 : Nat), (10 : Nat), (17 : Nat), (13 : Nat))]) ∈ gW := gW_n 1516 (by decide +kernel) rfl
theorem kw_1517 : (Cond.methodLink "AnimationControllerLaw" (98 : Nat) ({ cls := "AnimationController", name := "event", desc := "(II)I" } : MethodName)) ∈ gW := gW_n 1517 (by decide +kernel) rfl
theorem kw_1518 : (Cond.instanceMethod ({ cls := "AnimationController", name := "event", desc := "(II)I" } : MethodName)) ∈ gW := gW_n 1518 (by decide +kernel) rfl
theorem kw_1519 : (Cond.selects "AnimationController" ({ cls := "AnimationController", name := "event", desc := "(II)I" } : MethodName) ({ cls := "AnimationController", name := "event", desc := "(II)I" } : MethodName)) ∈ gW := gW_n 1519 (by decide +kernel) rfl
theorem kw_1520 : (Cond.code ({ cls := "AnimationController", name := "event", desc := "(II)I" } : MethodName) prog_1_method_36_code (3 : Nat) (Option.some FieldType.int)) ∈ gW := gW_n 1520 (by decide +kernel) rfl
theorem kw_1533 : (Cond.methodLink "AnimationControllerLaw" (251 : Nat) ({ cls := "AnimationControllerLaw", name := "foretell", desc := "(LAnimationController;I[J)I" } : MethodName)) ∈ gW := gW_n 1533 (by decide +kernel) rfl
theorem kw_1534 : (Cond.static ({ cls := "AnimationControllerLaw", name := "foretell", desc := "(LAnimationController;I[J)I" } : MethodName)) ∈ gW := gW_n 1534 (by decide +kernel) rfl
theorem kw_1535 : (Cond.codeWith ({ cls := "AnimationControllerLaw", name := "foretell", desc := "(LAnimationController;I[J)I" } : MethodName) method_29_code (4 : Nat) (Option.some FieldType.int) [((0 : Nat), (9 : Nat), (12 : Nat), (13 : Nat)), ((0 : Nat), (9 : Nat), (15 : Nat), (15 : Nat))]) ∈ gW := gW_n 1535 (by decide +kernel) rfl
theorem kw_1536 : (Cond.methodLink "AnimationControllerLaw" (101 : Nat) ({ cls := "AnimationController", name := "foretell", desc := "(I)I" } : MethodName)) ∈ gW := gW_n 1536 (by decide +kernel) rfl
theorem kw_1537 : (Cond.instanceMethod ({ cls := "AnimationController", name := "foretell", desc := "(I)I" } : MethodName)) ∈ gW := gW_n 1537 (by decide +kernel) rfl
theorem kw_1538 : (Cond.selects "AnimationController" ({ cls := "AnimationController", name := "foretell", desc := "(I)I" } : MethodName) ({ cls := "AnimationController", name := "foretell", desc := "(I)I" } : MethodName)) ∈ gW := gW_n 1538 (by decide +kernel) rfl
theorem kw_1539 : (Cond.code ({ cls := "AnimationController", name := "foretell", desc := "(I)I" } : MethodName) prog_1_method_37_code (3 : Nat) (Option.some FieldType.int)) ∈ gW := gW_n 1539 (by decide +kernel) rfl
theorem kw_1550 : (Cond.methodLink "AnimationControllerLaw" (254 : Nat) ({ cls := "AnimationControllerLaw", name := "ticksTo", desc := "(LAnimationController;I[J)I" } : MethodName)) ∈ gW := gW_n 1550 (by decide +kernel) rfl
theorem kw_1551 : (Cond.static ({ cls := "AnimationControllerLaw", name := "ticksTo", desc := "(LAnimationController;I[J)I" } : MethodName)) ∈ gW := gW_n 1551 (by decide +kernel) rfl
theorem kw_1552 : (Cond.codeWith ({ cls := "AnimationControllerLaw", name := "ticksTo", desc := "(LAnimationController;I[J)I" } : MethodName) method_30_code (4 : Nat) (Option.some FieldType.int) [((0 : Nat), (9 : Nat), (12 : Nat), (21 : Nat))]) ∈ gW := gW_n 1552 (by decide +kernel) rfl
theorem kw_1553 : (Cond.methodLink "AnimationControllerLaw" (104 : Nat) ({ cls := "AnimationController", name := "ticksTo", desc := "(I)I" } : MethodName)) ∈ gW := gW_n 1553 (by decide +kernel) rfl
theorem kw_1554 : (Cond.instanceMethod ({ cls := "AnimationController", name := "ticksTo", desc := "(I)I" } : MethodName)) ∈ gW := gW_n 1554 (by decide +kernel) rfl
theorem kw_1555 : (Cond.selects "AnimationController" ({ cls := "AnimationController", name := "ticksTo", desc := "(I)I" } : MethodName) ({ cls := "AnimationController", name := "ticksTo", desc := "(I)I" } : MethodName)) ∈ gW := gW_n 1555 (by decide +kernel) rfl
theorem kw_1556 : (Cond.code ({ cls := "AnimationController", name := "ticksTo", desc := "(I)I" } : MethodName) prog_1_method_38_code (4 : Nat) (Option.some FieldType.int)) ∈ gW := gW_n 1556 (by decide +kernel) rfl
theorem kw_1557 : (Cond.methodLink "AnimationControllerLaw" (257 : Nat) ({ cls := "AnimationControllerLaw", name := "steps", desc := "(LAnimationController;II[J)I" } : MethodName)) ∈ gW := gW_n 1557 (by decide +kernel) rfl
theorem kw_1558 : (Cond.static ({ cls := "AnimationControllerLaw", name := "steps", desc := "(LAnimationController;II[J)I" } : MethodName)) ∈ gW := gW_n 1558 (by decide +kernel) rfl
theorem kw_1559 : (Cond.codeWith ({ cls := "AnimationControllerLaw", name := "steps", desc := "(LAnimationController;II[J)I" } : MethodName) method_31_code (5 : Nat) (Option.some FieldType.int) [((0 : Nat), (10 : Nat), (13 : Nat), (21 : Nat))]) ∈ gW := gW_n 1559 (by decide +kernel) rfl
theorem kw_1560 : (Cond.methodLink "AnimationControllerLaw" (107 : Nat) ({ cls := "AnimationController", name := "steps", desc := "(II)I" } : MethodName)) ∈ gW := gW_n 1560 (by decide +kernel) rfl
theorem kw_1561 : (Cond.instanceMethod ({ cls := "AnimationController", name := "steps", desc := "(II)I" } : MethodName)) ∈ gW := gW_n 1561 (by decide +kernel) rfl
theorem kw_1562 : (Cond.selects "AnimationController" ({ cls := "AnimationController", name := "steps", desc := "(II)I" } : MethodName) ({ cls := "AnimationController", name := "steps", desc := "(II)I" } : MethodName)) ∈ gW := gW_n 1562 (by decide +kernel) rfl
theorem kw_1563 : (Cond.code ({ cls := "AnimationController", name := "steps", desc := "(II)I" } : MethodName) prog_1_method_39_code (6 : Nat) (Option.some FieldType.int)) ∈ gW := gW_n 1563 (by decide +kernel) rfl
theorem kw_1576 : (Cond.methodLink "AnimationControllerLaw" (260 : Nat) ({ cls := "AnimationControllerLaw", name := "keep", desc := "(LAnimationController;I[J)I" } : MethodName)) ∈ gW := gW_n 1576 (by decide +kernel) rfl
theorem kw_1577 : (Cond.static ({ cls := "AnimationControllerLaw", name := "keep", desc := "(LAnimationController;I[J)I" } : MethodName)) ∈ gW := gW_n 1577 (by decide +kernel) rfl
theorem kw_1578 : (Cond.codeWith ({ cls := "AnimationControllerLaw", name := "keep", desc := "(LAnimationController;I[J)I" } : MethodName) method_32_code (4 : Nat) (Option.some FieldType.int) [((0 : Nat), (9 : Nat), (12 : Nat), (13 : Nat)), ((0 : Nat), (9 : Nat), (15 : Nat), (15 : Nat))]) ∈ gW := gW_n 1578 (by decide +kernel) rfl
theorem kw_1579 : (Cond.methodLink "AnimationControllerLaw" (110 : Nat) ({ cls := "AnimationController", name := "keep", desc := "(I)I" } : MethodName)) ∈ gW := gW_n 1579 (by decide +kernel) rfl
theorem kw_1580 : (Cond.instanceMethod ({ cls := "AnimationController", name := "keep", desc := "(I)I" } : MethodName)) ∈ gW := gW_n 1580 (by decide +kernel) rfl
theorem kw_1581 : (Cond.selects "AnimationController" ({ cls := "AnimationController", name := "keep", desc := "(I)I" } : MethodName) ({ cls := "AnimationController", name := "keep", desc := "(I)I" } : MethodName)) ∈ gW := gW_n 1581 (by decide +kernel) rfl
theorem kw_1582 : (Cond.code ({ cls := "AnimationController", name := "keep", desc := "(I)I" } : MethodName) prog_1_method_40_code (2 : Nat) (Option.some FieldType.int)) ∈ gW := gW_n 1582 (by decide +kernel) rfl
theorem kw_1588 : (Cond.methodLink "AnimationControllerLaw" (263 : Nat) ({ cls := "AnimationControllerLaw", name := "restore", desc := "(LAnimationController;I[J)I" } : MethodName)) ∈ gW := gW_n 1588 (by decide +kernel) rfl
theorem kw_1589 : (Cond.static ({ cls := "AnimationControllerLaw", name := "restore", desc := "(LAnimationController;I[J)I" } : MethodName)) ∈ gW := gW_n 1589 (by decide +kernel) rfl
theorem kw_1590 : (Cond.codeWith ({ cls := "AnimationControllerLaw", name := "restore", desc := "(LAnimationController;I[J)I" } : MethodName) method_33_code (4 : Nat) (Option.some FieldType.int) [((0 : Nat), (9 : Nat), (12 : Nat), (13 : Nat)), ((0 : Nat), (9 : Nat), (15 : Nat), (15 : Nat))]) ∈ gW := gW_n 1590 (by decide +kernel) rfl
theorem kw_1591 : (Cond.methodLink "AnimationControllerLaw" (113 : Nat) ({ cls := "AnimationController", name := "restore", desc := "(I)I" } : MethodName)) ∈ gW := gW_n 1591 (by decide +kernel) rfl
theorem kw_1592 : (Cond.instanceMethod ({ cls := "AnimationController", name := "restore", desc := "(I)I" } : MethodName)) ∈ gW := gW_n 1592 (by decide +kernel) rfl
theorem kw_1593 : (Cond.selects "AnimationController" ({ cls := "AnimationController", name := "restore", desc := "(I)I" } : MethodName) ({ cls := "AnimationController", name := "restore", desc := "(I)I" } : MethodName)) ∈ gW := gW_n 1593 (by decide +kernel) rfl
theorem kw_1594 : (Cond.code ({ cls := "AnimationController", name := "restore", desc := "(I)I" } : MethodName) prog_1_method_41_code (2 : Nat) (Option.some FieldType.int)) ∈ gW := gW_n 1594 (by decide +kernel) rfl
theorem kw_1596 : (Cond.methodLink "AnimationControllerLaw" (266 : Nat) ({ cls := "AnimationControllerLaw", name := "count", desc := "(LAnimationController;I[J)I" } : MethodName)) ∈ gW := gW_n 1596 (by decide +kernel) rfl
theorem kw_1597 : (Cond.static ({ cls := "AnimationControllerLaw", name := "count", desc := "(LAnimationController;I[J)I" } : MethodName)) ∈ gW := gW_n 1597 (by decide +kernel) rfl
theorem kw_1598 : (Cond.codeWith ({ cls := "AnimationControllerLaw", name := "count", desc := "(LAnimationController;I[J)I" } : MethodName) method_34_code (4 : Nat) (Option.some FieldType.int) [((0 : Nat), (9 : Nat), (12 : Nat), (13 : Nat))]) ∈ gW := gW_n 1598 (by decide +kernel) rfl
theorem kw_1599 : (Cond.methodLink "AnimationControllerLaw" (116 : Nat) ({ cls := "AnimationController", name := "count", desc := "(I)I" } : MethodName)) ∈ gW := gW_n 1599 (by decide +kernel) rfl
theorem kw_1600 : (Cond.instanceMethod ({ cls := "AnimationController", name := "count", desc := "(I)I" } : MethodName)) ∈ gW := gW_n 1600 (by decide +kernel) rfl
theorem kw_1601 : (Cond.selects "AnimationController" ({ cls := "AnimationController", name := "count", desc := "(I)I" } : MethodName) ({ cls := "AnimationController", name := "count", desc := "(I)I" } : MethodName)) ∈ gW := gW_n 1601 (by decide +kernel) rfl
theorem kw_1602 : (Cond.code ({ cls := "AnimationController", name := "count", desc := "(I)I" } : MethodName) prog_1_method_42_code (2 : Nat) (Option.some FieldType.int)) ∈ gW := gW_n 1602 (by decide +kernel) rfl
theorem kw_1737 : (Cond.methodLink "AnimationControllerLaw" (129 : Nat) ({ cls := "AnimationControllerModel", name := "thrown", desc := "()I" } : MethodName)) ∈ gW := gW_n 1737 (by decide +kernel) rfl
theorem kw_1738 : (Cond.instanceMethod ({ cls := "AnimationControllerModel", name := "thrown", desc := "()I" } : MethodName)) ∈ gW := gW_n 1738 (by decide +kernel) rfl
theorem kw_1739 : (Cond.selects "AnimationControllerModel" ({ cls := "AnimationControllerModel", name := "thrown", desc := "()I" } : MethodName) ({ cls := "AnimationControllerModel", name := "thrown", desc := "()I" } : MethodName)) ∈ gW := gW_n 1739 (by decide +kernel) rfl
theorem kw_1740 : (Cond.code ({ cls := "AnimationControllerModel", name := "thrown", desc := "()I" } : MethodName) prog_14_method_2_code (1 : Nat) (Option.some FieldType.int)) ∈ gW := gW_n 1740 (by decide +kernel) rfl
theorem kw_1741 : (Cond.methodLink "AnimationControllerLaw" (128 : Nat) ({ cls := "AnimationControllerModel", name := "addParameter", desc := "(I)I" } : MethodName)) ∈ gW := gW_n 1741 (by decide +kernel) rfl
theorem kw_1742 : (Cond.instanceMethod ({ cls := "AnimationControllerModel", name := "addParameter", desc := "(I)I" } : MethodName)) ∈ gW := gW_n 1742 (by decide +kernel) rfl
theorem kw_1743 : (Cond.selects "AnimationControllerModel" ({ cls := "AnimationControllerModel", name := "addParameter", desc := "(I)I" } : MethodName) ({ cls := "AnimationControllerModel", name := "addParameter", desc := "(I)I" } : MethodName)) ∈ gW := gW_n 1743 (by decide +kernel) rfl
theorem kw_1744 : (Cond.code ({ cls := "AnimationControllerModel", name := "addParameter", desc := "(I)I" } : MethodName) prog_14_method_5_code (2 : Nat) (Option.some FieldType.int)) ∈ gW := gW_n 1744 (by decide +kernel) rfl
theorem kw_1753 : (Cond.methodLink "AnimationControllerLaw" (135 : Nat) ({ cls := "AnimationControllerModel", name := "set", desc := "(II)I" } : MethodName)) ∈ gW := gW_n 1753 (by decide +kernel) rfl
theorem kw_1754 : (Cond.instanceMethod ({ cls := "AnimationControllerModel", name := "set", desc := "(II)I" } : MethodName)) ∈ gW := gW_n 1754 (by decide +kernel) rfl
theorem kw_1755 : (Cond.selects "AnimationControllerModel" ({ cls := "AnimationControllerModel", name := "set", desc := "(II)I" } : MethodName) ({ cls := "AnimationControllerModel", name := "set", desc := "(II)I" } : MethodName)) ∈ gW := gW_n 1755 (by decide +kernel) rfl
theorem kw_1756 : (Cond.code ({ cls := "AnimationControllerModel", name := "set", desc := "(II)I" } : MethodName) prog_14_method_7_code (5 : Nat) (Option.some FieldType.int)) ∈ gW := gW_n 1756 (by decide +kernel) rfl
theorem kw_1763 : (Cond.methodLink "AnimationControllerLaw" (138 : Nat) ({ cls := "AnimationControllerModel", name := "value", desc := "(I)I" } : MethodName)) ∈ gW := gW_n 1763 (by decide +kernel) rfl
theorem kw_1764 : (Cond.instanceMethod ({ cls := "AnimationControllerModel", name := "value", desc := "(I)I" } : MethodName)) ∈ gW := gW_n 1764 (by decide +kernel) rfl
theorem kw_1765 : (Cond.selects "AnimationControllerModel" ({ cls := "AnimationControllerModel", name := "value", desc := "(I)I" } : MethodName) ({ cls := "AnimationControllerModel", name := "value", desc := "(I)I" } : MethodName)) ∈ gW := gW_n 1765 (by decide +kernel) rfl
theorem kw_1766 : (Cond.code ({ cls := "AnimationControllerModel", name := "value", desc := "(I)I" } : MethodName) prog_14_method_8_code (2 : Nat) (Option.some FieldType.int)) ∈ gW := gW_n 1766 (by decide +kernel) rfl
theorem kw_1767 : (Cond.methodLink "AnimationControllerLaw" (141 : Nat) ({ cls := "AnimationControllerModel", name := "addClip", desc := "(I)I" } : MethodName)) ∈ gW := gW_n 1767 (by decide +kernel) rfl
theorem kw_1768 : (Cond.instanceMethod ({ cls := "AnimationControllerModel", name := "addClip", desc := "(I)I" } : MethodName)) ∈ gW := gW_n 1768 (by decide +kernel) rfl
theorem kw_1769 : (Cond.selects "AnimationControllerModel" ({ cls := "AnimationControllerModel", name := "addClip", desc := "(I)I" } : MethodName) ({ cls := "AnimationControllerModel", name := "addClip", desc := "(I)I" } : MethodName)) ∈ gW := gW_n 1769 (by decide +kernel) rfl
theorem kw_1770 : (Cond.code ({ cls := "AnimationControllerModel", name := "addClip", desc := "(I)I" } : MethodName) prog_14_method_9_code (2 : Nat) (Option.some FieldType.int)) ∈ gW := gW_n 1770 (by decide +kernel) rfl
theorem kw_1772 : (Cond.methodLink "AnimationControllerLaw" (145 : Nat) ({ cls := "AnimationControllerModel", name := "addEvent", desc := "(III)I" } : MethodName)) ∈ gW := gW_n 1772 (by decide +kernel) rfl
theorem kw_1773 : (Cond.instanceMethod ({ cls := "AnimationControllerModel", name := "addEvent", desc := "(III)I" } : MethodName)) ∈ gW := gW_n 1773 (by decide +kernel) rfl
theorem kw_1774 : (Cond.selects "AnimationControllerModel" ({ cls := "AnimationControllerModel", name := "addEvent", desc := "(III)I" } : MethodName) ({ cls := "AnimationControllerModel", name := "addEvent", desc := "(III)I" } : MethodName)) ∈ gW := gW_n 1774 (by decide +kernel) rfl
theorem kw_1775 : (Cond.code ({ cls := "AnimationControllerModel", name := "addEvent", desc := "(III)I" } : MethodName) prog_14_method_11_code (5 : Nat) (Option.some FieldType.int)) ∈ gW := gW_n 1775 (by decide +kernel) rfl
theorem kw_1781 : (Cond.methodLink "AnimationControllerLaw" (148 : Nat) ({ cls := "AnimationControllerModel", name := "addClipNode", desc := "(I)I" } : MethodName)) ∈ gW := gW_n 1781 (by decide +kernel) rfl
theorem kw_1782 : (Cond.instanceMethod ({ cls := "AnimationControllerModel", name := "addClipNode", desc := "(I)I" } : MethodName)) ∈ gW := gW_n 1782 (by decide +kernel) rfl
theorem kw_1783 : (Cond.selects "AnimationControllerModel" ({ cls := "AnimationControllerModel", name := "addClipNode", desc := "(I)I" } : MethodName) ({ cls := "AnimationControllerModel", name := "addClipNode", desc := "(I)I" } : MethodName)) ∈ gW := gW_n 1783 (by decide +kernel) rfl
theorem kw_1784 : (Cond.code ({ cls := "AnimationControllerModel", name := "addClipNode", desc := "(I)I" } : MethodName) prog_14_method_12_code (2 : Nat) (Option.some FieldType.int)) ∈ gW := gW_n 1784 (by decide +kernel) rfl
theorem kw_1785 : (Cond.methodLink "AnimationControllerLaw" (151 : Nat) ({ cls := "AnimationControllerModel", name := "addLine", desc := "(I)I" } : MethodName)) ∈ gW := gW_n 1785 (by decide +kernel) rfl
theorem kw_1786 : (Cond.instanceMethod ({ cls := "AnimationControllerModel", name := "addLine", desc := "(I)I" } : MethodName)) ∈ gW := gW_n 1786 (by decide +kernel) rfl
theorem kw_1787 : (Cond.selects "AnimationControllerModel" ({ cls := "AnimationControllerModel", name := "addLine", desc := "(I)I" } : MethodName) ({ cls := "AnimationControllerModel", name := "addLine", desc := "(I)I" } : MethodName)) ∈ gW := gW_n 1787 (by decide +kernel) rfl
theorem kw_1788 : (Cond.code ({ cls := "AnimationControllerModel", name := "addLine", desc := "(I)I" } : MethodName) prog_14_method_13_code (2 : Nat) (Option.some FieldType.int)) ∈ gW := gW_n 1788 (by decide +kernel) rfl
theorem kw_1789 : (Cond.methodLink "AnimationControllerLaw" (154 : Nat) ({ cls := "AnimationControllerModel", name := "addChild", desc := "(III)I" } : MethodName)) ∈ gW := gW_n 1789 (by decide +kernel) rfl
theorem kw_1790 : (Cond.instanceMethod ({ cls := "AnimationControllerModel", name := "addChild", desc := "(III)I" } : MethodName)) ∈ gW := gW_n 1790 (by decide +kernel) rfl
theorem kw_1791 : (Cond.selects "AnimationControllerModel" ({ cls := "AnimationControllerModel", name := "addChild", desc := "(III)I" } : MethodName) ({ cls := "AnimationControllerModel", name := "addChild", desc := "(III)I" } : MethodName)) ∈ gW := gW_n 1791 (by decide +kernel) rfl
theorem kw_1792 : (Cond.code ({ cls := "AnimationControllerModel", name := "addChild", desc := "(III)I" } : MethodName) prog_14_method_17_code (6 : Nat) (Option.some FieldType.int)) ∈ gW := gW_n 1792 (by decide +kernel) rfl
theorem kw_1805 : (Cond.methodLink "AnimationControllerLaw" (158 : Nat) ({ cls := "AnimationControllerModel", name := "addState", desc := "(IIZI)I" } : MethodName)) ∈ gW := gW_n 1805 (by decide +kernel) rfl
theorem kw_1806 : (Cond.instanceMethod ({ cls := "AnimationControllerModel", name := "addState", desc := "(IIZI)I" } : MethodName)) ∈ gW := gW_n 1806 (by decide +kernel) rfl
theorem kw_1807 : (Cond.selects "AnimationControllerModel" ({ cls := "AnimationControllerModel", name := "addState", desc := "(IIZI)I" } : MethodName) ({ cls := "AnimationControllerModel", name := "addState", desc := "(IIZI)I" } : MethodName)) ∈ gW := gW_n 1807 (by decide +kernel) rfl
theorem kw_1808 : (Cond.code ({ cls := "AnimationControllerModel", name := "addState", desc := "(IIZI)I" } : MethodName) prog_14_method_21_code (5 : Nat) (Option.some FieldType.int)) ∈ gW := gW_n 1808 (by decide +kernel) rfl
theorem kw_1819 : (Cond.methodLink "AnimationControllerLaw" (161 : Nat) ({ cls := "AnimationControllerModel", name := "addTransition", desc := "(III)I" } : MethodName)) ∈ gW := gW_n 1819 (by decide +kernel) rfl
theorem kw_1820 : (Cond.instanceMethod ({ cls := "AnimationControllerModel", name := "addTransition", desc := "(III)I" } : MethodName)) ∈ gW := gW_n 1820 (by decide +kernel) rfl
theorem kw_1821 : (Cond.selects "AnimationControllerModel" ({ cls := "AnimationControllerModel", name := "addTransition", desc := "(III)I" } : MethodName) ({ cls := "AnimationControllerModel", name := "addTransition", desc := "(III)I" } : MethodName)) ∈ gW := gW_n 1821 (by decide +kernel) rfl
theorem kw_1822 : (Cond.code ({ cls := "AnimationControllerModel", name := "addTransition", desc := "(III)I" } : MethodName) prog_14_method_26_code (4 : Nat) (Option.some FieldType.int)) ∈ gW := gW_n 1822 (by decide +kernel) rfl
theorem kw_1832 : (Cond.methodLink "AnimationControllerLaw" (164 : Nat) ({ cls := "AnimationControllerModel", name := "setTiming", desc := "(III)I" } : MethodName)) ∈ gW := gW_n 1832 (by decide +kernel) rfl
theorem kw_1833 : (Cond.instanceMethod ({ cls := "AnimationControllerModel", name := "setTiming", desc := "(III)I" } : MethodName)) ∈ gW := gW_n 1833 (by decide +kernel) rfl
theorem kw_1834 : (Cond.selects "AnimationControllerModel" ({ cls := "AnimationControllerModel", name := "setTiming", desc := "(III)I" } : MethodName) ({ cls := "AnimationControllerModel", name := "setTiming", desc := "(III)I" } : MethodName)) ∈ gW := gW_n 1834 (by decide +kernel) rfl
theorem kw_1835 : (Cond.code ({ cls := "AnimationControllerModel", name := "setTiming", desc := "(III)I" } : MethodName) prog_14_method_28_code (5 : Nat) (Option.some FieldType.int)) ∈ gW := gW_n 1835 (by decide +kernel) rfl
theorem kw_1846 : (Cond.methodLink "AnimationControllerLaw" (168 : Nat) ({ cls := "AnimationControllerModel", name := "setInterruption", desc := "(IIZ)I" } : MethodName)) ∈ gW := gW_n 1846 (by decide +kernel) rfl
theorem kw_1847 : (Cond.instanceMethod ({ cls := "AnimationControllerModel", name := "setInterruption", desc := "(IIZ)I" } : MethodName)) ∈ gW := gW_n 1847 (by decide +kernel) rfl
theorem kw_1848 : (Cond.selects "AnimationControllerModel" ({ cls := "AnimationControllerModel", name := "setInterruption", desc := "(IIZ)I" } : MethodName) ({ cls := "AnimationControllerModel", name := "setInterruption", desc := "(IIZ)I" } : MethodName)) ∈ gW := gW_n 1848 (by decide +kernel) rfl
theorem kw_1849 : (Cond.code ({ cls := "AnimationControllerModel", name := "setInterruption", desc := "(IIZ)I" } : MethodName) prog_14_method_29_code (5 : Nat) (Option.some FieldType.int)) ∈ gW := gW_n 1849 (by decide +kernel) rfl
theorem kw_1851 : (Cond.methodLink "AnimationControllerLaw" (172 : Nat) ({ cls := "AnimationControllerModel", name := "addCondition", desc := "(IIII)I" } : MethodName)) ∈ gW := gW_n 1851 (by decide +kernel) rfl
theorem kw_1852 : (Cond.instanceMethod ({ cls := "AnimationControllerModel", name := "addCondition", desc := "(IIII)I" } : MethodName)) ∈ gW := gW_n 1852 (by decide +kernel) rfl
theorem kw_1853 : (Cond.selects "AnimationControllerModel" ({ cls := "AnimationControllerModel", name := "addCondition", desc := "(IIII)I" } : MethodName) ({ cls := "AnimationControllerModel", name := "addCondition", desc := "(IIII)I" } : MethodName)) ∈ gW := gW_n 1853 (by decide +kernel) rfl
theorem kw_1854 : (Cond.code ({ cls := "AnimationControllerModel", name := "addCondition", desc := "(IIII)I" } : MethodName) prog_14_method_31_code (7 : Nat) (Option.some FieldType.int)) ∈ gW := gW_n 1854 (by decide +kernel) rfl
theorem kw_1859 : (Cond.methodLink "AnimationControllerLaw" (175 : Nat) ({ cls := "AnimationControllerModel", name := "setThreshold", desc := "(I)I" } : MethodName)) ∈ gW := gW_n 1859 (by decide +kernel) rfl
theorem kw_1860 : (Cond.instanceMethod ({ cls := "AnimationControllerModel", name := "setThreshold", desc := "(I)I" } : MethodName)) ∈ gW := gW_n 1860 (by decide +kernel) rfl
theorem kw_1861 : (Cond.selects "AnimationControllerModel" ({ cls := "AnimationControllerModel", name := "setThreshold", desc := "(I)I" } : MethodName) ({ cls := "AnimationControllerModel", name := "setThreshold", desc := "(I)I" } : MethodName)) ∈ gW := gW_n 1861 (by decide +kernel) rfl
theorem kw_1862 : (Cond.code ({ cls := "AnimationControllerModel", name := "setThreshold", desc := "(I)I" } : MethodName) prog_14_method_32_code (3 : Nat) (Option.some FieldType.int)) ∈ gW := gW_n 1862 (by decide +kernel) rfl
theorem kw_1863 : (Cond.methodLink "AnimationControllerLaw" (178 : Nat) ({ cls := "AnimationControllerModel", name := "type", desc := "(I)I" } : MethodName)) ∈ gW := gW_n 1863 (by decide +kernel) rfl
theorem kw_1864 : (Cond.instanceMethod ({ cls := "AnimationControllerModel", name := "type", desc := "(I)I" } : MethodName)) ∈ gW := gW_n 1864 (by decide +kernel) rfl
theorem kw_1865 : (Cond.selects "AnimationControllerModel" ({ cls := "AnimationControllerModel", name := "type", desc := "(I)I" } : MethodName) ({ cls := "AnimationControllerModel", name := "type", desc := "(I)I" } : MethodName)) ∈ gW := gW_n 1865 (by decide +kernel) rfl
theorem kw_1866 : (Cond.code ({ cls := "AnimationControllerModel", name := "type", desc := "(I)I" } : MethodName) prog_14_method_33_code (2 : Nat) (Option.some FieldType.int)) ∈ gW := gW_n 1866 (by decide +kernel) rfl
theorem kw_1868 : (Cond.methodLink "AnimationControllerLaw" (182 : Nat) ({ cls := "AnimationControllerModel", name := "clearText", desc := "()I" } : MethodName)) ∈ gW := gW_n 1868 (by decide +kernel) rfl
theorem kw_1869 : (Cond.instanceMethod ({ cls := "AnimationControllerModel", name := "clearText", desc := "()I" } : MethodName)) ∈ gW := gW_n 1869 (by decide +kernel) rfl
theorem kw_1870 : (Cond.selects "AnimationControllerModel" ({ cls := "AnimationControllerModel", name := "clearText", desc := "()I" } : MethodName) ({ cls := "AnimationControllerModel", name := "clearText", desc := "()I" } : MethodName)) ∈ gW := gW_n 1870 (by decide +kernel) rfl
theorem kw_1871 : (Cond.code ({ cls := "AnimationControllerModel", name := "clearText", desc := "()I" } : MethodName) prog_14_method_34_code (2 : Nat) (Option.some FieldType.int)) ∈ gW := gW_n 1871 (by decide +kernel) rfl
theorem kw_1872 : (Cond.methodLink "AnimationControllerLaw" (186 : Nat) ({ cls := "AnimationControllerModel", name := "fault", desc := "()I" } : MethodName)) ∈ gW := gW_n 1872 (by decide +kernel) rfl
theorem kw_1873 : (Cond.instanceMethod ({ cls := "AnimationControllerModel", name := "fault", desc := "()I" } : MethodName)) ∈ gW := gW_n 1873 (by decide +kernel) rfl
theorem kw_1874 : (Cond.selects "AnimationControllerModel" ({ cls := "AnimationControllerModel", name := "fault", desc := "()I" } : MethodName) ({ cls := "AnimationControllerModel", name := "fault", desc := "()I" } : MethodName)) ∈ gW := gW_n 1874 (by decide +kernel) rfl
theorem kw_1875 : (Cond.code ({ cls := "AnimationControllerModel", name := "fault", desc := "()I" } : MethodName) prog_14_method_45_code (1 : Nat) (Option.some FieldType.int)) ∈ gW := gW_n 1875 (by decide +kernel) rfl
theorem kw_1918 : (Cond.methodLink "AnimationControllerLaw" (190 : Nat) ({ cls := "AnimationControllerModel", name := "load", desc := "()I" } : MethodName)) ∈ gW := gW_n 1918 (by decide +kernel) rfl
theorem kw_1919 : (Cond.instanceMethod ({ cls := "AnimationControllerModel", name := "load", desc := "()I" } : MethodName)) ∈ gW := gW_n 1919 (by decide +kernel) rfl
theorem kw_1920 : (Cond.selects "AnimationControllerModel" ({ cls := "AnimationControllerModel", name := "load", desc := "()I" } : MethodName) ({ cls := "AnimationControllerModel", name := "load", desc := "()I" } : MethodName)) ∈ gW := gW_n 1920 (by decide +kernel) rfl
theorem kw_1921 : (Cond.code ({ cls := "AnimationControllerModel", name := "load", desc := "()I" } : MethodName) prog_14_method_46_code (1 : Nat) (Option.some FieldType.int)) ∈ gW := gW_n 1921 (by decide +kernel) rfl
theorem kw_1922 : (Cond.methodLink "AnimationControllerLaw" (234 : Nat) ({ cls := "AnimationControllerModel", name := "poseSize", desc := "()I" } : MethodName)) ∈ gW := gW_n 1922 (by decide +kernel) rfl
theorem kw_1923 : (Cond.instanceMethod ({ cls := "AnimationControllerModel", name := "poseSize", desc := "()I" } : MethodName)) ∈ gW := gW_n 1923 (by decide +kernel) rfl
theorem kw_1924 : (Cond.selects "AnimationControllerModel" ({ cls := "AnimationControllerModel", name := "poseSize", desc := "()I" } : MethodName) ({ cls := "AnimationControllerModel", name := "poseSize", desc := "()I" } : MethodName)) ∈ gW := gW_n 1924 (by decide +kernel) rfl
theorem kw_1925 : (Cond.code ({ cls := "AnimationControllerModel", name := "poseSize", desc := "()I" } : MethodName) prog_14_method_57_code (1 : Nat) (Option.some FieldType.int)) ∈ gW := gW_n 1925 (by decide +kernel) rfl
theorem kw_1955 : (Cond.methodLink "AnimationControllerLaw" (237 : Nat) ({ cls := "AnimationControllerModel", name := "poseClip", desc := "(I)I" } : MethodName)) ∈ gW := gW_n 1955 (by decide +kernel) rfl
theorem kw_1956 : (Cond.instanceMethod ({ cls := "AnimationControllerModel", name := "poseClip", desc := "(I)I" } : MethodName)) ∈ gW := gW_n 1956 (by decide +kernel) rfl
theorem kw_1957 : (Cond.selects "AnimationControllerModel" ({ cls := "AnimationControllerModel", name := "poseClip", desc := "(I)I" } : MethodName) ({ cls := "AnimationControllerModel", name := "poseClip", desc := "(I)I" } : MethodName)) ∈ gW := gW_n 1957 (by decide +kernel) rfl
theorem kw_1958 : (Cond.code ({ cls := "AnimationControllerModel", name := "poseClip", desc := "(I)I" } : MethodName) prog_14_method_59_code (2 : Nat) (Option.some FieldType.int)) ∈ gW := gW_n 1958 (by decide +kernel) rfl
theorem kw_1963 : (Cond.methodLink "AnimationControllerLaw" (240 : Nat) ({ cls := "AnimationControllerModel", name := "poseTime", desc := "(I)I" } : MethodName)) ∈ gW := gW_n 1963 (by decide +kernel) rfl
theorem kw_1964 : (Cond.instanceMethod ({ cls := "AnimationControllerModel", name := "poseTime", desc := "(I)I" } : MethodName)) ∈ gW := gW_n 1964 (by decide +kernel) rfl
theorem kw_1965 : (Cond.selects "AnimationControllerModel" ({ cls := "AnimationControllerModel", name := "poseTime", desc := "(I)I" } : MethodName) ({ cls := "AnimationControllerModel", name := "poseTime", desc := "(I)I" } : MethodName)) ∈ gW := gW_n 1965 (by decide +kernel) rfl
theorem kw_1966 : (Cond.code ({ cls := "AnimationControllerModel", name := "poseTime", desc := "(I)I" } : MethodName) prog_14_method_60_code (2 : Nat) (Option.some FieldType.int)) ∈ gW := gW_n 1966 (by decide +kernel) rfl
theorem kw_1967 : (Cond.methodLink "AnimationControllerLaw" (243 : Nat) ({ cls := "AnimationControllerModel", name := "poseWeight", desc := "(I)I" } : MethodName)) ∈ gW := gW_n 1967 (by decide +kernel) rfl
theorem kw_1968 : (Cond.instanceMethod ({ cls := "AnimationControllerModel", name := "poseWeight", desc := "(I)I" } : MethodName)) ∈ gW := gW_n 1968 (by decide +kernel) rfl
theorem kw_1969 : (Cond.selects "AnimationControllerModel" ({ cls := "AnimationControllerModel", name := "poseWeight", desc := "(I)I" } : MethodName) ({ cls := "AnimationControllerModel", name := "poseWeight", desc := "(I)I" } : MethodName)) ∈ gW := gW_n 1969 (by decide +kernel) rfl
theorem kw_1970 : (Cond.code ({ cls := "AnimationControllerModel", name := "poseWeight", desc := "(I)I" } : MethodName) prog_14_method_61_code (2 : Nat) (Option.some FieldType.int)) ∈ gW := gW_n 1970 (by decide +kernel) rfl
theorem kw_1971 : (Cond.methodLink "AnimationControllerLaw" (230 : Nat) ({ cls := "AnimationControllerModel", name := "blocked", desc := "(I)I" } : MethodName)) ∈ gW := gW_n 1971 (by decide +kernel) rfl
theorem kw_1972 : (Cond.instanceMethod ({ cls := "AnimationControllerModel", name := "blocked", desc := "(I)I" } : MethodName)) ∈ gW := gW_n 1972 (by decide +kernel) rfl
theorem kw_1973 : (Cond.selects "AnimationControllerModel" ({ cls := "AnimationControllerModel", name := "blocked", desc := "(I)I" } : MethodName) ({ cls := "AnimationControllerModel", name := "blocked", desc := "(I)I" } : MethodName)) ∈ gW := gW_n 1973 (by decide +kernel) rfl
theorem kw_1974 : (Cond.code ({ cls := "AnimationControllerModel", name := "blocked", desc := "(I)I" } : MethodName) prog_14_method_70_code (3 : Nat) (Option.some FieldType.int)) ∈ gW := gW_n 1974 (by decide +kernel) rfl
theorem kw_2008 : (Cond.methodLink "AnimationControllerLaw" (193 : Nat) ({ cls := "AnimationControllerModel", name := "tick", desc := "(I)I" } : MethodName)) ∈ gW := gW_n 2008 (by decide +kernel) rfl
theorem kw_2009 : (Cond.instanceMethod ({ cls := "AnimationControllerModel", name := "tick", desc := "(I)I" } : MethodName)) ∈ gW := gW_n 2009 (by decide +kernel) rfl
theorem kw_2010 : (Cond.selects "AnimationControllerModel" ({ cls := "AnimationControllerModel", name := "tick", desc := "(I)I" } : MethodName) ({ cls := "AnimationControllerModel", name := "tick", desc := "(I)I" } : MethodName)) ∈ gW := gW_n 2010 (by decide +kernel) rfl
theorem kw_2011 : (Cond.code ({ cls := "AnimationControllerModel", name := "tick", desc := "(I)I" } : MethodName) prog_14_method_81_code (4 : Nat) (Option.some FieldType.int)) ∈ gW := gW_n 2011 (by decide +kernel) rfl
theorem kw_2073 : (Cond.methodLink "AnimationControllerLaw" (197 : Nat) ({ cls := "AnimationControllerModel", name := "reset", desc := "()I" } : MethodName)) ∈ gW := gW_n 2073 (by decide +kernel) rfl
theorem kw_2074 : (Cond.instanceMethod ({ cls := "AnimationControllerModel", name := "reset", desc := "()I" } : MethodName)) ∈ gW := gW_n 2074 (by decide +kernel) rfl
theorem kw_2075 : (Cond.selects "AnimationControllerModel" ({ cls := "AnimationControllerModel", name := "reset", desc := "()I" } : MethodName) ({ cls := "AnimationControllerModel", name := "reset", desc := "()I" } : MethodName)) ∈ gW := gW_n 2075 (by decide +kernel) rfl
theorem kw_2076 : (Cond.code ({ cls := "AnimationControllerModel", name := "reset", desc := "()I" } : MethodName) prog_14_method_82_code (3 : Nat) (Option.some FieldType.int)) ∈ gW := gW_n 2076 (by decide +kernel) rfl
theorem kw_2077 : (Cond.methodLink "AnimationControllerLaw" (200 : Nat) ({ cls := "AnimationControllerModel", name := "state", desc := "()I" } : MethodName)) ∈ gW := gW_n 2077 (by decide +kernel) rfl
theorem kw_2078 : (Cond.instanceMethod ({ cls := "AnimationControllerModel", name := "state", desc := "()I" } : MethodName)) ∈ gW := gW_n 2078 (by decide +kernel) rfl
theorem kw_2079 : (Cond.selects "AnimationControllerModel" ({ cls := "AnimationControllerModel", name := "state", desc := "()I" } : MethodName) ({ cls := "AnimationControllerModel", name := "state", desc := "()I" } : MethodName)) ∈ gW := gW_n 2079 (by decide +kernel) rfl
theorem kw_2080 : (Cond.code ({ cls := "AnimationControllerModel", name := "state", desc := "()I" } : MethodName) prog_14_method_83_code (1 : Nat) (Option.some FieldType.int)) ∈ gW := gW_n 2080 (by decide +kernel) rfl
theorem kw_2081 : (Cond.methodLink "AnimationControllerLaw" (204 : Nat) ({ cls := "AnimationControllerModel", name := "target", desc := "()I" } : MethodName)) ∈ gW := gW_n 2081 (by decide +kernel) rfl
theorem kw_2082 : (Cond.instanceMethod ({ cls := "AnimationControllerModel", name := "target", desc := "()I" } : MethodName)) ∈ gW := gW_n 2082 (by decide +kernel) rfl
theorem kw_2083 : (Cond.selects "AnimationControllerModel" ({ cls := "AnimationControllerModel", name := "target", desc := "()I" } : MethodName) ({ cls := "AnimationControllerModel", name := "target", desc := "()I" } : MethodName)) ∈ gW := gW_n 2083 (by decide +kernel) rfl
theorem kw_2084 : (Cond.code ({ cls := "AnimationControllerModel", name := "target", desc := "()I" } : MethodName) prog_14_method_84_code (1 : Nat) (Option.some FieldType.int)) ∈ gW := gW_n 2084 (by decide +kernel) rfl
theorem kw_2085 : (Cond.methodLink "AnimationControllerLaw" (208 : Nat) ({ cls := "AnimationControllerModel", name := "transition", desc := "()I" } : MethodName)) ∈ gW := gW_n 2085 (by decide +kernel) rfl
theorem kw_2086 : (Cond.instanceMethod ({ cls := "AnimationControllerModel", name := "transition", desc := "()I" } : MethodName)) ∈ gW := gW_n 2086 (by decide +kernel) rfl
theorem kw_2087 : (Cond.selects "AnimationControllerModel" ({ cls := "AnimationControllerModel", name := "transition", desc := "()I" } : MethodName) ({ cls := "AnimationControllerModel", name := "transition", desc := "()I" } : MethodName)) ∈ gW := gW_n 2087 (by decide +kernel) rfl
theorem kw_2088 : (Cond.code ({ cls := "AnimationControllerModel", name := "transition", desc := "()I" } : MethodName) prog_14_method_85_code (1 : Nat) (Option.some FieldType.int)) ∈ gW := gW_n 2088 (by decide +kernel) rfl
theorem kw_2089 : (Cond.methodLink "AnimationControllerLaw" (212 : Nat) ({ cls := "AnimationControllerModel", name := "elapsed", desc := "()I" } : MethodName)) ∈ gW := gW_n 2089 (by decide +kernel) rfl
theorem kw_2090 : (Cond.instanceMethod ({ cls := "AnimationControllerModel", name := "elapsed", desc := "()I" } : MethodName)) ∈ gW := gW_n 2090 (by decide +kernel) rfl
theorem kw_2091 : (Cond.selects "AnimationControllerModel" ({ cls := "AnimationControllerModel", name := "elapsed", desc := "()I" } : MethodName) ({ cls := "AnimationControllerModel", name := "elapsed", desc := "()I" } : MethodName)) ∈ gW := gW_n 2091 (by decide +kernel) rfl
theorem kw_2092 : (Cond.code ({ cls := "AnimationControllerModel", name := "elapsed", desc := "()I" } : MethodName) prog_14_method_86_code (1 : Nat) (Option.some FieldType.int)) ∈ gW := gW_n 2092 (by decide +kernel) rfl
theorem kw_2093 : (Cond.methodLink "AnimationControllerLaw" (217 : Nat) ({ cls := "AnimationControllerModel", name := "isFrozen", desc := "()Z" } : MethodName)) ∈ gW := gW_n 2093 (by decide +kernel) rfl
theorem kw_2094 : (Cond.instanceMethod ({ cls := "AnimationControllerModel", name := "isFrozen", desc := "()Z" } : MethodName)) ∈ gW := gW_n 2094 (by decide +kernel) rfl
theorem kw_2095 : (Cond.selects "AnimationControllerModel" ({ cls := "AnimationControllerModel", name := "isFrozen", desc := "()Z" } : MethodName) ({ cls := "AnimationControllerModel", name := "isFrozen", desc := "()Z" } : MethodName)) ∈ gW := gW_n 2095 (by decide +kernel) rfl
theorem kw_2096 : (Cond.code ({ cls := "AnimationControllerModel", name := "isFrozen", desc := "()Z" } : MethodName) prog_14_method_87_code (1 : Nat) (Option.some FieldType.boolean)) ∈ gW := gW_n 2096 (by decide +kernel) rfl
theorem kw_2097 : (Cond.methodLink "AnimationControllerLaw" (221 : Nat) ({ cls := "AnimationControllerModel", name := "progress", desc := "(Z)J" } : MethodName)) ∈ gW := gW_n 2097 (by decide +kernel) rfl
theorem kw_2098 : (Cond.instanceMethod ({ cls := "AnimationControllerModel", name := "progress", desc := "(Z)J" } : MethodName)) ∈ gW := gW_n 2098 (by decide +kernel) rfl
theorem kw_2099 : (Cond.selects "AnimationControllerModel" ({ cls := "AnimationControllerModel", name := "progress", desc := "(Z)J" } : MethodName) ({ cls := "AnimationControllerModel", name := "progress", desc := "(Z)J" } : MethodName)) ∈ gW := gW_n 2099 (by decide +kernel) rfl
theorem kw_2100 : (Cond.code ({ cls := "AnimationControllerModel", name := "progress", desc := "(Z)J" } : MethodName) prog_14_method_88_code (2 : Nat) (Option.some FieldType.long)) ∈ gW := gW_n 2100 (by decide +kernel) rfl
theorem kw_2101 : (Cond.methodLink "AnimationControllerLaw" (224 : Nat) ({ cls := "AnimationControllerModel", name := "stateLength", desc := "(I)I" } : MethodName)) ∈ gW := gW_n 2101 (by decide +kernel) rfl
theorem kw_2102 : (Cond.instanceMethod ({ cls := "AnimationControllerModel", name := "stateLength", desc := "(I)I" } : MethodName)) ∈ gW := gW_n 2102 (by decide +kernel) rfl
theorem kw_2103 : (Cond.selects "AnimationControllerModel" ({ cls := "AnimationControllerModel", name := "stateLength", desc := "(I)I" } : MethodName) ({ cls := "AnimationControllerModel", name := "stateLength", desc := "(I)I" } : MethodName)) ∈ gW := gW_n 2103 (by decide +kernel) rfl
theorem kw_2104 : (Cond.code ({ cls := "AnimationControllerModel", name := "stateLength", desc := "(I)I" } : MethodName) prog_14_method_89_code (2 : Nat) (Option.some FieldType.int)) ∈ gW := gW_n 2104 (by decide +kernel) rfl
theorem kw_2105 : (Cond.methodLink "AnimationControllerLaw" (227 : Nat) ({ cls := "AnimationControllerModel", name := "partWeight", desc := "(II)I" } : MethodName)) ∈ gW := gW_n 2105 (by decide +kernel) rfl
theorem kw_2106 : (Cond.instanceMethod ({ cls := "AnimationControllerModel", name := "partWeight", desc := "(II)I" } : MethodName)) ∈ gW := gW_n 2106 (by decide +kernel) rfl
theorem kw_2107 : (Cond.selects "AnimationControllerModel" ({ cls := "AnimationControllerModel", name := "partWeight", desc := "(II)I" } : MethodName) ({ cls := "AnimationControllerModel", name := "partWeight", desc := "(II)I" } : MethodName)) ∈ gW := gW_n 2107 (by decide +kernel) rfl
theorem kw_2108 : (Cond.code ({ cls := "AnimationControllerModel", name := "partWeight", desc := "(II)I" } : MethodName) prog_14_method_90_code (3 : Nat) (Option.some FieldType.int)) ∈ gW := gW_n 2108 (by decide +kernel) rfl
theorem kw_2109 : (Cond.methodLink "AnimationControllerLaw" (247 : Nat) ({ cls := "AnimationControllerModel", name := "fired", desc := "()I" } : MethodName)) ∈ gW := gW_n 2109 (by decide +kernel) rfl
theorem kw_2110 : (Cond.instanceMethod ({ cls := "AnimationControllerModel", name := "fired", desc := "()I" } : MethodName)) ∈ gW := gW_n 2110 (by decide +kernel) rfl
theorem kw_2111 : (Cond.selects "AnimationControllerModel" ({ cls := "AnimationControllerModel", name := "fired", desc := "()I" } : MethodName) ({ cls := "AnimationControllerModel", name := "fired", desc := "()I" } : MethodName)) ∈ gW := gW_n 2111 (by decide +kernel) rfl
theorem kw_2112 : (Cond.code ({ cls := "AnimationControllerModel", name := "fired", desc := "()I" } : MethodName) prog_14_method_91_code (1 : Nat) (Option.some FieldType.int)) ∈ gW := gW_n 2112 (by decide +kernel) rfl
theorem kw_2113 : (Cond.methodLink "AnimationControllerLaw" (250 : Nat) ({ cls := "AnimationControllerModel", name := "event", desc := "(II)I" } : MethodName)) ∈ gW := gW_n 2113 (by decide +kernel) rfl
theorem kw_2114 : (Cond.instanceMethod ({ cls := "AnimationControllerModel", name := "event", desc := "(II)I" } : MethodName)) ∈ gW := gW_n 2114 (by decide +kernel) rfl
theorem kw_2115 : (Cond.selects "AnimationControllerModel" ({ cls := "AnimationControllerModel", name := "event", desc := "(II)I" } : MethodName) ({ cls := "AnimationControllerModel", name := "event", desc := "(II)I" } : MethodName)) ∈ gW := gW_n 2115 (by decide +kernel) rfl
theorem kw_2116 : (Cond.code ({ cls := "AnimationControllerModel", name := "event", desc := "(II)I" } : MethodName) prog_14_method_92_code (3 : Nat) (Option.some FieldType.int)) ∈ gW := gW_n 2116 (by decide +kernel) rfl
theorem kw_2117 : (Cond.methodLink "AnimationControllerLaw" (253 : Nat) ({ cls := "AnimationControllerModel", name := "foretell", desc := "(I)I" } : MethodName)) ∈ gW := gW_n 2117 (by decide +kernel) rfl
theorem kw_2118 : (Cond.instanceMethod ({ cls := "AnimationControllerModel", name := "foretell", desc := "(I)I" } : MethodName)) ∈ gW := gW_n 2118 (by decide +kernel) rfl
theorem kw_2119 : (Cond.selects "AnimationControllerModel" ({ cls := "AnimationControllerModel", name := "foretell", desc := "(I)I" } : MethodName) ({ cls := "AnimationControllerModel", name := "foretell", desc := "(I)I" } : MethodName)) ∈ gW := gW_n 2119 (by decide +kernel) rfl
theorem kw_2120 : (Cond.code ({ cls := "AnimationControllerModel", name := "foretell", desc := "(I)I" } : MethodName) prog_14_method_94_code (3 : Nat) (Option.some FieldType.int)) ∈ gW := gW_n 2120 (by decide +kernel) rfl
theorem kw_2125 : (Cond.methodLink "AnimationControllerLaw" (256 : Nat) ({ cls := "AnimationControllerModel", name := "ticksTo", desc := "(I)I" } : MethodName)) ∈ gW := gW_n 2125 (by decide +kernel) rfl
theorem kw_2126 : (Cond.instanceMethod ({ cls := "AnimationControllerModel", name := "ticksTo", desc := "(I)I" } : MethodName)) ∈ gW := gW_n 2126 (by decide +kernel) rfl
theorem kw_2127 : (Cond.selects "AnimationControllerModel" ({ cls := "AnimationControllerModel", name := "ticksTo", desc := "(I)I" } : MethodName) ({ cls := "AnimationControllerModel", name := "ticksTo", desc := "(I)I" } : MethodName)) ∈ gW := gW_n 2127 (by decide +kernel) rfl
theorem kw_2128 : (Cond.code ({ cls := "AnimationControllerModel", name := "ticksTo", desc := "(I)I" } : MethodName) prog_14_method_95_code (3 : Nat) (Option.some FieldType.int)) ∈ gW := gW_n 2128 (by decide +kernel) rfl
theorem kw_2129 : (Cond.methodLink "AnimationControllerLaw" (259 : Nat) ({ cls := "AnimationControllerModel", name := "steps", desc := "(II)I" } : MethodName)) ∈ gW := gW_n 2129 (by decide +kernel) rfl
theorem kw_2130 : (Cond.instanceMethod ({ cls := "AnimationControllerModel", name := "steps", desc := "(II)I" } : MethodName)) ∈ gW := gW_n 2130 (by decide +kernel) rfl
theorem kw_2131 : (Cond.selects "AnimationControllerModel" ({ cls := "AnimationControllerModel", name := "steps", desc := "(II)I" } : MethodName) ({ cls := "AnimationControllerModel", name := "steps", desc := "(II)I" } : MethodName)) ∈ gW := gW_n 2131 (by decide +kernel) rfl
theorem kw_2132 : (Cond.code ({ cls := "AnimationControllerModel", name := "steps", desc := "(II)I" } : MethodName) prog_14_method_96_code (7 : Nat) (Option.some FieldType.int)) ∈ gW := gW_n 2132 (by decide +kernel) rfl
theorem kw_2133 : (Cond.methodLink "AnimationControllerLaw" (262 : Nat) ({ cls := "AnimationControllerModel", name := "keep", desc := "(I)I" } : MethodName)) ∈ gW := gW_n 2133 (by decide +kernel) rfl
theorem kw_2134 : (Cond.instanceMethod ({ cls := "AnimationControllerModel", name := "keep", desc := "(I)I" } : MethodName)) ∈ gW := gW_n 2134 (by decide +kernel) rfl
theorem kw_2135 : (Cond.selects "AnimationControllerModel" ({ cls := "AnimationControllerModel", name := "keep", desc := "(I)I" } : MethodName) ({ cls := "AnimationControllerModel", name := "keep", desc := "(I)I" } : MethodName)) ∈ gW := gW_n 2135 (by decide +kernel) rfl
theorem kw_2136 : (Cond.code ({ cls := "AnimationControllerModel", name := "keep", desc := "(I)I" } : MethodName) prog_14_method_97_code (2 : Nat) (Option.some FieldType.int)) ∈ gW := gW_n 2136 (by decide +kernel) rfl
theorem kw_2137 : (Cond.methodLink "AnimationControllerLaw" (265 : Nat) ({ cls := "AnimationControllerModel", name := "restore", desc := "(I)I" } : MethodName)) ∈ gW := gW_n 2137 (by decide +kernel) rfl
theorem kw_2138 : (Cond.instanceMethod ({ cls := "AnimationControllerModel", name := "restore", desc := "(I)I" } : MethodName)) ∈ gW := gW_n 2138 (by decide +kernel) rfl
theorem kw_2139 : (Cond.selects "AnimationControllerModel" ({ cls := "AnimationControllerModel", name := "restore", desc := "(I)I" } : MethodName) ({ cls := "AnimationControllerModel", name := "restore", desc := "(I)I" } : MethodName)) ∈ gW := gW_n 2139 (by decide +kernel) rfl
theorem kw_2140 : (Cond.code ({ cls := "AnimationControllerModel", name := "restore", desc := "(I)I" } : MethodName) prog_14_method_98_code (3 : Nat) (Option.some FieldType.int)) ∈ gW := gW_n 2140 (by decide +kernel) rfl
theorem kw_2141 : (Cond.methodLink "AnimationControllerLaw" (268 : Nat) ({ cls := "AnimationControllerModel", name := "count", desc := "(I)I" } : MethodName)) ∈ gW := gW_n 2141 (by decide +kernel) rfl
theorem kw_2142 : (Cond.instanceMethod ({ cls := "AnimationControllerModel", name := "count", desc := "(I)I" } : MethodName)) ∈ gW := gW_n 2142 (by decide +kernel) rfl
theorem kw_2143 : (Cond.selects "AnimationControllerModel" ({ cls := "AnimationControllerModel", name := "count", desc := "(I)I" } : MethodName) ({ cls := "AnimationControllerModel", name := "count", desc := "(I)I" } : MethodName)) ∈ gW := gW_n 2143 (by decide +kernel) rfl
theorem kw_2144 : (Cond.code ({ cls := "AnimationControllerModel", name := "count", desc := "(I)I" } : MethodName) prog_14_method_99_code (2 : Nat) (Option.some FieldType.int)) ∈ gW := gW_n 2144 (by decide +kernel) rfl
theorem kw_457 : (Cond.methodLink "AnimationControllerLaw" (179 : Nat) ({ cls := "AnimationController", name := "clearText", desc := "()I" } : MethodName)) ∈ gW := gW_n 457 (by decide +kernel) rfl
theorem kw_458 : (Cond.instanceMethod ({ cls := "AnimationController", name := "clearText", desc := "()I" } : MethodName)) ∈ gW := gW_n 458 (by decide +kernel) rfl
theorem kw_459 : (Cond.selects "AnimationController" ({ cls := "AnimationController", name := "clearText", desc := "()I" } : MethodName) ({ cls := "AnimationController", name := "clearText", desc := "()I" } : MethodName)) ∈ gW := gW_n 459 (by decide +kernel) rfl
theorem kw_460 : (Cond.code ({ cls := "AnimationController", name := "clearText", desc := "()I" } : MethodName) prog_1_method_17_code (2 : Nat) (Option.some FieldType.int)) ∈ gW := gW_n 460 (by decide +kernel) rfl
theorem kw_461 : (Cond.methodLink "AnimationControllerLaw" (183 : Nat) ({ cls := "AnimationController", name := "fault", desc := "()I" } : MethodName)) ∈ gW := gW_n 461 (by decide +kernel) rfl
theorem kw_462 : (Cond.instanceMethod ({ cls := "AnimationController", name := "fault", desc := "()I" } : MethodName)) ∈ gW := gW_n 462 (by decide +kernel) rfl
theorem kw_463 : (Cond.selects "AnimationController" ({ cls := "AnimationController", name := "fault", desc := "()I" } : MethodName) ({ cls := "AnimationController", name := "fault", desc := "()I" } : MethodName)) ∈ gW := gW_n 463 (by decide +kernel) rfl
theorem kw_464 : (Cond.code ({ cls := "AnimationController", name := "fault", desc := "()I" } : MethodName) prog_1_method_18_code (1 : Nat) (Option.some FieldType.int)) ∈ gW := gW_n 464 (by decide +kernel) rfl
theorem kw_617 : (Cond.methodLink "AnimationControllerLaw" (194 : Nat) ({ cls := "AnimationController", name := "reset", desc := "()I" } : MethodName)) ∈ gW := gW_n 617 (by decide +kernel) rfl
theorem kw_618 : (Cond.instanceMethod ({ cls := "AnimationController", name := "reset", desc := "()I" } : MethodName)) ∈ gW := gW_n 618 (by decide +kernel) rfl
theorem kw_619 : (Cond.selects "AnimationController" ({ cls := "AnimationController", name := "reset", desc := "()I" } : MethodName) ({ cls := "AnimationController", name := "reset", desc := "()I" } : MethodName)) ∈ gW := gW_n 619 (by decide +kernel) rfl
theorem kw_620 : (Cond.code ({ cls := "AnimationController", name := "reset", desc := "()I" } : MethodName) prog_1_method_21_code (2 : Nat) (Option.some FieldType.int)) ∈ gW := gW_n 620 (by decide +kernel) rfl
theorem kw_647 : (Cond.methodLink "AnimationControllerLaw" (201 : Nat) ({ cls := "AnimationController", name := "target", desc := "()I" } : MethodName)) ∈ gW := gW_n 647 (by decide +kernel) rfl
theorem kw_648 : (Cond.instanceMethod ({ cls := "AnimationController", name := "target", desc := "()I" } : MethodName)) ∈ gW := gW_n 648 (by decide +kernel) rfl
theorem kw_649 : (Cond.selects "AnimationController" ({ cls := "AnimationController", name := "target", desc := "()I" } : MethodName) ({ cls := "AnimationController", name := "target", desc := "()I" } : MethodName)) ∈ gW := gW_n 649 (by decide +kernel) rfl
theorem kw_650 : (Cond.code ({ cls := "AnimationController", name := "target", desc := "()I" } : MethodName) prog_1_method_23_code (1 : Nat) (Option.some FieldType.int)) ∈ gW := gW_n 650 (by decide +kernel) rfl
theorem kw_651 : (Cond.methodLink "AnimationControllerLaw" (205 : Nat) ({ cls := "AnimationController", name := "transition", desc := "()I" } : MethodName)) ∈ gW := gW_n 651 (by decide +kernel) rfl
theorem kw_652 : (Cond.instanceMethod ({ cls := "AnimationController", name := "transition", desc := "()I" } : MethodName)) ∈ gW := gW_n 652 (by decide +kernel) rfl
theorem kw_653 : (Cond.selects "AnimationController" ({ cls := "AnimationController", name := "transition", desc := "()I" } : MethodName) ({ cls := "AnimationController", name := "transition", desc := "()I" } : MethodName)) ∈ gW := gW_n 653 (by decide +kernel) rfl
theorem kw_654 : (Cond.code ({ cls := "AnimationController", name := "transition", desc := "()I" } : MethodName) prog_1_method_24_code (1 : Nat) (Option.some FieldType.int)) ∈ gW := gW_n 654 (by decide +kernel) rfl
theorem kw_655 : (Cond.methodLink "AnimationControllerLaw" (209 : Nat) ({ cls := "AnimationController", name := "elapsed", desc := "()I" } : MethodName)) ∈ gW := gW_n 655 (by decide +kernel) rfl
theorem kw_656 : (Cond.instanceMethod ({ cls := "AnimationController", name := "elapsed", desc := "()I" } : MethodName)) ∈ gW := gW_n 656 (by decide +kernel) rfl
theorem kw_657 : (Cond.selects "AnimationController" ({ cls := "AnimationController", name := "elapsed", desc := "()I" } : MethodName) ({ cls := "AnimationController", name := "elapsed", desc := "()I" } : MethodName)) ∈ gW := gW_n 657 (by decide +kernel) rfl
theorem kw_658 : (Cond.code ({ cls := "AnimationController", name := "elapsed", desc := "()I" } : MethodName) prog_1_method_25_code (1 : Nat) (Option.some FieldType.int)) ∈ gW := gW_n 658 (by decide +kernel) rfl
theorem kw_659 : (Cond.methodLink "AnimationControllerLaw" (213 : Nat) ({ cls := "AnimationController", name := "isFrozen", desc := "()Z" } : MethodName)) ∈ gW := gW_n 659 (by decide +kernel) rfl
theorem kw_660 : (Cond.instanceMethod ({ cls := "AnimationController", name := "isFrozen", desc := "()Z" } : MethodName)) ∈ gW := gW_n 660 (by decide +kernel) rfl
theorem kw_661 : (Cond.selects "AnimationController" ({ cls := "AnimationController", name := "isFrozen", desc := "()Z" } : MethodName) ({ cls := "AnimationController", name := "isFrozen", desc := "()Z" } : MethodName)) ∈ gW := gW_n 661 (by decide +kernel) rfl
theorem kw_662 : (Cond.code ({ cls := "AnimationController", name := "isFrozen", desc := "()Z" } : MethodName) prog_1_method_26_code (1 : Nat) (Option.some FieldType.boolean)) ∈ gW := gW_n 662 (by decide +kernel) rfl
theorem kw_663 : (Cond.methodLink "AnimationControllerLaw" (231 : Nat) ({ cls := "AnimationController", name := "poseSize", desc := "()I" } : MethodName)) ∈ gW := gW_n 663 (by decide +kernel) rfl
theorem kw_664 : (Cond.instanceMethod ({ cls := "AnimationController", name := "poseSize", desc := "()I" } : MethodName)) ∈ gW := gW_n 664 (by decide +kernel) rfl
theorem kw_665 : (Cond.selects "AnimationController" ({ cls := "AnimationController", name := "poseSize", desc := "()I" } : MethodName) ({ cls := "AnimationController", name := "poseSize", desc := "()I" } : MethodName)) ∈ gW := gW_n 665 (by decide +kernel) rfl
theorem kw_666 : (Cond.code ({ cls := "AnimationController", name := "poseSize", desc := "()I" } : MethodName) prog_1_method_31_code (1 : Nat) (Option.some FieldType.int)) ∈ gW := gW_n 666 (by decide +kernel) rfl
theorem kw_724 : (Cond.methodLink "AnimationControllerLaw" (244 : Nat) ({ cls := "AnimationController", name := "fired", desc := "()I" } : MethodName)) ∈ gW := gW_n 724 (by decide +kernel) rfl
theorem kw_725 : (Cond.instanceMethod ({ cls := "AnimationController", name := "fired", desc := "()I" } : MethodName)) ∈ gW := gW_n 725 (by decide +kernel) rfl
theorem kw_726 : (Cond.selects "AnimationController" ({ cls := "AnimationController", name := "fired", desc := "()I" } : MethodName) ({ cls := "AnimationController", name := "fired", desc := "()I" } : MethodName)) ∈ gW := gW_n 726 (by decide +kernel) rfl
theorem kw_727 : (Cond.code ({ cls := "AnimationController", name := "fired", desc := "()I" } : MethodName) prog_1_method_35_code (1 : Nat) (Option.some FieldType.int)) ∈ gW := gW_n 727 (by decide +kernel) rfl
theorem kw_728 : (Cond.methodLink "AnimationControllerLaw" (123 : Nat) ({ cls := "AnimationControllerLaw", name := "addParameter", desc := "(LAnimationController;I[J)I" } : MethodName)) ∈ gW := gW_n 728 (by decide +kernel) rfl
theorem kw_729 : (Cond.static ({ cls := "AnimationControllerLaw", name := "addParameter", desc := "(LAnimationController;I[J)I" } : MethodName)) ∈ gW := gW_n 729 (by decide +kernel) rfl
theorem kw_730 : (Cond.codeWith ({ cls := "AnimationControllerLaw", name := "addParameter", desc := "(LAnimationController;I[J)I" } : MethodName) method_3_code (4 : Nat) (Option.some FieldType.int) [((0 : Nat), (9 : Nat), (12 : Nat), (13 : Nat)), ((0 : Nat), (9 : Nat), (15 : Nat), (15 : Nat))]) ∈ gW := gW_n 730 (by decide +kernel) rfl
theorem kw_731 : (Cond.classLink "AnimationControllerLaw" (13 : Nat) "java/lang/IllegalArgumentException") ∈ gW := gW_n 731 (by decide +kernel) rfl
theorem kw_732 : (Cond.classLink "AnimationControllerLaw" (15 : Nat) "java/lang/IllegalStateException") ∈ gW := gW_n 732 (by decide +kernel) rfl
theorem kw_733 : (Cond.methodLink "AnimationControllerLaw" (7 : Nat) ({ cls := "AnimationController", name := "addParameter", desc := "(I)I" } : MethodName)) ∈ gW := gW_n 733 (by decide +kernel) rfl
theorem kw_734 : (Cond.instanceMethod ({ cls := "AnimationController", name := "addParameter", desc := "(I)I" } : MethodName)) ∈ gW := gW_n 734 (by decide +kernel) rfl
theorem kw_735 : (Cond.selects "AnimationController" ({ cls := "AnimationController", name := "addParameter", desc := "(I)I" } : MethodName) ({ cls := "AnimationController", name := "addParameter", desc := "(I)I" } : MethodName)) ∈ gW := gW_n 735 (by decide +kernel) rfl
theorem kw_736 : (Cond.code ({ cls := "AnimationController", name := "addParameter", desc := "(I)I" } : MethodName) prog_1_method_2_code (2 : Nat) (Option.some FieldType.int)) ∈ gW := gW_n 736 (by decide +kernel) rfl
theorem kw_821 : (Cond.methodLink "AnimationControllerLaw" (132 : Nat) ({ cls := "AnimationControllerLaw", name := "set", desc := "(LAnimationController;II[J)I" } : MethodName)) ∈ gW := gW_n 821 (by decide +kernel) rfl
theorem kw_822 : (Cond.static ({ cls := "AnimationControllerLaw", name := "set", desc := "(LAnimationController;II[J)I" } : MethodName)) ∈ gW := gW_n 822 (by decide +kernel) rfl
theorem kw_823 : (Cond.codeWith ({ cls := "AnimationControllerLaw", name := "set", desc := "(LAnimationController;II[J)I" } : MethodName) method_4_code (5 : Nat) (Option.some FieldType.int) [((0 : Nat), (10 : Nat), (13 : Nat), (21 : Nat)), ((0 : Nat), (10 : Nat), (17 : Nat), (13 : Nat))]) ∈ gW := gW_n 823 (by decide +kernel) rfl
theorem kw_824 : (Cond.classLink "AnimationControllerLaw" (21 : Nat) "java/lang/IndexOutOfBoundsException") ∈ gW := gW_n 824 (by decide +kernel) rfl
theorem kw_825 : (Cond.methodLink "AnimationControllerLaw" (17 : Nat) ({ cls := "AnimationController", name := "set", desc := "(II)I" } : MethodName)) ∈ gW := gW_n 825 (by decide +kernel) rfl
theorem kw_826 : (Cond.instanceMethod ({ cls := "AnimationController", name := "set", desc := "(II)I" } : MethodName)) ∈ gW := gW_n 826 (by decide +kernel) rfl
theorem kw_827 : (Cond.selects "AnimationController" ({ cls := "AnimationController", name := "set", desc := "(II)I" } : MethodName) ({ cls := "AnimationController", name := "set", desc := "(II)I" } : MethodName)) ∈ gW := gW_n 827 (by decide +kernel) rfl
theorem kw_828 : (Cond.code ({ cls := "AnimationController", name := "set", desc := "(II)I" } : MethodName) prog_1_method_3_code (4 : Nat) (Option.some FieldType.int)) ∈ gW := gW_n 828 (by decide +kernel) rfl
theorem kw_867 : (Cond.methodLink "AnimationControllerLaw" (136 : Nat) ({ cls := "AnimationControllerLaw", name := "value", desc := "(LAnimationController;I[J)I" } : MethodName)) ∈ gW := gW_n 867 (by decide +kernel) rfl
theorem kw_868 : (Cond.static ({ cls := "AnimationControllerLaw", name := "value", desc := "(LAnimationController;I[J)I" } : MethodName)) ∈ gW := gW_n 868 (by decide +kernel) rfl
theorem kw_869 : (Cond.codeWith ({ cls := "AnimationControllerLaw", name := "value", desc := "(LAnimationController;I[J)I" } : MethodName) method_5_code (4 : Nat) (Option.some FieldType.int) [((0 : Nat), (9 : Nat), (12 : Nat), (21 : Nat))]) ∈ gW := gW_n 869 (by decide +kernel) rfl
theorem kw_870 : (Cond.methodLink "AnimationControllerLaw" (23 : Nat) ({ cls := "AnimationController", name := "value", desc := "(I)I" } : MethodName)) ∈ gW := gW_n 870 (by decide +kernel) rfl
theorem kw_871 : (Cond.instanceMethod ({ cls := "AnimationController", name := "value", desc := "(I)I" } : MethodName)) ∈ gW := gW_n 871 (by decide +kernel) rfl
theorem kw_872 : (Cond.selects "AnimationController" ({ cls := "AnimationController", name := "value", desc := "(I)I" } : MethodName) ({ cls := "AnimationController", name := "value", desc := "(I)I" } : MethodName)) ∈ gW := gW_n 872 (by decide +kernel) rfl
theorem kw_873 : (Cond.code ({ cls := "AnimationController", name := "value", desc := "(I)I" } : MethodName) prog_1_method_4_code (2 : Nat) (Option.some FieldType.int)) ∈ gW := gW_n 873 (by decide +kernel) rfl
theorem kw_874 : (Cond.methodLink "AnimationControllerLaw" (139 : Nat) ({ cls := "AnimationControllerLaw", name := "addClip", desc := "(LAnimationController;I[J)I" } : MethodName)) ∈ gW := gW_n 874 (by decide +kernel) rfl
theorem kw_875 : (Cond.static ({ cls := "AnimationControllerLaw", name := "addClip", desc := "(LAnimationController;I[J)I" } : MethodName)) ∈ gW := gW_n 875 (by decide +kernel) rfl
theorem kw_876 : (Cond.codeWith ({ cls := "AnimationControllerLaw", name := "addClip", desc := "(LAnimationController;I[J)I" } : MethodName) method_6_code (4 : Nat) (Option.some FieldType.int) [((0 : Nat), (9 : Nat), (12 : Nat), (13 : Nat)), ((0 : Nat), (9 : Nat), (15 : Nat), (15 : Nat))]) ∈ gW := gW_n 876 (by decide +kernel) rfl
theorem kw_877 : (Cond.methodLink "AnimationControllerLaw" (26 : Nat) ({ cls := "AnimationController", name := "addClip", desc := "(I)I" } : MethodName)) ∈ gW := gW_n 877 (by decide +kernel) rfl
theorem kw_878 : (Cond.instanceMethod ({ cls := "AnimationController", name := "addClip", desc := "(I)I" } : MethodName)) ∈ gW := gW_n 878 (by decide +kernel) rfl
theorem kw_879 : (Cond.selects "AnimationController" ({ cls := "AnimationController", name := "addClip", desc := "(I)I" } : MethodName) ({ cls := "AnimationController", name := "addClip", desc := "(I)I" } : MethodName)) ∈ gW := gW_n 879 (by decide +kernel) rfl
theorem kw_880 : (Cond.code ({ cls := "AnimationController", name := "addClip", desc := "(I)I" } : MethodName) prog_1_method_5_code (2 : Nat) (Option.some FieldType.int)) ∈ gW := gW_n 880 (by decide +kernel) rfl
theorem kw_887 : (Cond.methodLink "AnimationControllerLaw" (142 : Nat) ({ cls := "AnimationControllerLaw", name := "addEvent", desc := "(LAnimationController;III[J)I" } : MethodName)) ∈ gW := gW_n 887 (by decide +kernel) rfl
theorem kw_888 : (Cond.static ({ cls := "AnimationControllerLaw", name := "addEvent", desc := "(LAnimationController;III[J)I" } : MethodName)) ∈ gW := gW_n 888 (by decide +kernel) rfl
theorem kw_889 : (Cond.codeWith ({ cls := "AnimationControllerLaw", name := "addEvent", desc := "(LAnimationController;III[J)I" } : MethodName) method_7_code (6 : Nat) (Option.some FieldType.int) [((0 : Nat), (12 : Nat), (15 : Nat), (21 : Nat)), ((0 : Nat), (12 : Nat), (19 : Nat), (13 : Nat)), ((0 : Nat), (12 : Nat), (23 : Nat), (15 : Nat))]) ∈ gW := gW_n 889 (by decide +kernel) rfl
theorem kw_890 : (Cond.methodLink "AnimationControllerLaw" (29 : Nat) ({ cls := "AnimationController", name := "addEvent", desc := "(III)I" } : MethodName)) ∈ gW := gW_n 890 (by decide +kernel) rfl
theorem kw_891 : (Cond.instanceMethod ({ cls := "AnimationController", name := "addEvent", desc := "(III)I" } : MethodName)) ∈ gW := gW_n 891 (by decide +kernel) rfl
theorem kw_892 : (Cond.selects "AnimationController" ({ cls := "AnimationController", name := "addEvent", desc := "(III)I" } : MethodName) ({ cls := "AnimationController", name := "addEvent", desc := "(III)I" } : MethodName)) ∈ gW := gW_n 892 (by decide +kernel) rfl
theorem kw_893 : (Cond.code ({ cls := "AnimationController", name := "addEvent", desc := "(III)I" } : MethodName) prog_1_method_6_code (5 : Nat) (Option.some FieldType.int)) ∈ gW := gW_n 893 (by decide +kernel) rfl
theorem kw_905 : (Cond.methodLink "AnimationControllerLaw" (146 : Nat) ({ cls := "AnimationControllerLaw", name := "addClipNode", desc := "(LAnimationController;I[J)I" } : MethodName)) ∈ gW := gW_n 905 (by decide +kernel) rfl
theorem kw_906 : (Cond.static ({ cls := "AnimationControllerLaw", name := "addClipNode", desc := "(LAnimationController;I[J)I" } : MethodName)) ∈ gW := gW_n 906 (by decide +kernel) rfl
theorem kw_907 : (Cond.codeWith ({ cls := "AnimationControllerLaw", name := "addClipNode", desc := "(LAnimationController;I[J)I" } : MethodName) method_8_code (4 : Nat) (Option.some FieldType.int) [((0 : Nat), (9 : Nat), (12 : Nat), (21 : Nat)), ((0 : Nat), (9 : Nat), (15 : Nat), (15 : Nat))]) ∈ gW := gW_n 907 (by decide +kernel) rfl
theorem kw_908 : (Cond.methodLink "AnimationControllerLaw" (33 : Nat) ({ cls := "AnimationController", name := "addClipNode", desc := "(I)I" } : MethodName)) ∈ gW := gW_n 908 (by decide +kernel) rfl
theorem kw_909 : (Cond.instanceMethod ({ cls := "AnimationController", name := "addClipNode", desc := "(I)I" } : MethodName)) ∈ gW := gW_n 909 (by decide +kernel) rfl
theorem kw_910 : (Cond.selects "AnimationController" ({ cls := "AnimationController", name := "addClipNode", desc := "(I)I" } : MethodName) ({ cls := "AnimationController", name := "addClipNode", desc := "(I)I" } : MethodName)) ∈ gW := gW_n 910 (by decide +kernel) rfl
theorem kw_911 : (Cond.code ({ cls := "AnimationController", name := "addClipNode", desc := "(I)I" } : MethodName) prog_1_method_7_code (3 : Nat) (Option.some FieldType.int)) ∈ gW := gW_n 911 (by decide +kernel) rfl
theorem kw_919 : (Cond.methodLink "AnimationControllerLaw" (149 : Nat) ({ cls := "AnimationControllerLaw", name := "addLine", desc := "(LAnimationController;I[J)I" } : MethodName)) ∈ gW := gW_n 919 (by decide +kernel) rfl
theorem kw_920 : (Cond.static ({ cls := "AnimationControllerLaw", name := "addLine", desc := "(LAnimationController;I[J)I" } : MethodName)) ∈ gW := gW_n 920 (by decide +kernel) rfl
theorem kw_921 : (Cond.codeWith ({ cls := "AnimationControllerLaw", name := "addLine", desc := "(LAnimationController;I[J)I" } : MethodName) method_9_code (4 : Nat) (Option.some FieldType.int) [((0 : Nat), (9 : Nat), (12 : Nat), (21 : Nat)), ((0 : Nat), (9 : Nat), (15 : Nat), (15 : Nat))]) ∈ gW := gW_n 921 (by decide +kernel) rfl
theorem kw_922 : (Cond.methodLink "AnimationControllerLaw" (36 : Nat) ({ cls := "AnimationController", name := "addLine", desc := "(I)I" } : MethodName)) ∈ gW := gW_n 922 (by decide +kernel) rfl
theorem kw_923 : (Cond.instanceMethod ({ cls := "AnimationController", name := "addLine", desc := "(I)I" } : MethodName)) ∈ gW := gW_n 923 (by decide +kernel) rfl
theorem kw_924 : (Cond.selects "AnimationController" ({ cls := "AnimationController", name := "addLine", desc := "(I)I" } : MethodName) ({ cls := "AnimationController", name := "addLine", desc := "(I)I" } : MethodName)) ∈ gW := gW_n 924 (by decide +kernel) rfl
theorem kw_925 : (Cond.code ({ cls := "AnimationController", name := "addLine", desc := "(I)I" } : MethodName) prog_1_method_8_code (2 : Nat) (Option.some FieldType.int)) ∈ gW := gW_n 925 (by decide +kernel) rfl
theorem kw_928 : (Cond.methodLink "AnimationControllerLaw" (152 : Nat) ({ cls := "AnimationControllerLaw", name := "addChild", desc := "(LAnimationController;III[J)I" } : MethodName)) ∈ gW := gW_n 928 (by decide +kernel) rfl
theorem kw_929 : (Cond.static ({ cls := "AnimationControllerLaw", name := "addChild", desc := "(LAnimationController;III[J)I" } : MethodName)) ∈ gW := gW_n 929 (by decide +kernel) rfl
theorem kw_930 : (Cond.codeWith ({ cls := "AnimationControllerLaw", name := "addChild", desc := "(LAnimationController;III[J)I" } : MethodName) method_10_code (6 : Nat) (Option.some FieldType.int) [((0 : Nat), (12 : Nat), (15 : Nat), (21 : Nat)), ((0 : Nat), (12 : Nat), (19 : Nat), (13 : Nat)), ((0 : Nat), (12 : Nat), (23 : Nat), (15 : Nat))]) ∈ gW := gW_n 930 (by decide +kernel) rfl
theorem kw_931 : (Cond.methodLink "AnimationControllerLaw" (39 : Nat) ({ cls := "AnimationController", name := "addChild", desc := "(III)I" } : MethodName)) ∈ gW := gW_n 931 (by decide +kernel) rfl
theorem kw_932 : (Cond.instanceMethod ({ cls := "AnimationController", name := "addChild", desc := "(III)I" } : MethodName)) ∈ gW := gW_n 932 (by decide +kernel) rfl
theorem kw_933 : (Cond.selects "AnimationController" ({ cls := "AnimationController", name := "addChild", desc := "(III)I" } : MethodName) ({ cls := "AnimationController", name := "addChild", desc := "(III)I" } : MethodName)) ∈ gW := gW_n 933 (by decide +kernel) rfl
theorem kw_934 : (Cond.code ({ cls := "AnimationController", name := "addChild", desc := "(III)I" } : MethodName) prog_1_method_9_code (6 : Nat) (Option.some FieldType.int)) ∈ gW := gW_n 934 (by decide +kernel) rfl
theorem gY_X11_addParameter : gYn yX11_addParameter 1 := ⟨by decide +kernel, by decide +kernel, by decide +kernel⟩
theorem lkL_7 : gLV RL 7 yX11_addParameter cX11_addParameter 2 (some FieldType.int) 1 := ⟨kw_733, kw_734, kw_735, kw_1, kw_736, gY_X11_addParameter⟩
theorem gY_X11_set : gYn yX11_set 2 := ⟨by decide +kernel, by decide +kernel, by decide +kernel⟩
theorem lkL_17 : gLV RL 17 yX11_set cX11_set 4 (some FieldType.int) 2 := ⟨kw_825, kw_826, kw_827, kw_1, kw_828, gY_X11_set⟩
theorem gY_X11_value : gYn yX11_value 1 := ⟨by decide +kernel, by decide +kernel, by decide +kernel⟩
theorem lkL_23 : gLV RL 23 yX11_value cX11_value 2 (some FieldType.int) 1 := ⟨kw_870, kw_871, kw_872, kw_1, kw_873, gY_X11_value⟩
theorem gY_X11_addClip : gYn yX11_addClip 1 := ⟨by decide +kernel, by decide +kernel, by decide +kernel⟩
theorem lkL_26 : gLV RL 26 yX11_addClip cX11_addClip 2 (some FieldType.int) 1 := ⟨kw_877, kw_878, kw_879, kw_1, kw_880, gY_X11_addClip⟩
theorem gY_X11_addEvent : gYn yX11_addEvent 3 := ⟨by decide +kernel, by decide +kernel, by decide +kernel⟩
theorem lkL_29 : gLV RL 29 yX11_addEvent cX11_addEvent 5 (some FieldType.int) 3 := ⟨kw_890, kw_891, kw_892, kw_1, kw_893, gY_X11_addEvent⟩
theorem gY_X11_addClipNode : gYn yX11_addClipNode 1 := ⟨by decide +kernel, by decide +kernel, by decide +kernel⟩
theorem lkL_33 : gLV RL 33 yX11_addClipNode cX11_addClipNode 3 (some FieldType.int) 1 := ⟨kw_908, kw_909, kw_910, kw_1, kw_911, gY_X11_addClipNode⟩
theorem gY_X11_addLine : gYn yX11_addLine 1 := ⟨by decide +kernel, by decide +kernel, by decide +kernel⟩
theorem lkL_36 : gLV RL 36 yX11_addLine cX11_addLine 2 (some FieldType.int) 1 := ⟨kw_922, kw_923, kw_924, kw_1, kw_925, gY_X11_addLine⟩
theorem gY_X11_addChild : gYn yX11_addChild 3 := ⟨by decide +kernel, by decide +kernel, by decide +kernel⟩
theorem lkL_39 : gLV RL 39 yX11_addChild cX11_addChild 6 (some FieldType.int) 3 := ⟨kw_931, kw_932, kw_933, kw_1, kw_934, gY_X11_addChild⟩
theorem gY_X11_addState : gYn yX11_addState 4 := ⟨by decide +kernel, by decide +kernel, by decide +kernel⟩
theorem lkL_42 : gLV RL 42 yX11_addState cX11_addState 7 (some FieldType.int) 4 := ⟨kw_1225, kw_1226, kw_1227, kw_1, kw_1228, gY_X11_addState⟩
theorem gY_X11_addTransition : gYn yX11_addTransition 3 := ⟨by decide +kernel, by decide +kernel, by decide +kernel⟩
theorem lkL_46 : gLV RL 46 yX11_addTransition cX11_addTransition 7 (some FieldType.int) 3 := ⟨kw_1235, kw_1236, kw_1237, kw_1, kw_1238, gY_X11_addTransition⟩
theorem gY_X11_setTiming : gYn yX11_setTiming 3 := ⟨by decide +kernel, by decide +kernel, by decide +kernel⟩
theorem lkL_49 : gLV RL 49 yX11_setTiming cX11_setTiming 6 (some FieldType.int) 3 := ⟨kw_1252, kw_1253, kw_1254, kw_1, kw_1255, gY_X11_setTiming⟩
theorem gY_X11_setInterruption : gYn yX11_setInterruption 3 := ⟨by decide +kernel, by decide +kernel, by decide +kernel⟩
theorem lkL_52 : gLV RL 52 yX11_setInterruption cX11_setInterruption 6 (some FieldType.int) 3 := ⟨kw_1266, kw_1267, kw_1268, kw_1, kw_1269, gY_X11_setInterruption⟩
theorem gY_X11_addCondition : gYn yX11_addCondition 4 := ⟨by decide +kernel, by decide +kernel, by decide +kernel⟩
theorem lkL_56 : gLV RL 56 yX11_addCondition cX11_addCondition 6 (some FieldType.int) 4 := ⟨kw_1274, kw_1275, kw_1276, kw_1, kw_1277, gY_X11_addCondition⟩
theorem gY_X11_setThreshold : gYn yX11_setThreshold 1 := ⟨by decide +kernel, by decide +kernel, by decide +kernel⟩
theorem lkL_60 : gLV RL 60 yX11_setThreshold cX11_setThreshold 3 (some FieldType.int) 1 := ⟨kw_1289, kw_1290, kw_1291, kw_1, kw_1292, gY_X11_setThreshold⟩
theorem gY_X11_type : gYn yX11_type 1 := ⟨by decide +kernel, by decide +kernel, by decide +kernel⟩
theorem lkL_63 : gLV RL 63 yX11_type cX11_type 2 (some FieldType.int) 1 := ⟨kw_1297, kw_1298, kw_1299, kw_1, kw_1300, gY_X11_type⟩
theorem gY_X11_load : gYn yX11_load 0 := ⟨by decide +kernel, by decide +kernel, by decide +kernel⟩
theorem lkL_66 : gLV RL 66 yX11_load cX11_load 2 (some FieldType.int) 0 := ⟨kw_1306, kw_1307, kw_1308, kw_1, kw_1309, gY_X11_load⟩
theorem gY_X11_tick : gYn yX11_tick 1 := ⟨by decide +kernel, by decide +kernel, by decide +kernel⟩
theorem lkL_70 : gLV RL 70 yX11_tick cX11_tick 4 (some FieldType.int) 1 := ⟨kw_1314, kw_1315, kw_1316, kw_1, kw_1317, gY_X11_tick⟩
theorem gY_X11_state : gYn yX11_state 0 := ⟨by decide +kernel, by decide +kernel, by decide +kernel⟩
theorem lkL_73 : gLV RL 73 yX11_state cX11_state 1 (some FieldType.int) 0 := ⟨kw_1452, kw_1453, kw_1454, kw_1, kw_1455, gY_X11_state⟩
theorem gY_X11_progress : gYn yX11_progress 1 := ⟨by decide +kernel, by decide +kernel, by decide +kernel⟩
theorem lkL_76 : gLV RL 76 yX11_progress cX11_progress 2 (some FieldType.long) 1 := ⟨kw_1459, kw_1460, kw_1461, kw_1, kw_1462, gY_X11_progress⟩
theorem gY_X11_stateLength : gYn yX11_stateLength 1 := ⟨by decide +kernel, by decide +kernel, by decide +kernel⟩
theorem lkL_80 : gLV RL 80 yX11_stateLength cX11_stateLength 2 (some FieldType.int) 1 := ⟨kw_1468, kw_1469, kw_1470, kw_1, kw_1471, gY_X11_stateLength⟩
theorem gY_X11_partWeight : gYn yX11_partWeight 2 := ⟨by decide +kernel, by decide +kernel, by decide +kernel⟩
theorem lkL_83 : gLV RL 83 yX11_partWeight cX11_partWeight 5 (some FieldType.int) 2 := ⟨kw_1476, kw_1477, kw_1478, kw_1, kw_1479, gY_X11_partWeight⟩
theorem gY_X11_blocked : gYn yX11_blocked 1 := ⟨by decide +kernel, by decide +kernel, by decide +kernel⟩
theorem lkL_86 : gLV RL 86 yX11_blocked cX11_blocked 3 (some FieldType.int) 1 := ⟨kw_1486, kw_1487, kw_1488, kw_1, kw_1489, gY_X11_blocked⟩
theorem gY_X11_poseClip : gYn yX11_poseClip 1 := ⟨by decide +kernel, by decide +kernel, by decide +kernel⟩
theorem lkL_89 : gLV RL 89 yX11_poseClip cX11_poseClip 3 (some FieldType.int) 1 := ⟨kw_1495, kw_1496, kw_1497, kw_1, kw_1498, gY_X11_poseClip⟩
theorem gY_X11_poseTime : gYn yX11_poseTime 1 := ⟨by decide +kernel, by decide +kernel, by decide +kernel⟩
theorem lkL_92 : gLV RL 92 yX11_poseTime cX11_poseTime 3 (some FieldType.int) 1 := ⟨kw_1503, kw_1504, kw_1505, kw_1, kw_1506, gY_X11_poseTime⟩
theorem gY_X11_poseWeight : gYn yX11_poseWeight 1 := ⟨by decide +kernel, by decide +kernel, by decide +kernel⟩
theorem lkL_95 : gLV RL 95 yX11_poseWeight cX11_poseWeight 3 (some FieldType.int) 1 := ⟨kw_1510, kw_1511, kw_1512, kw_1, kw_1513, gY_X11_poseWeight⟩
theorem gY_X11_event : gYn yX11_event 2 := ⟨by decide +kernel, by decide +kernel, by decide +kernel⟩
theorem lkL_98 : gLV RL 98 yX11_event cX11_event 3 (some FieldType.int) 2 := ⟨kw_1517, kw_1518, kw_1519, kw_1, kw_1520, gY_X11_event⟩
theorem gY_X11_foretell : gYn yX11_foretell 1 := ⟨by decide +kernel, by decide +kernel, by decide +kernel⟩
theorem lkL_101 : gLV RL 101 yX11_foretell cX11_foretell 3 (some FieldType.int) 1 := ⟨kw_1536, kw_1537, kw_1538, kw_1, kw_1539, gY_X11_foretell⟩
theorem gY_X11_ticksTo : gYn yX11_ticksTo 1 := ⟨by decide +kernel, by decide +kernel, by decide +kernel⟩
theorem lkL_104 : gLV RL 104 yX11_ticksTo cX11_ticksTo 4 (some FieldType.int) 1 := ⟨kw_1553, kw_1554, kw_1555, kw_1, kw_1556, gY_X11_ticksTo⟩
theorem gY_X11_steps : gYn yX11_steps 2 := ⟨by decide +kernel, by decide +kernel, by decide +kernel⟩
theorem lkL_107 : gLV RL 107 yX11_steps cX11_steps 6 (some FieldType.int) 2 := ⟨kw_1560, kw_1561, kw_1562, kw_1, kw_1563, gY_X11_steps⟩
theorem gY_X11_keep : gYn yX11_keep 1 := ⟨by decide +kernel, by decide +kernel, by decide +kernel⟩
theorem lkL_110 : gLV RL 110 yX11_keep cX11_keep 2 (some FieldType.int) 1 := ⟨kw_1579, kw_1580, kw_1581, kw_1, kw_1582, gY_X11_keep⟩
theorem gY_X11_restore : gYn yX11_restore 1 := ⟨by decide +kernel, by decide +kernel, by decide +kernel⟩
theorem lkL_113 : gLV RL 113 yX11_restore cX11_restore 2 (some FieldType.int) 1 := ⟨kw_1591, kw_1592, kw_1593, kw_1, kw_1594, gY_X11_restore⟩
theorem gY_X11_count : gYn yX11_count 1 := ⟨by decide +kernel, by decide +kernel, by decide +kernel⟩
theorem lkL_116 : gLV RL 116 yX11_count cX11_count 2 (some FieldType.int) 1 := ⟨kw_1599, kw_1600, kw_1601, kw_1, kw_1602, gY_X11_count⟩
theorem gY_X12_addParameter : gYn yX12_addParameter 1 := ⟨by decide +kernel, by decide +kernel, by decide +kernel⟩
theorem lkL_128 : gLV RL 128 yX12_addParameter cX12_addParameter 2 (some FieldType.int) 1 := ⟨kw_1741, kw_1742, kw_1743, kw_16, kw_1744, gY_X12_addParameter⟩
theorem gY_X12_thrown : gYn yX12_thrown 0 := ⟨by decide +kernel, by decide +kernel, by decide +kernel⟩
theorem lkL_129 : gLV RL 129 yX12_thrown cX12_thrown 1 (some FieldType.int) 0 := ⟨kw_1737, kw_1738, kw_1739, kw_16, kw_1740, gY_X12_thrown⟩
theorem gY_X12_set : gYn yX12_set 2 := ⟨by decide +kernel, by decide +kernel, by decide +kernel⟩
theorem lkL_135 : gLV RL 135 yX12_set cX12_set 5 (some FieldType.int) 2 := ⟨kw_1753, kw_1754, kw_1755, kw_16, kw_1756, gY_X12_set⟩
theorem gY_X12_value : gYn yX12_value 1 := ⟨by decide +kernel, by decide +kernel, by decide +kernel⟩
theorem lkL_138 : gLV RL 138 yX12_value cX12_value 2 (some FieldType.int) 1 := ⟨kw_1763, kw_1764, kw_1765, kw_16, kw_1766, gY_X12_value⟩
theorem gY_X12_addClip : gYn yX12_addClip 1 := ⟨by decide +kernel, by decide +kernel, by decide +kernel⟩
theorem lkL_141 : gLV RL 141 yX12_addClip cX12_addClip 2 (some FieldType.int) 1 := ⟨kw_1767, kw_1768, kw_1769, kw_16, kw_1770, gY_X12_addClip⟩
theorem gY_X12_addEvent : gYn yX12_addEvent 3 := ⟨by decide +kernel, by decide +kernel, by decide +kernel⟩
theorem lkL_145 : gLV RL 145 yX12_addEvent cX12_addEvent 5 (some FieldType.int) 3 := ⟨kw_1772, kw_1773, kw_1774, kw_16, kw_1775, gY_X12_addEvent⟩
theorem gY_X12_addClipNode : gYn yX12_addClipNode 1 := ⟨by decide +kernel, by decide +kernel, by decide +kernel⟩
theorem lkL_148 : gLV RL 148 yX12_addClipNode cX12_addClipNode 2 (some FieldType.int) 1 := ⟨kw_1781, kw_1782, kw_1783, kw_16, kw_1784, gY_X12_addClipNode⟩
theorem gY_X12_addLine : gYn yX12_addLine 1 := ⟨by decide +kernel, by decide +kernel, by decide +kernel⟩
theorem lkL_151 : gLV RL 151 yX12_addLine cX12_addLine 2 (some FieldType.int) 1 := ⟨kw_1785, kw_1786, kw_1787, kw_16, kw_1788, gY_X12_addLine⟩
theorem gY_X12_addChild : gYn yX12_addChild 3 := ⟨by decide +kernel, by decide +kernel, by decide +kernel⟩
theorem lkL_154 : gLV RL 154 yX12_addChild cX12_addChild 6 (some FieldType.int) 3 := ⟨kw_1789, kw_1790, kw_1791, kw_16, kw_1792, gY_X12_addChild⟩
theorem gY_X12_addState : gYn yX12_addState 4 := ⟨by decide +kernel, by decide +kernel, by decide +kernel⟩
theorem lkL_158 : gLV RL 158 yX12_addState cX12_addState 5 (some FieldType.int) 4 := ⟨kw_1805, kw_1806, kw_1807, kw_16, kw_1808, gY_X12_addState⟩
theorem gY_X12_addTransition : gYn yX12_addTransition 3 := ⟨by decide +kernel, by decide +kernel, by decide +kernel⟩
theorem lkL_161 : gLV RL 161 yX12_addTransition cX12_addTransition 4 (some FieldType.int) 3 := ⟨kw_1819, kw_1820, kw_1821, kw_16, kw_1822, gY_X12_addTransition⟩
theorem gY_X12_setTiming : gYn yX12_setTiming 3 := ⟨by decide +kernel, by decide +kernel, by decide +kernel⟩
theorem lkL_164 : gLV RL 164 yX12_setTiming cX12_setTiming 5 (some FieldType.int) 3 := ⟨kw_1832, kw_1833, kw_1834, kw_16, kw_1835, gY_X12_setTiming⟩
theorem gY_X12_setInterruption : gYn yX12_setInterruption 3 := ⟨by decide +kernel, by decide +kernel, by decide +kernel⟩
theorem lkL_168 : gLV RL 168 yX12_setInterruption cX12_setInterruption 5 (some FieldType.int) 3 := ⟨kw_1846, kw_1847, kw_1848, kw_16, kw_1849, gY_X12_setInterruption⟩
theorem gY_X12_addCondition : gYn yX12_addCondition 4 := ⟨by decide +kernel, by decide +kernel, by decide +kernel⟩
theorem lkL_172 : gLV RL 172 yX12_addCondition cX12_addCondition 7 (some FieldType.int) 4 := ⟨kw_1851, kw_1852, kw_1853, kw_16, kw_1854, gY_X12_addCondition⟩
theorem gY_X12_setThreshold : gYn yX12_setThreshold 1 := ⟨by decide +kernel, by decide +kernel, by decide +kernel⟩
theorem lkL_175 : gLV RL 175 yX12_setThreshold cX12_setThreshold 3 (some FieldType.int) 1 := ⟨kw_1859, kw_1860, kw_1861, kw_16, kw_1862, gY_X12_setThreshold⟩
theorem gY_X12_type : gYn yX12_type 1 := ⟨by decide +kernel, by decide +kernel, by decide +kernel⟩
theorem lkL_178 : gLV RL 178 yX12_type cX12_type 2 (some FieldType.int) 1 := ⟨kw_1863, kw_1864, kw_1865, kw_16, kw_1866, gY_X12_type⟩
theorem gY_X11_clearText : gYn yX11_clearText 0 := ⟨by decide +kernel, by decide +kernel, by decide +kernel⟩
theorem lkL_179 : gLV RL 179 yX11_clearText cX11_clearText 2 (some FieldType.int) 0 := ⟨kw_457, kw_458, kw_459, kw_1, kw_460, gY_X11_clearText⟩
theorem gY_X12_clearText : gYn yX12_clearText 0 := ⟨by decide +kernel, by decide +kernel, by decide +kernel⟩
theorem lkL_182 : gLV RL 182 yX12_clearText cX12_clearText 2 (some FieldType.int) 0 := ⟨kw_1868, kw_1869, kw_1870, kw_16, kw_1871, gY_X12_clearText⟩
theorem gY_X11_fault : gYn yX11_fault 0 := ⟨by decide +kernel, by decide +kernel, by decide +kernel⟩
theorem lkL_183 : gLV RL 183 yX11_fault cX11_fault 1 (some FieldType.int) 0 := ⟨kw_461, kw_462, kw_463, kw_1, kw_464, gY_X11_fault⟩
theorem gY_X12_fault : gYn yX12_fault 0 := ⟨by decide +kernel, by decide +kernel, by decide +kernel⟩
theorem lkL_186 : gLV RL 186 yX12_fault cX12_fault 1 (some FieldType.int) 0 := ⟨kw_1872, kw_1873, kw_1874, kw_16, kw_1875, gY_X12_fault⟩
theorem gY_X12_load : gYn yX12_load 0 := ⟨by decide +kernel, by decide +kernel, by decide +kernel⟩
theorem lkL_190 : gLV RL 190 yX12_load cX12_load 1 (some FieldType.int) 0 := ⟨kw_1918, kw_1919, kw_1920, kw_16, kw_1921, gY_X12_load⟩
theorem gY_X12_tick : gYn yX12_tick 1 := ⟨by decide +kernel, by decide +kernel, by decide +kernel⟩
theorem lkL_193 : gLV RL 193 yX12_tick cX12_tick 4 (some FieldType.int) 1 := ⟨kw_2008, kw_2009, kw_2010, kw_16, kw_2011, gY_X12_tick⟩
theorem gY_X11_reset : gYn yX11_reset 0 := ⟨by decide +kernel, by decide +kernel, by decide +kernel⟩
theorem lkL_194 : gLV RL 194 yX11_reset cX11_reset 2 (some FieldType.int) 0 := ⟨kw_617, kw_618, kw_619, kw_1, kw_620, gY_X11_reset⟩
theorem gY_X12_reset : gYn yX12_reset 0 := ⟨by decide +kernel, by decide +kernel, by decide +kernel⟩
theorem lkL_197 : gLV RL 197 yX12_reset cX12_reset 3 (some FieldType.int) 0 := ⟨kw_2073, kw_2074, kw_2075, kw_16, kw_2076, gY_X12_reset⟩
theorem gY_X12_state : gYn yX12_state 0 := ⟨by decide +kernel, by decide +kernel, by decide +kernel⟩
theorem lkL_200 : gLV RL 200 yX12_state cX12_state 1 (some FieldType.int) 0 := ⟨kw_2077, kw_2078, kw_2079, kw_16, kw_2080, gY_X12_state⟩
theorem gY_X11_target : gYn yX11_target 0 := ⟨by decide +kernel, by decide +kernel, by decide +kernel⟩
theorem lkL_201 : gLV RL 201 yX11_target cX11_target 1 (some FieldType.int) 0 := ⟨kw_647, kw_648, kw_649, kw_1, kw_650, gY_X11_target⟩
theorem gY_X12_target : gYn yX12_target 0 := ⟨by decide +kernel, by decide +kernel, by decide +kernel⟩
theorem lkL_204 : gLV RL 204 yX12_target cX12_target 1 (some FieldType.int) 0 := ⟨kw_2081, kw_2082, kw_2083, kw_16, kw_2084, gY_X12_target⟩
theorem gY_X11_transition : gYn yX11_transition 0 := ⟨by decide +kernel, by decide +kernel, by decide +kernel⟩
theorem lkL_205 : gLV RL 205 yX11_transition cX11_transition 1 (some FieldType.int) 0 := ⟨kw_651, kw_652, kw_653, kw_1, kw_654, gY_X11_transition⟩
theorem gY_X12_transition : gYn yX12_transition 0 := ⟨by decide +kernel, by decide +kernel, by decide +kernel⟩
theorem lkL_208 : gLV RL 208 yX12_transition cX12_transition 1 (some FieldType.int) 0 := ⟨kw_2085, kw_2086, kw_2087, kw_16, kw_2088, gY_X12_transition⟩
theorem gY_X11_elapsed : gYn yX11_elapsed 0 := ⟨by decide +kernel, by decide +kernel, by decide +kernel⟩
theorem lkL_209 : gLV RL 209 yX11_elapsed cX11_elapsed 1 (some FieldType.int) 0 := ⟨kw_655, kw_656, kw_657, kw_1, kw_658, gY_X11_elapsed⟩
theorem gY_X12_elapsed : gYn yX12_elapsed 0 := ⟨by decide +kernel, by decide +kernel, by decide +kernel⟩
theorem lkL_212 : gLV RL 212 yX12_elapsed cX12_elapsed 1 (some FieldType.int) 0 := ⟨kw_2089, kw_2090, kw_2091, kw_16, kw_2092, gY_X12_elapsed⟩
theorem gY_X11_isFrozen : gYn yX11_isFrozen 0 := ⟨by decide +kernel, by decide +kernel, by decide +kernel⟩
theorem lkL_213 : gLV RL 213 yX11_isFrozen cX11_isFrozen 1 (some FieldType.boolean) 0 := ⟨kw_659, kw_660, kw_661, kw_1, kw_662, gY_X11_isFrozen⟩
theorem gY_X12_isFrozen : gYn yX12_isFrozen 0 := ⟨by decide +kernel, by decide +kernel, by decide +kernel⟩
theorem lkL_217 : gLV RL 217 yX12_isFrozen cX12_isFrozen 1 (some FieldType.boolean) 0 := ⟨kw_2093, kw_2094, kw_2095, kw_16, kw_2096, gY_X12_isFrozen⟩
theorem gY_X12_progress : gYn yX12_progress 1 := ⟨by decide +kernel, by decide +kernel, by decide +kernel⟩
theorem lkL_221 : gLV RL 221 yX12_progress cX12_progress 2 (some FieldType.long) 1 := ⟨kw_2097, kw_2098, kw_2099, kw_16, kw_2100, gY_X12_progress⟩
theorem gY_X12_stateLength : gYn yX12_stateLength 1 := ⟨by decide +kernel, by decide +kernel, by decide +kernel⟩
theorem lkL_224 : gLV RL 224 yX12_stateLength cX12_stateLength 2 (some FieldType.int) 1 := ⟨kw_2101, kw_2102, kw_2103, kw_16, kw_2104, gY_X12_stateLength⟩
theorem gY_X12_partWeight : gYn yX12_partWeight 2 := ⟨by decide +kernel, by decide +kernel, by decide +kernel⟩
theorem lkL_227 : gLV RL 227 yX12_partWeight cX12_partWeight 3 (some FieldType.int) 2 := ⟨kw_2105, kw_2106, kw_2107, kw_16, kw_2108, gY_X12_partWeight⟩
theorem gY_X12_blocked : gYn yX12_blocked 1 := ⟨by decide +kernel, by decide +kernel, by decide +kernel⟩
theorem lkL_230 : gLV RL 230 yX12_blocked cX12_blocked 3 (some FieldType.int) 1 := ⟨kw_1971, kw_1972, kw_1973, kw_16, kw_1974, gY_X12_blocked⟩
theorem gY_X11_poseSize : gYn yX11_poseSize 0 := ⟨by decide +kernel, by decide +kernel, by decide +kernel⟩
theorem lkL_231 : gLV RL 231 yX11_poseSize cX11_poseSize 1 (some FieldType.int) 0 := ⟨kw_663, kw_664, kw_665, kw_1, kw_666, gY_X11_poseSize⟩
theorem gY_X12_poseSize : gYn yX12_poseSize 0 := ⟨by decide +kernel, by decide +kernel, by decide +kernel⟩
theorem lkL_234 : gLV RL 234 yX12_poseSize cX12_poseSize 1 (some FieldType.int) 0 := ⟨kw_1922, kw_1923, kw_1924, kw_16, kw_1925, gY_X12_poseSize⟩
theorem gY_X12_poseClip : gYn yX12_poseClip 1 := ⟨by decide +kernel, by decide +kernel, by decide +kernel⟩
theorem lkL_237 : gLV RL 237 yX12_poseClip cX12_poseClip 2 (some FieldType.int) 1 := ⟨kw_1955, kw_1956, kw_1957, kw_16, kw_1958, gY_X12_poseClip⟩
theorem gY_X12_poseTime : gYn yX12_poseTime 1 := ⟨by decide +kernel, by decide +kernel, by decide +kernel⟩
theorem lkL_240 : gLV RL 240 yX12_poseTime cX12_poseTime 2 (some FieldType.int) 1 := ⟨kw_1963, kw_1964, kw_1965, kw_16, kw_1966, gY_X12_poseTime⟩
theorem gY_X12_poseWeight : gYn yX12_poseWeight 1 := ⟨by decide +kernel, by decide +kernel, by decide +kernel⟩
theorem lkL_243 : gLV RL 243 yX12_poseWeight cX12_poseWeight 2 (some FieldType.int) 1 := ⟨kw_1967, kw_1968, kw_1969, kw_16, kw_1970, gY_X12_poseWeight⟩
theorem gY_X11_fired : gYn yX11_fired 0 := ⟨by decide +kernel, by decide +kernel, by decide +kernel⟩
theorem lkL_244 : gLV RL 244 yX11_fired cX11_fired 1 (some FieldType.int) 0 := ⟨kw_724, kw_725, kw_726, kw_1, kw_727, gY_X11_fired⟩
theorem gY_X12_fired : gYn yX12_fired 0 := ⟨by decide +kernel, by decide +kernel, by decide +kernel⟩
theorem lkL_247 : gLV RL 247 yX12_fired cX12_fired 1 (some FieldType.int) 0 := ⟨kw_2109, kw_2110, kw_2111, kw_16, kw_2112, gY_X12_fired⟩
theorem gY_X12_event : gYn yX12_event 2 := ⟨by decide +kernel, by decide +kernel, by decide +kernel⟩
theorem lkL_250 : gLV RL 250 yX12_event cX12_event 3 (some FieldType.int) 2 := ⟨kw_2113, kw_2114, kw_2115, kw_16, kw_2116, gY_X12_event⟩
theorem gY_X12_foretell : gYn yX12_foretell 1 := ⟨by decide +kernel, by decide +kernel, by decide +kernel⟩
theorem lkL_253 : gLV RL 253 yX12_foretell cX12_foretell 3 (some FieldType.int) 1 := ⟨kw_2117, kw_2118, kw_2119, kw_16, kw_2120, gY_X12_foretell⟩
theorem gY_X12_ticksTo : gYn yX12_ticksTo 1 := ⟨by decide +kernel, by decide +kernel, by decide +kernel⟩
theorem lkL_256 : gLV RL 256 yX12_ticksTo cX12_ticksTo 3 (some FieldType.int) 1 := ⟨kw_2125, kw_2126, kw_2127, kw_16, kw_2128, gY_X12_ticksTo⟩
theorem gY_X12_steps : gYn yX12_steps 2 := ⟨by decide +kernel, by decide +kernel, by decide +kernel⟩
theorem lkL_259 : gLV RL 259 yX12_steps cX12_steps 7 (some FieldType.int) 2 := ⟨kw_2129, kw_2130, kw_2131, kw_16, kw_2132, gY_X12_steps⟩
theorem gY_X12_keep : gYn yX12_keep 1 := ⟨by decide +kernel, by decide +kernel, by decide +kernel⟩
theorem lkL_262 : gLV RL 262 yX12_keep cX12_keep 2 (some FieldType.int) 1 := ⟨kw_2133, kw_2134, kw_2135, kw_16, kw_2136, gY_X12_keep⟩
theorem gY_X12_restore : gYn yX12_restore 1 := ⟨by decide +kernel, by decide +kernel, by decide +kernel⟩
theorem lkL_265 : gLV RL 265 yX12_restore cX12_restore 3 (some FieldType.int) 1 := ⟨kw_2137, kw_2138, kw_2139, kw_16, kw_2140, gY_X12_restore⟩
theorem gY_X12_count : gYn yX12_count 1 := ⟨by decide +kernel, by decide +kernel, by decide +kernel⟩
theorem lkL_268 : gLV RL 268 yX12_count cX12_count 2 (some FieldType.int) 1 := ⟨kw_2141, kw_2142, kw_2143, kw_16, kw_2144, gY_X12_count⟩
theorem gYl_L_addParameter : gYn yL_addParameter 3 := ⟨by decide +kernel, by decide +kernel, by decide +kernel⟩
theorem lwL_123 : gLW RL 123 yL_addParameter cL_addParameter 4 (some .int) [(0, 9, 12, 13), (0, 9, 15, 15)] 3 := ⟨kw_728, kw_729, kw_0, kw_730, gYl_L_addParameter⟩
theorem gYl_L_set : gYn yL_set 4 := ⟨by decide +kernel, by decide +kernel, by decide +kernel⟩
theorem lwL_132 : gLW RL 132 yL_set cL_set 5 (some .int) [(0, 10, 13, 21), (0, 10, 17, 13)] 4 := ⟨kw_821, kw_822, kw_0, kw_823, gYl_L_set⟩
theorem gYl_L_value : gYn yL_value 3 := ⟨by decide +kernel, by decide +kernel, by decide +kernel⟩
theorem lwL_136 : gLW RL 136 yL_value cL_value 4 (some .int) [(0, 9, 12, 21)] 3 := ⟨kw_867, kw_868, kw_0, kw_869, gYl_L_value⟩
theorem gYl_L_addClip : gYn yL_addClip 3 := ⟨by decide +kernel, by decide +kernel, by decide +kernel⟩
theorem lwL_139 : gLW RL 139 yL_addClip cL_addClip 4 (some .int) [(0, 9, 12, 13), (0, 9, 15, 15)] 3 := ⟨kw_874, kw_875, kw_0, kw_876, gYl_L_addClip⟩
theorem gYl_L_addEvent : gYn yL_addEvent 5 := ⟨by decide +kernel, by decide +kernel, by decide +kernel⟩
theorem lwL_142 : gLW RL 142 yL_addEvent cL_addEvent 6 (some .int) [(0, 12, 15, 21), (0, 12, 19, 13), (0, 12, 23, 15)] 5 := ⟨kw_887, kw_888, kw_0, kw_889, gYl_L_addEvent⟩
theorem gYl_L_addClipNode : gYn yL_addClipNode 3 := ⟨by decide +kernel, by decide +kernel, by decide +kernel⟩
theorem lwL_146 : gLW RL 146 yL_addClipNode cL_addClipNode 4 (some .int) [(0, 9, 12, 21), (0, 9, 15, 15)] 3 := ⟨kw_905, kw_906, kw_0, kw_907, gYl_L_addClipNode⟩
theorem gYl_L_addLine : gYn yL_addLine 3 := ⟨by decide +kernel, by decide +kernel, by decide +kernel⟩
theorem lwL_149 : gLW RL 149 yL_addLine cL_addLine 4 (some .int) [(0, 9, 12, 21), (0, 9, 15, 15)] 3 := ⟨kw_919, kw_920, kw_0, kw_921, gYl_L_addLine⟩
theorem gYl_L_addChild : gYn yL_addChild 5 := ⟨by decide +kernel, by decide +kernel, by decide +kernel⟩
theorem lwL_152 : gLW RL 152 yL_addChild cL_addChild 6 (some .int) [(0, 12, 15, 21), (0, 12, 19, 13), (0, 12, 23, 15)] 5 := ⟨kw_928, kw_929, kw_0, kw_930, gYl_L_addChild⟩
theorem gYl_L_addState : gYn yL_addState 6 := ⟨by decide +kernel, by decide +kernel, by decide +kernel⟩
theorem lwL_155 : gLW RL 155 yL_addState cL_addState 7 (some .int) [(0, 14, 17, 21), (0, 14, 21, 13), (0, 14, 25, 15)] 6 := ⟨kw_1222, kw_1223, kw_0, kw_1224, gYl_L_addState⟩
theorem gYl_L_addTransition : gYn yL_addTransition 5 := ⟨by decide +kernel, by decide +kernel, by decide +kernel⟩
theorem lwL_159 : gLW RL 159 yL_addTransition cL_addTransition 6 (some .int) [(0, 12, 15, 21), (0, 12, 19, 13), (0, 12, 23, 15)] 5 := ⟨kw_1232, kw_1233, kw_0, kw_1234, gYl_L_addTransition⟩
theorem gYl_L_setTiming : gYn yL_setTiming 5 := ⟨by decide +kernel, by decide +kernel, by decide +kernel⟩
theorem lwL_162 : gLW RL 162 yL_setTiming cL_setTiming 6 (some .int) [(0, 12, 15, 21), (0, 12, 19, 13), (0, 12, 23, 15)] 5 := ⟨kw_1249, kw_1250, kw_0, kw_1251, gYl_L_setTiming⟩
theorem gYl_L_setInterruption : gYn yL_setInterruption 5 := ⟨by decide +kernel, by decide +kernel, by decide +kernel⟩
theorem lwL_165 : gLW RL 165 yL_setInterruption cL_setInterruption 6 (some .int) [(0, 12, 15, 21), (0, 12, 19, 13)] 5 := ⟨kw_1263, kw_1264, kw_0, kw_1265, gYl_L_setInterruption⟩
theorem gYl_L_addCondition : gYn yL_addCondition 6 := ⟨by decide +kernel, by decide +kernel, by decide +kernel⟩
theorem lwL_169 : gLW RL 169 yL_addCondition cL_addCondition 7 (some .int) [(0, 14, 17, 21), (0, 14, 21, 13), (0, 14, 25, 15)] 6 := ⟨kw_1271, kw_1272, kw_0, kw_1273, gYl_L_addCondition⟩
theorem gYl_L_setThreshold : gYn yL_setThreshold 3 := ⟨by decide +kernel, by decide +kernel, by decide +kernel⟩
theorem lwL_173 : gLW RL 173 yL_setThreshold cL_setThreshold 4 (some .int) [(0, 9, 12, 13)] 3 := ⟨kw_1286, kw_1287, kw_0, kw_1288, gYl_L_setThreshold⟩
theorem gYl_L_type : gYn yL_type 3 := ⟨by decide +kernel, by decide +kernel, by decide +kernel⟩
theorem lwL_176 : gLW RL 176 yL_type cL_type 4 (some .int) [(0, 9, 12, 13), (0, 9, 15, 15)] 3 := ⟨kw_1294, kw_1295, kw_0, kw_1296, gYl_L_type⟩
theorem gYl_L_load : gYn yL_load 2 := ⟨by decide +kernel, by decide +kernel, by decide +kernel⟩
theorem lwL_187 : gLW RL 187 yL_load cL_load 3 (some .int) [(0, 8, 11, 15)] 2 := ⟨kw_1303, kw_1304, kw_0, kw_1305, gYl_L_load⟩
theorem gYl_L_tick : gYn yL_tick 3 := ⟨by decide +kernel, by decide +kernel, by decide +kernel⟩
theorem lwL_191 : gLW RL 191 yL_tick cL_tick 4 (some .int) [(0, 9, 12, 13), (0, 9, 15, 15)] 3 := ⟨kw_1311, kw_1312, kw_0, kw_1313, gYl_L_tick⟩
theorem gYl_L_state : gYn yL_state 2 := ⟨by decide +kernel, by decide +kernel, by decide +kernel⟩
theorem lwL_198 : gLW RL 198 yL_state cL_state 3 (some .int) [(0, 8, 11, 15)] 2 := ⟨kw_1449, kw_1450, kw_0, kw_1451, gYl_L_state⟩
theorem gYl_L_progress : gYn yL_progress 3 := ⟨by decide +kernel, by decide +kernel, by decide +kernel⟩
theorem lwL_218 : gLW RL 218 yL_progress cL_progress 4 (some .int) [(0, 8, 11, 15)] 3 := ⟨kw_1456, kw_1457, kw_0, kw_1458, gYl_L_progress⟩
theorem gYl_L_stateLength : gYn yL_stateLength 3 := ⟨by decide +kernel, by decide +kernel, by decide +kernel⟩
theorem lwL_222 : gLW RL 222 yL_stateLength cL_stateLength 4 (some .int) [(0, 9, 12, 21)] 3 := ⟨kw_1465, kw_1466, kw_0, kw_1467, gYl_L_stateLength⟩
theorem gYl_L_partWeight : gYn yL_partWeight 4 := ⟨by decide +kernel, by decide +kernel, by decide +kernel⟩
theorem lwL_225 : gLW RL 225 yL_partWeight cL_partWeight 5 (some .int) [(0, 10, 13, 21)] 4 := ⟨kw_1473, kw_1474, kw_0, kw_1475, gYl_L_partWeight⟩
theorem gYl_L_blocked : gYn yL_blocked 3 := ⟨by decide +kernel, by decide +kernel, by decide +kernel⟩
theorem lwL_228 : gLW RL 228 yL_blocked cL_blocked 4 (some .int) [(0, 9, 12, 21)] 3 := ⟨kw_1483, kw_1484, kw_0, kw_1485, gYl_L_blocked⟩
theorem gYl_L_poseClip : gYn yL_poseClip 3 := ⟨by decide +kernel, by decide +kernel, by decide +kernel⟩
theorem lwL_235 : gLW RL 235 yL_poseClip cL_poseClip 4 (some .int) [(0, 9, 12, 21)] 3 := ⟨kw_1492, kw_1493, kw_0, kw_1494, gYl_L_poseClip⟩
theorem gYl_L_poseTime : gYn yL_poseTime 3 := ⟨by decide +kernel, by decide +kernel, by decide +kernel⟩
theorem lwL_238 : gLW RL 238 yL_poseTime cL_poseTime 4 (some .int) [(0, 9, 12, 21)] 3 := ⟨kw_1500, kw_1501, kw_0, kw_1502, gYl_L_poseTime⟩
theorem gYl_L_poseWeight : gYn yL_poseWeight 3 := ⟨by decide +kernel, by decide +kernel, by decide +kernel⟩
theorem lwL_241 : gLW RL 241 yL_poseWeight cL_poseWeight 4 (some .int) [(0, 9, 12, 21)] 3 := ⟨kw_1507, kw_1508, kw_0, kw_1509, gYl_L_poseWeight⟩
theorem gYl_L_event : gYn yL_event 4 := ⟨by decide +kernel, by decide +kernel, by decide +kernel⟩
theorem lwL_248 : gLW RL 248 yL_event cL_event 5 (some .int) [(0, 10, 13, 21), (0, 10, 17, 13)] 4 := ⟨kw_1514, kw_1515, kw_0, kw_1516, gYl_L_event⟩
theorem gYl_L_foretell : gYn yL_foretell 3 := ⟨by decide +kernel, by decide +kernel, by decide +kernel⟩
theorem lwL_251 : gLW RL 251 yL_foretell cL_foretell 4 (some .int) [(0, 9, 12, 13), (0, 9, 15, 15)] 3 := ⟨kw_1533, kw_1534, kw_0, kw_1535, gYl_L_foretell⟩
theorem gYl_L_ticksTo : gYn yL_ticksTo 3 := ⟨by decide +kernel, by decide +kernel, by decide +kernel⟩
theorem lwL_254 : gLW RL 254 yL_ticksTo cL_ticksTo 4 (some .int) [(0, 9, 12, 21)] 3 := ⟨kw_1550, kw_1551, kw_0, kw_1552, gYl_L_ticksTo⟩
theorem gYl_L_steps : gYn yL_steps 4 := ⟨by decide +kernel, by decide +kernel, by decide +kernel⟩
theorem lwL_257 : gLW RL 257 yL_steps cL_steps 5 (some .int) [(0, 10, 13, 21)] 4 := ⟨kw_1557, kw_1558, kw_0, kw_1559, gYl_L_steps⟩
theorem gYl_L_keep : gYn yL_keep 3 := ⟨by decide +kernel, by decide +kernel, by decide +kernel⟩
theorem lwL_260 : gLW RL 260 yL_keep cL_keep 4 (some .int) [(0, 9, 12, 13), (0, 9, 15, 15)] 3 := ⟨kw_1576, kw_1577, kw_0, kw_1578, gYl_L_keep⟩
theorem gYl_L_restore : gYn yL_restore 3 := ⟨by decide +kernel, by decide +kernel, by decide +kernel⟩
theorem lwL_263 : gLW RL 263 yL_restore cL_restore 4 (some .int) [(0, 9, 12, 13), (0, 9, 15, 15)] 3 := ⟨kw_1588, kw_1589, kw_0, kw_1590, gYl_L_restore⟩
theorem gYl_L_count : gYn yL_count 3 := ⟨by decide +kernel, by decide +kernel, by decide +kernel⟩
theorem lwL_266 : gLW RL 266 yL_count cL_count 4 (some .int) [(0, 9, 12, 13)] 3 := ⟨kw_1596, kw_1597, kw_0, kw_1598, gYl_L_count⟩
