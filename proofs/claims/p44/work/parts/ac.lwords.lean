theorem ku_456 : (Cond.castable "java/lang/IndexOutOfBoundsException" "java/lang/IndexOutOfBoundsException") ∈ gU := gU_n 456 (by decide +kernel) rfl
theorem ku_532 : (Cond.castable "java/lang/IllegalArgumentException" "java/lang/IllegalArgumentException") ∈ gU := gU_n 532 (by decide +kernel) rfl
theorem ku_611 : (Cond.castable "java/lang/IllegalStateException" "java/lang/IllegalStateException") ∈ gU := gU_n 611 (by decide +kernel) rfl
theorem kw_0 : (Cond.initialized "AnimationControllerLaw") ∈ gW := gW_n 0 (by decide +kernel) rfl
theorem kw_1000 : (Cond.selects "AnimationController" ({ cls := "AnimationController", name := "addChild", desc := "(III)I" } : MethodName) ({ cls := "AnimationController", name := "addChild", desc := "(III)I" } : MethodName)) ∈ gW := gW_n 1000 (by decide +kernel) rfl
theorem kw_1001 : (Cond.code ({ cls := "AnimationController", name := "addChild", desc := "(III)I" } : MethodName) prog_1_method_9_code (6 : Nat) (Option.some FieldType.int)) ∈ gW := gW_n 1001 (by decide +kernel) rfl
theorem kw_1279 : (Cond.methodLink "AnimationControllerLaw" (158 : Nat) ({ cls := "AnimationControllerLaw", name := "builds", desc := "(LAnimationController;[I[I)V" } : MethodName)) ∈ gW := gW_n 1279 (by decide +kernel) rfl
theorem kw_1280 : (Cond.static ({ cls := "AnimationControllerLaw", name := "builds", desc := "(LAnimationController;[I[I)V" } : MethodName)) ∈ gW := gW_n 1280 (by decide +kernel) rfl
theorem kw_1281 : (Cond.code ({ cls := "AnimationControllerLaw", name := "builds", desc := "(LAnimationController;[I[I)V" } : MethodName) method_8_code (8 : Nat) (Option.none : Option FieldType)) ∈ gW := gW_n 1281 (by decide +kernel) rfl
theorem kw_1282 : (Cond.methodLink "AnimationControllerLaw" (31 : Nat) ({ cls := "AnimationController", name := "addParameter", desc := "(I)I" } : MethodName)) ∈ gW := gW_n 1282 (by decide +kernel) rfl
theorem kw_1283 : (Cond.instanceMethod ({ cls := "AnimationController", name := "addParameter", desc := "(I)I" } : MethodName)) ∈ gW := gW_n 1283 (by decide +kernel) rfl
theorem kw_1284 : (Cond.selects "AnimationController" ({ cls := "AnimationController", name := "addParameter", desc := "(I)I" } : MethodName) ({ cls := "AnimationController", name := "addParameter", desc := "(I)I" } : MethodName)) ∈ gW := gW_n 1284 (by decide +kernel) rfl
theorem kw_1285 : (Cond.code ({ cls := "AnimationController", name := "addParameter", desc := "(I)I" } : MethodName) prog_1_method_2_code (2 : Nat) (Option.some FieldType.int)) ∈ gW := gW_n 1285 (by decide +kernel) rfl
theorem kw_1288 : (Cond.methodLink "AnimationControllerLaw" (44 : Nat) ({ cls := "AnimationController", name := "addClip", desc := "(I)I" } : MethodName)) ∈ gW := gW_n 1288 (by decide +kernel) rfl
theorem kw_1289 : (Cond.instanceMethod ({ cls := "AnimationController", name := "addClip", desc := "(I)I" } : MethodName)) ∈ gW := gW_n 1289 (by decide +kernel) rfl
theorem kw_1290 : (Cond.selects "AnimationController" ({ cls := "AnimationController", name := "addClip", desc := "(I)I" } : MethodName) ({ cls := "AnimationController", name := "addClip", desc := "(I)I" } : MethodName)) ∈ gW := gW_n 1290 (by decide +kernel) rfl
theorem kw_1291 : (Cond.code ({ cls := "AnimationController", name := "addClip", desc := "(I)I" } : MethodName) prog_1_method_5_code (2 : Nat) (Option.some FieldType.int)) ∈ gW := gW_n 1291 (by decide +kernel) rfl
theorem kw_1296 : (Cond.methodLink "AnimationControllerLaw" (47 : Nat) ({ cls := "AnimationController", name := "addEvent", desc := "(III)I" } : MethodName)) ∈ gW := gW_n 1296 (by decide +kernel) rfl
theorem kw_1297 : (Cond.instanceMethod ({ cls := "AnimationController", name := "addEvent", desc := "(III)I" } : MethodName)) ∈ gW := gW_n 1297 (by decide +kernel) rfl
theorem kw_1298 : (Cond.selects "AnimationController" ({ cls := "AnimationController", name := "addEvent", desc := "(III)I" } : MethodName) ({ cls := "AnimationController", name := "addEvent", desc := "(III)I" } : MethodName)) ∈ gW := gW_n 1298 (by decide +kernel) rfl
theorem kw_1299 : (Cond.code ({ cls := "AnimationController", name := "addEvent", desc := "(III)I" } : MethodName) prog_1_method_6_code (5 : Nat) (Option.some FieldType.int)) ∈ gW := gW_n 1299 (by decide +kernel) rfl
theorem kw_1311 : (Cond.methodLink "AnimationControllerLaw" (50 : Nat) ({ cls := "AnimationController", name := "addClipNode", desc := "(I)I" } : MethodName)) ∈ gW := gW_n 1311 (by decide +kernel) rfl
theorem kw_1312 : (Cond.instanceMethod ({ cls := "AnimationController", name := "addClipNode", desc := "(I)I" } : MethodName)) ∈ gW := gW_n 1312 (by decide +kernel) rfl
theorem kw_1313 : (Cond.selects "AnimationController" ({ cls := "AnimationController", name := "addClipNode", desc := "(I)I" } : MethodName) ({ cls := "AnimationController", name := "addClipNode", desc := "(I)I" } : MethodName)) ∈ gW := gW_n 1313 (by decide +kernel) rfl
theorem kw_1314 : (Cond.code ({ cls := "AnimationController", name := "addClipNode", desc := "(I)I" } : MethodName) prog_1_method_7_code (3 : Nat) (Option.some FieldType.int)) ∈ gW := gW_n 1314 (by decide +kernel) rfl
theorem kw_1321 : (Cond.methodLink "AnimationControllerLaw" (53 : Nat) ({ cls := "AnimationController", name := "addLine", desc := "(I)I" } : MethodName)) ∈ gW := gW_n 1321 (by decide +kernel) rfl
theorem kw_1322 : (Cond.instanceMethod ({ cls := "AnimationController", name := "addLine", desc := "(I)I" } : MethodName)) ∈ gW := gW_n 1322 (by decide +kernel) rfl
theorem kw_1323 : (Cond.selects "AnimationController" ({ cls := "AnimationController", name := "addLine", desc := "(I)I" } : MethodName) ({ cls := "AnimationController", name := "addLine", desc := "(I)I" } : MethodName)) ∈ gW := gW_n 1323 (by decide +kernel) rfl
theorem kw_1324 : (Cond.code ({ cls := "AnimationController", name := "addLine", desc := "(I)I" } : MethodName) prog_1_method_8_code (2 : Nat) (Option.some FieldType.int)) ∈ gW := gW_n 1324 (by decide +kernel) rfl
theorem kw_1327 : (Cond.methodLink "AnimationControllerLaw" (56 : Nat) ({ cls := "AnimationController", name := "setTiming", desc := "(III)I" } : MethodName)) ∈ gW := gW_n 1327 (by decide +kernel) rfl
theorem kw_1328 : (Cond.instanceMethod ({ cls := "AnimationController", name := "setTiming", desc := "(III)I" } : MethodName)) ∈ gW := gW_n 1328 (by decide +kernel) rfl
theorem kw_1329 : (Cond.selects "AnimationController" ({ cls := "AnimationController", name := "setTiming", desc := "(III)I" } : MethodName) ({ cls := "AnimationController", name := "setTiming", desc := "(III)I" } : MethodName)) ∈ gW := gW_n 1329 (by decide +kernel) rfl
theorem kw_1330 : (Cond.code ({ cls := "AnimationController", name := "setTiming", desc := "(III)I" } : MethodName) prog_1_method_12_code (6 : Nat) (Option.some FieldType.int)) ∈ gW := gW_n 1330 (by decide +kernel) rfl
theorem kw_1338 : (Cond.methodLink "AnimationControllerLaw" (59 : Nat) ({ cls := "AnimationController", name := "setInterruption", desc := "(IIZ)I" } : MethodName)) ∈ gW := gW_n 1338 (by decide +kernel) rfl
theorem kw_1339 : (Cond.instanceMethod ({ cls := "AnimationController", name := "setInterruption", desc := "(IIZ)I" } : MethodName)) ∈ gW := gW_n 1339 (by decide +kernel) rfl
theorem kw_1340 : (Cond.selects "AnimationController" ({ cls := "AnimationController", name := "setInterruption", desc := "(IIZ)I" } : MethodName) ({ cls := "AnimationController", name := "setInterruption", desc := "(IIZ)I" } : MethodName)) ∈ gW := gW_n 1340 (by decide +kernel) rfl
theorem kw_1341 : (Cond.code ({ cls := "AnimationController", name := "setInterruption", desc := "(IIZ)I" } : MethodName) prog_1_method_13_code (6 : Nat) (Option.some FieldType.int)) ∈ gW := gW_n 1341 (by decide +kernel) rfl
theorem kw_1343 : (Cond.methodLink "AnimationControllerLaw" (63 : Nat) ({ cls := "AnimationController", name := "addCondition", desc := "(IIII)I" } : MethodName)) ∈ gW := gW_n 1343 (by decide +kernel) rfl
theorem kw_1344 : (Cond.instanceMethod ({ cls := "AnimationController", name := "addCondition", desc := "(IIII)I" } : MethodName)) ∈ gW := gW_n 1344 (by decide +kernel) rfl
theorem kw_1345 : (Cond.selects "AnimationController" ({ cls := "AnimationController", name := "addCondition", desc := "(IIII)I" } : MethodName) ({ cls := "AnimationController", name := "addCondition", desc := "(IIII)I" } : MethodName)) ∈ gW := gW_n 1345 (by decide +kernel) rfl
theorem kw_1346 : (Cond.code ({ cls := "AnimationController", name := "addCondition", desc := "(IIII)I" } : MethodName) prog_1_method_14_code (6 : Nat) (Option.some FieldType.int)) ∈ gW := gW_n 1346 (by decide +kernel) rfl
theorem kw_1358 : (Cond.methodLink "AnimationControllerLaw" (169 : Nat) ({ cls := "AnimationControllerLaw", name := "poseFits", desc := "(LAnimationController;[I)Z" } : MethodName)) ∈ gW := gW_n 1358 (by decide +kernel) rfl
theorem kw_1359 : (Cond.static ({ cls := "AnimationControllerLaw", name := "poseFits", desc := "(LAnimationController;[I)Z" } : MethodName)) ∈ gW := gW_n 1359 (by decide +kernel) rfl
theorem kw_1360 : (Cond.code ({ cls := "AnimationControllerLaw", name := "poseFits", desc := "(LAnimationController;[I)Z" } : MethodName) method_9_code (8 : Nat) (Option.some FieldType.boolean)) ∈ gW := gW_n 1360 (by decide +kernel) rfl
theorem kw_1361 : (Cond.methodLink "AnimationControllerLaw" (71 : Nat) ({ cls := "AnimationController", name := "poseClip", desc := "(I)I" } : MethodName)) ∈ gW := gW_n 1361 (by decide +kernel) rfl
theorem kw_1362 : (Cond.instanceMethod ({ cls := "AnimationController", name := "poseClip", desc := "(I)I" } : MethodName)) ∈ gW := gW_n 1362 (by decide +kernel) rfl
theorem kw_1363 : (Cond.selects "AnimationController" ({ cls := "AnimationController", name := "poseClip", desc := "(I)I" } : MethodName) ({ cls := "AnimationController", name := "poseClip", desc := "(I)I" } : MethodName)) ∈ gW := gW_n 1363 (by decide +kernel) rfl
theorem kw_1364 : (Cond.code ({ cls := "AnimationController", name := "poseClip", desc := "(I)I" } : MethodName) prog_1_method_32_code (3 : Nat) (Option.some FieldType.int)) ∈ gW := gW_n 1364 (by decide +kernel) rfl
theorem kw_1366 : (Cond.methodLink "AnimationControllerLaw" (74 : Nat) ({ cls := "AnimationController", name := "poseTime", desc := "(I)I" } : MethodName)) ∈ gW := gW_n 1366 (by decide +kernel) rfl
theorem kw_1367 : (Cond.instanceMethod ({ cls := "AnimationController", name := "poseTime", desc := "(I)I" } : MethodName)) ∈ gW := gW_n 1367 (by decide +kernel) rfl
theorem kw_1368 : (Cond.selects "AnimationController" ({ cls := "AnimationController", name := "poseTime", desc := "(I)I" } : MethodName) ({ cls := "AnimationController", name := "poseTime", desc := "(I)I" } : MethodName)) ∈ gW := gW_n 1368 (by decide +kernel) rfl
theorem kw_1369 : (Cond.code ({ cls := "AnimationController", name := "poseTime", desc := "(I)I" } : MethodName) prog_1_method_33_code (3 : Nat) (Option.some FieldType.int)) ∈ gW := gW_n 1369 (by decide +kernel) rfl
theorem kw_1370 : (Cond.methodLink "AnimationControllerLaw" (77 : Nat) ({ cls := "AnimationController", name := "poseWeight", desc := "(I)I" } : MethodName)) ∈ gW := gW_n 1370 (by decide +kernel) rfl
theorem kw_1371 : (Cond.instanceMethod ({ cls := "AnimationController", name := "poseWeight", desc := "(I)I" } : MethodName)) ∈ gW := gW_n 1371 (by decide +kernel) rfl
theorem kw_1372 : (Cond.selects "AnimationController" ({ cls := "AnimationController", name := "poseWeight", desc := "(I)I" } : MethodName) ({ cls := "AnimationController", name := "poseWeight", desc := "(I)I" } : MethodName)) ∈ gW := gW_n 1372 (by decide +kernel) rfl
theorem kw_1373 : (Cond.code ({ cls := "AnimationController", name := "poseWeight", desc := "(I)I" } : MethodName) prog_1_method_34_code (3 : Nat) (Option.some FieldType.int)) ∈ gW := gW_n 1373 (by decide +kernel) rfl
theorem kw_1374 : (Cond.methodLink "AnimationControllerLaw" (80 : Nat) ({ cls := "AnimationController", name := "transition", desc := "()I" } : MethodName)) ∈ gW := gW_n 1374 (by decide +kernel) rfl
theorem kw_1375 : (Cond.instanceMethod ({ cls := "AnimationController", name := "transition", desc := "()I" } : MethodName)) ∈ gW := gW_n 1375 (by decide +kernel) rfl
theorem kw_1376 : (Cond.selects "AnimationController" ({ cls := "AnimationController", name := "transition", desc := "()I" } : MethodName) ({ cls := "AnimationController", name := "transition", desc := "()I" } : MethodName)) ∈ gW := gW_n 1376 (by decide +kernel) rfl
theorem kw_1377 : (Cond.code ({ cls := "AnimationController", name := "transition", desc := "()I" } : MethodName) prog_1_method_24_code (1 : Nat) (Option.some FieldType.int)) ∈ gW := gW_n 1377 (by decide +kernel) rfl
theorem kw_1378 : (Cond.methodLink "AnimationControllerLaw" (86 : Nat) ({ cls := "AnimationController", name := "elapsed", desc := "()I" } : MethodName)) ∈ gW := gW_n 1378 (by decide +kernel) rfl
theorem kw_1379 : (Cond.instanceMethod ({ cls := "AnimationController", name := "elapsed", desc := "()I" } : MethodName)) ∈ gW := gW_n 1379 (by decide +kernel) rfl
theorem kw_1380 : (Cond.selects "AnimationController" ({ cls := "AnimationController", name := "elapsed", desc := "()I" } : MethodName) ({ cls := "AnimationController", name := "elapsed", desc := "()I" } : MethodName)) ∈ gW := gW_n 1380 (by decide +kernel) rfl
theorem kw_1381 : (Cond.code ({ cls := "AnimationController", name := "elapsed", desc := "()I" } : MethodName) prog_1_method_25_code (1 : Nat) (Option.some FieldType.int)) ∈ gW := gW_n 1381 (by decide +kernel) rfl
theorem kw_1382 : (Cond.methodLink "AnimationControllerLaw" (89 : Nat) ({ cls := "AnimationController", name := "isFrozen", desc := "()Z" } : MethodName)) ∈ gW := gW_n 1382 (by decide +kernel) rfl
theorem kw_1383 : (Cond.instanceMethod ({ cls := "AnimationController", name := "isFrozen", desc := "()Z" } : MethodName)) ∈ gW := gW_n 1383 (by decide +kernel) rfl
theorem kw_1384 : (Cond.selects "AnimationController" ({ cls := "AnimationController", name := "isFrozen", desc := "()Z" } : MethodName) ({ cls := "AnimationController", name := "isFrozen", desc := "()Z" } : MethodName)) ∈ gW := gW_n 1384 (by decide +kernel) rfl
theorem kw_1385 : (Cond.code ({ cls := "AnimationController", name := "isFrozen", desc := "()Z" } : MethodName) prog_1_method_26_code (1 : Nat) (Option.some FieldType.boolean)) ∈ gW := gW_n 1385 (by decide +kernel) rfl
theorem kw_1386 : (Cond.constantLong "AnimationControllerLaw" (93 : Nat) (1000000 : Int64)) ∈ gW := gW_n 1386 (by decide +kernel) rfl
theorem kw_1387 : (Cond.methodLink "AnimationControllerLaw" (165 : Nat) ({ cls := "AnimationControllerLaw", name := "lengthsFit", desc := "(LAnimationController;[I)Z" } : MethodName)) ∈ gW := gW_n 1387 (by decide +kernel) rfl
theorem kw_1388 : (Cond.static ({ cls := "AnimationControllerLaw", name := "lengthsFit", desc := "(LAnimationController;[I)Z" } : MethodName)) ∈ gW := gW_n 1388 (by decide +kernel) rfl
theorem kw_1389 : (Cond.code ({ cls := "AnimationControllerLaw", name := "lengthsFit", desc := "(LAnimationController;[I)Z" } : MethodName) method_10_code (8 : Nat) (Option.some FieldType.boolean)) ∈ gW := gW_n 1389 (by decide +kernel) rfl
theorem kw_1390 : (Cond.methodLink "AnimationControllerLaw" (95 : Nat) ({ cls := "AnimationController", name := "partWeight", desc := "(II)I" } : MethodName)) ∈ gW := gW_n 1390 (by decide +kernel) rfl
theorem kw_1391 : (Cond.instanceMethod ({ cls := "AnimationController", name := "partWeight", desc := "(II)I" } : MethodName)) ∈ gW := gW_n 1391 (by decide +kernel) rfl
theorem kw_1392 : (Cond.selects "AnimationController" ({ cls := "AnimationController", name := "partWeight", desc := "(II)I" } : MethodName) ({ cls := "AnimationController", name := "partWeight", desc := "(II)I" } : MethodName)) ∈ gW := gW_n 1392 (by decide +kernel) rfl
theorem kw_1393 : (Cond.code ({ cls := "AnimationController", name := "partWeight", desc := "(II)I" } : MethodName) prog_1_method_29_code (5 : Nat) (Option.some FieldType.int)) ∈ gW := gW_n 1393 (by decide +kernel) rfl
theorem kw_1397 : (Cond.methodLink "AnimationControllerLaw" (98 : Nat) ({ cls := "AnimationController", name := "stateLength", desc := "(I)I" } : MethodName)) ∈ gW := gW_n 1397 (by decide +kernel) rfl
theorem kw_1398 : (Cond.instanceMethod ({ cls := "AnimationController", name := "stateLength", desc := "(I)I" } : MethodName)) ∈ gW := gW_n 1398 (by decide +kernel) rfl
theorem kw_1399 : (Cond.selects "AnimationController" ({ cls := "AnimationController", name := "stateLength", desc := "(I)I" } : MethodName) ({ cls := "AnimationController", name := "stateLength", desc := "(I)I" } : MethodName)) ∈ gW := gW_n 1399 (by decide +kernel) rfl
theorem kw_1400 : (Cond.code ({ cls := "AnimationController", name := "stateLength", desc := "(I)I" } : MethodName) prog_1_method_28_code (2 : Nat) (Option.some FieldType.int)) ∈ gW := gW_n 1400 (by decide +kernel) rfl
theorem kw_1402 : (Cond.constant "AnimationControllerLaw" (101 : Nat) (1000000 : Int32)) ∈ gW := gW_n 1402 (by decide +kernel) rfl
theorem kw_1403 : (Cond.methodLink "AnimationControllerLaw" (172 : Nat) ({ cls := "AnimationControllerLaw", name := "tale", desc := "(LAnimationController;)J" } : MethodName)) ∈ gW := gW_n 1403 (by decide +kernel) rfl
theorem kw_1404 : (Cond.static ({ cls := "AnimationControllerLaw", name := "tale", desc := "(LAnimationController;)J" } : MethodName)) ∈ gW := gW_n 1404 (by decide +kernel) rfl
theorem kw_1405 : (Cond.code ({ cls := "AnimationControllerLaw", name := "tale", desc := "(LAnimationController;)J" } : MethodName) method_11_code (6 : Nat) (Option.some FieldType.long)) ∈ gW := gW_n 1405 (by decide +kernel) rfl
theorem kw_1406 : (Cond.constantLong "AnimationControllerLaw" (105 : Nat) (31 : Int64)) ∈ gW := gW_n 1406 (by decide +kernel) rfl
theorem kw_1407 : (Cond.constantLong "AnimationControllerLaw" (107 : Nat) (37 : Int64)) ∈ gW := gW_n 1407 (by decide +kernel) rfl
theorem kw_1408 : (Cond.constantLong "AnimationControllerLaw" (109 : Nat) (41 : Int64)) ∈ gW := gW_n 1408 (by decide +kernel) rfl
theorem kw_1409 : (Cond.constantLong "AnimationControllerLaw" (111 : Nat) (43 : Int64)) ∈ gW := gW_n 1409 (by decide +kernel) rfl
theorem kw_1410 : (Cond.constantLong "AnimationControllerLaw" (117 : Nat) (47 : Int64)) ∈ gW := gW_n 1410 (by decide +kernel) rfl
theorem kw_1411 : (Cond.constantLong "AnimationControllerLaw" (122 : Nat) (53 : Int64)) ∈ gW := gW_n 1411 (by decide +kernel) rfl
theorem kw_1412 : (Cond.constantLong "AnimationControllerLaw" (127 : Nat) (59 : Int64)) ∈ gW := gW_n 1412 (by decide +kernel) rfl
theorem kw_1413 : (Cond.constantLong "AnimationControllerLaw" (129 : Nat) (61 : Int64)) ∈ gW := gW_n 1413 (by decide +kernel) rfl
theorem kw_1414 : (Cond.constantLong "AnimationControllerLaw" (131 : Nat) (67 : Int64)) ∈ gW := gW_n 1414 (by decide +kernel) rfl
theorem kw_1415 : (Cond.constantLong "AnimationControllerLaw" (133 : Nat) (71 : Int64)) ∈ gW := gW_n 1415 (by decide +kernel) rfl
theorem kw_1416 : (Cond.constantLong "AnimationControllerLaw" (138 : Nat) (73 : Int64)) ∈ gW := gW_n 1416 (by decide +kernel) rfl
theorem kw_1417 : (Cond.constantLong "AnimationControllerLaw" (140 : Nat) (5 : Int64)) ∈ gW := gW_n 1417 (by decide +kernel) rfl
theorem kw_1418 : (Cond.constantLong "AnimationControllerLaw" (142 : Nat) (7 : Int64)) ∈ gW := gW_n 1418 (by decide +kernel) rfl
theorem kw_1419 : (Cond.constantLong "AnimationControllerLaw" (144 : Nat) (79 : Int64)) ∈ gW := gW_n 1419 (by decide +kernel) rfl
theorem kw_1420 : (Cond.methodLink "AnimationControllerLaw" (146 : Nat) ({ cls := "AnimationController", name := "event", desc := "(II)I" } : MethodName)) ∈ gW := gW_n 1420 (by decide +kernel) rfl
theorem kw_1421 : (Cond.instanceMethod ({ cls := "AnimationController", name := "event", desc := "(II)I" } : MethodName)) ∈ gW := gW_n 1421 (by decide +kernel) rfl
theorem kw_1422 : (Cond.selects "AnimationController" ({ cls := "AnimationController", name := "event", desc := "(II)I" } : MethodName) ({ cls := "AnimationController", name := "event", desc := "(II)I" } : MethodName)) ∈ gW := gW_n 1422 (by decide +kernel) rfl
theorem kw_1423 : (Cond.code ({ cls := "AnimationController", name := "event", desc := "(II)I" } : MethodName) prog_1_method_36_code (3 : Nat) (Option.some FieldType.int)) ∈ gW := gW_n 1423 (by decide +kernel) rfl
theorem kw_1430 : (Cond.constantLong "AnimationControllerLaw" (149 : Nat) (3 : Int64)) ∈ gW := gW_n 1430 (by decide +kernel) rfl
theorem kw_1431 : (Cond.methodLink "AnimationControllerLaw" (185 : Nat) ({ cls := "AnimationControllerLaw", name := "place", desc := "(LAnimationController;)I" } : MethodName)) ∈ gW := gW_n 1431 (by decide +kernel) rfl
theorem kw_1432 : (Cond.static ({ cls := "AnimationControllerLaw", name := "place", desc := "(LAnimationController;)I" } : MethodName)) ∈ gW := gW_n 1432 (by decide +kernel) rfl
theorem kw_1433 : (Cond.code ({ cls := "AnimationControllerLaw", name := "place", desc := "(LAnimationController;)I" } : MethodName) method_12_code (1 : Nat) (Option.some FieldType.int)) ∈ gW := gW_n 1433 (by decide +kernel) rfl
theorem kw_35 : (Cond.classLink "AnimationControllerLaw" (9 : Nat) "AnimationController") ∈ gW := gW_n 35 (by decide +kernel) rfl
theorem kw_36 : (Cond.instantiable "AnimationController" (7 : Nat)) ∈ gW := gW_n 36 (by decide +kernel) rfl
theorem kw_37 : (Cond.methodLink "AnimationControllerLaw" (151 : Nat) ({ cls := "AnimationController", name := "<init>", desc := "()V" } : MethodName)) ∈ gW := gW_n 37 (by decide +kernel) rfl
theorem kw_38 : (Cond.instanceMethod ({ cls := "AnimationController", name := "<init>", desc := "()V" } : MethodName)) ∈ gW := gW_n 38 (by decide +kernel) rfl
theorem kw_39 : (Cond.code ({ cls := "AnimationController", name := "<init>", desc := "()V" } : MethodName) prog_1_method_1_code (2 : Nat) (Option.none : Option FieldType)) ∈ gW := gW_n 39 (by decide +kernel) rfl
theorem kw_442 : (Cond.methodLink "AnimationControllerLaw" (162 : Nat) ({ cls := "AnimationController", name := "set", desc := "(II)I" } : MethodName)) ∈ gW := gW_n 442 (by decide +kernel) rfl
theorem kw_443 : (Cond.instanceMethod ({ cls := "AnimationController", name := "set", desc := "(II)I" } : MethodName)) ∈ gW := gW_n 443 (by decide +kernel) rfl
theorem kw_444 : (Cond.selects "AnimationController" ({ cls := "AnimationController", name := "set", desc := "(II)I" } : MethodName) ({ cls := "AnimationController", name := "set", desc := "(II)I" } : MethodName)) ∈ gW := gW_n 444 (by decide +kernel) rfl
theorem kw_445 : (Cond.code ({ cls := "AnimationController", name := "set", desc := "(II)I" } : MethodName) prog_1_method_3_code (4 : Nat) (Option.some FieldType.int)) ∈ gW := gW_n 445 (by decide +kernel) rfl
theorem kw_554 : (Cond.methodLink "AnimationControllerLaw" (135 : Nat) ({ cls := "AnimationController", name := "value", desc := "(I)I" } : MethodName)) ∈ gW := gW_n 554 (by decide +kernel) rfl
theorem kw_555 : (Cond.instanceMethod ({ cls := "AnimationController", name := "value", desc := "(I)I" } : MethodName)) ∈ gW := gW_n 555 (by decide +kernel) rfl
theorem kw_556 : (Cond.selects "AnimationController" ({ cls := "AnimationController", name := "value", desc := "(I)I" } : MethodName) ({ cls := "AnimationController", name := "value", desc := "(I)I" } : MethodName)) ∈ gW := gW_n 556 (by decide +kernel) rfl
theorem kw_557 : (Cond.code ({ cls := "AnimationController", name := "value", desc := "(I)I" } : MethodName) prog_1_method_4_code (2 : Nat) (Option.some FieldType.int)) ∈ gW := gW_n 557 (by decide +kernel) rfl
theorem kw_558 : (Cond.methodLink "AnimationControllerLaw" (197 : Nat) ({ cls := "AnimationController", name := "reset", desc := "()I" } : MethodName)) ∈ gW := gW_n 558 (by decide +kernel) rfl
theorem kw_559 : (Cond.instanceMethod ({ cls := "AnimationController", name := "reset", desc := "()I" } : MethodName)) ∈ gW := gW_n 559 (by decide +kernel) rfl
theorem kw_560 : (Cond.selects "AnimationController" ({ cls := "AnimationController", name := "reset", desc := "()I" } : MethodName) ({ cls := "AnimationController", name := "reset", desc := "()I" } : MethodName)) ∈ gW := gW_n 560 (by decide +kernel) rfl
theorem kw_561 : (Cond.code ({ cls := "AnimationController", name := "reset", desc := "()I" } : MethodName) prog_1_method_21_code (2 : Nat) (Option.some FieldType.int)) ∈ gW := gW_n 561 (by decide +kernel) rfl
theorem kw_601 : (Cond.methodLink "AnimationControllerLaw" (102 : Nat) ({ cls := "AnimationController", name := "state", desc := "()I" } : MethodName)) ∈ gW := gW_n 601 (by decide +kernel) rfl
theorem kw_602 : (Cond.instanceMethod ({ cls := "AnimationController", name := "state", desc := "()I" } : MethodName)) ∈ gW := gW_n 602 (by decide +kernel) rfl
theorem kw_603 : (Cond.selects "AnimationController" ({ cls := "AnimationController", name := "state", desc := "()I" } : MethodName) ({ cls := "AnimationController", name := "state", desc := "()I" } : MethodName)) ∈ gW := gW_n 603 (by decide +kernel) rfl
theorem kw_604 : (Cond.code ({ cls := "AnimationController", name := "state", desc := "()I" } : MethodName) prog_1_method_22_code (1 : Nat) (Option.some FieldType.int)) ∈ gW := gW_n 604 (by decide +kernel) rfl
theorem kw_625 : (Cond.methodLink "AnimationControllerLaw" (83 : Nat) ({ cls := "AnimationController", name := "target", desc := "()I" } : MethodName)) ∈ gW := gW_n 625 (by decide +kernel) rfl
theorem kw_626 : (Cond.instanceMethod ({ cls := "AnimationController", name := "target", desc := "()I" } : MethodName)) ∈ gW := gW_n 626 (by decide +kernel) rfl
theorem kw_627 : (Cond.selects "AnimationController" ({ cls := "AnimationController", name := "target", desc := "()I" } : MethodName) ({ cls := "AnimationController", name := "target", desc := "()I" } : MethodName)) ∈ gW := gW_n 627 (by decide +kernel) rfl
theorem kw_628 : (Cond.code ({ cls := "AnimationController", name := "target", desc := "()I" } : MethodName) prog_1_method_23_code (1 : Nat) (Option.some FieldType.int)) ∈ gW := gW_n 628 (by decide +kernel) rfl
theorem kw_629 : (Cond.methodLink "AnimationControllerLaw" (113 : Nat) ({ cls := "AnimationController", name := "progress", desc := "(Z)J" } : MethodName)) ∈ gW := gW_n 629 (by decide +kernel) rfl
theorem kw_630 : (Cond.instanceMethod ({ cls := "AnimationController", name := "progress", desc := "(Z)J" } : MethodName)) ∈ gW := gW_n 630 (by decide +kernel) rfl
theorem kw_631 : (Cond.selects "AnimationController" ({ cls := "AnimationController", name := "progress", desc := "(Z)J" } : MethodName) ({ cls := "AnimationController", name := "progress", desc := "(Z)J" } : MethodName)) ∈ gW := gW_n 631 (by decide +kernel) rfl
theorem kw_632 : (Cond.code ({ cls := "AnimationController", name := "progress", desc := "(Z)J" } : MethodName) prog_1_method_27_code (2 : Nat) (Option.some FieldType.long)) ∈ gW := gW_n 632 (by decide +kernel) rfl
theorem kw_639 : (Cond.methodLink "AnimationControllerLaw" (67 : Nat) ({ cls := "AnimationController", name := "poseSize", desc := "()I" } : MethodName)) ∈ gW := gW_n 639 (by decide +kernel) rfl
theorem kw_640 : (Cond.instanceMethod ({ cls := "AnimationController", name := "poseSize", desc := "()I" } : MethodName)) ∈ gW := gW_n 640 (by decide +kernel) rfl
theorem kw_641 : (Cond.selects "AnimationController" ({ cls := "AnimationController", name := "poseSize", desc := "()I" } : MethodName) ({ cls := "AnimationController", name := "poseSize", desc := "()I" } : MethodName)) ∈ gW := gW_n 641 (by decide +kernel) rfl
theorem kw_642 : (Cond.code ({ cls := "AnimationController", name := "poseSize", desc := "()I" } : MethodName) prog_1_method_31_code (1 : Nat) (Option.some FieldType.int)) ∈ gW := gW_n 642 (by decide +kernel) rfl
theorem kw_703 : (Cond.methodLink "AnimationControllerLaw" (119 : Nat) ({ cls := "AnimationController", name := "fired", desc := "()I" } : MethodName)) ∈ gW := gW_n 703 (by decide +kernel) rfl
theorem kw_704 : (Cond.instanceMethod ({ cls := "AnimationController", name := "fired", desc := "()I" } : MethodName)) ∈ gW := gW_n 704 (by decide +kernel) rfl
theorem kw_705 : (Cond.selects "AnimationController" ({ cls := "AnimationController", name := "fired", desc := "()I" } : MethodName) ({ cls := "AnimationController", name := "fired", desc := "()I" } : MethodName)) ∈ gW := gW_n 705 (by decide +kernel) rfl
theorem kw_706 : (Cond.code ({ cls := "AnimationController", name := "fired", desc := "()I" } : MethodName) prog_1_method_35_code (1 : Nat) (Option.some FieldType.int)) ∈ gW := gW_n 706 (by decide +kernel) rfl
theorem kw_707 : (Cond.methodLink "AnimationControllerLaw" (176 : Nat) ({ cls := "AnimationController", name := "foretell", desc := "(I)I" } : MethodName)) ∈ gW := gW_n 707 (by decide +kernel) rfl
theorem kw_708 : (Cond.instanceMethod ({ cls := "AnimationController", name := "foretell", desc := "(I)I" } : MethodName)) ∈ gW := gW_n 708 (by decide +kernel) rfl
theorem kw_709 : (Cond.selects "AnimationController" ({ cls := "AnimationController", name := "foretell", desc := "(I)I" } : MethodName) ({ cls := "AnimationController", name := "foretell", desc := "(I)I" } : MethodName)) ∈ gW := gW_n 709 (by decide +kernel) rfl
theorem kw_710 : (Cond.code ({ cls := "AnimationController", name := "foretell", desc := "(I)I" } : MethodName) prog_1_method_37_code (3 : Nat) (Option.some FieldType.int)) ∈ gW := gW_n 710 (by decide +kernel) rfl
theorem kw_847 : (Cond.methodLink "AnimationControllerLaw" (179 : Nat) ({ cls := "AnimationController", name := "ticksTo", desc := "(I)I" } : MethodName)) ∈ gW := gW_n 847 (by decide +kernel) rfl
theorem kw_848 : (Cond.instanceMethod ({ cls := "AnimationController", name := "ticksTo", desc := "(I)I" } : MethodName)) ∈ gW := gW_n 848 (by decide +kernel) rfl
theorem kw_849 : (Cond.selects "AnimationController" ({ cls := "AnimationController", name := "ticksTo", desc := "(I)I" } : MethodName) ({ cls := "AnimationController", name := "ticksTo", desc := "(I)I" } : MethodName)) ∈ gW := gW_n 849 (by decide +kernel) rfl
theorem kw_850 : (Cond.code ({ cls := "AnimationController", name := "ticksTo", desc := "(I)I" } : MethodName) prog_1_method_38_code (4 : Nat) (Option.some FieldType.int)) ∈ gW := gW_n 850 (by decide +kernel) rfl
theorem kw_857 : (Cond.methodLink "AnimationControllerLaw" (182 : Nat) ({ cls := "AnimationController", name := "keep", desc := "(I)I" } : MethodName)) ∈ gW := gW_n 857 (by decide +kernel) rfl
theorem kw_858 : (Cond.instanceMethod ({ cls := "AnimationController", name := "keep", desc := "(I)I" } : MethodName)) ∈ gW := gW_n 858 (by decide +kernel) rfl
theorem kw_859 : (Cond.selects "AnimationController" ({ cls := "AnimationController", name := "keep", desc := "(I)I" } : MethodName) ({ cls := "AnimationController", name := "keep", desc := "(I)I" } : MethodName)) ∈ gW := gW_n 859 (by decide +kernel) rfl
theorem kw_860 : (Cond.code ({ cls := "AnimationController", name := "keep", desc := "(I)I" } : MethodName) prog_1_method_40_code (2 : Nat) (Option.some FieldType.int)) ∈ gW := gW_n 860 (by decide +kernel) rfl
theorem kw_866 : (Cond.methodLink "AnimationControllerLaw" (189 : Nat) ({ cls := "AnimationController", name := "restore", desc := "(I)I" } : MethodName)) ∈ gW := gW_n 866 (by decide +kernel) rfl
theorem kw_867 : (Cond.instanceMethod ({ cls := "AnimationController", name := "restore", desc := "(I)I" } : MethodName)) ∈ gW := gW_n 867 (by decide +kernel) rfl
theorem kw_868 : (Cond.selects "AnimationController" ({ cls := "AnimationController", name := "restore", desc := "(I)I" } : MethodName) ({ cls := "AnimationController", name := "restore", desc := "(I)I" } : MethodName)) ∈ gW := gW_n 868 (by decide +kernel) rfl
theorem kw_869 : (Cond.code ({ cls := "AnimationController", name := "restore", desc := "(I)I" } : MethodName) prog_1_method_41_code (2 : Nat) (Option.some FieldType.int)) ∈ gW := gW_n 869 (by decide +kernel) rfl
theorem kw_871 : (Cond.methodLink "AnimationControllerLaw" (124 : Nat) ({ cls := "AnimationController", name := "count", desc := "(I)I" } : MethodName)) ∈ gW := gW_n 871 (by decide +kernel) rfl
theorem kw_872 : (Cond.instanceMethod ({ cls := "AnimationController", name := "count", desc := "(I)I" } : MethodName)) ∈ gW := gW_n 872 (by decide +kernel) rfl
theorem kw_873 : (Cond.selects "AnimationController" ({ cls := "AnimationController", name := "count", desc := "(I)I" } : MethodName) ({ cls := "AnimationController", name := "count", desc := "(I)I" } : MethodName)) ∈ gW := gW_n 873 (by decide +kernel) rfl
theorem kw_874 : (Cond.code ({ cls := "AnimationController", name := "count", desc := "(I)I" } : MethodName) prog_1_method_42_code (2 : Nat) (Option.some FieldType.int)) ∈ gW := gW_n 874 (by decide +kernel) rfl
theorem kw_881 : (Cond.methodLink "AnimationControllerLaw" (34 : Nat) ({ cls := "AnimationControllerLaw", name := "cell", desc := "([II)I" } : MethodName)) ∈ gW := gW_n 881 (by decide +kernel) rfl
theorem kw_882 : (Cond.static ({ cls := "AnimationControllerLaw", name := "cell", desc := "([II)I" } : MethodName)) ∈ gW := gW_n 882 (by decide +kernel) rfl
theorem kw_883 : (Cond.code ({ cls := "AnimationControllerLaw", name := "cell", desc := "([II)I" } : MethodName) method_2_code (2 : Nat) (Option.some FieldType.int)) ∈ gW := gW_n 883 (by decide +kernel) rfl
theorem kw_884 : (Cond.methodLink "AnimationControllerLaw" (40 : Nat) ({ cls := "AnimationControllerLaw", name := "low", desc := "(II)I" } : MethodName)) ∈ gW := gW_n 884 (by decide +kernel) rfl
theorem kw_885 : (Cond.static ({ cls := "AnimationControllerLaw", name := "low", desc := "(II)I" } : MethodName)) ∈ gW := gW_n 885 (by decide +kernel) rfl
theorem kw_886 : (Cond.code ({ cls := "AnimationControllerLaw", name := "low", desc := "(II)I" } : MethodName) method_3_code (2 : Nat) (Option.some FieldType.int)) ∈ gW := gW_n 886 (by decide +kernel) rfl
theorem kw_887 : (Cond.constant "AnimationControllerLaw" (7 : Nat) (2147483647 : Int32)) ∈ gW := gW_n 887 (by decide +kernel) rfl
theorem kw_888 : (Cond.methodLink "AnimationControllerLaw" (152 : Nat) ({ cls := "AnimationControllerLaw", name := "tick", desc := "(LAnimationController;I)I" } : MethodName)) ∈ gW := gW_n 888 (by decide +kernel) rfl
theorem kw_889 : (Cond.static ({ cls := "AnimationControllerLaw", name := "tick", desc := "(LAnimationController;I)I" } : MethodName)) ∈ gW := gW_n 889 (by decide +kernel) rfl
theorem kw_890 : (Cond.codeWith ({ cls := "AnimationControllerLaw", name := "tick", desc := "(LAnimationController;I)I" } : MethodName) method_4_code (3 : Nat) (Option.some FieldType.int) [((0 : Nat), (5 : Nat), (6 : Nat), (14 : Nat)), ((0 : Nat), (5 : Nat), (9 : Nat), (16 : Nat))]) ∈ gW := gW_n 890 (by decide +kernel) rfl
theorem kw_891 : (Cond.classLink "AnimationControllerLaw" (14 : Nat) "java/lang/IllegalArgumentException") ∈ gW := gW_n 891 (by decide +kernel) rfl
theorem kw_892 : (Cond.classLink "AnimationControllerLaw" (16 : Nat) "java/lang/IllegalStateException") ∈ gW := gW_n 892 (by decide +kernel) rfl
theorem kw_893 : (Cond.methodLink "AnimationControllerLaw" (8 : Nat) ({ cls := "AnimationController", name := "tick", desc := "(I)I" } : MethodName)) ∈ gW := gW_n 893 (by decide +kernel) rfl
theorem kw_894 : (Cond.instanceMethod ({ cls := "AnimationController", name := "tick", desc := "(I)I" } : MethodName)) ∈ gW := gW_n 894 (by decide +kernel) rfl
theorem kw_895 : (Cond.selects "AnimationController" ({ cls := "AnimationController", name := "tick", desc := "(I)I" } : MethodName) ({ cls := "AnimationController", name := "tick", desc := "(I)I" } : MethodName)) ∈ gW := gW_n 895 (by decide +kernel) rfl
theorem kw_896 : (Cond.code ({ cls := "AnimationController", name := "tick", desc := "(I)I" } : MethodName) prog_1_method_20_code (4 : Nat) (Option.some FieldType.int)) ∈ gW := gW_n 896 (by decide +kernel) rfl
theorem kw_897 : (Cond.methodLink "AnimationControllerLaw" (155 : Nat) ({ cls := "AnimationControllerLaw", name := "addState", desc := "(LAnimationController;II)I" } : MethodName)) ∈ gW := gW_n 897 (by decide +kernel) rfl
theorem kw_898 : (Cond.static ({ cls := "AnimationControllerLaw", name := "addState", desc := "(LAnimationController;II)I" } : MethodName)) ∈ gW := gW_n 898 (by decide +kernel) rfl
theorem kw_899 : (Cond.codeWith ({ cls := "AnimationControllerLaw", name := "addState", desc := "(LAnimationController;II)I" } : MethodName) method_5_code (4 : Nat) (Option.some FieldType.int) [((0 : Nat), (8 : Nat), (9 : Nat), (22 : Nat)), ((0 : Nat), (8 : Nat), (12 : Nat), (14 : Nat)), ((0 : Nat), (8 : Nat), (16 : Nat), (16 : Nat))]) ∈ gW := gW_n 899 (by decide +kernel) rfl
theorem kw_900 : (Cond.classLink "AnimationControllerLaw" (22 : Nat) "java/lang/IndexOutOfBoundsException") ∈ gW := gW_n 900 (by decide +kernel) rfl
theorem kw_901 : (Cond.methodLink "AnimationControllerLaw" (18 : Nat) ({ cls := "AnimationController", name := "addState", desc := "(IIZI)I" } : MethodName)) ∈ gW := gW_n 901 (by decide +kernel) rfl
theorem kw_902 : (Cond.instanceMethod ({ cls := "AnimationController", name := "addState", desc := "(IIZI)I" } : MethodName)) ∈ gW := gW_n 902 (by decide +kernel) rfl
theorem kw_903 : (Cond.selects "AnimationController" ({ cls := "AnimationController", name := "addState", desc := "(IIZI)I" } : MethodName) ({ cls := "AnimationController", name := "addState", desc := "(IIZI)I" } : MethodName)) ∈ gW := gW_n 903 (by decide +kernel) rfl
theorem kw_904 : (Cond.code ({ cls := "AnimationController", name := "addState", desc := "(IIZI)I" } : MethodName) prog_1_method_10_code (7 : Nat) (Option.some FieldType.int)) ∈ gW := gW_n 904 (by decide +kernel) rfl
theorem kw_980 : (Cond.methodLink "AnimationControllerLaw" (192 : Nat) ({ cls := "AnimationControllerLaw", name := "addTransition", desc := "(LAnimationController;III)I" } : MethodName)) ∈ gW := gW_n 980 (by decide +kernel) rfl
theorem kw_981 : (Cond.static ({ cls := "AnimationControllerLaw", name := "addTransition", desc := "(LAnimationController;III)I" } : MethodName)) ∈ gW := gW_n 981 (by decide +kernel) rfl
theorem kw_982 : (Cond.codeWith ({ cls := "AnimationControllerLaw", name := "addTransition", desc := "(LAnimationController;III)I" } : MethodName) method_6_code (5 : Nat) (Option.some FieldType.int) [((0 : Nat), (7 : Nat), (8 : Nat), (22 : Nat)), ((0 : Nat), (7 : Nat), (12 : Nat), (14 : Nat)), ((0 : Nat), (7 : Nat), (17 : Nat), (16 : Nat))]) ∈ gW := gW_n 982 (by decide +kernel) rfl
theorem kw_983 : (Cond.methodLink "AnimationControllerLaw" (24 : Nat) ({ cls := "AnimationController", name := "addTransition", desc := "(III)I" } : MethodName)) ∈ gW := gW_n 983 (by decide +kernel) rfl
theorem kw_984 : (Cond.instanceMethod ({ cls := "AnimationController", name := "addTransition", desc := "(III)I" } : MethodName)) ∈ gW := gW_n 984 (by decide +kernel) rfl
theorem kw_985 : (Cond.selects "AnimationController" ({ cls := "AnimationController", name := "addTransition", desc := "(III)I" } : MethodName) ({ cls := "AnimationController", name := "addTransition", desc := "(III)I" } : MethodName)) ∈ gW := gW_n 985 (by decide +kernel) rfl
theorem kw_986 : (Cond.code ({ cls := "AnimationController", name := "addTransition", desc := "(III)I" } : MethodName) prog_1_method_11_code (7 : Nat) (Option.some FieldType.int)) ∈ gW := gW_n 986 (by decide +kernel) rfl
theorem kw_995 : (Cond.methodLink "AnimationControllerLaw" (195 : Nat) ({ cls := "AnimationControllerLaw", name := "addChild", desc := "(LAnimationController;III)I" } : MethodName)) ∈ gW := gW_n 995 (by decide +kernel) rfl
theorem kw_996 : (Cond.static ({ cls := "AnimationControllerLaw", name := "addChild", desc := "(LAnimationController;III)I" } : MethodName)) ∈ gW := gW_n 996 (by decide +kernel) rfl
theorem kw_997 : (Cond.codeWith ({ cls := "AnimationControllerLaw", name := "addChild", desc := "(LAnimationController;III)I" } : MethodName) method_7_code (5 : Nat) (Option.some FieldType.int) [((0 : Nat), (7 : Nat), (8 : Nat), (22 : Nat)), ((0 : Nat), (7 : Nat), (12 : Nat), (14 : Nat)), ((0 : Nat), (7 : Nat), (17 : Nat), (16 : Nat))]) ∈ gW := gW_n 997 (by decide +kernel) rfl
theorem kw_998 : (Cond.methodLink "AnimationControllerLaw" (28 : Nat) ({ cls := "AnimationController", name := "addChild", desc := "(III)I" } : MethodName)) ∈ gW := gW_n 998 (by decide +kernel) rfl
theorem kw_999 : (Cond.instanceMethod ({ cls := "AnimationController", name := "addChild", desc := "(III)I" } : MethodName)) ∈ gW := gW_n 999 (by decide +kernel) rfl
theorem gY_X11_tick : gYn yX11_tick 1 := ⟨by decide +kernel, by decide +kernel, by decide +kernel⟩
theorem lkL_8 : gLV RL 8 yX11_tick cX11_tick 4 (some FieldType.int) 1 := ⟨kw_893, kw_894, kw_895, kw_1, kw_896, gY_X11_tick⟩
theorem gY_X11_addState : gYn yX11_addState 4 := ⟨by decide +kernel, by decide +kernel, by decide +kernel⟩
theorem lkL_18 : gLV RL 18 yX11_addState cX11_addState 7 (some FieldType.int) 4 := ⟨kw_901, kw_902, kw_903, kw_1, kw_904, gY_X11_addState⟩
theorem gY_X11_addTransition : gYn yX11_addTransition 3 := ⟨by decide +kernel, by decide +kernel, by decide +kernel⟩
theorem lkL_24 : gLV RL 24 yX11_addTransition cX11_addTransition 7 (some FieldType.int) 3 := ⟨kw_983, kw_984, kw_985, kw_1, kw_986, gY_X11_addTransition⟩
theorem gY_X11_addChild : gYn yX11_addChild 3 := ⟨by decide +kernel, by decide +kernel, by decide +kernel⟩
theorem lkL_28 : gLV RL 28 yX11_addChild cX11_addChild 6 (some FieldType.int) 3 := ⟨kw_998, kw_999, kw_1000, kw_1, kw_1001, gY_X11_addChild⟩
theorem gY_X11_target : gYn yX11_target 0 := ⟨by decide +kernel, by decide +kernel, by decide +kernel⟩
theorem lkL_83 : gLV RL 83 yX11_target cX11_target 1 (some FieldType.int) 0 := ⟨kw_625, kw_626, kw_627, kw_1, kw_628, gY_X11_target⟩
theorem gY_X11_state : gYn yX11_state 0 := ⟨by decide +kernel, by decide +kernel, by decide +kernel⟩
theorem lkL_102 : gLV RL 102 yX11_state cX11_state 1 (some FieldType.int) 0 := ⟨kw_601, kw_602, kw_603, kw_1, kw_604, gY_X11_state⟩
theorem gY_X11_event : gYn yX11_event 2 := ⟨by decide +kernel, by decide +kernel, by decide +kernel⟩
theorem lkL_146 : gLV RL 146 yX11_event cX11_event 3 (some FieldType.int) 2 := ⟨kw_1420, kw_1421, kw_1422, kw_1, kw_1423, gY_X11_event⟩
theorem gY_X11_count : gYn yX11_count 1 := ⟨by decide +kernel, by decide +kernel, by decide +kernel⟩
theorem lkL_124 : gLV RL 124 yX11_count cX11_count 2 (some FieldType.int) 1 := ⟨kw_871, kw_872, kw_873, kw_1, kw_874, gY_X11_count⟩
theorem gY_X11_poseClip : gYn yX11_poseClip 1 := ⟨by decide +kernel, by decide +kernel, by decide +kernel⟩
theorem lkL_71 : gLV RL 71 yX11_poseClip cX11_poseClip 3 (some FieldType.int) 1 := ⟨kw_1361, kw_1362, kw_1363, kw_1, kw_1364, gY_X11_poseClip⟩
theorem gY_X11_poseTime : gYn yX11_poseTime 1 := ⟨by decide +kernel, by decide +kernel, by decide +kernel⟩
theorem lkL_74 : gLV RL 74 yX11_poseTime cX11_poseTime 3 (some FieldType.int) 1 := ⟨kw_1366, kw_1367, kw_1368, kw_1, kw_1369, gY_X11_poseTime⟩
theorem gY_X11_poseWeight : gYn yX11_poseWeight 1 := ⟨by decide +kernel, by decide +kernel, by decide +kernel⟩
theorem lkL_77 : gLV RL 77 yX11_poseWeight cX11_poseWeight 3 (some FieldType.int) 1 := ⟨kw_1370, kw_1371, kw_1372, kw_1, kw_1373, gY_X11_poseWeight⟩
theorem gY_X11_poseSize : gYn yX11_poseSize 0 := ⟨by decide +kernel, by decide +kernel, by decide +kernel⟩
theorem lkL_67 : gLV RL 67 yX11_poseSize cX11_poseSize 1 (some FieldType.int) 0 := ⟨kw_639, kw_640, kw_641, kw_1, kw_642, gY_X11_poseSize⟩
theorem gY_X11_value : gYn yX11_value 1 := ⟨by decide +kernel, by decide +kernel, by decide +kernel⟩
theorem lkL_135 : gLV RL 135 yX11_value cX11_value 2 (some FieldType.int) 1 := ⟨kw_554, kw_555, kw_556, kw_1, kw_557, gY_X11_value⟩
theorem gY_X11_transition : gYn yX11_transition 0 := ⟨by decide +kernel, by decide +kernel, by decide +kernel⟩
theorem lkL_80 : gLV RL 80 yX11_transition cX11_transition 1 (some FieldType.int) 0 := ⟨kw_1374, kw_1375, kw_1376, kw_1, kw_1377, gY_X11_transition⟩
theorem gY_X11_elapsed : gYn yX11_elapsed 0 := ⟨by decide +kernel, by decide +kernel, by decide +kernel⟩
theorem lkL_86 : gLV RL 86 yX11_elapsed cX11_elapsed 1 (some FieldType.int) 0 := ⟨kw_1378, kw_1379, kw_1380, kw_1, kw_1381, gY_X11_elapsed⟩
theorem gY_X11_progress : gYn yX11_progress 1 := ⟨by decide +kernel, by decide +kernel, by decide +kernel⟩
theorem lkL_113 : gLV RL 113 yX11_progress cX11_progress 2 (some FieldType.long) 1 := ⟨kw_629, kw_630, kw_631, kw_1, kw_632, gY_X11_progress⟩
theorem gY_X11_fired : gYn yX11_fired 0 := ⟨by decide +kernel, by decide +kernel, by decide +kernel⟩
theorem lkL_119 : gLV RL 119 yX11_fired cX11_fired 1 (some FieldType.int) 0 := ⟨kw_703, kw_704, kw_705, kw_1, kw_706, gY_X11_fired⟩
theorem gY_X11_stateLength : gYn yX11_stateLength 1 := ⟨by decide +kernel, by decide +kernel, by decide +kernel⟩
theorem lkL_98 : gLV RL 98 yX11_stateLength cX11_stateLength 2 (some FieldType.int) 1 := ⟨kw_1397, kw_1398, kw_1399, kw_1, kw_1400, gY_X11_stateLength⟩
theorem gY_X11_partWeight : gYn yX11_partWeight 2 := ⟨by decide +kernel, by decide +kernel, by decide +kernel⟩
theorem lkL_95 : gLV RL 95 yX11_partWeight cX11_partWeight 5 (some FieldType.int) 2 := ⟨kw_1390, kw_1391, kw_1392, kw_1, kw_1393, gY_X11_partWeight⟩
theorem gY_X11_isFrozen : gYn yX11_isFrozen 0 := ⟨by decide +kernel, by decide +kernel, by decide +kernel⟩
theorem lkL_89 : gLV RL 89 yX11_isFrozen cX11_isFrozen 1 (some FieldType.boolean) 0 := ⟨kw_1382, kw_1383, kw_1384, kw_1, kw_1385, gY_X11_isFrozen⟩
theorem gY_X11_addCondition : gYn yX11_addCondition 4 := ⟨by decide +kernel, by decide +kernel, by decide +kernel⟩
theorem lkL_63 : gLV RL 63 yX11_addCondition cX11_addCondition 6 (some FieldType.int) 4 := ⟨kw_1343, kw_1344, kw_1345, kw_1, kw_1346, gY_X11_addCondition⟩
theorem gY_L_low : gYn yL_low 2 := ⟨by decide +kernel, by decide +kernel, by decide +kernel⟩
theorem lkL_40 : gLS RL 40 yL_low cL_low 2 (some FieldType.int) 2 := ⟨kw_884, kw_885, kw_0, kw_886, gY_L_low⟩
theorem gY_X11_setInterruption : gYn yX11_setInterruption 3 := ⟨by decide +kernel, by decide +kernel, by decide +kernel⟩
theorem lkL_59 : gLV RL 59 yX11_setInterruption cX11_setInterruption 6 (some FieldType.int) 3 := ⟨kw_1338, kw_1339, kw_1340, kw_1, kw_1341, gY_X11_setInterruption⟩
theorem gY_X11_setTiming : gYn yX11_setTiming 3 := ⟨by decide +kernel, by decide +kernel, by decide +kernel⟩
theorem lkL_56 : gLV RL 56 yX11_setTiming cX11_setTiming 6 (some FieldType.int) 3 := ⟨kw_1327, kw_1328, kw_1329, kw_1, kw_1330, gY_X11_setTiming⟩
theorem gY_L_cell : gYn yL_cell 2 := ⟨by decide +kernel, by decide +kernel, by decide +kernel⟩
theorem lkL_34 : gLS RL 34 yL_cell cL_cell 2 (some .int) 2 := ⟨kw_881, kw_882, kw_0, kw_883, gY_L_cell⟩
theorem gY_X11_addClipNode : gYn yX11_addClipNode 1 := ⟨by decide +kernel, by decide +kernel, by decide +kernel⟩
theorem lkL_50 : gLV RL 50 yX11_addClipNode cX11_addClipNode 3 (some FieldType.int) 1 := ⟨kw_1311, kw_1312, kw_1313, kw_1, kw_1314, gY_X11_addClipNode⟩
theorem gY_X11_addEvent : gYn yX11_addEvent 3 := ⟨by decide +kernel, by decide +kernel, by decide +kernel⟩
theorem lkL_47 : gLV RL 47 yX11_addEvent cX11_addEvent 5 (some FieldType.int) 3 := ⟨kw_1296, kw_1297, kw_1298, kw_1, kw_1299, gY_X11_addEvent⟩
theorem gY_X11_addClip : gYn yX11_addClip 1 := ⟨by decide +kernel, by decide +kernel, by decide +kernel⟩
theorem lkL_44 : gLV RL 44 yX11_addClip cX11_addClip 2 (some FieldType.int) 1 := ⟨kw_1288, kw_1289, kw_1290, kw_1, kw_1291, gY_X11_addClip⟩
theorem gY_X11_addLine : gYn yX11_addLine 1 := ⟨by decide +kernel, by decide +kernel, by decide +kernel⟩
theorem lkL_53 : gLV RL 53 yX11_addLine cX11_addLine 2 (some FieldType.int) 1 := ⟨kw_1321, kw_1322, kw_1323, kw_1, kw_1324, gY_X11_addLine⟩
theorem gY_X11_addParameter : gYn yX11_addParameter 1 := ⟨by decide +kernel, by decide +kernel, by decide +kernel⟩
theorem lkL_31 : gLV RL 31 yX11_addParameter cX11_addParameter 2 (some FieldType.int) 1 := ⟨kw_1282, kw_1283, kw_1284, kw_1, kw_1285, gY_X11_addParameter⟩
theorem gY_L_tale : gYn yL_tale 1 := ⟨by decide +kernel, by decide +kernel, by decide +kernel⟩
theorem lkL_172 : gLS RL 172 yL_tale cL_tale 6 (some FieldType.long) 1 := ⟨kw_1403, kw_1404, kw_0, kw_1405, gY_L_tale⟩
theorem gY_X11_restore : gYn yX11_restore 1 := ⟨by decide +kernel, by decide +kernel, by decide +kernel⟩
theorem lkL_189 : gLV RL 189 yX11_restore cX11_restore 2 (some FieldType.int) 1 := ⟨kw_866, kw_867, kw_868, kw_1, kw_869, gY_X11_restore⟩
theorem gYl_L_tick : gYn yL_tick 2 := ⟨by decide +kernel, by decide +kernel, by decide +kernel⟩
theorem lwL_152 : gLW RL 152 yL_tick cL_tick 3 (some .int) [(0, 5, 6, 14), (0, 5, 9, 16)] 2 := ⟨kw_888, kw_889, kw_0, kw_890, gYl_L_tick⟩
theorem gYl_L_addState : gYn yL_addState 3 := ⟨by decide +kernel, by decide +kernel, by decide +kernel⟩
theorem lwL_155 : gLW RL 155 yL_addState cL_addState 4 (some .int) [(0, 8, 9, 22), (0, 8, 12, 14), (0, 8, 16, 16)] 3 := ⟨kw_897, kw_898, kw_0, kw_899, gYl_L_addState⟩
theorem gYl_L_addTransition : gYn yL_addTransition 4 := ⟨by decide +kernel, by decide +kernel, by decide +kernel⟩
theorem lwL_192 : gLW RL 192 yL_addTransition cL_addTransition 5 (some .int) [(0, 7, 8, 22), (0, 7, 12, 14), (0, 7, 17, 16)] 4 := ⟨kw_980, kw_981, kw_0, kw_982, gYl_L_addTransition⟩
theorem gYl_L_addChild : gYn yL_addChild 4 := ⟨by decide +kernel, by decide +kernel, by decide +kernel⟩
theorem lwL_195 : gLW RL 195 yL_addChild cL_addChild 5 (some .int) [(0, 7, 8, 22), (0, 7, 12, 14), (0, 7, 17, 16)] 4 := ⟨kw_995, kw_996, kw_0, kw_997, gYl_L_addChild⟩
theorem gY_X11_reset : gYn yX11_reset 0 := ⟨by decide +kernel, by decide +kernel, by decide +kernel⟩
theorem lkL_197 : gLV RL 197 yX11_reset cX11_reset 2 (some FieldType.int) 0 := ⟨kw_558, kw_559, kw_560, kw_1, kw_561, gY_X11_reset⟩
theorem gY_X11_set : gYn yX11_set 2 := ⟨by decide +kernel, by decide +kernel, by decide +kernel⟩
theorem lkL_162 : gLV RL 162 yX11_set cX11_set 4 (some FieldType.int) 2 := ⟨kw_442, kw_443, kw_444, kw_1, kw_445, gY_X11_set⟩
theorem gY_L_lengthsFit : gYn yL_lengthsFit 2 := ⟨by decide +kernel, by decide +kernel, by decide +kernel⟩
theorem lkL_165 : gLS RL 165 yL_lengthsFit cL_lengthsFit 8 (some FieldType.boolean) 2 := ⟨kw_1387, kw_1388, kw_0, kw_1389, gY_L_lengthsFit⟩
theorem gY_L_poseFits : gYn yL_poseFits 2 := ⟨by decide +kernel, by decide +kernel, by decide +kernel⟩
theorem lkL_169 : gLS RL 169 yL_poseFits cL_poseFits 8 (some FieldType.boolean) 2 := ⟨kw_1358, kw_1359, kw_0, kw_1360, gY_L_poseFits⟩
theorem gY_X11_foretell : gYn yX11_foretell 1 := ⟨by decide +kernel, by decide +kernel, by decide +kernel⟩
theorem lkL_176 : gLV RL 176 yX11_foretell cX11_foretell 3 (some FieldType.int) 1 := ⟨kw_707, kw_708, kw_709, kw_1, kw_710, gY_X11_foretell⟩
theorem gY_X11_ticksTo : gYn yX11_ticksTo 1 := ⟨by decide +kernel, by decide +kernel, by decide +kernel⟩
theorem lkL_179 : gLV RL 179 yX11_ticksTo cX11_ticksTo 4 (some FieldType.int) 1 := ⟨kw_847, kw_848, kw_849, kw_1, kw_850, gY_X11_ticksTo⟩
theorem gY_X11_keep : gYn yX11_keep 1 := ⟨by decide +kernel, by decide +kernel, by decide +kernel⟩
theorem lkL_182 : gLV RL 182 yX11_keep cX11_keep 2 (some FieldType.int) 1 := ⟨kw_857, kw_858, kw_859, kw_1, kw_860, gY_X11_keep⟩
theorem gY_L_place : gYn yL_place 1 := ⟨by decide +kernel, by decide +kernel, by decide +kernel⟩
theorem lkL_185 : gLS RL 185 yL_place cL_place 1 (some FieldType.int) 1 := ⟨kw_1431, kw_1432, kw_0, kw_1433, gY_L_place⟩
theorem nwL_9 : gNw RL 9 14 7 [.null, .null, .null, .null, .null, .null, .null] := ⟨RX11, TX11, tyX11, rfl, kw_35, kw_36, kw_1, inwX11, tyX11_ok, by decide +kernel⟩
theorem gY_X11_init : gYn yX11_init 0 := ⟨by decide +kernel, by decide +kernel, by decide +kernel⟩
theorem lkL_151 : gLI RL 151 yX11_init cX11_init 2 0 := ⟨kw_37, kw_38, kw_1, kw_39, rfl, gY_X11_init⟩
theorem gY_L_builds : gYn yL_builds 3 := ⟨by decide +kernel, by decide +kernel, by decide +kernel⟩
theorem lkL_158 : gLS RL 158 yL_builds cL_builds 8 none 3 := ⟨kw_1279, kw_1280, kw_0, kw_1281, gY_L_builds⟩
