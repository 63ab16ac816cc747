theorem tw_1055 : Cond.fieldLink RX12 293 "RodBeadsModel" "answer" "J" ∈ am_tb := List.mem_filter.mpr ⟨am_tk5 (List.mem_of_getElem? (i := 20) rfl), rfl⟩
theorem tw_1273 : Cond.code yX12_readsExpr cX12_readsExpr 2 (some .boolean) ∈ am_tb := List.mem_filter.mpr ⟨am_tk5 (List.mem_of_getElem? (i := 238) rfl), rfl⟩
theorem tw_1272 : Cond.instanceMethod yX12_readsExpr ∈ am_tb := List.mem_filter.mpr ⟨am_tk5 (List.mem_of_getElem? (i := 237) rfl), rfl⟩
theorem tw_52 : Cond.selects RX12 yX12_readsExpr yX12_readsExpr ∈ am_tb := List.mem_filter.mpr ⟨List.mem_of_getElem? (i := 52) (by decide +kernel), rfl⟩
theorem tw_1270 : Cond.methodLink RX12 296 yX12_readsExpr ∈ am_tb := List.mem_filter.mpr ⟨am_tk5 (List.mem_of_getElem? (i := 235) rfl), rfl⟩
theorem tw_1301 : Cond.instanceMethod yX12_sets ∈ am_tb := List.mem_filter.mpr ⟨am_tk6 (List.mem_of_getElem? (i := 26) rfl), rfl⟩
theorem tw_58 : Cond.selects RX12 yX12_sets yX12_sets ∈ am_tb := List.mem_filter.mpr ⟨List.mem_of_getElem? (i := 58) (by decide +kernel), rfl⟩
theorem tw_1299 : Cond.methodLink RX12 300 yX12_sets ∈ am_tb := List.mem_filter.mpr ⟨am_tk6 (List.mem_of_getElem? (i := 24) rfl), rfl⟩
theorem tw_1348 : Cond.instanceMethod yX12_clears ∈ am_tb := List.mem_filter.mpr ⟨am_tk6 (List.mem_of_getElem? (i := 73) rfl), rfl⟩
theorem tw_65 : Cond.selects RX12 yX12_clears yX12_clears ∈ am_tb := List.mem_filter.mpr ⟨List.mem_of_getElem? (i := 65) (by decide +kernel), rfl⟩
theorem tw_1346 : Cond.methodLink RX12 304 yX12_clears ∈ am_tb := List.mem_filter.mpr ⟨am_tk6 (List.mem_of_getElem? (i := 71) rfl), rfl⟩
theorem tw_1352 : Cond.instanceMethod yX12_carries ∈ am_tb := List.mem_filter.mpr ⟨am_tk6 (List.mem_of_getElem? (i := 77) rfl), rfl⟩
theorem tw_66 : Cond.selects RX12 yX12_carries yX12_carries ∈ am_tb := List.mem_filter.mpr ⟨List.mem_of_getElem? (i := 66) (by decide +kernel), rfl⟩
theorem tw_1350 : Cond.methodLink RX12 308 yX12_carries ∈ am_tb := List.mem_filter.mpr ⟨am_tk6 (List.mem_of_getElem? (i := 75) rfl), rfl⟩
theorem tw_1269 : Cond.code yX12_readsStatement cX12_readsStatement 5 (some .boolean) ∈ am_tb := List.mem_filter.mpr ⟨am_tk5 (List.mem_of_getElem? (i := 234) rfl), rfl⟩
theorem tw_1268 : Cond.instanceMethod yX12_readsStatement ∈ am_tb := List.mem_filter.mpr ⟨am_tk5 (List.mem_of_getElem? (i := 233) rfl), rfl⟩
theorem tw_51 : Cond.selects RX12 yX12_readsStatement yX12_readsStatement ∈ am_tb := List.mem_filter.mpr ⟨List.mem_of_getElem? (i := 51) (by decide +kernel), rfl⟩
theorem tw_1266 : Cond.methodLink RX12 311 yX12_readsStatement ∈ am_tb := List.mem_filter.mpr ⟨am_tk5 (List.mem_of_getElem? (i := 231) rfl), rfl⟩
theorem tw_1265 : Cond.code yX12_readsSums cX12_readsSums 4 (some .boolean) ∈ am_tb := List.mem_filter.mpr ⟨am_tk5 (List.mem_of_getElem? (i := 230) rfl), rfl⟩
theorem tw_1213 : Cond.instanceMethod yX12_readsFrame ∈ am_tb := List.mem_filter.mpr ⟨am_tk5 (List.mem_of_getElem? (i := 178) rfl), rfl⟩
theorem tw_41 : Cond.selects RX12 yX12_readsFrame yX12_readsFrame ∈ am_tb := List.mem_filter.mpr ⟨List.mem_of_getElem? (i := 41) (by decide +kernel), rfl⟩
theorem tw_1211 : Cond.methodLink RX12 314 yX12_readsFrame ∈ am_tb := List.mem_filter.mpr ⟨am_tk5 (List.mem_of_getElem? (i := 176) rfl), rfl⟩
theorem tw_1264 : Cond.instanceMethod yX12_readsSums ∈ am_tb := List.mem_filter.mpr ⟨am_tk5 (List.mem_of_getElem? (i := 229) rfl), rfl⟩
theorem tw_50 : Cond.selects RX12 yX12_readsSums yX12_readsSums ∈ am_tb := List.mem_filter.mpr ⟨List.mem_of_getElem? (i := 50) (by decide +kernel), rfl⟩
theorem tw_1262 : Cond.methodLink RX12 317 yX12_readsSums ∈ am_tb := List.mem_filter.mpr ⟨am_tk5 (List.mem_of_getElem? (i := 227) rfl), rfl⟩
theorem tw_1210 : Cond.code yX12_fault cX12_fault 3 (some .int) ∈ am_tb := List.mem_filter.mpr ⟨am_tk5 (List.mem_of_getElem? (i := 175) rfl), rfl⟩
theorem tw_1061 : Cond.fieldLink RX12 321 "RodBeadsModel" "seenMany" "I" ∈ am_tb := List.mem_filter.mpr ⟨am_tk5 (List.mem_of_getElem? (i := 26) rfl), rfl⟩
theorem tw_1056 : Cond.fieldLink RX12 324 "RodBeadsModel" "undoMany" "I" ∈ am_tb := List.mem_filter.mpr ⟨am_tk5 (List.mem_of_getElem? (i := 21) rfl), rfl⟩
theorem tw_1361 : Cond.code yX12_frame cX12_frame 2 (some .int) ∈ am_tb := List.mem_filter.mpr ⟨am_tk6 (List.mem_of_getElem? (i := 86) rfl), rfl⟩
theorem tw_1369 : Cond.code yX12_remember cX12_remember 2 none ∈ am_tb := List.mem_filter.mpr ⟨am_tk6 (List.mem_of_getElem? (i := 94) rfl), rfl⟩
theorem tw_1368 : Cond.instanceMethod yX12_remember ∈ am_tb := List.mem_filter.mpr ⟨am_tk6 (List.mem_of_getElem? (i := 93) rfl), rfl⟩
theorem tw_68 : Cond.selects RX12 yX12_remember yX12_remember ∈ am_tb := List.mem_filter.mpr ⟨List.mem_of_getElem? (i := 68) (by decide +kernel), rfl⟩
theorem tw_1366 : Cond.methodLink RX12 327 yX12_remember ∈ am_tb := List.mem_filter.mpr ⟨am_tk6 (List.mem_of_getElem? (i := 91) rfl), rfl⟩
theorem tw_1365 : Cond.code yX12_run cX12_run 1 (some .int) ∈ am_tb := List.mem_filter.mpr ⟨am_tk6 (List.mem_of_getElem? (i := 90) rfl), rfl⟩
theorem tw_1057 : Cond.fieldLink RX12 330 "RodBeadsModel" "undoAt" "I" ∈ am_tb := List.mem_filter.mpr ⟨am_tk5 (List.mem_of_getElem? (i := 22) rfl), rfl⟩
theorem tw_1377 : Cond.code yX12_isPart cX12_isPart 3 (some .boolean) ∈ am_tb := List.mem_filter.mpr ⟨am_tk6 (List.mem_of_getElem? (i := 102) rfl), rfl⟩
theorem tw_1376 : Cond.instanceMethod yX12_isPart ∈ am_tb := List.mem_filter.mpr ⟨am_tk6 (List.mem_of_getElem? (i := 101) rfl), rfl⟩
theorem tw_69 : Cond.selects RX12 yX12_isPart yX12_isPart ∈ am_tb := List.mem_filter.mpr ⟨List.mem_of_getElem? (i := 69) (by decide +kernel), rfl⟩
theorem tw_1374 : Cond.methodLink RX12 333 yX12_isPart ∈ am_tb := List.mem_filter.mpr ⟨am_tk6 (List.mem_of_getElem? (i := 99) rfl), rfl⟩
theorem tw_1380 : Cond.instanceMethod yX12_beads ∈ am_tb := List.mem_filter.mpr ⟨am_tk6 (List.mem_of_getElem? (i := 105) rfl), rfl⟩
theorem tw_70 : Cond.selects RX12 yX12_beads yX12_beads ∈ am_tb := List.mem_filter.mpr ⟨List.mem_of_getElem? (i := 70) (by decide +kernel), rfl⟩
theorem tw_1378 : Cond.methodLink RX12 336 yX12_beads ∈ am_tb := List.mem_filter.mpr ⟨am_tk6 (List.mem_of_getElem? (i := 103) rfl), rfl⟩
theorem tw_1382 : Cond.methodLink RX12 339 yX12_pushedOf ∈ am_tb := List.mem_filter.mpr ⟨am_tk6 (List.mem_of_getElem? (i := 107) rfl), rfl⟩
theorem tw_1383 : Cond.static yX12_pushedOf ∈ am_tb := List.mem_filter.mpr ⟨am_tk6 (List.mem_of_getElem? (i := 108) rfl), rfl⟩
theorem tw_1373 : Cond.code yX12_push cX12_push 5 (some .int) ∈ am_tb := List.mem_filter.mpr ⟨am_tk6 (List.mem_of_getElem? (i := 98) rfl), rfl⟩
theorem tw_1388 : Cond.code yX12_stick cX12_stick 3 (some .int) ∈ am_tb := List.mem_filter.mpr ⟨am_tk6 (List.mem_of_getElem? (i := 113) rfl), rfl⟩
theorem tw_1395 : Cond.code yX12_isNumber cX12_isNumber 1 (some .boolean) ∈ am_tb := List.mem_filter.mpr ⟨am_tk6 (List.mem_of_getElem? (i := 120) rfl), rfl⟩
theorem tw_1393 : Cond.methodLink RX12 342 yX12_isNumber ∈ am_tb := List.mem_filter.mpr ⟨am_tk6 (List.mem_of_getElem? (i := 118) rfl), rfl⟩
theorem tw_1394 : Cond.static yX12_isNumber ∈ am_tb := List.mem_filter.mpr ⟨am_tk6 (List.mem_of_getElem? (i := 119) rfl), rfl⟩
theorem tw_1392 : Cond.code yX12_set cX12_set 2 (some .int) ∈ am_tb := List.mem_filter.mpr ⟨am_tk6 (List.mem_of_getElem? (i := 117) rfl), rfl⟩
theorem tw_1403 : Cond.code yX12_copyNow cX12_copyNow 2 none ∈ am_tb := List.mem_filter.mpr ⟨am_tk6 (List.mem_of_getElem? (i := 128) rfl), rfl⟩
theorem tw_1402 : Cond.instanceMethod yX12_copyNow ∈ am_tb := List.mem_filter.mpr ⟨am_tk6 (List.mem_of_getElem? (i := 127) rfl), rfl⟩
theorem tw_71 : Cond.selects RX12 yX12_copyNow yX12_copyNow ∈ am_tb := List.mem_filter.mpr ⟨List.mem_of_getElem? (i := 71) (by decide +kernel), rfl⟩
theorem tw_1400 : Cond.methodLink RX12 345 yX12_copyNow ∈ am_tb := List.mem_filter.mpr ⟨am_tk6 (List.mem_of_getElem? (i := 125) rfl), rfl⟩
theorem tw_1399 : Cond.code yX12_carry cX12_carry 2 (some .int) ∈ am_tb := List.mem_filter.mpr ⟨am_tk6 (List.mem_of_getElem? (i := 124) rfl), rfl⟩
theorem tw_1407 : Cond.code yX12_undo cX12_undo 2 (some .int) ∈ am_tb := List.mem_filter.mpr ⟨am_tk6 (List.mem_of_getElem? (i := 132) rfl), rfl⟩
theorem tw_1415 : Cond.code yX12_allPushed cX12_allPushed 3 (some .int) ∈ am_tb := List.mem_filter.mpr ⟨am_tk6 (List.mem_of_getElem? (i := 140) rfl), rfl⟩
theorem tw_1414 : Cond.instanceMethod yX12_allPushed ∈ am_tb := List.mem_filter.mpr ⟨am_tk6 (List.mem_of_getElem? (i := 139) rfl), rfl⟩
theorem tw_72 : Cond.selects RX12 yX12_allPushed yX12_allPushed ∈ am_tb := List.mem_filter.mpr ⟨List.mem_of_getElem? (i := 72) (by decide +kernel), rfl⟩
theorem tw_1412 : Cond.methodLink RX12 348 yX12_allPushed ∈ am_tb := List.mem_filter.mpr ⟨am_tk6 (List.mem_of_getElem? (i := 137) rfl), rfl⟩
theorem tw_1411 : Cond.code yX12_keep cX12_keep 3 (some .int) ∈ am_tb := List.mem_filter.mpr ⟨am_tk6 (List.mem_of_getElem? (i := 136) rfl), rfl⟩
theorem tw_1419 : Cond.code yX12_back cX12_back 3 (some .int) ∈ am_tb := List.mem_filter.mpr ⟨am_tk6 (List.mem_of_getElem? (i := 144) rfl), rfl⟩
theorem tw_1423 : Cond.code yX12_ways cX12_ways 2 (some .int) ∈ am_tb := List.mem_filter.mpr ⟨am_tk6 (List.mem_of_getElem? (i := 148) rfl), rfl⟩
theorem tw_1427 : Cond.code yX12_time cX12_time 2 (some .int) ∈ am_tb := List.mem_filter.mpr ⟨am_tk6 (List.mem_of_getElem? (i := 152) rfl), rfl⟩
theorem tw_1431 : Cond.code yX12_pushed cX12_pushed 4 (some .int) ∈ am_tb := List.mem_filter.mpr ⟨am_tk6 (List.mem_of_getElem? (i := 156) rfl), rfl⟩
theorem tw_1441 : Cond.code yX12_edge cX12_edge 7 (some .long) ∈ am_tb := List.mem_filter.mpr ⟨am_tk6 (List.mem_of_getElem? (i := 166) rfl), rfl⟩
theorem tw_1436 : Cond.constantLong RX12 352 (2) ∈ am_tb := List.mem_filter.mpr ⟨am_tk6 (List.mem_of_getElem? (i := 161) rfl), rfl⟩
theorem tw_1437 : Cond.constantLong RX12 354 (-3) ∈ am_tb := List.mem_filter.mpr ⟨am_tk6 (List.mem_of_getElem? (i := 162) rfl), rfl⟩
theorem tw_1440 : Cond.instanceMethod yX12_edge ∈ am_tb := List.mem_filter.mpr ⟨am_tk6 (List.mem_of_getElem? (i := 165) rfl), rfl⟩
theorem tw_73 : Cond.selects RX12 yX12_edge yX12_edge ∈ am_tb := List.mem_filter.mpr ⟨List.mem_of_getElem? (i := 73) (by decide +kernel), rfl⟩
theorem tw_1438 : Cond.methodLink RX12 356 yX12_edge ∈ am_tb := List.mem_filter.mpr ⟨am_tk6 (List.mem_of_getElem? (i := 163) rfl), rfl⟩
theorem tw_1442 : Cond.constantLong RX12 360 (-1) ∈ am_tb := List.mem_filter.mpr ⟨am_tk6 (List.mem_of_getElem? (i := 167) rfl), rfl⟩
theorem tw_1435 : Cond.code yX12_span cX12_span 5 (some .long) ∈ am_tb := List.mem_filter.mpr ⟨am_tk6 (List.mem_of_getElem? (i := 160) rfl), rfl⟩
theorem tw_1446 : Cond.code yX12_nearest cX12_nearest 3 (some .int) ∈ am_tb := List.mem_filter.mpr ⟨am_tk6 (List.mem_of_getElem? (i := 171) rfl), rfl⟩
theorem tw_1451 : Cond.methodLink RX12 362 yX12_bits ∈ am_tb := List.mem_filter.mpr ⟨am_tk6 (List.mem_of_getElem? (i := 176) rfl), rfl⟩
theorem tw_1452 : Cond.static yX12_bits ∈ am_tb := List.mem_filter.mpr ⟨am_tk6 (List.mem_of_getElem? (i := 177) rfl), rfl⟩
theorem tw_1450 : Cond.code yX12_loosen cX12_loosen 5 (some .int) ∈ am_tb := List.mem_filter.mpr ⟨am_tk6 (List.mem_of_getElem? (i := 175) rfl), rfl⟩
theorem tw_1461 : Cond.code yX12_inOrder cX12_inOrder 5 (some .int) ∈ am_tb := List.mem_filter.mpr ⟨am_tk6 (List.mem_of_getElem? (i := 186) rfl), rfl⟩
theorem tw_1458 : Cond.constantLong RX12 365 (1000000) ∈ am_tb := List.mem_filter.mpr ⟨am_tk6 (List.mem_of_getElem? (i := 183) rfl), rfl⟩
theorem tw_1459 : Cond.methodLink RX12 367 yX12_inOrder ∈ am_tb := List.mem_filter.mpr ⟨am_tk6 (List.mem_of_getElem? (i := 184) rfl), rfl⟩
theorem tw_1460 : Cond.static yX12_inOrder ∈ am_tb := List.mem_filter.mpr ⟨am_tk6 (List.mem_of_getElem? (i := 185) rfl), rfl⟩
theorem tw_1457 : Cond.code yX12_tour cX12_tour 12 (some .int) ∈ am_tb := List.mem_filter.mpr ⟨am_tk6 (List.mem_of_getElem? (i := 182) rfl), rfl⟩
theorem tw_1466 : Cond.constantLong RX12 370 (40) ∈ am_tb := List.mem_filter.mpr ⟨am_tk6 (List.mem_of_getElem? (i := 191) rfl), rfl⟩
theorem tw_1467 : Cond.constantLong RX12 372 (99) ∈ am_tb := List.mem_filter.mpr ⟨am_tk6 (List.mem_of_getElem? (i := 192) rfl), rfl⟩
theorem tw_1465 : Cond.code yX12_seen cX12_seen 4 (some .int) ∈ am_tb := List.mem_filter.mpr ⟨am_tk6 (List.mem_of_getElem? (i := 190) rfl), rfl⟩
theorem tw_1471 : Cond.code yX12_forget cX12_forget 2 (some .int) ∈ am_tb := List.mem_filter.mpr ⟨am_tk6 (List.mem_of_getElem? (i := 196) rfl), rfl⟩
theorem tw_1479 : Cond.code yX12_least cX12_least 8 (some .int) ∈ am_tb := List.mem_filter.mpr ⟨am_tk6 (List.mem_of_getElem? (i := 204) rfl), rfl⟩
theorem tw_1478 : Cond.instanceMethod yX12_least ∈ am_tb := List.mem_filter.mpr ⟨am_tk6 (List.mem_of_getElem? (i := 203) rfl), rfl⟩
theorem tw_74 : Cond.selects RX12 yX12_least yX12_least ∈ am_tb := List.mem_filter.mpr ⟨List.mem_of_getElem? (i := 74) (by decide +kernel), rfl⟩
theorem tw_1476 : Cond.methodLink RX12 374 yX12_least ∈ am_tb := List.mem_filter.mpr ⟨am_tk6 (List.mem_of_getElem? (i := 201) rfl), rfl⟩
theorem tw_1475 : Cond.code yX12_kinds cX12_kinds 6 (some .int) ∈ am_tb := List.mem_filter.mpr ⟨am_tk6 (List.mem_of_getElem? (i := 200) rfl), rfl⟩
theorem tw_1491 : Cond.code yX12_common cX12_common 10 (some .long) ∈ am_tb := List.mem_filter.mpr ⟨am_tk6 (List.mem_of_getElem? (i := 216) rfl), rfl⟩
theorem tw_1488 : Cond.code yX12_partsOf cX12_partsOf 6 (some .long) ∈ am_tb := List.mem_filter.mpr ⟨am_tk6 (List.mem_of_getElem? (i := 213) rfl), rfl⟩
theorem tw_1484 : Cond.constantLong RX12 377 (-2) ∈ am_tb := List.mem_filter.mpr ⟨am_tk6 (List.mem_of_getElem? (i := 209) rfl), rfl⟩
theorem tw_1485 : Cond.constantLong RX12 379 (60) ∈ am_tb := List.mem_filter.mpr ⟨am_tk6 (List.mem_of_getElem? (i := 210) rfl), rfl⟩
theorem tw_1486 : Cond.methodLink RX12 381 yX12_partsOf ∈ am_tb := List.mem_filter.mpr ⟨am_tk6 (List.mem_of_getElem? (i := 211) rfl), rfl⟩
theorem tw_1487 : Cond.static yX12_partsOf ∈ am_tb := List.mem_filter.mpr ⟨am_tk6 (List.mem_of_getElem? (i := 212) rfl), rfl⟩
theorem tw_1489 : Cond.methodLink RX12 385 yX12_common ∈ am_tb := List.mem_filter.mpr ⟨am_tk6 (List.mem_of_getElem? (i := 214) rfl), rfl⟩
theorem tw_1490 : Cond.static yX12_common ∈ am_tb := List.mem_filter.mpr ⟨am_tk6 (List.mem_of_getElem? (i := 215) rfl), rfl⟩
theorem tw_1483 : Cond.code yX12_slips cX12_slips 11 (some .long) ∈ am_tb := List.mem_filter.mpr ⟨am_tk6 (List.mem_of_getElem? (i := 208) rfl), rfl⟩
theorem tw_1495 : Cond.code yX12_count cX12_count 4 (some .int) ∈ am_tb := List.mem_filter.mpr ⟨am_tk6 (List.mem_of_getElem? (i := 220) rfl), rfl⟩
theorem tw_1502 : Cond.fieldLink RJ0 9 "java/lang/String" "value" "[B" ∈ am_tb := List.mem_filter.mpr ⟨am_tk6 (List.mem_of_getElem? (i := 227) rfl), rfl⟩
theorem tw_373 : Cond.code yJ0_coder_7d493 cJ0_coder_7d493 1 (some .byte) ∈ am_tb := List.mem_filter.mpr ⟨am_tk2 (List.mem_of_getElem? (i := 58) rfl), rfl⟩
theorem tw_371 : Cond.instanceMethod yJ0_coder_7d493 ∈ am_tb := List.mem_filter.mpr ⟨am_tk2 (List.mem_of_getElem? (i := 56) rfl), rfl⟩
theorem tw_372 : Cond.selects RJ0 yJ0_coder_7d493 yJ0_coder_7d493 ∈ am_tb := List.mem_filter.mpr ⟨am_tk2 (List.mem_of_getElem? (i := 57) rfl), rfl⟩
theorem tw_370 : Cond.methodLink RJ0 335 yJ0_coder_7d493 ∈ am_tb := List.mem_filter.mpr ⟨am_tk2 (List.mem_of_getElem? (i := 55) rfl), rfl⟩
theorem tw_383 : Cond.code yJ0_isLatin1_aae02 cJ0_isLatin1_aae02 1 (some .boolean) ∈ am_tb := List.mem_filter.mpr ⟨am_tk2 (List.mem_of_getElem? (i := 68) rfl), rfl⟩
theorem tw_381 : Cond.instanceMethod yJ0_isLatin1_aae02 ∈ am_tb := List.mem_filter.mpr ⟨am_tk2 (List.mem_of_getElem? (i := 66) rfl), rfl⟩
theorem tw_382 : Cond.selects RJ0 yJ0_isLatin1_aae02 yJ0_isLatin1_aae02 ∈ am_tb := List.mem_filter.mpr ⟨am_tk2 (List.mem_of_getElem? (i := 67) rfl), rfl⟩
theorem tw_380 : Cond.methodLink RJ0 492 yJ0_isLatin1_aae02 ∈ am_tb := List.mem_filter.mpr ⟨am_tk2 (List.mem_of_getElem? (i := 65) rfl), rfl⟩
theorem tw_386 : Cond.code yJ1_charAt_3b067 cJ1_charAt_3b067 2 (some .char) ∈ am_tb := List.mem_filter.mpr ⟨am_tk2 (List.mem_of_getElem? (i := 71) rfl), rfl⟩
theorem tw_86 : Cond.initialized RJ1 ∈ am_tb := List.mem_filter.mpr ⟨am_tk1 (List.mem_of_getElem? (i := 11) rfl), rfl⟩
theorem tw_384 : Cond.methodLink RJ0 495 yJ1_charAt_3b067 ∈ am_tb := List.mem_filter.mpr ⟨am_tk2 (List.mem_of_getElem? (i := 69) rfl), rfl⟩
theorem tw_385 : Cond.static yJ1_charAt_3b067 ∈ am_tb := List.mem_filter.mpr ⟨am_tk2 (List.mem_of_getElem? (i := 70) rfl), rfl⟩
theorem tw_374 : Cond.fieldLink RJ0 38 "java/lang/String" "COMPACT_STRINGS" "Z" ∈ am_tb := List.mem_filter.mpr ⟨am_tk2 (List.mem_of_getElem? (i := 59) rfl), rfl⟩
theorem tw_1503 : Cond.fieldLink RJ0 15 "java/lang/String" "coder" "B" ∈ am_tb := List.mem_filter.mpr ⟨am_tk6 (List.mem_of_getElem? (i := 228) rfl), rfl⟩
theorem tw_390 : Cond.fieldLink RJ0 1053 "jdk/internal/util/Preconditions" "SIOOBE_FORMATTER" "Ljava/util/function/BiFunction;" ∈ am_tb := List.mem_filter.mpr ⟨am_tk2 (List.mem_of_getElem? (i := 75) rfl), rfl⟩
theorem tw_394 : Cond.code yJ3_checkIndex_8e157 cJ3_checkIndex_8e157 3 (some .int) ∈ am_tb := List.mem_filter.mpr ⟨am_tk2 (List.mem_of_getElem? (i := 79) rfl), rfl⟩
theorem tw_87 : Cond.initialized RJ3 ∈ am_tb := List.mem_filter.mpr ⟨am_tk1 (List.mem_of_getElem? (i := 12) rfl), rfl⟩
theorem tw_392 : Cond.methodLink RJ0 1059 yJ3_checkIndex_8e157 ∈ am_tb := List.mem_filter.mpr ⟨am_tk2 (List.mem_of_getElem? (i := 77) rfl), rfl⟩
theorem tw_393 : Cond.static yJ3_checkIndex_8e157 ∈ am_tb := List.mem_filter.mpr ⟨am_tk2 (List.mem_of_getElem? (i := 78) rfl), rfl⟩
theorem tw_389 : Cond.code yJ0_checkIndex_df160 cJ0_checkIndex_df160 2 none ∈ am_tb := List.mem_filter.mpr ⟨am_tk2 (List.mem_of_getElem? (i := 74) rfl), rfl⟩
theorem tw_387 : Cond.methodLink RJ1 9 yJ0_checkIndex_df160 ∈ am_tb := List.mem_filter.mpr ⟨am_tk2 (List.mem_of_getElem? (i := 72) rfl), rfl⟩
theorem tw_388 : Cond.static yJ0_checkIndex_df160 ∈ am_tb := List.mem_filter.mpr ⟨am_tk2 (List.mem_of_getElem? (i := 73) rfl), rfl⟩
theorem tw_95 : Cond.classLink RL 7 RX11 ∈ am_tb := List.mem_filter.mpr ⟨am_tk1 (List.mem_of_getElem? (i := 20) rfl), rfl⟩
theorem tw_96 : Cond.instantiable RX11 16 ∈ am_tb := List.mem_filter.mpr ⟨am_tk1 (List.mem_of_getElem? (i := 21) rfl), rfl⟩
theorem tw_97 : Cond.methodLink RL 9 yX11_init ∈ am_tb := List.mem_filter.mpr ⟨am_tk1 (List.mem_of_getElem? (i := 22) rfl), rfl⟩
theorem tw_98 : Cond.instanceMethod yX11_init ∈ am_tb := List.mem_filter.mpr ⟨am_tk1 (List.mem_of_getElem? (i := 23) rfl), rfl⟩
theorem tw_1015 : Cond.classLink RL 10 RX12 ∈ am_tb := List.mem_filter.mpr ⟨am_tk4 (List.mem_of_getElem? (i := 220) rfl), rfl⟩
theorem tw_1016 : Cond.instantiable RX12 44 ∈ am_tb := List.mem_filter.mpr ⟨am_tk4 (List.mem_of_getElem? (i := 221) rfl), rfl⟩
theorem tw_1017 : Cond.methodLink RL 12 yX12_init ∈ am_tb := List.mem_filter.mpr ⟨am_tk4 (List.mem_of_getElem? (i := 222) rfl), rfl⟩
theorem tw_1018 : Cond.instanceMethod yX12_init ∈ am_tb := List.mem_filter.mpr ⟨am_tk4 (List.mem_of_getElem? (i := 223) rfl), rfl⟩
theorem tw_302 : Cond.instanceMethod yX11_write ∈ am_tb := List.mem_filter.mpr ⟨am_tk1 (List.mem_of_getElem? (i := 227) rfl), rfl⟩
theorem tw_303 : Cond.selects RX11 yX11_write yX11_write ∈ am_tb := List.mem_filter.mpr ⟨am_tk1 (List.mem_of_getElem? (i := 228) rfl), rfl⟩
theorem tw_301 : Cond.methodLink RL 13 yX11_write ∈ am_tb := List.mem_filter.mpr ⟨am_tk1 (List.mem_of_getElem? (i := 226) rfl), rfl⟩
theorem tw_1199 : Cond.instanceMethod yX12_write ∈ am_tb := List.mem_filter.mpr ⟨am_tk5 (List.mem_of_getElem? (i := 164) rfl), rfl⟩
theorem tw_1200 : Cond.selects RX12 yX12_write yX12_write ∈ am_tb := List.mem_filter.mpr ⟨am_tk5 (List.mem_of_getElem? (i := 165) rfl), rfl⟩
theorem tw_1198 : Cond.methodLink RL 17 yX12_write ∈ am_tb := List.mem_filter.mpr ⟨am_tk5 (List.mem_of_getElem? (i := 163) rfl), rfl⟩
theorem tw_313 : Cond.instanceMethod yX11_erase ∈ am_tb := List.mem_filter.mpr ⟨am_tk1 (List.mem_of_getElem? (i := 238) rfl), rfl⟩
theorem tw_314 : Cond.selects RX11 yX11_erase yX11_erase ∈ am_tb := List.mem_filter.mpr ⟨am_tk1 (List.mem_of_getElem? (i := 239) rfl), rfl⟩
theorem tw_312 : Cond.methodLink RL 18 yX11_erase ∈ am_tb := List.mem_filter.mpr ⟨am_tk1 (List.mem_of_getElem? (i := 237) rfl), rfl⟩
theorem tw_1204 : Cond.instanceMethod yX12_erase ∈ am_tb := List.mem_filter.mpr ⟨am_tk5 (List.mem_of_getElem? (i := 169) rfl), rfl⟩
theorem tw_1205 : Cond.selects RX12 yX12_erase yX12_erase ∈ am_tb := List.mem_filter.mpr ⟨am_tk5 (List.mem_of_getElem? (i := 170) rfl), rfl⟩
theorem tw_1203 : Cond.methodLink RL 22 yX12_erase ∈ am_tb := List.mem_filter.mpr ⟨am_tk5 (List.mem_of_getElem? (i := 168) rfl), rfl⟩
theorem tw_317 : Cond.instanceMethod yX11_fault ∈ am_tb := List.mem_filter.mpr ⟨am_tk2 (List.mem_of_getElem? (i := 2) rfl), rfl⟩
theorem tw_318 : Cond.selects RX11 yX11_fault yX11_fault ∈ am_tb := List.mem_filter.mpr ⟨am_tk2 (List.mem_of_getElem? (i := 3) rfl), rfl⟩
theorem tw_316 : Cond.methodLink RL 23 yX11_fault ∈ am_tb := List.mem_filter.mpr ⟨am_tk2 (List.mem_of_getElem? (i := 1) rfl), rfl⟩
theorem tw_1208 : Cond.instanceMethod yX12_fault ∈ am_tb := List.mem_filter.mpr ⟨am_tk5 (List.mem_of_getElem? (i := 173) rfl), rfl⟩
theorem tw_1209 : Cond.selects RX12 yX12_fault yX12_fault ∈ am_tb := List.mem_filter.mpr ⟨am_tk5 (List.mem_of_getElem? (i := 174) rfl), rfl⟩
theorem tw_1207 : Cond.methodLink RL 26 yX12_fault ∈ am_tb := List.mem_filter.mpr ⟨am_tk5 (List.mem_of_getElem? (i := 172) rfl), rfl⟩
theorem tw_568 : Cond.instanceMethod yX11_frame ∈ am_tb := List.mem_filter.mpr ⟨am_tk3 (List.mem_of_getElem? (i := 13) rfl), rfl⟩
theorem tw_569 : Cond.selects RX11 yX11_frame yX11_frame ∈ am_tb := List.mem_filter.mpr ⟨am_tk3 (List.mem_of_getElem? (i := 14) rfl), rfl⟩
theorem tw_567 : Cond.methodLink RL 27 yX11_frame ∈ am_tb := List.mem_filter.mpr ⟨am_tk3 (List.mem_of_getElem? (i := 12) rfl), rfl⟩
theorem tw_1359 : Cond.instanceMethod yX12_frame ∈ am_tb := List.mem_filter.mpr ⟨am_tk6 (List.mem_of_getElem? (i := 84) rfl), rfl⟩
theorem tw_1360 : Cond.selects RX12 yX12_frame yX12_frame ∈ am_tb := List.mem_filter.mpr ⟨am_tk6 (List.mem_of_getElem? (i := 85) rfl), rfl⟩
theorem tw_1358 : Cond.methodLink RL 30 yX12_frame ∈ am_tb := List.mem_filter.mpr ⟨am_tk6 (List.mem_of_getElem? (i := 83) rfl), rfl⟩
theorem tw_579 : Cond.instanceMethod yX11_run ∈ am_tb := List.mem_filter.mpr ⟨am_tk3 (List.mem_of_getElem? (i := 24) rfl), rfl⟩
theorem tw_580 : Cond.selects RX11 yX11_run yX11_run ∈ am_tb := List.mem_filter.mpr ⟨am_tk3 (List.mem_of_getElem? (i := 25) rfl), rfl⟩
theorem tw_578 : Cond.methodLink RL 31 yX11_run ∈ am_tb := List.mem_filter.mpr ⟨am_tk3 (List.mem_of_getElem? (i := 23) rfl), rfl⟩
theorem tw_1363 : Cond.instanceMethod yX12_run ∈ am_tb := List.mem_filter.mpr ⟨am_tk6 (List.mem_of_getElem? (i := 88) rfl), rfl⟩
theorem tw_1364 : Cond.selects RX12 yX12_run yX12_run ∈ am_tb := List.mem_filter.mpr ⟨am_tk6 (List.mem_of_getElem? (i := 89) rfl), rfl⟩
theorem tw_1362 : Cond.methodLink RL 34 yX12_run ∈ am_tb := List.mem_filter.mpr ⟨am_tk6 (List.mem_of_getElem? (i := 87) rfl), rfl⟩
theorem tw_783 : Cond.instanceMethod yX11_rod ∈ am_tb := List.mem_filter.mpr ⟨am_tk3 (List.mem_of_getElem? (i := 228) rfl), rfl⟩
theorem tw_784 : Cond.selects RX11 yX11_rod yX11_rod ∈ am_tb := List.mem_filter.mpr ⟨am_tk3 (List.mem_of_getElem? (i := 229) rfl), rfl⟩
theorem tw_782 : Cond.methodLink RL 35 yX11_rod ∈ am_tb := List.mem_filter.mpr ⟨am_tk3 (List.mem_of_getElem? (i := 227) rfl), rfl⟩
theorem tw_1177 : Cond.instanceMethod yX12_rod ∈ am_tb := List.mem_filter.mpr ⟨am_tk5 (List.mem_of_getElem? (i := 142) rfl), rfl⟩
theorem tw_1178 : Cond.selects RX12 yX12_rod yX12_rod ∈ am_tb := List.mem_filter.mpr ⟨am_tk5 (List.mem_of_getElem? (i := 143) rfl), rfl⟩
theorem tw_1176 : Cond.methodLink RL 39 yX12_rod ∈ am_tb := List.mem_filter.mpr ⟨am_tk5 (List.mem_of_getElem? (i := 141) rfl), rfl⟩
theorem tw_803 : Cond.instanceMethod yX11_number ∈ am_tb := List.mem_filter.mpr ⟨am_tk4 (List.mem_of_getElem? (i := 8) rfl), rfl⟩
theorem tw_804 : Cond.selects RX11 yX11_number yX11_number ∈ am_tb := List.mem_filter.mpr ⟨am_tk4 (List.mem_of_getElem? (i := 9) rfl), rfl⟩
theorem tw_802 : Cond.methodLink RL 40 yX11_number ∈ am_tb := List.mem_filter.mpr ⟨am_tk4 (List.mem_of_getElem? (i := 7) rfl), rfl⟩
theorem tw_1157 : Cond.instanceMethod yX12_number ∈ am_tb := List.mem_filter.mpr ⟨am_tk5 (List.mem_of_getElem? (i := 122) rfl), rfl⟩
theorem tw_1158 : Cond.selects RX12 yX12_number yX12_number ∈ am_tb := List.mem_filter.mpr ⟨am_tk5 (List.mem_of_getElem? (i := 123) rfl), rfl⟩
theorem tw_1156 : Cond.methodLink RL 44 yX12_number ∈ am_tb := List.mem_filter.mpr ⟨am_tk5 (List.mem_of_getElem? (i := 121) rfl), rfl⟩
theorem tw_807 : Cond.instanceMethod yX11_as ∈ am_tb := List.mem_filter.mpr ⟨am_tk4 (List.mem_of_getElem? (i := 12) rfl), rfl⟩
theorem tw_808 : Cond.selects RX11 yX11_as yX11_as ∈ am_tb := List.mem_filter.mpr ⟨am_tk4 (List.mem_of_getElem? (i := 13) rfl), rfl⟩
theorem tw_806 : Cond.methodLink RL 45 yX11_as ∈ am_tb := List.mem_filter.mpr ⟨am_tk4 (List.mem_of_getElem? (i := 11) rfl), rfl⟩
theorem tw_1194 : Cond.instanceMethod yX12_as ∈ am_tb := List.mem_filter.mpr ⟨am_tk5 (List.mem_of_getElem? (i := 159) rfl), rfl⟩
theorem tw_1195 : Cond.selects RX12 yX12_as yX12_as ∈ am_tb := List.mem_filter.mpr ⟨am_tk5 (List.mem_of_getElem? (i := 160) rfl), rfl⟩
theorem tw_1193 : Cond.methodLink RL 48 yX12_as ∈ am_tb := List.mem_filter.mpr ⟨am_tk5 (List.mem_of_getElem? (i := 158) rfl), rfl⟩
theorem tw_819 : Cond.instanceMethod yX11_push ∈ am_tb := List.mem_filter.mpr ⟨am_tk4 (List.mem_of_getElem? (i := 24) rfl), rfl⟩
theorem tw_820 : Cond.selects RX11 yX11_push yX11_push ∈ am_tb := List.mem_filter.mpr ⟨am_tk4 (List.mem_of_getElem? (i := 25) rfl), rfl⟩
theorem tw_818 : Cond.methodLink RL 49 yX11_push ∈ am_tb := List.mem_filter.mpr ⟨am_tk4 (List.mem_of_getElem? (i := 23) rfl), rfl⟩
theorem tw_1371 : Cond.instanceMethod yX12_push ∈ am_tb := List.mem_filter.mpr ⟨am_tk6 (List.mem_of_getElem? (i := 96) rfl), rfl⟩
theorem tw_1372 : Cond.selects RX12 yX12_push yX12_push ∈ am_tb := List.mem_filter.mpr ⟨am_tk6 (List.mem_of_getElem? (i := 97) rfl), rfl⟩
theorem tw_1370 : Cond.methodLink RL 53 yX12_push ∈ am_tb := List.mem_filter.mpr ⟨am_tk6 (List.mem_of_getElem? (i := 95) rfl), rfl⟩
theorem tw_835 : Cond.instanceMethod yX11_stick ∈ am_tb := List.mem_filter.mpr ⟨am_tk4 (List.mem_of_getElem? (i := 40) rfl), rfl⟩
theorem tw_836 : Cond.selects RX11 yX11_stick yX11_stick ∈ am_tb := List.mem_filter.mpr ⟨am_tk4 (List.mem_of_getElem? (i := 41) rfl), rfl⟩
theorem tw_834 : Cond.methodLink RL 54 yX11_stick ∈ am_tb := List.mem_filter.mpr ⟨am_tk4 (List.mem_of_getElem? (i := 39) rfl), rfl⟩
theorem tw_1386 : Cond.instanceMethod yX12_stick ∈ am_tb := List.mem_filter.mpr ⟨am_tk6 (List.mem_of_getElem? (i := 111) rfl), rfl⟩
theorem tw_1387 : Cond.selects RX12 yX12_stick yX12_stick ∈ am_tb := List.mem_filter.mpr ⟨am_tk6 (List.mem_of_getElem? (i := 112) rfl), rfl⟩
theorem tw_1385 : Cond.methodLink RL 57 yX12_stick ∈ am_tb := List.mem_filter.mpr ⟨am_tk6 (List.mem_of_getElem? (i := 110) rfl), rfl⟩
theorem tw_840 : Cond.instanceMethod yX11_set ∈ am_tb := List.mem_filter.mpr ⟨am_tk4 (List.mem_of_getElem? (i := 45) rfl), rfl⟩
theorem tw_841 : Cond.selects RX11 yX11_set yX11_set ∈ am_tb := List.mem_filter.mpr ⟨am_tk4 (List.mem_of_getElem? (i := 46) rfl), rfl⟩
theorem tw_839 : Cond.methodLink RL 58 yX11_set ∈ am_tb := List.mem_filter.mpr ⟨am_tk4 (List.mem_of_getElem? (i := 44) rfl), rfl⟩
theorem tw_1390 : Cond.instanceMethod yX12_set ∈ am_tb := List.mem_filter.mpr ⟨am_tk6 (List.mem_of_getElem? (i := 115) rfl), rfl⟩
theorem tw_1391 : Cond.selects RX12 yX12_set yX12_set ∈ am_tb := List.mem_filter.mpr ⟨am_tk6 (List.mem_of_getElem? (i := 116) rfl), rfl⟩
theorem tw_1389 : Cond.methodLink RL 61 yX12_set ∈ am_tb := List.mem_filter.mpr ⟨am_tk6 (List.mem_of_getElem? (i := 114) rfl), rfl⟩
theorem tw_852 : Cond.instanceMethod yX11_carry ∈ am_tb := List.mem_filter.mpr ⟨am_tk4 (List.mem_of_getElem? (i := 57) rfl), rfl⟩
theorem tw_853 : Cond.selects RX11 yX11_carry yX11_carry ∈ am_tb := List.mem_filter.mpr ⟨am_tk4 (List.mem_of_getElem? (i := 58) rfl), rfl⟩
theorem tw_851 : Cond.methodLink RL 62 yX11_carry ∈ am_tb := List.mem_filter.mpr ⟨am_tk4 (List.mem_of_getElem? (i := 56) rfl), rfl⟩
theorem tw_1397 : Cond.instanceMethod yX12_carry ∈ am_tb := List.mem_filter.mpr ⟨am_tk6 (List.mem_of_getElem? (i := 122) rfl), rfl⟩
theorem tw_1398 : Cond.selects RX12 yX12_carry yX12_carry ∈ am_tb := List.mem_filter.mpr ⟨am_tk6 (List.mem_of_getElem? (i := 123) rfl), rfl⟩
theorem tw_1396 : Cond.methodLink RL 65 yX12_carry ∈ am_tb := List.mem_filter.mpr ⟨am_tk6 (List.mem_of_getElem? (i := 121) rfl), rfl⟩
theorem tw_856 : Cond.instanceMethod yX11_undo ∈ am_tb := List.mem_filter.mpr ⟨am_tk4 (List.mem_of_getElem? (i := 61) rfl), rfl⟩
theorem tw_857 : Cond.selects RX11 yX11_undo yX11_undo ∈ am_tb := List.mem_filter.mpr ⟨am_tk4 (List.mem_of_getElem? (i := 62) rfl), rfl⟩
theorem tw_855 : Cond.methodLink RL 66 yX11_undo ∈ am_tb := List.mem_filter.mpr ⟨am_tk4 (List.mem_of_getElem? (i := 60) rfl), rfl⟩
theorem tw_1405 : Cond.instanceMethod yX12_undo ∈ am_tb := List.mem_filter.mpr ⟨am_tk6 (List.mem_of_getElem? (i := 130) rfl), rfl⟩
theorem tw_1406 : Cond.selects RX12 yX12_undo yX12_undo ∈ am_tb := List.mem_filter.mpr ⟨am_tk6 (List.mem_of_getElem? (i := 131) rfl), rfl⟩
theorem tw_1404 : Cond.methodLink RL 69 yX12_undo ∈ am_tb := List.mem_filter.mpr ⟨am_tk6 (List.mem_of_getElem? (i := 129) rfl), rfl⟩
theorem tw_860 : Cond.instanceMethod yX11_keep ∈ am_tb := List.mem_filter.mpr ⟨am_tk4 (List.mem_of_getElem? (i := 65) rfl), rfl⟩
theorem tw_861 : Cond.selects RX11 yX11_keep yX11_keep ∈ am_tb := List.mem_filter.mpr ⟨am_tk4 (List.mem_of_getElem? (i := 66) rfl), rfl⟩
theorem tw_859 : Cond.methodLink RL 70 yX11_keep ∈ am_tb := List.mem_filter.mpr ⟨am_tk4 (List.mem_of_getElem? (i := 64) rfl), rfl⟩
theorem tw_1409 : Cond.instanceMethod yX12_keep ∈ am_tb := List.mem_filter.mpr ⟨am_tk6 (List.mem_of_getElem? (i := 134) rfl), rfl⟩
theorem tw_1410 : Cond.selects RX12 yX12_keep yX12_keep ∈ am_tb := List.mem_filter.mpr ⟨am_tk6 (List.mem_of_getElem? (i := 135) rfl), rfl⟩
theorem tw_1408 : Cond.methodLink RL 73 yX12_keep ∈ am_tb := List.mem_filter.mpr ⟨am_tk6 (List.mem_of_getElem? (i := 133) rfl), rfl⟩
theorem tw_868 : Cond.instanceMethod yX11_back ∈ am_tb := List.mem_filter.mpr ⟨am_tk4 (List.mem_of_getElem? (i := 73) rfl), rfl⟩
theorem tw_869 : Cond.selects RX11 yX11_back yX11_back ∈ am_tb := List.mem_filter.mpr ⟨am_tk4 (List.mem_of_getElem? (i := 74) rfl), rfl⟩
theorem tw_867 : Cond.methodLink RL 74 yX11_back ∈ am_tb := List.mem_filter.mpr ⟨am_tk4 (List.mem_of_getElem? (i := 72) rfl), rfl⟩
theorem tw_1417 : Cond.instanceMethod yX12_back ∈ am_tb := List.mem_filter.mpr ⟨am_tk6 (List.mem_of_getElem? (i := 142) rfl), rfl⟩
theorem tw_1418 : Cond.selects RX12 yX12_back yX12_back ∈ am_tb := List.mem_filter.mpr ⟨am_tk6 (List.mem_of_getElem? (i := 143) rfl), rfl⟩
theorem tw_1416 : Cond.methodLink RL 77 yX12_back ∈ am_tb := List.mem_filter.mpr ⟨am_tk6 (List.mem_of_getElem? (i := 141) rfl), rfl⟩
theorem tw_872 : Cond.instanceMethod yX11_ways ∈ am_tb := List.mem_filter.mpr ⟨am_tk4 (List.mem_of_getElem? (i := 77) rfl), rfl⟩
theorem tw_873 : Cond.selects RX11 yX11_ways yX11_ways ∈ am_tb := List.mem_filter.mpr ⟨am_tk4 (List.mem_of_getElem? (i := 78) rfl), rfl⟩
theorem tw_871 : Cond.methodLink RL 78 yX11_ways ∈ am_tb := List.mem_filter.mpr ⟨am_tk4 (List.mem_of_getElem? (i := 76) rfl), rfl⟩
theorem tw_1421 : Cond.instanceMethod yX12_ways ∈ am_tb := List.mem_filter.mpr ⟨am_tk6 (List.mem_of_getElem? (i := 146) rfl), rfl⟩
theorem tw_1422 : Cond.selects RX12 yX12_ways yX12_ways ∈ am_tb := List.mem_filter.mpr ⟨am_tk6 (List.mem_of_getElem? (i := 147) rfl), rfl⟩
theorem tw_1420 : Cond.methodLink RL 81 yX12_ways ∈ am_tb := List.mem_filter.mpr ⟨am_tk6 (List.mem_of_getElem? (i := 145) rfl), rfl⟩
theorem tw_884 : Cond.instanceMethod yX11_time ∈ am_tb := List.mem_filter.mpr ⟨am_tk4 (List.mem_of_getElem? (i := 89) rfl), rfl⟩
theorem tw_885 : Cond.selects RX11 yX11_time yX11_time ∈ am_tb := List.mem_filter.mpr ⟨am_tk4 (List.mem_of_getElem? (i := 90) rfl), rfl⟩
theorem tw_883 : Cond.methodLink RL 82 yX11_time ∈ am_tb := List.mem_filter.mpr ⟨am_tk4 (List.mem_of_getElem? (i := 88) rfl), rfl⟩
theorem tw_1425 : Cond.instanceMethod yX12_time ∈ am_tb := List.mem_filter.mpr ⟨am_tk6 (List.mem_of_getElem? (i := 150) rfl), rfl⟩
theorem tw_1426 : Cond.selects RX12 yX12_time yX12_time ∈ am_tb := List.mem_filter.mpr ⟨am_tk6 (List.mem_of_getElem? (i := 151) rfl), rfl⟩
theorem tw_1424 : Cond.methodLink RL 85 yX12_time ∈ am_tb := List.mem_filter.mpr ⟨am_tk6 (List.mem_of_getElem? (i := 149) rfl), rfl⟩
theorem tw_892 : Cond.instanceMethod yX11_pushed ∈ am_tb := List.mem_filter.mpr ⟨am_tk4 (List.mem_of_getElem? (i := 97) rfl), rfl⟩
theorem tw_893 : Cond.selects RX11 yX11_pushed yX11_pushed ∈ am_tb := List.mem_filter.mpr ⟨am_tk4 (List.mem_of_getElem? (i := 98) rfl), rfl⟩
theorem tw_891 : Cond.methodLink RL 86 yX11_pushed ∈ am_tb := List.mem_filter.mpr ⟨am_tk4 (List.mem_of_getElem? (i := 96) rfl), rfl⟩
theorem tw_1429 : Cond.instanceMethod yX12_pushed ∈ am_tb := List.mem_filter.mpr ⟨am_tk6 (List.mem_of_getElem? (i := 154) rfl), rfl⟩
theorem tw_1430 : Cond.selects RX12 yX12_pushed yX12_pushed ∈ am_tb := List.mem_filter.mpr ⟨am_tk6 (List.mem_of_getElem? (i := 155) rfl), rfl⟩
theorem tw_1428 : Cond.methodLink RL 89 yX12_pushed ∈ am_tb := List.mem_filter.mpr ⟨am_tk6 (List.mem_of_getElem? (i := 153) rfl), rfl⟩
theorem tw_896 : Cond.instanceMethod yX11_span ∈ am_tb := List.mem_filter.mpr ⟨am_tk4 (List.mem_of_getElem? (i := 101) rfl), rfl⟩
theorem tw_897 : Cond.selects RX11 yX11_span yX11_span ∈ am_tb := List.mem_filter.mpr ⟨am_tk4 (List.mem_of_getElem? (i := 102) rfl), rfl⟩
theorem tw_895 : Cond.methodLink RL 90 yX11_span ∈ am_tb := List.mem_filter.mpr ⟨am_tk4 (List.mem_of_getElem? (i := 100) rfl), rfl⟩
theorem tw_1433 : Cond.instanceMethod yX12_span ∈ am_tb := List.mem_filter.mpr ⟨am_tk6 (List.mem_of_getElem? (i := 158) rfl), rfl⟩
theorem tw_1434 : Cond.selects RX12 yX12_span yX12_span ∈ am_tb := List.mem_filter.mpr ⟨am_tk6 (List.mem_of_getElem? (i := 159) rfl), rfl⟩
theorem tw_1432 : Cond.methodLink RL 94 yX12_span ∈ am_tb := List.mem_filter.mpr ⟨am_tk6 (List.mem_of_getElem? (i := 157) rfl), rfl⟩
theorem tw_931 : Cond.instanceMethod yX11_nearest ∈ am_tb := List.mem_filter.mpr ⟨am_tk4 (List.mem_of_getElem? (i := 136) rfl), rfl⟩
theorem tw_932 : Cond.selects RX11 yX11_nearest yX11_nearest ∈ am_tb := List.mem_filter.mpr ⟨am_tk4 (List.mem_of_getElem? (i := 137) rfl), rfl⟩
theorem tw_930 : Cond.methodLink RL 95 yX11_nearest ∈ am_tb := List.mem_filter.mpr ⟨am_tk4 (List.mem_of_getElem? (i := 135) rfl), rfl⟩
theorem tw_1444 : Cond.instanceMethod yX12_nearest ∈ am_tb := List.mem_filter.mpr ⟨am_tk6 (List.mem_of_getElem? (i := 169) rfl), rfl⟩
theorem tw_1445 : Cond.selects RX12 yX12_nearest yX12_nearest ∈ am_tb := List.mem_filter.mpr ⟨am_tk6 (List.mem_of_getElem? (i := 170) rfl), rfl⟩
theorem tw_1443 : Cond.methodLink RL 98 yX12_nearest ∈ am_tb := List.mem_filter.mpr ⟨am_tk6 (List.mem_of_getElem? (i := 168) rfl), rfl⟩
theorem tw_940 : Cond.instanceMethod yX11_loosen ∈ am_tb := List.mem_filter.mpr ⟨am_tk4 (List.mem_of_getElem? (i := 145) rfl), rfl⟩
theorem tw_941 : Cond.selects RX11 yX11_loosen yX11_loosen ∈ am_tb := List.mem_filter.mpr ⟨am_tk4 (List.mem_of_getElem? (i := 146) rfl), rfl⟩
theorem tw_939 : Cond.methodLink RL 99 yX11_loosen ∈ am_tb := List.mem_filter.mpr ⟨am_tk4 (List.mem_of_getElem? (i := 144) rfl), rfl⟩
theorem tw_1448 : Cond.instanceMethod yX12_loosen ∈ am_tb := List.mem_filter.mpr ⟨am_tk6 (List.mem_of_getElem? (i := 173) rfl), rfl⟩
theorem tw_1449 : Cond.selects RX12 yX12_loosen yX12_loosen ∈ am_tb := List.mem_filter.mpr ⟨am_tk6 (List.mem_of_getElem? (i := 174) rfl), rfl⟩
theorem tw_1447 : Cond.methodLink RL 102 yX12_loosen ∈ am_tb := List.mem_filter.mpr ⟨am_tk6 (List.mem_of_getElem? (i := 172) rfl), rfl⟩
theorem tw_944 : Cond.instanceMethod yX11_tour ∈ am_tb := List.mem_filter.mpr ⟨am_tk4 (List.mem_of_getElem? (i := 149) rfl), rfl⟩
theorem tw_945 : Cond.selects RX11 yX11_tour yX11_tour ∈ am_tb := List.mem_filter.mpr ⟨am_tk4 (List.mem_of_getElem? (i := 150) rfl), rfl⟩
theorem tw_943 : Cond.methodLink RL 103 yX11_tour ∈ am_tb := List.mem_filter.mpr ⟨am_tk4 (List.mem_of_getElem? (i := 148) rfl), rfl⟩
theorem tw_1455 : Cond.instanceMethod yX12_tour ∈ am_tb := List.mem_filter.mpr ⟨am_tk6 (List.mem_of_getElem? (i := 180) rfl), rfl⟩
theorem tw_1456 : Cond.selects RX12 yX12_tour yX12_tour ∈ am_tb := List.mem_filter.mpr ⟨am_tk6 (List.mem_of_getElem? (i := 181) rfl), rfl⟩
theorem tw_1454 : Cond.methodLink RL 107 yX12_tour ∈ am_tb := List.mem_filter.mpr ⟨am_tk6 (List.mem_of_getElem? (i := 179) rfl), rfl⟩
theorem tw_966 : Cond.instanceMethod yX11_seen ∈ am_tb := List.mem_filter.mpr ⟨am_tk4 (List.mem_of_getElem? (i := 171) rfl), rfl⟩
theorem tw_967 : Cond.selects RX11 yX11_seen yX11_seen ∈ am_tb := List.mem_filter.mpr ⟨am_tk4 (List.mem_of_getElem? (i := 172) rfl), rfl⟩
theorem tw_965 : Cond.methodLink RL 108 yX11_seen ∈ am_tb := List.mem_filter.mpr ⟨am_tk4 (List.mem_of_getElem? (i := 170) rfl), rfl⟩
theorem tw_1463 : Cond.instanceMethod yX12_seen ∈ am_tb := List.mem_filter.mpr ⟨am_tk6 (List.mem_of_getElem? (i := 188) rfl), rfl⟩
theorem tw_1464 : Cond.selects RX12 yX12_seen yX12_seen ∈ am_tb := List.mem_filter.mpr ⟨am_tk6 (List.mem_of_getElem? (i := 189) rfl), rfl⟩
theorem tw_1462 : Cond.methodLink RL 111 yX12_seen ∈ am_tb := List.mem_filter.mpr ⟨am_tk6 (List.mem_of_getElem? (i := 187) rfl), rfl⟩
theorem tw_971 : Cond.instanceMethod yX11_forget ∈ am_tb := List.mem_filter.mpr ⟨am_tk4 (List.mem_of_getElem? (i := 176) rfl), rfl⟩
theorem tw_972 : Cond.selects RX11 yX11_forget yX11_forget ∈ am_tb := List.mem_filter.mpr ⟨am_tk4 (List.mem_of_getElem? (i := 177) rfl), rfl⟩
theorem tw_970 : Cond.methodLink RL 112 yX11_forget ∈ am_tb := List.mem_filter.mpr ⟨am_tk4 (List.mem_of_getElem? (i := 175) rfl), rfl⟩
theorem tw_1469 : Cond.instanceMethod yX12_forget ∈ am_tb := List.mem_filter.mpr ⟨am_tk6 (List.mem_of_getElem? (i := 194) rfl), rfl⟩
theorem tw_1470 : Cond.selects RX12 yX12_forget yX12_forget ∈ am_tb := List.mem_filter.mpr ⟨am_tk6 (List.mem_of_getElem? (i := 195) rfl), rfl⟩
theorem tw_1468 : Cond.methodLink RL 115 yX12_forget ∈ am_tb := List.mem_filter.mpr ⟨am_tk6 (List.mem_of_getElem? (i := 193) rfl), rfl⟩
theorem tw_975 : Cond.instanceMethod yX11_kinds ∈ am_tb := List.mem_filter.mpr ⟨am_tk4 (List.mem_of_getElem? (i := 180) rfl), rfl⟩
theorem tw_976 : Cond.selects RX11 yX11_kinds yX11_kinds ∈ am_tb := List.mem_filter.mpr ⟨am_tk4 (List.mem_of_getElem? (i := 181) rfl), rfl⟩
theorem tw_974 : Cond.methodLink RL 116 yX11_kinds ∈ am_tb := List.mem_filter.mpr ⟨am_tk4 (List.mem_of_getElem? (i := 179) rfl), rfl⟩
theorem tw_1473 : Cond.instanceMethod yX12_kinds ∈ am_tb := List.mem_filter.mpr ⟨am_tk6 (List.mem_of_getElem? (i := 198) rfl), rfl⟩
theorem tw_1474 : Cond.selects RX12 yX12_kinds yX12_kinds ∈ am_tb := List.mem_filter.mpr ⟨am_tk6 (List.mem_of_getElem? (i := 199) rfl), rfl⟩
theorem tw_1472 : Cond.methodLink RL 119 yX12_kinds ∈ am_tb := List.mem_filter.mpr ⟨am_tk6 (List.mem_of_getElem? (i := 197) rfl), rfl⟩
theorem tw_993 : Cond.instanceMethod yX11_slips ∈ am_tb := List.mem_filter.mpr ⟨am_tk4 (List.mem_of_getElem? (i := 198) rfl), rfl⟩
theorem tw_994 : Cond.selects RX11 yX11_slips yX11_slips ∈ am_tb := List.mem_filter.mpr ⟨am_tk4 (List.mem_of_getElem? (i := 199) rfl), rfl⟩
theorem tw_992 : Cond.methodLink RL 120 yX11_slips ∈ am_tb := List.mem_filter.mpr ⟨am_tk4 (List.mem_of_getElem? (i := 197) rfl), rfl⟩
theorem tw_1481 : Cond.instanceMethod yX12_slips ∈ am_tb := List.mem_filter.mpr ⟨am_tk6 (List.mem_of_getElem? (i := 206) rfl), rfl⟩
theorem tw_1482 : Cond.selects RX12 yX12_slips yX12_slips ∈ am_tb := List.mem_filter.mpr ⟨am_tk6 (List.mem_of_getElem? (i := 207) rfl), rfl⟩
theorem tw_1480 : Cond.methodLink RL 124 yX12_slips ∈ am_tb := List.mem_filter.mpr ⟨am_tk6 (List.mem_of_getElem? (i := 205) rfl), rfl⟩
theorem tw_1008 : Cond.instanceMethod yX11_count ∈ am_tb := List.mem_filter.mpr ⟨am_tk4 (List.mem_of_getElem? (i := 213) rfl), rfl⟩
theorem tw_1009 : Cond.selects RX11 yX11_count yX11_count ∈ am_tb := List.mem_filter.mpr ⟨am_tk4 (List.mem_of_getElem? (i := 214) rfl), rfl⟩
theorem tw_1007 : Cond.methodLink RL 125 yX11_count ∈ am_tb := List.mem_filter.mpr ⟨am_tk4 (List.mem_of_getElem? (i := 212) rfl), rfl⟩
theorem tw_1493 : Cond.instanceMethod yX12_count ∈ am_tb := List.mem_filter.mpr ⟨am_tk6 (List.mem_of_getElem? (i := 218) rfl), rfl⟩
theorem tw_1494 : Cond.selects RX12 yX12_count yX12_count ∈ am_tb := List.mem_filter.mpr ⟨am_tk6 (List.mem_of_getElem? (i := 219) rfl), rfl⟩
theorem tw_1492 : Cond.methodLink RL 128 yX12_count ∈ am_tb := List.mem_filter.mpr ⟨am_tk6 (List.mem_of_getElem? (i := 217) rfl), rfl⟩
