theorem iu_X11 : ∀ w ∈ u_ws RX11 TX11 2, w ∈ mz_ws := fun w h => List.mem_filter.mpr ⟨inX11 w h, List.all_eq_true.mp (show (u_ws RX11 TX11 2).all goodWord = true by decide +kernel) w h⟩
theorem iu_X10 : ∀ w ∈ u_ws RX10 TX10 16, w ∈ mz_ws := fun w h => List.mem_filter.mpr ⟨inX10 w h, List.all_eq_true.mp (show (u_ws RX10 TX10 16).all goodWord = true by decide +kernel) w h⟩
theorem hy_X10_attend : mz_Y yX10_attend cX10_attend 4 none 1 := ⟨mz_in 1396 (by decide +kernel) (by decide +kernel), mz_in 42 (by decide +kernel) (by decide +kernel), mz_in 71 (by decide +kernel) (by decide +kernel), mz_in 1397 (by decide +kernel) (by decide +kernel), ⟨by decide +kernel, by decide +kernel, by decide +kernel⟩⟩
theorem hy_X10_canPlay : mz_Y yX10_canPlay cX10_canPlay 4 (some .boolean) 2 := ⟨mz_in 1446 (by decide +kernel) (by decide +kernel), mz_in 1447 (by decide +kernel) (by decide +kernel), mz_in 71 (by decide +kernel) (by decide +kernel), mz_in 1448 (by decide +kernel) (by decide +kernel), ⟨by decide +kernel, by decide +kernel, by decide +kernel⟩⟩
theorem hy_X10_go : mz_Y yX10_go cX10_go 4 (some .int) 0 := ⟨mz_in 1352 (by decide +kernel) (by decide +kernel), mz_in 1353 (by decide +kernel) (by decide +kernel), mz_in 71 (by decide +kernel) (by decide +kernel), mz_in 1354 (by decide +kernel) (by decide +kernel), ⟨by decide +kernel, by decide +kernel, by decide +kernel⟩⟩
theorem hy_X10_guestsIn : mz_Y yX10_guestsIn cX10_guestsIn 4 (some .int) 1 := ⟨mz_in 1332 (by decide +kernel) (by decide +kernel), mz_in 1333 (by decide +kernel) (by decide +kernel), mz_in 71 (by decide +kernel) (by decide +kernel), mz_in 1334 (by decide +kernel) (by decide +kernel), ⟨by decide +kernel, by decide +kernel, by decide +kernel⟩⟩
-- X10_init: no words (1197, None, 71, None)
theorem hy_X10_isBusy : mz_Y yX10_isBusy cX10_isBusy 3 (some .boolean) 1 := ⟨mz_in 1365 (by decide +kernel) (by decide +kernel), mz_in 39 (by decide +kernel) (by decide +kernel), mz_in 71 (by decide +kernel) (by decide +kernel), mz_in 1366 (by decide +kernel) (by decide +kernel), ⟨by decide +kernel, by decide +kernel, by decide +kernel⟩⟩
theorem hy_X10_isOverlapped : mz_Y yX10_isOverlapped cX10_isOverlapped 4 (some .boolean) 2 := ⟨mz_in 1320 (by decide +kernel) (by decide +kernel), mz_in 1321 (by decide +kernel) (by decide +kernel), mz_in 71 (by decide +kernel) (by decide +kernel), mz_in 1322 (by decide +kernel) (by decide +kernel), ⟨by decide +kernel, by decide +kernel, by decide +kernel⟩⟩
theorem hy_X10_known : mz_Y yX10_known cX10_known 4 (some .int) 1 := ⟨mz_in 1499 (by decide +kernel) (by decide +kernel), mz_in 1500 (by decide +kernel) (by decide +kernel), mz_in 71 (by decide +kernel) (by decide +kernel), mz_in 1501 (by decide +kernel) (by decide +kernel), ⟨by decide +kernel, by decide +kernel, by decide +kernel⟩⟩
theorem hy_X10_lies : mz_Y yX10_lies cX10_lies 3 (some .boolean) 2 := ⟨mz_in 1399 (by decide +kernel) (by decide +kernel), mz_in 1400 (by decide +kernel) (by decide +kernel), mz_in 71 (by decide +kernel) (by decide +kernel), mz_in 1401 (by decide +kernel) (by decide +kernel), ⟨by decide +kernel, by decide +kernel, by decide +kernel⟩⟩
theorem hy_X10_loop : mz_Y yX10_loop cX10_loop 3 none 0 := ⟨mz_in 1361 (by decide +kernel) (by decide +kernel), mz_in 38 (by decide +kernel) (by decide +kernel), mz_in 71 (by decide +kernel) (by decide +kernel), mz_in 1362 (by decide +kernel) (by decide +kernel), ⟨by decide +kernel, by decide +kernel, by decide +kernel⟩⟩
theorem hy_X10_measure : mz_Y yX10_measure cX10_measure 4 none 0 := ⟨mz_in 1290 (by decide +kernel) (by decide +kernel), mz_in 1291 (by decide +kernel) (by decide +kernel), mz_in 71 (by decide +kernel) (by decide +kernel), mz_in 1292 (by decide +kernel) (by decide +kernel), ⟨by decide +kernel, by decide +kernel, by decide +kernel⟩⟩
theorem hy_X10_minute : mz_Y yX10_minute cX10_minute 1 (some .int) 0 := ⟨mz_in 1356 (by decide +kernel) (by decide +kernel), mz_in 1357 (by decide +kernel) (by decide +kernel), mz_in 71 (by decide +kernel) (by decide +kernel), mz_in 1358 (by decide +kernel) (by decide +kernel), ⟨by decide +kernel, by decide +kernel, by decide +kernel⟩⟩
theorem hy_X10_move : mz_Y yX10_move cX10_move 5 none 3 := ⟨mz_in 1421 (by decide +kernel) (by decide +kernel), mz_in 45 (by decide +kernel) (by decide +kernel), mz_in 71 (by decide +kernel) (by decide +kernel), mz_in 1422 (by decide +kernel) (by decide +kernel), ⟨by decide +kernel, by decide +kernel, by decide +kernel⟩⟩
theorem hy_X10_next : mz_Y yX10_next cX10_next 4 (some .int) 2 := ⟨mz_in 1387 (by decide +kernel) (by decide +kernel), mz_in 1388 (by decide +kernel) (by decide +kernel), mz_in 71 (by decide +kernel) (by decide +kernel), mz_in 1389 (by decide +kernel) (by decide +kernel), ⟨by decide +kernel, by decide +kernel, by decide +kernel⟩⟩
theorem hy_X10_nextScene : mz_Y yX10_nextScene cX10_nextScene 7 (some .int) 1 := ⟨mz_in 1383 (by decide +kernel) (by decide +kernel), mz_in 1384 (by decide +kernel) (by decide +kernel), mz_in 71 (by decide +kernel) (by decide +kernel), mz_in 1385 (by decide +kernel) (by decide +kernel), ⟨by decide +kernel, by decide +kernel, by decide +kernel⟩⟩
theorem hy_X10_overlap : mz_Y yX10_overlap cX10_overlap 3 (some .boolean) 2 := ⟨mz_in 1325 (by decide +kernel) (by decide +kernel), mz_in 35 (by decide +kernel) (by decide +kernel), mz_in 71 (by decide +kernel) (by decide +kernel), mz_in 1326 (by decide +kernel) (by decide +kernel), ⟨by decide +kernel, by decide +kernel, by decide +kernel⟩⟩
theorem hy_X10_plays : mz_Y yX10_plays cX10_plays 3 (some .int) 1 := ⟨mz_in 1368 (by decide +kernel) (by decide +kernel), mz_in 1369 (by decide +kernel) (by decide +kernel), mz_in 71 (by decide +kernel) (by decide +kernel), mz_in 1370 (by decide +kernel) (by decide +kernel), ⟨by decide +kernel, by decide +kernel, by decide +kernel⟩⟩
theorem hy_X10_roomOf : mz_Y yX10_roomOf cX10_roomOf 2 (some .int) 1 := ⟨mz_in 1403 (by decide +kernel) (by decide +kernel), mz_in 1404 (by decide +kernel) (by decide +kernel), mz_in 71 (by decide +kernel) (by decide +kernel), mz_in 1405 (by decide +kernel) (by decide +kernel), ⟨by decide +kernel, by decide +kernel, by decide +kernel⟩⟩
theorem hs_X10_rows : mz_YS yX10_rows cX10_rows 3 none 2 := ⟨mz_in 1550 (by decide +kernel) (by decide +kernel), mz_in 71 (by decide +kernel) (by decide +kernel), mz_in 1551 (by decide +kernel) (by decide +kernel), ⟨by decide +kernel, by decide +kernel, by decide +kernel⟩⟩
theorem hy_X10_run : mz_Y yX10_run cX10_run 3 (some .int) 1 := ⟨mz_in 1392 (by decide +kernel) (by decide +kernel), mz_in 41 (by decide +kernel) (by decide +kernel), mz_in 71 (by decide +kernel) (by decide +kernel), mz_in 1393 (by decide +kernel) (by decide +kernel), ⟨by decide +kernel, by decide +kernel, by decide +kernel⟩⟩
theorem hy_X10_runningIn : mz_Y yX10_runningIn cX10_runningIn 4 (some .int) 1 := ⟨mz_in 1415 (by decide +kernel) (by decide +kernel), mz_in 1416 (by decide +kernel) (by decide +kernel), mz_in 71 (by decide +kernel) (by decide +kernel), mz_in 1417 (by decide +kernel) (by decide +kernel), ⟨by decide +kernel, by decide +kernel, by decide +kernel⟩⟩
theorem hy_X10_runs : mz_Y yX10_runs cX10_runs 3 (some .int) 1 := ⟨mz_in 1372 (by decide +kernel) (by decide +kernel), mz_in 1373 (by decide +kernel) (by decide +kernel), mz_in 71 (by decide +kernel) (by decide +kernel), mz_in 1374 (by decide +kernel) (by decide +kernel), ⟨by decide +kernel, by decide +kernel, by decide +kernel⟩⟩
theorem hy_X10_scenesOf : mz_Y yX10_scenesOf cX10_scenesOf 4 (some .int) 1 := ⟨mz_in 1451 (by decide +kernel) (by decide +kernel), mz_in 1452 (by decide +kernel) (by decide +kernel), mz_in 71 (by decide +kernel) (by decide +kernel), mz_in 1453 (by decide +kernel) (by decide +kernel), ⟨by decide +kernel, by decide +kernel, by decide +kernel⟩⟩
theorem hy_X10_show : mz_Y yX10_show cX10_show 5 none 1 := ⟨mz_in 1425 (by decide +kernel) (by decide +kernel), mz_in 46 (by decide +kernel) (by decide +kernel), mz_in 71 (by decide +kernel) (by decide +kernel), mz_in 1426 (by decide +kernel) (by decide +kernel), ⟨by decide +kernel, by decide +kernel, by decide +kernel⟩⟩
theorem hy_X10_sum : mz_Y yX10_sum cX10_sum 6 (some .int) 3 := ⟨mz_in 1531 (by decide +kernel) (by decide +kernel), mz_in 1532 (by decide +kernel) (by decide +kernel), mz_in 71 (by decide +kernel) (by decide +kernel), mz_in 1533 (by decide +kernel) (by decide +kernel), ⟨by decide +kernel, by decide +kernel, by decide +kernel⟩⟩
theorem hy_X10_walk : mz_Y yX10_walk cX10_walk 5 none 2 := ⟨mz_in 1380 (by decide +kernel) (by decide +kernel), mz_in 40 (by decide +kernel) (by decide +kernel), mz_in 71 (by decide +kernel) (by decide +kernel), mz_in 1381 (by decide +kernel) (by decide +kernel), ⟨by decide +kernel, by decide +kernel, by decide +kernel⟩⟩
theorem hy_X10_wander : mz_Y yX10_wander cX10_wander 4 (some .int) 1 := ⟨mz_in 1412 (by decide +kernel) (by decide +kernel), mz_in 44 (by decide +kernel) (by decide +kernel), mz_in 71 (by decide +kernel) (by decide +kernel), mz_in 1413 (by decide +kernel) (by decide +kernel), ⟨by decide +kernel, by decide +kernel, by decide +kernel⟩⟩
theorem hy_X10_wish : mz_Y yX10_wish cX10_wish 5 (some .int) 1 := ⟨mz_in 1408 (by decide +kernel) (by decide +kernel), mz_in 43 (by decide +kernel) (by decide +kernel), mz_in 71 (by decide +kernel) (by decide +kernel), mz_in 1409 (by decide +kernel) (by decide +kernel), ⟨by decide +kernel, by decide +kernel, by decide +kernel⟩⟩
theorem hy_X11_bestHabit : mz_Y yX11_bestHabit cX11_bestHabit 8 (some .int) 2 := ⟨mz_in 1557 (by decide +kernel) (by decide +kernel), mz_in 1558 (by decide +kernel) (by decide +kernel), mz_in 70 (by decide +kernel) (by decide +kernel), mz_in 1559 (by decide +kernel) (by decide +kernel), ⟨by decide +kernel, by decide +kernel, by decide +kernel⟩⟩
theorem hy_X11_cutNow : mz_Y yX11_cutNow cX11_cutNow 4 (some .int) 1 := ⟨mz_in 1569 (by decide +kernel) (by decide +kernel), mz_in 56 (by decide +kernel) (by decide +kernel), mz_in 70 (by decide +kernel) (by decide +kernel), mz_in 1570 (by decide +kernel) (by decide +kernel), ⟨by decide +kernel, by decide +kernel, by decide +kernel⟩⟩
theorem hy_X11_digest : mz_Y yX11_digest cX11_digest 5 (some .long) 0 := ⟨mz_in 1580 (by decide +kernel) (by decide +kernel), mz_in 1581 (by decide +kernel) (by decide +kernel), mz_in 70 (by decide +kernel) (by decide +kernel), mz_in 1582 (by decide +kernel) (by decide +kernel), ⟨by decide +kernel, by decide +kernel, by decide +kernel⟩⟩
theorem hy_X11_door : mz_Y yX11_door cX11_door 4 (some .int) 3 := ⟨mz_in 1295 (by decide +kernel) (by decide +kernel), mz_in 1296 (by decide +kernel) (by decide +kernel), mz_in 70 (by decide +kernel) (by decide +kernel), mz_in 1297 (by decide +kernel) (by decide +kernel), ⟨by decide +kernel, by decide +kernel, by decide +kernel⟩⟩
theorem hy_X11_doubles : mz_Y yX11_doubles cX11_doubles 2 (some .int) 1 := ⟨mz_in 1572 (by decide +kernel) (by decide +kernel), mz_in 1573 (by decide +kernel) (by decide +kernel), mz_in 70 (by decide +kernel) (by decide +kernel), mz_in 1574 (by decide +kernel) (by decide +kernel), ⟨by decide +kernel, by decide +kernel, by decide +kernel⟩⟩
theorem hy_X11_doublesNow : mz_Y yX11_doublesNow cX11_doublesNow 4 (some .int) 1 := ⟨mz_in 1577 (by decide +kernel) (by decide +kernel), mz_in 57 (by decide +kernel) (by decide +kernel), mz_in 70 (by decide +kernel) (by decide +kernel), mz_in 1578 (by decide +kernel) (by decide +kernel), ⟨by decide +kernel, by decide +kernel, by decide +kernel⟩⟩
theorem hy_X11_guest : mz_Y yX11_guest cX11_guest 3 (some .int) 1 := ⟨mz_in 1328 (by decide +kernel) (by decide +kernel), mz_in 1329 (by decide +kernel) (by decide +kernel), mz_in 70 (by decide +kernel) (by decide +kernel), mz_in 1330 (by decide +kernel) (by decide +kernel), ⟨by decide +kernel, by decide +kernel, by decide +kernel⟩⟩
theorem hy_X11_guestNow : mz_Y yX11_guestNow cX11_guestNow 5 (some .int) 2 := ⟨mz_in 1508 (by decide +kernel) (by decide +kernel), mz_in 52 (by decide +kernel) (by decide +kernel), mz_in 70 (by decide +kernel) (by decide +kernel), mz_in 1509 (by decide +kernel) (by decide +kernel), ⟨by decide +kernel, by decide +kernel, by decide +kernel⟩⟩
theorem hy_X11_habit : mz_Y yX11_habit cX11_habit 5 (some .int) 3 := ⟨mz_in 1336 (by decide +kernel) (by decide +kernel), mz_in 1337 (by decide +kernel) (by decide +kernel), mz_in 70 (by decide +kernel) (by decide +kernel), mz_in 1338 (by decide +kernel) (by decide +kernel), ⟨by decide +kernel, by decide +kernel, by decide +kernel⟩⟩
theorem hs_X11_has : mz_YS yX11_has cX11_has 2 (some .boolean) 2 := ⟨mz_in 1376 (by decide +kernel) (by decide +kernel), mz_in 70 (by decide +kernel) (by decide +kernel), mz_in 1377 (by decide +kernel) (by decide +kernel), ⟨by decide +kernel, by decide +kernel, by decide +kernel⟩⟩
theorem hs_X11_in : mz_YS yX11_in cX11_in 3 (some .boolean) 3 := ⟨mz_in 1283 (by decide +kernel) (by decide +kernel), mz_in 70 (by decide +kernel) (by decide +kernel), mz_in 1284 (by decide +kernel) (by decide +kernel), ⟨by decide +kernel, by decide +kernel, by decide +kernel⟩⟩
-- X11_init: no words (1191, None, 70, None)
theorem hy_X11_isGuest : mz_Y yX11_isGuest cX11_isGuest 2 (some .boolean) 1 := ⟨mz_in 1341 (by decide +kernel) (by decide +kernel), mz_in 36 (by decide +kernel) (by decide +kernel), mz_in 70 (by decide +kernel) (by decide +kernel), mz_in 1342 (by decide +kernel) (by decide +kernel), ⟨by decide +kernel, by decide +kernel, by decide +kernel⟩⟩
theorem hy_X11_isProp : mz_Y yX11_isProp cX11_isProp 2 (some .boolean) 1 := ⟨mz_in 1317 (by decide +kernel) (by decide +kernel), mz_in 34 (by decide +kernel) (by decide +kernel), mz_in 70 (by decide +kernel) (by decide +kernel), mz_in 1318 (by decide +kernel) (by decide +kernel), ⟨by decide +kernel, by decide +kernel, by decide +kernel⟩⟩
theorem hy_X11_isRoom : mz_Y yX11_isRoom cX11_isRoom 2 (some .boolean) 1 := ⟨mz_in 1300 (by decide +kernel) (by decide +kernel), mz_in 33 (by decide +kernel) (by decide +kernel), mz_in 70 (by decide +kernel) (by decide +kernel), mz_in 1301 (by decide +kernel) (by decide +kernel), ⟨by decide +kernel, by decide +kernel, by decide +kernel⟩⟩
theorem hy_X11_isScene : mz_Y yX11_isScene cX11_isScene 2 (some .boolean) 1 := ⟨mz_in 1492 (by decide +kernel) (by decide +kernel), mz_in 50 (by decide +kernel) (by decide +kernel), mz_in 70 (by decide +kernel) (by decide +kernel), mz_in 1493 (by decide +kernel) (by decide +kernel), ⟨by decide +kernel, by decide +kernel, by decide +kernel⟩⟩
theorem hy_X11_isTrack : mz_Y yX11_isTrack cX11_isTrack 2 (some .boolean) 1 := ⟨mz_in 1345 (by decide +kernel) (by decide +kernel), mz_in 37 (by decide +kernel) (by decide +kernel), mz_in 70 (by decide +kernel) (by decide +kernel), mz_in 1346 (by decide +kernel) (by decide +kernel), ⟨by decide +kernel, by decide +kernel, by decide +kernel⟩⟩
theorem hy_X11_knowNow : mz_Y yX11_knowNow cX11_knowNow 5 (some .int) 3 := ⟨mz_in 1554 (by decide +kernel) (by decide +kernel), mz_in 55 (by decide +kernel) (by decide +kernel), mz_in 70 (by decide +kernel) (by decide +kernel), mz_in 1555 (by decide +kernel) (by decide +kernel), ⟨by decide +kernel, by decide +kernel, by decide +kernel⟩⟩
theorem hy_X11_leave : mz_Y yX11_leave cX11_leave 4 (some .int) 1 := ⟨mz_in 1438 (by decide +kernel) (by decide +kernel), mz_in 1439 (by decide +kernel) (by decide +kernel), mz_in 70 (by decide +kernel) (by decide +kernel), mz_in 1440 (by decide +kernel) (by decide +kernel), ⟨by decide +kernel, by decide +kernel, by decide +kernel⟩⟩
theorem hy_X11_many : mz_Y yX11_many cX11_many 2 (some .int) 1 := ⟨mz_in 1523 (by decide +kernel) (by decide +kernel), mz_in 1524 (by decide +kernel) (by decide +kernel), mz_in 70 (by decide +kernel) (by decide +kernel), mz_in 1525 (by decide +kernel) (by decide +kernel), ⟨by decide +kernel, by decide +kernel, by decide +kernel⟩⟩
theorem hy_X11_manyNow : mz_Y yX11_manyNow cX11_manyNow 5 (some .int) 1 := ⟨mz_in 1528 (by decide +kernel) (by decide +kernel), mz_in 54 (by decide +kernel) (by decide +kernel), mz_in 70 (by decide +kernel) (by decide +kernel), mz_in 1529 (by decide +kernel) (by decide +kernel), ⟨by decide +kernel, by decide +kernel, by decide +kernel⟩⟩
theorem hy_X11_meanKnown : mz_Y yX11_meanKnown cX11_meanKnown 3 (some .double) 0 := ⟨mz_in 1535 (by decide +kernel) (by decide +kernel), mz_in 1536 (by decide +kernel) (by decide +kernel), mz_in 70 (by decide +kernel) (by decide +kernel), mz_in 1537 (by decide +kernel) (by decide +kernel), ⟨by decide +kernel, by decide +kernel, by decide +kernel⟩⟩
theorem hy_X11_no : mz_Y yX11_no cX11_no 2 (some .int) 1 := ⟨mz_in 1287 (by decide +kernel) (by decide +kernel), mz_in 32 (by decide +kernel) (by decide +kernel), mz_in 70 (by decide +kernel) (by decide +kernel), mz_in 1288 (by decide +kernel) (by decide +kernel), ⟨by decide +kernel, by decide +kernel, by decide +kernel⟩⟩
theorem hy_X11_ofGuest : mz_Y yX11_ofGuest cX11_ofGuest 3 (some .int) 2 := ⟨mz_in 1503 (by decide +kernel) (by decide +kernel), mz_in 1504 (by decide +kernel) (by decide +kernel), mz_in 70 (by decide +kernel) (by decide +kernel), mz_in 1505 (by decide +kernel) (by decide +kernel), ⟨by decide +kernel, by decide +kernel, by decide +kernel⟩⟩
theorem hy_X11_ofProp : mz_Y yX11_ofProp cX11_ofProp 3 (some .int) 2 := ⟨mz_in 1511 (by decide +kernel) (by decide +kernel), mz_in 1512 (by decide +kernel) (by decide +kernel), mz_in 70 (by decide +kernel) (by decide +kernel), mz_in 1513 (by decide +kernel) (by decide +kernel), ⟨by decide +kernel, by decide +kernel, by decide +kernel⟩⟩
theorem hy_X11_ofRoom : mz_Y yX11_ofRoom cX11_ofRoom 3 (some .int) 2 := ⟨mz_in 1460 (by decide +kernel) (by decide +kernel), mz_in 1461 (by decide +kernel) (by decide +kernel), mz_in 70 (by decide +kernel) (by decide +kernel), mz_in 1462 (by decide +kernel) (by decide +kernel), ⟨by decide +kernel, by decide +kernel, by decide +kernel⟩⟩
theorem hy_X11_ofScene : mz_Y yX11_ofScene cX11_ofScene 3 (some .int) 2 := ⟨mz_in 1487 (by decide +kernel) (by decide +kernel), mz_in 1488 (by decide +kernel) (by decide +kernel), mz_in 70 (by decide +kernel) (by decide +kernel), mz_in 1489 (by decide +kernel) (by decide +kernel), ⟨by decide +kernel, by decide +kernel, by decide +kernel⟩⟩
theorem hy_X11_ofTrack : mz_Y yX11_ofTrack cX11_ofTrack 3 (some .int) 2 := ⟨mz_in 1478 (by decide +kernel) (by decide +kernel), mz_in 1479 (by decide +kernel) (by decide +kernel), mz_in 70 (by decide +kernel) (by decide +kernel), mz_in 1480 (by decide +kernel) (by decide +kernel), ⟨by decide +kernel, by decide +kernel, by decide +kernel⟩⟩
theorem hy_X11_part : mz_Y yX11_part cX11_part 3 (some .int) 1 := ⟨mz_in 1455 (by decide +kernel) (by decide +kernel), mz_in 1456 (by decide +kernel) (by decide +kernel), mz_in 70 (by decide +kernel) (by decide +kernel), mz_in 1457 (by decide +kernel) (by decide +kernel), ⟨by decide +kernel, by decide +kernel, by decide +kernel⟩⟩
theorem hy_X11_pass : mz_Y yX11_pass cX11_pass 4 (some .int) 1 := ⟨mz_in 1348 (by decide +kernel) (by decide +kernel), mz_in 1349 (by decide +kernel) (by decide +kernel), mz_in 70 (by decide +kernel) (by decide +kernel), mz_in 1350 (by decide +kernel) (by decide +kernel), ⟨by decide +kernel, by decide +kernel, by decide +kernel⟩⟩
theorem hy_X11_play : mz_Y yX11_play cX11_play 3 (some .int) 2 := ⟨mz_in 1442 (by decide +kernel) (by decide +kernel), mz_in 1443 (by decide +kernel) (by decide +kernel), mz_in 70 (by decide +kernel) (by decide +kernel), mz_in 1444 (by decide +kernel) (by decide +kernel), ⟨by decide +kernel, by decide +kernel, by decide +kernel⟩⟩
theorem hy_X11_prop : mz_Y yX11_prop cX11_prop 3 (some .int) 1 := ⟨mz_in 1308 (by decide +kernel) (by decide +kernel), mz_in 1309 (by decide +kernel) (by decide +kernel), mz_in 70 (by decide +kernel) (by decide +kernel), mz_in 1310 (by decide +kernel) (by decide +kernel), ⟨by decide +kernel, by decide +kernel, by decide +kernel⟩⟩
theorem hy_X11_propNow : mz_Y yX11_propNow cX11_propNow 6 (some .int) 2 := ⟨mz_in 1516 (by decide +kernel) (by decide +kernel), mz_in 53 (by decide +kernel) (by decide +kernel), mz_in 70 (by decide +kernel) (by decide +kernel), mz_in 1517 (by decide +kernel) (by decide +kernel), ⟨by decide +kernel, by decide +kernel, by decide +kernel⟩⟩
theorem hy_X11_room : mz_Y yX11_room cX11_room 2 (some .int) 1 := ⟨mz_in 1279 (by decide +kernel) (by decide +kernel), mz_in 1280 (by decide +kernel) (by decide +kernel), mz_in 70 (by decide +kernel) (by decide +kernel), mz_in 1281 (by decide +kernel) (by decide +kernel), ⟨by decide +kernel, by decide +kernel, by decide +kernel⟩⟩
theorem hy_X11_roomNow : mz_Y yX11_roomNow cX11_roomNow 6 (some .int) 2 := ⟨mz_in 1465 (by decide +kernel) (by decide +kernel), mz_in 47 (by decide +kernel) (by decide +kernel), mz_in 70 (by decide +kernel) (by decide +kernel), mz_in 1466 (by decide +kernel) (by decide +kernel), ⟨by decide +kernel, by decide +kernel, by decide +kernel⟩⟩
theorem hy_X11_scene : mz_Y yX11_scene cX11_scene 9 (some .int) 5 := ⟨mz_in 1312 (by decide +kernel) (by decide +kernel), mz_in 1313 (by decide +kernel) (by decide +kernel), mz_in 70 (by decide +kernel) (by decide +kernel), mz_in 1314 (by decide +kernel) (by decide +kernel), ⟨by decide +kernel, by decide +kernel, by decide +kernel⟩⟩
theorem hy_X11_sceneNow : mz_Y yX11_sceneNow cX11_sceneNow 5 (some .int) 2 := ⟨mz_in 1496 (by decide +kernel) (by decide +kernel), mz_in 51 (by decide +kernel) (by decide +kernel), mz_in 70 (by decide +kernel) (by decide +kernel), mz_in 1497 (by decide +kernel) (by decide +kernel), ⟨by decide +kernel, by decide +kernel, by decide +kernel⟩⟩
theorem hy_X11_seen : mz_Y yX11_seen cX11_seen 3 (some .int) 2 := ⟨mz_in 1519 (by decide +kernel) (by decide +kernel), mz_in 1520 (by decide +kernel) (by decide +kernel), mz_in 70 (by decide +kernel) (by decide +kernel), mz_in 1521 (by decide +kernel) (by decide +kernel), ⟨by decide +kernel, by decide +kernel, by decide +kernel⟩⟩
theorem hs_X11_size : mz_YS yX11_size cX11_size 3 (some .int) 1 := ⟨mz_in 1435 (by decide +kernel) (by decide +kernel), mz_in 70 (by decide +kernel) (by decide +kernel), mz_in 1436 (by decide +kernel) (by decide +kernel), ⟨by decide +kernel, by decide +kernel, by decide +kernel⟩⟩
theorem hy_X11_take : mz_Y yX11_take cX11_take 6 (some .int) 2 := ⟨mz_in 1428 (by decide +kernel) (by decide +kernel), mz_in 1429 (by decide +kernel) (by decide +kernel), mz_in 70 (by decide +kernel) (by decide +kernel), mz_in 1430 (by decide +kernel) (by decide +kernel), ⟨by decide +kernel, by decide +kernel, by decide +kernel⟩⟩
theorem hy_X11_thrown : mz_Y yX11_thrown cX11_thrown 1 (some .int) 0 := ⟨mz_in 1275 (by decide +kernel) (by decide +kernel), mz_in 1276 (by decide +kernel) (by decide +kernel), mz_in 70 (by decide +kernel) (by decide +kernel), mz_in 1277 (by decide +kernel) (by decide +kernel), ⟨by decide +kernel, by decide +kernel, by decide +kernel⟩⟩
theorem hy_X11_track : mz_Y yX11_track cX11_track 3 (some .int) 1 := ⟨mz_in 1303 (by decide +kernel) (by decide +kernel), mz_in 1304 (by decide +kernel) (by decide +kernel), mz_in 70 (by decide +kernel) (by decide +kernel), mz_in 1305 (by decide +kernel) (by decide +kernel), ⟨by decide +kernel, by decide +kernel, by decide +kernel⟩⟩
theorem hy_X11_trackNow : mz_Y yX11_trackNow cX11_trackNow 4 (some .int) 2 := ⟨mz_in 1483 (by decide +kernel) (by decide +kernel), mz_in 49 (by decide +kernel) (by decide +kernel), mz_in 70 (by decide +kernel) (by decide +kernel), mz_in 1484 (by decide +kernel) (by decide +kernel), ⟨by decide +kernel, by decide +kernel, by decide +kernel⟩⟩
theorem hy_X11_way : mz_Y yX11_way cX11_way 4 (some .int) 3 := ⟨mz_in 1469 (by decide +kernel) (by decide +kernel), mz_in 1470 (by decide +kernel) (by decide +kernel), mz_in 70 (by decide +kernel) (by decide +kernel), mz_in 1471 (by decide +kernel) (by decide +kernel), ⟨by decide +kernel, by decide +kernel, by decide +kernel⟩⟩
theorem hy_X11_wayNow : mz_Y yX11_wayNow cX11_wayNow 4 (some .int) 3 := ⟨mz_in 1474 (by decide +kernel) (by decide +kernel), mz_in 48 (by decide +kernel) (by decide +kernel), mz_in 70 (by decide +kernel) (by decide +kernel), mz_in 1475 (by decide +kernel) (by decide +kernel), ⟨by decide +kernel, by decide +kernel, by decide +kernel⟩⟩
theorem hy_X11_wouldCut : mz_Y yX11_wouldCut cX11_wouldCut 2 (some .int) 1 := ⟨mz_in 1564 (by decide +kernel) (by decide +kernel), mz_in 1565 (by decide +kernel) (by decide +kernel), mz_in 70 (by decide +kernel) (by decide +kernel), mz_in 1566 (by decide +kernel) (by decide +kernel), ⟨by decide +kernel, by decide +kernel, by decide +kernel⟩⟩
theorem hy_X11_wouldKnow : mz_Y yX11_wouldKnow cX11_wouldKnow 3 (some .int) 2 := ⟨mz_in 1539 (by decide +kernel) (by decide +kernel), mz_in 1540 (by decide +kernel) (by decide +kernel), mz_in 70 (by decide +kernel) (by decide +kernel), mz_in 1541 (by decide +kernel) (by decide +kernel), ⟨by decide +kernel, by decide +kernel, by decide +kernel⟩⟩
theorem wn_X11_9 : Cond.methodLinkNest RX11 9 yX10_init "ManorLoopsModel" ∈ mz_wn := mz_inn 1196 (by decide +kernel) (by decide +kernel)
theorem wl_X11_23 : Cond.methodLink RX11 23 yX11_in ∈ mz_ws := mz_in 1282 (by decide +kernel) (by decide +kernel)
theorem wl_X11_39 : Cond.methodLink RX11 39 yX11_no ∈ mz_ws := mz_in 1285 (by decide +kernel) (by decide +kernel)
theorem wl_X11_47 : Cond.methodLink RX11 47 yX10_measure ∈ mz_ws := mz_in 1289 (by decide +kernel) (by decide +kernel)
theorem wl_X10_74 : Cond.methodLink RX10 74 yJ9_min_7cf53 ∈ mz_ws := mz_in 1293 (by decide +kernel) (by decide +kernel)
theorem wl_X11_50 : Cond.methodLink RX11 50 yX11_isRoom ∈ mz_ws := mz_in 1298 (by decide +kernel) (by decide +kernel)
theorem wl_X11_73 : Cond.methodLink RX11 73 yX11_isProp ∈ mz_ws := mz_in 1315 (by decide +kernel) (by decide +kernel)
theorem wl_X11_82 : Cond.methodLink RX11 82 yX10_isOverlapped ∈ mz_ws := mz_in 1319 (by decide +kernel) (by decide +kernel)
theorem wl_X10_146 : Cond.methodLink RX10 146 yX10_overlap ∈ mz_ws := mz_in 1323 (by decide +kernel) (by decide +kernel)
theorem wl_X11_86 : Cond.methodLink RX11 86 yX10_guestsIn ∈ mz_ws := mz_in 1331 (by decide +kernel) (by decide +kernel)
theorem wl_X11_92 : Cond.methodLink RX11 92 yX11_isGuest ∈ mz_ws := mz_in 1339 (by decide +kernel) (by decide +kernel)
theorem wl_X11_95 : Cond.methodLink RX11 95 yX11_isTrack ∈ mz_ws := mz_in 1343 (by decide +kernel) (by decide +kernel)
theorem wl_X11_98 : Cond.methodLink RX11 98 yX10_go ∈ mz_ws := mz_in 1351 (by decide +kernel) (by decide +kernel)
theorem wl_X10_91 : Cond.methodLink RX10 91 yX10_minute ∈ mz_ws := mz_in 1355 (by decide +kernel) (by decide +kernel)
theorem wl_X10_95 : Cond.methodLink RX10 95 yX10_loop ∈ mz_ws := mz_in 1359 (by decide +kernel) (by decide +kernel)
theorem wl_X10_98 : Cond.methodLink RX10 98 yX10_isBusy ∈ mz_ws := mz_in 1363 (by decide +kernel) (by decide +kernel)
theorem wl_X10_84 : Cond.methodLink RX10 84 yX10_plays ∈ mz_ws := mz_in 1367 (by decide +kernel) (by decide +kernel)
theorem wl_X10_88 : Cond.methodLink RX10 88 yX10_runs ∈ mz_ws := mz_in 1371 (by decide +kernel) (by decide +kernel)
theorem wn_X10_80 : Cond.methodLinkNest RX10 80 yX11_has "ManorLoopsModel" ∈ mz_wn := mz_inn 1375 (by decide +kernel) (by decide +kernel)
theorem wl_X10_102 : Cond.methodLink RX10 102 yX10_walk ∈ mz_ws := mz_in 1378 (by decide +kernel) (by decide +kernel)
theorem wl_X10_125 : Cond.methodLink RX10 125 yX10_nextScene ∈ mz_ws := mz_in 1382 (by decide +kernel) (by decide +kernel)
theorem wl_X10_128 : Cond.methodLink RX10 128 yX10_next ∈ mz_ws := mz_in 1386 (by decide +kernel) (by decide +kernel)
theorem wl_X10_106 : Cond.methodLink RX10 106 yX10_run ∈ mz_ws := mz_in 1390 (by decide +kernel) (by decide +kernel)
theorem wl_X10_110 : Cond.methodLink RX10 110 yX10_attend ∈ mz_ws := mz_in 1394 (by decide +kernel) (by decide +kernel)
theorem wl_X10_131 : Cond.methodLink RX10 131 yX10_lies ∈ mz_ws := mz_in 1398 (by decide +kernel) (by decide +kernel)
theorem wl_X10_134 : Cond.methodLink RX10 134 yX10_roomOf ∈ mz_ws := mz_in 1402 (by decide +kernel) (by decide +kernel)
theorem wl_X10_114 : Cond.methodLink RX10 114 yX10_wish ∈ mz_ws := mz_in 1406 (by decide +kernel) (by decide +kernel)
theorem wl_X10_137 : Cond.methodLink RX10 137 yX10_wander ∈ mz_ws := mz_in 1410 (by decide +kernel) (by decide +kernel)
theorem wl_X10_140 : Cond.methodLink RX10 140 yX10_runningIn ∈ mz_ws := mz_in 1414 (by decide +kernel) (by decide +kernel)
theorem wl_X10_143 : Cond.methodLink RX10 143 yX10_guestsIn ∈ mz_ws := mz_in 1418 (by decide +kernel) (by decide +kernel)
theorem wl_X10_117 : Cond.methodLink RX10 117 yX10_move ∈ mz_ws := mz_in 1419 (by decide +kernel) (by decide +kernel)
theorem wl_X10_121 : Cond.methodLink RX10 121 yX10_show ∈ mz_ws := mz_in 1423 (by decide +kernel) (by decide +kernel)
theorem wl_X11_102 : Cond.methodLink RX11 102 yX10_lies ∈ mz_ws := mz_in 1431 (by decide +kernel) (by decide +kernel)
theorem wl_X11_105 : Cond.methodLink RX11 105 yX10_runningIn ∈ mz_ws := mz_in 1432 (by decide +kernel) (by decide +kernel)
theorem wl_X11_108 : Cond.methodLink RX11 108 yX11_has ∈ mz_ws := mz_in 1433 (by decide +kernel) (by decide +kernel)
theorem wl_X11_111 : Cond.methodLink RX11 111 yX11_size ∈ mz_ws := mz_in 1434 (by decide +kernel) (by decide +kernel)
theorem wl_X11_114 : Cond.methodLink RX11 114 yX10_canPlay ∈ mz_ws := mz_in 1445 (by decide +kernel) (by decide +kernel)
theorem wl_X10_149 : Cond.methodLink RX10 149 yX10_isOverlapped ∈ mz_ws := mz_in 1449 (by decide +kernel) (by decide +kernel)
theorem wl_X11_117 : Cond.methodLink RX11 117 yX10_scenesOf ∈ mz_ws := mz_in 1450 (by decide +kernel) (by decide +kernel)
theorem wl_X11_120 : Cond.methodLink RX11 120 yX10_runs ∈ mz_ws := mz_in 1458 (by decide +kernel) (by decide +kernel)
theorem wl_X11_126 : Cond.methodLink RX11 126 yX11_roomNow ∈ mz_ws := mz_in 1463 (by decide +kernel) (by decide +kernel)
theorem wl_X11_123 : Cond.methodLink RX11 123 yX10_roomOf ∈ mz_ws := mz_in 1467 (by decide +kernel) (by decide +kernel)
theorem wl_X11_136 : Cond.methodLink RX11 136 yX11_wayNow ∈ mz_ws := mz_in 1472 (by decide +kernel) (by decide +kernel)
theorem wl_X11_130 : Cond.methodLink RX11 130 yX10_next ∈ mz_ws := mz_in 1476 (by decide +kernel) (by decide +kernel)
theorem wl_X11_143 : Cond.methodLink RX11 143 yX11_trackNow ∈ mz_ws := mz_in 1481 (by decide +kernel) (by decide +kernel)
theorem wl_X11_140 : Cond.methodLink RX11 140 yX10_nextScene ∈ mz_ws := mz_in 1485 (by decide +kernel) (by decide +kernel)
theorem wl_X11_149 : Cond.methodLink RX11 149 yX11_isScene ∈ mz_ws := mz_in 1490 (by decide +kernel) (by decide +kernel)
theorem wl_X11_152 : Cond.methodLink RX11 152 yX11_sceneNow ∈ mz_ws := mz_in 1494 (by decide +kernel) (by decide +kernel)
theorem wl_X11_146 : Cond.methodLink RX11 146 yX10_known ∈ mz_ws := mz_in 1498 (by decide +kernel) (by decide +kernel)
theorem wl_X11_155 : Cond.methodLink RX11 155 yX11_guestNow ∈ mz_ws := mz_in 1506 (by decide +kernel) (by decide +kernel)
theorem wl_X11_158 : Cond.methodLink RX11 158 yX11_propNow ∈ mz_ws := mz_in 1514 (by decide +kernel) (by decide +kernel)
theorem wl_X11_171 : Cond.methodLink RX11 171 yX11_manyNow ∈ mz_ws := mz_in 1526 (by decide +kernel) (by decide +kernel)
theorem wl_X11_164 : Cond.methodLink RX11 164 yX10_sum ∈ mz_ws := mz_in 1530 (by decide +kernel) (by decide +kernel)
theorem wl_X11_174 : Cond.methodLink RX11 174 yX10_copy ∈ mz_ws := mz_in 1542 (by decide +kernel) (by decide +kernel)
theorem wl_X10_38 : Cond.methodLink RX10 38 yX10_init ∈ mz_ws := mz_in 1547 (by decide +kernel) (by decide +kernel)
theorem wl_X10_45 : Cond.methodLink RX10 45 yX10_rows ∈ mz_ws := mz_in 1549 (by decide +kernel) (by decide +kernel)
theorem wl_X11_178 : Cond.methodLink RX11 178 yX11_knowNow ∈ mz_ws := mz_in 1552 (by decide +kernel) (by decide +kernel)
theorem wl_X11_182 : Cond.methodLink RX11 182 yJ9_max_7cf53 ∈ mz_ws := mz_in 1560 (by decide +kernel) (by decide +kernel)
theorem wl_X11_187 : Cond.methodLink RX11 187 yX11_cutNow ∈ mz_ws := mz_in 1567 (by decide +kernel) (by decide +kernel)
theorem wl_X11_190 : Cond.methodLink RX11 190 yX11_doublesNow ∈ mz_ws := mz_in 1575 (by decide +kernel) (by decide +kernel)
def flX11 : List (Nat × Nat × Nat) := [(43, 10, 0), (57, 10, 1), (133, 10, 2), (61, 10, 3), (70, 10, 4), (79, 10, 5), (89, 10, 6), (161, 10, 7), (76, 10, 8), (20, 10, 9), (54, 10, 10), (27, 10, 11), (30, 10, 12), (33, 10, 13), (36, 10, 14), (168, 10, 15), (16, 11, 0), (10, 11, 1)]
theorem FLX11 : mz_FL RX11 vwCl flX11 := mz_FL_of (List.forall_mem_cons.mpr ⟨⟨RX10, TX10, 16, rfl, by decide, iu_X10, Or.inl (mz_in 1203 (by decide +kernel) (by decide +kernel))⟩,
  List.forall_mem_cons.mpr ⟨⟨RX10, TX10, 16, rfl, by decide, iu_X10, Or.inl (mz_in 1205 (by decide +kernel) (by decide +kernel))⟩,
  List.forall_mem_cons.mpr ⟨⟨RX10, TX10, 16, rfl, by decide, iu_X10, Or.inl (mz_in 1207 (by decide +kernel) (by decide +kernel))⟩,
  List.forall_mem_cons.mpr ⟨⟨RX10, TX10, 16, rfl, by decide, iu_X10, Or.inl (mz_in 1209 (by decide +kernel) (by decide +kernel))⟩,
  List.forall_mem_cons.mpr ⟨⟨RX10, TX10, 16, rfl, by decide, iu_X10, Or.inl (mz_in 1211 (by decide +kernel) (by decide +kernel))⟩,
  List.forall_mem_cons.mpr ⟨⟨RX10, TX10, 16, rfl, by decide, iu_X10, Or.inl (mz_in 1213 (by decide +kernel) (by decide +kernel))⟩,
  List.forall_mem_cons.mpr ⟨⟨RX10, TX10, 16, rfl, by decide, iu_X10, Or.inl (mz_in 1215 (by decide +kernel) (by decide +kernel))⟩,
  List.forall_mem_cons.mpr ⟨⟨RX10, TX10, 16, rfl, by decide, iu_X10, Or.inl (mz_in 1217 (by decide +kernel) (by decide +kernel))⟩,
  List.forall_mem_cons.mpr ⟨⟨RX10, TX10, 16, rfl, by decide, iu_X10, Or.inl (mz_in 1219 (by decide +kernel) (by decide +kernel))⟩,
  List.forall_mem_cons.mpr ⟨⟨RX10, TX10, 16, rfl, by decide, iu_X10, Or.inl (mz_in 1221 (by decide +kernel) (by decide +kernel))⟩,
  List.forall_mem_cons.mpr ⟨⟨RX10, TX10, 16, rfl, by decide, iu_X10, Or.inl (mz_in 1223 (by decide +kernel) (by decide +kernel))⟩,
  List.forall_mem_cons.mpr ⟨⟨RX10, TX10, 16, rfl, by decide, iu_X10, Or.inl (mz_in 1225 (by decide +kernel) (by decide +kernel))⟩,
  List.forall_mem_cons.mpr ⟨⟨RX10, TX10, 16, rfl, by decide, iu_X10, Or.inl (mz_in 1227 (by decide +kernel) (by decide +kernel))⟩,
  List.forall_mem_cons.mpr ⟨⟨RX10, TX10, 16, rfl, by decide, iu_X10, Or.inl (mz_in 1229 (by decide +kernel) (by decide +kernel))⟩,
  List.forall_mem_cons.mpr ⟨⟨RX10, TX10, 16, rfl, by decide, iu_X10, Or.inl (mz_in 1231 (by decide +kernel) (by decide +kernel))⟩,
  List.forall_mem_cons.mpr ⟨⟨RX10, TX10, 16, rfl, by decide, iu_X10, Or.inl (mz_in 1233 (by decide +kernel) (by decide +kernel))⟩,
  List.forall_mem_cons.mpr ⟨⟨RX11, TX11, 2, rfl, by decide, iu_X11, Or.inl (mz_in 1267 (by decide +kernel) (by decide +kernel))⟩,
  List.forall_mem_cons.mpr ⟨⟨RX11, TX11, 2, rfl, by decide, iu_X11, Or.inl (mz_in 1268 (by decide +kernel) (by decide +kernel))⟩,
  fun _ h => absurd h List.not_mem_nil⟩⟩⟩⟩⟩⟩⟩⟩⟩⟩⟩⟩⟩⟩⟩⟩⟩⟩)
theorem wf_X11_43 : Cond.fieldLink RX11 43 (TX10 0).1 (TX10 0).2.1 (TX10 0).2.2.1 ∈ mz_ws := mz_in 1203 (by decide +kernel) (by decide +kernel)
theorem wf_X11_57 : Cond.fieldLink RX11 57 (TX10 1).1 (TX10 1).2.1 (TX10 1).2.2.1 ∈ mz_ws := mz_in 1205 (by decide +kernel) (by decide +kernel)
theorem wf_X11_133 : Cond.fieldLink RX11 133 (TX10 2).1 (TX10 2).2.1 (TX10 2).2.2.1 ∈ mz_ws := mz_in 1207 (by decide +kernel) (by decide +kernel)
theorem wf_X11_61 : Cond.fieldLink RX11 61 (TX10 3).1 (TX10 3).2.1 (TX10 3).2.2.1 ∈ mz_ws := mz_in 1209 (by decide +kernel) (by decide +kernel)
theorem wf_X11_70 : Cond.fieldLink RX11 70 (TX10 4).1 (TX10 4).2.1 (TX10 4).2.2.1 ∈ mz_ws := mz_in 1211 (by decide +kernel) (by decide +kernel)
theorem wf_X11_79 : Cond.fieldLink RX11 79 (TX10 5).1 (TX10 5).2.1 (TX10 5).2.2.1 ∈ mz_ws := mz_in 1213 (by decide +kernel) (by decide +kernel)
theorem wf_X11_89 : Cond.fieldLink RX11 89 (TX10 6).1 (TX10 6).2.1 (TX10 6).2.2.1 ∈ mz_ws := mz_in 1215 (by decide +kernel) (by decide +kernel)
theorem wf_X11_161 : Cond.fieldLink RX11 161 (TX10 7).1 (TX10 7).2.1 (TX10 7).2.2.1 ∈ mz_ws := mz_in 1217 (by decide +kernel) (by decide +kernel)
theorem wf_X11_76 : Cond.fieldLink RX11 76 (TX10 8).1 (TX10 8).2.1 (TX10 8).2.2.1 ∈ mz_ws := mz_in 1219 (by decide +kernel) (by decide +kernel)
theorem wf_X11_20 : Cond.fieldLink RX11 20 (TX10 9).1 (TX10 9).2.1 (TX10 9).2.2.1 ∈ mz_ws := mz_in 1221 (by decide +kernel) (by decide +kernel)
theorem wf_X11_54 : Cond.fieldLink RX11 54 (TX10 10).1 (TX10 10).2.1 (TX10 10).2.2.1 ∈ mz_ws := mz_in 1223 (by decide +kernel) (by decide +kernel)
theorem wf_X11_27 : Cond.fieldLink RX11 27 (TX10 11).1 (TX10 11).2.1 (TX10 11).2.2.1 ∈ mz_ws := mz_in 1225 (by decide +kernel) (by decide +kernel)
theorem wf_X11_30 : Cond.fieldLink RX11 30 (TX10 12).1 (TX10 12).2.1 (TX10 12).2.2.1 ∈ mz_ws := mz_in 1227 (by decide +kernel) (by decide +kernel)
theorem wf_X11_33 : Cond.fieldLink RX11 33 (TX10 13).1 (TX10 13).2.1 (TX10 13).2.2.1 ∈ mz_ws := mz_in 1229 (by decide +kernel) (by decide +kernel)
theorem wf_X11_36 : Cond.fieldLink RX11 36 (TX10 14).1 (TX10 14).2.1 (TX10 14).2.2.1 ∈ mz_ws := mz_in 1231 (by decide +kernel) (by decide +kernel)
theorem wf_X11_168 : Cond.fieldLink RX11 168 (TX10 15).1 (TX10 15).2.1 (TX10 15).2.2.1 ∈ mz_ws := mz_in 1233 (by decide +kernel) (by decide +kernel)
theorem wf_X11_16 : Cond.fieldLink RX11 16 (TX11 0).1 (TX11 0).2.1 (TX11 0).2.2.1 ∈ mz_ws := mz_in 1267 (by decide +kernel) (by decide +kernel)
theorem wf_X11_10 : Cond.fieldLink RX11 10 (TX11 1).1 (TX11 1).2.1 (TX11 1).2.2.1 ∈ mz_ws := mz_in 1268 (by decide +kernel) (by decide +kernel)
def klX11 : List (Nat × Int64) := [(193, 9103), (195, 31)]
theorem KLX11 : mz_KL RX11 klX11 := by
  intro idx v h
  simp only [klX11, List.lookup_cons] at h
  split at h
  · rename_i e
    have e := eq_of_beq e
    subst e
    cases h
    exact mz_in 1583 (by decide +kernel) (by decide +kernel)
  split at h
  · rename_i e
    have e := eq_of_beq e
    subst e
    cases h
    exact mz_in 1584 (by decide +kernel) (by decide +kernel)
  cases h
def flX10 : List (Nat × Nat × Nat) := [(9, 10, 0), (17, 10, 1), (20, 10, 2), (23, 10, 3), (26, 10, 4), (29, 10, 5), (32, 10, 6), (35, 10, 7), (49, 10, 8), (53, 10, 9), (56, 10, 10), (59, 10, 11), (62, 10, 12), (65, 10, 13), (68, 10, 14), (71, 10, 15)]
theorem FLX10 : mz_FL RX10 vwCl flX10 := mz_FL_of (List.forall_mem_cons.mpr ⟨⟨RX10, TX10, 16, rfl, by decide, iu_X10, Or.inl (mz_in 1202 (by decide +kernel) (by decide +kernel))⟩,
  List.forall_mem_cons.mpr ⟨⟨RX10, TX10, 16, rfl, by decide, iu_X10, Or.inl (mz_in 1204 (by decide +kernel) (by decide +kernel))⟩,
  List.forall_mem_cons.mpr ⟨⟨RX10, TX10, 16, rfl, by decide, iu_X10, Or.inl (mz_in 1206 (by decide +kernel) (by decide +kernel))⟩,
  List.forall_mem_cons.mpr ⟨⟨RX10, TX10, 16, rfl, by decide, iu_X10, Or.inl (mz_in 1208 (by decide +kernel) (by decide +kernel))⟩,
  List.forall_mem_cons.mpr ⟨⟨RX10, TX10, 16, rfl, by decide, iu_X10, Or.inl (mz_in 1210 (by decide +kernel) (by decide +kernel))⟩,
  List.forall_mem_cons.mpr ⟨⟨RX10, TX10, 16, rfl, by decide, iu_X10, Or.inl (mz_in 1212 (by decide +kernel) (by decide +kernel))⟩,
  List.forall_mem_cons.mpr ⟨⟨RX10, TX10, 16, rfl, by decide, iu_X10, Or.inl (mz_in 1214 (by decide +kernel) (by decide +kernel))⟩,
  List.forall_mem_cons.mpr ⟨⟨RX10, TX10, 16, rfl, by decide, iu_X10, Or.inl (mz_in 1216 (by decide +kernel) (by decide +kernel))⟩,
  List.forall_mem_cons.mpr ⟨⟨RX10, TX10, 16, rfl, by decide, iu_X10, Or.inl (mz_in 1218 (by decide +kernel) (by decide +kernel))⟩,
  List.forall_mem_cons.mpr ⟨⟨RX10, TX10, 16, rfl, by decide, iu_X10, Or.inl (mz_in 1220 (by decide +kernel) (by decide +kernel))⟩,
  List.forall_mem_cons.mpr ⟨⟨RX10, TX10, 16, rfl, by decide, iu_X10, Or.inl (mz_in 1222 (by decide +kernel) (by decide +kernel))⟩,
  List.forall_mem_cons.mpr ⟨⟨RX10, TX10, 16, rfl, by decide, iu_X10, Or.inl (mz_in 1224 (by decide +kernel) (by decide +kernel))⟩,
  List.forall_mem_cons.mpr ⟨⟨RX10, TX10, 16, rfl, by decide, iu_X10, Or.inl (mz_in 1226 (by decide +kernel) (by decide +kernel))⟩,
  List.forall_mem_cons.mpr ⟨⟨RX10, TX10, 16, rfl, by decide, iu_X10, Or.inl (mz_in 1228 (by decide +kernel) (by decide +kernel))⟩,
  List.forall_mem_cons.mpr ⟨⟨RX10, TX10, 16, rfl, by decide, iu_X10, Or.inl (mz_in 1230 (by decide +kernel) (by decide +kernel))⟩,
  List.forall_mem_cons.mpr ⟨⟨RX10, TX10, 16, rfl, by decide, iu_X10, Or.inl (mz_in 1232 (by decide +kernel) (by decide +kernel))⟩,
  fun _ h => absurd h List.not_mem_nil⟩⟩⟩⟩⟩⟩⟩⟩⟩⟩⟩⟩⟩⟩⟩⟩)
theorem wf_X10_9 : Cond.fieldLink RX10 9 (TX10 0).1 (TX10 0).2.1 (TX10 0).2.2.1 ∈ mz_ws := mz_in 1202 (by decide +kernel) (by decide +kernel)
theorem wf_X10_17 : Cond.fieldLink RX10 17 (TX10 1).1 (TX10 1).2.1 (TX10 1).2.2.1 ∈ mz_ws := mz_in 1204 (by decide +kernel) (by decide +kernel)
theorem wf_X10_20 : Cond.fieldLink RX10 20 (TX10 2).1 (TX10 2).2.1 (TX10 2).2.2.1 ∈ mz_ws := mz_in 1206 (by decide +kernel) (by decide +kernel)
theorem wf_X10_23 : Cond.fieldLink RX10 23 (TX10 3).1 (TX10 3).2.1 (TX10 3).2.2.1 ∈ mz_ws := mz_in 1208 (by decide +kernel) (by decide +kernel)
theorem wf_X10_26 : Cond.fieldLink RX10 26 (TX10 4).1 (TX10 4).2.1 (TX10 4).2.2.1 ∈ mz_ws := mz_in 1210 (by decide +kernel) (by decide +kernel)
theorem wf_X10_29 : Cond.fieldLink RX10 29 (TX10 5).1 (TX10 5).2.1 (TX10 5).2.2.1 ∈ mz_ws := mz_in 1212 (by decide +kernel) (by decide +kernel)
theorem wf_X10_32 : Cond.fieldLink RX10 32 (TX10 6).1 (TX10 6).2.1 (TX10 6).2.2.1 ∈ mz_ws := mz_in 1214 (by decide +kernel) (by decide +kernel)
theorem wf_X10_35 : Cond.fieldLink RX10 35 (TX10 7).1 (TX10 7).2.1 (TX10 7).2.2.1 ∈ mz_ws := mz_in 1216 (by decide +kernel) (by decide +kernel)
theorem wf_X10_49 : Cond.fieldLink RX10 49 (TX10 8).1 (TX10 8).2.1 (TX10 8).2.2.1 ∈ mz_ws := mz_in 1218 (by decide +kernel) (by decide +kernel)
theorem wf_X10_53 : Cond.fieldLink RX10 53 (TX10 9).1 (TX10 9).2.1 (TX10 9).2.2.1 ∈ mz_ws := mz_in 1220 (by decide +kernel) (by decide +kernel)
theorem wf_X10_56 : Cond.fieldLink RX10 56 (TX10 10).1 (TX10 10).2.1 (TX10 10).2.2.1 ∈ mz_ws := mz_in 1222 (by decide +kernel) (by decide +kernel)
theorem wf_X10_59 : Cond.fieldLink RX10 59 (TX10 11).1 (TX10 11).2.1 (TX10 11).2.2.1 ∈ mz_ws := mz_in 1224 (by decide +kernel) (by decide +kernel)
theorem wf_X10_62 : Cond.fieldLink RX10 62 (TX10 12).1 (TX10 12).2.1 (TX10 12).2.2.1 ∈ mz_ws := mz_in 1226 (by decide +kernel) (by decide +kernel)
theorem wf_X10_65 : Cond.fieldLink RX10 65 (TX10 13).1 (TX10 13).2.1 (TX10 13).2.2.1 ∈ mz_ws := mz_in 1228 (by decide +kernel) (by decide +kernel)
theorem wf_X10_68 : Cond.fieldLink RX10 68 (TX10 14).1 (TX10 14).2.1 (TX10 14).2.2.1 ∈ mz_ws := mz_in 1230 (by decide +kernel) (by decide +kernel)
theorem wf_X10_71 : Cond.fieldLink RX10 71 (TX10 15).1 (TX10 15).2.1 (TX10 15).2.2.1 ∈ mz_ws := mz_in 1232 (by decide +kernel) (by decide +kernel)
def klX10 : List (Nat × Int64) := []
theorem KLX10 : mz_KL RX10 klX10 := fun _ _ h => by cases h
theorem hy_X10_copy : mz_Y yX10_copy cX10_copy 2 (some (.object "ManorLoopsModel$House")) 0 := ⟨mz_in 1543 (by decide +kernel) (by decide +kernel), mz_in 1544 (by decide +kernel) (by decide +kernel), mz_in 71 (by decide +kernel) (by decide +kernel), mz_in 1545 (by decide +kernel) (by decide +kernel), ⟨by decide +kernel, by decide +kernel, by decide +kernel⟩⟩
theorem hn_X11_init : Cond.instanceMethod yX11_init ∈ mz_ws ∧ Cond.initialized yX11_init.cls ∈ mz_ws ∧ Cond.code yX11_init cX11_init 1 none ∈ mz_ws ∧ (yX11_init.cls ≠ "java/lang/invoke/MethodHandle" ∧ yX11_init.cls ≠ "java/lang/invoke/VarHandle" ∧ (parseMethodDescriptor yX11_init.desc).map (fun d => d.parameters.length) = some 0) := ⟨mz_in 1191 (by decide +kernel) (by decide +kernel), mz_in 70 (by decide +kernel) (by decide +kernel), mz_in 1192 (by decide +kernel) (by decide +kernel), ⟨by decide +kernel, by decide +kernel, by decide +kernel⟩⟩
theorem hn_X10_init : Cond.instanceMethod yX10_init ∈ mz_ws ∧ Cond.initialized yX10_init.cls ∈ mz_ws ∧ Cond.code yX10_init cX10_init 1 none ∈ mz_ws ∧ (yX10_init.cls ≠ "java/lang/invoke/MethodHandle" ∧ yX10_init.cls ≠ "java/lang/invoke/VarHandle" ∧ (parseMethodDescriptor yX10_init.desc).map (fun d => d.parameters.length) = some 0) := ⟨mz_in 1197 (by decide +kernel) (by decide +kernel), mz_in 71 (by decide +kernel) (by decide +kernel), mz_in 1198 (by decide +kernel) (by decide +kernel), ⟨by decide +kernel, by decide +kernel, by decide +kernel⟩⟩
theorem wc_L_8 : Cond.classLink RL 8 "ManorLoops" ∈ mz_ws := mz_in 81 (by decide +kernel) (by decide +kernel)
theorem wl_L_91 : Cond.methodLink RL 91 yX9_init ∈ mz_ws := mz_in 83 (by decide +kernel) (by decide +kernel)
theorem wl_L_165 : Cond.methodLink RL 165 yX9_meanKnown ∈ mz_ws := mz_in 427 (by decide +kernel) (by decide +kernel)
theorem wl_L_182 : Cond.methodLink RL 182 yX9_digest ∈ mz_ws := mz_in 449 (by decide +kernel) (by decide +kernel)
theorem wl_L_95 : Cond.methodLink RL 95 yL_room ∈ mz_ws := mz_in 913 (by decide +kernel) (by decide +kernel)
def tb_L_room : List (Nat × Nat × Nat × Nat) := [(0, 9, 12, 13), (0, 9, 15, 15)]
theorem hx_L_room : Cond.static yL_room ∈ mz_ws ∧ Cond.initialized yL_room.cls ∈ mz_ws ∧ Cond.codeWith yL_room cL_room 4 (some .int) tb_L_room ∈ mz_ws ∧ (yL_room.cls ≠ "java/lang/invoke/MethodHandle" ∧ yL_room.cls ≠ "java/lang/invoke/VarHandle" ∧ (parseMethodDescriptor yL_room.desc).map (fun d => d.parameters.length) = some 3) := ⟨mz_in 914 (by decide +kernel) (by decide +kernel), mz_in 58 (by decide +kernel) (by decide +kernel), mz_in 915 (by decide +kernel) (by decide +kernel), ⟨by decide +kernel, by decide +kernel, by decide +kernel⟩⟩
theorem wc_L_13 : Cond.classLink RL 13 "java/lang/IllegalArgumentException" ∈ mz_ws := mz_in 916 (by decide +kernel) (by decide +kernel)
theorem wc_L_15 : Cond.classLink RL 15 "java/lang/IllegalStateException" ∈ mz_ws := mz_in 917 (by decide +kernel) (by decide +kernel)
theorem wl_L_7 : Cond.methodLink RL 7 yX9_room ∈ mz_ws := mz_in 918 (by decide +kernel) (by decide +kernel)
theorem wl_L_105 : Cond.methodLink RL 105 yL_door ∈ mz_ws := mz_in 945 (by decide +kernel) (by decide +kernel)
def tb_L_door : List (Nat × Nat × Nat × Nat) := [(0, 12, 15, 21), (0, 12, 19, 13), (0, 12, 23, 15)]
theorem hx_L_door : Cond.static yL_door ∈ mz_ws ∧ Cond.initialized yL_door.cls ∈ mz_ws ∧ Cond.codeWith yL_door cL_door 6 (some .int) tb_L_door ∈ mz_ws ∧ (yL_door.cls ≠ "java/lang/invoke/MethodHandle" ∧ yL_door.cls ≠ "java/lang/invoke/VarHandle" ∧ (parseMethodDescriptor yL_door.desc).map (fun d => d.parameters.length) = some 5) := ⟨mz_in 946 (by decide +kernel) (by decide +kernel), mz_in 58 (by decide +kernel) (by decide +kernel), mz_in 947 (by decide +kernel) (by decide +kernel), ⟨by decide +kernel, by decide +kernel, by decide +kernel⟩⟩
theorem wc_L_21 : Cond.classLink RL 21 "java/lang/IndexOutOfBoundsException" ∈ mz_ws := mz_in 948 (by decide +kernel) (by decide +kernel)
theorem wl_L_17 : Cond.methodLink RL 17 yX9_door ∈ mz_ws := mz_in 949 (by decide +kernel) (by decide +kernel)
theorem wl_L_109 : Cond.methodLink RL 109 yL_track ∈ mz_ws := mz_in 972 (by decide +kernel) (by decide +kernel)
def tb_L_track : List (Nat × Nat × Nat × Nat) := [(0, 9, 12, 21), (0, 9, 15, 15)]
theorem hx_L_track : Cond.static yL_track ∈ mz_ws ∧ Cond.initialized yL_track.cls ∈ mz_ws ∧ Cond.codeWith yL_track cL_track 4 (some .int) tb_L_track ∈ mz_ws ∧ (yL_track.cls ≠ "java/lang/invoke/MethodHandle" ∧ yL_track.cls ≠ "java/lang/invoke/VarHandle" ∧ (parseMethodDescriptor yL_track.desc).map (fun d => d.parameters.length) = some 3) := ⟨mz_in 973 (by decide +kernel) (by decide +kernel), mz_in 58 (by decide +kernel) (by decide +kernel), mz_in 974 (by decide +kernel) (by decide +kernel), ⟨by decide +kernel, by decide +kernel, by decide +kernel⟩⟩
theorem wl_L_23 : Cond.methodLink RL 23 yX9_track ∈ mz_ws := mz_in 975 (by decide +kernel) (by decide +kernel)
theorem wl_L_112 : Cond.methodLink RL 112 yL_prop ∈ mz_ws := mz_in 989 (by decide +kernel) (by decide +kernel)
def tb_L_prop : List (Nat × Nat × Nat × Nat) := [(0, 9, 12, 21), (0, 9, 15, 15)]
theorem hx_L_prop : Cond.static yL_prop ∈ mz_ws ∧ Cond.initialized yL_prop.cls ∈ mz_ws ∧ Cond.codeWith yL_prop cL_prop 4 (some .int) tb_L_prop ∈ mz_ws ∧ (yL_prop.cls ≠ "java/lang/invoke/MethodHandle" ∧ yL_prop.cls ≠ "java/lang/invoke/VarHandle" ∧ (parseMethodDescriptor yL_prop.desc).map (fun d => d.parameters.length) = some 3) := ⟨mz_in 990 (by decide +kernel) (by decide +kernel), mz_in 58 (by decide +kernel) (by decide +kernel), mz_in 991 (by decide +kernel) (by decide +kernel), ⟨by decide +kernel, by decide +kernel, by decide +kernel⟩⟩
theorem wl_L_26 : Cond.methodLink RL 26 yX9_prop ∈ mz_ws := mz_in 992 (by decide +kernel) (by decide +kernel)
theorem wl_L_115 : Cond.methodLink RL 115 yL_scene ∈ mz_ws := mz_in 1002 (by decide +kernel) (by decide +kernel)
def tb_L_scene : List (Nat × Nat × Nat × Nat) := [(0, 16, 19, 21), (0, 16, 23, 13), (0, 16, 27, 15)]
theorem hx_L_scene : Cond.static yL_scene ∈ mz_ws ∧ Cond.initialized yL_scene.cls ∈ mz_ws ∧ Cond.codeWith yL_scene cL_scene 8 (some .int) tb_L_scene ∈ mz_ws ∧ (yL_scene.cls ≠ "java/lang/invoke/MethodHandle" ∧ yL_scene.cls ≠ "java/lang/invoke/VarHandle" ∧ (parseMethodDescriptor yL_scene.desc).map (fun d => d.parameters.length) = some 7) := ⟨mz_in 1003 (by decide +kernel) (by decide +kernel), mz_in 58 (by decide +kernel) (by decide +kernel), mz_in 1004 (by decide +kernel) (by decide +kernel), ⟨by decide +kernel, by decide +kernel, by decide +kernel⟩⟩
theorem wl_L_29 : Cond.methodLink RL 29 yX9_scene ∈ mz_ws := mz_in 1005 (by decide +kernel) (by decide +kernel)
theorem wl_L_119 : Cond.methodLink RL 119 yL_guest ∈ mz_ws := mz_in 1028 (by decide +kernel) (by decide +kernel)
def tb_L_guest : List (Nat × Nat × Nat × Nat) := [(0, 9, 12, 21), (0, 9, 15, 15)]
theorem hx_L_guest : Cond.static yL_guest ∈ mz_ws ∧ Cond.initialized yL_guest.cls ∈ mz_ws ∧ Cond.codeWith yL_guest cL_guest 4 (some .int) tb_L_guest ∈ mz_ws ∧ (yL_guest.cls ≠ "java/lang/invoke/MethodHandle" ∧ yL_guest.cls ≠ "java/lang/invoke/VarHandle" ∧ (parseMethodDescriptor yL_guest.desc).map (fun d => d.parameters.length) = some 3) := ⟨mz_in 1029 (by decide +kernel) (by decide +kernel), mz_in 58 (by decide +kernel) (by decide +kernel), mz_in 1030 (by decide +kernel) (by decide +kernel), ⟨by decide +kernel, by decide +kernel, by decide +kernel⟩⟩
theorem wl_L_33 : Cond.methodLink RL 33 yX9_guest ∈ mz_ws := mz_in 1031 (by decide +kernel) (by decide +kernel)
theorem wl_L_122 : Cond.methodLink RL 122 yL_habit ∈ mz_ws := mz_in 1045 (by decide +kernel) (by decide +kernel)
def tb_L_habit : List (Nat × Nat × Nat × Nat) := [(0, 12, 15, 21), (0, 12, 19, 13)]
theorem hx_L_habit : Cond.static yL_habit ∈ mz_ws ∧ Cond.initialized yL_habit.cls ∈ mz_ws ∧ Cond.codeWith yL_habit cL_habit 6 (some .int) tb_L_habit ∈ mz_ws ∧ (yL_habit.cls ≠ "java/lang/invoke/MethodHandle" ∧ yL_habit.cls ≠ "java/lang/invoke/VarHandle" ∧ (parseMethodDescriptor yL_habit.desc).map (fun d => d.parameters.length) = some 5) := ⟨mz_in 1046 (by decide +kernel) (by decide +kernel), mz_in 58 (by decide +kernel) (by decide +kernel), mz_in 1047 (by decide +kernel) (by decide +kernel), ⟨by decide +kernel, by decide +kernel, by decide +kernel⟩⟩
theorem wl_L_36 : Cond.methodLink RL 36 yX9_habit ∈ mz_ws := mz_in 1048 (by decide +kernel) (by decide +kernel)
theorem wl_L_125 : Cond.methodLink RL 125 yL_pass ∈ mz_ws := mz_in 1054 (by decide +kernel) (by decide +kernel)
def tb_L_pass : List (Nat × Nat × Nat × Nat) := [(0, 9, 12, 13), (0, 9, 15, 15)]
theorem hx_L_pass : Cond.static yL_pass ∈ mz_ws ∧ Cond.initialized yL_pass.cls ∈ mz_ws ∧ Cond.codeWith yL_pass cL_pass 4 (some .int) tb_L_pass ∈ mz_ws ∧ (yL_pass.cls ≠ "java/lang/invoke/MethodHandle" ∧ yL_pass.cls ≠ "java/lang/invoke/VarHandle" ∧ (parseMethodDescriptor yL_pass.desc).map (fun d => d.parameters.length) = some 3) := ⟨mz_in 1055 (by decide +kernel) (by decide +kernel), mz_in 58 (by decide +kernel) (by decide +kernel), mz_in 1056 (by decide +kernel) (by decide +kernel), ⟨by decide +kernel, by decide +kernel, by decide +kernel⟩⟩
theorem wl_L_39 : Cond.methodLink RL 39 yX9_pass ∈ mz_ws := mz_in 1057 (by decide +kernel) (by decide +kernel)
theorem wl_L_128 : Cond.methodLink RL 128 yL_take ∈ mz_ws := mz_in 1066 (by decide +kernel) (by decide +kernel)
def tb_L_take : List (Nat × Nat × Nat × Nat) := [(0, 10, 13, 21), (0, 10, 17, 15)]
theorem hx_L_take : Cond.static yL_take ∈ mz_ws ∧ Cond.initialized yL_take.cls ∈ mz_ws ∧ Cond.codeWith yL_take cL_take 5 (some .int) tb_L_take ∈ mz_ws ∧ (yL_take.cls ≠ "java/lang/invoke/MethodHandle" ∧ yL_take.cls ≠ "java/lang/invoke/VarHandle" ∧ (parseMethodDescriptor yL_take.desc).map (fun d => d.parameters.length) = some 4) := ⟨mz_in 1067 (by decide +kernel) (by decide +kernel), mz_in 58 (by decide +kernel) (by decide +kernel), mz_in 1068 (by decide +kernel) (by decide +kernel), ⟨by decide +kernel, by decide +kernel, by decide +kernel⟩⟩
theorem wl_L_42 : Cond.methodLink RL 42 yX9_take ∈ mz_ws := mz_in 1069 (by decide +kernel) (by decide +kernel)
theorem wl_L_132 : Cond.methodLink RL 132 yL_leave ∈ mz_ws := mz_in 1087 (by decide +kernel) (by decide +kernel)
def tb_L_leave : List (Nat × Nat × Nat × Nat) := [(0, 9, 12, 21), (0, 9, 15, 15)]
theorem hx_L_leave : Cond.static yL_leave ∈ mz_ws ∧ Cond.initialized yL_leave.cls ∈ mz_ws ∧ Cond.codeWith yL_leave cL_leave 4 (some .int) tb_L_leave ∈ mz_ws ∧ (yL_leave.cls ≠ "java/lang/invoke/MethodHandle" ∧ yL_leave.cls ≠ "java/lang/invoke/VarHandle" ∧ (parseMethodDescriptor yL_leave.desc).map (fun d => d.parameters.length) = some 3) := ⟨mz_in 1088 (by decide +kernel) (by decide +kernel), mz_in 58 (by decide +kernel) (by decide +kernel), mz_in 1089 (by decide +kernel) (by decide +kernel), ⟨by decide +kernel, by decide +kernel, by decide +kernel⟩⟩
theorem wl_L_46 : Cond.methodLink RL 46 yX9_leave ∈ mz_ws := mz_in 1090 (by decide +kernel) (by decide +kernel)
theorem wl_L_135 : Cond.methodLink RL 135 yL_play ∈ mz_ws := mz_in 1095 (by decide +kernel) (by decide +kernel)
def tb_L_play : List (Nat × Nat × Nat × Nat) := [(0, 10, 13, 21), (0, 10, 17, 13), (0, 10, 21, 15)]
theorem hx_L_play : Cond.static yL_play ∈ mz_ws ∧ Cond.initialized yL_play.cls ∈ mz_ws ∧ Cond.codeWith yL_play cL_play 5 (some .int) tb_L_play ∈ mz_ws ∧ (yL_play.cls ≠ "java/lang/invoke/MethodHandle" ∧ yL_play.cls ≠ "java/lang/invoke/VarHandle" ∧ (parseMethodDescriptor yL_play.desc).map (fun d => d.parameters.length) = some 4) := ⟨mz_in 1096 (by decide +kernel) (by decide +kernel), mz_in 58 (by decide +kernel) (by decide +kernel), mz_in 1097 (by decide +kernel) (by decide +kernel), ⟨by decide +kernel, by decide +kernel, by decide +kernel⟩⟩
theorem wl_L_49 : Cond.methodLink RL 49 yX9_play ∈ mz_ws := mz_in 1098 (by decide +kernel) (by decide +kernel)
theorem wl_L_138 : Cond.methodLink RL 138 yL_part ∈ mz_ws := mz_in 1112 (by decide +kernel) (by decide +kernel)
def tb_L_part : List (Nat × Nat × Nat × Nat) := [(0, 9, 12, 21), (0, 9, 15, 15)]
theorem hx_L_part : Cond.static yL_part ∈ mz_ws ∧ Cond.initialized yL_part.cls ∈ mz_ws ∧ Cond.codeWith yL_part cL_part 4 (some .int) tb_L_part ∈ mz_ws ∧ (yL_part.cls ≠ "java/lang/invoke/MethodHandle" ∧ yL_part.cls ≠ "java/lang/invoke/VarHandle" ∧ (parseMethodDescriptor yL_part.desc).map (fun d => d.parameters.length) = some 3) := ⟨mz_in 1113 (by decide +kernel) (by decide +kernel), mz_in 58 (by decide +kernel) (by decide +kernel), mz_in 1114 (by decide +kernel) (by decide +kernel), ⟨by decide +kernel, by decide +kernel, by decide +kernel⟩⟩
theorem wl_L_52 : Cond.methodLink RL 52 yX9_part ∈ mz_ws := mz_in 1115 (by decide +kernel) (by decide +kernel)
theorem wl_L_141 : Cond.methodLink RL 141 yL_ofRoom ∈ mz_ws := mz_in 1125 (by decide +kernel) (by decide +kernel)
def tb_L_ofRoom : List (Nat × Nat × Nat × Nat) := [(0, 10, 13, 21), (0, 10, 17, 13)]
theorem hx_L_ofRoom : Cond.static yL_ofRoom ∈ mz_ws ∧ Cond.initialized yL_ofRoom.cls ∈ mz_ws ∧ Cond.codeWith yL_ofRoom cL_ofRoom 5 (some .int) tb_L_ofRoom ∈ mz_ws ∧ (yL_ofRoom.cls ≠ "java/lang/invoke/MethodHandle" ∧ yL_ofRoom.cls ≠ "java/lang/invoke/VarHandle" ∧ (parseMethodDescriptor yL_ofRoom.desc).map (fun d => d.parameters.length) = some 4) := ⟨mz_in 1126 (by decide +kernel) (by decide +kernel), mz_in 58 (by decide +kernel) (by decide +kernel), mz_in 1127 (by decide +kernel) (by decide +kernel), ⟨by decide +kernel, by decide +kernel, by decide +kernel⟩⟩
theorem wl_L_55 : Cond.methodLink RL 55 yX9_ofRoom ∈ mz_ws := mz_in 1128 (by decide +kernel) (by decide +kernel)
theorem wl_L_144 : Cond.methodLink RL 144 yL_way ∈ mz_ws := mz_in 1129 (by decide +kernel) (by decide +kernel)
def tb_L_way : List (Nat × Nat × Nat × Nat) := [(0, 12, 15, 21), (0, 12, 19, 13)]
theorem hx_L_way : Cond.static yL_way ∈ mz_ws ∧ Cond.initialized yL_way.cls ∈ mz_ws ∧ Cond.codeWith yL_way cL_way 6 (some .int) tb_L_way ∈ mz_ws ∧ (yL_way.cls ≠ "java/lang/invoke/MethodHandle" ∧ yL_way.cls ≠ "java/lang/invoke/VarHandle" ∧ (parseMethodDescriptor yL_way.desc).map (fun d => d.parameters.length) = some 5) := ⟨mz_in 1130 (by decide +kernel) (by decide +kernel), mz_in 58 (by decide +kernel) (by decide +kernel), mz_in 1131 (by decide +kernel) (by decide +kernel), ⟨by decide +kernel, by decide +kernel, by decide +kernel⟩⟩
theorem wl_L_58 : Cond.methodLink RL 58 yX9_way ∈ mz_ws := mz_in 1132 (by decide +kernel) (by decide +kernel)
theorem wl_L_147 : Cond.methodLink RL 147 yL_ofTrack ∈ mz_ws := mz_in 1133 (by decide +kernel) (by decide +kernel)
def tb_L_ofTrack : List (Nat × Nat × Nat × Nat) := [(0, 10, 13, 21), (0, 10, 17, 13)]
theorem hx_L_ofTrack : Cond.static yL_ofTrack ∈ mz_ws ∧ Cond.initialized yL_ofTrack.cls ∈ mz_ws ∧ Cond.codeWith yL_ofTrack cL_ofTrack 5 (some .int) tb_L_ofTrack ∈ mz_ws ∧ (yL_ofTrack.cls ≠ "java/lang/invoke/MethodHandle" ∧ yL_ofTrack.cls ≠ "java/lang/invoke/VarHandle" ∧ (parseMethodDescriptor yL_ofTrack.desc).map (fun d => d.parameters.length) = some 4) := ⟨mz_in 1134 (by decide +kernel) (by decide +kernel), mz_in 58 (by decide +kernel) (by decide +kernel), mz_in 1135 (by decide +kernel) (by decide +kernel), ⟨by decide +kernel, by decide +kernel, by decide +kernel⟩⟩
theorem wl_L_61 : Cond.methodLink RL 61 yX9_ofTrack ∈ mz_ws := mz_in 1136 (by decide +kernel) (by decide +kernel)
theorem wl_L_150 : Cond.methodLink RL 150 yL_ofScene ∈ mz_ws := mz_in 1137 (by decide +kernel) (by decide +kernel)
def tb_L_ofScene : List (Nat × Nat × Nat × Nat) := [(0, 10, 13, 21), (0, 10, 17, 13)]
theorem hx_L_ofScene : Cond.static yL_ofScene ∈ mz_ws ∧ Cond.initialized yL_ofScene.cls ∈ mz_ws ∧ Cond.codeWith yL_ofScene cL_ofScene 5 (some .int) tb_L_ofScene ∈ mz_ws ∧ (yL_ofScene.cls ≠ "java/lang/invoke/MethodHandle" ∧ yL_ofScene.cls ≠ "java/lang/invoke/VarHandle" ∧ (parseMethodDescriptor yL_ofScene.desc).map (fun d => d.parameters.length) = some 4) := ⟨mz_in 1138 (by decide +kernel) (by decide +kernel), mz_in 58 (by decide +kernel) (by decide +kernel), mz_in 1139 (by decide +kernel) (by decide +kernel), ⟨by decide +kernel, by decide +kernel, by decide +kernel⟩⟩
theorem wl_L_64 : Cond.methodLink RL 64 yX9_ofScene ∈ mz_ws := mz_in 1140 (by decide +kernel) (by decide +kernel)
theorem wl_L_153 : Cond.methodLink RL 153 yL_ofGuest ∈ mz_ws := mz_in 1141 (by decide +kernel) (by decide +kernel)
def tb_L_ofGuest : List (Nat × Nat × Nat × Nat) := [(0, 10, 13, 21), (0, 10, 17, 13)]
theorem hx_L_ofGuest : Cond.static yL_ofGuest ∈ mz_ws ∧ Cond.initialized yL_ofGuest.cls ∈ mz_ws ∧ Cond.codeWith yL_ofGuest cL_ofGuest 5 (some .int) tb_L_ofGuest ∈ mz_ws ∧ (yL_ofGuest.cls ≠ "java/lang/invoke/MethodHandle" ∧ yL_ofGuest.cls ≠ "java/lang/invoke/VarHandle" ∧ (parseMethodDescriptor yL_ofGuest.desc).map (fun d => d.parameters.length) = some 4) := ⟨mz_in 1142 (by decide +kernel) (by decide +kernel), mz_in 58 (by decide +kernel) (by decide +kernel), mz_in 1143 (by decide +kernel) (by decide +kernel), ⟨by decide +kernel, by decide +kernel, by decide +kernel⟩⟩
theorem wl_L_67 : Cond.methodLink RL 67 yX9_ofGuest ∈ mz_ws := mz_in 1144 (by decide +kernel) (by decide +kernel)
theorem wl_L_156 : Cond.methodLink RL 156 yL_ofProp ∈ mz_ws := mz_in 1145 (by decide +kernel) (by decide +kernel)
def tb_L_ofProp : List (Nat × Nat × Nat × Nat) := [(0, 10, 13, 21), (0, 10, 17, 13)]
theorem hx_L_ofProp : Cond.static yL_ofProp ∈ mz_ws ∧ Cond.initialized yL_ofProp.cls ∈ mz_ws ∧ Cond.codeWith yL_ofProp cL_ofProp 5 (some .int) tb_L_ofProp ∈ mz_ws ∧ (yL_ofProp.cls ≠ "java/lang/invoke/MethodHandle" ∧ yL_ofProp.cls ≠ "java/lang/invoke/VarHandle" ∧ (parseMethodDescriptor yL_ofProp.desc).map (fun d => d.parameters.length) = some 4) := ⟨mz_in 1146 (by decide +kernel) (by decide +kernel), mz_in 58 (by decide +kernel) (by decide +kernel), mz_in 1147 (by decide +kernel) (by decide +kernel), ⟨by decide +kernel, by decide +kernel, by decide +kernel⟩⟩
theorem wl_L_70 : Cond.methodLink RL 70 yX9_ofProp ∈ mz_ws := mz_in 1148 (by decide +kernel) (by decide +kernel)
theorem wl_L_159 : Cond.methodLink RL 159 yL_seen ∈ mz_ws := mz_in 1149 (by decide +kernel) (by decide +kernel)
def tb_L_seen : List (Nat × Nat × Nat × Nat) := [(0, 10, 13, 21)]
theorem hx_L_seen : Cond.static yL_seen ∈ mz_ws ∧ Cond.initialized yL_seen.cls ∈ mz_ws ∧ Cond.codeWith yL_seen cL_seen 5 (some .int) tb_L_seen ∈ mz_ws ∧ (yL_seen.cls ≠ "java/lang/invoke/MethodHandle" ∧ yL_seen.cls ≠ "java/lang/invoke/VarHandle" ∧ (parseMethodDescriptor yL_seen.desc).map (fun d => d.parameters.length) = some 4) := ⟨mz_in 1150 (by decide +kernel) (by decide +kernel), mz_in 58 (by decide +kernel) (by decide +kernel), mz_in 1151 (by decide +kernel) (by decide +kernel), ⟨by decide +kernel, by decide +kernel, by decide +kernel⟩⟩
theorem wl_L_73 : Cond.methodLink RL 73 yX9_seen ∈ mz_ws := mz_in 1152 (by decide +kernel) (by decide +kernel)
theorem wl_L_162 : Cond.methodLink RL 162 yL_many ∈ mz_ws := mz_in 1153 (by decide +kernel) (by decide +kernel)
def tb_L_many : List (Nat × Nat × Nat × Nat) := [(0, 9, 12, 13)]
theorem hx_L_many : Cond.static yL_many ∈ mz_ws ∧ Cond.initialized yL_many.cls ∈ mz_ws ∧ Cond.codeWith yL_many cL_many 4 (some .int) tb_L_many ∈ mz_ws ∧ (yL_many.cls ≠ "java/lang/invoke/MethodHandle" ∧ yL_many.cls ≠ "java/lang/invoke/VarHandle" ∧ (parseMethodDescriptor yL_many.desc).map (fun d => d.parameters.length) = some 3) := ⟨mz_in 1154 (by decide +kernel) (by decide +kernel), mz_in 58 (by decide +kernel) (by decide +kernel), mz_in 1155 (by decide +kernel) (by decide +kernel), ⟨by decide +kernel, by decide +kernel, by decide +kernel⟩⟩
theorem wl_L_76 : Cond.methodLink RL 76 yX9_many ∈ mz_ws := mz_in 1156 (by decide +kernel) (by decide +kernel)
theorem wl_L_170 : Cond.methodLink RL 170 yL_wouldKnow ∈ mz_ws := mz_in 1157 (by decide +kernel) (by decide +kernel)
def tb_L_wouldKnow : List (Nat × Nat × Nat × Nat) := [(0, 10, 13, 21), (0, 10, 17, 13)]
theorem hx_L_wouldKnow : Cond.static yL_wouldKnow ∈ mz_ws ∧ Cond.initialized yL_wouldKnow.cls ∈ mz_ws ∧ Cond.codeWith yL_wouldKnow cL_wouldKnow 5 (some .int) tb_L_wouldKnow ∈ mz_ws ∧ (yL_wouldKnow.cls ≠ "java/lang/invoke/MethodHandle" ∧ yL_wouldKnow.cls ≠ "java/lang/invoke/VarHandle" ∧ (parseMethodDescriptor yL_wouldKnow.desc).map (fun d => d.parameters.length) = some 4) := ⟨mz_in 1158 (by decide +kernel) (by decide +kernel), mz_in 58 (by decide +kernel) (by decide +kernel), mz_in 1159 (by decide +kernel) (by decide +kernel), ⟨by decide +kernel, by decide +kernel, by decide +kernel⟩⟩
theorem wl_L_79 : Cond.methodLink RL 79 yX9_wouldKnow ∈ mz_ws := mz_in 1160 (by decide +kernel) (by decide +kernel)
theorem wl_L_173 : Cond.methodLink RL 173 yL_bestHabit ∈ mz_ws := mz_in 1164 (by decide +kernel) (by decide +kernel)
def tb_L_bestHabit : List (Nat × Nat × Nat × Nat) := [(0, 10, 13, 21), (0, 10, 17, 13)]
theorem hx_L_bestHabit : Cond.static yL_bestHabit ∈ mz_ws ∧ Cond.initialized yL_bestHabit.cls ∈ mz_ws ∧ Cond.codeWith yL_bestHabit cL_bestHabit 5 (some .int) tb_L_bestHabit ∈ mz_ws ∧ (yL_bestHabit.cls ≠ "java/lang/invoke/MethodHandle" ∧ yL_bestHabit.cls ≠ "java/lang/invoke/VarHandle" ∧ (parseMethodDescriptor yL_bestHabit.desc).map (fun d => d.parameters.length) = some 4) := ⟨mz_in 1165 (by decide +kernel) (by decide +kernel), mz_in 58 (by decide +kernel) (by decide +kernel), mz_in 1166 (by decide +kernel) (by decide +kernel), ⟨by decide +kernel, by decide +kernel, by decide +kernel⟩⟩
theorem wl_L_82 : Cond.methodLink RL 82 yX9_bestHabit ∈ mz_ws := mz_in 1167 (by decide +kernel) (by decide +kernel)
theorem wl_L_176 : Cond.methodLink RL 176 yL_wouldCut ∈ mz_ws := mz_in 1177 (by decide +kernel) (by decide +kernel)
def tb_L_wouldCut : List (Nat × Nat × Nat × Nat) := [(0, 9, 12, 13)]
theorem hx_L_wouldCut : Cond.static yL_wouldCut ∈ mz_ws ∧ Cond.initialized yL_wouldCut.cls ∈ mz_ws ∧ Cond.codeWith yL_wouldCut cL_wouldCut 4 (some .int) tb_L_wouldCut ∈ mz_ws ∧ (yL_wouldCut.cls ≠ "java/lang/invoke/MethodHandle" ∧ yL_wouldCut.cls ≠ "java/lang/invoke/VarHandle" ∧ (parseMethodDescriptor yL_wouldCut.desc).map (fun d => d.parameters.length) = some 3) := ⟨mz_in 1178 (by decide +kernel) (by decide +kernel), mz_in 58 (by decide +kernel) (by decide +kernel), mz_in 1179 (by decide +kernel) (by decide +kernel), ⟨by decide +kernel, by decide +kernel, by decide +kernel⟩⟩
theorem wl_L_85 : Cond.methodLink RL 85 yX9_wouldCut ∈ mz_ws := mz_in 1180 (by decide +kernel) (by decide +kernel)
theorem wl_L_179 : Cond.methodLink RL 179 yL_doubles ∈ mz_ws := mz_in 1184 (by decide +kernel) (by decide +kernel)
def tb_L_doubles : List (Nat × Nat × Nat × Nat) := [(0, 9, 12, 21)]
theorem hx_L_doubles : Cond.static yL_doubles ∈ mz_ws ∧ Cond.initialized yL_doubles.cls ∈ mz_ws ∧ Cond.codeWith yL_doubles cL_doubles 4 (some .int) tb_L_doubles ∈ mz_ws ∧ (yL_doubles.cls ≠ "java/lang/invoke/MethodHandle" ∧ yL_doubles.cls ≠ "java/lang/invoke/VarHandle" ∧ (parseMethodDescriptor yL_doubles.desc).map (fun d => d.parameters.length) = some 3) := ⟨mz_in 1185 (by decide +kernel) (by decide +kernel), mz_in 58 (by decide +kernel) (by decide +kernel), mz_in 1186 (by decide +kernel) (by decide +kernel), ⟨by decide +kernel, by decide +kernel, by decide +kernel⟩⟩
theorem wl_L_88 : Cond.methodLink RL 88 yX9_doubles ∈ mz_ws := mz_in 1187 (by decide +kernel) (by decide +kernel)
theorem wc_L_92 : Cond.classLink RL 92 "ManorLoopsModel" ∈ mz_ws := mz_in 1188 (by decide +kernel) (by decide +kernel)
theorem wl_L_94 : Cond.methodLink RL 94 yX11_init ∈ mz_ws := mz_in 1190 (by decide +kernel) (by decide +kernel)
theorem wl_L_101 : Cond.methodLink RL 101 yX11_thrown ∈ mz_ws := mz_in 1274 (by decide +kernel) (by decide +kernel)
theorem wl_L_100 : Cond.methodLink RL 100 yX11_room ∈ mz_ws := mz_in 1278 (by decide +kernel) (by decide +kernel)
theorem wl_L_108 : Cond.methodLink RL 108 yX11_door ∈ mz_ws := mz_in 1294 (by decide +kernel) (by decide +kernel)
theorem wl_L_111 : Cond.methodLink RL 111 yX11_track ∈ mz_ws := mz_in 1302 (by decide +kernel) (by decide +kernel)
theorem wl_L_114 : Cond.methodLink RL 114 yX11_prop ∈ mz_ws := mz_in 1307 (by decide +kernel) (by decide +kernel)
theorem wl_L_118 : Cond.methodLink RL 118 yX11_scene ∈ mz_ws := mz_in 1311 (by decide +kernel) (by decide +kernel)
theorem wl_L_121 : Cond.methodLink RL 121 yX11_guest ∈ mz_ws := mz_in 1327 (by decide +kernel) (by decide +kernel)
theorem wl_L_124 : Cond.methodLink RL 124 yX11_habit ∈ mz_ws := mz_in 1335 (by decide +kernel) (by decide +kernel)
theorem wl_L_127 : Cond.methodLink RL 127 yX11_pass ∈ mz_ws := mz_in 1347 (by decide +kernel) (by decide +kernel)
theorem wl_L_131 : Cond.methodLink RL 131 yX11_take ∈ mz_ws := mz_in 1427 (by decide +kernel) (by decide +kernel)
theorem wl_L_134 : Cond.methodLink RL 134 yX11_leave ∈ mz_ws := mz_in 1437 (by decide +kernel) (by decide +kernel)
theorem wl_L_137 : Cond.methodLink RL 137 yX11_play ∈ mz_ws := mz_in 1441 (by decide +kernel) (by decide +kernel)
theorem wl_L_140 : Cond.methodLink RL 140 yX11_part ∈ mz_ws := mz_in 1454 (by decide +kernel) (by decide +kernel)
theorem wl_L_143 : Cond.methodLink RL 143 yX11_ofRoom ∈ mz_ws := mz_in 1459 (by decide +kernel) (by decide +kernel)
theorem wl_L_146 : Cond.methodLink RL 146 yX11_way ∈ mz_ws := mz_in 1468 (by decide +kernel) (by decide +kernel)
theorem wl_L_149 : Cond.methodLink RL 149 yX11_ofTrack ∈ mz_ws := mz_in 1477 (by decide +kernel) (by decide +kernel)
theorem wl_L_152 : Cond.methodLink RL 152 yX11_ofScene ∈ mz_ws := mz_in 1486 (by decide +kernel) (by decide +kernel)
theorem wl_L_155 : Cond.methodLink RL 155 yX11_ofGuest ∈ mz_ws := mz_in 1502 (by decide +kernel) (by decide +kernel)
theorem wl_L_158 : Cond.methodLink RL 158 yX11_ofProp ∈ mz_ws := mz_in 1510 (by decide +kernel) (by decide +kernel)
theorem wl_L_161 : Cond.methodLink RL 161 yX11_seen ∈ mz_ws := mz_in 1518 (by decide +kernel) (by decide +kernel)
theorem wl_L_164 : Cond.methodLink RL 164 yX11_many ∈ mz_ws := mz_in 1522 (by decide +kernel) (by decide +kernel)
theorem wl_L_169 : Cond.methodLink RL 169 yX11_meanKnown ∈ mz_ws := mz_in 1534 (by decide +kernel) (by decide +kernel)
theorem wl_L_172 : Cond.methodLink RL 172 yX11_wouldKnow ∈ mz_ws := mz_in 1538 (by decide +kernel) (by decide +kernel)
theorem wl_L_175 : Cond.methodLink RL 175 yX11_bestHabit ∈ mz_ws := mz_in 1556 (by decide +kernel) (by decide +kernel)
theorem wl_L_178 : Cond.methodLink RL 178 yX11_wouldCut ∈ mz_ws := mz_in 1563 (by decide +kernel) (by decide +kernel)
theorem wl_L_181 : Cond.methodLink RL 181 yX11_doubles ∈ mz_ws := mz_in 1571 (by decide +kernel) (by decide +kernel)
theorem wl_L_186 : Cond.methodLink RL 186 yX11_digest ∈ mz_ws := mz_in 1579 (by decide +kernel) (by decide +kernel)
