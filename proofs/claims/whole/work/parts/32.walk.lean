/-! the law's walk: decode rows, calls, the cases (wip/whole/gen31.py) -/
theorem mi_Bs_stage : MI M_Bs_stage 2 := ⟨(lwg_at 1 (by decide +kernel) rfl), (lwg_at 293 (by decide +kernel) rfl), ⟨by decide +kernel, by decide +kernel⟩, by decide +kernel, by decide⟩
theorem cs_L_13 : CV R_law 13 RX11 M_Bs_stage 2 := ⟨(lwg_at 290 (by decide +kernel) rfl), (lwg_at 291 (by decide +kernel) rfl), (lwg_at 292 (by decide +kernel) rfl), mi_Bs_stage⟩
theorem mi_M_stage : MI M_M_stage 2 := ⟨(lwg_at 10 (by decide +kernel) rfl), (lwg_at 1365 (by decide +kernel) rfl), ⟨by decide +kernel, by decide +kernel⟩, by decide +kernel, by decide⟩
theorem cs_L_17 : CV R_law 17 RX12 M_M_stage 2 := ⟨(lwg_at 1362 (by decide +kernel) rfl), (lwg_at 1363 (by decide +kernel) rfl), (lwg_at 1364 (by decide +kernel) rfl), mi_M_stage⟩
theorem mi_Bs_wall : MI M_Bs_wall 3 := ⟨(lwg_at 1 (by decide +kernel) rfl), (lwg_at 298 (by decide +kernel) rfl), ⟨by decide +kernel, by decide +kernel⟩, by decide +kernel, by decide⟩
theorem cs_L_18 : CV R_law 18 RX11 M_Bs_wall 3 := ⟨(lwg_at 295 (by decide +kernel) rfl), (lwg_at 296 (by decide +kernel) rfl), (lwg_at 297 (by decide +kernel) rfl), mi_Bs_wall⟩
theorem mi_M_wall : MI M_M_wall 3 := ⟨(lwg_at 10 (by decide +kernel) rfl), (lwg_at 1372 (by decide +kernel) rfl), ⟨by decide +kernel, by decide +kernel⟩, by decide +kernel, by decide⟩
theorem cs_L_22 : CV R_law 22 RX12 M_M_wall 3 := ⟨(lwg_at 1369 (by decide +kernel) rfl), (lwg_at 1370 (by decide +kernel) rfl), (lwg_at 1371 (by decide +kernel) rfl), mi_M_wall⟩
theorem mi_Bs_things : MI M_Bs_things 3 := ⟨(lwg_at 1 (by decide +kernel) rfl), (lwg_at 311 (by decide +kernel) rfl), ⟨by decide +kernel, by decide +kernel⟩, by decide +kernel, by decide⟩
theorem cs_L_23 : CV R_law 23 RX11 M_Bs_things 3 := ⟨(lwg_at 308 (by decide +kernel) rfl), (lwg_at 309 (by decide +kernel) rfl), (lwg_at 310 (by decide +kernel) rfl), mi_Bs_things⟩
theorem mi_M_things : MI M_M_things 3 := ⟨(lwg_at 10 (by decide +kernel) rfl), (lwg_at 1388 (by decide +kernel) rfl), ⟨by decide +kernel, by decide +kernel⟩, by decide +kernel, by decide⟩
theorem cs_L_26 : CV R_law 26 RX12 M_M_things 3 := ⟨(lwg_at 1385 (by decide +kernel) rfl), (lwg_at 1386 (by decide +kernel) rfl), (lwg_at 1387 (by decide +kernel) rfl), mi_M_things⟩
theorem mi_Bs_actor : MI M_Bs_actor 3 := ⟨(lwg_at 1 (by decide +kernel) rfl), (lwg_at 315 (by decide +kernel) rfl), ⟨by decide +kernel, by decide +kernel⟩, by decide +kernel, by decide⟩
theorem cs_L_27 : CV R_law 27 RX11 M_Bs_actor 3 := ⟨(lwg_at 312 (by decide +kernel) rfl), (lwg_at 313 (by decide +kernel) rfl), (lwg_at 314 (by decide +kernel) rfl), mi_Bs_actor⟩
theorem mi_M_actor : MI M_M_actor 3 := ⟨(lwg_at 10 (by decide +kernel) rfl), (lwg_at 1392 (by decide +kernel) rfl), ⟨by decide +kernel, by decide +kernel⟩, by decide +kernel, by decide⟩
theorem cs_L_30 : CV R_law 30 RX12 M_M_actor 3 := ⟨(lwg_at 1389 (by decide +kernel) rfl), (lwg_at 1390 (by decide +kernel) rfl), (lwg_at 1391 (by decide +kernel) rfl), mi_M_actor⟩
theorem mi_Bs_lay : MI M_Bs_lay 3 := ⟨(lwg_at 1 (by decide +kernel) rfl), (lwg_at 323 (by decide +kernel) rfl), ⟨by decide +kernel, by decide +kernel⟩, by decide +kernel, by decide⟩
theorem cs_L_31 : CV R_law 31 RX11 M_Bs_lay 3 := ⟨(lwg_at 320 (by decide +kernel) rfl), (lwg_at 321 (by decide +kernel) rfl), (lwg_at 322 (by decide +kernel) rfl), mi_Bs_lay⟩
theorem mi_M_lay : MI M_M_lay 3 := ⟨(lwg_at 10 (by decide +kernel) rfl), (lwg_at 1396 (by decide +kernel) rfl), ⟨by decide +kernel, by decide +kernel⟩, by decide +kernel, by decide⟩
theorem cs_L_34 : CV R_law 34 RX12 M_M_lay 3 := ⟨(lwg_at 1393 (by decide +kernel) rfl), (lwg_at 1394 (by decide +kernel) rfl), (lwg_at 1395 (by decide +kernel) rfl), mi_M_lay⟩
theorem mi_Bs_keep : MI M_Bs_keep 0 := ⟨(lwg_at 1 (by decide +kernel) rfl), (lwg_at 360 (by decide +kernel) rfl), ⟨by decide +kernel, by decide +kernel⟩, by decide +kernel, by decide⟩
theorem cs_L_35 : CV R_law 35 RX11 M_Bs_keep 0 := ⟨(lwg_at 357 (by decide +kernel) rfl), (lwg_at 358 (by decide +kernel) rfl), (lwg_at 359 (by decide +kernel) rfl), mi_Bs_keep⟩
theorem mi_M_keep : MI M_M_keep 0 := ⟨(lwg_at 10 (by decide +kernel) rfl), (lwg_at 1403 (by decide +kernel) rfl), ⟨by decide +kernel, by decide +kernel⟩, by decide +kernel, by decide⟩
theorem cs_L_39 : CV R_law 39 RX12 M_M_keep 0 := ⟨(lwg_at 1400 (by decide +kernel) rfl), (lwg_at 1401 (by decide +kernel) rfl), (lwg_at 1402 (by decide +kernel) rfl), mi_M_keep⟩
theorem mi_Bs_use : MI M_Bs_use 1 := ⟨(lwg_at 1 (by decide +kernel) rfl), (lwg_at 371 (by decide +kernel) rfl), ⟨by decide +kernel, by decide +kernel⟩, by decide +kernel, by decide⟩
theorem cs_L_40 : CV R_law 40 RX11 M_Bs_use 1 := ⟨(lwg_at 368 (by decide +kernel) rfl), (lwg_at 369 (by decide +kernel) rfl), (lwg_at 370 (by decide +kernel) rfl), mi_Bs_use⟩
theorem mi_M_use : MI M_M_use 1 := ⟨(lwg_at 10 (by decide +kernel) rfl), (lwg_at 1411 (by decide +kernel) rfl), ⟨by decide +kernel, by decide +kernel⟩, by decide +kernel, by decide⟩
theorem cs_L_44 : CV R_law 44 RX12 M_M_use 1 := ⟨(lwg_at 1408 (by decide +kernel) rfl), (lwg_at 1409 (by decide +kernel) rfl), (lwg_at 1410 (by decide +kernel) rfl), mi_M_use⟩
theorem mi_Bs_block : MI M_Bs_block 2 := ⟨(lwg_at 1 (by decide +kernel) rfl), (lwg_at 379 (by decide +kernel) rfl), ⟨by decide +kernel, by decide +kernel⟩, by decide +kernel, by decide⟩
theorem cs_L_45 : CV R_law 45 RX11 M_Bs_block 2 := ⟨(lwg_at 376 (by decide +kernel) rfl), (lwg_at 377 (by decide +kernel) rfl), (lwg_at 378 (by decide +kernel) rfl), mi_Bs_block⟩
theorem mi_M_block : MI M_M_block 2 := ⟨(lwg_at 10 (by decide +kernel) rfl), (lwg_at 1415 (by decide +kernel) rfl), ⟨by decide +kernel, by decide +kernel⟩, by decide +kernel, by decide⟩
theorem cs_L_48 : CV R_law 48 RX12 M_M_block 2 := ⟨(lwg_at 1412 (by decide +kernel) rfl), (lwg_at 1413 (by decide +kernel) rfl), (lwg_at 1414 (by decide +kernel) rfl), mi_M_block⟩
theorem mi_Bs_join : MI M_Bs_join 3 := ⟨(lwg_at 1 (by decide +kernel) rfl), (lwg_at 396 (by decide +kernel) rfl), ⟨by decide +kernel, by decide +kernel⟩, by decide +kernel, by decide⟩
theorem cs_L_49 : CV R_law 49 RX11 M_Bs_join 3 := ⟨(lwg_at 393 (by decide +kernel) rfl), (lwg_at 394 (by decide +kernel) rfl), (lwg_at 395 (by decide +kernel) rfl), mi_Bs_join⟩
theorem mi_M_join : MI M_M_join 3 := ⟨(lwg_at 10 (by decide +kernel) rfl), (lwg_at 1422 (by decide +kernel) rfl), ⟨by decide +kernel, by decide +kernel⟩, by decide +kernel, by decide⟩
theorem cs_L_52 : CV R_law 52 RX12 M_M_join 3 := ⟨(lwg_at 1419 (by decide +kernel) rfl), (lwg_at 1420 (by decide +kernel) rfl), (lwg_at 1421 (by decide +kernel) rfl), mi_M_join⟩
theorem mi_Bs_take : MI M_Bs_take 1 := ⟨(lwg_at 1 (by decide +kernel) rfl), (lwg_at 442 (by decide +kernel) rfl), ⟨by decide +kernel, by decide +kernel⟩, by decide +kernel, by decide⟩
theorem cs_L_53 : CV R_law 53 RX11 M_Bs_take 1 := ⟨(lwg_at 439 (by decide +kernel) rfl), (lwg_at 440 (by decide +kernel) rfl), (lwg_at 441 (by decide +kernel) rfl), mi_Bs_take⟩
theorem mi_M_take : MI M_M_take 1 := ⟨(lwg_at 10 (by decide +kernel) rfl), (lwg_at 1453 (by decide +kernel) rfl), ⟨by decide +kernel, by decide +kernel⟩, by decide +kernel, by decide⟩
theorem cs_L_56 : CV R_law 56 RX12 M_M_take 1 := ⟨(lwg_at 1450 (by decide +kernel) rfl), (lwg_at 1451 (by decide +kernel) rfl), (lwg_at 1452 (by decide +kernel) rfl), mi_M_take⟩
theorem mi_Bs_number : MI M_Bs_number 2 := ⟨(lwg_at 1 (by decide +kernel) rfl), (lwg_at 450 (by decide +kernel) rfl), ⟨by decide +kernel, by decide +kernel⟩, by decide +kernel, by decide⟩
theorem cs_L_57 : CV R_law 57 RX11 M_Bs_number 2 := ⟨(lwg_at 447 (by decide +kernel) rfl), (lwg_at 448 (by decide +kernel) rfl), (lwg_at 449 (by decide +kernel) rfl), mi_Bs_number⟩
theorem mi_M_number : MI M_M_number 2 := ⟨(lwg_at 10 (by decide +kernel) rfl), (lwg_at 1461 (by decide +kernel) rfl), ⟨by decide +kernel, by decide +kernel⟩, by decide +kernel, by decide⟩
theorem cs_L_60 : CV R_law 60 RX12 M_M_number 2 := ⟨(lwg_at 1458 (by decide +kernel) rfl), (lwg_at 1459 (by decide +kernel) rfl), (lwg_at 1460 (by decide +kernel) rfl), mi_M_number⟩
theorem mi_Bs_cue : MI M_Bs_cue 4 := ⟨(lwg_at 1 (by decide +kernel) rfl), (lwg_at 465 (by decide +kernel) rfl), ⟨by decide +kernel, by decide +kernel⟩, by decide +kernel, by decide⟩
theorem cs_L_61 : CV R_law 61 RX11 M_Bs_cue 4 := ⟨(lwg_at 462 (by decide +kernel) rfl), (lwg_at 463 (by decide +kernel) rfl), (lwg_at 464 (by decide +kernel) rfl), mi_Bs_cue⟩
theorem mi_M_cue : MI M_M_cue 4 := ⟨(lwg_at 10 (by decide +kernel) rfl), (lwg_at 1465 (by decide +kernel) rfl), ⟨by decide +kernel, by decide +kernel⟩, by decide +kernel, by decide⟩
theorem cs_L_65 : CV R_law 65 RX12 M_M_cue 4 := ⟨(lwg_at 1462 (by decide +kernel) rfl), (lwg_at 1463 (by decide +kernel) rfl), (lwg_at 1464 (by decide +kernel) rfl), mi_M_cue⟩
theorem mi_Bs_top : MI M_Bs_top 2 := ⟨(lwg_at 1 (by decide +kernel) rfl), (lwg_at 476 (by decide +kernel) rfl), ⟨by decide +kernel, by decide +kernel⟩, by decide +kernel, by decide⟩
theorem cs_L_66 : CV R_law 66 RX11 M_Bs_top 2 := ⟨(lwg_at 473 (by decide +kernel) rfl), (lwg_at 474 (by decide +kernel) rfl), (lwg_at 475 (by decide +kernel) rfl), mi_Bs_top⟩
theorem mi_M_top : MI M_M_top 2 := ⟨(lwg_at 10 (by decide +kernel) rfl), (lwg_at 1469 (by decide +kernel) rfl), ⟨by decide +kernel, by decide +kernel⟩, by decide +kernel, by decide⟩
theorem cs_L_69 : CV R_law 69 RX12 M_M_top 2 := ⟨(lwg_at 1466 (by decide +kernel) rfl), (lwg_at 1467 (by decide +kernel) rfl), (lwg_at 1468 (by decide +kernel) rfl), mi_M_top⟩
theorem mi_Bs_look : MI M_Bs_look 2 := ⟨(lwg_at 1 (by decide +kernel) rfl), (lwg_at 492 (by decide +kernel) rfl), ⟨by decide +kernel, by decide +kernel⟩, by decide +kernel, by decide⟩
theorem cs_L_70 : CV R_law 70 RX11 M_Bs_look 2 := ⟨(lwg_at 489 (by decide +kernel) rfl), (lwg_at 490 (by decide +kernel) rfl), (lwg_at 491 (by decide +kernel) rfl), mi_Bs_look⟩
theorem mi_M_look : MI M_M_look 2 := ⟨(lwg_at 10 (by decide +kernel) rfl), (lwg_at 1477 (by decide +kernel) rfl), ⟨by decide +kernel, by decide +kernel⟩, by decide +kernel, by decide⟩
theorem cs_L_73 : CV R_law 73 RX12 M_M_look 2 := ⟨(lwg_at 1474 (by decide +kernel) rfl), (lwg_at 1475 (by decide +kernel) rfl), (lwg_at 1476 (by decide +kernel) rfl), mi_M_look⟩
theorem mi_Bs_hole : MI M_Bs_hole 2 := ⟨(lwg_at 1 (by decide +kernel) rfl), (lwg_at 500 (by decide +kernel) rfl), ⟨by decide +kernel, by decide +kernel⟩, by decide +kernel, by decide⟩
theorem cs_L_74 : CV R_law 74 RX11 M_Bs_hole 2 := ⟨(lwg_at 497 (by decide +kernel) rfl), (lwg_at 498 (by decide +kernel) rfl), (lwg_at 499 (by decide +kernel) rfl), mi_Bs_hole⟩
theorem mi_M_hole : MI M_M_hole 2 := ⟨(lwg_at 10 (by decide +kernel) rfl), (lwg_at 1557 (by decide +kernel) rfl), ⟨by decide +kernel, by decide +kernel⟩, by decide +kernel, by decide⟩
theorem cs_L_77 : CV R_law 77 RX12 M_M_hole 2 := ⟨(lwg_at 1554 (by decide +kernel) rfl), (lwg_at 1555 (by decide +kernel) rfl), (lwg_at 1556 (by decide +kernel) rfl), mi_M_hole⟩
theorem mi_Bs_of : MI M_Bs_of 2 := ⟨(lwg_at 1 (by decide +kernel) rfl), (lwg_at 504 (by decide +kernel) rfl), ⟨by decide +kernel, by decide +kernel⟩, by decide +kernel, by decide⟩
theorem cs_L_78 : CV R_law 78 RX11 M_Bs_of 2 := ⟨(lwg_at 501 (by decide +kernel) rfl), (lwg_at 502 (by decide +kernel) rfl), (lwg_at 503 (by decide +kernel) rfl), mi_Bs_of⟩
theorem mi_M_of : MI M_M_of 2 := ⟨(lwg_at 10 (by decide +kernel) rfl), (lwg_at 1561 (by decide +kernel) rfl), ⟨by decide +kernel, by decide +kernel⟩, by decide +kernel, by decide⟩
theorem cs_L_81 : CV R_law 81 RX12 M_M_of 2 := ⟨(lwg_at 1558 (by decide +kernel) rfl), (lwg_at 1559 (by decide +kernel) rfl), (lwg_at 1560 (by decide +kernel) rfl), mi_M_of⟩
theorem mi_Bs_scriptOf : MI M_Bs_scriptOf 2 := ⟨(lwg_at 1 (by decide +kernel) rfl), (lwg_at 513 (by decide +kernel) rfl), ⟨by decide +kernel, by decide +kernel⟩, by decide +kernel, by decide⟩
theorem cs_L_82 : CV R_law 82 RX11 M_Bs_scriptOf 2 := ⟨(lwg_at 510 (by decide +kernel) rfl), (lwg_at 511 (by decide +kernel) rfl), (lwg_at 512 (by decide +kernel) rfl), mi_Bs_scriptOf⟩
theorem mi_M_scriptOf : MI M_M_scriptOf 2 := ⟨(lwg_at 10 (by decide +kernel) rfl), (lwg_at 1566 (by decide +kernel) rfl), ⟨by decide +kernel, by decide +kernel⟩, by decide +kernel, by decide⟩
theorem cs_L_85 : CV R_law 85 RX12 M_M_scriptOf 2 := ⟨(lwg_at 1563 (by decide +kernel) rfl), (lwg_at 1564 (by decide +kernel) rfl), (lwg_at 1565 (by decide +kernel) rfl), mi_M_scriptOf⟩
theorem mi_Bs_flag : MI M_Bs_flag 0 := ⟨(lwg_at 1 (by decide +kernel) rfl), (lwg_at 534 (by decide +kernel) rfl), ⟨by decide +kernel, by decide +kernel⟩, by decide +kernel, by decide⟩
theorem cs_L_86 : CV R_law 86 RX11 M_Bs_flag 0 := ⟨(lwg_at 531 (by decide +kernel) rfl), (lwg_at 532 (by decide +kernel) rfl), (lwg_at 533 (by decide +kernel) rfl), mi_Bs_flag⟩
theorem mi_M_flag : MI M_M_flag 0 := ⟨(lwg_at 10 (by decide +kernel) rfl), (lwg_at 1570 (by decide +kernel) rfl), ⟨by decide +kernel, by decide +kernel⟩, by decide +kernel, by decide⟩
theorem cs_L_89 : CV R_law 89 RX12 M_M_flag 0 := ⟨(lwg_at 1567 (by decide +kernel) rfl), (lwg_at 1568 (by decide +kernel) rfl), (lwg_at 1569 (by decide +kernel) rfl), mi_M_flag⟩
theorem mi_Bs_tick : MI M_Bs_tick 1 := ⟨(lwg_at 1 (by decide +kernel) rfl), (lwg_at 549 (by decide +kernel) rfl), ⟨by decide +kernel, by decide +kernel⟩, by decide +kernel, by decide⟩
theorem cs_L_90 : CV R_law 90 RX11 M_Bs_tick 1 := ⟨(lwg_at 546 (by decide +kernel) rfl), (lwg_at 547 (by decide +kernel) rfl), (lwg_at 548 (by decide +kernel) rfl), mi_Bs_tick⟩
theorem mi_M_tick : MI M_M_tick 1 := ⟨(lwg_at 10 (by decide +kernel) rfl), (lwg_at 1574 (by decide +kernel) rfl), ⟨by decide +kernel, by decide +kernel⟩, by decide +kernel, by decide⟩
theorem cs_L_93 : CV R_law 93 RX12 M_M_tick 1 := ⟨(lwg_at 1571 (by decide +kernel) rfl), (lwg_at 1572 (by decide +kernel) rfl), (lwg_at 1573 (by decide +kernel) rfl), mi_M_tick⟩
theorem mi_Bs_back : MI M_Bs_back 1 := ⟨(lwg_at 1 (by decide +kernel) rfl), (lwg_at 673 (by decide +kernel) rfl), ⟨by decide +kernel, by decide +kernel⟩, by decide +kernel, by decide⟩
theorem cs_L_94 : CV R_law 94 RX11 M_Bs_back 1 := ⟨(lwg_at 670 (by decide +kernel) rfl), (lwg_at 671 (by decide +kernel) rfl), (lwg_at 672 (by decide +kernel) rfl), mi_Bs_back⟩
theorem mi_M_back : MI M_M_back 1 := ⟨(lwg_at 10 (by decide +kernel) rfl), (lwg_at 1578 (by decide +kernel) rfl), ⟨by decide +kernel, by decide +kernel⟩, by decide +kernel, by decide⟩
theorem cs_L_97 : CV R_law 97 RX12 M_M_back 1 := ⟨(lwg_at 1575 (by decide +kernel) rfl), (lwg_at 1576 (by decide +kernel) rfl), (lwg_at 1577 (by decide +kernel) rfl), mi_M_back⟩
theorem mi_Bs_who : MI M_Bs_who 2 := ⟨(lwg_at 1 (by decide +kernel) rfl), (lwg_at 677 (by decide +kernel) rfl), ⟨by decide +kernel, by decide +kernel⟩, by decide +kernel, by decide⟩
theorem cs_L_98 : CV R_law 98 RX11 M_Bs_who 2 := ⟨(lwg_at 674 (by decide +kernel) rfl), (lwg_at 675 (by decide +kernel) rfl), (lwg_at 676 (by decide +kernel) rfl), mi_Bs_who⟩
theorem mi_M_who : MI M_M_who 2 := ⟨(lwg_at 10 (by decide +kernel) rfl), (lwg_at 1582 (by decide +kernel) rfl), ⟨by decide +kernel, by decide +kernel⟩, by decide +kernel, by decide⟩
theorem cs_L_101 : CV R_law 101 RX12 M_M_who 2 := ⟨(lwg_at 1579 (by decide +kernel) rfl), (lwg_at 1580 (by decide +kernel) rfl), (lwg_at 1581 (by decide +kernel) rfl), mi_M_who⟩
theorem mi_Bs_item : MI M_Bs_item 2 := ⟨(lwg_at 1 (by decide +kernel) rfl), (lwg_at 685 (by decide +kernel) rfl), ⟨by decide +kernel, by decide +kernel⟩, by decide +kernel, by decide⟩
theorem cs_L_102 : CV R_law 102 RX11 M_Bs_item 2 := ⟨(lwg_at 682 (by decide +kernel) rfl), (lwg_at 683 (by decide +kernel) rfl), (lwg_at 684 (by decide +kernel) rfl), mi_Bs_item⟩
theorem mi_M_item : MI M_M_item 2 := ⟨(lwg_at 10 (by decide +kernel) rfl), (lwg_at 1586 (by decide +kernel) rfl), ⟨by decide +kernel, by decide +kernel⟩, by decide +kernel, by decide⟩
theorem cs_L_105 : CV R_law 105 RX12 M_M_item 2 := ⟨(lwg_at 1583 (by decide +kernel) rfl), (lwg_at 1584 (by decide +kernel) rfl), (lwg_at 1585 (by decide +kernel) rfl), mi_M_item⟩
theorem mi_Bs_said : MI M_Bs_said 2 := ⟨(lwg_at 1 (by decide +kernel) rfl), (lwg_at 690 (by decide +kernel) rfl), ⟨by decide +kernel, by decide +kernel⟩, by decide +kernel, by decide⟩
theorem cs_L_106 : CV R_law 106 RX11 M_Bs_said 2 := ⟨(lwg_at 687 (by decide +kernel) rfl), (lwg_at 688 (by decide +kernel) rfl), (lwg_at 689 (by decide +kernel) rfl), mi_Bs_said⟩
theorem mi_M_said : MI M_M_said 2 := ⟨(lwg_at 10 (by decide +kernel) rfl), (lwg_at 1590 (by decide +kernel) rfl), ⟨by decide +kernel, by decide +kernel⟩, by decide +kernel, by decide⟩
theorem cs_L_109 : CV R_law 109 RX12 M_M_said 2 := ⟨(lwg_at 1587 (by decide +kernel) rfl), (lwg_at 1588 (by decide +kernel) rfl), (lwg_at 1589 (by decide +kernel) rfl), mi_M_said⟩
theorem mi_Bs_feed : MI M_Bs_feed 2 := ⟨(lwg_at 1 (by decide +kernel) rfl), (lwg_at 699 (by decide +kernel) rfl), ⟨by decide +kernel, by decide +kernel⟩, by decide +kernel, by decide⟩
theorem cs_L_110 : CV R_law 110 RX11 M_Bs_feed 2 := ⟨(lwg_at 696 (by decide +kernel) rfl), (lwg_at 697 (by decide +kernel) rfl), (lwg_at 698 (by decide +kernel) rfl), mi_Bs_feed⟩
theorem mi_M_feed : MI M_M_feed 2 := ⟨(lwg_at 10 (by decide +kernel) rfl), (lwg_at 1594 (by decide +kernel) rfl), ⟨by decide +kernel, by decide +kernel⟩, by decide +kernel, by decide⟩
theorem cs_L_113 : CV R_law 113 RX12 M_M_feed 2 := ⟨(lwg_at 1591 (by decide +kernel) rfl), (lwg_at 1592 (by decide +kernel) rfl), (lwg_at 1593 (by decide +kernel) rfl), mi_M_feed⟩
theorem mi_Bs_wish : MI M_Bs_wish 0 := ⟨(lwg_at 1 (by decide +kernel) rfl), (lwg_at 707 (by decide +kernel) rfl), ⟨by decide +kernel, by decide +kernel⟩, by decide +kernel, by decide⟩
theorem cs_L_114 : CV R_law 114 RX11 M_Bs_wish 0 := ⟨(lwg_at 704 (by decide +kernel) rfl), (lwg_at 705 (by decide +kernel) rfl), (lwg_at 706 (by decide +kernel) rfl), mi_Bs_wish⟩
theorem mi_M_wish : MI M_M_wish 0 := ⟨(lwg_at 10 (by decide +kernel) rfl), (lwg_at 1598 (by decide +kernel) rfl), ⟨by decide +kernel, by decide +kernel⟩, by decide +kernel, by decide⟩
theorem cs_L_117 : CV R_law 117 RX12 M_M_wish 0 := ⟨(lwg_at 1595 (by decide +kernel) rfl), (lwg_at 1596 (by decide +kernel) rfl), (lwg_at 1597 (by decide +kernel) rfl), mi_M_wish⟩
theorem mi_Bs_mark : MI M_Bs_mark 1 := ⟨(lwg_at 1 (by decide +kernel) rfl), (lwg_at 806 (by decide +kernel) rfl), ⟨by decide +kernel, by decide +kernel⟩, by decide +kernel, by decide⟩
theorem cs_L_118 : CV R_law 118 RX11 M_Bs_mark 1 := ⟨(lwg_at 803 (by decide +kernel) rfl), (lwg_at 804 (by decide +kernel) rfl), (lwg_at 805 (by decide +kernel) rfl), mi_Bs_mark⟩
theorem mi_M_mark : MI M_M_mark 1 := ⟨(lwg_at 10 (by decide +kernel) rfl), (lwg_at 1618 (by decide +kernel) rfl), ⟨by decide +kernel, by decide +kernel⟩, by decide +kernel, by decide⟩
theorem cs_L_121 : CV R_law 121 RX12 M_M_mark 1 := ⟨(lwg_at 1615 (by decide +kernel) rfl), (lwg_at 1616 (by decide +kernel) rfl), (lwg_at 1617 (by decide +kernel) rfl), mi_M_mark⟩
theorem mi_Bs_fails : MI M_Bs_fails 1 := ⟨(lwg_at 1 (by decide +kernel) rfl), (lwg_at 837 (by decide +kernel) rfl), ⟨by decide +kernel, by decide +kernel⟩, by decide +kernel, by decide⟩
theorem cs_L_122 : CV R_law 122 RX11 M_Bs_fails 1 := ⟨(lwg_at 834 (by decide +kernel) rfl), (lwg_at 835 (by decide +kernel) rfl), (lwg_at 836 (by decide +kernel) rfl), mi_Bs_fails⟩
theorem mi_M_fails : MI M_M_fails 1 := ⟨(lwg_at 10 (by decide +kernel) rfl), (lwg_at 1638 (by decide +kernel) rfl), ⟨by decide +kernel, by decide +kernel⟩, by decide +kernel, by decide⟩
theorem cs_L_125 : CV R_law 125 RX12 M_M_fails 1 := ⟨(lwg_at 1635 (by decide +kernel) rfl), (lwg_at 1636 (by decide +kernel) rfl), (lwg_at 1637 (by decide +kernel) rfl), mi_M_fails⟩
theorem mi_Bs_least : MI M_Bs_least 1 := ⟨(lwg_at 1 (by decide +kernel) rfl), (lwg_at 841 (by decide +kernel) rfl), ⟨by decide +kernel, by decide +kernel⟩, by decide +kernel, by decide⟩
theorem cs_L_126 : CV R_law 126 RX11 M_Bs_least 1 := ⟨(lwg_at 838 (by decide +kernel) rfl), (lwg_at 839 (by decide +kernel) rfl), (lwg_at 840 (by decide +kernel) rfl), mi_Bs_least⟩
theorem mi_M_least : MI M_M_least 1 := ⟨(lwg_at 10 (by decide +kernel) rfl), (lwg_at 1642 (by decide +kernel) rfl), ⟨by decide +kernel, by decide +kernel⟩, by decide +kernel, by decide⟩
theorem cs_L_129 : CV R_law 129 RX12 M_M_least 1 := ⟨(lwg_at 1639 (by decide +kernel) rfl), (lwg_at 1640 (by decide +kernel) rfl), (lwg_at 1641 (by decide +kernel) rfl), mi_M_least⟩
theorem mi_Bs_hint : MI M_Bs_hint 2 := ⟨(lwg_at 1 (by decide +kernel) rfl), (lwg_at 884 (by decide +kernel) rfl), ⟨by decide +kernel, by decide +kernel⟩, by decide +kernel, by decide⟩
theorem cs_L_130 : CV R_law 130 RX11 M_Bs_hint 2 := ⟨(lwg_at 881 (by decide +kernel) rfl), (lwg_at 882 (by decide +kernel) rfl), (lwg_at 883 (by decide +kernel) rfl), mi_Bs_hint⟩
theorem mi_M_hint : MI M_M_hint 2 := ⟨(lwg_at 10 (by decide +kernel) rfl), (lwg_at 1682 (by decide +kernel) rfl), ⟨by decide +kernel, by decide +kernel⟩, by decide +kernel, by decide⟩
theorem cs_L_133 : CV R_law 133 RX12 M_M_hint 2 := ⟨(lwg_at 1679 (by decide +kernel) rfl), (lwg_at 1680 (by decide +kernel) rfl), (lwg_at 1681 (by decide +kernel) rfl), mi_M_hint⟩
theorem mi_Bs_write : MI M_Bs_write 1 := ⟨(lwg_at 1 (by decide +kernel) rfl), (lwg_at 888 (by decide +kernel) rfl), ⟨by decide +kernel, by decide +kernel⟩, by decide +kernel, by decide⟩
theorem cs_L_134 : CV R_law 134 RX11 M_Bs_write 1 := ⟨(lwg_at 885 (by decide +kernel) rfl), (lwg_at 886 (by decide +kernel) rfl), (lwg_at 887 (by decide +kernel) rfl), mi_Bs_write⟩
theorem mi_M_write : MI M_M_write 1 := ⟨(lwg_at 10 (by decide +kernel) rfl), (lwg_at 1686 (by decide +kernel) rfl), ⟨by decide +kernel, by decide +kernel⟩, by decide +kernel, by decide⟩
theorem cs_L_137 : CV R_law 137 RX12 M_M_write 1 := ⟨(lwg_at 1683 (by decide +kernel) rfl), (lwg_at 1684 (by decide +kernel) rfl), (lwg_at 1685 (by decide +kernel) rfl), mi_M_write⟩
theorem mi_Bs_text : MI M_Bs_text 1 := ⟨(lwg_at 1 (by decide +kernel) rfl), (lwg_at 913 (by decide +kernel) rfl), ⟨by decide +kernel, by decide +kernel⟩, by decide +kernel, by decide⟩
theorem cs_L_138 : CV R_law 138 RX11 M_Bs_text 1 := ⟨(lwg_at 910 (by decide +kernel) rfl), (lwg_at 911 (by decide +kernel) rfl), (lwg_at 912 (by decide +kernel) rfl), mi_Bs_text⟩
theorem mi_M_text : MI M_M_text 1 := ⟨(lwg_at 10 (by decide +kernel) rfl), (lwg_at 1702 (by decide +kernel) rfl), ⟨by decide +kernel, by decide +kernel⟩, by decide +kernel, by decide⟩
theorem cs_L_141 : CV R_law 141 RX12 M_M_text 1 := ⟨(lwg_at 1699 (by decide +kernel) rfl), (lwg_at 1700 (by decide +kernel) rfl), (lwg_at 1701 (by decide +kernel) rfl), mi_M_text⟩
theorem mi_Bs_act : MI M_Bs_act 3 := ⟨(lwg_at 1 (by decide +kernel) rfl), (lwg_at 918 (by decide +kernel) rfl), ⟨by decide +kernel, by decide +kernel⟩, by decide +kernel, by decide⟩
theorem cs_L_142 : CV R_law 142 RX11 M_Bs_act 3 := ⟨(lwg_at 915 (by decide +kernel) rfl), (lwg_at 916 (by decide +kernel) rfl), (lwg_at 917 (by decide +kernel) rfl), mi_Bs_act⟩
theorem mi_M_act : MI M_M_act 3 := ⟨(lwg_at 10 (by decide +kernel) rfl), (lwg_at 1706 (by decide +kernel) rfl), ⟨by decide +kernel, by decide +kernel⟩, by decide +kernel, by decide⟩
theorem cs_L_145 : CV R_law 145 RX12 M_M_act 3 := ⟨(lwg_at 1703 (by decide +kernel) rfl), (lwg_at 1704 (by decide +kernel) rfl), (lwg_at 1705 (by decide +kernel) rfl), mi_M_act⟩
theorem mi_Bs_trace : MI M_Bs_trace 1 := ⟨(lwg_at 1 (by decide +kernel) rfl), (lwg_at 1058 (by decide +kernel) rfl), ⟨by decide +kernel, by decide +kernel⟩, by decide +kernel, by decide⟩
theorem cs_L_146 : CV R_law 146 RX11 M_Bs_trace 1 := ⟨(lwg_at 1055 (by decide +kernel) rfl), (lwg_at 1056 (by decide +kernel) rfl), (lwg_at 1057 (by decide +kernel) rfl), mi_Bs_trace⟩
theorem mi_M_trace : MI M_M_trace 1 := ⟨(lwg_at 10 (by decide +kernel) rfl), (lwg_at 1738 (by decide +kernel) rfl), ⟨by decide +kernel, by decide +kernel⟩, by decide +kernel, by decide⟩
theorem cs_L_149 : CV R_law 149 RX12 M_M_trace 1 := ⟨(lwg_at 1735 (by decide +kernel) rfl), (lwg_at 1736 (by decide +kernel) rfl), (lwg_at 1737 (by decide +kernel) rfl), mi_M_trace⟩
theorem mi_Bs_taken : MI M_Bs_taken 2 := ⟨(lwg_at 1 (by decide +kernel) rfl), (lwg_at 1070 (by decide +kernel) rfl), ⟨by decide +kernel, by decide +kernel⟩, by decide +kernel, by decide⟩
theorem cs_L_150 : CV R_law 150 RX11 M_Bs_taken 2 := ⟨(lwg_at 1067 (by decide +kernel) rfl), (lwg_at 1068 (by decide +kernel) rfl), (lwg_at 1069 (by decide +kernel) rfl), mi_Bs_taken⟩
theorem mi_M_taken : MI M_M_taken 2 := ⟨(lwg_at 10 (by decide +kernel) rfl), (lwg_at 1742 (by decide +kernel) rfl), ⟨by decide +kernel, by decide +kernel⟩, by decide +kernel, by decide⟩
theorem cs_L_153 : CV R_law 153 RX12 M_M_taken 2 := ⟨(lwg_at 1739 (by decide +kernel) rfl), (lwg_at 1740 (by decide +kernel) rfl), (lwg_at 1741 (by decide +kernel) rfl), mi_M_taken⟩
theorem mi_Bs_count : MI M_Bs_count 1 := ⟨(lwg_at 1 (by decide +kernel) rfl), (lwg_at 1077 (by decide +kernel) rfl), ⟨by decide +kernel, by decide +kernel⟩, by decide +kernel, by decide⟩
theorem cs_L_154 : CV R_law 154 RX11 M_Bs_count 1 := ⟨(lwg_at 1074 (by decide +kernel) rfl), (lwg_at 1075 (by decide +kernel) rfl), (lwg_at 1076 (by decide +kernel) rfl), mi_Bs_count⟩
theorem mi_M_count : MI M_M_count 1 := ⟨(lwg_at 10 (by decide +kernel) rfl), (lwg_at 1746 (by decide +kernel) rfl), ⟨by decide +kernel, by decide +kernel⟩, by decide +kernel, by decide⟩
theorem cs_L_157 : CV R_law 157 RX12 M_M_count 1 := ⟨(lwg_at 1743 (by decide +kernel) rfl), (lwg_at 1744 (by decide +kernel) rfl), (lwg_at 1745 (by decide +kernel) rfl), mi_M_count⟩
theorem mi_Bs_sheet : MI M_Bs_sheet 3 := ⟨(lwg_at 1 (by decide +kernel) rfl), (lwg_at 1082 (by decide +kernel) rfl), ⟨by decide +kernel, by decide +kernel⟩, by decide +kernel, by decide⟩
theorem cs_L_158 : CV R_law 158 RX11 M_Bs_sheet 3 := ⟨(lwg_at 1079 (by decide +kernel) rfl), (lwg_at 1080 (by decide +kernel) rfl), (lwg_at 1081 (by decide +kernel) rfl), mi_Bs_sheet⟩
theorem mi_M_sheet : MI M_M_sheet 3 := ⟨(lwg_at 10 (by decide +kernel) rfl), (lwg_at 1750 (by decide +kernel) rfl), ⟨by decide +kernel, by decide +kernel⟩, by decide +kernel, by decide⟩
theorem cs_L_161 : CV R_law 161 RX12 M_M_sheet 3 := ⟨(lwg_at 1747 (by decide +kernel) rfl), (lwg_at 1748 (by decide +kernel) rfl), (lwg_at 1749 (by decide +kernel) rfl), mi_M_sheet⟩
theorem mi_Bs_cell : MI M_Bs_cell 3 := ⟨(lwg_at 1 (by decide +kernel) rfl), (lwg_at 1091 (by decide +kernel) rfl), ⟨by decide +kernel, by decide +kernel⟩, by decide +kernel, by decide⟩
theorem cs_L_162 : CV R_law 162 RX11 M_Bs_cell 3 := ⟨(lwg_at 1088 (by decide +kernel) rfl), (lwg_at 1089 (by decide +kernel) rfl), (lwg_at 1090 (by decide +kernel) rfl), mi_Bs_cell⟩
theorem mi_M_cell : MI M_M_cell 3 := ⟨(lwg_at 10 (by decide +kernel) rfl), (lwg_at 1754 (by decide +kernel) rfl), ⟨by decide +kernel, by decide +kernel⟩, by decide +kernel, by decide⟩
theorem cs_L_165 : CV R_law 165 RX12 M_M_cell 3 := ⟨(lwg_at 1751 (by decide +kernel) rfl), (lwg_at 1752 (by decide +kernel) rfl), (lwg_at 1753 (by decide +kernel) rfl), mi_M_cell⟩
theorem mi_Bs_copy : MI M_Bs_copy 5 := ⟨(lwg_at 1 (by decide +kernel) rfl), (lwg_at 1099 (by decide +kernel) rfl), ⟨by decide +kernel, by decide +kernel⟩, by decide +kernel, by decide⟩
theorem cs_L_166 : CV R_law 166 RX11 M_Bs_copy 5 := ⟨(lwg_at 1096 (by decide +kernel) rfl), (lwg_at 1097 (by decide +kernel) rfl), (lwg_at 1098 (by decide +kernel) rfl), mi_Bs_copy⟩
theorem mi_M_copy : MI M_M_copy 5 := ⟨(lwg_at 10 (by decide +kernel) rfl), (lwg_at 1758 (by decide +kernel) rfl), ⟨by decide +kernel, by decide +kernel⟩, by decide +kernel, by decide⟩
theorem cs_L_170 : CV R_law 170 RX12 M_M_copy 5 := ⟨(lwg_at 1755 (by decide +kernel) rfl), (lwg_at 1756 (by decide +kernel) rfl), (lwg_at 1757 (by decide +kernel) rfl), mi_M_copy⟩
theorem cn_L_7 : CN R_law 7 RX11 18 := ⟨(lwg_at 21 (by decide +kernel) rfl), (lwg_at 22 (by decide +kernel) rfl), (lwg_at 1 (by decide +kernel) rfl)⟩
theorem cn_L_10 : CN R_law 10 RX12 82 := ⟨(lwg_at 1105 (by decide +kernel) rfl), (lwg_at 1106 (by decide +kernel) rfl), (lwg_at 10 (by decide +kernel) rfl)⟩
theorem mi_Bs_init : MI M_Bs_init 0 := ⟨(lwg_at 1 (by decide +kernel) rfl), (lwg_at 25 (by decide +kernel) rfl), ⟨by decide +kernel, by decide +kernel⟩, by decide +kernel, by decide⟩
theorem ci_L_9 : CI R_law 9 M_Bs_init 0 := ⟨(lwg_at 23 (by decide +kernel) rfl), (lwg_at 24 (by decide +kernel) rfl), rfl, rfl, mi_Bs_init⟩
set_option maxRecDepth 100000 in
theorem mi_M_init : MI M_M_init 0 := ⟨(lwg_at 10 (by decide +kernel) rfl), (lwg_mem (show _ ∈ tables_1 from (List.mem_append_right _ (List.mem_append_right _ (List.mem_append_right _ (List.mem_append_right _ (List.mem_append_left _ (List.mem_of_getElem? (l := tables_1_5) (i := 149) rfl))))))) rfl), ⟨by decide +kernel, by decide +kernel⟩, by decide +kernel, by decide⟩
theorem ci_L_12 : CI R_law 12 M_M_init 0 := ⟨(lwg_at 1107 (by decide +kernel) rfl), (lwg_at 1108 (by decide +kernel) rfl), rfl, rfl, mi_M_init⟩
/-! the steps that the pure side owes, and the walk over them -/
def Rd (f : Dl → Option Int32) : Dl → Option (Int32 × Dl) := fun δ => (f δ).map fun v => (v, δ)
def Tt (f : Dl → Int32 × Dl) : Dl → Option (Int32 × Dl) := fun δ => some (f δ)
def Rt (f : Dl → Int32) : Dl → Option (Int32 × Dl) := fun δ => some (f δ, δ)
theorem rd_e {f : Dl → Option Int32} {δ δ' : Dl} {v : Int32} (h : Rd f δ = some (v, δ')) : f δ = some v ∧ δ = δ' := by
  unfold Rd at h
  cases hf : f δ with
  | none => rw [hf] at h; cases h
  | some w => rw [hf] at h; cases h; exact ⟨rfl, rfl⟩
theorem tt_e {f : Dl → Int32 × Dl} {δ : Dl} {r : Int32 × Dl} (h : Tt f δ = some r) : f δ = r := Option.some.inj h
theorem rt_e {f : Dl → Int32} {δ δ' : Dl} {v : Int32} (h : Rt f δ = some (v, δ')) : f δ = v ∧ δ = δ' := by
  cases h; exact ⟨rfl, rfl⟩
/-- both answer alike, and the invariant holds behind -/
def S2 (I : Dl → Prop) (f g : Dl → Option (Int32 × Dl)) : Prop := ∀ δ, I δ → ∃ v δ1 δ2, f δ = some (v, δ1) ∧ g δ1 = some (v, δ2) ∧ I δ2 ∧ δ2.2.2 102 0 = δ.2.2 102 0
def SAct (I : Dl → Prop) (x1 x2 x3 : Int32) : Prop := ∀ δ, I δ → ∃ v q δ1 δ2, F_Bs_act x1 x2 x3 δ = some (v, q, δ1) ∧ F_M_act x1 x2 x3 δ1 = some (v, δ2) ∧ I δ2 ∧ ((q = 0 ∧ δ2.2.2 102 0 = (1, 0)) ∨ ((q = 19 ∨ q = 20 ∨ q = 21 ∨ q = 22) ∧ δ2.2.2 102 0 = (0, q)))
/-- the world at the loop's head -/
def GW (Γ : Gm) (δ : Dl) : Prop := GC Γ ∧ Ob Γ 23 12 ∧ LA Γ δ
theorem gw_same {Γ : Gm} {δ δ2 : Dl} (h : GW Γ δ) (hq : δ2.2.2 102 0 = δ.2.2 102 0) : GW Γ δ2 := ⟨h.1, h.2.1, by unfold LA; rw [hq]; exact h.2.2⟩
theorem gw_act {Γ : Gm} {δ δ2 : Dl} {q : Nat} (h : GW Γ δ) (hq : (q = 0 ∧ δ2.2.2 102 0 = (1, 0)) ∨ ((q = 19 ∨ q = 20 ∨ q = 21 ∨ q = 22) ∧ δ2.2.2 102 0 = (0, q))) : GW (FGo Γ q) δ2 := by
  rcases hq with ⟨rfl, hq⟩ | ⟨hc, hq⟩
  · exact ⟨h.1, h.2.1, Or.inl hq⟩
  · have hge : 19 ≤ q := by omega
    have h0 : FGo Γ q = FG Γ q := if_neg (by omega)
    rw [h0]
    refine ⟨gc_FG h.1 hge, ob_FG h.2.1 (by omega), ?_⟩
    rcases hc with rfl | rfl | rfl | rfl
    · exact Or.inr (Or.inl ⟨hq, ob_fam19⟩)
    · exact Or.inr (Or.inr (Or.inl ⟨hq, ob_fam20⟩))
    · exact Or.inr (Or.inr (Or.inr (Or.inl ⟨hq, ob_fam21⟩)))
    · exact Or.inr (Or.inr (Or.inr (Or.inr ⟨hq, ob_fam22⟩)))
theorem NF.lw : ∀ f a, NF f a → f ≠ 2 ∧ f ≠ 4 ∧ f ≠ 5 ∧ f ≠ 6 := fun _ _ h => h.elim
theorem NFm.lw : ∀ f a, NFm f a → f ≠ 2 ∧ f ≠ 4 ∧ f ≠ 5 ∧ f ≠ 6 := fun f a h => (NFm.ok f a h).2
abbrev LLs (i : Nat) : List (Option AV) := [some (.inr (4, 2)), some (.inr (0, 0)), some (.inr (0, 23)), some (.inl (nI i))]
theorem un_LNF {i : Nat} : ∀ v, some v ∈ LLs i → Un NF v := un_r (fun e => e.elim) (un_r (fun e => e.elim) (un_r (fun e => e.elim) (un_i un_nil)))
theorem un_LNm {i : Nat} : ∀ v, some v ∈ LLs i → Un NFm v := un_r (fun e => absurd e.1 (by decide)) (un_r (fun e => absurd e.2 (by decide)) (un_r (fun e => absurd e.2 (by decide)) (un_i un_nil)))
/-- what goes on behind a case -/
def LK (I : Dl → Prop) (x : LX) (i t : Nat) : Prop := ∀ (Γ : Gm) (kb sb : Nat) (δ : Dl), kb ≤ 1000 + 2 * t → sb ≤ 10000 + 34 * t → GW Γ δ → I δ → XL x 1414 (LLs i) [] kb sb Γ δ
theorem l_arg {x : LX} {pc kb sb i j n : Nat} {jz : Int} {st : List AV} {Γ : Gm} {δ : Dl} {xs : Nat → Int32} (hS : XSc x n xs) (hj : Int32.ofInt jz = nI j) (d0 : decode code pc = .ok (.aload_n 0, 1)) (d1 : decode code (pc + 1) = .ok (.iload_n 3, 1)) (d2 : decode code (pc + 1 + 1) = .ok (.iconst jz, 1)) (d3 : decode code (pc + 1 + 1 + 1) = .ok (.iadd, 1)) (d4 : decode code (pc + 1 + 1 + 1 + 1) = .ok (.iaload, 1)) (hi : i + j < n) (hn : n ≤ 3072) (k : XL x (pc + 1 + 1 + 1 + 1 + 1) (LLs i) (.inl (xs (i + j)) :: st) kb sb Γ δ) : XL x pc (LLs i) st kb sb Γ δ := by
  refine l_aload_n (i := 0) d0 rfl rfl ?_
  refine l_iload_n (i := 3) d1 rfl rfl ?_
  refine l_ic d2 hj ?_
  refine l_iadd d3 ?_
  have e1 : nI i + nI j = nI (i + j) := (Int32.ofNat_add i j).symm
  rw [e1]
  have e2 : (nI (i + j)).toNatClampNeg = i + j := by
    show (nI (i + j)).toInt.toNat = i + j
    rw [nI_toInt (by omega)]
    rfl
  have e3 : ¬ nI (i + j) < 0 := fun h => by
    have := Int32.lt_iff_toInt_lt.mp h
    rw [nI_toInt (by omega)] at this
    have e0 : (0 : Int32).toInt = 0 := rfl
    rw [e0] at this
    omega
  have := l_sald (i := nI (i + j)) hS e3 (by rw [e2]; exact hi) d4 (x := x) (pc := pc + 1 + 1 + 1 + 1) (kb := kb) (sb := sb) (ls := LLs i) (st := st) (Γ := Γ) (δ := δ)
  rw [e2] at this
  exact this k
section XLw
variable {p : Program} {l : Launch} {e : Env} {s : State} {m : MethodId} {args : Array Value} {below : List Frame} {meth : Method} {c : Code} {D : va_G} {K : Kd} {μ0 : Gm} {Q : State → Prop} {kb sb : Nat} {Γ : Gm} {δ : Dl}

set_option maxRecDepth 40000 in
set_option maxHeartbeats 1000000 in
theorem lc_0 {i n t : Nat} {xs : Nat → Int32} (hS : XSc (p, l, e, s, m, args, below, meth, c, D, K, μ0, Q) n xs) (hi : i + 5 < n) (hn : n ≤ 3072) (ht : t < 512) (hk : kb ≤ 1000 + 2 * t) (hsb : sb ≤ 10000 + 34 * t) {I : Dl → Prop} (hRX : ∀ δ, I δ → RX δ) (hW : GW Γ δ) (hI : I δ) (hst : S2 I (F_Bs_stage (xs (i + 1)) (xs (i + 2))) (F_M_stage (xs (i + 1)) (xs (i + 2))))
    (kk : LK I (p, l, e, s, m, args, below, meth, c, D, K, μ0, Q) i (t + 1)) : XL (p, l, e, s, m, args, below, meth, c, D, K, μ0, Q) 200 (LLs i) [] kb sb Γ δ := by
  obtain ⟨v, δ1, δ2, e1, e2, hI2, hq⟩ := hst δ hI
  refine l_aload_n (i := 1) d_L_200 rfl rfl ?_
  refine l_arg (j := 1) hS (by rfl) d_L_201 d_L_202 d_L_203 d_L_204 d_L_205 (by omega) hn ?_
  refine l_arg (j := 2) hS (by rfl) d_L_206 d_L_207 d_L_208 d_L_209 d_L_210 (by omega) hn ?_
  refine l_V (as := [.inl (xs (i + 1)), .inl (xs (i + 2))]) cs_L_13 rfl (hW.1 0 (by decide)) rfl (Nat.le_of_ble_eq_true rfl) (Nat.le_of_ble_eq_true rfl) d_L_211 (c_Bs_stage hW.1 _ _ δ _ e1) NF.lw un_LNF (us_nil) rfl rfl (by omega) (by omega) rfl rfl ?_
  refine l_aload_n (i := 2) d_L_214 rfl rfl ?_
  refine l_arg (j := 1) hS (by rfl) d_L_215 d_L_216 d_L_217 d_L_218 d_L_219 (by omega) hn ?_
  refine l_arg (j := 2) hS (by rfl) d_L_220 d_L_221 d_L_222 d_L_223 d_L_224 (by omega) hn ?_
  refine l_V (as := [.inl (xs (i + 1)), .inl (xs (i + 2))]) cs_L_17 rfl hW.2.1 rfl (Nat.le_of_ble_eq_true rfl) (Nat.le_of_ble_eq_true rfl) d_L_225 (c_M_stage hW.2.1 _ _ δ1 _ e2) NF.lw un_LNF (us_i us_nil) rfl rfl (by omega) (by omega) rfl rfl ?_
  exact l_cmp_eq (tgt := 1414) d_L_228 (by decide) (fun _ => kk _ _ _ _ (by omega) (by omega) (gw_same hW hq) hI2) (fun h => absurd rfl h)
set_option maxRecDepth 40000 in
set_option maxHeartbeats 1000000 in
theorem lc_1 {i n t : Nat} {xs : Nat → Int32} (hS : XSc (p, l, e, s, m, args, below, meth, c, D, K, μ0, Q) n xs) (hi : i + 5 < n) (hn : n ≤ 3072) (ht : t < 512) (hk : kb ≤ 1000 + 2 * t) (hsb : sb ≤ 10000 + 34 * t) {I : Dl → Prop} (hRX : ∀ δ, I δ → RX δ) (hW : GW Γ δ) (hI : I δ) (hst : S2 I (F_Bs_wall (xs (i + 1)) (xs (i + 2)) (xs (i + 3))) (F_M_wall (xs (i + 1)) (xs (i + 2)) (xs (i + 3))))
    (kk : LK I (p, l, e, s, m, args, below, meth, c, D, K, μ0, Q) i (t + 1)) : XL (p, l, e, s, m, args, below, meth, c, D, K, μ0, Q) 233 (LLs i) [] kb sb Γ δ := by
  obtain ⟨v, δ1, δ2, e1, e2, hI2, hq⟩ := hst δ hI
  refine l_aload_n (i := 1) d_L_233 rfl rfl ?_
  refine l_arg (j := 1) hS (by rfl) d_L_234 d_L_235 d_L_236 d_L_237 d_L_238 (by omega) hn ?_
  refine l_arg (j := 2) hS (by rfl) d_L_239 d_L_240 d_L_241 d_L_242 d_L_243 (by omega) hn ?_
  refine l_arg (j := 3) hS (by rfl) d_L_244 d_L_245 d_L_246 d_L_247 d_L_248 (by omega) hn ?_
  refine l_V (as := [.inl (xs (i + 1)), .inl (xs (i + 2)), .inl (xs (i + 3))]) cs_L_18 rfl (hW.1 0 (by decide)) rfl (Nat.le_of_ble_eq_true rfl) (Nat.le_of_ble_eq_true rfl) d_L_249 (c_Bs_wall hW.1 _ _ _ δ _ e1) NF.lw un_LNF (us_nil) rfl rfl (by omega) (by omega) rfl rfl ?_
  refine l_aload_n (i := 2) d_L_252 rfl rfl ?_
  refine l_arg (j := 1) hS (by rfl) d_L_253 d_L_254 d_L_255 d_L_256 d_L_257 (by omega) hn ?_
  refine l_arg (j := 2) hS (by rfl) d_L_258 d_L_259 d_L_260 d_L_261 d_L_262 (by omega) hn ?_
  refine l_arg (j := 3) hS (by rfl) d_L_263 d_L_264 d_L_265 d_L_266 d_L_267 (by omega) hn ?_
  refine l_V (as := [.inl (xs (i + 1)), .inl (xs (i + 2)), .inl (xs (i + 3))]) cs_L_22 rfl hW.2.1 rfl (Nat.le_of_ble_eq_true rfl) (Nat.le_of_ble_eq_true rfl) d_L_268 (c_M_wall hW.2.1 _ _ _ δ1 _ e2) NF.lw un_LNF (us_i us_nil) rfl rfl (by omega) (by omega) rfl rfl ?_
  exact l_cmp_eq (tgt := 1414) d_L_271 (by decide) (fun _ => kk _ _ _ _ (by omega) (by omega) (gw_same hW hq) hI2) (fun h => absurd rfl h)
set_option maxRecDepth 40000 in
set_option maxHeartbeats 1000000 in
theorem lc_2 {i n t : Nat} {xs : Nat → Int32} (hS : XSc (p, l, e, s, m, args, below, meth, c, D, K, μ0, Q) n xs) (hi : i + 5 < n) (hn : n ≤ 3072) (ht : t < 512) (hk : kb ≤ 1000 + 2 * t) (hsb : sb ≤ 10000 + 34 * t) {I : Dl → Prop} (hRX : ∀ δ, I δ → RX δ) (hW : GW Γ δ) (hI : I δ) (hst : S2 I (F_Bs_things (xs (i + 1)) (xs (i + 2)) (xs (i + 3))) (F_M_things (xs (i + 1)) (xs (i + 2)) (xs (i + 3))))
    (kk : LK I (p, l, e, s, m, args, below, meth, c, D, K, μ0, Q) i (t + 1)) : XL (p, l, e, s, m, args, below, meth, c, D, K, μ0, Q) 276 (LLs i) [] kb sb Γ δ := by
  obtain ⟨v, δ1, δ2, e1, e2, hI2, hq⟩ := hst δ hI
  refine l_aload_n (i := 1) d_L_276 rfl rfl ?_
  refine l_arg (j := 1) hS (by rfl) d_L_277 d_L_278 d_L_279 d_L_280 d_L_281 (by omega) hn ?_
  refine l_arg (j := 2) hS (by rfl) d_L_282 d_L_283 d_L_284 d_L_285 d_L_286 (by omega) hn ?_
  refine l_arg (j := 3) hS (by rfl) d_L_287 d_L_288 d_L_289 d_L_290 d_L_291 (by omega) hn ?_
  refine l_V (as := [.inl (xs (i + 1)), .inl (xs (i + 2)), .inl (xs (i + 3))]) cs_L_23 rfl (hW.1 0 (by decide)) rfl (Nat.le_of_ble_eq_true rfl) (Nat.le_of_ble_eq_true rfl) d_L_292 (c_Bs_things hW.1 _ _ _ δ _ e1) NF.lw un_LNF (us_nil) rfl rfl (by omega) (by omega) rfl rfl ?_
  refine l_aload_n (i := 2) d_L_295 rfl rfl ?_
  refine l_arg (j := 1) hS (by rfl) d_L_296 d_L_297 d_L_298 d_L_299 d_L_300 (by omega) hn ?_
  refine l_arg (j := 2) hS (by rfl) d_L_301 d_L_302 d_L_303 d_L_304 d_L_305 (by omega) hn ?_
  refine l_arg (j := 3) hS (by rfl) d_L_306 d_L_307 d_L_308 d_L_309 d_L_310 (by omega) hn ?_
  refine l_V (as := [.inl (xs (i + 1)), .inl (xs (i + 2)), .inl (xs (i + 3))]) cs_L_26 rfl hW.2.1 rfl (Nat.le_of_ble_eq_true rfl) (Nat.le_of_ble_eq_true rfl) d_L_311 (c_M_things hW.2.1 _ _ _ δ1 _ e2) NF.lw un_LNF (us_i us_nil) rfl rfl (by omega) (by omega) rfl rfl ?_
  exact l_cmp_eq (tgt := 1414) d_L_314 (by decide) (fun _ => kk _ _ _ _ (by omega) (by omega) (gw_same hW hq) hI2) (fun h => absurd rfl h)
set_option maxRecDepth 40000 in
set_option maxHeartbeats 1000000 in
theorem lc_3 {i n t : Nat} {xs : Nat → Int32} (hS : XSc (p, l, e, s, m, args, below, meth, c, D, K, μ0, Q) n xs) (hi : i + 5 < n) (hn : n ≤ 3072) (ht : t < 512) (hk : kb ≤ 1000 + 2 * t) (hsb : sb ≤ 10000 + 34 * t) {I : Dl → Prop} (hRX : ∀ δ, I δ → RX δ) (hW : GW Γ δ) (hI : I δ) (hst : S2 I (F_Bs_actor (xs (i + 1)) (xs (i + 2)) (xs (i + 3))) (F_M_actor (xs (i + 1)) (xs (i + 2)) (xs (i + 3))))
    (kk : LK I (p, l, e, s, m, args, below, meth, c, D, K, μ0, Q) i (t + 1)) : XL (p, l, e, s, m, args, below, meth, c, D, K, μ0, Q) 319 (LLs i) [] kb sb Γ δ := by
  obtain ⟨v, δ1, δ2, e1, e2, hI2, hq⟩ := hst δ hI
  refine l_aload_n (i := 1) d_L_319 rfl rfl ?_
  refine l_arg (j := 1) hS (by rfl) d_L_320 d_L_321 d_L_322 d_L_323 d_L_324 (by omega) hn ?_
  refine l_arg (j := 2) hS (by rfl) d_L_325 d_L_326 d_L_327 d_L_328 d_L_329 (by omega) hn ?_
  refine l_arg (j := 3) hS (by rfl) d_L_330 d_L_331 d_L_332 d_L_333 d_L_334 (by omega) hn ?_
  refine l_V (as := [.inl (xs (i + 1)), .inl (xs (i + 2)), .inl (xs (i + 3))]) cs_L_27 rfl (hW.1 0 (by decide)) rfl (Nat.le_of_ble_eq_true rfl) (Nat.le_of_ble_eq_true rfl) d_L_335 (c_Bs_actor hW.1 _ _ _ δ _ e1) NF.lw un_LNF (us_nil) rfl rfl (by omega) (by omega) rfl rfl ?_
  refine l_aload_n (i := 2) d_L_338 rfl rfl ?_
  refine l_arg (j := 1) hS (by rfl) d_L_339 d_L_340 d_L_341 d_L_342 d_L_343 (by omega) hn ?_
  refine l_arg (j := 2) hS (by rfl) d_L_344 d_L_345 d_L_346 d_L_347 d_L_348 (by omega) hn ?_
  refine l_arg (j := 3) hS (by rfl) d_L_349 d_L_350 d_L_351 d_L_352 d_L_353 (by omega) hn ?_
  refine l_V (as := [.inl (xs (i + 1)), .inl (xs (i + 2)), .inl (xs (i + 3))]) cs_L_30 rfl hW.2.1 rfl (Nat.le_of_ble_eq_true rfl) (Nat.le_of_ble_eq_true rfl) d_L_354 (c_M_actor hW.2.1 _ _ _ δ1 _ e2) NF.lw un_LNF (us_i us_nil) rfl rfl (by omega) (by omega) rfl rfl ?_
  exact l_cmp_eq (tgt := 1414) d_L_357 (by decide) (fun _ => kk _ _ _ _ (by omega) (by omega) (gw_same hW hq) hI2) (fun h => absurd rfl h)
set_option maxRecDepth 40000 in
set_option maxHeartbeats 1000000 in
theorem lc_4 {i n t : Nat} {xs : Nat → Int32} (hS : XSc (p, l, e, s, m, args, below, meth, c, D, K, μ0, Q) n xs) (hi : i + 5 < n) (hn : n ≤ 3072) (ht : t < 512) (hk : kb ≤ 1000 + 2 * t) (hsb : sb ≤ 10000 + 34 * t) {I : Dl → Prop} (hRX : ∀ δ, I δ → RX δ) (hW : GW Γ δ) (hI : I δ) (hst : S2 I (F_Bs_lay (xs (i + 1)) (xs (i + 2)) (xs (i + 3))) (F_M_lay (xs (i + 1)) (xs (i + 2)) (xs (i + 3))))
    (kk : LK I (p, l, e, s, m, args, below, meth, c, D, K, μ0, Q) i (t + 1)) : XL (p, l, e, s, m, args, below, meth, c, D, K, μ0, Q) 362 (LLs i) [] kb sb Γ δ := by
  obtain ⟨v, δ1, δ2, e1, e2, hI2, hq⟩ := hst δ hI
  refine l_aload_n (i := 1) d_L_362 rfl rfl ?_
  refine l_arg (j := 1) hS (by rfl) d_L_363 d_L_364 d_L_365 d_L_366 d_L_367 (by omega) hn ?_
  refine l_arg (j := 2) hS (by rfl) d_L_368 d_L_369 d_L_370 d_L_371 d_L_372 (by omega) hn ?_
  refine l_arg (j := 3) hS (by rfl) d_L_373 d_L_374 d_L_375 d_L_376 d_L_377 (by omega) hn ?_
  refine l_V (as := [.inl (xs (i + 1)), .inl (xs (i + 2)), .inl (xs (i + 3))]) cs_L_31 rfl (hW.1 0 (by decide)) rfl (Nat.le_of_ble_eq_true rfl) (Nat.le_of_ble_eq_true rfl) d_L_378 (c_Bs_lay hW.1 _ _ _ δ _ e1) NF.lw un_LNF (us_nil) rfl rfl (by omega) (by omega) rfl rfl ?_
  refine l_aload_n (i := 2) d_L_381 rfl rfl ?_
  refine l_arg (j := 1) hS (by rfl) d_L_382 d_L_383 d_L_384 d_L_385 d_L_386 (by omega) hn ?_
  refine l_arg (j := 2) hS (by rfl) d_L_387 d_L_388 d_L_389 d_L_390 d_L_391 (by omega) hn ?_
  refine l_arg (j := 3) hS (by rfl) d_L_392 d_L_393 d_L_394 d_L_395 d_L_396 (by omega) hn ?_
  refine l_V (as := [.inl (xs (i + 1)), .inl (xs (i + 2)), .inl (xs (i + 3))]) cs_L_34 rfl hW.2.1 rfl (Nat.le_of_ble_eq_true rfl) (Nat.le_of_ble_eq_true rfl) d_L_397 (c_M_lay hW.2.1 _ _ _ δ1 _ e2) NF.lw un_LNF (us_i us_nil) rfl rfl (by omega) (by omega) rfl rfl ?_
  exact l_cmp_eq (tgt := 1414) d_L_400 (by decide) (fun _ => kk _ _ _ _ (by omega) (by omega) (gw_same hW hq) hI2) (fun h => absurd rfl h)
set_option maxRecDepth 40000 in
set_option maxHeartbeats 1000000 in
theorem lc_5 {i n t : Nat} {xs : Nat → Int32} (hS : XSc (p, l, e, s, m, args, below, meth, c, D, K, μ0, Q) n xs) (hi : i + 5 < n) (hn : n ≤ 3072) (ht : t < 512) (hk : kb ≤ 1000 + 2 * t) (hsb : sb ≤ 10000 + 34 * t) {I : Dl → Prop} (hRX : ∀ δ, I δ → RX δ) (hW : GW Γ δ) (hI : I δ) (hst : S2 I (F_Bs_keep) (F_M_keep))
    (kk : LK I (p, l, e, s, m, args, below, meth, c, D, K, μ0, Q) i (t + 1)) : XL (p, l, e, s, m, args, below, meth, c, D, K, μ0, Q) 405 (LLs i) [] kb sb Γ δ := by
  obtain ⟨v, δ1, δ2, e1, e2, hI2, hq⟩ := hst δ hI
  refine l_aload_n (i := 1) d_L_405 rfl rfl ?_
  refine l_V (as := []) cs_L_35 rfl (hW.1 0 (by decide)) rfl (Nat.le_of_ble_eq_true rfl) (Nat.le_of_ble_eq_true rfl) d_L_406 (c_Bs_keep hW.1  δ _ e1) NF.lw un_LNF (us_nil) rfl rfl (by omega) (by omega) rfl rfl ?_
  refine l_aload_n (i := 2) d_L_409 rfl rfl ?_
  refine l_V (as := []) cs_L_39 rfl hW.2.1 rfl (Nat.le_of_ble_eq_true rfl) (Nat.le_of_ble_eq_true rfl) d_L_410 (c_M_keep hW.2.1  δ1 _ e2) NF.lw un_LNF (us_i us_nil) rfl rfl (by omega) (by omega) rfl rfl ?_
  exact l_cmp_eq (tgt := 1414) d_L_413 (by decide) (fun _ => kk _ _ _ _ (by omega) (by omega) (gw_same hW hq) hI2) (fun h => absurd rfl h)
set_option maxRecDepth 40000 in
set_option maxHeartbeats 1000000 in
theorem lc_6 {i n t : Nat} {xs : Nat → Int32} (hS : XSc (p, l, e, s, m, args, below, meth, c, D, K, μ0, Q) n xs) (hi : i + 5 < n) (hn : n ≤ 3072) (ht : t < 512) (hk : kb ≤ 1000 + 2 * t) (hsb : sb ≤ 10000 + 34 * t) {I : Dl → Prop} (hRX : ∀ δ, I δ → RX δ) (hW : GW Γ δ) (hI : I δ) (hst : S2 I (F_Bs_use (xs (i + 1))) (F_M_use (xs (i + 1))))
    (kk : LK I (p, l, e, s, m, args, below, meth, c, D, K, μ0, Q) i (t + 1)) : XL (p, l, e, s, m, args, below, meth, c, D, K, μ0, Q) 418 (LLs i) [] kb sb Γ δ := by
  obtain ⟨v, δ1, δ2, e1, e2, hI2, hq⟩ := hst δ hI
  refine l_aload_n (i := 1) d_L_418 rfl rfl ?_
  refine l_arg (j := 1) hS (by rfl) d_L_419 d_L_420 d_L_421 d_L_422 d_L_423 (by omega) hn ?_
  refine l_V (as := [.inl (xs (i + 1))]) cs_L_40 rfl (hW.1 0 (by decide)) rfl (Nat.le_of_ble_eq_true rfl) (Nat.le_of_ble_eq_true rfl) d_L_424 (c_Bs_use hW.1 _ δ _ e1) NF.lw un_LNF (us_nil) rfl rfl (by omega) (by omega) rfl rfl ?_
  refine l_aload_n (i := 2) d_L_427 rfl rfl ?_
  refine l_arg (j := 1) hS (by rfl) d_L_428 d_L_429 d_L_430 d_L_431 d_L_432 (by omega) hn ?_
  refine l_V (as := [.inl (xs (i + 1))]) cs_L_44 rfl hW.2.1 rfl (Nat.le_of_ble_eq_true rfl) (Nat.le_of_ble_eq_true rfl) d_L_433 (c_M_use hW.2.1 _ δ1 _ e2) NF.lw un_LNF (us_i us_nil) rfl rfl (by omega) (by omega) rfl rfl ?_
  exact l_cmp_eq (tgt := 1414) d_L_436 (by decide) (fun _ => kk _ _ _ _ (by omega) (by omega) (gw_same hW hq) hI2) (fun h => absurd rfl h)
set_option maxRecDepth 40000 in
set_option maxHeartbeats 1000000 in
theorem lc_7 {i n t : Nat} {xs : Nat → Int32} (hS : XSc (p, l, e, s, m, args, below, meth, c, D, K, μ0, Q) n xs) (hi : i + 5 < n) (hn : n ≤ 3072) (ht : t < 512) (hk : kb ≤ 1000 + 2 * t) (hsb : sb ≤ 10000 + 34 * t) {I : Dl → Prop} (hRX : ∀ δ, I δ → RX δ) (hW : GW Γ δ) (hI : I δ) (hst : S2 I (F_Bs_block (xs (i + 1)) (xs (i + 2))) (F_M_block (xs (i + 1)) (xs (i + 2))))
    (kk : LK I (p, l, e, s, m, args, below, meth, c, D, K, μ0, Q) i (t + 1)) : XL (p, l, e, s, m, args, below, meth, c, D, K, μ0, Q) 441 (LLs i) [] kb sb Γ δ := by
  obtain ⟨v, δ1, δ2, e1, e2, hI2, hq⟩ := hst δ hI
  refine l_aload_n (i := 1) d_L_441 rfl rfl ?_
  refine l_arg (j := 1) hS (by rfl) d_L_442 d_L_443 d_L_444 d_L_445 d_L_446 (by omega) hn ?_
  refine l_arg (j := 2) hS (by rfl) d_L_447 d_L_448 d_L_449 d_L_450 d_L_451 (by omega) hn ?_
  refine l_V (as := [.inl (xs (i + 1)), .inl (xs (i + 2))]) cs_L_45 rfl (hW.1 0 (by decide)) rfl (Nat.le_of_ble_eq_true rfl) (Nat.le_of_ble_eq_true rfl) d_L_452 (c_Bs_block hW.1 _ _ δ _ e1) NF.lw un_LNF (us_nil) rfl rfl (by omega) (by omega) rfl rfl ?_
  refine l_aload_n (i := 2) d_L_455 rfl rfl ?_
  refine l_arg (j := 1) hS (by rfl) d_L_456 d_L_457 d_L_458 d_L_459 d_L_460 (by omega) hn ?_
  refine l_arg (j := 2) hS (by rfl) d_L_461 d_L_462 d_L_463 d_L_464 d_L_465 (by omega) hn ?_
  refine l_V (as := [.inl (xs (i + 1)), .inl (xs (i + 2))]) cs_L_48 rfl hW.2.1 rfl (Nat.le_of_ble_eq_true rfl) (Nat.le_of_ble_eq_true rfl) d_L_466 (c_M_block hW.2.1 _ _ δ1 _ e2) NF.lw un_LNF (us_i us_nil) rfl rfl (by omega) (by omega) rfl rfl ?_
  exact l_cmp_eq (tgt := 1414) d_L_469 (by decide) (fun _ => kk _ _ _ _ (by omega) (by omega) (gw_same hW hq) hI2) (fun h => absurd rfl h)
set_option maxRecDepth 40000 in
set_option maxHeartbeats 1000000 in
theorem lc_8 {i n t : Nat} {xs : Nat → Int32} (hS : XSc (p, l, e, s, m, args, below, meth, c, D, K, μ0, Q) n xs) (hi : i + 5 < n) (hn : n ≤ 3072) (ht : t < 512) (hk : kb ≤ 1000 + 2 * t) (hsb : sb ≤ 10000 + 34 * t) {I : Dl → Prop} (hRX : ∀ δ, I δ → RX δ) (hW : GW Γ δ) (hI : I δ) (hst : S2 I (F_Bs_join (xs (i + 1)) (xs (i + 2)) (xs (i + 3))) (F_M_join (xs (i + 1)) (xs (i + 2)) (xs (i + 3))))
    (kk : LK I (p, l, e, s, m, args, below, meth, c, D, K, μ0, Q) i (t + 1)) : XL (p, l, e, s, m, args, below, meth, c, D, K, μ0, Q) 474 (LLs i) [] kb sb Γ δ := by
  obtain ⟨v, δ1, δ2, e1, e2, hI2, hq⟩ := hst δ hI
  refine l_aload_n (i := 1) d_L_474 rfl rfl ?_
  refine l_arg (j := 1) hS (by rfl) d_L_475 d_L_476 d_L_477 d_L_478 d_L_479 (by omega) hn ?_
  refine l_arg (j := 2) hS (by rfl) d_L_480 d_L_481 d_L_482 d_L_483 d_L_484 (by omega) hn ?_
  refine l_arg (j := 3) hS (by rfl) d_L_485 d_L_486 d_L_487 d_L_488 d_L_489 (by omega) hn ?_
  refine l_V (as := [.inl (xs (i + 1)), .inl (xs (i + 2)), .inl (xs (i + 3))]) cs_L_49 rfl (hW.1 0 (by decide)) rfl (Nat.le_of_ble_eq_true rfl) (Nat.le_of_ble_eq_true rfl) d_L_490 (c_Bs_join hW.1 _ _ _ δ _ e1) NF.lw un_LNF (us_nil) rfl rfl (by omega) (by omega) rfl rfl ?_
  refine l_aload_n (i := 2) d_L_493 rfl rfl ?_
  refine l_arg (j := 1) hS (by rfl) d_L_494 d_L_495 d_L_496 d_L_497 d_L_498 (by omega) hn ?_
  refine l_arg (j := 2) hS (by rfl) d_L_499 d_L_500 d_L_501 d_L_502 d_L_503 (by omega) hn ?_
  refine l_arg (j := 3) hS (by rfl) d_L_504 d_L_505 d_L_506 d_L_507 d_L_508 (by omega) hn ?_
  refine l_V (as := [.inl (xs (i + 1)), .inl (xs (i + 2)), .inl (xs (i + 3))]) cs_L_52 rfl hW.2.1 rfl (Nat.le_of_ble_eq_true rfl) (Nat.le_of_ble_eq_true rfl) d_L_509 (c_M_join hW.2.1 _ _ _ δ1 _ e2) NF.lw un_LNF (us_i us_nil) rfl rfl (by omega) (by omega) rfl rfl ?_
  exact l_cmp_eq (tgt := 1414) d_L_512 (by decide) (fun _ => kk _ _ _ _ (by omega) (by omega) (gw_same hW hq) hI2) (fun h => absurd rfl h)
set_option maxRecDepth 40000 in
set_option maxHeartbeats 1000000 in
theorem lc_9 {i n t : Nat} {xs : Nat → Int32} (hS : XSc (p, l, e, s, m, args, below, meth, c, D, K, μ0, Q) n xs) (hi : i + 5 < n) (hn : n ≤ 3072) (ht : t < 512) (hk : kb ≤ 1000 + 2 * t) (hsb : sb ≤ 10000 + 34 * t) {I : Dl → Prop} (hRX : ∀ δ, I δ → RX δ) (hW : GW Γ δ) (hI : I δ) (hst : S2 I (F_Bs_take (xs (i + 1))) (F_M_take (xs (i + 1))))
    (kk : LK I (p, l, e, s, m, args, below, meth, c, D, K, μ0, Q) i (t + 1)) : XL (p, l, e, s, m, args, below, meth, c, D, K, μ0, Q) 517 (LLs i) [] kb sb Γ δ := by
  obtain ⟨v, δ1, δ2, e1, e2, hI2, hq⟩ := hst δ hI
  refine l_aload_n (i := 1) d_L_517 rfl rfl ?_
  refine l_arg (j := 1) hS (by rfl) d_L_518 d_L_519 d_L_520 d_L_521 d_L_522 (by omega) hn ?_
  refine l_V (as := [.inl (xs (i + 1))]) cs_L_53 rfl (hW.1 0 (by decide)) rfl (Nat.le_of_ble_eq_true rfl) (Nat.le_of_ble_eq_true rfl) d_L_523 (c_Bs_take hW.1 _ δ _ e1) NF.lw un_LNF (us_nil) rfl rfl (by omega) (by omega) rfl rfl ?_
  refine l_aload_n (i := 2) d_L_526 rfl rfl ?_
  refine l_arg (j := 1) hS (by rfl) d_L_527 d_L_528 d_L_529 d_L_530 d_L_531 (by omega) hn ?_
  refine l_V (as := [.inl (xs (i + 1))]) cs_L_56 rfl hW.2.1 rfl (Nat.le_of_ble_eq_true rfl) (Nat.le_of_ble_eq_true rfl) d_L_532 (c_M_take hW.2.1 _ δ1 _ e2) NF.lw un_LNF (us_i us_nil) rfl rfl (by omega) (by omega) rfl rfl ?_
  exact l_cmp_eq (tgt := 1414) d_L_535 (by decide) (fun _ => kk _ _ _ _ (by omega) (by omega) (gw_same hW hq) hI2) (fun h => absurd rfl h)
set_option maxRecDepth 40000 in
set_option maxHeartbeats 1000000 in
theorem lc_10 {i n t : Nat} {xs : Nat → Int32} (hS : XSc (p, l, e, s, m, args, below, meth, c, D, K, μ0, Q) n xs) (hi : i + 5 < n) (hn : n ≤ 3072) (ht : t < 512) (hk : kb ≤ 1000 + 2 * t) (hsb : sb ≤ 10000 + 34 * t) {I : Dl → Prop} (hRX : ∀ δ, I δ → RX δ) (hW : GW Γ δ) (hI : I δ) (hst : S2 I (F_Bs_number (xs (i + 1)) (xs (i + 2))) (F_M_number (xs (i + 1)) (xs (i + 2))))
    (kk : LK I (p, l, e, s, m, args, below, meth, c, D, K, μ0, Q) i (t + 1)) : XL (p, l, e, s, m, args, below, meth, c, D, K, μ0, Q) 540 (LLs i) [] kb sb Γ δ := by
  obtain ⟨v, δ1, δ2, e1, e2, hI2, hq⟩ := hst δ hI
  refine l_aload_n (i := 1) d_L_540 rfl rfl ?_
  refine l_arg (j := 1) hS (by rfl) d_L_541 d_L_542 d_L_543 d_L_544 d_L_545 (by omega) hn ?_
  refine l_arg (j := 2) hS (by rfl) d_L_546 d_L_547 d_L_548 d_L_549 d_L_550 (by omega) hn ?_
  refine l_V (as := [.inl (xs (i + 1)), .inl (xs (i + 2))]) cs_L_57 rfl (hW.1 0 (by decide)) rfl (Nat.le_of_ble_eq_true rfl) (Nat.le_of_ble_eq_true rfl) d_L_551 (c_Bs_number hW.1 _ _ δ _ e1) NF.lw un_LNF (us_nil) rfl rfl (by omega) (by omega) rfl rfl ?_
  refine l_aload_n (i := 2) d_L_554 rfl rfl ?_
  refine l_arg (j := 1) hS (by rfl) d_L_555 d_L_556 d_L_557 d_L_558 d_L_559 (by omega) hn ?_
  refine l_arg (j := 2) hS (by rfl) d_L_560 d_L_561 d_L_562 d_L_563 d_L_564 (by omega) hn ?_
  refine l_V (as := [.inl (xs (i + 1)), .inl (xs (i + 2))]) cs_L_60 rfl hW.2.1 rfl (Nat.le_of_ble_eq_true rfl) (Nat.le_of_ble_eq_true rfl) d_L_565 (c_M_number hW.2.1 _ _ δ1 _ e2) NF.lw un_LNF (us_i us_nil) rfl rfl (by omega) (by omega) rfl rfl ?_
  exact l_cmp_eq (tgt := 1414) d_L_568 (by decide) (fun _ => kk _ _ _ _ (by omega) (by omega) (gw_same hW hq) hI2) (fun h => absurd rfl h)
set_option maxRecDepth 40000 in
set_option maxHeartbeats 1000000 in
theorem lc_11 {i n t : Nat} {xs : Nat → Int32} (hS : XSc (p, l, e, s, m, args, below, meth, c, D, K, μ0, Q) n xs) (hi : i + 5 < n) (hn : n ≤ 3072) (ht : t < 512) (hk : kb ≤ 1000 + 2 * t) (hsb : sb ≤ 10000 + 34 * t) {I : Dl → Prop} (hRX : ∀ δ, I δ → RX δ) (hW : GW Γ δ) (hI : I δ) (hst : S2 I (F_Bs_cue (xs (i + 1)) (xs (i + 2)) (xs (i + 3)) (xs (i + 4))) (F_M_cue (xs (i + 1)) (xs (i + 2)) (xs (i + 3)) (xs (i + 4))))
    (kk : LK I (p, l, e, s, m, args, below, meth, c, D, K, μ0, Q) i (t + 1)) : XL (p, l, e, s, m, args, below, meth, c, D, K, μ0, Q) 573 (LLs i) [] kb sb Γ δ := by
  obtain ⟨v, δ1, δ2, e1, e2, hI2, hq⟩ := hst δ hI
  refine l_aload_n (i := 1) d_L_573 rfl rfl ?_
  refine l_arg (j := 1) hS (by rfl) d_L_574 d_L_575 d_L_576 d_L_577 d_L_578 (by omega) hn ?_
  refine l_arg (j := 2) hS (by rfl) d_L_579 d_L_580 d_L_581 d_L_582 d_L_583 (by omega) hn ?_
  refine l_arg (j := 3) hS (by rfl) d_L_584 d_L_585 d_L_586 d_L_587 d_L_588 (by omega) hn ?_
  refine l_arg (j := 4) hS (by rfl) d_L_589 d_L_590 d_L_591 d_L_592 d_L_593 (by omega) hn ?_
  refine l_V (as := [.inl (xs (i + 1)), .inl (xs (i + 2)), .inl (xs (i + 3)), .inl (xs (i + 4))]) cs_L_61 rfl (hW.1 0 (by decide)) rfl (Nat.le_of_ble_eq_true rfl) (Nat.le_of_ble_eq_true rfl) d_L_594 (c_Bs_cue hW.1 _ _ _ _ δ _ e1) NF.lw un_LNF (us_nil) rfl rfl (by omega) (by omega) rfl rfl ?_
  refine l_aload_n (i := 2) d_L_597 rfl rfl ?_
  refine l_arg (j := 1) hS (by rfl) d_L_598 d_L_599 d_L_600 d_L_601 d_L_602 (by omega) hn ?_
  refine l_arg (j := 2) hS (by rfl) d_L_603 d_L_604 d_L_605 d_L_606 d_L_607 (by omega) hn ?_
  refine l_arg (j := 3) hS (by rfl) d_L_608 d_L_609 d_L_610 d_L_611 d_L_612 (by omega) hn ?_
  refine l_arg (j := 4) hS (by rfl) d_L_613 d_L_614 d_L_615 d_L_616 d_L_617 (by omega) hn ?_
  refine l_V (as := [.inl (xs (i + 1)), .inl (xs (i + 2)), .inl (xs (i + 3)), .inl (xs (i + 4))]) cs_L_65 rfl hW.2.1 rfl (Nat.le_of_ble_eq_true rfl) (Nat.le_of_ble_eq_true rfl) d_L_618 (c_M_cue hW.2.1 _ _ _ _ δ1 _ e2) NF.lw un_LNF (us_i us_nil) rfl rfl (by omega) (by omega) rfl rfl ?_
  exact l_cmp_eq (tgt := 1414) d_L_621 (by decide) (fun _ => kk _ _ _ _ (by omega) (by omega) (gw_same hW hq) hI2) (fun h => absurd rfl h)
set_option maxRecDepth 40000 in
set_option maxHeartbeats 1000000 in
theorem lc_12 {i n t : Nat} {xs : Nat → Int32} (hS : XSc (p, l, e, s, m, args, below, meth, c, D, K, μ0, Q) n xs) (hi : i + 5 < n) (hn : n ≤ 3072) (ht : t < 512) (hk : kb ≤ 1000 + 2 * t) (hsb : sb ≤ 10000 + 34 * t) {I : Dl → Prop} (hRX : ∀ δ, I δ → RX δ) (hW : GW Γ δ) (hI : I δ) (hst : S2 I (F_Bs_top (xs (i + 1)) (xs (i + 2))) (F_M_top (xs (i + 1)) (xs (i + 2))))
    (kk : LK I (p, l, e, s, m, args, below, meth, c, D, K, μ0, Q) i (t + 1)) : XL (p, l, e, s, m, args, below, meth, c, D, K, μ0, Q) 626 (LLs i) [] kb sb Γ δ := by
  obtain ⟨v, δ1, δ2, e1, e2, hI2, hq⟩ := hst δ hI
  refine l_aload_n (i := 1) d_L_626 rfl rfl ?_
  refine l_arg (j := 1) hS (by rfl) d_L_627 d_L_628 d_L_629 d_L_630 d_L_631 (by omega) hn ?_
  refine l_arg (j := 2) hS (by rfl) d_L_632 d_L_633 d_L_634 d_L_635 d_L_636 (by omega) hn ?_
  refine l_V (as := [.inl (xs (i + 1)), .inl (xs (i + 2))]) cs_L_66 rfl (hW.1 0 (by decide)) rfl (Nat.le_of_ble_eq_true rfl) (Nat.le_of_ble_eq_true rfl) d_L_637 (c_Bs_top hW.1 _ _ δ _ e1) NF.lw un_LNF (us_nil) rfl rfl (by omega) (by omega) rfl rfl ?_
  refine l_aload_n (i := 2) d_L_640 rfl rfl ?_
  refine l_arg (j := 1) hS (by rfl) d_L_641 d_L_642 d_L_643 d_L_644 d_L_645 (by omega) hn ?_
  refine l_arg (j := 2) hS (by rfl) d_L_646 d_L_647 d_L_648 d_L_649 d_L_650 (by omega) hn ?_
  refine l_V (as := [.inl (xs (i + 1)), .inl (xs (i + 2))]) cs_L_69 rfl hW.2.1 rfl (Nat.le_of_ble_eq_true rfl) (Nat.le_of_ble_eq_true rfl) d_L_651 (c_M_top hW.2.1 _ _ δ1 _ e2) NF.lw un_LNF (us_i us_nil) rfl rfl (by omega) (by omega) rfl rfl ?_
  exact l_cmp_eq (tgt := 1414) d_L_654 (by decide) (fun _ => kk _ _ _ _ (by omega) (by omega) (gw_same hW hq) hI2) (fun h => absurd rfl h)
set_option maxRecDepth 40000 in
set_option maxHeartbeats 1000000 in
theorem lc_13 {i n t : Nat} {xs : Nat → Int32} (hS : XSc (p, l, e, s, m, args, below, meth, c, D, K, μ0, Q) n xs) (hi : i + 5 < n) (hn : n ≤ 3072) (ht : t < 512) (hk : kb ≤ 1000 + 2 * t) (hsb : sb ≤ 10000 + 34 * t) {I : Dl → Prop} (hRX : ∀ δ, I δ → RX δ) (hW : GW Γ δ) (hI : I δ) (hst : S2 I (Rd (F_Bs_look (xs (i + 1)) (xs (i + 2)))) (F_M_look (xs (i + 1)) (xs (i + 2))))
    (kk : LK I (p, l, e, s, m, args, below, meth, c, D, K, μ0, Q) i (t + 1)) : XL (p, l, e, s, m, args, below, meth, c, D, K, μ0, Q) 659 (LLs i) [] kb sb Γ δ := by
  obtain ⟨v, δ1, δ2, e1, e2, hI2, hq⟩ := hst δ hI
  obtain ⟨e1x, rfl⟩ := rd_e e1
  refine l_aload_n (i := 1) d_L_659 rfl rfl ?_
  refine l_arg (j := 1) hS (by rfl) d_L_660 d_L_661 d_L_662 d_L_663 d_L_664 (by omega) hn ?_
  refine l_arg (j := 2) hS (by rfl) d_L_665 d_L_666 d_L_667 d_L_668 d_L_669 (by omega) hn ?_
  refine l_V (as := [.inl (xs (i + 1)), .inl (xs (i + 2))]) cs_L_70 rfl (hW.1 0 (by decide)) rfl (Nat.le_of_ble_eq_true rfl) (Nat.le_of_ble_eq_true rfl) d_L_670 (c_Bs_look hW.1 _ _ δ _ e1x) NF.lw un_LNF (us_nil) rfl rfl (by omega) (by omega) rfl rfl ?_
  refine l_aload_n (i := 2) d_L_673 rfl rfl ?_
  refine l_arg (j := 1) hS (by rfl) d_L_674 d_L_675 d_L_676 d_L_677 d_L_678 (by omega) hn ?_
  refine l_arg (j := 2) hS (by rfl) d_L_679 d_L_680 d_L_681 d_L_682 d_L_683 (by omega) hn ?_
  refine l_V (as := [.inl (xs (i + 1)), .inl (xs (i + 2))]) cs_L_73 rfl hW.2.1 rfl (Nat.le_of_ble_eq_true rfl) (Nat.le_of_ble_eq_true rfl) d_L_684 (c_M_look hW.2.1 _ _ δ _ e2) NF.lw un_LNF (us_i us_nil) rfl rfl (by omega) (by omega) rfl rfl ?_
  exact l_cmp_eq (tgt := 1414) d_L_687 (by decide) (fun _ => kk _ _ _ _ (by omega) (by omega) (gw_same hW hq) hI2) (fun h => absurd rfl h)
set_option maxRecDepth 40000 in
set_option maxHeartbeats 1000000 in
theorem lc_14 {i n t : Nat} {xs : Nat → Int32} (hS : XSc (p, l, e, s, m, args, below, meth, c, D, K, μ0, Q) n xs) (hi : i + 5 < n) (hn : n ≤ 3072) (ht : t < 512) (hk : kb ≤ 1000 + 2 * t) (hsb : sb ≤ 10000 + 34 * t) {I : Dl → Prop} (hRX : ∀ δ, I δ → RX δ) (hW : GW Γ δ) (hI : I δ) (hst : S2 I (Rd (F_Bs_hole (xs (i + 1)) (xs (i + 2)))) (Rd (F_M_hole (xs (i + 1)) (xs (i + 2)))))
    (kk : LK I (p, l, e, s, m, args, below, meth, c, D, K, μ0, Q) i (t + 1)) : XL (p, l, e, s, m, args, below, meth, c, D, K, μ0, Q) 692 (LLs i) [] kb sb Γ δ := by
  obtain ⟨v, δ1, δ2, e1, e2, hI2, hq⟩ := hst δ hI
  obtain ⟨e2x, rfl⟩ := rd_e e2
  obtain ⟨e1x, rfl⟩ := rd_e e1
  refine l_aload_n (i := 1) d_L_692 rfl rfl ?_
  refine l_arg (j := 1) hS (by rfl) d_L_693 d_L_694 d_L_695 d_L_696 d_L_697 (by omega) hn ?_
  refine l_arg (j := 2) hS (by rfl) d_L_698 d_L_699 d_L_700 d_L_701 d_L_702 (by omega) hn ?_
  refine l_V (as := [.inl (xs (i + 1)), .inl (xs (i + 2))]) cs_L_74 rfl (hW.1 0 (by decide)) rfl (Nat.le_of_ble_eq_true rfl) (Nat.le_of_ble_eq_true rfl) d_L_703 (c_Bs_hole hW.1 _ _ δ _ e1x) NF.lw un_LNF (us_nil) rfl rfl (by omega) (by omega) rfl rfl ?_
  refine l_aload_n (i := 2) d_L_706 rfl rfl ?_
  refine l_arg (j := 1) hS (by rfl) d_L_707 d_L_708 d_L_709 d_L_710 d_L_711 (by omega) hn ?_
  refine l_arg (j := 2) hS (by rfl) d_L_712 d_L_713 d_L_714 d_L_715 d_L_716 (by omega) hn ?_
  refine l_V (as := [.inl (xs (i + 1)), .inl (xs (i + 2))]) cs_L_77 rfl hW.2.1 rfl (Nat.le_of_ble_eq_true rfl) (Nat.le_of_ble_eq_true rfl) d_L_717 (c_M_hole hW.2.1 _ _ δ _ e2x) NF.lw un_LNF (us_i us_nil) rfl rfl (by omega) (by omega) rfl rfl ?_
  exact l_cmp_eq (tgt := 1414) d_L_720 (by decide) (fun _ => kk _ _ _ _ (by omega) (by omega) (gw_same hW hq) hI2) (fun h => absurd rfl h)
set_option maxRecDepth 40000 in
set_option maxHeartbeats 1000000 in
theorem lc_15 {i n t : Nat} {xs : Nat → Int32} (hS : XSc (p, l, e, s, m, args, below, meth, c, D, K, μ0, Q) n xs) (hi : i + 5 < n) (hn : n ≤ 3072) (ht : t < 512) (hk : kb ≤ 1000 + 2 * t) (hsb : sb ≤ 10000 + 34 * t) {I : Dl → Prop} (hRX : ∀ δ, I δ → RX δ) (hW : GW Γ δ) (hI : I δ) (hst : S2 I (Rd (F_Bs_of (xs (i + 1)) (xs (i + 2)))) (Rd (F_M_of (xs (i + 1)) (xs (i + 2)))))
    (kk : LK I (p, l, e, s, m, args, below, meth, c, D, K, μ0, Q) i (t + 1)) : XL (p, l, e, s, m, args, below, meth, c, D, K, μ0, Q) 725 (LLs i) [] kb sb Γ δ := by
  obtain ⟨v, δ1, δ2, e1, e2, hI2, hq⟩ := hst δ hI
  obtain ⟨e2x, rfl⟩ := rd_e e2
  obtain ⟨e1x, rfl⟩ := rd_e e1
  refine l_aload_n (i := 1) d_L_725 rfl rfl ?_
  refine l_arg (j := 1) hS (by rfl) d_L_726 d_L_727 d_L_728 d_L_729 d_L_730 (by omega) hn ?_
  refine l_arg (j := 2) hS (by rfl) d_L_731 d_L_732 d_L_733 d_L_734 d_L_735 (by omega) hn ?_
  refine l_V (as := [.inl (xs (i + 1)), .inl (xs (i + 2))]) cs_L_78 rfl (hW.1 0 (by decide)) rfl (Nat.le_of_ble_eq_true rfl) (Nat.le_of_ble_eq_true rfl) d_L_736 (c_Bs_of hW.1 _ _ δ _ e1x) NF.lw un_LNF (us_nil) rfl rfl (by omega) (by omega) rfl rfl ?_
  refine l_aload_n (i := 2) d_L_739 rfl rfl ?_
  refine l_arg (j := 1) hS (by rfl) d_L_740 d_L_741 d_L_742 d_L_743 d_L_744 (by omega) hn ?_
  refine l_arg (j := 2) hS (by rfl) d_L_745 d_L_746 d_L_747 d_L_748 d_L_749 (by omega) hn ?_
  refine l_V (as := [.inl (xs (i + 1)), .inl (xs (i + 2))]) cs_L_81 rfl hW.2.1 rfl (Nat.le_of_ble_eq_true rfl) (Nat.le_of_ble_eq_true rfl) d_L_750 (c_M_of hW.2.1 _ _ δ _ e2x) NF.lw un_LNF (us_i us_nil) rfl rfl (by omega) (by omega) rfl rfl ?_
  exact l_cmp_eq (tgt := 1414) d_L_753 (by decide) (fun _ => kk _ _ _ _ (by omega) (by omega) (gw_same hW hq) hI2) (fun h => absurd rfl h)
set_option maxRecDepth 40000 in
set_option maxHeartbeats 1000000 in
theorem lc_16 {i n t : Nat} {xs : Nat → Int32} (hS : XSc (p, l, e, s, m, args, below, meth, c, D, K, μ0, Q) n xs) (hi : i + 5 < n) (hn : n ≤ 3072) (ht : t < 512) (hk : kb ≤ 1000 + 2 * t) (hsb : sb ≤ 10000 + 34 * t) {I : Dl → Prop} (hRX : ∀ δ, I δ → RX δ) (hW : GW Γ δ) (hI : I δ) (hst : S2 I (Rd (F_Bs_scriptOf (xs (i + 1)) (xs (i + 2)))) (F_M_scriptOf (xs (i + 1)) (xs (i + 2))))
    (kk : LK I (p, l, e, s, m, args, below, meth, c, D, K, μ0, Q) i (t + 1)) : XL (p, l, e, s, m, args, below, meth, c, D, K, μ0, Q) 758 (LLs i) [] kb sb Γ δ := by
  obtain ⟨v, δ1, δ2, e1, e2, hI2, hq⟩ := hst δ hI
  obtain ⟨e1x, rfl⟩ := rd_e e1
  refine l_aload_n (i := 1) d_L_758 rfl rfl ?_
  refine l_arg (j := 1) hS (by rfl) d_L_759 d_L_760 d_L_761 d_L_762 d_L_763 (by omega) hn ?_
  refine l_arg (j := 2) hS (by rfl) d_L_764 d_L_765 d_L_766 d_L_767 d_L_768 (by omega) hn ?_
  refine l_V (as := [.inl (xs (i + 1)), .inl (xs (i + 2))]) cs_L_82 rfl (hW.1 0 (by decide)) rfl (Nat.le_of_ble_eq_true rfl) (Nat.le_of_ble_eq_true rfl) d_L_769 (c_Bs_scriptOf hW.1 _ _ δ _ e1x) NF.lw un_LNF (us_nil) rfl rfl (by omega) (by omega) rfl rfl ?_
  refine l_aload_n (i := 2) d_L_772 rfl rfl ?_
  refine l_arg (j := 1) hS (by rfl) d_L_773 d_L_774 d_L_775 d_L_776 d_L_777 (by omega) hn ?_
  refine l_arg (j := 2) hS (by rfl) d_L_778 d_L_779 d_L_780 d_L_781 d_L_782 (by omega) hn ?_
  refine l_V (as := [.inl (xs (i + 1)), .inl (xs (i + 2))]) cs_L_85 rfl hW.2.1 rfl (Nat.le_of_ble_eq_true rfl) (Nat.le_of_ble_eq_true rfl) d_L_783 (c_M_scriptOf hW.2.1 _ _ δ _ e2) NF.lw un_LNF (us_i us_nil) rfl rfl (by omega) (by omega) rfl rfl ?_
  exact l_cmp_eq (tgt := 1414) d_L_786 (by decide) (fun _ => kk _ _ _ _ (by omega) (by omega) (gw_same hW hq) hI2) (fun h => absurd rfl h)
set_option maxRecDepth 40000 in
set_option maxHeartbeats 1000000 in
theorem lc_17 {i n t : Nat} {xs : Nat → Int32} (hS : XSc (p, l, e, s, m, args, below, meth, c, D, K, μ0, Q) n xs) (hi : i + 5 < n) (hn : n ≤ 3072) (ht : t < 512) (hk : kb ≤ 1000 + 2 * t) (hsb : sb ≤ 10000 + 34 * t) {I : Dl → Prop} (hRX : ∀ δ, I δ → RX δ) (hW : GW Γ δ) (hI : I δ) (hst : S2 I (F_Bs_flag) (Tt (F_M_flag)))
    (kk : LK I (p, l, e, s, m, args, below, meth, c, D, K, μ0, Q) i (t + 1)) : XL (p, l, e, s, m, args, below, meth, c, D, K, μ0, Q) 791 (LLs i) [] kb sb Γ δ := by
  obtain ⟨v, δ1, δ2, e1, e2, hI2, hq⟩ := hst δ hI
  replace e2 := tt_e e2
  refine l_aload_n (i := 1) d_L_791 rfl rfl ?_
  refine l_V (as := []) cs_L_86 rfl (hW.1 0 (by decide)) rfl (Nat.le_of_ble_eq_true rfl) (Nat.le_of_ble_eq_true rfl) d_L_792 (c_Bs_flag hW.1  δ _ e1) NF.lw un_LNF (us_nil) rfl rfl (by omega) (by omega) rfl rfl ?_
  refine l_aload_n (i := 2) d_L_795 rfl rfl ?_
  refine l_V (as := []) cs_L_89 rfl hW.2.1 rfl (Nat.le_of_ble_eq_true rfl) (Nat.le_of_ble_eq_true rfl) d_L_796 (c_M_flag hW.2.1  δ1 _ e2) NF.lw un_LNF (us_i us_nil) rfl rfl (by omega) (by omega) rfl rfl ?_
  exact l_cmp_eq (tgt := 1414) d_L_799 (by decide) (fun _ => kk _ _ _ _ (by omega) (by omega) (gw_same hW hq) hI2) (fun h => absurd rfl h)
set_option maxRecDepth 40000 in
set_option maxHeartbeats 1000000 in
theorem lc_18 {i n t : Nat} {xs : Nat → Int32} (hS : XSc (p, l, e, s, m, args, below, meth, c, D, K, μ0, Q) n xs) (hi : i + 5 < n) (hn : n ≤ 3072) (ht : t < 512) (hk : kb ≤ 1000 + 2 * t) (hsb : sb ≤ 10000 + 34 * t) {I : Dl → Prop} (hRX : ∀ δ, I δ → RX δ) (hW : GW Γ δ) (hI : I δ) (hst : S2 I (F_Bs_tick (xs (i + 1))) (Tt (F_M_tick (xs (i + 1)))))
    (kk : LK I (p, l, e, s, m, args, below, meth, c, D, K, μ0, Q) i (t + 1)) : XL (p, l, e, s, m, args, below, meth, c, D, K, μ0, Q) 804 (LLs i) [] kb sb Γ δ := by
  obtain ⟨v, δ1, δ2, e1, e2, hI2, hq⟩ := hst δ hI
  replace e2 := tt_e e2
  refine l_aload_n (i := 1) d_L_804 rfl rfl ?_
  refine l_arg (j := 1) hS (by rfl) d_L_805 d_L_806 d_L_807 d_L_808 d_L_809 (by omega) hn ?_
  refine l_V (as := [.inl (xs (i + 1))]) cs_L_90 rfl (hW.1 0 (by decide)) rfl (Nat.le_of_ble_eq_true rfl) (Nat.le_of_ble_eq_true rfl) d_L_810 (c_Bs_tick hW.1 _ δ _ e1) NF.lw un_LNF (us_nil) rfl rfl (by omega) (by omega) rfl rfl ?_
  refine l_aload_n (i := 2) d_L_813 rfl rfl ?_
  refine l_arg (j := 1) hS (by rfl) d_L_814 d_L_815 d_L_816 d_L_817 d_L_818 (by omega) hn ?_
  refine l_V (as := [.inl (xs (i + 1))]) cs_L_93 rfl hW.2.1 rfl (Nat.le_of_ble_eq_true rfl) (Nat.le_of_ble_eq_true rfl) d_L_819 (c_M_tick hW.2.1 _ δ1 _ e2) NF.lw un_LNF (us_i us_nil) rfl rfl (by omega) (by omega) rfl rfl ?_
  exact l_cmp_eq (tgt := 1414) d_L_822 (by decide) (fun _ => kk _ _ _ _ (by omega) (by omega) (gw_same hW hq) hI2) (fun h => absurd rfl h)
set_option maxRecDepth 40000 in
set_option maxHeartbeats 1000000 in
theorem lc_19 {i n t : Nat} {xs : Nat → Int32} (hS : XSc (p, l, e, s, m, args, below, meth, c, D, K, μ0, Q) n xs) (hi : i + 5 < n) (hn : n ≤ 3072) (ht : t < 512) (hk : kb ≤ 1000 + 2 * t) (hsb : sb ≤ 10000 + 34 * t) {I : Dl → Prop} (hRX : ∀ δ, I δ → RX δ) (hW : GW Γ δ) (hI : I δ) (hst : S2 I (F_Bs_back (xs (i + 1))) (Tt (F_M_back (xs (i + 1)))))
    (kk : LK I (p, l, e, s, m, args, below, meth, c, D, K, μ0, Q) i (t + 1)) : XL (p, l, e, s, m, args, below, meth, c, D, K, μ0, Q) 827 (LLs i) [] kb sb Γ δ := by
  obtain ⟨v, δ1, δ2, e1, e2, hI2, hq⟩ := hst δ hI
  replace e2 := tt_e e2
  refine l_aload_n (i := 1) d_L_827 rfl rfl ?_
  refine l_arg (j := 1) hS (by rfl) d_L_828 d_L_829 d_L_830 d_L_831 d_L_832 (by omega) hn ?_
  refine l_V (as := [.inl (xs (i + 1))]) cs_L_94 rfl (hW.1 0 (by decide)) rfl (Nat.le_of_ble_eq_true rfl) (Nat.le_of_ble_eq_true rfl) d_L_833 (c_Bs_back hW.1 _ δ _ e1) NF.lw un_LNF (us_nil) rfl rfl (by omega) (by omega) rfl rfl ?_
  refine l_aload_n (i := 2) d_L_836 rfl rfl ?_
  refine l_arg (j := 1) hS (by rfl) d_L_837 d_L_838 d_L_839 d_L_840 d_L_841 (by omega) hn ?_
  refine l_V (as := [.inl (xs (i + 1))]) cs_L_97 rfl hW.2.1 rfl (Nat.le_of_ble_eq_true rfl) (Nat.le_of_ble_eq_true rfl) d_L_842 (c_M_back hW.2.1 _ δ1 _ e2) NF.lw un_LNF (us_i us_nil) rfl rfl (by omega) (by omega) rfl rfl ?_
  exact l_cmp_eq (tgt := 1414) d_L_845 (by decide) (fun _ => kk _ _ _ _ (by omega) (by omega) (gw_same hW hq) hI2) (fun h => absurd rfl h)
set_option maxRecDepth 40000 in
set_option maxHeartbeats 1000000 in
theorem lc_20 {i n t : Nat} {xs : Nat → Int32} (hS : XSc (p, l, e, s, m, args, below, meth, c, D, K, μ0, Q) n xs) (hi : i + 5 < n) (hn : n ≤ 3072) (ht : t < 512) (hk : kb ≤ 1000 + 2 * t) (hsb : sb ≤ 10000 + 34 * t) {I : Dl → Prop} (hRX : ∀ δ, I δ → RX δ) (hW : GW Γ δ) (hI : I δ) (hst : S2 I (Rd (F_Bs_who (xs (i + 1)) (xs (i + 2)))) (F_M_who (xs (i + 1)) (xs (i + 2))))
    (kk : LK I (p, l, e, s, m, args, below, meth, c, D, K, μ0, Q) i (t + 1)) : XL (p, l, e, s, m, args, below, meth, c, D, K, μ0, Q) 850 (LLs i) [] kb sb Γ δ := by
  obtain ⟨v, δ1, δ2, e1, e2, hI2, hq⟩ := hst δ hI
  obtain ⟨e1x, rfl⟩ := rd_e e1
  refine l_aload_n (i := 1) d_L_850 rfl rfl ?_
  refine l_arg (j := 1) hS (by rfl) d_L_851 d_L_852 d_L_853 d_L_854 d_L_855 (by omega) hn ?_
  refine l_arg (j := 2) hS (by rfl) d_L_856 d_L_857 d_L_858 d_L_859 d_L_860 (by omega) hn ?_
  refine l_V (as := [.inl (xs (i + 1)), .inl (xs (i + 2))]) cs_L_98 rfl (hW.1 0 (by decide)) rfl (Nat.le_of_ble_eq_true rfl) (Nat.le_of_ble_eq_true rfl) d_L_861 (c_Bs_who hW.1 _ _ δ _ e1x) NF.lw un_LNF (us_nil) rfl rfl (by omega) (by omega) rfl rfl ?_
  refine l_aload_n (i := 2) d_L_864 rfl rfl ?_
  refine l_arg (j := 1) hS (by rfl) d_L_865 d_L_866 d_L_867 d_L_868 d_L_869 (by omega) hn ?_
  refine l_arg (j := 2) hS (by rfl) d_L_870 d_L_871 d_L_872 d_L_873 d_L_874 (by omega) hn ?_
  refine l_V (as := [.inl (xs (i + 1)), .inl (xs (i + 2))]) cs_L_101 rfl hW.2.1 rfl (Nat.le_of_ble_eq_true rfl) (Nat.le_of_ble_eq_true rfl) d_L_875 (c_M_who hW.2.1 _ _ δ _ e2) NF.lw un_LNF (us_i us_nil) rfl rfl (by omega) (by omega) rfl rfl ?_
  exact l_cmp_eq (tgt := 1414) d_L_878 (by decide) (fun _ => kk _ _ _ _ (by omega) (by omega) (gw_same hW hq) hI2) (fun h => absurd rfl h)
set_option maxRecDepth 40000 in
set_option maxHeartbeats 1000000 in
theorem lc_21 {i n t : Nat} {xs : Nat → Int32} (hS : XSc (p, l, e, s, m, args, below, meth, c, D, K, μ0, Q) n xs) (hi : i + 5 < n) (hn : n ≤ 3072) (ht : t < 512) (hk : kb ≤ 1000 + 2 * t) (hsb : sb ≤ 10000 + 34 * t) {I : Dl → Prop} (hRX : ∀ δ, I δ → RX δ) (hW : GW Γ δ) (hI : I δ) (hst : S2 I (Rd (F_Bs_item (xs (i + 1)) (xs (i + 2)))) (F_M_item (xs (i + 1)) (xs (i + 2))))
    (kk : LK I (p, l, e, s, m, args, below, meth, c, D, K, μ0, Q) i (t + 1)) : XL (p, l, e, s, m, args, below, meth, c, D, K, μ0, Q) 883 (LLs i) [] kb sb Γ δ := by
  obtain ⟨v, δ1, δ2, e1, e2, hI2, hq⟩ := hst δ hI
  obtain ⟨e1x, rfl⟩ := rd_e e1
  refine l_aload_n (i := 1) d_L_883 rfl rfl ?_
  refine l_arg (j := 1) hS (by rfl) d_L_884 d_L_885 d_L_886 d_L_887 d_L_888 (by omega) hn ?_
  refine l_arg (j := 2) hS (by rfl) d_L_889 d_L_890 d_L_891 d_L_892 d_L_893 (by omega) hn ?_
  refine l_V (as := [.inl (xs (i + 1)), .inl (xs (i + 2))]) cs_L_102 rfl (hW.1 0 (by decide)) rfl (Nat.le_of_ble_eq_true rfl) (Nat.le_of_ble_eq_true rfl) d_L_894 (c_Bs_item hW.1 _ _ δ _ e1x) NF.lw un_LNF (us_nil) rfl rfl (by omega) (by omega) rfl rfl ?_
  refine l_aload_n (i := 2) d_L_897 rfl rfl ?_
  refine l_arg (j := 1) hS (by rfl) d_L_898 d_L_899 d_L_900 d_L_901 d_L_902 (by omega) hn ?_
  refine l_arg (j := 2) hS (by rfl) d_L_903 d_L_904 d_L_905 d_L_906 d_L_907 (by omega) hn ?_
  refine l_V (as := [.inl (xs (i + 1)), .inl (xs (i + 2))]) cs_L_105 rfl hW.2.1 rfl (Nat.le_of_ble_eq_true rfl) (Nat.le_of_ble_eq_true rfl) d_L_908 (c_M_item hW.2.1 _ _ δ _ e2) NF.lw un_LNF (us_i us_nil) rfl rfl (by omega) (by omega) rfl rfl ?_
  exact l_cmp_eq (tgt := 1414) d_L_911 (by decide) (fun _ => kk _ _ _ _ (by omega) (by omega) (gw_same hW hq) hI2) (fun h => absurd rfl h)
set_option maxRecDepth 40000 in
set_option maxHeartbeats 1000000 in
theorem lc_22 {i n t : Nat} {xs : Nat → Int32} (hS : XSc (p, l, e, s, m, args, below, meth, c, D, K, μ0, Q) n xs) (hi : i + 5 < n) (hn : n ≤ 3072) (ht : t < 512) (hk : kb ≤ 1000 + 2 * t) (hsb : sb ≤ 10000 + 34 * t) {I : Dl → Prop} (hRX : ∀ δ, I δ → RX δ) (hW : GW Γ δ) (hI : I δ) (hst : S2 I (Rd (F_Bs_said (xs (i + 1)) (xs (i + 2)))) (F_M_said (xs (i + 1)) (xs (i + 2))))
    (kk : LK I (p, l, e, s, m, args, below, meth, c, D, K, μ0, Q) i (t + 1)) : XL (p, l, e, s, m, args, below, meth, c, D, K, μ0, Q) 916 (LLs i) [] kb sb Γ δ := by
  obtain ⟨v, δ1, δ2, e1, e2, hI2, hq⟩ := hst δ hI
  obtain ⟨e1x, rfl⟩ := rd_e e1
  refine l_aload_n (i := 1) d_L_916 rfl rfl ?_
  refine l_arg (j := 1) hS (by rfl) d_L_917 d_L_918 d_L_919 d_L_920 d_L_921 (by omega) hn ?_
  refine l_arg (j := 2) hS (by rfl) d_L_922 d_L_923 d_L_924 d_L_925 d_L_926 (by omega) hn ?_
  refine l_V (as := [.inl (xs (i + 1)), .inl (xs (i + 2))]) cs_L_106 rfl (hW.1 0 (by decide)) rfl (Nat.le_of_ble_eq_true rfl) (Nat.le_of_ble_eq_true rfl) d_L_927 (c_Bs_said hW.1 _ _ δ _ e1x) NF.lw un_LNF (us_nil) rfl rfl (by omega) (by omega) rfl rfl ?_
  refine l_aload_n (i := 2) d_L_930 rfl rfl ?_
  refine l_arg (j := 1) hS (by rfl) d_L_931 d_L_932 d_L_933 d_L_934 d_L_935 (by omega) hn ?_
  refine l_arg (j := 2) hS (by rfl) d_L_936 d_L_937 d_L_938 d_L_939 d_L_940 (by omega) hn ?_
  refine l_V (as := [.inl (xs (i + 1)), .inl (xs (i + 2))]) cs_L_109 rfl hW.2.1 rfl (Nat.le_of_ble_eq_true rfl) (Nat.le_of_ble_eq_true rfl) d_L_941 (c_M_said hW.2.1 _ _ δ _ e2) NF.lw un_LNF (us_i us_nil) rfl rfl (by omega) (by omega) rfl rfl ?_
  exact l_cmp_eq (tgt := 1414) d_L_944 (by decide) (fun _ => kk _ _ _ _ (by omega) (by omega) (gw_same hW hq) hI2) (fun h => absurd rfl h)
set_option maxRecDepth 40000 in
set_option maxHeartbeats 1000000 in
theorem lc_23 {i n t : Nat} {xs : Nat → Int32} (hS : XSc (p, l, e, s, m, args, below, meth, c, D, K, μ0, Q) n xs) (hi : i + 5 < n) (hn : n ≤ 3072) (ht : t < 512) (hk : kb ≤ 1000 + 2 * t) (hsb : sb ≤ 10000 + 34 * t) {I : Dl → Prop} (hRX : ∀ δ, I δ → RX δ) (hW : GW Γ δ) (hI : I δ) (hst : S2 I (F_Bs_feed (xs (i + 1)) (xs (i + 2))) (F_M_feed (xs (i + 1)) (xs (i + 2))))
    (kk : LK I (p, l, e, s, m, args, below, meth, c, D, K, μ0, Q) i (t + 1)) : XL (p, l, e, s, m, args, below, meth, c, D, K, μ0, Q) 949 (LLs i) [] kb sb Γ δ := by
  obtain ⟨v, δ1, δ2, e1, e2, hI2, hq⟩ := hst δ hI
  refine l_aload_n (i := 1) d_L_949 rfl rfl ?_
  refine l_arg (j := 1) hS (by rfl) d_L_950 d_L_951 d_L_952 d_L_953 d_L_954 (by omega) hn ?_
  refine l_arg (j := 2) hS (by rfl) d_L_955 d_L_956 d_L_957 d_L_958 d_L_959 (by omega) hn ?_
  refine l_V (as := [.inl (xs (i + 1)), .inl (xs (i + 2))]) cs_L_110 rfl (hW.1 0 (by decide)) rfl (Nat.le_of_ble_eq_true rfl) (Nat.le_of_ble_eq_true rfl) d_L_960 (c_Bs_feed hW.1 _ _ δ _ e1) NF.lw un_LNF (us_nil) rfl rfl (by omega) (by omega) rfl rfl ?_
  refine l_aload_n (i := 2) d_L_963 rfl rfl ?_
  refine l_arg (j := 1) hS (by rfl) d_L_964 d_L_965 d_L_966 d_L_967 d_L_968 (by omega) hn ?_
  refine l_arg (j := 2) hS (by rfl) d_L_969 d_L_970 d_L_971 d_L_972 d_L_973 (by omega) hn ?_
  refine l_V (as := [.inl (xs (i + 1)), .inl (xs (i + 2))]) cs_L_113 rfl hW.2.1 rfl (Nat.le_of_ble_eq_true rfl) (Nat.le_of_ble_eq_true rfl) d_L_974 (c_M_feed hW.2.1 _ _ δ1 _ e2) NF.lw un_LNF (us_i us_nil) rfl rfl (by omega) (by omega) rfl rfl ?_
  exact l_cmp_eq (tgt := 1414) d_L_977 (by decide) (fun _ => kk _ _ _ _ (by omega) (by omega) (gw_same hW hq) hI2) (fun h => absurd rfl h)
set_option maxRecDepth 40000 in
set_option maxHeartbeats 1000000 in
theorem lc_24 {i n t : Nat} {xs : Nat → Int32} (hS : XSc (p, l, e, s, m, args, below, meth, c, D, K, μ0, Q) n xs) (hi : i + 5 < n) (hn : n ≤ 3072) (ht : t < 512) (hk : kb ≤ 1000 + 2 * t) (hsb : sb ≤ 10000 + 34 * t) {I : Dl → Prop} (hRX : ∀ δ, I δ → RX δ) (hW : GW Γ δ) (hI : I δ) (hst : S2 I (F_Bs_wish) (F_M_wish))
    (kk : LK I (p, l, e, s, m, args, below, meth, c, D, K, μ0, Q) i (t + 1)) : XL (p, l, e, s, m, args, below, meth, c, D, K, μ0, Q) 982 (LLs i) [] kb sb Γ δ := by
  obtain ⟨v, δ1, δ2, e1, e2, hI2, hq⟩ := hst δ hI
  refine l_aload_n (i := 1) d_L_982 rfl rfl ?_
  refine l_V (as := []) cs_L_114 rfl (hW.1 0 (by decide)) rfl (Nat.le_of_ble_eq_true rfl) (Nat.le_of_ble_eq_true rfl) d_L_983 (c_Bs_wish hW.1  δ _ e1) NF.lw un_LNF (us_nil) rfl rfl (by omega) (by omega) rfl rfl ?_
  refine l_aload_n (i := 2) d_L_986 rfl rfl ?_
  refine l_V (as := []) cs_L_117 rfl hW.2.1 rfl (Nat.le_of_ble_eq_true rfl) (Nat.le_of_ble_eq_true rfl) d_L_987 (c_M_wish hW.2.1  δ1 _ e2) NF.lw un_LNF (us_i us_nil) rfl rfl (by omega) (by omega) rfl rfl ?_
  exact l_cmp_eq (tgt := 1414) d_L_990 (by decide) (fun _ => kk _ _ _ _ (by omega) (by omega) (gw_same hW hq) hI2) (fun h => absurd rfl h)
set_option maxRecDepth 40000 in
set_option maxHeartbeats 1000000 in
theorem lc_25 {i n t : Nat} {xs : Nat → Int32} (hS : XSc (p, l, e, s, m, args, below, meth, c, D, K, μ0, Q) n xs) (hi : i + 5 < n) (hn : n ≤ 3072) (ht : t < 512) (hk : kb ≤ 1000 + 2 * t) (hsb : sb ≤ 10000 + 34 * t) {I : Dl → Prop} (hRX : ∀ δ, I δ → RX δ) (hW : GW Γ δ) (hI : I δ) (hst : S2 I (F_Bs_mark (xs (i + 1))) (F_M_mark (xs (i + 1))))
    (kk : LK I (p, l, e, s, m, args, below, meth, c, D, K, μ0, Q) i (t + 1)) : XL (p, l, e, s, m, args, below, meth, c, D, K, μ0, Q) 995 (LLs i) [] kb sb Γ δ := by
  obtain ⟨v, δ1, δ2, e1, e2, hI2, hq⟩ := hst δ hI
  refine l_aload_n (i := 1) d_L_995 rfl rfl ?_
  refine l_arg (j := 1) hS (by rfl) d_L_996 d_L_997 d_L_998 d_L_999 d_L_1000 (by omega) hn ?_
  refine l_V (as := [.inl (xs (i + 1))]) cs_L_118 rfl (hW.1 0 (by decide)) rfl (Nat.le_of_ble_eq_true rfl) (Nat.le_of_ble_eq_true rfl) d_L_1001 (c_Bs_mark hW.1 _ δ _ e1) NF.lw un_LNF (us_nil) rfl rfl (by omega) (by omega) rfl rfl ?_
  refine l_aload_n (i := 2) d_L_1004 rfl rfl ?_
  refine l_arg (j := 1) hS (by rfl) d_L_1005 d_L_1006 d_L_1007 d_L_1008 d_L_1009 (by omega) hn ?_
  refine l_V (as := [.inl (xs (i + 1))]) cs_L_121 rfl hW.2.1 rfl (Nat.le_of_ble_eq_true rfl) (Nat.le_of_ble_eq_true rfl) d_L_1010 (c_M_mark hW.2.1 _ δ1 _ e2) NF.lw un_LNF (us_i us_nil) rfl rfl (by omega) (by omega) rfl rfl ?_
  exact l_cmp_eq (tgt := 1414) d_L_1013 (by decide) (fun _ => kk _ _ _ _ (by omega) (by omega) (gw_same hW hq) hI2) (fun h => absurd rfl h)
set_option maxRecDepth 40000 in
set_option maxHeartbeats 1000000 in
theorem lc_26 {i n t : Nat} {xs : Nat → Int32} (hS : XSc (p, l, e, s, m, args, below, meth, c, D, K, μ0, Q) n xs) (hi : i + 5 < n) (hn : n ≤ 3072) (ht : t < 512) (hk : kb ≤ 1000 + 2 * t) (hsb : sb ≤ 10000 + 34 * t) {I : Dl → Prop} (hRX : ∀ δ, I δ → RX δ) (hW : GW Γ δ) (hI : I δ) (hst : S2 I (Rt (F_Bs_fails (xs (i + 1)))) (Rt (F_M_fails (xs (i + 1)))))
    (kk : LK I (p, l, e, s, m, args, below, meth, c, D, K, μ0, Q) i (t + 1)) : XL (p, l, e, s, m, args, below, meth, c, D, K, μ0, Q) 1018 (LLs i) [] kb sb Γ δ := by
  obtain ⟨v, δ1, δ2, e1, e2, hI2, hq⟩ := hst δ hI
  obtain ⟨e2x, rfl⟩ := rt_e e2
  obtain ⟨e1x, rfl⟩ := rt_e e1
  refine l_aload_n (i := 1) d_L_1018 rfl rfl ?_
  refine l_arg (j := 1) hS (by rfl) d_L_1019 d_L_1020 d_L_1021 d_L_1022 d_L_1023 (by omega) hn ?_
  refine l_V (as := [.inl (xs (i + 1))]) cs_L_122 rfl (hW.1 0 (by decide)) rfl (Nat.le_of_ble_eq_true rfl) (Nat.le_of_ble_eq_true rfl) d_L_1024 (c_Bs_fails hW.1 _ δ _ e1x) NF.lw un_LNF (us_nil) rfl rfl (by omega) (by omega) rfl rfl ?_
  refine l_aload_n (i := 2) d_L_1027 rfl rfl ?_
  refine l_arg (j := 1) hS (by rfl) d_L_1028 d_L_1029 d_L_1030 d_L_1031 d_L_1032 (by omega) hn ?_
  refine l_V (as := [.inl (xs (i + 1))]) cs_L_125 rfl hW.2.1 rfl (Nat.le_of_ble_eq_true rfl) (Nat.le_of_ble_eq_true rfl) d_L_1033 (c_M_fails hW.2.1 _ δ _ e2x) NF.lw un_LNF (us_i us_nil) rfl rfl (by omega) (by omega) rfl rfl ?_
  exact l_cmp_eq (tgt := 1414) d_L_1036 (by decide) (fun _ => kk _ _ _ _ (by omega) (by omega) (gw_same hW hq) hI2) (fun h => absurd rfl h)
set_option maxRecDepth 40000 in
set_option maxHeartbeats 1000000 in
theorem lc_27 {i n t : Nat} {xs : Nat → Int32} (hS : XSc (p, l, e, s, m, args, below, meth, c, D, K, μ0, Q) n xs) (hi : i + 5 < n) (hn : n ≤ 3072) (ht : t < 512) (hk : kb ≤ 1000 + 2 * t) (hsb : sb ≤ 10000 + 34 * t) {I : Dl → Prop} (hRX : ∀ δ, I δ → RX δ) (hW : GW Γ δ) (hI : I δ) (hst : S2 I (F_Bs_least (xs (i + 1))) (F_M_least (xs (i + 1))))
    (kk : LK I (p, l, e, s, m, args, below, meth, c, D, K, μ0, Q) i (t + 1)) : XL (p, l, e, s, m, args, below, meth, c, D, K, μ0, Q) 1041 (LLs i) [] kb sb Γ δ := by
  obtain ⟨v, δ1, δ2, e1, e2, hI2, hq⟩ := hst δ hI
  refine l_aload_n (i := 1) d_L_1041 rfl rfl ?_
  refine l_arg (j := 1) hS (by rfl) d_L_1042 d_L_1043 d_L_1044 d_L_1045 d_L_1046 (by omega) hn ?_
  refine l_V (as := [.inl (xs (i + 1))]) cs_L_126 rfl (hW.1 0 (by decide)) rfl (Nat.le_of_ble_eq_true rfl) (Nat.le_of_ble_eq_true rfl) d_L_1047 (c_Bs_least hW.1 _ δ _ e1) NF.lw un_LNF (us_nil) rfl rfl (by omega) (by omega) rfl rfl ?_
  refine l_aload_n (i := 2) d_L_1050 rfl rfl ?_
  refine l_arg (j := 1) hS (by rfl) d_L_1051 d_L_1052 d_L_1053 d_L_1054 d_L_1055 (by omega) hn ?_
  refine l_V (as := [.inl (xs (i + 1))]) cs_L_129 rfl hW.2.1 rfl (Nat.le_of_ble_eq_true rfl) (Nat.le_of_ble_eq_true rfl) d_L_1056 (c_M_least hW.2.1 _ δ1 _ e2) NF.lw un_LNF (us_i us_nil) rfl rfl (by omega) (by omega) rfl rfl ?_
  exact l_cmp_eq (tgt := 1414) d_L_1059 (by decide) (fun _ => kk _ _ _ _ (by omega) (by omega) (gw_same hW hq) hI2) (fun h => absurd rfl h)
set_option maxRecDepth 40000 in
set_option maxHeartbeats 1000000 in
theorem lc_28 {i n t : Nat} {xs : Nat → Int32} (hS : XSc (p, l, e, s, m, args, below, meth, c, D, K, μ0, Q) n xs) (hi : i + 5 < n) (hn : n ≤ 3072) (ht : t < 512) (hk : kb ≤ 1000 + 2 * t) (hsb : sb ≤ 10000 + 34 * t) {I : Dl → Prop} (hRX : ∀ δ, I δ → RX δ) (hW : GW Γ δ) (hI : I δ) (hst : S2 I (Rd (F_Bs_hint (xs (i + 1)) (xs (i + 2)))) (Rd (F_M_hint (xs (i + 1)) (xs (i + 2)))))
    (kk : LK I (p, l, e, s, m, args, below, meth, c, D, K, μ0, Q) i (t + 1)) : XL (p, l, e, s, m, args, below, meth, c, D, K, μ0, Q) 1064 (LLs i) [] kb sb Γ δ := by
  obtain ⟨v, δ1, δ2, e1, e2, hI2, hq⟩ := hst δ hI
  obtain ⟨e2x, rfl⟩ := rd_e e2
  obtain ⟨e1x, rfl⟩ := rd_e e1
  refine l_aload_n (i := 1) d_L_1064 rfl rfl ?_
  refine l_arg (j := 1) hS (by rfl) d_L_1065 d_L_1066 d_L_1067 d_L_1068 d_L_1069 (by omega) hn ?_
  refine l_arg (j := 2) hS (by rfl) d_L_1070 d_L_1071 d_L_1072 d_L_1073 d_L_1074 (by omega) hn ?_
  refine l_V (as := [.inl (xs (i + 1)), .inl (xs (i + 2))]) cs_L_130 rfl (hW.1 0 (by decide)) rfl (Nat.le_of_ble_eq_true rfl) (Nat.le_of_ble_eq_true rfl) d_L_1075 (c_Bs_hint hW.1 _ _ δ _ e1x) NF.lw un_LNF (us_nil) rfl rfl (by omega) (by omega) rfl rfl ?_
  refine l_aload_n (i := 2) d_L_1078 rfl rfl ?_
  refine l_arg (j := 1) hS (by rfl) d_L_1079 d_L_1080 d_L_1081 d_L_1082 d_L_1083 (by omega) hn ?_
  refine l_arg (j := 2) hS (by rfl) d_L_1084 d_L_1085 d_L_1086 d_L_1087 d_L_1088 (by omega) hn ?_
  refine l_V (as := [.inl (xs (i + 1)), .inl (xs (i + 2))]) cs_L_133 rfl hW.2.1 rfl (Nat.le_of_ble_eq_true rfl) (Nat.le_of_ble_eq_true rfl) d_L_1089 (c_M_hint hW.2.1 _ _ δ _ e2x) NF.lw un_LNF (us_i us_nil) rfl rfl (by omega) (by omega) rfl rfl ?_
  exact l_cmp_eq (tgt := 1414) d_L_1092 (by decide) (fun _ => kk _ _ _ _ (by omega) (by omega) (gw_same hW hq) hI2) (fun h => absurd rfl h)
set_option maxRecDepth 40000 in
set_option maxHeartbeats 1000000 in
theorem lc_29 {i n t : Nat} {xs : Nat → Int32} (hS : XSc (p, l, e, s, m, args, below, meth, c, D, K, μ0, Q) n xs) (hi : i + 5 < n) (hn : n ≤ 3072) (ht : t < 512) (hk : kb ≤ 1000 + 2 * t) (hsb : sb ≤ 10000 + 34 * t) {I : Dl → Prop} (hRX : ∀ δ, I δ → RX δ) (hW : GW Γ δ) (hI : I δ) (hst : S2 I (F_Bs_write (xs (i + 1))) (F_M_write (xs (i + 1))))
    (kk : LK I (p, l, e, s, m, args, below, meth, c, D, K, μ0, Q) i (t + 1)) : XL (p, l, e, s, m, args, below, meth, c, D, K, μ0, Q) 1097 (LLs i) [] kb sb Γ δ := by
  obtain ⟨v, δ1, δ2, e1, e2, hI2, hq⟩ := hst δ hI
  refine l_aload_n (i := 1) d_L_1097 rfl rfl ?_
  refine l_arg (j := 1) hS (by rfl) d_L_1098 d_L_1099 d_L_1100 d_L_1101 d_L_1102 (by omega) hn ?_
  refine l_V (as := [.inl (xs (i + 1))]) cs_L_134 rfl (hW.1 0 (by decide)) rfl (Nat.le_of_ble_eq_true rfl) (Nat.le_of_ble_eq_true rfl) d_L_1103 (c_Bs_write hW.1 _ δ _ e1) NF.lw un_LNF (us_nil) rfl rfl (by omega) (by omega) rfl rfl ?_
  refine l_aload_n (i := 2) d_L_1106 rfl rfl ?_
  refine l_arg (j := 1) hS (by rfl) d_L_1107 d_L_1108 d_L_1109 d_L_1110 d_L_1111 (by omega) hn ?_
  refine l_V (as := [.inl (xs (i + 1))]) cs_L_137 rfl hW.2.1 rfl (Nat.le_of_ble_eq_true rfl) (Nat.le_of_ble_eq_true rfl) d_L_1112 (c_M_write hW.2.1 _ δ1 _ e2) NF.lw un_LNF (us_i us_nil) rfl rfl (by omega) (by omega) rfl rfl ?_
  exact l_cmp_eq (tgt := 1414) d_L_1115 (by decide) (fun _ => kk _ _ _ _ (by omega) (by omega) (gw_same hW hq) hI2) (fun h => absurd rfl h)
set_option maxRecDepth 40000 in
set_option maxHeartbeats 1000000 in
theorem lc_30 {i n t : Nat} {xs : Nat → Int32} (hS : XSc (p, l, e, s, m, args, below, meth, c, D, K, μ0, Q) n xs) (hi : i + 5 < n) (hn : n ≤ 3072) (ht : t < 512) (hk : kb ≤ 1000 + 2 * t) (hsb : sb ≤ 10000 + 34 * t) {I : Dl → Prop} (hRX : ∀ δ, I δ → RX δ) (hW : GW Γ δ) (hI : I δ) (hst : S2 I (Rd (F_Bs_text (xs (i + 1)))) (Rd (F_M_text (xs (i + 1)))))
    (kk : LK I (p, l, e, s, m, args, below, meth, c, D, K, μ0, Q) i (t + 1)) : XL (p, l, e, s, m, args, below, meth, c, D, K, μ0, Q) 1120 (LLs i) [] kb sb Γ δ := by
  obtain ⟨v, δ1, δ2, e1, e2, hI2, hq⟩ := hst δ hI
  obtain ⟨e2x, rfl⟩ := rd_e e2
  obtain ⟨e1x, rfl⟩ := rd_e e1
  refine l_aload_n (i := 1) d_L_1120 rfl rfl ?_
  refine l_arg (j := 1) hS (by rfl) d_L_1121 d_L_1122 d_L_1123 d_L_1124 d_L_1125 (by omega) hn ?_
  refine l_V (as := [.inl (xs (i + 1))]) cs_L_138 rfl (hW.1 0 (by decide)) rfl (Nat.le_of_ble_eq_true rfl) (Nat.le_of_ble_eq_true rfl) d_L_1126 (c_Bs_text hW.1 _ δ _ e1x) NF.lw un_LNF (us_nil) rfl rfl (by omega) (by omega) rfl rfl ?_
  refine l_aload_n (i := 2) d_L_1129 rfl rfl ?_
  refine l_arg (j := 1) hS (by rfl) d_L_1130 d_L_1131 d_L_1132 d_L_1133 d_L_1134 (by omega) hn ?_
  refine l_V (as := [.inl (xs (i + 1))]) cs_L_141 rfl hW.2.1 rfl (Nat.le_of_ble_eq_true rfl) (Nat.le_of_ble_eq_true rfl) d_L_1135 (c_M_text hW.2.1 _ δ _ e2x) NF.lw un_LNF (us_i us_nil) rfl rfl (by omega) (by omega) rfl rfl ?_
  exact l_cmp_eq (tgt := 1414) d_L_1138 (by decide) (fun _ => kk _ _ _ _ (by omega) (by omega) (gw_same hW hq) hI2) (fun h => absurd rfl h)
set_option maxRecDepth 40000 in
set_option maxHeartbeats 1000000 in
theorem lc_31 {i n t : Nat} {xs : Nat → Int32} (hS : XSc (p, l, e, s, m, args, below, meth, c, D, K, μ0, Q) n xs) (hi : i + 5 < n) (hn : n ≤ 3072) (ht : t < 512) (hk : kb ≤ 1000 + 2 * t) (hsb : sb ≤ 10000 + 34 * t) {I : Dl → Prop} (hRX : ∀ δ, I δ → RX δ) (hW : GW Γ δ) (hI : I δ) (hst : SAct I (xs (i + 1)) (xs (i + 2)) (xs (i + 3)))
    (kk : LK I (p, l, e, s, m, args, below, meth, c, D, K, μ0, Q) i (t + 1)) : XL (p, l, e, s, m, args, below, meth, c, D, K, μ0, Q) 1143 (LLs i) [] kb sb Γ δ := by
  obtain ⟨v, q, δ1, δ2, e1, e2, hI2, hq⟩ := hst δ hI
  refine l_aload_n (i := 1) d_L_1143 rfl rfl ?_
  refine l_arg (j := 1) hS (by rfl) d_L_1144 d_L_1145 d_L_1146 d_L_1147 d_L_1148 (by omega) hn ?_
  refine l_arg (j := 2) hS (by rfl) d_L_1149 d_L_1150 d_L_1151 d_L_1152 d_L_1153 (by omega) hn ?_
  refine l_arg (j := 3) hS (by rfl) d_L_1154 d_L_1155 d_L_1156 d_L_1157 d_L_1158 (by omega) hn ?_
  refine l_V (as := [.inl (xs (i + 1)), .inl (xs (i + 2)), .inl (xs (i + 3))]) cs_L_142 rfl (hW.1 0 (by decide)) rfl (Nat.le_of_ble_eq_true rfl) (Nat.le_of_ble_eq_true rfl) d_L_1159 (c_Bs_act hW.1 _ _ _ δ (hRX δ hI) _ e1) NFm.lw un_LNm (us_nil) rfl rfl (by omega) (by omega) rfl rfl ?_
  have hW2 := gw_act hW hq
  refine l_aload_n (i := 2) d_L_1162 rfl rfl ?_
  refine l_arg (j := 1) hS (by rfl) d_L_1163 d_L_1164 d_L_1165 d_L_1166 d_L_1167 (by omega) hn ?_
  refine l_arg (j := 2) hS (by rfl) d_L_1168 d_L_1169 d_L_1170 d_L_1171 d_L_1172 (by omega) hn ?_
  refine l_arg (j := 3) hS (by rfl) d_L_1173 d_L_1174 d_L_1175 d_L_1176 d_L_1177 (by omega) hn ?_
  refine l_V (as := [.inl (xs (i + 1)), .inl (xs (i + 2)), .inl (xs (i + 3))]) cs_L_145 rfl hW2.2.1 rfl (Nat.le_of_ble_eq_true rfl) (Nat.le_of_ble_eq_true rfl) d_L_1178 (c_M_act hW2.2.1 _ _ _ δ1 _ e2) NF.lw un_LNF (us_i us_nil) rfl rfl (by omega) (by omega) rfl rfl ?_
  exact l_cmp_eq (tgt := 1414) d_L_1181 (by decide) (fun _ => kk _ _ _ δ2 (by omega) (by omega) hW2 hI2) (fun h => absurd rfl h)
set_option maxRecDepth 40000 in
set_option maxHeartbeats 1000000 in
theorem lc_32 {i n t : Nat} {xs : Nat → Int32} (hS : XSc (p, l, e, s, m, args, below, meth, c, D, K, μ0, Q) n xs) (hi : i + 5 < n) (hn : n ≤ 3072) (ht : t < 512) (hk : kb ≤ 1000 + 2 * t) (hsb : sb ≤ 10000 + 34 * t) {I : Dl → Prop} (hRX : ∀ δ, I δ → RX δ) (hW : GW Γ δ) (hI : I δ) (hst : S2 I (Rd (F_Bs_trace (xs (i + 1)))) (Rd (F_M_trace (xs (i + 1)))))
    (kk : LK I (p, l, e, s, m, args, below, meth, c, D, K, μ0, Q) i (t + 1)) : XL (p, l, e, s, m, args, below, meth, c, D, K, μ0, Q) 1186 (LLs i) [] kb sb Γ δ := by
  obtain ⟨v, δ1, δ2, e1, e2, hI2, hq⟩ := hst δ hI
  obtain ⟨e2x, rfl⟩ := rd_e e2
  obtain ⟨e1x, rfl⟩ := rd_e e1
  refine l_aload_n (i := 1) d_L_1186 rfl rfl ?_
  refine l_arg (j := 1) hS (by rfl) d_L_1187 d_L_1188 d_L_1189 d_L_1190 d_L_1191 (by omega) hn ?_
  refine l_V (as := [.inl (xs (i + 1))]) cs_L_146 rfl (hW.1 0 (by decide)) rfl (Nat.le_of_ble_eq_true rfl) (Nat.le_of_ble_eq_true rfl) d_L_1192 (c_Bs_trace hW.1 _ δ hW.2.2 _ e1x) NF.lw un_LNF (us_nil) rfl rfl (by omega) (by omega) rfl rfl ?_
  refine l_aload_n (i := 2) d_L_1195 rfl rfl ?_
  refine l_arg (j := 1) hS (by rfl) d_L_1196 d_L_1197 d_L_1198 d_L_1199 d_L_1200 (by omega) hn ?_
  refine l_V (as := [.inl (xs (i + 1))]) cs_L_149 rfl hW.2.1 rfl (Nat.le_of_ble_eq_true rfl) (Nat.le_of_ble_eq_true rfl) d_L_1201 (c_M_trace hW.2.1 _ δ _ e2x) NF.lw un_LNF (us_i us_nil) rfl rfl (by omega) (by omega) rfl rfl ?_
  exact l_cmp_eq (tgt := 1414) d_L_1204 (by decide) (fun _ => kk _ _ _ _ (by omega) (by omega) (gw_same hW hq) hI2) (fun h => absurd rfl h)
set_option maxRecDepth 40000 in
set_option maxHeartbeats 1000000 in
theorem lc_33 {i n t : Nat} {xs : Nat → Int32} (hS : XSc (p, l, e, s, m, args, below, meth, c, D, K, μ0, Q) n xs) (hi : i + 5 < n) (hn : n ≤ 3072) (ht : t < 512) (hk : kb ≤ 1000 + 2 * t) (hsb : sb ≤ 10000 + 34 * t) {I : Dl → Prop} (hRX : ∀ δ, I δ → RX δ) (hW : GW Γ δ) (hI : I δ) (hst : S2 I (Rd (F_Bs_taken (xs (i + 1)) (xs (i + 2)))) (Rd (F_M_taken (xs (i + 1)) (xs (i + 2)))))
    (kk : LK I (p, l, e, s, m, args, below, meth, c, D, K, μ0, Q) i (t + 1)) : XL (p, l, e, s, m, args, below, meth, c, D, K, μ0, Q) 1209 (LLs i) [] kb sb Γ δ := by
  obtain ⟨v, δ1, δ2, e1, e2, hI2, hq⟩ := hst δ hI
  obtain ⟨e2x, rfl⟩ := rd_e e2
  obtain ⟨e1x, rfl⟩ := rd_e e1
  refine l_aload_n (i := 1) d_L_1209 rfl rfl ?_
  refine l_arg (j := 1) hS (by rfl) d_L_1210 d_L_1211 d_L_1212 d_L_1213 d_L_1214 (by omega) hn ?_
  refine l_arg (j := 2) hS (by rfl) d_L_1215 d_L_1216 d_L_1217 d_L_1218 d_L_1219 (by omega) hn ?_
  refine l_V (as := [.inl (xs (i + 1)), .inl (xs (i + 2))]) cs_L_150 rfl (hW.1 0 (by decide)) rfl (Nat.le_of_ble_eq_true rfl) (Nat.le_of_ble_eq_true rfl) d_L_1220 (c_Bs_taken hW.1 _ _ δ _ e1x) NF.lw un_LNF (us_nil) rfl rfl (by omega) (by omega) rfl rfl ?_
  refine l_aload_n (i := 2) d_L_1223 rfl rfl ?_
  refine l_arg (j := 1) hS (by rfl) d_L_1224 d_L_1225 d_L_1226 d_L_1227 d_L_1228 (by omega) hn ?_
  refine l_arg (j := 2) hS (by rfl) d_L_1229 d_L_1230 d_L_1231 d_L_1232 d_L_1233 (by omega) hn ?_
  refine l_V (as := [.inl (xs (i + 1)), .inl (xs (i + 2))]) cs_L_153 rfl hW.2.1 rfl (Nat.le_of_ble_eq_true rfl) (Nat.le_of_ble_eq_true rfl) d_L_1234 (c_M_taken hW.2.1 _ _ δ _ e2x) NF.lw un_LNF (us_i us_nil) rfl rfl (by omega) (by omega) rfl rfl ?_
  exact l_cmp_eq (tgt := 1414) d_L_1237 (by decide) (fun _ => kk _ _ _ _ (by omega) (by omega) (gw_same hW hq) hI2) (fun h => absurd rfl h)
set_option maxRecDepth 40000 in
set_option maxHeartbeats 1000000 in
theorem lc_34 {i n t : Nat} {xs : Nat → Int32} (hS : XSc (p, l, e, s, m, args, below, meth, c, D, K, μ0, Q) n xs) (hi : i + 5 < n) (hn : n ≤ 3072) (ht : t < 512) (hk : kb ≤ 1000 + 2 * t) (hsb : sb ≤ 10000 + 34 * t) {I : Dl → Prop} (hRX : ∀ δ, I δ → RX δ) (hW : GW Γ δ) (hI : I δ) (hst : S2 I (Rd (F_Bs_count (xs (i + 1)))) (F_M_count (xs (i + 1))))
    (kk : LK I (p, l, e, s, m, args, below, meth, c, D, K, μ0, Q) i (t + 1)) : XL (p, l, e, s, m, args, below, meth, c, D, K, μ0, Q) 1242 (LLs i) [] kb sb Γ δ := by
  obtain ⟨v, δ1, δ2, e1, e2, hI2, hq⟩ := hst δ hI
  obtain ⟨e1x, rfl⟩ := rd_e e1
  refine l_aload_n (i := 1) d_L_1242 rfl rfl ?_
  refine l_arg (j := 1) hS (by rfl) d_L_1243 d_L_1244 d_L_1245 d_L_1246 d_L_1247 (by omega) hn ?_
  refine l_V (as := [.inl (xs (i + 1))]) cs_L_154 rfl (hW.1 0 (by decide)) rfl (Nat.le_of_ble_eq_true rfl) (Nat.le_of_ble_eq_true rfl) d_L_1248 (c_Bs_count hW.1 _ δ hW.2.2 _ e1x) NF.lw un_LNF (us_nil) rfl rfl (by omega) (by omega) rfl rfl ?_
  refine l_aload_n (i := 2) d_L_1251 rfl rfl ?_
  refine l_arg (j := 1) hS (by rfl) d_L_1252 d_L_1253 d_L_1254 d_L_1255 d_L_1256 (by omega) hn ?_
  refine l_V (as := [.inl (xs (i + 1))]) cs_L_157 rfl hW.2.1 rfl (Nat.le_of_ble_eq_true rfl) (Nat.le_of_ble_eq_true rfl) d_L_1257 (c_M_count hW.2.1 _ δ _ e2) NF.lw un_LNF (us_i us_nil) rfl rfl (by omega) (by omega) rfl rfl ?_
  exact l_cmp_eq (tgt := 1414) d_L_1260 (by decide) (fun _ => kk _ _ _ _ (by omega) (by omega) (gw_same hW hq) hI2) (fun h => absurd rfl h)
set_option maxRecDepth 40000 in
set_option maxHeartbeats 1000000 in
theorem lc_35 {i n t : Nat} {xs : Nat → Int32} (hS : XSc (p, l, e, s, m, args, below, meth, c, D, K, μ0, Q) n xs) (hi : i + 5 < n) (hn : n ≤ 3072) (ht : t < 512) (hk : kb ≤ 1000 + 2 * t) (hsb : sb ≤ 10000 + 34 * t) {I : Dl → Prop} (hRX : ∀ δ, I δ → RX δ) (hW : GW Γ δ) (hI : I δ) (hst : S2 I (F_Bs_sheet (xs (i + 1)) (xs (i + 2)) (xs (i + 3))) (F_M_sheet (xs (i + 1)) (xs (i + 2)) (xs (i + 3))))
    (kk : LK I (p, l, e, s, m, args, below, meth, c, D, K, μ0, Q) i (t + 1)) : XL (p, l, e, s, m, args, below, meth, c, D, K, μ0, Q) 1265 (LLs i) [] kb sb Γ δ := by
  obtain ⟨v, δ1, δ2, e1, e2, hI2, hq⟩ := hst δ hI
  refine l_aload_n (i := 1) d_L_1265 rfl rfl ?_
  refine l_arg (j := 1) hS (by rfl) d_L_1266 d_L_1267 d_L_1268 d_L_1269 d_L_1270 (by omega) hn ?_
  refine l_arg (j := 2) hS (by rfl) d_L_1271 d_L_1272 d_L_1273 d_L_1274 d_L_1275 (by omega) hn ?_
  refine l_arg (j := 3) hS (by rfl) d_L_1276 d_L_1277 d_L_1278 d_L_1279 d_L_1280 (by omega) hn ?_
  refine l_V (as := [.inl (xs (i + 1)), .inl (xs (i + 2)), .inl (xs (i + 3))]) cs_L_158 rfl (hW.1 0 (by decide)) rfl (Nat.le_of_ble_eq_true rfl) (Nat.le_of_ble_eq_true rfl) d_L_1281 (c_Bs_sheet hW.1 _ _ _ δ _ e1) NF.lw un_LNF (us_nil) rfl rfl (by omega) (by omega) rfl rfl ?_
  refine l_aload_n (i := 2) d_L_1284 rfl rfl ?_
  refine l_arg (j := 1) hS (by rfl) d_L_1285 d_L_1286 d_L_1287 d_L_1288 d_L_1289 (by omega) hn ?_
  refine l_arg (j := 2) hS (by rfl) d_L_1290 d_L_1291 d_L_1292 d_L_1293 d_L_1294 (by omega) hn ?_
  refine l_arg (j := 3) hS (by rfl) d_L_1295 d_L_1296 d_L_1297 d_L_1298 d_L_1299 (by omega) hn ?_
  refine l_V (as := [.inl (xs (i + 1)), .inl (xs (i + 2)), .inl (xs (i + 3))]) cs_L_161 rfl hW.2.1 rfl (Nat.le_of_ble_eq_true rfl) (Nat.le_of_ble_eq_true rfl) d_L_1300 (c_M_sheet hW.2.1 _ _ _ δ1 _ e2) NF.lw un_LNF (us_i us_nil) rfl rfl (by omega) (by omega) rfl rfl ?_
  exact l_cmp_eq (tgt := 1414) d_L_1303 (by decide) (fun _ => kk _ _ _ _ (by omega) (by omega) (gw_same hW hq) hI2) (fun h => absurd rfl h)
set_option maxRecDepth 40000 in
set_option maxHeartbeats 1000000 in
theorem lc_36 {i n t : Nat} {xs : Nat → Int32} (hS : XSc (p, l, e, s, m, args, below, meth, c, D, K, μ0, Q) n xs) (hi : i + 5 < n) (hn : n ≤ 3072) (ht : t < 512) (hk : kb ≤ 1000 + 2 * t) (hsb : sb ≤ 10000 + 34 * t) {I : Dl → Prop} (hRX : ∀ δ, I δ → RX δ) (hW : GW Γ δ) (hI : I δ) (hst : S2 I (F_Bs_cell (xs (i + 1)) (xs (i + 2)) (xs (i + 3))) (F_M_cell (xs (i + 1)) (xs (i + 2)) (xs (i + 3))))
    (kk : LK I (p, l, e, s, m, args, below, meth, c, D, K, μ0, Q) i (t + 1)) : XL (p, l, e, s, m, args, below, meth, c, D, K, μ0, Q) 1308 (LLs i) [] kb sb Γ δ := by
  obtain ⟨v, δ1, δ2, e1, e2, hI2, hq⟩ := hst δ hI
  refine l_aload_n (i := 1) d_L_1308 rfl rfl ?_
  refine l_arg (j := 1) hS (by rfl) d_L_1309 d_L_1310 d_L_1311 d_L_1312 d_L_1313 (by omega) hn ?_
  refine l_arg (j := 2) hS (by rfl) d_L_1314 d_L_1315 d_L_1316 d_L_1317 d_L_1318 (by omega) hn ?_
  refine l_arg (j := 3) hS (by rfl) d_L_1319 d_L_1320 d_L_1321 d_L_1322 d_L_1323 (by omega) hn ?_
  refine l_V (as := [.inl (xs (i + 1)), .inl (xs (i + 2)), .inl (xs (i + 3))]) cs_L_162 rfl (hW.1 0 (by decide)) rfl (Nat.le_of_ble_eq_true rfl) (Nat.le_of_ble_eq_true rfl) d_L_1324 (c_Bs_cell hW.1 _ _ _ δ _ e1) NF.lw un_LNF (us_nil) rfl rfl (by omega) (by omega) rfl rfl ?_
  refine l_aload_n (i := 2) d_L_1327 rfl rfl ?_
  refine l_arg (j := 1) hS (by rfl) d_L_1328 d_L_1329 d_L_1330 d_L_1331 d_L_1332 (by omega) hn ?_
  refine l_arg (j := 2) hS (by rfl) d_L_1333 d_L_1334 d_L_1335 d_L_1336 d_L_1337 (by omega) hn ?_
  refine l_arg (j := 3) hS (by rfl) d_L_1338 d_L_1339 d_L_1340 d_L_1341 d_L_1342 (by omega) hn ?_
  refine l_V (as := [.inl (xs (i + 1)), .inl (xs (i + 2)), .inl (xs (i + 3))]) cs_L_165 rfl hW.2.1 rfl (Nat.le_of_ble_eq_true rfl) (Nat.le_of_ble_eq_true rfl) d_L_1343 (c_M_cell hW.2.1 _ _ _ δ1 _ e2) NF.lw un_LNF (us_i us_nil) rfl rfl (by omega) (by omega) rfl rfl ?_
  exact l_cmp_eq (tgt := 1414) d_L_1346 (by decide) (fun _ => kk _ _ _ _ (by omega) (by omega) (gw_same hW hq) hI2) (fun h => absurd rfl h)
set_option maxRecDepth 40000 in
set_option maxHeartbeats 1000000 in
theorem lc_37 {i n t : Nat} {xs : Nat → Int32} (hS : XSc (p, l, e, s, m, args, below, meth, c, D, K, μ0, Q) n xs) (hi : i + 5 < n) (hn : n ≤ 3072) (ht : t < 512) (hk : kb ≤ 1000 + 2 * t) (hsb : sb ≤ 10000 + 34 * t) {I : Dl → Prop} (hRX : ∀ δ, I δ → RX δ) (hW : GW Γ δ) (hI : I δ) (hst : S2 I (F_Bs_copy (xs (i + 1)) (xs (i + 2)) (xs (i + 3)) (xs (i + 4)) (xs (i + 5))) (F_M_copy (xs (i + 1)) (xs (i + 2)) (xs (i + 3)) (xs (i + 4)) (xs (i + 5))))
    (kk : LK I (p, l, e, s, m, args, below, meth, c, D, K, μ0, Q) i (t + 1)) : XL (p, l, e, s, m, args, below, meth, c, D, K, μ0, Q) 1351 (LLs i) [] kb sb Γ δ := by
  obtain ⟨v, δ1, δ2, e1, e2, hI2, hq⟩ := hst δ hI
  refine l_aload_n (i := 1) d_L_1351 rfl rfl ?_
  refine l_arg (j := 1) hS (by rfl) d_L_1352 d_L_1353 d_L_1354 d_L_1355 d_L_1356 (by omega) hn ?_
  refine l_arg (j := 2) hS (by rfl) d_L_1357 d_L_1358 d_L_1359 d_L_1360 d_L_1361 (by omega) hn ?_
  refine l_arg (j := 3) hS (by rfl) d_L_1362 d_L_1363 d_L_1364 d_L_1365 d_L_1366 (by omega) hn ?_
  refine l_arg (j := 4) hS (by rfl) d_L_1367 d_L_1368 d_L_1369 d_L_1370 d_L_1371 (by omega) hn ?_
  refine l_arg (j := 5) hS (by rfl) d_L_1372 d_L_1373 d_L_1374 d_L_1375 d_L_1376 (by omega) hn ?_
  refine l_V (as := [.inl (xs (i + 1)), .inl (xs (i + 2)), .inl (xs (i + 3)), .inl (xs (i + 4)), .inl (xs (i + 5))]) cs_L_166 rfl (hW.1 0 (by decide)) rfl (Nat.le_of_ble_eq_true rfl) (Nat.le_of_ble_eq_true rfl) d_L_1377 (c_Bs_copy hW.1 _ _ _ _ _ δ _ e1) NF.lw un_LNF (us_nil) rfl rfl (by omega) (by omega) rfl rfl ?_
  refine l_aload_n (i := 2) d_L_1380 rfl rfl ?_
  refine l_arg (j := 1) hS (by rfl) d_L_1381 d_L_1382 d_L_1383 d_L_1384 d_L_1385 (by omega) hn ?_
  refine l_arg (j := 2) hS (by rfl) d_L_1386 d_L_1387 d_L_1388 d_L_1389 d_L_1390 (by omega) hn ?_
  refine l_arg (j := 3) hS (by rfl) d_L_1391 d_L_1392 d_L_1393 d_L_1394 d_L_1395 (by omega) hn ?_
  refine l_arg (j := 4) hS (by rfl) d_L_1396 d_L_1397 d_L_1398 d_L_1399 d_L_1400 (by omega) hn ?_
  refine l_arg (j := 5) hS (by rfl) d_L_1401 d_L_1402 d_L_1403 d_L_1404 d_L_1405 (by omega) hn ?_
  refine l_V (as := [.inl (xs (i + 1)), .inl (xs (i + 2)), .inl (xs (i + 3)), .inl (xs (i + 4)), .inl (xs (i + 5))]) cs_L_170 rfl hW.2.1 rfl (Nat.le_of_ble_eq_true rfl) (Nat.le_of_ble_eq_true rfl) d_L_1406 (c_M_copy hW.2.1 _ _ _ _ _ δ1 _ e2) NF.lw un_LNF (us_i us_nil) rfl rfl (by omega) (by omega) rfl rfl ?_
  exact l_cmp_eq (tgt := 1414) d_L_1409 (by decide) (fun _ => kk _ _ _ _ (by omega) (by omega) (gw_same hW hq) hI2) (fun h => absurd rfl h)
end XLw
/-- what the pure side owes: call by call, both answer alike and the invariant holds behind -/
def LSteps (I : Dl → Prop) : Prop :=
  (∀ x1 x2 : Int32, S2 I (F_Bs_stage x1 x2) (F_M_stage x1 x2)) ∧
  (∀ x1 x2 x3 : Int32, S2 I (F_Bs_wall x1 x2 x3) (F_M_wall x1 x2 x3)) ∧
  (∀ x1 x2 x3 : Int32, S2 I (F_Bs_things x1 x2 x3) (F_M_things x1 x2 x3)) ∧
  (∀ x1 x2 x3 : Int32, S2 I (F_Bs_actor x1 x2 x3) (F_M_actor x1 x2 x3)) ∧
  (∀ x1 x2 x3 : Int32, S2 I (F_Bs_lay x1 x2 x3) (F_M_lay x1 x2 x3)) ∧
  (S2 I (F_Bs_keep) (F_M_keep)) ∧
  (∀ x1 : Int32, S2 I (F_Bs_use x1) (F_M_use x1)) ∧
  (∀ x1 x2 : Int32, S2 I (F_Bs_block x1 x2) (F_M_block x1 x2)) ∧
  (∀ x1 x2 x3 : Int32, S2 I (F_Bs_join x1 x2 x3) (F_M_join x1 x2 x3)) ∧
  (∀ x1 : Int32, S2 I (F_Bs_take x1) (F_M_take x1)) ∧
  (∀ x1 x2 : Int32, S2 I (F_Bs_number x1 x2) (F_M_number x1 x2)) ∧
  (∀ x1 x2 x3 x4 : Int32, S2 I (F_Bs_cue x1 x2 x3 x4) (F_M_cue x1 x2 x3 x4)) ∧
  (∀ x1 x2 : Int32, S2 I (F_Bs_top x1 x2) (F_M_top x1 x2)) ∧
  (∀ x1 x2 : Int32, S2 I (Rd (F_Bs_look x1 x2)) (F_M_look x1 x2)) ∧
  (∀ x1 x2 : Int32, S2 I (Rd (F_Bs_hole x1 x2)) (Rd (F_M_hole x1 x2))) ∧
  (∀ x1 x2 : Int32, S2 I (Rd (F_Bs_of x1 x2)) (Rd (F_M_of x1 x2))) ∧
  (∀ x1 x2 : Int32, S2 I (Rd (F_Bs_scriptOf x1 x2)) (F_M_scriptOf x1 x2)) ∧
  (S2 I (F_Bs_flag) (Tt (F_M_flag))) ∧
  (∀ x1 : Int32, S2 I (F_Bs_tick x1) (Tt (F_M_tick x1))) ∧
  (∀ x1 : Int32, S2 I (F_Bs_back x1) (Tt (F_M_back x1))) ∧
  (∀ x1 x2 : Int32, S2 I (Rd (F_Bs_who x1 x2)) (F_M_who x1 x2)) ∧
  (∀ x1 x2 : Int32, S2 I (Rd (F_Bs_item x1 x2)) (F_M_item x1 x2)) ∧
  (∀ x1 x2 : Int32, S2 I (Rd (F_Bs_said x1 x2)) (F_M_said x1 x2)) ∧
  (∀ x1 x2 : Int32, S2 I (F_Bs_feed x1 x2) (F_M_feed x1 x2)) ∧
  (S2 I (F_Bs_wish) (F_M_wish)) ∧
  (∀ x1 : Int32, S2 I (F_Bs_mark x1) (F_M_mark x1)) ∧
  (∀ x1 : Int32, S2 I (Rt (F_Bs_fails x1)) (Rt (F_M_fails x1))) ∧
  (∀ x1 : Int32, S2 I (F_Bs_least x1) (F_M_least x1)) ∧
  (∀ x1 x2 : Int32, S2 I (Rd (F_Bs_hint x1 x2)) (Rd (F_M_hint x1 x2))) ∧
  (∀ x1 : Int32, S2 I (F_Bs_write x1) (F_M_write x1)) ∧
  (∀ x1 : Int32, S2 I (Rd (F_Bs_text x1)) (Rd (F_M_text x1))) ∧
  (∀ x1 x2 x3 : Int32, SAct I x1 x2 x3) ∧
  (∀ x1 : Int32, S2 I (Rd (F_Bs_trace x1)) (Rd (F_M_trace x1))) ∧
  (∀ x1 x2 : Int32, S2 I (Rd (F_Bs_taken x1 x2)) (Rd (F_M_taken x1 x2))) ∧
  (∀ x1 : Int32, S2 I (Rd (F_Bs_count x1)) (F_M_count x1)) ∧
  (∀ x1 x2 x3 : Int32, S2 I (F_Bs_sheet x1 x2 x3) (F_M_sheet x1 x2 x3)) ∧
  (∀ x1 x2 x3 : Int32, S2 I (F_Bs_cell x1 x2 x3) (F_M_cell x1 x2 x3)) ∧
  (∀ x1 x2 x3 x4 x5 : Int32, S2 I (F_Bs_copy x1 x2 x3 x4 x5) (F_M_copy x1 x2 x3 x4 x5))
