theorem lk_7499b73a : Cond.instanceMethod yX5_stroke ∈ GW := GW_of 291 (by decide +kernel) (by decide +kernel)
theorem lk_c9261137 : Cond.selects RX5 yX5_stroke yX5_stroke ∈ GW := GW_of 292 (by decide +kernel) (by decide +kernel)
theorem lk_9b868455 : Cond.code yX5_stroke cX5_stroke 1 (some .int) ∈ GW := GW_of 293 (by decide +kernel) (by decide +kernel)
theorem lk_37a4dd42 : Cond.instanceMethod yX5_emptyPress ∈ GW := GW_of 424 (by decide +kernel) (by decide +kernel)
theorem lk_243aa11c : Cond.selects RX5 yX5_emptyPress yX5_emptyPress ∈ GW := GW_of 425 (by decide +kernel) (by decide +kernel)
theorem lk_620f51d4 : Cond.code yX5_emptyPress cX5_emptyPress 2 (some .int) ∈ GW := GW_of 426 (by decide +kernel) (by decide +kernel)
theorem lk_a123ec1d : Cond.instanceMethod yX5_leastLimit ∈ GW := GW_of 498 (by decide +kernel) (by decide +kernel)
theorem lk_b8884885 : Cond.selects RX5 yX5_leastLimit yX5_leastLimit ∈ GW := GW_of 499 (by decide +kernel) (by decide +kernel)
theorem lk_d02853f7 : Cond.code yX5_leastLimit cX5_leastLimit 1 (some .int) ∈ GW := GW_of 500 (by decide +kernel) (by decide +kernel)
theorem lk_9dcedff5 : Cond.instanceMethod yX5_strokesToGood ∈ GW := GW_of 561 (by decide +kernel) (by decide +kernel)
theorem lk_79814c5f : Cond.selects RX5 yX5_strokesToGood yX5_strokesToGood ∈ GW := GW_of 562 (by decide +kernel) (by decide +kernel)
theorem lk_ccad33a5 : Cond.code yX5_strokesToGood cX5_strokesToGood 3 (some .int) ∈ GW := GW_of 563 (by decide +kernel) (by decide +kernel)
theorem lk_b76f4bd9 : Cond.instanceMethod yX5_clearCommands ∈ GW := GW_of 566 (by decide +kernel) (by decide +kernel)
theorem lk_469d2dfb : Cond.selects RX5 yX5_clearCommands yX5_clearCommands ∈ GW := GW_of 567 (by decide +kernel) (by decide +kernel)
theorem lk_e9840700 : Cond.code yX5_clearCommands cX5_clearCommands 2 (some .int) ∈ GW := GW_of 568 (by decide +kernel) (by decide +kernel)
theorem lk_9ab22249 : Cond.instanceMethod yX5_runCommands ∈ GW := GW_of 570 (by decide +kernel) (by decide +kernel)
theorem lk_d658f9a1 : Cond.selects RX5 yX5_runCommands yX5_runCommands ∈ GW := GW_of 571 (by decide +kernel) (by decide +kernel)
theorem lk_6481058b : Cond.code yX5_runCommands cX5_runCommands 3 (some .int) ∈ GW := GW_of 572 (by decide +kernel) (by decide +kernel)
theorem lk_a723f402 : Cond.instanceMethod yX5_digest ∈ GW := GW_of 777 (by decide +kernel) (by decide +kernel)
theorem lk_3cf336c4 : Cond.selects RX5 yX5_digest yX5_digest ∈ GW := GW_of 778 (by decide +kernel) (by decide +kernel)
theorem lk_4bee6b2d : Cond.code yX5_digest cX5_digest 5 (some .long) ∈ GW := GW_of 779 (by decide +kernel) (by decide +kernel)
theorem lk_0e4a22c5 : Cond.instanceMethod yX6_thrown ∈ GW := GW_of 1153 (by decide +kernel) (by decide +kernel)
theorem lk_9b3f5359 : Cond.selects RX6 yX6_thrown yX6_thrown ∈ GW := GW_of 1154 (by decide +kernel) (by decide +kernel)
theorem lk_8bbd5765 : Cond.code yX6_thrown cX6_thrown 1 (some .int) ∈ GW := GW_of 1155 (by decide +kernel) (by decide +kernel)
theorem lk_d0f84a73 : Cond.instanceMethod yX6_cellSet ∈ GW := GW_of 1157 (by decide +kernel) (by decide +kernel)
theorem lk_d02c1643 : Cond.selects RX6 yX6_cellSet yX6_cellSet ∈ GW := GW_of 1158 (by decide +kernel) (by decide +kernel)
theorem lk_0ad74d4f : Cond.code yX6_cellSet cX6_cellSet 2 (some .long) ∈ GW := GW_of 1159 (by decide +kernel) (by decide +kernel)
theorem lk_82af60d8 : Cond.instanceMethod yX6_setCarrier ∈ GW := GW_of 1240 (by decide +kernel) (by decide +kernel)
theorem lk_2137cc81 : Cond.selects RX6 yX6_setCarrier yX6_setCarrier ∈ GW := GW_of 1241 (by decide +kernel) (by decide +kernel)
theorem lk_ae8ba4e4 : Cond.code yX6_setCarrier cX6_setCarrier 3 (some .int) ∈ GW := GW_of 1242 (by decide +kernel) (by decide +kernel)
theorem lk_912f592c : Cond.instanceMethod yX6_set ∈ GW := GW_of 1244 (by decide +kernel) (by decide +kernel)
theorem lk_c36bba28 : Cond.selects RX6 yX6_set yX6_set ∈ GW := GW_of 1245 (by decide +kernel) (by decide +kernel)
theorem lk_c79416fe : Cond.code yX6_set cX6_set 4 (some .int) ∈ GW := GW_of 1246 (by decide +kernel) (by decide +kernel)
theorem lk_82496715 : Cond.instanceMethod yX6_dropOperation ∈ GW := GW_of 1267 (by decide +kernel) (by decide +kernel)
theorem lk_399be8c8 : Cond.selects RX6 yX6_dropOperation yX6_dropOperation ∈ GW := GW_of 1268 (by decide +kernel) (by decide +kernel)
theorem lk_99f28539 : Cond.code yX6_dropOperation cX6_dropOperation 7 (some .int) ∈ GW := GW_of 1269 (by decide +kernel) (by decide +kernel)
theorem lk_0e10cac3 : Cond.instanceMethod yX6_stroke ∈ GW := GW_of 1315 (by decide +kernel) (by decide +kernel)
theorem lk_a45f14ef : Cond.selects RX6 yX6_stroke yX6_stroke ∈ GW := GW_of 1316 (by decide +kernel) (by decide +kernel)
theorem lk_6899cbf0 : Cond.code yX6_stroke cX6_stroke 1 (some .int) ∈ GW := GW_of 1317 (by decide +kernel) (by decide +kernel)
theorem lk_c9ad040a : Cond.instanceMethod yX6_emptyPress ∈ GW := GW_of 1351 (by decide +kernel) (by decide +kernel)
theorem lk_e89de76b : Cond.selects RX6 yX6_emptyPress yX6_emptyPress ∈ GW := GW_of 1352 (by decide +kernel) (by decide +kernel)
theorem lk_26392b6d : Cond.code yX6_emptyPress cX6_emptyPress 3 (some .int) ∈ GW := GW_of 1353 (by decide +kernel) (by decide +kernel)
theorem lk_c2bbd997 : Cond.instanceMethod yX6_operation ∈ GW := GW_of 1359 (by decide +kernel) (by decide +kernel)
theorem lk_905c0699 : Cond.selects RX6 yX6_operation yX6_operation ∈ GW := GW_of 1360 (by decide +kernel) (by decide +kernel)
theorem lk_f359eba8 : Cond.code yX6_operation cX6_operation 3 (some .int) ∈ GW := GW_of 1361 (by decide +kernel) (by decide +kernel)
theorem lk_46b1d769 : Cond.instanceMethod yX6_station ∈ GW := GW_of 1367 (by decide +kernel) (by decide +kernel)
theorem lk_adf3edf5 : Cond.selects RX6 yX6_station yX6_station ∈ GW := GW_of 1368 (by decide +kernel) (by decide +kernel)
theorem lk_633e23fd : Cond.code yX6_station cX6_station 3 (some .int) ∈ GW := GW_of 1369 (by decide +kernel) (by decide +kernel)
theorem lk_5a1c4c8e : Cond.instanceMethod yX6_pitch ∈ GW := GW_of 1379 (by decide +kernel) (by decide +kernel)
theorem lk_6c5b8aa2 : Cond.selects RX6 yX6_pitch yX6_pitch ∈ GW := GW_of 1380 (by decide +kernel) (by decide +kernel)
theorem lk_1c21d507 : Cond.code yX6_pitch cX6_pitch 3 (some .int) ∈ GW := GW_of 1381 (by decide +kernel) (by decide +kernel)
theorem lk_08e2ab2b : Cond.instanceMethod yX6_left ∈ GW := GW_of 1387 (by decide +kernel) (by decide +kernel)
theorem lk_b9a8802e : Cond.selects RX6 yX6_left yX6_left ∈ GW := GW_of 1388 (by decide +kernel) (by decide +kernel)
theorem lk_38efe5dd : Cond.code yX6_left cX6_left 2 (some .long) ∈ GW := GW_of 1389 (by decide +kernel) (by decide +kernel)
theorem lk_00a1a7dd : Cond.instanceMethod yX6_whole ∈ GW := GW_of 1391 (by decide +kernel) (by decide +kernel)
theorem lk_013cf7be : Cond.selects RX6 yX6_whole yX6_whole ∈ GW := GW_of 1392 (by decide +kernel) (by decide +kernel)
theorem lk_bfb2db39 : Cond.code yX6_whole cX6_whole 2 (some .int) ∈ GW := GW_of 1393 (by decide +kernel) (by decide +kernel)
theorem lk_8b92bb99 : Cond.instanceMethod yX6_dieFault ∈ GW := GW_of 1399 (by decide +kernel) (by decide +kernel)
theorem lk_c3a6a5f9 : Cond.selects RX6 yX6_dieFault yX6_dieFault ∈ GW := GW_of 1400 (by decide +kernel) (by decide +kernel)
theorem lk_41461260 : Cond.code yX6_dieFault cX6_dieFault 1 (some .int) ∈ GW := GW_of 1401 (by decide +kernel) (by decide +kernel)
theorem lk_5873b356 : Cond.instanceMethod yX6_planFault ∈ GW := GW_of 1407 (by decide +kernel) (by decide +kernel)
theorem lk_efb88aeb : Cond.selects RX6 yX6_planFault yX6_planFault ∈ GW := GW_of 1408 (by decide +kernel) (by decide +kernel)
theorem lk_9bacdd0a : Cond.code yX6_planFault cX6_planFault 1 (some .int) ∈ GW := GW_of 1409 (by decide +kernel) (by decide +kernel)
theorem lk_65503d6a : Cond.instanceMethod yX6_planned ∈ GW := GW_of 1415 (by decide +kernel) (by decide +kernel)
theorem lk_9e88431e : Cond.selects RX6 yX6_planned yX6_planned ∈ GW := GW_of 1416 (by decide +kernel) (by decide +kernel)
theorem lk_5dbf2edf : Cond.code yX6_planned cX6_planned 3 (some .int) ∈ GW := GW_of 1417 (by decide +kernel) (by decide +kernel)
theorem lk_a3d0525b : Cond.instanceMethod yX6_leastLimit ∈ GW := GW_of 1419 (by decide +kernel) (by decide +kernel)
theorem lk_8232ad49 : Cond.selects RX6 yX6_leastLimit yX6_leastLimit ∈ GW := GW_of 1420 (by decide +kernel) (by decide +kernel)
theorem lk_177c1b80 : Cond.code yX6_leastLimit cX6_leastLimit 4 (some .int) ∈ GW := GW_of 1421 (by decide +kernel) (by decide +kernel)
theorem lk_63ccc836 : Cond.instanceMethod yX6_fitsTwice ∈ GW := GW_of 1423 (by decide +kernel) (by decide +kernel)
theorem lk_0714f438 : Cond.selects RX6 yX6_fitsTwice yX6_fitsTwice ∈ GW := GW_of 1424 (by decide +kernel) (by decide +kernel)
theorem lk_494320d9 : Cond.code yX6_fitsTwice cX6_fitsTwice 1 (some .int) ∈ GW := GW_of 1425 (by decide +kernel) (by decide +kernel)
theorem lk_e6acb0e9 : Cond.instanceMethod yX6_scrap ∈ GW := GW_of 1431 (by decide +kernel) (by decide +kernel)
theorem lk_0580086a : Cond.selects RX6 yX6_scrap yX6_scrap ∈ GW := GW_of 1432 (by decide +kernel) (by decide +kernel)
theorem lk_3159fed3 : Cond.code yX6_scrap cX6_scrap 2 (some .int) ∈ GW := GW_of 1433 (by decide +kernel) (by decide +kernel)
theorem lk_69fbbe85 : Cond.instanceMethod yX6_strokesToGood ∈ GW := GW_of 1439 (by decide +kernel) (by decide +kernel)
theorem lk_48acca30 : Cond.selects RX6 yX6_strokesToGood yX6_strokesToGood ∈ GW := GW_of 1440 (by decide +kernel) (by decide +kernel)
theorem lk_d8619462 : Cond.code yX6_strokesToGood cX6_strokesToGood 3 (some .int) ∈ GW := GW_of 1441 (by decide +kernel) (by decide +kernel)
theorem lk_20c72e33 : Cond.instanceMethod yX6_type ∈ GW := GW_of 1443 (by decide +kernel) (by decide +kernel)
theorem lk_90fd4d71 : Cond.selects RX6 yX6_type yX6_type ∈ GW := GW_of 1444 (by decide +kernel) (by decide +kernel)
theorem lk_35d33c69 : Cond.code yX6_type cX6_type 2 (some .int) ∈ GW := GW_of 1445 (by decide +kernel) (by decide +kernel)
theorem lk_88bd9129 : Cond.instanceMethod yX6_clearCommands ∈ GW := GW_of 1447 (by decide +kernel) (by decide +kernel)
theorem lk_b1c7ef4a : Cond.selects RX6 yX6_clearCommands yX6_clearCommands ∈ GW := GW_of 1448 (by decide +kernel) (by decide +kernel)
theorem lk_c74a7ca8 : Cond.code yX6_clearCommands cX6_clearCommands 2 (some .int) ∈ GW := GW_of 1449 (by decide +kernel) (by decide +kernel)
theorem lk_8ffccc04 : Cond.instanceMethod yX6_runCommands ∈ GW := GW_of 1451 (by decide +kernel) (by decide +kernel)
theorem lk_3830a96e : Cond.selects RX6 yX6_runCommands yX6_runCommands ∈ GW := GW_of 1452 (by decide +kernel) (by decide +kernel)
theorem lk_f978e1eb : Cond.code yX6_runCommands cX6_runCommands 3 (some .int) ∈ GW := GW_of 1453 (by decide +kernel) (by decide +kernel)
theorem lk_54c39a58 : Cond.instanceMethod yX6_undo ∈ GW := GW_of 1507 (by decide +kernel) (by decide +kernel)
theorem lk_3ca2cd7e : Cond.selects RX6 yX6_undo yX6_undo ∈ GW := GW_of 1508 (by decide +kernel) (by decide +kernel)
theorem lk_28964e21 : Cond.code yX6_undo cX6_undo 2 (some .int) ∈ GW := GW_of 1509 (by decide +kernel) (by decide +kernel)
theorem lk_12549e23 : Cond.instanceMethod yX6_digest ∈ GW := GW_of 1511 (by decide +kernel) (by decide +kernel)
theorem lk_7bcde78e : Cond.selects RX6 yX6_digest yX6_digest ∈ GW := GW_of 1512 (by decide +kernel) (by decide +kernel)
theorem lk_f1ef07c7 : Cond.code yX6_digest cX6_digest 5 (some .long) ∈ GW := GW_of 1513 (by decide +kernel) (by decide +kernel)
theorem lk_4017dff4 : Cond.methodLink RL 84 yL_begin ∈ GW := GW_of 933 (by decide +kernel) (by decide +kernel)
theorem lk_13eb9437 : Cond.static yL_begin ∈ GW := GW_of 934 (by decide +kernel) (by decide +kernel)
theorem lk_d8611cb0 : Cond.initialized yL_begin.cls ∈ GW := GW_of 82 (by decide +kernel) (by decide +kernel)
theorem lk_1fd355af : Cond.codeWith yL_begin cL_begin 5 (some .int) [(0, 10, 13, 13)] ∈ GW := GW_of 935 (by decide +kernel) (by decide +kernel)
theorem lk_d2096ce7 : Cond.methodLink RL 89 yX6_begin ∈ GW := GW_of 1220 (by decide +kernel) (by decide +kernel)
theorem lk_79577f46 : Cond.methodLink RL 90 yX6_thrown ∈ GW := GW_of 1152 (by decide +kernel) (by decide +kernel)
theorem lk_f2fa8a23 : Cond.methodLink RL 93 yL_mark ∈ GW := GW_of 942 (by decide +kernel) (by decide +kernel)
theorem lk_4c1529af : Cond.static yL_mark ∈ GW := GW_of 943 (by decide +kernel) (by decide +kernel)
theorem lk_febea269 : Cond.initialized yL_mark.cls ∈ GW := GW_of 82 (by decide +kernel) (by decide +kernel)
theorem lk_cab546a7 : Cond.codeWith yL_mark cL_mark 8 (some .int) [(0, 16, 19, 13)] ∈ GW := GW_of 944 (by decide +kernel) (by decide +kernel)
theorem lk_03e327b1 : Cond.methodLink RL 96 yX6_mark ∈ GW := GW_of 1228 (by decide +kernel) (by decide +kernel)
theorem lk_6da6942b : Cond.methodLink RL 97 yL_setCarrier ∈ GW := GW_of 950 (by decide +kernel) (by decide +kernel)
theorem lk_fffbdc85 : Cond.static yL_setCarrier ∈ GW := GW_of 951 (by decide +kernel) (by decide +kernel)
theorem lk_aeb0731f : Cond.initialized yL_setCarrier.cls ∈ GW := GW_of 82 (by decide +kernel) (by decide +kernel)
theorem lk_5905a78c : Cond.codeWith yL_setCarrier cL_setCarrier 4 (some .int) [(0, 9, 12, 13)] ∈ GW := GW_of 952 (by decide +kernel) (by decide +kernel)
theorem lk_05164195 : Cond.methodLink RL 100 yX6_setCarrier ∈ GW := GW_of 1239 (by decide +kernel) (by decide +kernel)
theorem lk_ffe6c192 : Cond.methodLink RL 101 yL_set ∈ GW := GW_of 958 (by decide +kernel) (by decide +kernel)
theorem lk_6884fb68 : Cond.static yL_set ∈ GW := GW_of 959 (by decide +kernel) (by decide +kernel)
theorem lk_eca1801c : Cond.initialized yL_set.cls ∈ GW := GW_of 82 (by decide +kernel) (by decide +kernel)
theorem lk_65f46832 : Cond.codeWith yL_set cL_set 5 (some .int) [(0, 10, 13, 13)] ∈ GW := GW_of 960 (by decide +kernel) (by decide +kernel)
theorem lk_8f44223d : Cond.methodLink RL 103 yX6_set ∈ GW := GW_of 1243 (by decide +kernel) (by decide +kernel)
theorem lk_bc414aa3 : Cond.methodLink RL 104 yL_addPunch ∈ GW := GW_of 974 (by decide +kernel) (by decide +kernel)
theorem lk_a39319f2 : Cond.static yL_addPunch ∈ GW := GW_of 975 (by decide +kernel) (by decide +kernel)
theorem lk_5cfd425d : Cond.initialized yL_addPunch.cls ∈ GW := GW_of 82 (by decide +kernel) (by decide +kernel)
theorem lk_368306a9 : Cond.codeWith yL_addPunch cL_addPunch 7 (some .int) [(0, 14, 17, 13), (0, 14, 21, 30)] ∈ GW := GW_of 976 (by decide +kernel) (by decide +kernel)
theorem lk_81cf8262 : Cond.methodLink RL 107 yX6_addPunch ∈ GW := GW_of 1254 (by decide +kernel) (by decide +kernel)
theorem lk_0896b8bb : Cond.methodLink RL 108 yL_addBend ∈ GW := GW_of 999 (by decide +kernel) (by decide +kernel)
theorem lk_afe16768 : Cond.static yL_addBend ∈ GW := GW_of 1000 (by decide +kernel) (by decide +kernel)
theorem lk_72fda863 : Cond.initialized yL_addBend.cls ∈ GW := GW_of 82 (by decide +kernel) (by decide +kernel)
theorem lk_f873a666 : Cond.codeWith yL_addBend cL_addBend 6 (some .int) [(0, 12, 15, 13), (0, 12, 19, 30)] ∈ GW := GW_of 1001 (by decide +kernel) (by decide +kernel)
theorem lk_ef8a4c53 : Cond.methodLink RL 111 yX6_addBend ∈ GW := GW_of 1262 (by decide +kernel) (by decide +kernel)
theorem lk_a6c76288 : Cond.methodLink RL 112 yL_dropOperation ∈ GW := GW_of 1007 (by decide +kernel) (by decide +kernel)
theorem lk_316dfc28 : Cond.static yL_dropOperation ∈ GW := GW_of 1008 (by decide +kernel) (by decide +kernel)
theorem lk_1a28f711 : Cond.initialized yL_dropOperation.cls ∈ GW := GW_of 82 (by decide +kernel) (by decide +kernel)
theorem lk_5c00c30b : Cond.codeWith yL_dropOperation cL_dropOperation 4 (some .int) [(0, 9, 12, 39)] ∈ GW := GW_of 1009 (by decide +kernel) (by decide +kernel)
theorem lk_2fffd0ca : Cond.methodLink RL 114 yX6_dropOperation ∈ GW := GW_of 1266 (by decide +kernel) (by decide +kernel)
theorem lk_df93488d : Cond.methodLink RL 115 yL_setStation ∈ GW := GW_of 1023 (by decide +kernel) (by decide +kernel)
theorem lk_232b92e3 : Cond.static yL_setStation ∈ GW := GW_of 1024 (by decide +kernel) (by decide +kernel)
theorem lk_31c89417 : Cond.initialized yL_setStation.cls ∈ GW := GW_of 82 (by decide +kernel) (by decide +kernel)
theorem lk_21a3ad6d : Cond.codeWith yL_setStation cL_setStation 5 (some .int) [(0, 10, 13, 39), (0, 10, 17, 13)] ∈ GW := GW_of 1025 (by decide +kernel) (by decide +kernel)
theorem lk_858b6d5a : Cond.methodLink RL 117 yX6_setStation ∈ GW := GW_of 1278 (by decide +kernel) (by decide +kernel)
theorem lk_ded3641f : Cond.methodLink RL 118 yL_usePlan ∈ GW := GW_of 1031 (by decide +kernel) (by decide +kernel)
theorem lk_f0e5fbd4 : Cond.static yL_usePlan ∈ GW := GW_of 1032 (by decide +kernel) (by decide +kernel)
theorem lk_0fdf00bd : Cond.initialized yL_usePlan.cls ∈ GW := GW_of 82 (by decide +kernel) (by decide +kernel)
theorem lk_04ad5b52 : Cond.codeWith yL_usePlan cL_usePlan 3 (some .int) [(0, 8, 11, 30)] ∈ GW := GW_of 1033 (by decide +kernel) (by decide +kernel)
theorem lk_c9802a8a : Cond.methodLink RL 121 yX6_usePlan ∈ GW := GW_of 1282 (by decide +kernel) (by decide +kernel)
theorem lk_07520657 : Cond.methodLink RL 122 yL_setPilot ∈ GW := GW_of 1039 (by decide +kernel) (by decide +kernel)
theorem lk_1b9fde2d : Cond.static yL_setPilot ∈ GW := GW_of 1040 (by decide +kernel) (by decide +kernel)
theorem lk_e7f2fa5d : Cond.initialized yL_setPilot.cls ∈ GW := GW_of 82 (by decide +kernel) (by decide +kernel)
theorem lk_2c8cfbdf : Cond.codeWith yL_setPilot cL_setPilot 5 (some .int) [(0, 10, 13, 13)] ∈ GW := GW_of 1041 (by decide +kernel) (by decide +kernel)
theorem lk_c7d2ed29 : Cond.methodLink RL 125 yX6_setPilot ∈ GW := GW_of 1310 (by decide +kernel) (by decide +kernel)
theorem lk_32cfd338 : Cond.methodLink RL 126 yX5_stroke ∈ GW := GW_of 290 (by decide +kernel) (by decide +kernel)
theorem lk_5ed32813 : Cond.methodLink RL 129 yX6_stroke ∈ GW := GW_of 1314 (by decide +kernel) (by decide +kernel)
theorem lk_e7b886a9 : Cond.methodLink RL 130 yX5_emptyPress ∈ GW := GW_of 423 (by decide +kernel) (by decide +kernel)
theorem lk_9c7d9bdd : Cond.methodLink RL 133 yX6_emptyPress ∈ GW := GW_of 1350 (by decide +kernel) (by decide +kernel)
theorem lk_9a7bb1de : Cond.methodLink RL 134 yL_cellSet ∈ GW := GW_of 1046 (by decide +kernel) (by decide +kernel)
theorem lk_df9c0a14 : Cond.static yL_cellSet ∈ GW := GW_of 1047 (by decide +kernel) (by decide +kernel)
theorem lk_bfefc393 : Cond.initialized yL_cellSet.cls ∈ GW := GW_of 82 (by decide +kernel) (by decide +kernel)
theorem lk_a930b411 : Cond.codeWith yL_cellSet cL_cellSet 4 (some .int) [(0, 8, 11, 13)] ∈ GW := GW_of 1048 (by decide +kernel) (by decide +kernel)
theorem lk_ca8d16cf : Cond.methodLink RL 136 yX6_cellSet ∈ GW := GW_of 1156 (by decide +kernel) (by decide +kernel)
theorem lk_48d923e8 : Cond.methodLink RL 137 yL_operation ∈ GW := GW_of 1050 (by decide +kernel) (by decide +kernel)
theorem lk_e32afd21 : Cond.static yL_operation ∈ GW := GW_of 1051 (by decide +kernel) (by decide +kernel)
theorem lk_4062ce7c : Cond.initialized yL_operation.cls ∈ GW := GW_of 82 (by decide +kernel) (by decide +kernel)
theorem lk_ac0f01ae : Cond.codeWith yL_operation cL_operation 5 (some .int) [(0, 10, 13, 39), (0, 10, 17, 13)] ∈ GW := GW_of 1052 (by decide +kernel) (by decide +kernel)
theorem lk_e204d899 : Cond.methodLink RL 139 yX6_operation ∈ GW := GW_of 1358 (by decide +kernel) (by decide +kernel)
theorem lk_809c564e : Cond.methodLink RL 140 yL_station ∈ GW := GW_of 1054 (by decide +kernel) (by decide +kernel)
theorem lk_ad4ce6bc : Cond.static yL_station ∈ GW := GW_of 1055 (by decide +kernel) (by decide +kernel)
theorem lk_2af200b9 : Cond.initialized yL_station.cls ∈ GW := GW_of 82 (by decide +kernel) (by decide +kernel)
theorem lk_121d966f : Cond.codeWith yL_station cL_station 5 (some .int) [(0, 10, 13, 13)] ∈ GW := GW_of 1056 (by decide +kernel) (by decide +kernel)
theorem lk_ec253c0c : Cond.methodLink RL 142 yX6_station ∈ GW := GW_of 1366 (by decide +kernel) (by decide +kernel)
theorem lk_5e0ecac1 : Cond.methodLink RL 143 yL_pitch ∈ GW := GW_of 1058 (by decide +kernel) (by decide +kernel)
theorem lk_b71617a0 : Cond.static yL_pitch ∈ GW := GW_of 1059 (by decide +kernel) (by decide +kernel)
theorem lk_f3a4f1c1 : Cond.initialized yL_pitch.cls ∈ GW := GW_of 82 (by decide +kernel) (by decide +kernel)
theorem lk_3906212c : Cond.codeWith yL_pitch cL_pitch 5 (some .int) [(0, 10, 13, 13)] ∈ GW := GW_of 1060 (by decide +kernel) (by decide +kernel)
theorem lk_ed67982a : Cond.methodLink RL 145 yX6_pitch ∈ GW := GW_of 1378 (by decide +kernel) (by decide +kernel)
theorem lk_ce0819b0 : Cond.methodLink RL 146 yL_left ∈ GW := GW_of 1062 (by decide +kernel) (by decide +kernel)
theorem lk_a78903fb : Cond.static yL_left ∈ GW := GW_of 1063 (by decide +kernel) (by decide +kernel)
theorem lk_686f7283 : Cond.initialized yL_left.cls ∈ GW := GW_of 82 (by decide +kernel) (by decide +kernel)
theorem lk_c3a6a961 : Cond.codeWith yL_left cL_left 4 (some .int) [(0, 8, 11, 13)] ∈ GW := GW_of 1064 (by decide +kernel) (by decide +kernel)
theorem lk_75eb8c6c : Cond.methodLink RL 148 yX6_left ∈ GW := GW_of 1386 (by decide +kernel) (by decide +kernel)
theorem lk_3ec2d61e : Cond.methodLink RL 149 yL_whole ∈ GW := GW_of 1066 (by decide +kernel) (by decide +kernel)
theorem lk_a5dfec4e : Cond.static yL_whole ∈ GW := GW_of 1067 (by decide +kernel) (by decide +kernel)
theorem lk_226cc6ed : Cond.initialized yL_whole.cls ∈ GW := GW_of 82 (by decide +kernel) (by decide +kernel)
theorem lk_5f88095a : Cond.codeWith yL_whole cL_whole 4 (some .int) [(0, 9, 12, 13)] ∈ GW := GW_of 1068 (by decide +kernel) (by decide +kernel)
theorem lk_017305d8 : Cond.methodLink RL 151 yX6_whole ∈ GW := GW_of 1390 (by decide +kernel) (by decide +kernel)
theorem lk_3a3ff9ad : Cond.methodLink RL 152 yX5_dieFault ∈ GW := GW_of 437 (by decide +kernel) (by decide +kernel)
theorem lk_e9fafdbc : Cond.methodLink RL 155 yX6_dieFault ∈ GW := GW_of 1398 (by decide +kernel) (by decide +kernel)
theorem lk_0c287d29 : Cond.methodLink RL 156 yX5_planFault ∈ GW := GW_of 472 (by decide +kernel) (by decide +kernel)
theorem lk_1d994928 : Cond.methodLink RL 159 yX6_planFault ∈ GW := GW_of 1406 (by decide +kernel) (by decide +kernel)
theorem lk_bd684c88 : Cond.methodLink RL 160 yL_planned ∈ GW := GW_of 1070 (by decide +kernel) (by decide +kernel)
theorem lk_48436dfe : Cond.static yL_planned ∈ GW := GW_of 1071 (by decide +kernel) (by decide +kernel)
theorem lk_aeb8eb8a : Cond.initialized yL_planned.cls ∈ GW := GW_of 82 (by decide +kernel) (by decide +kernel)
theorem lk_a7dd33b5 : Cond.codeWith yL_planned cL_planned 4 (some .int) [(0, 9, 12, 39)] ∈ GW := GW_of 1072 (by decide +kernel) (by decide +kernel)
theorem lk_c65e08aa : Cond.methodLink RL 162 yX6_planned ∈ GW := GW_of 1414 (by decide +kernel) (by decide +kernel)
theorem lk_0965a9ca : Cond.methodLink RL 163 yX5_leastLimit ∈ GW := GW_of 497 (by decide +kernel) (by decide +kernel)
theorem lk_b18f853c : Cond.methodLink RL 166 yX6_leastLimit ∈ GW := GW_of 1418 (by decide +kernel) (by decide +kernel)
theorem lk_7d6b044a : Cond.methodLink RL 167 yX5_fitsTwice ∈ GW := GW_of 542 (by decide +kernel) (by decide +kernel)
theorem lk_b2d4bc80 : Cond.methodLink RL 170 yX6_fitsTwice ∈ GW := GW_of 1422 (by decide +kernel) (by decide +kernel)
theorem lk_786a733e : Cond.methodLink RL 171 yX5_scrap ∈ GW := GW_of 554 (by decide +kernel) (by decide +kernel)
theorem lk_7cc8357b : Cond.methodLink RL 175 yX6_scrap ∈ GW := GW_of 1430 (by decide +kernel) (by decide +kernel)
theorem lk_668dc995 : Cond.methodLink RL 176 yX5_strokesToGood ∈ GW := GW_of 560 (by decide +kernel) (by decide +kernel)
theorem lk_edd160ff : Cond.methodLink RL 179 yX6_strokesToGood ∈ GW := GW_of 1438 (by decide +kernel) (by decide +kernel)
theorem lk_a86630b3 : Cond.methodLink RL 180 yL_type ∈ GW := GW_of 1074 (by decide +kernel) (by decide +kernel)
theorem lk_51a8cdcf : Cond.static yL_type ∈ GW := GW_of 1075 (by decide +kernel) (by decide +kernel)
theorem lk_faf15186 : Cond.initialized yL_type.cls ∈ GW := GW_of 82 (by decide +kernel) (by decide +kernel)
theorem lk_9c269ae6 : Cond.codeWith yL_type cL_type 4 (some .int) [(0, 9, 12, 13), (0, 9, 15, 30)] ∈ GW := GW_of 1076 (by decide +kernel) (by decide +kernel)
theorem lk_75b0ff48 : Cond.methodLink RL 182 yX6_type ∈ GW := GW_of 1442 (by decide +kernel) (by decide +kernel)
theorem lk_d863ae7d : Cond.methodLink RL 183 yX5_clearCommands ∈ GW := GW_of 565 (by decide +kernel) (by decide +kernel)
theorem lk_e33cf1e1 : Cond.methodLink RL 186 yX6_clearCommands ∈ GW := GW_of 1446 (by decide +kernel) (by decide +kernel)
theorem lk_0b64298d : Cond.methodLink RL 187 yX5_runCommands ∈ GW := GW_of 569 (by decide +kernel) (by decide +kernel)
theorem lk_ca6f487c : Cond.methodLink RL 190 yX6_runCommands ∈ GW := GW_of 1450 (by decide +kernel) (by decide +kernel)
theorem lk_fea3679f : Cond.methodLink RL 191 yL_undo ∈ GW := GW_of 1087 (by decide +kernel) (by decide +kernel)
theorem lk_51a7ffa8 : Cond.static yL_undo ∈ GW := GW_of 1088 (by decide +kernel) (by decide +kernel)
theorem lk_99292259 : Cond.initialized yL_undo.cls ∈ GW := GW_of 82 (by decide +kernel) (by decide +kernel)
theorem lk_f4a555d3 : Cond.codeWith yL_undo cL_undo 3 (some .int) [(0, 8, 11, 30)] ∈ GW := GW_of 1089 (by decide +kernel) (by decide +kernel)
theorem lk_e19adf1f : Cond.methodLink RL 193 yX6_undo ∈ GW := GW_of 1506 (by decide +kernel) (by decide +kernel)
theorem lk_226e4bcd : Cond.methodLink RL 194 yX5_digest ∈ GW := GW_of 776 (by decide +kernel) (by decide +kernel)
theorem lk_2f195257 : Cond.methodLink RL 198 yX6_digest ∈ GW := GW_of 1510 (by decide +kernel) (by decide +kernel)
theorem hvW_X6_begin : yX6_begin.cls = RX6 ∧ yX6_begin.cls ≠ "java/lang/invoke/MethodHandle" ∧ yX6_begin.cls ≠ "java/lang/invoke/VarHandle" ∧ (parseMethodDescriptor yX6_begin.desc).map (fun d => d.parameters.length) = some 2 := by decide +kernel
theorem hvW_X6_thrown : yX6_thrown.cls = RX6 ∧ yX6_thrown.cls ≠ "java/lang/invoke/MethodHandle" ∧ yX6_thrown.cls ≠ "java/lang/invoke/VarHandle" ∧ (parseMethodDescriptor yX6_thrown.desc).map (fun d => d.parameters.length) = some 0 := by decide +kernel
theorem hvW_X6_mark : yX6_mark.cls = RX6 ∧ yX6_mark.cls ≠ "java/lang/invoke/MethodHandle" ∧ yX6_mark.cls ≠ "java/lang/invoke/VarHandle" ∧ (parseMethodDescriptor yX6_mark.desc).map (fun d => d.parameters.length) = some 5 := by decide +kernel
theorem hvW_X6_setCarrier : yX6_setCarrier.cls = RX6 ∧ yX6_setCarrier.cls ≠ "java/lang/invoke/MethodHandle" ∧ yX6_setCarrier.cls ≠ "java/lang/invoke/VarHandle" ∧ (parseMethodDescriptor yX6_setCarrier.desc).map (fun d => d.parameters.length) = some 1 := by decide +kernel
theorem hvW_X6_set : yX6_set.cls = RX6 ∧ yX6_set.cls ≠ "java/lang/invoke/MethodHandle" ∧ yX6_set.cls ≠ "java/lang/invoke/VarHandle" ∧ (parseMethodDescriptor yX6_set.desc).map (fun d => d.parameters.length) = some 2 := by decide +kernel
theorem hvW_X6_addPunch : yX6_addPunch.cls = RX6 ∧ yX6_addPunch.cls ≠ "java/lang/invoke/MethodHandle" ∧ yX6_addPunch.cls ≠ "java/lang/invoke/VarHandle" ∧ (parseMethodDescriptor yX6_addPunch.desc).map (fun d => d.parameters.length) = some 4 := by decide +kernel
theorem hvW_X6_addBend : yX6_addBend.cls = RX6 ∧ yX6_addBend.cls ≠ "java/lang/invoke/MethodHandle" ∧ yX6_addBend.cls ≠ "java/lang/invoke/VarHandle" ∧ (parseMethodDescriptor yX6_addBend.desc).map (fun d => d.parameters.length) = some 3 := by decide +kernel
theorem hvW_X6_dropOperation : yX6_dropOperation.cls = RX6 ∧ yX6_dropOperation.cls ≠ "java/lang/invoke/MethodHandle" ∧ yX6_dropOperation.cls ≠ "java/lang/invoke/VarHandle" ∧ (parseMethodDescriptor yX6_dropOperation.desc).map (fun d => d.parameters.length) = some 1 := by decide +kernel
theorem hvW_X6_setStation : yX6_setStation.cls = RX6 ∧ yX6_setStation.cls ≠ "java/lang/invoke/MethodHandle" ∧ yX6_setStation.cls ≠ "java/lang/invoke/VarHandle" ∧ (parseMethodDescriptor yX6_setStation.desc).map (fun d => d.parameters.length) = some 2 := by decide +kernel
theorem hvW_X6_usePlan : yX6_usePlan.cls = RX6 ∧ yX6_usePlan.cls ≠ "java/lang/invoke/MethodHandle" ∧ yX6_usePlan.cls ≠ "java/lang/invoke/VarHandle" ∧ (parseMethodDescriptor yX6_usePlan.desc).map (fun d => d.parameters.length) = some 0 := by decide +kernel
theorem hvW_X6_setPilot : yX6_setPilot.cls = RX6 ∧ yX6_setPilot.cls ≠ "java/lang/invoke/MethodHandle" ∧ yX6_setPilot.cls ≠ "java/lang/invoke/VarHandle" ∧ (parseMethodDescriptor yX6_setPilot.desc).map (fun d => d.parameters.length) = some 2 := by decide +kernel
theorem hvW_X5_stroke : yX5_stroke.cls = RX5 ∧ yX5_stroke.cls ≠ "java/lang/invoke/MethodHandle" ∧ yX5_stroke.cls ≠ "java/lang/invoke/VarHandle" ∧ (parseMethodDescriptor yX5_stroke.desc).map (fun d => d.parameters.length) = some 0 := by decide +kernel
theorem hvW_X6_stroke : yX6_stroke.cls = RX6 ∧ yX6_stroke.cls ≠ "java/lang/invoke/MethodHandle" ∧ yX6_stroke.cls ≠ "java/lang/invoke/VarHandle" ∧ (parseMethodDescriptor yX6_stroke.desc).map (fun d => d.parameters.length) = some 0 := by decide +kernel
theorem hvW_X5_emptyPress : yX5_emptyPress.cls = RX5 ∧ yX5_emptyPress.cls ≠ "java/lang/invoke/MethodHandle" ∧ yX5_emptyPress.cls ≠ "java/lang/invoke/VarHandle" ∧ (parseMethodDescriptor yX5_emptyPress.desc).map (fun d => d.parameters.length) = some 0 := by decide +kernel
theorem hvW_X6_emptyPress : yX6_emptyPress.cls = RX6 ∧ yX6_emptyPress.cls ≠ "java/lang/invoke/MethodHandle" ∧ yX6_emptyPress.cls ≠ "java/lang/invoke/VarHandle" ∧ (parseMethodDescriptor yX6_emptyPress.desc).map (fun d => d.parameters.length) = some 0 := by decide +kernel
theorem hvW_X6_cellSet : yX6_cellSet.cls = RX6 ∧ yX6_cellSet.cls ≠ "java/lang/invoke/MethodHandle" ∧ yX6_cellSet.cls ≠ "java/lang/invoke/VarHandle" ∧ (parseMethodDescriptor yX6_cellSet.desc).map (fun d => d.parameters.length) = some 1 := by decide +kernel
theorem hvW_X6_operation : yX6_operation.cls = RX6 ∧ yX6_operation.cls ≠ "java/lang/invoke/MethodHandle" ∧ yX6_operation.cls ≠ "java/lang/invoke/VarHandle" ∧ (parseMethodDescriptor yX6_operation.desc).map (fun d => d.parameters.length) = some 2 := by decide +kernel
theorem hvW_X6_station : yX6_station.cls = RX6 ∧ yX6_station.cls ≠ "java/lang/invoke/MethodHandle" ∧ yX6_station.cls ≠ "java/lang/invoke/VarHandle" ∧ (parseMethodDescriptor yX6_station.desc).map (fun d => d.parameters.length) = some 2 := by decide +kernel
theorem hvW_X6_pitch : yX6_pitch.cls = RX6 ∧ yX6_pitch.cls ≠ "java/lang/invoke/MethodHandle" ∧ yX6_pitch.cls ≠ "java/lang/invoke/VarHandle" ∧ (parseMethodDescriptor yX6_pitch.desc).map (fun d => d.parameters.length) = some 2 := by decide +kernel
theorem hvW_X6_left : yX6_left.cls = RX6 ∧ yX6_left.cls ≠ "java/lang/invoke/MethodHandle" ∧ yX6_left.cls ≠ "java/lang/invoke/VarHandle" ∧ (parseMethodDescriptor yX6_left.desc).map (fun d => d.parameters.length) = some 1 := by decide +kernel
theorem hvW_X6_whole : yX6_whole.cls = RX6 ∧ yX6_whole.cls ≠ "java/lang/invoke/MethodHandle" ∧ yX6_whole.cls ≠ "java/lang/invoke/VarHandle" ∧ (parseMethodDescriptor yX6_whole.desc).map (fun d => d.parameters.length) = some 1 := by decide +kernel
theorem hvW_X5_dieFault : yX5_dieFault.cls = RX5 ∧ yX5_dieFault.cls ≠ "java/lang/invoke/MethodHandle" ∧ yX5_dieFault.cls ≠ "java/lang/invoke/VarHandle" ∧ (parseMethodDescriptor yX5_dieFault.desc).map (fun d => d.parameters.length) = some 0 := by decide +kernel
theorem hvW_X6_dieFault : yX6_dieFault.cls = RX6 ∧ yX6_dieFault.cls ≠ "java/lang/invoke/MethodHandle" ∧ yX6_dieFault.cls ≠ "java/lang/invoke/VarHandle" ∧ (parseMethodDescriptor yX6_dieFault.desc).map (fun d => d.parameters.length) = some 0 := by decide +kernel
theorem hvW_X5_planFault : yX5_planFault.cls = RX5 ∧ yX5_planFault.cls ≠ "java/lang/invoke/MethodHandle" ∧ yX5_planFault.cls ≠ "java/lang/invoke/VarHandle" ∧ (parseMethodDescriptor yX5_planFault.desc).map (fun d => d.parameters.length) = some 0 := by decide +kernel
theorem hvW_X6_planFault : yX6_planFault.cls = RX6 ∧ yX6_planFault.cls ≠ "java/lang/invoke/MethodHandle" ∧ yX6_planFault.cls ≠ "java/lang/invoke/VarHandle" ∧ (parseMethodDescriptor yX6_planFault.desc).map (fun d => d.parameters.length) = some 0 := by decide +kernel
theorem hvW_X6_planned : yX6_planned.cls = RX6 ∧ yX6_planned.cls ≠ "java/lang/invoke/MethodHandle" ∧ yX6_planned.cls ≠ "java/lang/invoke/VarHandle" ∧ (parseMethodDescriptor yX6_planned.desc).map (fun d => d.parameters.length) = some 1 := by decide +kernel
theorem hvW_X5_leastLimit : yX5_leastLimit.cls = RX5 ∧ yX5_leastLimit.cls ≠ "java/lang/invoke/MethodHandle" ∧ yX5_leastLimit.cls ≠ "java/lang/invoke/VarHandle" ∧ (parseMethodDescriptor yX5_leastLimit.desc).map (fun d => d.parameters.length) = some 0 := by decide +kernel
theorem hvW_X6_leastLimit : yX6_leastLimit.cls = RX6 ∧ yX6_leastLimit.cls ≠ "java/lang/invoke/MethodHandle" ∧ yX6_leastLimit.cls ≠ "java/lang/invoke/VarHandle" ∧ (parseMethodDescriptor yX6_leastLimit.desc).map (fun d => d.parameters.length) = some 0 := by decide +kernel
theorem hvW_X5_fitsTwice : yX5_fitsTwice.cls = RX5 ∧ yX5_fitsTwice.cls ≠ "java/lang/invoke/MethodHandle" ∧ yX5_fitsTwice.cls ≠ "java/lang/invoke/VarHandle" ∧ (parseMethodDescriptor yX5_fitsTwice.desc).map (fun d => d.parameters.length) = some 0 := by decide +kernel
theorem hvW_X6_fitsTwice : yX6_fitsTwice.cls = RX6 ∧ yX6_fitsTwice.cls ≠ "java/lang/invoke/MethodHandle" ∧ yX6_fitsTwice.cls ≠ "java/lang/invoke/VarHandle" ∧ (parseMethodDescriptor yX6_fitsTwice.desc).map (fun d => d.parameters.length) = some 0 := by decide +kernel
theorem hvW_X5_scrap : yX5_scrap.cls = RX5 ∧ yX5_scrap.cls ≠ "java/lang/invoke/MethodHandle" ∧ yX5_scrap.cls ≠ "java/lang/invoke/VarHandle" ∧ (parseMethodDescriptor yX5_scrap.desc).map (fun d => d.parameters.length) = some 1 := by decide +kernel
theorem hvW_X6_scrap : yX6_scrap.cls = RX6 ∧ yX6_scrap.cls ≠ "java/lang/invoke/MethodHandle" ∧ yX6_scrap.cls ≠ "java/lang/invoke/VarHandle" ∧ (parseMethodDescriptor yX6_scrap.desc).map (fun d => d.parameters.length) = some 1 := by decide +kernel
theorem hvW_X5_strokesToGood : yX5_strokesToGood.cls = RX5 ∧ yX5_strokesToGood.cls ≠ "java/lang/invoke/MethodHandle" ∧ yX5_strokesToGood.cls ≠ "java/lang/invoke/VarHandle" ∧ (parseMethodDescriptor yX5_strokesToGood.desc).map (fun d => d.parameters.length) = some 0 := by decide +kernel
theorem hvW_X6_strokesToGood : yX6_strokesToGood.cls = RX6 ∧ yX6_strokesToGood.cls ≠ "java/lang/invoke/MethodHandle" ∧ yX6_strokesToGood.cls ≠ "java/lang/invoke/VarHandle" ∧ (parseMethodDescriptor yX6_strokesToGood.desc).map (fun d => d.parameters.length) = some 0 := by decide +kernel
theorem hvW_X6_type : yX6_type.cls = RX6 ∧ yX6_type.cls ≠ "java/lang/invoke/MethodHandle" ∧ yX6_type.cls ≠ "java/lang/invoke/VarHandle" ∧ (parseMethodDescriptor yX6_type.desc).map (fun d => d.parameters.length) = some 1 := by decide +kernel
theorem hvW_X5_clearCommands : yX5_clearCommands.cls = RX5 ∧ yX5_clearCommands.cls ≠ "java/lang/invoke/MethodHandle" ∧ yX5_clearCommands.cls ≠ "java/lang/invoke/VarHandle" ∧ (parseMethodDescriptor yX5_clearCommands.desc).map (fun d => d.parameters.length) = some 0 := by decide +kernel
theorem hvW_X6_clearCommands : yX6_clearCommands.cls = RX6 ∧ yX6_clearCommands.cls ≠ "java/lang/invoke/MethodHandle" ∧ yX6_clearCommands.cls ≠ "java/lang/invoke/VarHandle" ∧ (parseMethodDescriptor yX6_clearCommands.desc).map (fun d => d.parameters.length) = some 0 := by decide +kernel
theorem hvW_X5_runCommands : yX5_runCommands.cls = RX5 ∧ yX5_runCommands.cls ≠ "java/lang/invoke/MethodHandle" ∧ yX5_runCommands.cls ≠ "java/lang/invoke/VarHandle" ∧ (parseMethodDescriptor yX5_runCommands.desc).map (fun d => d.parameters.length) = some 0 := by decide +kernel
theorem hvW_X6_runCommands : yX6_runCommands.cls = RX6 ∧ yX6_runCommands.cls ≠ "java/lang/invoke/MethodHandle" ∧ yX6_runCommands.cls ≠ "java/lang/invoke/VarHandle" ∧ (parseMethodDescriptor yX6_runCommands.desc).map (fun d => d.parameters.length) = some 0 := by decide +kernel
theorem hvW_X6_undo : yX6_undo.cls = RX6 ∧ yX6_undo.cls ≠ "java/lang/invoke/MethodHandle" ∧ yX6_undo.cls ≠ "java/lang/invoke/VarHandle" ∧ (parseMethodDescriptor yX6_undo.desc).map (fun d => d.parameters.length) = some 0 := by decide +kernel
theorem hvW_X5_digest : yX5_digest.cls = RX5 ∧ yX5_digest.cls ≠ "java/lang/invoke/MethodHandle" ∧ yX5_digest.cls ≠ "java/lang/invoke/VarHandle" ∧ (parseMethodDescriptor yX5_digest.desc).map (fun d => d.parameters.length) = some 0 := by decide +kernel
theorem hvW_X6_digest : yX6_digest.cls = RX6 ∧ yX6_digest.cls ≠ "java/lang/invoke/MethodHandle" ∧ yX6_digest.cls ≠ "java/lang/invoke/VarHandle" ∧ (parseMethodDescriptor yX6_digest.desc).map (fun d => d.parameters.length) = some 0 := by decide +kernel
/-! the law -/
abbrev lwT : List Cond := Cond.initialized RL :: GW
theorem gwH {cw : Cond} {own : String} {ix : Nat} {y : MethodName} {bytes : ByteArray} {maxL : Nat} {ret : Option FieldType} {hh : List (Nat × Nat × Nat × Nat)} (h1 : Cond.methodLink own ix y ∈ GW) (h2 : Cond.static y ∈ GW) (h4 : Cond.initialized y.cls ∈ GW) (h5 : Cond.codeWith y bytes maxL ret hh ∈ GW) : GoodIn (cw :: GW) (va_wsS own ix y (Cond.codeWith y bytes maxL ret hh :: GW)) := by
  intro w hw
  have g : ∀ w ∈ GW, w ∈ (cw :: GW) ∧ ((w.onTables && w.keeps) = true ∨ ∃ ty, w = .arrayClass ty) := fun w hw => ⟨List.mem_cons_of_mem _ hw, good_of_word (List.mem_filter.mp hw).2⟩
  simp only [va_wsS, List.cons_append, List.nil_append, List.mem_cons] at hw
  rcases hw with rfl | rfl | rfl | rfl | hw
  · exact g _ h1
  · exact g _ h2
  · exact g _ h4
  · exact g _ h5
  · exact g _ hw
theorem vinN {a L : Nat} (h : a < L) (hL : L ≤ 3072) : vp_in (nI a) L := by
  rintro (h1 | h1)
  · exact absurd h1 (nI_pos (by omega))
  · rw [nI_clamp (by omega)] at h1
    omega
theorem lgc_self (x : Int64) : lg_cmp x x = 0 := by
  unfold lg_cmp
  rw [if_neg (fun h => by rw [gt_iff_lt, fa_lt64] at h; omega), if_pos rfl]
abbrev wL (Θ : Tht) (ad am : Nat → Nat) (q : Nat) (f : Nat → Int64) (c : CSt) (μ : MSt) : va_W := wM Θ am μ ++ (wO Θ q f ++ wC Θ ad c)
abbrev lvB (b : Nat) (ad am : Nat → Nat) (q i : Nat) : List (Nat × Value) := [(4, .int (nI i)), (3, .ref q), (2, .ref (am 0)), (1, .ref (ad 0)), (0, .ref b)]
section LAW
variable {Θ : Tht} {K : (Nat → Nat) × (Nat → Nat)} {p : Program} {e : Env} {R : Room} {s : State} {m : MethodId} {args : Array Value} {below : List Frame} {meth : Method} {c : Code} {A : Nat → Prop} {Q : State → Prop} {nL k n : Nat} {cc : ByteArray} {own : String} {Ts : List Cond} {b L : Nat} {xs : Nat → Int32}
theorem sw_sld (pc : Nat) (G : okG Θ p s m args c A nL cc own Ts) (hX : va_X b L xs s s.heap) (hbl : b < s.heap.size) (hbA : ¬ A b) (hL : L ≤ 3072) (j : Nat) {i : Int32} {lv : List (Nat × Value)} {st : List Value} {ws : va_W} (hi : i = nI j) (hj : j < L) (hd : decode cc pc = .ok (.iaload, 1)) (kk : sw Θ p e R s m args below meth c A Q nL k n (pc + 1) lv (.int (xs j) :: st) ws) : sw Θ p e R s m args below meth c A Q nL k n pc lv (.int i :: .ref b :: st) ws := by
  intro H locs ls hP hD hS hl
  subst hi
  refine va_sld G.1 G.2.1 hX hbl hbA hS (vinN hj hL) hd ?_
  rw [nI_clamp (by omega)]
  exact kk H locs ls hP hD hS hl
theorem sw_slen (pc : Nat) (G : okG Θ p s m args c A nL cc own Ts) (hX : va_X b L xs s s.heap) (hbl : b < s.heap.size) (hbA : ¬ A b) {lv : List (Nat × Value)} {st : List Value} {ws : va_W} (hd : decode cc pc = .ok (.arraylength, 1)) (kk : sw Θ p e R s m args below meth c A Q nL k n (pc + 1) lv (.int (Int32.ofNat L) :: st) ws) : sw Θ p e R s m args below meth c A Q nL k n pc lv (.ref b :: st) ws := by
  intro H locs ls hP hD hS hl
  exact va_slen G.1 G.2.1 hX hbl hbA hS hd (kk H locs ls hP hD hS hl)
/-- x != 0 as a boolean -/
theorem sw_zb (pc : Nat) (G : okG Θ p s m args c A nL cc own Ts) {x : Int32} {lv : List (Nat × Value)} {st : List Value} {ws : va_W} (d0 : decode cc pc = .ok (.ifCond .eq 7, 3)) (d3 : decode cc (pc + 3) = .ok (.iconst 1, 1)) (d4 : decode cc (pc + 4) = .ok (.goto 4, 3)) (d7 : decode cc (pc + 7) = .ok (.iconst 0, 1)) (kk : sw Θ p e R s m args below meth c A Q nL k n (pc + 8) lv (.int (bI (decide (¬ x = 0))) :: st) ws) : sw Θ p e R s m args below meth c A Q nL k n pc lv (.int x :: st) ws := by
  refine sw_Beq pc (pc + 7) G d0 (by omega) (fun h => ?_) (fun h => ?_)
  · rw [decide_eq_false (fun z => z h)] at kk
    exact sw_iconst (pc + 7) G (0 : Int32) d7 rfl kk
  · rw [decide_eq_true h] at kk
    refine sw_iconst (pc + 3) G (1 : Int32) d3 rfl ?_
    exact sw_goto (pc + 4) G (pc + 8) d4 (by omega) kk
end LAW
section LAW2
variable {Θ : Tht} {K : (Nat → Nat) × (Nat → Nat)} {p : Program} {e : Env} {s : State} {m : MethodId} {args : Array Value} {below : List Frame} {meth : Method} {c : Code} {A : Nat → Prop} {Q : State → Prop} {k n : Nat} {b L : Nat} {xs : Nat → Int32} {ad am : Nat → Nat} {q i B : Nat}
theorem st_begin (G : okG Θ p s m args c A 8 cL_law RL lwT) (E : Ev K A s s.heap) (hST : Θ.1.stackTraces = false) (hX : va_X b L xs s s.heap) (hbl : b < s.heap.size) (hbA : ¬ A b) (hL : L ≤ 3072) (hi : i + 5 < L) (hB : B < 2 ^ 30) {cs : CSt} {μ : MSt} (inv : Inv B cs μ) (f : Nat → Int64) (hk : k + 1 ≤ 601024 ∧ n + 6 ≤ 7293034)
    (NX : ∀ (c2 : CSt) (μ2 : MSt) (f2 : Nat → Int64) (k2 n2 : Nat), Inv (B + 20000) c2 μ2 → k2 ≤ k + 1 → n2 ≤ n + 6 → sw Θ p e room_1 s m args below meth c A Q 8 k2 n2 1594 (lvB b ad am q i) [] (wL Θ ad am q f2 c2 μ2)) : sw Θ p e room_1 s m args below meth c A Q 8 k n 176 (lvB b ad am q i) [] (wL Θ ad am q f cs μ) := by
  obtain ⟨kk, r, c2, μ2, f2, hkk, hf0, hw, hm, hth, hI⟩ := wr_begin (K := K) (ad := ad) (am := am) Θ q f hST inv (xs (i + 1)) (xs (i + 2))
  refine sw_aload_n 176 G dL_law_176 3 rfl ?_
  refine sw_aload_n 177 G dL_law_177 4 rfl ?_
  refine sw_iload 178 G dL_law_178 0 rfl ?_
  refine sw_iconst 180 G (1 : Int32) dL_law_180 rfl ?_
  refine sw_iadd 181 G dL_law_181 ?_
  refine sw_sld 182 G hX hbl hbA hL (i + 1) (nI_add i 1) (by omega) dL_law_182 ?_
  refine sw_aload_n 183 G dL_law_183 4 rfl ?_
  refine sw_iload 184 G dL_law_184 0 rfl ?_
  refine sw_iconst 186 G (2 : Int32) dL_law_186 rfl ?_
  refine sw_iadd 187 G dL_law_187 ?_
  refine sw_sld 188 G hX hbl hbA hL (i + 2) (nI_add i 2) (by omega) dL_law_188 ?_
  refine sw_aload_n 189 G dL_law_189 1 rfl ?_
  refine sw_callSH 190 G E 4 dL_law_190 (FC.head (wM Θ am μ) hw) (gwH lk_4017dff4 lk_13eb9437 lk_d8611cb0 lk_1fd355af) rfl hsL_begin ⟨rfl, rfl⟩ ⟨Nat.le_of_ble_eq_true rfl, Nat.le_of_ble_eq_true rfl⟩ hk rfl rfl (Nat.le_of_ble_eq_true rfl) ?_
  refine sw_istore 193 G _ dL_law_193 (by decide) rfl ?_
  refine sw_aload_n 195 G dL_law_195 3 rfl ?_
  refine sw_aload_n 196 G dL_law_196 5 rfl ?_
  refine sw_iload 197 G dL_law_197 1 rfl ?_
  refine sw_iconst 199 G (1 : Int32) dL_law_199 rfl ?_
  refine sw_iadd 200 G dL_law_200 ?_
  refine sw_sld 201 G hX hbl hbA hL (i + 1) (nI_add i 1) (by omega) dL_law_201 ?_
  refine sw_aload_n 202 G dL_law_202 5 rfl ?_
  refine sw_iload 203 G dL_law_203 1 rfl ?_
  refine sw_iconst 205 G (2 : Int32) dL_law_205 rfl ?_
  refine sw_iadd 206 G dL_law_206 ?_
  refine sw_sld 207 G hX hbl hbA hL (i + 2) (nI_add i 2) (by omega) dL_law_207 ?_
  refine sw_callVA 208 G E 2 dL_law_208 (FC.tail (wO Θ q f2 ++ wC Θ ad c2) hm) (gwV lk_d2096ce7 lk_1c8e0aad lk_fd106b15 lk_6d91b6d2 lk_29db4c28) rfl hvW_X6_begin ⟨rfl, rfl⟩ ⟨Nat.le_of_ble_eq_true rfl, Nat.le_of_ble_eq_true rfl⟩ ⟨hk.1, hk.2⟩ rfl rfl (Nat.le_of_ble_eq_true rfl) 0 rfl vc6 rfl ?_
  refine sw_istore 211 G _ dL_law_211 (by decide) rfl ?_
  refine sw_aload_n 213 G dL_law_213 4 rfl ?_
  refine sw_callVA 214 G E 0 dL_law_214 (FC.tail (wO Θ q f2 ++ wC Θ ad c2) (kM_thr μ2)) (gwV lk_79577f46 lk_0e4a22c5 lk_9b3f5359 lk_6d91b6d2 lk_8bbd5765) rfl hvW_X6_thrown ⟨rfl, rfl⟩ ⟨Nat.le_of_ble_eq_true rfl, Nat.le_of_ble_eq_true rfl⟩ ⟨hk.1, hk.2⟩ rfl rfl (Nat.le_of_ble_eq_true rfl) 0 rfl vc6 rfl ?_
  refine sw_iload 217 G dL_law_217 1 rfl ?_
  refine sw_Ieq 219 224 G dL_law_219 rfl (fun _ => ?_) (fun h => absurd hth h)
  refine sw_iload 224 G dL_law_224 1 rfl ?_
  have fin : sw Θ p e room_1 s m args below meth c A Q 8 (k + 1 + 0 + 0) (n + 6 + 0 + 0) 241 [(6, .int r), (5, .int (nI kk)), (4, .int (nI i)), (3, .ref q), (2, .ref (am 0)), (1, .ref (ad 0)), (0, .ref b)] [] (wL Θ ad am q f2 c2 μ2) := by
    refine sw_goto 241 G 1594 dL_law_241 rfl ?_
    refine sw_lv (lvB b ad am q i) [2, 3, 4, 5, 6] rfl ?_
    exact NX c2 μ2 f2 _ _ hI (by omega) (by omega)
  refine sw_Bne 226 241 G dL_law_226 rfl (fun _ => fin) (fun h => ?_)
  have hz : kk = 0 := by
    by_cases z : kk = 0
    · exact z
    · exact absurd h (nI_ne0 (by omega) (by omega))
  refine sw_aload_n 229 G dL_law_229 3 rfl ?_
  refine sw_iconst 230 G (0 : Int32) dL_law_230 rfl ?_
  refine sw_lald 231 G 10 dL_law_231 rfl gd0 (fun _ => ?_)
  refine sw_iload 232 G dL_law_232 0 rfl ?_
  refine sw_i2l 234 G dL_law_234 ?_
  refine sw_lcmp 235 G dL_law_235 ?_
  exact sw_Beq 236 241 G dL_law_236 rfl (fun _ => fin) (fun h => absurd (by rw [hf0 hz]; exact lgc_self _) h)
theorem st_mark (G : okG Θ p s m args c A 8 cL_law RL lwT) (E : Ev K A s s.heap) (hST : Θ.1.stackTraces = false) (hX : va_X b L xs s s.heap) (hbl : b < s.heap.size) (hbA : ¬ A b) (hL : L ≤ 3072) (hi : i + 5 < L) (hB : B < 2 ^ 30) {cs : CSt} {μ : MSt} (inv : Inv B cs μ) (f : Nat → Int64) (hk : k + 1 ≤ 601024 ∧ n + 6 ≤ 7293034)
    (NX : ∀ (c2 : CSt) (μ2 : MSt) (f2 : Nat → Int64) (k2 n2 : Nat), Inv (B + 20000) c2 μ2 → k2 ≤ k + 1 → n2 ≤ n + 6 → sw Θ p e room_1 s m args below meth c A Q 8 k2 n2 1594 (lvB b ad am q i) [] (wL Θ ad am q f2 c2 μ2)) : sw Θ p e room_1 s m args below meth c A Q 8 k n 244 (lvB b ad am q i) [] (wL Θ ad am q f cs μ) := by
  obtain ⟨kk, r, c2, μ2, f2, hkk, hf0, hw, hm, hth, hI⟩ := wr_mark (K := K) (ad := ad) (am := am) Θ q f hST inv (xs (i + 1)) (xs (i + 2)) (xs (i + 3)) (xs (i + 4)) (xs (i + 5))
  refine sw_aload_n 244 G dL_law_244 3 rfl ?_
  refine sw_aload_n 245 G dL_law_245 4 rfl ?_
  refine sw_iload 246 G dL_law_246 0 rfl ?_
  refine sw_iconst 248 G (1 : Int32) dL_law_248 rfl ?_
  refine sw_iadd 249 G dL_law_249 ?_
  refine sw_sld 250 G hX hbl hbA hL (i + 1) (nI_add i 1) (by omega) dL_law_250 ?_
  refine sw_aload_n 251 G dL_law_251 4 rfl ?_
  refine sw_iload 252 G dL_law_252 0 rfl ?_
  refine sw_iconst 254 G (2 : Int32) dL_law_254 rfl ?_
  refine sw_iadd 255 G dL_law_255 ?_
  refine sw_sld 256 G hX hbl hbA hL (i + 2) (nI_add i 2) (by omega) dL_law_256 ?_
  refine sw_aload_n 257 G dL_law_257 4 rfl ?_
  refine sw_iload 258 G dL_law_258 0 rfl ?_
  refine sw_iconst 260 G (3 : Int32) dL_law_260 rfl ?_
  refine sw_iadd 261 G dL_law_261 ?_
  refine sw_sld 262 G hX hbl hbA hL (i + 3) (nI_add i 3) (by omega) dL_law_262 ?_
  refine sw_aload_n 263 G dL_law_263 4 rfl ?_
  refine sw_iload 264 G dL_law_264 0 rfl ?_
  refine sw_iconst 266 G (4 : Int32) dL_law_266 rfl ?_
  refine sw_iadd 267 G dL_law_267 ?_
  refine sw_sld 268 G hX hbl hbA hL (i + 4) (nI_add i 4) (by omega) dL_law_268 ?_
  refine sw_aload_n 269 G dL_law_269 4 rfl ?_
  refine sw_iload 270 G dL_law_270 0 rfl ?_
  refine sw_iconst 272 G (5 : Int32) dL_law_272 rfl ?_
  refine sw_iadd 273 G dL_law_273 ?_
  refine sw_sld 274 G hX hbl hbA hL (i + 5) (nI_add i 5) (by omega) dL_law_274 ?_
  refine sw_aload_n 275 G dL_law_275 1 rfl ?_
  refine sw_callSH 276 G E 7 dL_law_276 (FC.head (wM Θ am μ) hw) (gwH lk_f2fa8a23 lk_4c1529af lk_febea269 lk_cab546a7) rfl hsL_mark ⟨rfl, rfl⟩ ⟨Nat.le_of_ble_eq_true rfl, Nat.le_of_ble_eq_true rfl⟩ hk rfl rfl (Nat.le_of_ble_eq_true rfl) ?_
  refine sw_istore 279 G _ dL_law_279 (by decide) rfl ?_
  refine sw_aload_n 281 G dL_law_281 3 rfl ?_
  refine sw_aload_n 282 G dL_law_282 5 rfl ?_
  refine sw_iload 283 G dL_law_283 1 rfl ?_
  refine sw_iconst 285 G (1 : Int32) dL_law_285 rfl ?_
  refine sw_iadd 286 G dL_law_286 ?_
  refine sw_sld 287 G hX hbl hbA hL (i + 1) (nI_add i 1) (by omega) dL_law_287 ?_
  refine sw_aload_n 288 G dL_law_288 5 rfl ?_
  refine sw_iload 289 G dL_law_289 1 rfl ?_
  refine sw_iconst 291 G (2 : Int32) dL_law_291 rfl ?_
  refine sw_iadd 292 G dL_law_292 ?_
  refine sw_sld 293 G hX hbl hbA hL (i + 2) (nI_add i 2) (by omega) dL_law_293 ?_
  refine sw_aload_n 294 G dL_law_294 5 rfl ?_
  refine sw_iload 295 G dL_law_295 1 rfl ?_
  refine sw_iconst 297 G (3 : Int32) dL_law_297 rfl ?_
  refine sw_iadd 298 G dL_law_298 ?_
  refine sw_sld 299 G hX hbl hbA hL (i + 3) (nI_add i 3) (by omega) dL_law_299 ?_
  refine sw_aload_n 300 G dL_law_300 5 rfl ?_
  refine sw_iload 301 G dL_law_301 1 rfl ?_
  refine sw_iconst 303 G (4 : Int32) dL_law_303 rfl ?_
  refine sw_iadd 304 G dL_law_304 ?_
  refine sw_sld 305 G hX hbl hbA hL (i + 4) (nI_add i 4) (by omega) dL_law_305 ?_
  refine sw_aload_n 306 G dL_law_306 5 rfl ?_
  refine sw_iload 307 G dL_law_307 1 rfl ?_
  refine sw_iconst 309 G (5 : Int32) dL_law_309 rfl ?_
  refine sw_iadd 310 G dL_law_310 ?_
  refine sw_sld 311 G hX hbl hbA hL (i + 5) (nI_add i 5) (by omega) dL_law_311 ?_
  refine sw_callVA 312 G E 5 dL_law_312 (FC.tail (wO Θ q f2 ++ wC Θ ad c2) hm) (gwV lk_03e327b1 lk_03b0fd13 lk_4486b888 lk_6d91b6d2 lk_529c8ab7) rfl hvW_X6_mark ⟨rfl, rfl⟩ ⟨Nat.le_of_ble_eq_true rfl, Nat.le_of_ble_eq_true rfl⟩ ⟨hk.1, hk.2⟩ rfl rfl (Nat.le_of_ble_eq_true rfl) 0 rfl vc6 rfl ?_
  refine sw_istore 315 G _ dL_law_315 (by decide) rfl ?_
  refine sw_aload_n 317 G dL_law_317 4 rfl ?_
  refine sw_callVA 318 G E 0 dL_law_318 (FC.tail (wO Θ q f2 ++ wC Θ ad c2) (kM_thr μ2)) (gwV lk_79577f46 lk_0e4a22c5 lk_9b3f5359 lk_6d91b6d2 lk_8bbd5765) rfl hvW_X6_thrown ⟨rfl, rfl⟩ ⟨Nat.le_of_ble_eq_true rfl, Nat.le_of_ble_eq_true rfl⟩ ⟨hk.1, hk.2⟩ rfl rfl (Nat.le_of_ble_eq_true rfl) 0 rfl vc6 rfl ?_
  refine sw_iload 321 G dL_law_321 1 rfl ?_
  refine sw_Ieq 323 328 G dL_law_323 rfl (fun _ => ?_) (fun h => absurd hth h)
  refine sw_iload 328 G dL_law_328 1 rfl ?_
  have fin : sw Θ p e room_1 s m args below meth c A Q 8 (k + 1 + 0 + 0) (n + 6 + 0 + 0) 345 [(6, .int r), (5, .int (nI kk)), (4, .int (nI i)), (3, .ref q), (2, .ref (am 0)), (1, .ref (ad 0)), (0, .ref b)] [] (wL Θ ad am q f2 c2 μ2) := by
    refine sw_goto 345 G 1594 dL_law_345 rfl ?_
    refine sw_lv (lvB b ad am q i) [2, 3, 4, 5, 6] rfl ?_
    exact NX c2 μ2 f2 _ _ hI (by omega) (by omega)
  refine sw_Bne 330 345 G dL_law_330 rfl (fun _ => fin) (fun h => ?_)
  have hz : kk = 0 := by
    by_cases z : kk = 0
    · exact z
    · exact absurd h (nI_ne0 (by omega) (by omega))
  refine sw_aload_n 333 G dL_law_333 3 rfl ?_
  refine sw_iconst 334 G (0 : Int32) dL_law_334 rfl ?_
  refine sw_lald 335 G 10 dL_law_335 rfl gd0 (fun _ => ?_)
  refine sw_iload 336 G dL_law_336 0 rfl ?_
  refine sw_i2l 338 G dL_law_338 ?_
  refine sw_lcmp 339 G dL_law_339 ?_
  exact sw_Beq 340 345 G dL_law_340 rfl (fun _ => fin) (fun h => absurd (by rw [hf0 hz]; exact lgc_self _) h)
theorem st_setCarrier (G : okG Θ p s m args c A 8 cL_law RL lwT) (E : Ev K A s s.heap) (hST : Θ.1.stackTraces = false) (hX : va_X b L xs s s.heap) (hbl : b < s.heap.size) (hbA : ¬ A b) (hL : L ≤ 3072) (hi : i + 5 < L) (hB : B < 2 ^ 30) {cs : CSt} {μ : MSt} (inv : Inv B cs μ) (f : Nat → Int64) (hk : k + 1 ≤ 601024 ∧ n + 6 ≤ 7293034)
    (NX : ∀ (c2 : CSt) (μ2 : MSt) (f2 : Nat → Int64) (k2 n2 : Nat), Inv (B + 20000) c2 μ2 → k2 ≤ k + 1 → n2 ≤ n + 6 → sw Θ p e room_1 s m args below meth c A Q 8 k2 n2 1594 (lvB b ad am q i) [] (wL Θ ad am q f2 c2 μ2)) : sw Θ p e room_1 s m args below meth c A Q 8 k n 348 (lvB b ad am q i) [] (wL Θ ad am q f cs μ) := by
  obtain ⟨kk, r, c2, μ2, f2, hkk, hf0, hw, hm, hth, hI⟩ := wr_setCarrier (K := K) (ad := ad) (am := am) Θ q f hST inv (xs (i + 1))
  refine sw_aload_n 348 G dL_law_348 3 rfl ?_
  refine sw_aload_n 349 G dL_law_349 4 rfl ?_
  refine sw_iload 350 G dL_law_350 0 rfl ?_
  refine sw_iconst 352 G (1 : Int32) dL_law_352 rfl ?_
  refine sw_iadd 353 G dL_law_353 ?_
  refine sw_sld 354 G hX hbl hbA hL (i + 1) (nI_add i 1) (by omega) dL_law_354 ?_
  refine sw_aload_n 355 G dL_law_355 1 rfl ?_
  refine sw_callSH 356 G E 3 dL_law_356 (FC.head (wM Θ am μ) hw) (gwH lk_6da6942b lk_fffbdc85 lk_aeb0731f lk_5905a78c) rfl hsL_setCarrier ⟨rfl, rfl⟩ ⟨Nat.le_of_ble_eq_true rfl, Nat.le_of_ble_eq_true rfl⟩ hk rfl rfl (Nat.le_of_ble_eq_true rfl) ?_
  refine sw_istore 359 G _ dL_law_359 (by decide) rfl ?_
  refine sw_aload_n 361 G dL_law_361 3 rfl ?_
  refine sw_aload_n 362 G dL_law_362 5 rfl ?_
  refine sw_iload 363 G dL_law_363 1 rfl ?_
  refine sw_iconst 365 G (1 : Int32) dL_law_365 rfl ?_
  refine sw_iadd 366 G dL_law_366 ?_
  refine sw_sld 367 G hX hbl hbA hL (i + 1) (nI_add i 1) (by omega) dL_law_367 ?_
  refine sw_callVA 368 G E 1 dL_law_368 (FC.tail (wO Θ q f2 ++ wC Θ ad c2) hm) (gwV lk_05164195 lk_82af60d8 lk_2137cc81 lk_6d91b6d2 lk_ae8ba4e4) rfl hvW_X6_setCarrier ⟨rfl, rfl⟩ ⟨Nat.le_of_ble_eq_true rfl, Nat.le_of_ble_eq_true rfl⟩ ⟨hk.1, hk.2⟩ rfl rfl (Nat.le_of_ble_eq_true rfl) 0 rfl vc6 rfl ?_
  refine sw_istore 371 G _ dL_law_371 (by decide) rfl ?_
  refine sw_aload_n 373 G dL_law_373 4 rfl ?_
  refine sw_callVA 374 G E 0 dL_law_374 (FC.tail (wO Θ q f2 ++ wC Θ ad c2) (kM_thr μ2)) (gwV lk_79577f46 lk_0e4a22c5 lk_9b3f5359 lk_6d91b6d2 lk_8bbd5765) rfl hvW_X6_thrown ⟨rfl, rfl⟩ ⟨Nat.le_of_ble_eq_true rfl, Nat.le_of_ble_eq_true rfl⟩ ⟨hk.1, hk.2⟩ rfl rfl (Nat.le_of_ble_eq_true rfl) 0 rfl vc6 rfl ?_
  refine sw_iload 377 G dL_law_377 1 rfl ?_
  refine sw_Ieq 379 384 G dL_law_379 rfl (fun _ => ?_) (fun h => absurd hth h)
  refine sw_iload 384 G dL_law_384 1 rfl ?_
  have fin : sw Θ p e room_1 s m args below meth c A Q 8 (k + 1 + 0 + 0) (n + 6 + 0 + 0) 401 [(6, .int r), (5, .int (nI kk)), (4, .int (nI i)), (3, .ref q), (2, .ref (am 0)), (1, .ref (ad 0)), (0, .ref b)] [] (wL Θ ad am q f2 c2 μ2) := by
    refine sw_goto 401 G 1594 dL_law_401 rfl ?_
    refine sw_lv (lvB b ad am q i) [2, 3, 4, 5, 6] rfl ?_
    exact NX c2 μ2 f2 _ _ hI (by omega) (by omega)
  refine sw_Bne 386 401 G dL_law_386 rfl (fun _ => fin) (fun h => ?_)
  have hz : kk = 0 := by
    by_cases z : kk = 0
    · exact z
    · exact absurd h (nI_ne0 (by omega) (by omega))
  refine sw_aload_n 389 G dL_law_389 3 rfl ?_
  refine sw_iconst 390 G (0 : Int32) dL_law_390 rfl ?_
  refine sw_lald 391 G 10 dL_law_391 rfl gd0 (fun _ => ?_)
  refine sw_iload 392 G dL_law_392 0 rfl ?_
  refine sw_i2l 394 G dL_law_394 ?_
  refine sw_lcmp 395 G dL_law_395 ?_
  exact sw_Beq 396 401 G dL_law_396 rfl (fun _ => fin) (fun h => absurd (by rw [hf0 hz]; exact lgc_self _) h)
theorem st_set (G : okG Θ p s m args c A 8 cL_law RL lwT) (E : Ev K A s s.heap) (hST : Θ.1.stackTraces = false) (hX : va_X b L xs s s.heap) (hbl : b < s.heap.size) (hbA : ¬ A b) (hL : L ≤ 3072) (hi : i + 5 < L) (hB : B < 2 ^ 30) {cs : CSt} {μ : MSt} (inv : Inv B cs μ) (f : Nat → Int64) (hk : k + 1 ≤ 601024 ∧ n + 6 ≤ 7293034)
    (NX : ∀ (c2 : CSt) (μ2 : MSt) (f2 : Nat → Int64) (k2 n2 : Nat), Inv (B + 20000) c2 μ2 → k2 ≤ k + 1 → n2 ≤ n + 6 → sw Θ p e room_1 s m args below meth c A Q 8 k2 n2 1594 (lvB b ad am q i) [] (wL Θ ad am q f2 c2 μ2)) : sw Θ p e room_1 s m args below meth c A Q 8 k n 404 (lvB b ad am q i) [] (wL Θ ad am q f cs μ) := by
  obtain ⟨kk, r, c2, μ2, f2, hkk, hf0, hw, hm, hth, hI⟩ := wr_set (K := K) (ad := ad) (am := am) Θ q f hST inv (xs (i + 1)) (xs (i + 2))
  refine sw_aload_n 404 G dL_law_404 3 rfl ?_
  refine sw_aload_n 405 G dL_law_405 4 rfl ?_
  refine sw_iload 406 G dL_law_406 0 rfl ?_
  refine sw_iconst 408 G (1 : Int32) dL_law_408 rfl ?_
  refine sw_iadd 409 G dL_law_409 ?_
  refine sw_sld 410 G hX hbl hbA hL (i + 1) (nI_add i 1) (by omega) dL_law_410 ?_
  refine sw_aload_n 411 G dL_law_411 4 rfl ?_
  refine sw_iload 412 G dL_law_412 0 rfl ?_
  refine sw_iconst 414 G (2 : Int32) dL_law_414 rfl ?_
  refine sw_iadd 415 G dL_law_415 ?_
  refine sw_sld 416 G hX hbl hbA hL (i + 2) (nI_add i 2) (by omega) dL_law_416 ?_
  refine sw_aload_n 417 G dL_law_417 1 rfl ?_
  refine sw_callSH 418 G E 4 dL_law_418 (FC.head (wM Θ am μ) hw) (gwH lk_ffe6c192 lk_6884fb68 lk_eca1801c lk_65f46832) rfl hsL_set ⟨rfl, rfl⟩ ⟨Nat.le_of_ble_eq_true rfl, Nat.le_of_ble_eq_true rfl⟩ hk rfl rfl (Nat.le_of_ble_eq_true rfl) ?_
  refine sw_istore 421 G _ dL_law_421 (by decide) rfl ?_
  refine sw_aload_n 423 G dL_law_423 3 rfl ?_
  refine sw_aload_n 424 G dL_law_424 5 rfl ?_
  refine sw_iload 425 G dL_law_425 1 rfl ?_
  refine sw_iconst 427 G (1 : Int32) dL_law_427 rfl ?_
  refine sw_iadd 428 G dL_law_428 ?_
  refine sw_sld 429 G hX hbl hbA hL (i + 1) (nI_add i 1) (by omega) dL_law_429 ?_
  refine sw_aload_n 430 G dL_law_430 5 rfl ?_
  refine sw_iload 431 G dL_law_431 1 rfl ?_
  refine sw_iconst 433 G (2 : Int32) dL_law_433 rfl ?_
  refine sw_iadd 434 G dL_law_434 ?_
  refine sw_sld 435 G hX hbl hbA hL (i + 2) (nI_add i 2) (by omega) dL_law_435 ?_
  refine sw_callVA 436 G E 2 dL_law_436 (FC.tail (wO Θ q f2 ++ wC Θ ad c2) hm) (gwV lk_8f44223d lk_912f592c lk_c36bba28 lk_6d91b6d2 lk_c79416fe) rfl hvW_X6_set ⟨rfl, rfl⟩ ⟨Nat.le_of_ble_eq_true rfl, Nat.le_of_ble_eq_true rfl⟩ ⟨hk.1, hk.2⟩ rfl rfl (Nat.le_of_ble_eq_true rfl) 0 rfl vc6 rfl ?_
  refine sw_istore 439 G _ dL_law_439 (by decide) rfl ?_
  refine sw_aload_n 441 G dL_law_441 4 rfl ?_
  refine sw_callVA 442 G E 0 dL_law_442 (FC.tail (wO Θ q f2 ++ wC Θ ad c2) (kM_thr μ2)) (gwV lk_79577f46 lk_0e4a22c5 lk_9b3f5359 lk_6d91b6d2 lk_8bbd5765) rfl hvW_X6_thrown ⟨rfl, rfl⟩ ⟨Nat.le_of_ble_eq_true rfl, Nat.le_of_ble_eq_true rfl⟩ ⟨hk.1, hk.2⟩ rfl rfl (Nat.le_of_ble_eq_true rfl) 0 rfl vc6 rfl ?_
  refine sw_iload 445 G dL_law_445 1 rfl ?_
  refine sw_Ieq 447 452 G dL_law_447 rfl (fun _ => ?_) (fun h => absurd hth h)
  refine sw_iload 452 G dL_law_452 1 rfl ?_
  have fin : sw Θ p e room_1 s m args below meth c A Q 8 (k + 1 + 0 + 0) (n + 6 + 0 + 0) 469 [(6, .int r), (5, .int (nI kk)), (4, .int (nI i)), (3, .ref q), (2, .ref (am 0)), (1, .ref (ad 0)), (0, .ref b)] [] (wL Θ ad am q f2 c2 μ2) := by
    refine sw_goto 469 G 1594 dL_law_469 rfl ?_
    refine sw_lv (lvB b ad am q i) [2, 3, 4, 5, 6] rfl ?_
    exact NX c2 μ2 f2 _ _ hI (by omega) (by omega)
  refine sw_Bne 454 469 G dL_law_454 rfl (fun _ => fin) (fun h => ?_)
  have hz : kk = 0 := by
    by_cases z : kk = 0
    · exact z
    · exact absurd h (nI_ne0 (by omega) (by omega))
  refine sw_aload_n 457 G dL_law_457 3 rfl ?_
  refine sw_iconst 458 G (0 : Int32) dL_law_458 rfl ?_
  refine sw_lald 459 G 10 dL_law_459 rfl gd0 (fun _ => ?_)
  refine sw_iload 460 G dL_law_460 0 rfl ?_
  refine sw_i2l 462 G dL_law_462 ?_
  refine sw_lcmp 463 G dL_law_463 ?_
  exact sw_Beq 464 469 G dL_law_464 rfl (fun _ => fin) (fun h => absurd (by rw [hf0 hz]; exact lgc_self _) h)
theorem st_addPunch (G : okG Θ p s m args c A 8 cL_law RL lwT) (E : Ev K A s s.heap) (hST : Θ.1.stackTraces = false) (hX : va_X b L xs s s.heap) (hbl : b < s.heap.size) (hbA : ¬ A b) (hL : L ≤ 3072) (hi : i + 5 < L) (hB : B < 2 ^ 30) {cs : CSt} {μ : MSt} (inv : Inv B cs μ) (f : Nat → Int64) (hk : k + 1 ≤ 601024 ∧ n + 6 ≤ 7293034)
    (NX : ∀ (c2 : CSt) (μ2 : MSt) (f2 : Nat → Int64) (k2 n2 : Nat), Inv (B + 20000) c2 μ2 → k2 ≤ k + 1 → n2 ≤ n + 6 → sw Θ p e room_1 s m args below meth c A Q 8 k2 n2 1594 (lvB b ad am q i) [] (wL Θ ad am q f2 c2 μ2)) : sw Θ p e room_1 s m args below meth c A Q 8 k n 472 (lvB b ad am q i) [] (wL Θ ad am q f cs μ) := by
  obtain ⟨kk, r, c2, μ2, f2, hkk, hf0, hw, hm, hth, hI⟩ := wr_addPunch (K := K) (ad := ad) (am := am) Θ q f hST inv (xs (i + 1)) (xs (i + 2)) (xs (i + 3)) (xs (i + 4))
  refine sw_aload_n 472 G dL_law_472 3 rfl ?_
  refine sw_aload_n 473 G dL_law_473 4 rfl ?_
  refine sw_iload 474 G dL_law_474 0 rfl ?_
  refine sw_iconst 476 G (1 : Int32) dL_law_476 rfl ?_
  refine sw_iadd 477 G dL_law_477 ?_
  refine sw_sld 478 G hX hbl hbA hL (i + 1) (nI_add i 1) (by omega) dL_law_478 ?_
  refine sw_aload_n 479 G dL_law_479 4 rfl ?_
  refine sw_iload 480 G dL_law_480 0 rfl ?_
  refine sw_iconst 482 G (2 : Int32) dL_law_482 rfl ?_
  refine sw_iadd 483 G dL_law_483 ?_
  refine sw_sld 484 G hX hbl hbA hL (i + 2) (nI_add i 2) (by omega) dL_law_484 ?_
  refine sw_aload_n 485 G dL_law_485 4 rfl ?_
  refine sw_iload 486 G dL_law_486 0 rfl ?_
  refine sw_iconst 488 G (3 : Int32) dL_law_488 rfl ?_
  refine sw_iadd 489 G dL_law_489 ?_
  refine sw_sld 490 G hX hbl hbA hL (i + 3) (nI_add i 3) (by omega) dL_law_490 ?_
  refine sw_aload_n 491 G dL_law_491 4 rfl ?_
  refine sw_iload 492 G dL_law_492 0 rfl ?_
  refine sw_iconst 494 G (4 : Int32) dL_law_494 rfl ?_
  refine sw_iadd 495 G dL_law_495 ?_
  refine sw_sld 496 G hX hbl hbA hL (i + 4) (nI_add i 4) (by omega) dL_law_496 ?_
  refine sw_aload_n 497 G dL_law_497 1 rfl ?_
  refine sw_callSH 498 G E 6 dL_law_498 (FC.head (wM Θ am μ) hw) (gwH lk_bc414aa3 lk_a39319f2 lk_5cfd425d lk_368306a9) rfl hsL_addPunch ⟨rfl, rfl⟩ ⟨Nat.le_of_ble_eq_true rfl, Nat.le_of_ble_eq_true rfl⟩ hk rfl rfl (Nat.le_of_ble_eq_true rfl) ?_
  refine sw_istore 501 G _ dL_law_501 (by decide) rfl ?_
  refine sw_aload_n 503 G dL_law_503 3 rfl ?_
  refine sw_aload_n 504 G dL_law_504 5 rfl ?_
  refine sw_iload 505 G dL_law_505 1 rfl ?_
  refine sw_iconst 507 G (1 : Int32) dL_law_507 rfl ?_
  refine sw_iadd 508 G dL_law_508 ?_
  refine sw_sld 509 G hX hbl hbA hL (i + 1) (nI_add i 1) (by omega) dL_law_509 ?_
  refine sw_aload_n 510 G dL_law_510 5 rfl ?_
  refine sw_iload 511 G dL_law_511 1 rfl ?_
  refine sw_iconst 513 G (2 : Int32) dL_law_513 rfl ?_
  refine sw_iadd 514 G dL_law_514 ?_
  refine sw_sld 515 G hX hbl hbA hL (i + 2) (nI_add i 2) (by omega) dL_law_515 ?_
  refine sw_aload_n 516 G dL_law_516 5 rfl ?_
  refine sw_iload 517 G dL_law_517 1 rfl ?_
  refine sw_iconst 519 G (3 : Int32) dL_law_519 rfl ?_
  refine sw_iadd 520 G dL_law_520 ?_
  refine sw_sld 521 G hX hbl hbA hL (i + 3) (nI_add i 3) (by omega) dL_law_521 ?_
  refine sw_aload_n 522 G dL_law_522 5 rfl ?_
  refine sw_iload 523 G dL_law_523 1 rfl ?_
  refine sw_iconst 525 G (4 : Int32) dL_law_525 rfl ?_
  refine sw_iadd 526 G dL_law_526 ?_
  refine sw_sld 527 G hX hbl hbA hL (i + 4) (nI_add i 4) (by omega) dL_law_527 ?_
  refine sw_callVA 528 G E 4 dL_law_528 (FC.tail (wO Θ q f2 ++ wC Θ ad c2) hm) (gwV lk_81cf8262 lk_5616fdd4 lk_30c43bfd lk_6d91b6d2 lk_cdfc0e61) rfl hvW_X6_addPunch ⟨rfl, rfl⟩ ⟨Nat.le_of_ble_eq_true rfl, Nat.le_of_ble_eq_true rfl⟩ ⟨hk.1, hk.2⟩ rfl rfl (Nat.le_of_ble_eq_true rfl) 0 rfl vc6 rfl ?_
  refine sw_istore 531 G _ dL_law_531 (by decide) rfl ?_
  refine sw_aload_n 533 G dL_law_533 4 rfl ?_
  refine sw_callVA 534 G E 0 dL_law_534 (FC.tail (wO Θ q f2 ++ wC Θ ad c2) (kM_thr μ2)) (gwV lk_79577f46 lk_0e4a22c5 lk_9b3f5359 lk_6d91b6d2 lk_8bbd5765) rfl hvW_X6_thrown ⟨rfl, rfl⟩ ⟨Nat.le_of_ble_eq_true rfl, Nat.le_of_ble_eq_true rfl⟩ ⟨hk.1, hk.2⟩ rfl rfl (Nat.le_of_ble_eq_true rfl) 0 rfl vc6 rfl ?_
  refine sw_iload 537 G dL_law_537 1 rfl ?_
  refine sw_Ieq 539 544 G dL_law_539 rfl (fun _ => ?_) (fun h => absurd hth h)
  refine sw_iload 544 G dL_law_544 1 rfl ?_
  have fin : sw Θ p e room_1 s m args below meth c A Q 8 (k + 1 + 0 + 0) (n + 6 + 0 + 0) 561 [(6, .int r), (5, .int (nI kk)), (4, .int (nI i)), (3, .ref q), (2, .ref (am 0)), (1, .ref (ad 0)), (0, .ref b)] [] (wL Θ ad am q f2 c2 μ2) := by
    refine sw_goto 561 G 1594 dL_law_561 rfl ?_
    refine sw_lv (lvB b ad am q i) [2, 3, 4, 5, 6] rfl ?_
    exact NX c2 μ2 f2 _ _ hI (by omega) (by omega)
  refine sw_Bne 546 561 G dL_law_546 rfl (fun _ => fin) (fun h => ?_)
  have hz : kk = 0 := by
    by_cases z : kk = 0
    · exact z
    · exact absurd h (nI_ne0 (by omega) (by omega))
  refine sw_aload_n 549 G dL_law_549 3 rfl ?_
  refine sw_iconst 550 G (0 : Int32) dL_law_550 rfl ?_
  refine sw_lald 551 G 10 dL_law_551 rfl gd0 (fun _ => ?_)
  refine sw_iload 552 G dL_law_552 0 rfl ?_
  refine sw_i2l 554 G dL_law_554 ?_
  refine sw_lcmp 555 G dL_law_555 ?_
  exact sw_Beq 556 561 G dL_law_556 rfl (fun _ => fin) (fun h => absurd (by rw [hf0 hz]; exact lgc_self _) h)
theorem st_addBend (G : okG Θ p s m args c A 8 cL_law RL lwT) (E : Ev K A s s.heap) (hST : Θ.1.stackTraces = false) (hX : va_X b L xs s s.heap) (hbl : b < s.heap.size) (hbA : ¬ A b) (hL : L ≤ 3072) (hi : i + 5 < L) (hB : B < 2 ^ 30) {cs : CSt} {μ : MSt} (inv : Inv B cs μ) (f : Nat → Int64) (hk : k + 1 ≤ 601024 ∧ n + 6 ≤ 7293034)
    (NX : ∀ (c2 : CSt) (μ2 : MSt) (f2 : Nat → Int64) (k2 n2 : Nat), Inv (B + 20000) c2 μ2 → k2 ≤ k + 1 → n2 ≤ n + 6 → sw Θ p e room_1 s m args below meth c A Q 8 k2 n2 1594 (lvB b ad am q i) [] (wL Θ ad am q f2 c2 μ2)) : sw Θ p e room_1 s m args below meth c A Q 8 k n 564 (lvB b ad am q i) [] (wL Θ ad am q f cs μ) := by
  obtain ⟨kk, r, c2, μ2, f2, hkk, hf0, hw, hm, hth, hI⟩ := wr_addBend (K := K) (ad := ad) (am := am) Θ q f hST inv (xs (i + 1)) (xs (i + 2)) (xs (i + 3))
  refine sw_aload_n 564 G dL_law_564 3 rfl ?_
  refine sw_aload_n 565 G dL_law_565 4 rfl ?_
  refine sw_iload 566 G dL_law_566 0 rfl ?_
  refine sw_iconst 568 G (1 : Int32) dL_law_568 rfl ?_
  refine sw_iadd 569 G dL_law_569 ?_
  refine sw_sld 570 G hX hbl hbA hL (i + 1) (nI_add i 1) (by omega) dL_law_570 ?_
  refine sw_aload_n 571 G dL_law_571 4 rfl ?_
  refine sw_iload 572 G dL_law_572 0 rfl ?_
  refine sw_iconst 574 G (2 : Int32) dL_law_574 rfl ?_
  refine sw_iadd 575 G dL_law_575 ?_
  refine sw_sld 576 G hX hbl hbA hL (i + 2) (nI_add i 2) (by omega) dL_law_576 ?_
  refine sw_aload_n 577 G dL_law_577 4 rfl ?_
  refine sw_iload 578 G dL_law_578 0 rfl ?_
  refine sw_iconst 580 G (3 : Int32) dL_law_580 rfl ?_
  refine sw_iadd 581 G dL_law_581 ?_
  refine sw_sld 582 G hX hbl hbA hL (i + 3) (nI_add i 3) (by omega) dL_law_582 ?_
  refine sw_aload_n 583 G dL_law_583 1 rfl ?_
  refine sw_callSH 584 G E 5 dL_law_584 (FC.head (wM Θ am μ) hw) (gwH lk_0896b8bb lk_afe16768 lk_72fda863 lk_f873a666) rfl hsL_addBend ⟨rfl, rfl⟩ ⟨Nat.le_of_ble_eq_true rfl, Nat.le_of_ble_eq_true rfl⟩ hk rfl rfl (Nat.le_of_ble_eq_true rfl) ?_
  refine sw_istore 587 G _ dL_law_587 (by decide) rfl ?_
  refine sw_aload_n 589 G dL_law_589 3 rfl ?_
  refine sw_aload_n 590 G dL_law_590 5 rfl ?_
  refine sw_iload 591 G dL_law_591 1 rfl ?_
  refine sw_iconst 593 G (1 : Int32) dL_law_593 rfl ?_
  refine sw_iadd 594 G dL_law_594 ?_
  refine sw_sld 595 G hX hbl hbA hL (i + 1) (nI_add i 1) (by omega) dL_law_595 ?_
  refine sw_aload_n 596 G dL_law_596 5 rfl ?_
  refine sw_iload 597 G dL_law_597 1 rfl ?_
  refine sw_iconst 599 G (2 : Int32) dL_law_599 rfl ?_
  refine sw_iadd 600 G dL_law_600 ?_
  refine sw_sld 601 G hX hbl hbA hL (i + 2) (nI_add i 2) (by omega) dL_law_601 ?_
  refine sw_aload_n 602 G dL_law_602 5 rfl ?_
  refine sw_iload 603 G dL_law_603 1 rfl ?_
  refine sw_iconst 605 G (3 : Int32) dL_law_605 rfl ?_
  refine sw_iadd 606 G dL_law_606 ?_
  refine sw_sld 607 G hX hbl hbA hL (i + 3) (nI_add i 3) (by omega) dL_law_607 ?_
  refine sw_callVA 608 G E 3 dL_law_608 (FC.tail (wO Θ q f2 ++ wC Θ ad c2) hm) (gwV lk_ef8a4c53 lk_f31a0adb lk_06a8ee85 lk_6d91b6d2 lk_47bbb569) rfl hvW_X6_addBend ⟨rfl, rfl⟩ ⟨Nat.le_of_ble_eq_true rfl, Nat.le_of_ble_eq_true rfl⟩ ⟨hk.1, hk.2⟩ rfl rfl (Nat.le_of_ble_eq_true rfl) 0 rfl vc6 rfl ?_
  refine sw_istore 611 G _ dL_law_611 (by decide) rfl ?_
  refine sw_aload_n 613 G dL_law_613 4 rfl ?_
  refine sw_callVA 614 G E 0 dL_law_614 (FC.tail (wO Θ q f2 ++ wC Θ ad c2) (kM_thr μ2)) (gwV lk_79577f46 lk_0e4a22c5 lk_9b3f5359 lk_6d91b6d2 lk_8bbd5765) rfl hvW_X6_thrown ⟨rfl, rfl⟩ ⟨Nat.le_of_ble_eq_true rfl, Nat.le_of_ble_eq_true rfl⟩ ⟨hk.1, hk.2⟩ rfl rfl (Nat.le_of_ble_eq_true rfl) 0 rfl vc6 rfl ?_
  refine sw_iload 617 G dL_law_617 1 rfl ?_
  refine sw_Ieq 619 624 G dL_law_619 rfl (fun _ => ?_) (fun h => absurd hth h)
  refine sw_iload 624 G dL_law_624 1 rfl ?_
  have fin : sw Θ p e room_1 s m args below meth c A Q 8 (k + 1 + 0 + 0) (n + 6 + 0 + 0) 641 [(6, .int r), (5, .int (nI kk)), (4, .int (nI i)), (3, .ref q), (2, .ref (am 0)), (1, .ref (ad 0)), (0, .ref b)] [] (wL Θ ad am q f2 c2 μ2) := by
    refine sw_goto 641 G 1594 dL_law_641 rfl ?_
    refine sw_lv (lvB b ad am q i) [2, 3, 4, 5, 6] rfl ?_
    exact NX c2 μ2 f2 _ _ hI (by omega) (by omega)
  refine sw_Bne 626 641 G dL_law_626 rfl (fun _ => fin) (fun h => ?_)
  have hz : kk = 0 := by
    by_cases z : kk = 0
    · exact z
    · exact absurd h (nI_ne0 (by omega) (by omega))
  refine sw_aload_n 629 G dL_law_629 3 rfl ?_
  refine sw_iconst 630 G (0 : Int32) dL_law_630 rfl ?_
  refine sw_lald 631 G 10 dL_law_631 rfl gd0 (fun _ => ?_)
  refine sw_iload 632 G dL_law_632 0 rfl ?_
  refine sw_i2l 634 G dL_law_634 ?_
  refine sw_lcmp 635 G dL_law_635 ?_
  exact sw_Beq 636 641 G dL_law_636 rfl (fun _ => fin) (fun h => absurd (by rw [hf0 hz]; exact lgc_self _) h)
theorem st_dropOperation (G : okG Θ p s m args c A 8 cL_law RL lwT) (E : Ev K A s s.heap) (hST : Θ.1.stackTraces = false) (hX : va_X b L xs s s.heap) (hbl : b < s.heap.size) (hbA : ¬ A b) (hL : L ≤ 3072) (hi : i + 5 < L) (hB : B < 2 ^ 30) {cs : CSt} {μ : MSt} (inv : Inv B cs μ) (f : Nat → Int64) (hk : k + 1 ≤ 601024 ∧ n + 6 ≤ 7293034)
    (NX : ∀ (c2 : CSt) (μ2 : MSt) (f2 : Nat → Int64) (k2 n2 : Nat), Inv (B + 20000) c2 μ2 → k2 ≤ k + 1 → n2 ≤ n + 6 → sw Θ p e room_1 s m args below meth c A Q 8 k2 n2 1594 (lvB b ad am q i) [] (wL Θ ad am q f2 c2 μ2)) : sw Θ p e room_1 s m args below meth c A Q 8 k n 644 (lvB b ad am q i) [] (wL Θ ad am q f cs μ) := by
  obtain ⟨kk, r, c2, μ2, f2, hkk, hf0, hw, hm, hth, hI⟩ := wr_dropOperation (K := K) (ad := ad) (am := am) Θ q f hST inv (xs (i + 1))
  refine sw_aload_n 644 G dL_law_644 3 rfl ?_
  refine sw_aload_n 645 G dL_law_645 4 rfl ?_
  refine sw_iload 646 G dL_law_646 0 rfl ?_
  refine sw_iconst 648 G (1 : Int32) dL_law_648 rfl ?_
  refine sw_iadd 649 G dL_law_649 ?_
  refine sw_sld 650 G hX hbl hbA hL (i + 1) (nI_add i 1) (by omega) dL_law_650 ?_
  refine sw_aload_n 651 G dL_law_651 1 rfl ?_
  refine sw_callSH 652 G E 3 dL_law_652 (FC.head (wM Θ am μ) hw) (gwH lk_a6c76288 lk_316dfc28 lk_1a28f711 lk_5c00c30b) rfl hsL_dropOperation ⟨rfl, rfl⟩ ⟨Nat.le_of_ble_eq_true rfl, Nat.le_of_ble_eq_true rfl⟩ hk rfl rfl (Nat.le_of_ble_eq_true rfl) ?_
  refine sw_istore 655 G _ dL_law_655 (by decide) rfl ?_
  refine sw_aload_n 657 G dL_law_657 3 rfl ?_
  refine sw_aload_n 658 G dL_law_658 5 rfl ?_
  refine sw_iload 659 G dL_law_659 1 rfl ?_
  refine sw_iconst 661 G (1 : Int32) dL_law_661 rfl ?_
  refine sw_iadd 662 G dL_law_662 ?_
  refine sw_sld 663 G hX hbl hbA hL (i + 1) (nI_add i 1) (by omega) dL_law_663 ?_
  refine sw_callVA 664 G E 1 dL_law_664 (FC.tail (wO Θ q f2 ++ wC Θ ad c2) hm) (gwV lk_2fffd0ca lk_82496715 lk_399be8c8 lk_6d91b6d2 lk_99f28539) rfl hvW_X6_dropOperation ⟨rfl, rfl⟩ ⟨Nat.le_of_ble_eq_true rfl, Nat.le_of_ble_eq_true rfl⟩ ⟨hk.1, hk.2⟩ rfl rfl (Nat.le_of_ble_eq_true rfl) 0 rfl vc6 rfl ?_
  refine sw_istore 667 G _ dL_law_667 (by decide) rfl ?_
  refine sw_aload_n 669 G dL_law_669 4 rfl ?_
  refine sw_callVA 670 G E 0 dL_law_670 (FC.tail (wO Θ q f2 ++ wC Θ ad c2) (kM_thr μ2)) (gwV lk_79577f46 lk_0e4a22c5 lk_9b3f5359 lk_6d91b6d2 lk_8bbd5765) rfl hvW_X6_thrown ⟨rfl, rfl⟩ ⟨Nat.le_of_ble_eq_true rfl, Nat.le_of_ble_eq_true rfl⟩ ⟨hk.1, hk.2⟩ rfl rfl (Nat.le_of_ble_eq_true rfl) 0 rfl vc6 rfl ?_
  refine sw_iload 673 G dL_law_673 1 rfl ?_
  refine sw_Ieq 675 680 G dL_law_675 rfl (fun _ => ?_) (fun h => absurd hth h)
  refine sw_iload 680 G dL_law_680 1 rfl ?_
  have fin : sw Θ p e room_1 s m args below meth c A Q 8 (k + 1 + 0 + 0) (n + 6 + 0 + 0) 697 [(6, .int r), (5, .int (nI kk)), (4, .int (nI i)), (3, .ref q), (2, .ref (am 0)), (1, .ref (ad 0)), (0, .ref b)] [] (wL Θ ad am q f2 c2 μ2) := by
    refine sw_goto 697 G 1594 dL_law_697 rfl ?_
    refine sw_lv (lvB b ad am q i) [2, 3, 4, 5, 6] rfl ?_
    exact NX c2 μ2 f2 _ _ hI (by omega) (by omega)
  refine sw_Bne 682 697 G dL_law_682 rfl (fun _ => fin) (fun h => ?_)
  have hz : kk = 0 := by
    by_cases z : kk = 0
    · exact z
    · exact absurd h (nI_ne0 (by omega) (by omega))
  refine sw_aload_n 685 G dL_law_685 3 rfl ?_
  refine sw_iconst 686 G (0 : Int32) dL_law_686 rfl ?_
  refine sw_lald 687 G 10 dL_law_687 rfl gd0 (fun _ => ?_)
  refine sw_iload 688 G dL_law_688 0 rfl ?_
  refine sw_i2l 690 G dL_law_690 ?_
  refine sw_lcmp 691 G dL_law_691 ?_
  exact sw_Beq 692 697 G dL_law_692 rfl (fun _ => fin) (fun h => absurd (by rw [hf0 hz]; exact lgc_self _) h)
theorem st_setStation (G : okG Θ p s m args c A 8 cL_law RL lwT) (E : Ev K A s s.heap) (hST : Θ.1.stackTraces = false) (hX : va_X b L xs s s.heap) (hbl : b < s.heap.size) (hbA : ¬ A b) (hL : L ≤ 3072) (hi : i + 5 < L) (hB : B < 2 ^ 30) {cs : CSt} {μ : MSt} (inv : Inv B cs μ) (f : Nat → Int64) (hk : k + 1 ≤ 601024 ∧ n + 6 ≤ 7293034)
    (NX : ∀ (c2 : CSt) (μ2 : MSt) (f2 : Nat → Int64) (k2 n2 : Nat), Inv (B + 20000) c2 μ2 → k2 ≤ k + 1 → n2 ≤ n + 6 → sw Θ p e room_1 s m args below meth c A Q 8 k2 n2 1594 (lvB b ad am q i) [] (wL Θ ad am q f2 c2 μ2)) : sw Θ p e room_1 s m args below meth c A Q 8 k n 700 (lvB b ad am q i) [] (wL Θ ad am q f cs μ) := by
  obtain ⟨kk, r, c2, μ2, f2, hkk, hf0, hw, hm, hth, hI⟩ := wr_setStation (K := K) (ad := ad) (am := am) Θ q f hST inv (xs (i + 1)) (xs (i + 2))
  refine sw_aload_n 700 G dL_law_700 3 rfl ?_
  refine sw_aload_n 701 G dL_law_701 4 rfl ?_
  refine sw_iload 702 G dL_law_702 0 rfl ?_
  refine sw_iconst 704 G (1 : Int32) dL_law_704 rfl ?_
  refine sw_iadd 705 G dL_law_705 ?_
  refine sw_sld 706 G hX hbl hbA hL (i + 1) (nI_add i 1) (by omega) dL_law_706 ?_
  refine sw_aload_n 707 G dL_law_707 4 rfl ?_
  refine sw_iload 708 G dL_law_708 0 rfl ?_
  refine sw_iconst 710 G (2 : Int32) dL_law_710 rfl ?_
  refine sw_iadd 711 G dL_law_711 ?_
  refine sw_sld 712 G hX hbl hbA hL (i + 2) (nI_add i 2) (by omega) dL_law_712 ?_
  refine sw_aload_n 713 G dL_law_713 1 rfl ?_
  refine sw_callSH 714 G E 4 dL_law_714 (FC.head (wM Θ am μ) hw) (gwH lk_df93488d lk_232b92e3 lk_31c89417 lk_21a3ad6d) rfl hsL_setStation ⟨rfl, rfl⟩ ⟨Nat.le_of_ble_eq_true rfl, Nat.le_of_ble_eq_true rfl⟩ hk rfl rfl (Nat.le_of_ble_eq_true rfl) ?_
  refine sw_istore 717 G _ dL_law_717 (by decide) rfl ?_
  refine sw_aload_n 719 G dL_law_719 3 rfl ?_
  refine sw_aload_n 720 G dL_law_720 5 rfl ?_
  refine sw_iload 721 G dL_law_721 1 rfl ?_
  refine sw_iconst 723 G (1 : Int32) dL_law_723 rfl ?_
  refine sw_iadd 724 G dL_law_724 ?_
  refine sw_sld 725 G hX hbl hbA hL (i + 1) (nI_add i 1) (by omega) dL_law_725 ?_
  refine sw_aload_n 726 G dL_law_726 5 rfl ?_
  refine sw_iload 727 G dL_law_727 1 rfl ?_
  refine sw_iconst 729 G (2 : Int32) dL_law_729 rfl ?_
  refine sw_iadd 730 G dL_law_730 ?_
  refine sw_sld 731 G hX hbl hbA hL (i + 2) (nI_add i 2) (by omega) dL_law_731 ?_
  refine sw_callVA 732 G E 2 dL_law_732 (FC.tail (wO Θ q f2 ++ wC Θ ad c2) hm) (gwV lk_858b6d5a lk_b646916b lk_43929e44 lk_6d91b6d2 lk_9fdc4188) rfl hvW_X6_setStation ⟨rfl, rfl⟩ ⟨Nat.le_of_ble_eq_true rfl, Nat.le_of_ble_eq_true rfl⟩ ⟨hk.1, hk.2⟩ rfl rfl (Nat.le_of_ble_eq_true rfl) 0 rfl vc6 rfl ?_
  refine sw_istore 735 G _ dL_law_735 (by decide) rfl ?_
  refine sw_aload_n 737 G dL_law_737 4 rfl ?_
  refine sw_callVA 738 G E 0 dL_law_738 (FC.tail (wO Θ q f2 ++ wC Θ ad c2) (kM_thr μ2)) (gwV lk_79577f46 lk_0e4a22c5 lk_9b3f5359 lk_6d91b6d2 lk_8bbd5765) rfl hvW_X6_thrown ⟨rfl, rfl⟩ ⟨Nat.le_of_ble_eq_true rfl, Nat.le_of_ble_eq_true rfl⟩ ⟨hk.1, hk.2⟩ rfl rfl (Nat.le_of_ble_eq_true rfl) 0 rfl vc6 rfl ?_
  refine sw_iload 741 G dL_law_741 1 rfl ?_
  refine sw_Ieq 743 748 G dL_law_743 rfl (fun _ => ?_) (fun h => absurd hth h)
  refine sw_iload 748 G dL_law_748 1 rfl ?_
  have fin : sw Θ p e room_1 s m args below meth c A Q 8 (k + 1 + 0 + 0) (n + 6 + 0 + 0) 765 [(6, .int r), (5, .int (nI kk)), (4, .int (nI i)), (3, .ref q), (2, .ref (am 0)), (1, .ref (ad 0)), (0, .ref b)] [] (wL Θ ad am q f2 c2 μ2) := by
    refine sw_goto 765 G 1594 dL_law_765 rfl ?_
    refine sw_lv (lvB b ad am q i) [2, 3, 4, 5, 6] rfl ?_
    exact NX c2 μ2 f2 _ _ hI (by omega) (by omega)
  refine sw_Bne 750 765 G dL_law_750 rfl (fun _ => fin) (fun h => ?_)
  have hz : kk = 0 := by
    by_cases z : kk = 0
    · exact z
    · exact absurd h (nI_ne0 (by omega) (by omega))
  refine sw_aload_n 753 G dL_law_753 3 rfl ?_
  refine sw_iconst 754 G (0 : Int32) dL_law_754 rfl ?_
  refine sw_lald 755 G 10 dL_law_755 rfl gd0 (fun _ => ?_)
  refine sw_iload 756 G dL_law_756 0 rfl ?_
  refine sw_i2l 758 G dL_law_758 ?_
  refine sw_lcmp 759 G dL_law_759 ?_
  exact sw_Beq 760 765 G dL_law_760 rfl (fun _ => fin) (fun h => absurd (by rw [hf0 hz]; exact lgc_self _) h)
theorem st_usePlan (G : okG Θ p s m args c A 8 cL_law RL lwT) (E : Ev K A s s.heap) (hST : Θ.1.stackTraces = false) (hX : va_X b L xs s s.heap) (hbl : b < s.heap.size) (hbA : ¬ A b) (hL : L ≤ 3072) (hi : i + 5 < L) (hB : B < 2 ^ 30) {cs : CSt} {μ : MSt} (inv : Inv B cs μ) (f : Nat → Int64) (hk : k + 1 ≤ 601024 ∧ n + 6 ≤ 7293034)
    (NX : ∀ (c2 : CSt) (μ2 : MSt) (f2 : Nat → Int64) (k2 n2 : Nat), Inv (B + 20000) c2 μ2 → k2 ≤ k + 1 → n2 ≤ n + 6 → sw Θ p e room_1 s m args below meth c A Q 8 k2 n2 1594 (lvB b ad am q i) [] (wL Θ ad am q f2 c2 μ2)) : sw Θ p e room_1 s m args below meth c A Q 8 k n 768 (lvB b ad am q i) [] (wL Θ ad am q f cs μ) := by
  obtain ⟨kk, r, c2, μ2, f2, hkk, hf0, hw, hm, hth, hI⟩ := wr_usePlan (K := K) (ad := ad) (am := am) Θ q f hST inv
  refine sw_aload_n 768 G dL_law_768 3 rfl ?_
  refine sw_aload_n 769 G dL_law_769 1 rfl ?_
  refine sw_callSH 770 G E 2 dL_law_770 (FC.head (wM Θ am μ) hw) (gwH lk_ded3641f lk_f0e5fbd4 lk_0fdf00bd lk_04ad5b52) rfl hsL_usePlan ⟨rfl, rfl⟩ ⟨Nat.le_of_ble_eq_true rfl, Nat.le_of_ble_eq_true rfl⟩ hk rfl rfl (Nat.le_of_ble_eq_true rfl) ?_
  refine sw_istore 773 G _ dL_law_773 (by decide) rfl ?_
  refine sw_aload_n 775 G dL_law_775 3 rfl ?_
  refine sw_callVA 776 G E 0 dL_law_776 (FC.tail (wO Θ q f2 ++ wC Θ ad c2) hm) (gwV lk_c9802a8a lk_761d0a21 lk_fa69fbb9 lk_6d91b6d2 lk_48643bae) rfl hvW_X6_usePlan ⟨rfl, rfl⟩ ⟨Nat.le_of_ble_eq_true rfl, Nat.le_of_ble_eq_true rfl⟩ ⟨hk.1, hk.2⟩ rfl rfl (Nat.le_of_ble_eq_true rfl) 0 rfl vc6 rfl ?_
  refine sw_istore 779 G _ dL_law_779 (by decide) rfl ?_
  refine sw_aload_n 781 G dL_law_781 4 rfl ?_
  refine sw_callVA 782 G E 0 dL_law_782 (FC.tail (wO Θ q f2 ++ wC Θ ad c2) (kM_thr μ2)) (gwV lk_79577f46 lk_0e4a22c5 lk_9b3f5359 lk_6d91b6d2 lk_8bbd5765) rfl hvW_X6_thrown ⟨rfl, rfl⟩ ⟨Nat.le_of_ble_eq_true rfl, Nat.le_of_ble_eq_true rfl⟩ ⟨hk.1, hk.2⟩ rfl rfl (Nat.le_of_ble_eq_true rfl) 0 rfl vc6 rfl ?_
  refine sw_iload 785 G dL_law_785 1 rfl ?_
  refine sw_Ieq 787 792 G dL_law_787 rfl (fun _ => ?_) (fun h => absurd hth h)
  refine sw_iload 792 G dL_law_792 1 rfl ?_
  have fin : sw Θ p e room_1 s m args below meth c A Q 8 (k + 1 + 0 + 0) (n + 6 + 0 + 0) 809 [(6, .int r), (5, .int (nI kk)), (4, .int (nI i)), (3, .ref q), (2, .ref (am 0)), (1, .ref (ad 0)), (0, .ref b)] [] (wL Θ ad am q f2 c2 μ2) := by
    refine sw_goto 809 G 1594 dL_law_809 rfl ?_
    refine sw_lv (lvB b ad am q i) [2, 3, 4, 5, 6] rfl ?_
    exact NX c2 μ2 f2 _ _ hI (by omega) (by omega)
  refine sw_Bne 794 809 G dL_law_794 rfl (fun _ => fin) (fun h => ?_)
  have hz : kk = 0 := by
    by_cases z : kk = 0
    · exact z
    · exact absurd h (nI_ne0 (by omega) (by omega))
  refine sw_aload_n 797 G dL_law_797 3 rfl ?_
  refine sw_iconst 798 G (0 : Int32) dL_law_798 rfl ?_
  refine sw_lald 799 G 10 dL_law_799 rfl gd0 (fun _ => ?_)
  refine sw_iload 800 G dL_law_800 0 rfl ?_
  refine sw_i2l 802 G dL_law_802 ?_
  refine sw_lcmp 803 G dL_law_803 ?_
  exact sw_Beq 804 809 G dL_law_804 rfl (fun _ => fin) (fun h => absurd (by rw [hf0 hz]; exact lgc_self _) h)
theorem st_setPilot (G : okG Θ p s m args c A 8 cL_law RL lwT) (E : Ev K A s s.heap) (hST : Θ.1.stackTraces = false) (hX : va_X b L xs s s.heap) (hbl : b < s.heap.size) (hbA : ¬ A b) (hL : L ≤ 3072) (hi : i + 5 < L) (hB : B < 2 ^ 30) {cs : CSt} {μ : MSt} (inv : Inv B cs μ) (f : Nat → Int64) (hk : k + 1 ≤ 601024 ∧ n + 6 ≤ 7293034)
    (NX : ∀ (c2 : CSt) (μ2 : MSt) (f2 : Nat → Int64) (k2 n2 : Nat), Inv (B + 20000) c2 μ2 → k2 ≤ k + 1 → n2 ≤ n + 6 → sw Θ p e room_1 s m args below meth c A Q 8 k2 n2 1594 (lvB b ad am q i) [] (wL Θ ad am q f2 c2 μ2)) : sw Θ p e room_1 s m args below meth c A Q 8 k n 812 (lvB b ad am q i) [] (wL Θ ad am q f cs μ) := by
  obtain ⟨kk, r, c2, μ2, f2, hkk, hf0, hw, hm, hth, hI⟩ := wr_setPilot (K := K) (ad := ad) (am := am) Θ q f hST inv (xs (i + 1)) (decide (¬ xs (i + 2) = 0))
  refine sw_aload_n 812 G dL_law_812 3 rfl ?_
  refine sw_aload_n 813 G dL_law_813 4 rfl ?_
  refine sw_iload 814 G dL_law_814 0 rfl ?_
  refine sw_iconst 816 G (1 : Int32) dL_law_816 rfl ?_
  refine sw_iadd 817 G dL_law_817 ?_
  refine sw_sld 818 G hX hbl hbA hL (i + 1) (nI_add i 1) (by omega) dL_law_818 ?_
  refine sw_aload_n 819 G dL_law_819 4 rfl ?_
  refine sw_iload 820 G dL_law_820 0 rfl ?_
  refine sw_iconst 822 G (2 : Int32) dL_law_822 rfl ?_
  refine sw_iadd 823 G dL_law_823 ?_
  refine sw_sld 824 G hX hbl hbA hL (i + 2) (nI_add i 2) (by omega) dL_law_824 ?_
  refine sw_zb 825 G dL_law_825 dL_law_828 dL_law_829 dL_law_832 ?_
  refine sw_aload_n 833 G dL_law_833 1 rfl ?_
  refine sw_callSH 834 G E 4 dL_law_834 (FC.head (wM Θ am μ) hw) (gwH lk_07520657 lk_1b9fde2d lk_e7f2fa5d lk_2c8cfbdf) rfl hsL_setPilot ⟨rfl, rfl⟩ ⟨Nat.le_of_ble_eq_true rfl, Nat.le_of_ble_eq_true rfl⟩ hk rfl rfl (Nat.le_of_ble_eq_true rfl) ?_
  refine sw_istore 837 G _ dL_law_837 (by decide) rfl ?_
  refine sw_aload_n 839 G dL_law_839 3 rfl ?_
  refine sw_aload_n 840 G dL_law_840 5 rfl ?_
  refine sw_iload 841 G dL_law_841 1 rfl ?_
  refine sw_iconst 843 G (1 : Int32) dL_law_843 rfl ?_
  refine sw_iadd 844 G dL_law_844 ?_
  refine sw_sld 845 G hX hbl hbA hL (i + 1) (nI_add i 1) (by omega) dL_law_845 ?_
  refine sw_aload_n 846 G dL_law_846 5 rfl ?_
  refine sw_iload 847 G dL_law_847 1 rfl ?_
  refine sw_iconst 849 G (2 : Int32) dL_law_849 rfl ?_
  refine sw_iadd 850 G dL_law_850 ?_
  refine sw_sld 851 G hX hbl hbA hL (i + 2) (nI_add i 2) (by omega) dL_law_851 ?_
  refine sw_zb 852 G dL_law_852 dL_law_855 dL_law_856 dL_law_859 ?_
  refine sw_callVA 860 G E 2 dL_law_860 (FC.tail (wO Θ q f2 ++ wC Θ ad c2) hm) (gwV lk_c7d2ed29 lk_2ec286b7 lk_537552d6 lk_6d91b6d2 lk_ede02474) rfl hvW_X6_setPilot ⟨rfl, rfl⟩ ⟨Nat.le_of_ble_eq_true rfl, Nat.le_of_ble_eq_true rfl⟩ ⟨hk.1, hk.2⟩ rfl rfl (Nat.le_of_ble_eq_true rfl) 0 rfl vc6 rfl ?_
  refine sw_istore 863 G _ dL_law_863 (by decide) rfl ?_
  refine sw_aload_n 865 G dL_law_865 4 rfl ?_
  refine sw_callVA 866 G E 0 dL_law_866 (FC.tail (wO Θ q f2 ++ wC Θ ad c2) (kM_thr μ2)) (gwV lk_79577f46 lk_0e4a22c5 lk_9b3f5359 lk_6d91b6d2 lk_8bbd5765) rfl hvW_X6_thrown ⟨rfl, rfl⟩ ⟨Nat.le_of_ble_eq_true rfl, Nat.le_of_ble_eq_true rfl⟩ ⟨hk.1, hk.2⟩ rfl rfl (Nat.le_of_ble_eq_true rfl) 0 rfl vc6 rfl ?_
  refine sw_iload 869 G dL_law_869 1 rfl ?_
  refine sw_Ieq 871 876 G dL_law_871 rfl (fun _ => ?_) (fun h => absurd hth h)
  refine sw_iload 876 G dL_law_876 1 rfl ?_
  have fin : sw Θ p e room_1 s m args below meth c A Q 8 (k + 1 + 0 + 0) (n + 6 + 0 + 0) 893 [(6, .int r), (5, .int (nI kk)), (4, .int (nI i)), (3, .ref q), (2, .ref (am 0)), (1, .ref (ad 0)), (0, .ref b)] [] (wL Θ ad am q f2 c2 μ2) := by
    refine sw_goto 893 G 1594 dL_law_893 rfl ?_
    refine sw_lv (lvB b ad am q i) [2, 3, 4, 5, 6] rfl ?_
    exact NX c2 μ2 f2 _ _ hI (by omega) (by omega)
  refine sw_Bne 878 893 G dL_law_878 rfl (fun _ => fin) (fun h => ?_)
  have hz : kk = 0 := by
    by_cases z : kk = 0
    · exact z
    · exact absurd h (nI_ne0 (by omega) (by omega))
  refine sw_aload_n 881 G dL_law_881 3 rfl ?_
  refine sw_iconst 882 G (0 : Int32) dL_law_882 rfl ?_
  refine sw_lald 883 G 10 dL_law_883 rfl gd0 (fun _ => ?_)
  refine sw_iload 884 G dL_law_884 0 rfl ?_
  refine sw_i2l 886 G dL_law_886 ?_
  refine sw_lcmp 887 G dL_law_887 ?_
  exact sw_Beq 888 893 G dL_law_888 rfl (fun _ => fin) (fun h => absurd (by rw [hf0 hz]; exact lgc_self _) h)
theorem st_stroke (G : okG Θ p s m args c A 8 cL_law RL lwT) (E : Ev K A s s.heap) (hST : Θ.1.stackTraces = false) (hX : va_X b L xs s s.heap) (hbl : b < s.heap.size) (hbA : ¬ A b) (hL : L ≤ 3072) (hi : i + 5 < L) (hB : B < 2 ^ 30) {cs : CSt} {μ : MSt} (inv : Inv B cs μ) (f : Nat → Int64) (hk : k + 1 ≤ 601024 ∧ n + 6 ≤ 7293034)
    (NX : ∀ (c2 : CSt) (μ2 : MSt) (f2 : Nat → Int64) (k2 n2 : Nat), Inv (B + 20000) c2 μ2 → k2 ≤ k + 1 → n2 ≤ n + 6 → sw Θ p e room_1 s m args below meth c A Q 8 k2 n2 1594 (lvB b ad am q i) [] (wL Θ ad am q f2 c2 μ2)) : sw Θ p e room_1 s m args below meth c A Q 8 k n 896 (lvB b ad am q i) [] (wL Θ ad am q f cs μ) := by
  obtain ⟨v, c2, μ2, hc, hm, hI⟩ := cs_stroke (K := K) (ad := ad) (am := am) (F := 1000001) Θ (by omega) hB inv
  refine sw_aload_n 896 G dL_law_896 3 rfl ?_
  refine sw_callVA 897 G E 0 dL_law_897 (FC.head (wM Θ am μ) (FC.head (wO Θ q f) hc)) (gwV lk_32cfd338 lk_7499b73a lk_c9261137 lk_5f14f758 lk_9b868455) rfl hvW_X5_stroke ⟨rfl, rfl⟩ ⟨Nat.le_of_ble_eq_true rfl, Nat.le_of_ble_eq_true rfl⟩ ⟨by show k ≤ 601024; omega, by show n ≤ 7293034; omega⟩ rfl rfl (Nat.le_of_ble_eq_true rfl) 11 rfl vc5 rfl ?_
  refine sw_aload_n 900 G dL_law_900 2 rfl ?_
  refine sw_callVA 901 G E 0 dL_law_901 (FC.tail (wO Θ q f ++ wC Θ ad c2) hm) (gwV lk_5ed32813 lk_0e10cac3 lk_a45f14ef lk_6d91b6d2 lk_6899cbf0) rfl hvW_X6_stroke ⟨rfl, rfl⟩ ⟨Nat.le_of_ble_eq_true rfl, Nat.le_of_ble_eq_true rfl⟩ ⟨by show k ≤ 601024; omega, by show n ≤ 7293034; omega⟩ rfl rfl (Nat.le_of_ble_eq_true rfl) 0 rfl vc6 rfl ?_
  refine sw_Ieq 904 1594 G dL_law_904 rfl (fun _ => ?_) (fun h => absurd rfl h)
  exact NX c2 μ2 f _ _ hI (by omega) (by omega)
theorem st_emptyPress (G : okG Θ p s m args c A 8 cL_law RL lwT) (E : Ev K A s s.heap) (hST : Θ.1.stackTraces = false) (hX : va_X b L xs s s.heap) (hbl : b < s.heap.size) (hbA : ¬ A b) (hL : L ≤ 3072) (hi : i + 5 < L) (hB : B < 2 ^ 30) {cs : CSt} {μ : MSt} (inv : Inv B cs μ) (f : Nat → Int64) (hk : k + 1 ≤ 601024 ∧ n + 6 ≤ 7293034)
    (NX : ∀ (c2 : CSt) (μ2 : MSt) (f2 : Nat → Int64) (k2 n2 : Nat), Inv (B + 20000) c2 μ2 → k2 ≤ k + 1 → n2 ≤ n + 6 → sw Θ p e room_1 s m args below meth c A Q 8 k2 n2 1594 (lvB b ad am q i) [] (wL Θ ad am q f2 c2 μ2)) : sw Θ p e room_1 s m args below meth c A Q 8 k n 909 (lvB b ad am q i) [] (wL Θ ad am q f cs μ) := by
  obtain ⟨v, c2, μ2, hc, hm, hI⟩ := cs_emptyPress (K := K) (ad := ad) (am := am) (F := 1000001) Θ (by omega) hB inv
  refine sw_aload_n 909 G dL_law_909 3 rfl ?_
  refine sw_callVA 910 G E 0 dL_law_910 (FC.head (wM Θ am μ) (FC.head (wO Θ q f) hc)) (gwV lk_e7b886a9 lk_37a4dd42 lk_243aa11c lk_5f14f758 lk_620f51d4) rfl hvW_X5_emptyPress ⟨rfl, rfl⟩ ⟨Nat.le_of_ble_eq_true rfl, Nat.le_of_ble_eq_true rfl⟩ ⟨by show k ≤ 601024; omega, by show n ≤ 7293034; omega⟩ rfl rfl (Nat.le_of_ble_eq_true rfl) 11 rfl vc5 rfl ?_
  refine sw_aload_n 913 G dL_law_913 2 rfl ?_
  refine sw_callVA 914 G E 0 dL_law_914 (FC.tail (wO Θ q f ++ wC Θ ad c2) hm) (gwV lk_9c7d9bdd lk_c9ad040a lk_e89de76b lk_6d91b6d2 lk_26392b6d) rfl hvW_X6_emptyPress ⟨rfl, rfl⟩ ⟨Nat.le_of_ble_eq_true rfl, Nat.le_of_ble_eq_true rfl⟩ ⟨by show k ≤ 601024; omega, by show n ≤ 7293034; omega⟩ rfl rfl (Nat.le_of_ble_eq_true rfl) 0 rfl vc6 rfl ?_
  refine sw_Ieq 917 1594 G dL_law_917 rfl (fun _ => ?_) (fun h => absurd rfl h)
  exact NX c2 μ2 f _ _ hI (by omega) (by omega)
theorem st_cellSet (G : okG Θ p s m args c A 8 cL_law RL lwT) (E : Ev K A s s.heap) (hST : Θ.1.stackTraces = false) (hX : va_X b L xs s s.heap) (hbl : b < s.heap.size) (hbA : ¬ A b) (hL : L ≤ 3072) (hi : i + 5 < L) (hB : B < 2 ^ 30) {cs : CSt} {μ : MSt} (inv : Inv B cs μ) (f : Nat → Int64) (hk : k + 1 ≤ 601024 ∧ n + 6 ≤ 7293034)
    (NX : ∀ (c2 : CSt) (μ2 : MSt) (f2 : Nat → Int64) (k2 n2 : Nat), Inv (B + 20000) c2 μ2 → k2 ≤ k + 1 → n2 ≤ n + 6 → sw Θ p e room_1 s m args below meth c A Q 8 k2 n2 1594 (lvB b ad am q i) [] (wL Θ ad am q f2 c2 μ2)) : sw Θ p e room_1 s m args below meth c A Q 8 k n 922 (lvB b ad am q i) [] (wL Θ ad am q f cs μ) := by
  obtain ⟨kk, r, c2, μ2, f2, hkk, hf0, hw, hm, hth, hI⟩ := wr_cellSet (K := K) (ad := ad) (am := am) Θ q f hST inv (xs (i + 1))
  refine sw_aload_n 922 G dL_law_922 3 rfl ?_
  refine sw_aload_n 923 G dL_law_923 4 rfl ?_
  refine sw_iload 924 G dL_law_924 0 rfl ?_
  refine sw_iconst 926 G (1 : Int32) dL_law_926 rfl ?_
  refine sw_iadd 927 G dL_law_927 ?_
  refine sw_sld 928 G hX hbl hbA hL (i + 1) (nI_add i 1) (by omega) dL_law_928 ?_
  refine sw_aload_n 929 G dL_law_929 1 rfl ?_
  refine sw_callSH 930 G E 3 dL_law_930 (FC.head (wM Θ am μ) hw) (gwH lk_9a7bb1de lk_df9c0a14 lk_bfefc393 lk_a930b411) rfl hsL_cellSet ⟨rfl, rfl⟩ ⟨Nat.le_of_ble_eq_true rfl, Nat.le_of_ble_eq_true rfl⟩ hk rfl rfl (Nat.le_of_ble_eq_true rfl) ?_
  refine sw_istore 933 G _ dL_law_933 (by decide) rfl ?_
  refine sw_aload_n 935 G dL_law_935 3 rfl ?_
  refine sw_aload_n 936 G dL_law_936 5 rfl ?_
  refine sw_iload 937 G dL_law_937 1 rfl ?_
  refine sw_iconst 939 G (1 : Int32) dL_law_939 rfl ?_
  refine sw_iadd 940 G dL_law_940 ?_
  refine sw_sld 941 G hX hbl hbA hL (i + 1) (nI_add i 1) (by omega) dL_law_941 ?_
  refine sw_callVA 942 G E 1 dL_law_942 (FC.tail (wO Θ q f2 ++ wC Θ ad c2) hm) (gwV lk_ca8d16cf lk_d0f84a73 lk_d02c1643 lk_6d91b6d2 lk_0ad74d4f) rfl hvW_X6_cellSet ⟨rfl, rfl⟩ ⟨Nat.le_of_ble_eq_true rfl, Nat.le_of_ble_eq_true rfl⟩ ⟨hk.1, hk.2⟩ rfl rfl (Nat.le_of_ble_eq_true rfl) 0 rfl vc6 rfl ?_
  refine sw_lstore 945 G _ dL_law_945 (by decide) rfl ?_
  refine sw_aload_n 947 G dL_law_947 4 rfl ?_
  refine sw_callVA 948 G E 0 dL_law_948 (FC.tail (wO Θ q f2 ++ wC Θ ad c2) (kM_thr μ2)) (gwV lk_79577f46 lk_0e4a22c5 lk_9b3f5359 lk_6d91b6d2 lk_8bbd5765) rfl hvW_X6_thrown ⟨rfl, rfl⟩ ⟨Nat.le_of_ble_eq_true rfl, Nat.le_of_ble_eq_true rfl⟩ ⟨hk.1, hk.2⟩ rfl rfl (Nat.le_of_ble_eq_true rfl) 0 rfl vc6 rfl ?_
  refine sw_iload 951 G dL_law_951 1 rfl ?_
  refine sw_Ieq 953 958 G dL_law_953 rfl (fun _ => ?_) (fun h => absurd hth h)
  refine sw_iload 958 G dL_law_958 1 rfl ?_
  have fin : sw Θ p e room_1 s m args below meth c A Q 8 (k + 1 + 0 + 0) (n + 6 + 0 + 0) 974 [(6, .long r), (5, .int (nI kk)), (4, .int (nI i)), (3, .ref q), (2, .ref (am 0)), (1, .ref (ad 0)), (0, .ref b)] [] (wL Θ ad am q f2 c2 μ2) := by
    refine sw_goto 974 G 1594 dL_law_974 rfl ?_
    refine sw_lv (lvB b ad am q i) [2, 3, 4, 5, 6] rfl ?_
    exact NX c2 μ2 f2 _ _ hI (by omega) (by omega)
  refine sw_Bne 960 974 G dL_law_960 rfl (fun _ => fin) (fun h => ?_)
  have hz : kk = 0 := by
    by_cases z : kk = 0
    · exact z
    · exact absurd h (nI_ne0 (by omega) (by omega))
  refine sw_aload_n 963 G dL_law_963 3 rfl ?_
  refine sw_iconst 964 G (0 : Int32) dL_law_964 rfl ?_
  refine sw_lald 965 G 10 dL_law_965 rfl gd0 (fun _ => ?_)
  refine sw_lload 966 G dL_law_966 0 rfl ?_
  refine sw_lcmp 968 G dL_law_968 ?_
  exact sw_Beq 969 974 G dL_law_969 rfl (fun _ => fin) (fun h => absurd (by rw [hf0 hz]; exact lgc_self _) h)
theorem st_operation (G : okG Θ p s m args c A 8 cL_law RL lwT) (E : Ev K A s s.heap) (hST : Θ.1.stackTraces = false) (hX : va_X b L xs s s.heap) (hbl : b < s.heap.size) (hbA : ¬ A b) (hL : L ≤ 3072) (hi : i + 5 < L) (hB : B < 2 ^ 30) {cs : CSt} {μ : MSt} (inv : Inv B cs μ) (f : Nat → Int64) (hk : k + 1 ≤ 601024 ∧ n + 6 ≤ 7293034)
    (NX : ∀ (c2 : CSt) (μ2 : MSt) (f2 : Nat → Int64) (k2 n2 : Nat), Inv (B + 20000) c2 μ2 → k2 ≤ k + 1 → n2 ≤ n + 6 → sw Θ p e room_1 s m args below meth c A Q 8 k2 n2 1594 (lvB b ad am q i) [] (wL Θ ad am q f2 c2 μ2)) : sw Θ p e room_1 s m args below meth c A Q 8 k n 977 (lvB b ad am q i) [] (wL Θ ad am q f cs μ) := by
  obtain ⟨kk, r, c2, μ2, f2, hkk, hf0, hw, hm, hth, hI⟩ := wr_operation (K := K) (ad := ad) (am := am) Θ q f hST inv (xs (i + 1)) (xs (i + 2))
  refine sw_aload_n 977 G dL_law_977 3 rfl ?_
  refine sw_aload_n 978 G dL_law_978 4 rfl ?_
  refine sw_iload 979 G dL_law_979 0 rfl ?_
  refine sw_iconst 981 G (1 : Int32) dL_law_981 rfl ?_
  refine sw_iadd 982 G dL_law_982 ?_
  refine sw_sld 983 G hX hbl hbA hL (i + 1) (nI_add i 1) (by omega) dL_law_983 ?_
  refine sw_aload_n 984 G dL_law_984 4 rfl ?_
  refine sw_iload 985 G dL_law_985 0 rfl ?_
  refine sw_iconst 987 G (2 : Int32) dL_law_987 rfl ?_
  refine sw_iadd 988 G dL_law_988 ?_
  refine sw_sld 989 G hX hbl hbA hL (i + 2) (nI_add i 2) (by omega) dL_law_989 ?_
  refine sw_aload_n 990 G dL_law_990 1 rfl ?_
  refine sw_callSH 991 G E 4 dL_law_991 (FC.head (wM Θ am μ) hw) (gwH lk_48d923e8 lk_e32afd21 lk_4062ce7c lk_ac0f01ae) rfl hsL_operation ⟨rfl, rfl⟩ ⟨Nat.le_of_ble_eq_true rfl, Nat.le_of_ble_eq_true rfl⟩ hk rfl rfl (Nat.le_of_ble_eq_true rfl) ?_
  refine sw_istore 994 G _ dL_law_994 (by decide) rfl ?_
  refine sw_aload_n 996 G dL_law_996 3 rfl ?_
  refine sw_aload_n 997 G dL_law_997 5 rfl ?_
  refine sw_iload 998 G dL_law_998 1 rfl ?_
  refine sw_iconst 1000 G (1 : Int32) dL_law_1000 rfl ?_
  refine sw_iadd 1001 G dL_law_1001 ?_
  refine sw_sld 1002 G hX hbl hbA hL (i + 1) (nI_add i 1) (by omega) dL_law_1002 ?_
  refine sw_aload_n 1003 G dL_law_1003 5 rfl ?_
  refine sw_iload 1004 G dL_law_1004 1 rfl ?_
  refine sw_iconst 1006 G (2 : Int32) dL_law_1006 rfl ?_
  refine sw_iadd 1007 G dL_law_1007 ?_
  refine sw_sld 1008 G hX hbl hbA hL (i + 2) (nI_add i 2) (by omega) dL_law_1008 ?_
  refine sw_callVA 1009 G E 2 dL_law_1009 (FC.tail (wO Θ q f2 ++ wC Θ ad c2) hm) (gwV lk_e204d899 lk_c2bbd997 lk_905c0699 lk_6d91b6d2 lk_f359eba8) rfl hvW_X6_operation ⟨rfl, rfl⟩ ⟨Nat.le_of_ble_eq_true rfl, Nat.le_of_ble_eq_true rfl⟩ ⟨hk.1, hk.2⟩ rfl rfl (Nat.le_of_ble_eq_true rfl) 0 rfl vc6 rfl ?_
  refine sw_istore 1012 G _ dL_law_1012 (by decide) rfl ?_
  refine sw_aload_n 1014 G dL_law_1014 4 rfl ?_
  refine sw_callVA 1015 G E 0 dL_law_1015 (FC.tail (wO Θ q f2 ++ wC Θ ad c2) (kM_thr μ2)) (gwV lk_79577f46 lk_0e4a22c5 lk_9b3f5359 lk_6d91b6d2 lk_8bbd5765) rfl hvW_X6_thrown ⟨rfl, rfl⟩ ⟨Nat.le_of_ble_eq_true rfl, Nat.le_of_ble_eq_true rfl⟩ ⟨hk.1, hk.2⟩ rfl rfl (Nat.le_of_ble_eq_true rfl) 0 rfl vc6 rfl ?_
  refine sw_iload 1018 G dL_law_1018 1 rfl ?_
  refine sw_Ieq 1020 1025 G dL_law_1020 rfl (fun _ => ?_) (fun h => absurd hth h)
  refine sw_iload 1025 G dL_law_1025 1 rfl ?_
  have fin : sw Θ p e room_1 s m args below meth c A Q 8 (k + 1 + 0 + 0) (n + 6 + 0 + 0) 1042 [(6, .int r), (5, .int (nI kk)), (4, .int (nI i)), (3, .ref q), (2, .ref (am 0)), (1, .ref (ad 0)), (0, .ref b)] [] (wL Θ ad am q f2 c2 μ2) := by
    refine sw_goto 1042 G 1594 dL_law_1042 rfl ?_
    refine sw_lv (lvB b ad am q i) [2, 3, 4, 5, 6] rfl ?_
    exact NX c2 μ2 f2 _ _ hI (by omega) (by omega)
  refine sw_Bne 1027 1042 G dL_law_1027 rfl (fun _ => fin) (fun h => ?_)
  have hz : kk = 0 := by
    by_cases z : kk = 0
    · exact z
    · exact absurd h (nI_ne0 (by omega) (by omega))
  refine sw_aload_n 1030 G dL_law_1030 3 rfl ?_
  refine sw_iconst 1031 G (0 : Int32) dL_law_1031 rfl ?_
  refine sw_lald 1032 G 10 dL_law_1032 rfl gd0 (fun _ => ?_)
  refine sw_iload 1033 G dL_law_1033 0 rfl ?_
  refine sw_i2l 1035 G dL_law_1035 ?_
  refine sw_lcmp 1036 G dL_law_1036 ?_
  exact sw_Beq 1037 1042 G dL_law_1037 rfl (fun _ => fin) (fun h => absurd (by rw [hf0 hz]; exact lgc_self _) h)
theorem st_station (G : okG Θ p s m args c A 8 cL_law RL lwT) (E : Ev K A s s.heap) (hST : Θ.1.stackTraces = false) (hX : va_X b L xs s s.heap) (hbl : b < s.heap.size) (hbA : ¬ A b) (hL : L ≤ 3072) (hi : i + 5 < L) (hB : B < 2 ^ 30) {cs : CSt} {μ : MSt} (inv : Inv B cs μ) (f : Nat → Int64) (hk : k + 1 ≤ 601024 ∧ n + 6 ≤ 7293034)
    (NX : ∀ (c2 : CSt) (μ2 : MSt) (f2 : Nat → Int64) (k2 n2 : Nat), Inv (B + 20000) c2 μ2 → k2 ≤ k + 1 → n2 ≤ n + 6 → sw Θ p e room_1 s m args below meth c A Q 8 k2 n2 1594 (lvB b ad am q i) [] (wL Θ ad am q f2 c2 μ2)) : sw Θ p e room_1 s m args below meth c A Q 8 k n 1045 (lvB b ad am q i) [] (wL Θ ad am q f cs μ) := by
  obtain ⟨kk, r, c2, μ2, f2, hkk, hf0, hw, hm, hth, hI⟩ := wr_station (K := K) (ad := ad) (am := am) Θ q f hST inv (xs (i + 1)) (xs (i + 2))
  refine sw_aload_n 1045 G dL_law_1045 3 rfl ?_
  refine sw_aload_n 1046 G dL_law_1046 4 rfl ?_
  refine sw_iload 1047 G dL_law_1047 0 rfl ?_
  refine sw_iconst 1049 G (1 : Int32) dL_law_1049 rfl ?_
  refine sw_iadd 1050 G dL_law_1050 ?_
  refine sw_sld 1051 G hX hbl hbA hL (i + 1) (nI_add i 1) (by omega) dL_law_1051 ?_
  refine sw_aload_n 1052 G dL_law_1052 4 rfl ?_
  refine sw_iload 1053 G dL_law_1053 0 rfl ?_
  refine sw_iconst 1055 G (2 : Int32) dL_law_1055 rfl ?_
  refine sw_iadd 1056 G dL_law_1056 ?_
  refine sw_sld 1057 G hX hbl hbA hL (i + 2) (nI_add i 2) (by omega) dL_law_1057 ?_
  refine sw_aload_n 1058 G dL_law_1058 1 rfl ?_
  refine sw_callSH 1059 G E 4 dL_law_1059 (FC.head (wM Θ am μ) hw) (gwH lk_809c564e lk_ad4ce6bc lk_2af200b9 lk_121d966f) rfl hsL_station ⟨rfl, rfl⟩ ⟨Nat.le_of_ble_eq_true rfl, Nat.le_of_ble_eq_true rfl⟩ hk rfl rfl (Nat.le_of_ble_eq_true rfl) ?_
  refine sw_istore 1062 G _ dL_law_1062 (by decide) rfl ?_
  refine sw_aload_n 1064 G dL_law_1064 3 rfl ?_
  refine sw_aload_n 1065 G dL_law_1065 5 rfl ?_
  refine sw_iload 1066 G dL_law_1066 1 rfl ?_
  refine sw_iconst 1068 G (1 : Int32) dL_law_1068 rfl ?_
  refine sw_iadd 1069 G dL_law_1069 ?_
  refine sw_sld 1070 G hX hbl hbA hL (i + 1) (nI_add i 1) (by omega) dL_law_1070 ?_
  refine sw_aload_n 1071 G dL_law_1071 5 rfl ?_
  refine sw_iload 1072 G dL_law_1072 1 rfl ?_
  refine sw_iconst 1074 G (2 : Int32) dL_law_1074 rfl ?_
  refine sw_iadd 1075 G dL_law_1075 ?_
  refine sw_sld 1076 G hX hbl hbA hL (i + 2) (nI_add i 2) (by omega) dL_law_1076 ?_
  refine sw_callVA 1077 G E 2 dL_law_1077 (FC.tail (wO Θ q f2 ++ wC Θ ad c2) hm) (gwV lk_ec253c0c lk_46b1d769 lk_adf3edf5 lk_6d91b6d2 lk_633e23fd) rfl hvW_X6_station ⟨rfl, rfl⟩ ⟨Nat.le_of_ble_eq_true rfl, Nat.le_of_ble_eq_true rfl⟩ ⟨hk.1, hk.2⟩ rfl rfl (Nat.le_of_ble_eq_true rfl) 0 rfl vc6 rfl ?_
  refine sw_istore 1080 G _ dL_law_1080 (by decide) rfl ?_
  refine sw_aload_n 1082 G dL_law_1082 4 rfl ?_
  refine sw_callVA 1083 G E 0 dL_law_1083 (FC.tail (wO Θ q f2 ++ wC Θ ad c2) (kM_thr μ2)) (gwV lk_79577f46 lk_0e4a22c5 lk_9b3f5359 lk_6d91b6d2 lk_8bbd5765) rfl hvW_X6_thrown ⟨rfl, rfl⟩ ⟨Nat.le_of_ble_eq_true rfl, Nat.le_of_ble_eq_true rfl⟩ ⟨hk.1, hk.2⟩ rfl rfl (Nat.le_of_ble_eq_true rfl) 0 rfl vc6 rfl ?_
  refine sw_iload 1086 G dL_law_1086 1 rfl ?_
  refine sw_Ieq 1088 1093 G dL_law_1088 rfl (fun _ => ?_) (fun h => absurd hth h)
  refine sw_iload 1093 G dL_law_1093 1 rfl ?_
  have fin : sw Θ p e room_1 s m args below meth c A Q 8 (k + 1 + 0 + 0) (n + 6 + 0 + 0) 1110 [(6, .int r), (5, .int (nI kk)), (4, .int (nI i)), (3, .ref q), (2, .ref (am 0)), (1, .ref (ad 0)), (0, .ref b)] [] (wL Θ ad am q f2 c2 μ2) := by
    refine sw_goto 1110 G 1594 dL_law_1110 rfl ?_
    refine sw_lv (lvB b ad am q i) [2, 3, 4, 5, 6] rfl ?_
    exact NX c2 μ2 f2 _ _ hI (by omega) (by omega)
  refine sw_Bne 1095 1110 G dL_law_1095 rfl (fun _ => fin) (fun h => ?_)
  have hz : kk = 0 := by
    by_cases z : kk = 0
    · exact z
    · exact absurd h (nI_ne0 (by omega) (by omega))
  refine sw_aload_n 1098 G dL_law_1098 3 rfl ?_
  refine sw_iconst 1099 G (0 : Int32) dL_law_1099 rfl ?_
  refine sw_lald 1100 G 10 dL_law_1100 rfl gd0 (fun _ => ?_)
  refine sw_iload 1101 G dL_law_1101 0 rfl ?_
  refine sw_i2l 1103 G dL_law_1103 ?_
  refine sw_lcmp 1104 G dL_law_1104 ?_
  exact sw_Beq 1105 1110 G dL_law_1105 rfl (fun _ => fin) (fun h => absurd (by rw [hf0 hz]; exact lgc_self _) h)
theorem st_pitch (G : okG Θ p s m args c A 8 cL_law RL lwT) (E : Ev K A s s.heap) (hST : Θ.1.stackTraces = false) (hX : va_X b L xs s s.heap) (hbl : b < s.heap.size) (hbA : ¬ A b) (hL : L ≤ 3072) (hi : i + 5 < L) (hB : B < 2 ^ 30) {cs : CSt} {μ : MSt} (inv : Inv B cs μ) (f : Nat → Int64) (hk : k + 1 ≤ 601024 ∧ n + 6 ≤ 7293034)
    (NX : ∀ (c2 : CSt) (μ2 : MSt) (f2 : Nat → Int64) (k2 n2 : Nat), Inv (B + 20000) c2 μ2 → k2 ≤ k + 1 → n2 ≤ n + 6 → sw Θ p e room_1 s m args below meth c A Q 8 k2 n2 1594 (lvB b ad am q i) [] (wL Θ ad am q f2 c2 μ2)) : sw Θ p e room_1 s m args below meth c A Q 8 k n 1113 (lvB b ad am q i) [] (wL Θ ad am q f cs μ) := by
  obtain ⟨kk, r, c2, μ2, f2, hkk, hf0, hw, hm, hth, hI⟩ := wr_pitch (K := K) (ad := ad) (am := am) Θ q f hST inv (xs (i + 1)) (xs (i + 2))
  refine sw_aload_n 1113 G dL_law_1113 3 rfl ?_
  refine sw_aload_n 1114 G dL_law_1114 4 rfl ?_
  refine sw_iload 1115 G dL_law_1115 0 rfl ?_
  refine sw_iconst 1117 G (1 : Int32) dL_law_1117 rfl ?_
  refine sw_iadd 1118 G dL_law_1118 ?_
  refine sw_sld 1119 G hX hbl hbA hL (i + 1) (nI_add i 1) (by omega) dL_law_1119 ?_
  refine sw_aload_n 1120 G dL_law_1120 4 rfl ?_
  refine sw_iload 1121 G dL_law_1121 0 rfl ?_
  refine sw_iconst 1123 G (2 : Int32) dL_law_1123 rfl ?_
  refine sw_iadd 1124 G dL_law_1124 ?_
  refine sw_sld 1125 G hX hbl hbA hL (i + 2) (nI_add i 2) (by omega) dL_law_1125 ?_
  refine sw_aload_n 1126 G dL_law_1126 1 rfl ?_
  refine sw_callSH 1127 G E 4 dL_law_1127 (FC.head (wM Θ am μ) hw) (gwH lk_5e0ecac1 lk_b71617a0 lk_f3a4f1c1 lk_3906212c) rfl hsL_pitch ⟨rfl, rfl⟩ ⟨Nat.le_of_ble_eq_true rfl, Nat.le_of_ble_eq_true rfl⟩ hk rfl rfl (Nat.le_of_ble_eq_true rfl) ?_
  refine sw_istore 1130 G _ dL_law_1130 (by decide) rfl ?_
  refine sw_aload_n 1132 G dL_law_1132 3 rfl ?_
  refine sw_aload_n 1133 G dL_law_1133 5 rfl ?_
  refine sw_iload 1134 G dL_law_1134 1 rfl ?_
  refine sw_iconst 1136 G (1 : Int32) dL_law_1136 rfl ?_
  refine sw_iadd 1137 G dL_law_1137 ?_
  refine sw_sld 1138 G hX hbl hbA hL (i + 1) (nI_add i 1) (by omega) dL_law_1138 ?_
  refine sw_aload_n 1139 G dL_law_1139 5 rfl ?_
  refine sw_iload 1140 G dL_law_1140 1 rfl ?_
  refine sw_iconst 1142 G (2 : Int32) dL_law_1142 rfl ?_
  refine sw_iadd 1143 G dL_law_1143 ?_
  refine sw_sld 1144 G hX hbl hbA hL (i + 2) (nI_add i 2) (by omega) dL_law_1144 ?_
  refine sw_callVA 1145 G E 2 dL_law_1145 (FC.tail (wO Θ q f2 ++ wC Θ ad c2) hm) (gwV lk_ed67982a lk_5a1c4c8e lk_6c5b8aa2 lk_6d91b6d2 lk_1c21d507) rfl hvW_X6_pitch ⟨rfl, rfl⟩ ⟨Nat.le_of_ble_eq_true rfl, Nat.le_of_ble_eq_true rfl⟩ ⟨hk.1, hk.2⟩ rfl rfl (Nat.le_of_ble_eq_true rfl) 0 rfl vc6 rfl ?_
  refine sw_istore 1148 G _ dL_law_1148 (by decide) rfl ?_
  refine sw_aload_n 1150 G dL_law_1150 4 rfl ?_
  refine sw_callVA 1151 G E 0 dL_law_1151 (FC.tail (wO Θ q f2 ++ wC Θ ad c2) (kM_thr μ2)) (gwV lk_79577f46 lk_0e4a22c5 lk_9b3f5359 lk_6d91b6d2 lk_8bbd5765) rfl hvW_X6_thrown ⟨rfl, rfl⟩ ⟨Nat.le_of_ble_eq_true rfl, Nat.le_of_ble_eq_true rfl⟩ ⟨hk.1, hk.2⟩ rfl rfl (Nat.le_of_ble_eq_true rfl) 0 rfl vc6 rfl ?_
  refine sw_iload 1154 G dL_law_1154 1 rfl ?_
  refine sw_Ieq 1156 1161 G dL_law_1156 rfl (fun _ => ?_) (fun h => absurd hth h)
  refine sw_iload 1161 G dL_law_1161 1 rfl ?_
  have fin : sw Θ p e room_1 s m args below meth c A Q 8 (k + 1 + 0 + 0) (n + 6 + 0 + 0) 1178 [(6, .int r), (5, .int (nI kk)), (4, .int (nI i)), (3, .ref q), (2, .ref (am 0)), (1, .ref (ad 0)), (0, .ref b)] [] (wL Θ ad am q f2 c2 μ2) := by
    refine sw_goto 1178 G 1594 dL_law_1178 rfl ?_
    refine sw_lv (lvB b ad am q i) [2, 3, 4, 5, 6] rfl ?_
    exact NX c2 μ2 f2 _ _ hI (by omega) (by omega)
  refine sw_Bne 1163 1178 G dL_law_1163 rfl (fun _ => fin) (fun h => ?_)
  have hz : kk = 0 := by
    by_cases z : kk = 0
    · exact z
    · exact absurd h (nI_ne0 (by omega) (by omega))
  refine sw_aload_n 1166 G dL_law_1166 3 rfl ?_
  refine sw_iconst 1167 G (0 : Int32) dL_law_1167 rfl ?_
  refine sw_lald 1168 G 10 dL_law_1168 rfl gd0 (fun _ => ?_)
  refine sw_iload 1169 G dL_law_1169 0 rfl ?_
  refine sw_i2l 1171 G dL_law_1171 ?_
  refine sw_lcmp 1172 G dL_law_1172 ?_
  exact sw_Beq 1173 1178 G dL_law_1173 rfl (fun _ => fin) (fun h => absurd (by rw [hf0 hz]; exact lgc_self _) h)
theorem st_left (G : okG Θ p s m args c A 8 cL_law RL lwT) (E : Ev K A s s.heap) (hST : Θ.1.stackTraces = false) (hX : va_X b L xs s s.heap) (hbl : b < s.heap.size) (hbA : ¬ A b) (hL : L ≤ 3072) (hi : i + 5 < L) (hB : B < 2 ^ 30) {cs : CSt} {μ : MSt} (inv : Inv B cs μ) (f : Nat → Int64) (hk : k + 1 ≤ 601024 ∧ n + 6 ≤ 7293034)
    (NX : ∀ (c2 : CSt) (μ2 : MSt) (f2 : Nat → Int64) (k2 n2 : Nat), Inv (B + 20000) c2 μ2 → k2 ≤ k + 1 → n2 ≤ n + 6 → sw Θ p e room_1 s m args below meth c A Q 8 k2 n2 1594 (lvB b ad am q i) [] (wL Θ ad am q f2 c2 μ2)) : sw Θ p e room_1 s m args below meth c A Q 8 k n 1181 (lvB b ad am q i) [] (wL Θ ad am q f cs μ) := by
  obtain ⟨kk, r, c2, μ2, f2, hkk, hf0, hw, hm, hth, hI⟩ := wr_left (K := K) (ad := ad) (am := am) Θ q f hST inv (xs (i + 1))
  refine sw_aload_n 1181 G dL_law_1181 3 rfl ?_
  refine sw_aload_n 1182 G dL_law_1182 4 rfl ?_
  refine sw_iload 1183 G dL_law_1183 0 rfl ?_
  refine sw_iconst 1185 G (1 : Int32) dL_law_1185 rfl ?_
  refine sw_iadd 1186 G dL_law_1186 ?_
  refine sw_sld 1187 G hX hbl hbA hL (i + 1) (nI_add i 1) (by omega) dL_law_1187 ?_
  refine sw_aload_n 1188 G dL_law_1188 1 rfl ?_
  refine sw_callSH 1189 G E 3 dL_law_1189 (FC.head (wM Θ am μ) hw) (gwH lk_ce0819b0 lk_a78903fb lk_686f7283 lk_c3a6a961) rfl hsL_left ⟨rfl, rfl⟩ ⟨Nat.le_of_ble_eq_true rfl, Nat.le_of_ble_eq_true rfl⟩ hk rfl rfl (Nat.le_of_ble_eq_true rfl) ?_
  refine sw_istore 1192 G _ dL_law_1192 (by decide) rfl ?_
  refine sw_aload_n 1194 G dL_law_1194 3 rfl ?_
  refine sw_aload_n 1195 G dL_law_1195 5 rfl ?_
  refine sw_iload 1196 G dL_law_1196 1 rfl ?_
  refine sw_iconst 1198 G (1 : Int32) dL_law_1198 rfl ?_
  refine sw_iadd 1199 G dL_law_1199 ?_
  refine sw_sld 1200 G hX hbl hbA hL (i + 1) (nI_add i 1) (by omega) dL_law_1200 ?_
  refine sw_callVA 1201 G E 1 dL_law_1201 (FC.tail (wO Θ q f2 ++ wC Θ ad c2) hm) (gwV lk_75eb8c6c lk_08e2ab2b lk_b9a8802e lk_6d91b6d2 lk_38efe5dd) rfl hvW_X6_left ⟨rfl, rfl⟩ ⟨Nat.le_of_ble_eq_true rfl, Nat.le_of_ble_eq_true rfl⟩ ⟨hk.1, hk.2⟩ rfl rfl (Nat.le_of_ble_eq_true rfl) 0 rfl vc6 rfl ?_
  refine sw_lstore 1204 G _ dL_law_1204 (by decide) rfl ?_
  refine sw_aload_n 1206 G dL_law_1206 4 rfl ?_
  refine sw_callVA 1207 G E 0 dL_law_1207 (FC.tail (wO Θ q f2 ++ wC Θ ad c2) (kM_thr μ2)) (gwV lk_79577f46 lk_0e4a22c5 lk_9b3f5359 lk_6d91b6d2 lk_8bbd5765) rfl hvW_X6_thrown ⟨rfl, rfl⟩ ⟨Nat.le_of_ble_eq_true rfl, Nat.le_of_ble_eq_true rfl⟩ ⟨hk.1, hk.2⟩ rfl rfl (Nat.le_of_ble_eq_true rfl) 0 rfl vc6 rfl ?_
  refine sw_iload 1210 G dL_law_1210 1 rfl ?_
  refine sw_Ieq 1212 1217 G dL_law_1212 rfl (fun _ => ?_) (fun h => absurd hth h)
  refine sw_iload 1217 G dL_law_1217 1 rfl ?_
  have fin : sw Θ p e room_1 s m args below meth c A Q 8 (k + 1 + 0 + 0) (n + 6 + 0 + 0) 1233 [(6, .long r), (5, .int (nI kk)), (4, .int (nI i)), (3, .ref q), (2, .ref (am 0)), (1, .ref (ad 0)), (0, .ref b)] [] (wL Θ ad am q f2 c2 μ2) := by
    refine sw_goto 1233 G 1594 dL_law_1233 rfl ?_
    refine sw_lv (lvB b ad am q i) [2, 3, 4, 5, 6] rfl ?_
    exact NX c2 μ2 f2 _ _ hI (by omega) (by omega)
  refine sw_Bne 1219 1233 G dL_law_1219 rfl (fun _ => fin) (fun h => ?_)
  have hz : kk = 0 := by
    by_cases z : kk = 0
    · exact z
    · exact absurd h (nI_ne0 (by omega) (by omega))
  refine sw_aload_n 1222 G dL_law_1222 3 rfl ?_
  refine sw_iconst 1223 G (0 : Int32) dL_law_1223 rfl ?_
  refine sw_lald 1224 G 10 dL_law_1224 rfl gd0 (fun _ => ?_)
  refine sw_lload 1225 G dL_law_1225 0 rfl ?_
  refine sw_lcmp 1227 G dL_law_1227 ?_
  exact sw_Beq 1228 1233 G dL_law_1228 rfl (fun _ => fin) (fun h => absurd (by rw [hf0 hz]; exact lgc_self _) h)
theorem st_whole (G : okG Θ p s m args c A 8 cL_law RL lwT) (E : Ev K A s s.heap) (hST : Θ.1.stackTraces = false) (hX : va_X b L xs s s.heap) (hbl : b < s.heap.size) (hbA : ¬ A b) (hL : L ≤ 3072) (hi : i + 5 < L) (hB : B < 2 ^ 30) {cs : CSt} {μ : MSt} (inv : Inv B cs μ) (f : Nat → Int64) (hk : k + 1 ≤ 601024 ∧ n + 6 ≤ 7293034)
    (NX : ∀ (c2 : CSt) (μ2 : MSt) (f2 : Nat → Int64) (k2 n2 : Nat), Inv (B + 20000) c2 μ2 → k2 ≤ k + 1 → n2 ≤ n + 6 → sw Θ p e room_1 s m args below meth c A Q 8 k2 n2 1594 (lvB b ad am q i) [] (wL Θ ad am q f2 c2 μ2)) : sw Θ p e room_1 s m args below meth c A Q 8 k n 1236 (lvB b ad am q i) [] (wL Θ ad am q f cs μ) := by
  obtain ⟨kk, r, c2, μ2, f2, hkk, hf0, hw, hm, hth, hI⟩ := wr_whole (K := K) (ad := ad) (am := am) Θ q f hST inv (xs (i + 1))
  refine sw_aload_n 1236 G dL_law_1236 3 rfl ?_
  refine sw_aload_n 1237 G dL_law_1237 4 rfl ?_
  refine sw_iload 1238 G dL_law_1238 0 rfl ?_
  refine sw_iconst 1240 G (1 : Int32) dL_law_1240 rfl ?_
  refine sw_iadd 1241 G dL_law_1241 ?_
  refine sw_sld 1242 G hX hbl hbA hL (i + 1) (nI_add i 1) (by omega) dL_law_1242 ?_
  refine sw_aload_n 1243 G dL_law_1243 1 rfl ?_
  refine sw_callSH 1244 G E 3 dL_law_1244 (FC.head (wM Θ am μ) hw) (gwH lk_3ec2d61e lk_a5dfec4e lk_226cc6ed lk_5f88095a) rfl hsL_whole ⟨rfl, rfl⟩ ⟨Nat.le_of_ble_eq_true rfl, Nat.le_of_ble_eq_true rfl⟩ hk rfl rfl (Nat.le_of_ble_eq_true rfl) ?_
  refine sw_istore 1247 G _ dL_law_1247 (by decide) rfl ?_
  refine sw_aload_n 1249 G dL_law_1249 3 rfl ?_
  refine sw_aload_n 1250 G dL_law_1250 5 rfl ?_
  refine sw_iload 1251 G dL_law_1251 1 rfl ?_
  refine sw_iconst 1253 G (1 : Int32) dL_law_1253 rfl ?_
  refine sw_iadd 1254 G dL_law_1254 ?_
  refine sw_sld 1255 G hX hbl hbA hL (i + 1) (nI_add i 1) (by omega) dL_law_1255 ?_
  refine sw_callVA 1256 G E 1 dL_law_1256 (FC.tail (wO Θ q f2 ++ wC Θ ad c2) hm) (gwV lk_017305d8 lk_00a1a7dd lk_013cf7be lk_6d91b6d2 lk_bfb2db39) rfl hvW_X6_whole ⟨rfl, rfl⟩ ⟨Nat.le_of_ble_eq_true rfl, Nat.le_of_ble_eq_true rfl⟩ ⟨hk.1, hk.2⟩ rfl rfl (Nat.le_of_ble_eq_true rfl) 0 rfl vc6 rfl ?_
  refine sw_istore 1259 G _ dL_law_1259 (by decide) rfl ?_
  refine sw_aload_n 1261 G dL_law_1261 4 rfl ?_
  refine sw_callVA 1262 G E 0 dL_law_1262 (FC.tail (wO Θ q f2 ++ wC Θ ad c2) (kM_thr μ2)) (gwV lk_79577f46 lk_0e4a22c5 lk_9b3f5359 lk_6d91b6d2 lk_8bbd5765) rfl hvW_X6_thrown ⟨rfl, rfl⟩ ⟨Nat.le_of_ble_eq_true rfl, Nat.le_of_ble_eq_true rfl⟩ ⟨hk.1, hk.2⟩ rfl rfl (Nat.le_of_ble_eq_true rfl) 0 rfl vc6 rfl ?_
  refine sw_iload 1265 G dL_law_1265 1 rfl ?_
  refine sw_Ieq 1267 1272 G dL_law_1267 rfl (fun _ => ?_) (fun h => absurd hth h)
  refine sw_iload 1272 G dL_law_1272 1 rfl ?_
  have fin : sw Θ p e room_1 s m args below meth c A Q 8 (k + 1 + 0 + 0) (n + 6 + 0 + 0) 1289 [(6, .int r), (5, .int (nI kk)), (4, .int (nI i)), (3, .ref q), (2, .ref (am 0)), (1, .ref (ad 0)), (0, .ref b)] [] (wL Θ ad am q f2 c2 μ2) := by
    refine sw_goto 1289 G 1594 dL_law_1289 rfl ?_
    refine sw_lv (lvB b ad am q i) [2, 3, 4, 5, 6] rfl ?_
    exact NX c2 μ2 f2 _ _ hI (by omega) (by omega)
  refine sw_Bne 1274 1289 G dL_law_1274 rfl (fun _ => fin) (fun h => ?_)
  have hz : kk = 0 := by
    by_cases z : kk = 0
    · exact z
    · exact absurd h (nI_ne0 (by omega) (by omega))
  refine sw_aload_n 1277 G dL_law_1277 3 rfl ?_
  refine sw_iconst 1278 G (0 : Int32) dL_law_1278 rfl ?_
  refine sw_lald 1279 G 10 dL_law_1279 rfl gd0 (fun _ => ?_)
  refine sw_iload 1280 G dL_law_1280 0 rfl ?_
  refine sw_i2l 1282 G dL_law_1282 ?_
  refine sw_lcmp 1283 G dL_law_1283 ?_
  exact sw_Beq 1284 1289 G dL_law_1284 rfl (fun _ => fin) (fun h => absurd (by rw [hf0 hz]; exact lgc_self _) h)
theorem st_dieFault (G : okG Θ p s m args c A 8 cL_law RL lwT) (E : Ev K A s s.heap) (hST : Θ.1.stackTraces = false) (hX : va_X b L xs s s.heap) (hbl : b < s.heap.size) (hbA : ¬ A b) (hL : L ≤ 3072) (hi : i + 5 < L) (hB : B < 2 ^ 30) {cs : CSt} {μ : MSt} (inv : Inv B cs μ) (f : Nat → Int64) (hk : k + 1 ≤ 601024 ∧ n + 6 ≤ 7293034)
    (NX : ∀ (c2 : CSt) (μ2 : MSt) (f2 : Nat → Int64) (k2 n2 : Nat), Inv (B + 20000) c2 μ2 → k2 ≤ k + 1 → n2 ≤ n + 6 → sw Θ p e room_1 s m args below meth c A Q 8 k2 n2 1594 (lvB b ad am q i) [] (wL Θ ad am q f2 c2 μ2)) : sw Θ p e room_1 s m args below meth c A Q 8 k n 1292 (lvB b ad am q i) [] (wL Θ ad am q f cs μ) := by
  obtain ⟨v, c2, μ2, hc, hm, hI⟩ := cs_dieFault (K := K) (ad := ad) (am := am) (F := 1000001) Θ (by omega) hB inv
  refine sw_aload_n 1292 G dL_law_1292 3 rfl ?_
  refine sw_callVA 1293 G E 0 dL_law_1293 (FC.head (wM Θ am μ) (FC.head (wO Θ q f) hc)) (gwV lk_3a3ff9ad lk_c462158b lk_41251719 lk_5f14f758 lk_f6a455e8) rfl hvW_X5_dieFault ⟨rfl, rfl⟩ ⟨Nat.le_of_ble_eq_true rfl, Nat.le_of_ble_eq_true rfl⟩ ⟨by show k ≤ 601024; omega, by show n ≤ 7293034; omega⟩ rfl rfl (Nat.le_of_ble_eq_true rfl) 11 rfl vc5 rfl ?_
  refine sw_aload_n 1296 G dL_law_1296 2 rfl ?_
  refine sw_callVA 1297 G E 0 dL_law_1297 (FC.tail (wO Θ q f ++ wC Θ ad c2) hm) (gwV lk_e9fafdbc lk_8b92bb99 lk_c3a6a5f9 lk_6d91b6d2 lk_41461260) rfl hvW_X6_dieFault ⟨rfl, rfl⟩ ⟨Nat.le_of_ble_eq_true rfl, Nat.le_of_ble_eq_true rfl⟩ ⟨by show k ≤ 601024; omega, by show n ≤ 7293034; omega⟩ rfl rfl (Nat.le_of_ble_eq_true rfl) 0 rfl vc6 rfl ?_
  refine sw_Ieq 1300 1594 G dL_law_1300 rfl (fun _ => ?_) (fun h => absurd rfl h)
  exact NX c2 μ2 f _ _ hI (by omega) (by omega)
theorem st_planFault (G : okG Θ p s m args c A 8 cL_law RL lwT) (E : Ev K A s s.heap) (hST : Θ.1.stackTraces = false) (hX : va_X b L xs s s.heap) (hbl : b < s.heap.size) (hbA : ¬ A b) (hL : L ≤ 3072) (hi : i + 5 < L) (hB : B < 2 ^ 30) {cs : CSt} {μ : MSt} (inv : Inv B cs μ) (f : Nat → Int64) (hk : k + 1 ≤ 601024 ∧ n + 6 ≤ 7293034)
    (NX : ∀ (c2 : CSt) (μ2 : MSt) (f2 : Nat → Int64) (k2 n2 : Nat), Inv (B + 20000) c2 μ2 → k2 ≤ k + 1 → n2 ≤ n + 6 → sw Θ p e room_1 s m args below meth c A Q 8 k2 n2 1594 (lvB b ad am q i) [] (wL Θ ad am q f2 c2 μ2)) : sw Θ p e room_1 s m args below meth c A Q 8 k n 1305 (lvB b ad am q i) [] (wL Θ ad am q f cs μ) := by
  obtain ⟨v, c2, μ2, hc, hm, hI⟩ := cs_planFault (K := K) (ad := ad) (am := am) (F := 1000001) Θ (by omega) hB inv
  refine sw_aload_n 1305 G dL_law_1305 3 rfl ?_
  refine sw_callVA 1306 G E 0 dL_law_1306 (FC.head (wM Θ am μ) (FC.head (wO Θ q f) hc)) (gwV lk_0c287d29 lk_b8b01604 lk_5abe84c7 lk_5f14f758 lk_9caa16e3) rfl hvW_X5_planFault ⟨rfl, rfl⟩ ⟨Nat.le_of_ble_eq_true rfl, Nat.le_of_ble_eq_true rfl⟩ ⟨by show k ≤ 601024; omega, by show n ≤ 7293034; omega⟩ rfl rfl (Nat.le_of_ble_eq_true rfl) 11 rfl vc5 rfl ?_
  refine sw_aload_n 1309 G dL_law_1309 2 rfl ?_
  refine sw_callVA 1310 G E 0 dL_law_1310 (FC.tail (wO Θ q f ++ wC Θ ad c2) hm) (gwV lk_1d994928 lk_5873b356 lk_efb88aeb lk_6d91b6d2 lk_9bacdd0a) rfl hvW_X6_planFault ⟨rfl, rfl⟩ ⟨Nat.le_of_ble_eq_true rfl, Nat.le_of_ble_eq_true rfl⟩ ⟨by show k ≤ 601024; omega, by show n ≤ 7293034; omega⟩ rfl rfl (Nat.le_of_ble_eq_true rfl) 0 rfl vc6 rfl ?_
  refine sw_Ieq 1313 1594 G dL_law_1313 rfl (fun _ => ?_) (fun h => absurd rfl h)
  exact NX c2 μ2 f _ _ hI (by omega) (by omega)
theorem st_planned (G : okG Θ p s m args c A 8 cL_law RL lwT) (E : Ev K A s s.heap) (hST : Θ.1.stackTraces = false) (hX : va_X b L xs s s.heap) (hbl : b < s.heap.size) (hbA : ¬ A b) (hL : L ≤ 3072) (hi : i + 5 < L) (hB : B < 2 ^ 30) {cs : CSt} {μ : MSt} (inv : Inv B cs μ) (f : Nat → Int64) (hk : k + 1 ≤ 601024 ∧ n + 6 ≤ 7293034)
    (NX : ∀ (c2 : CSt) (μ2 : MSt) (f2 : Nat → Int64) (k2 n2 : Nat), Inv (B + 20000) c2 μ2 → k2 ≤ k + 1 → n2 ≤ n + 6 → sw Θ p e room_1 s m args below meth c A Q 8 k2 n2 1594 (lvB b ad am q i) [] (wL Θ ad am q f2 c2 μ2)) : sw Θ p e room_1 s m args below meth c A Q 8 k n 1318 (lvB b ad am q i) [] (wL Θ ad am q f cs μ) := by
  obtain ⟨kk, r, c2, μ2, f2, hkk, hf0, hw, hm, hth, hI⟩ := wr_planned (K := K) (ad := ad) (am := am) Θ q f hST inv (xs (i + 1))
  refine sw_aload_n 1318 G dL_law_1318 3 rfl ?_
  refine sw_aload_n 1319 G dL_law_1319 4 rfl ?_
  refine sw_iload 1320 G dL_law_1320 0 rfl ?_
  refine sw_iconst 1322 G (1 : Int32) dL_law_1322 rfl ?_
  refine sw_iadd 1323 G dL_law_1323 ?_
  refine sw_sld 1324 G hX hbl hbA hL (i + 1) (nI_add i 1) (by omega) dL_law_1324 ?_
  refine sw_aload_n 1325 G dL_law_1325 1 rfl ?_
  refine sw_callSH 1326 G E 3 dL_law_1326 (FC.head (wM Θ am μ) hw) (gwH lk_bd684c88 lk_48436dfe lk_aeb8eb8a lk_a7dd33b5) rfl hsL_planned ⟨rfl, rfl⟩ ⟨Nat.le_of_ble_eq_true rfl, Nat.le_of_ble_eq_true rfl⟩ hk rfl rfl (Nat.le_of_ble_eq_true rfl) ?_
  refine sw_istore 1329 G _ dL_law_1329 (by decide) rfl ?_
  refine sw_aload_n 1331 G dL_law_1331 3 rfl ?_
  refine sw_aload_n 1332 G dL_law_1332 5 rfl ?_
  refine sw_iload 1333 G dL_law_1333 1 rfl ?_
  refine sw_iconst 1335 G (1 : Int32) dL_law_1335 rfl ?_
  refine sw_iadd 1336 G dL_law_1336 ?_
  refine sw_sld 1337 G hX hbl hbA hL (i + 1) (nI_add i 1) (by omega) dL_law_1337 ?_
  refine sw_callVA 1338 G E 1 dL_law_1338 (FC.tail (wO Θ q f2 ++ wC Θ ad c2) hm) (gwV lk_c65e08aa lk_65503d6a lk_9e88431e lk_6d91b6d2 lk_5dbf2edf) rfl hvW_X6_planned ⟨rfl, rfl⟩ ⟨Nat.le_of_ble_eq_true rfl, Nat.le_of_ble_eq_true rfl⟩ ⟨hk.1, hk.2⟩ rfl rfl (Nat.le_of_ble_eq_true rfl) 0 rfl vc6 rfl ?_
  refine sw_istore 1341 G _ dL_law_1341 (by decide) rfl ?_
  refine sw_aload_n 1343 G dL_law_1343 4 rfl ?_
  refine sw_callVA 1344 G E 0 dL_law_1344 (FC.tail (wO Θ q f2 ++ wC Θ ad c2) (kM_thr μ2)) (gwV lk_79577f46 lk_0e4a22c5 lk_9b3f5359 lk_6d91b6d2 lk_8bbd5765) rfl hvW_X6_thrown ⟨rfl, rfl⟩ ⟨Nat.le_of_ble_eq_true rfl, Nat.le_of_ble_eq_true rfl⟩ ⟨hk.1, hk.2⟩ rfl rfl (Nat.le_of_ble_eq_true rfl) 0 rfl vc6 rfl ?_
  refine sw_iload 1347 G dL_law_1347 1 rfl ?_
  refine sw_Ieq 1349 1354 G dL_law_1349 rfl (fun _ => ?_) (fun h => absurd hth h)
  refine sw_iload 1354 G dL_law_1354 1 rfl ?_
  have fin : sw Θ p e room_1 s m args below meth c A Q 8 (k + 1 + 0 + 0) (n + 6 + 0 + 0) 1371 [(6, .int r), (5, .int (nI kk)), (4, .int (nI i)), (3, .ref q), (2, .ref (am 0)), (1, .ref (ad 0)), (0, .ref b)] [] (wL Θ ad am q f2 c2 μ2) := by
    refine sw_goto 1371 G 1594 dL_law_1371 rfl ?_
    refine sw_lv (lvB b ad am q i) [2, 3, 4, 5, 6] rfl ?_
    exact NX c2 μ2 f2 _ _ hI (by omega) (by omega)
  refine sw_Bne 1356 1371 G dL_law_1356 rfl (fun _ => fin) (fun h => ?_)
  have hz : kk = 0 := by
    by_cases z : kk = 0
    · exact z
    · exact absurd h (nI_ne0 (by omega) (by omega))
  refine sw_aload_n 1359 G dL_law_1359 3 rfl ?_
  refine sw_iconst 1360 G (0 : Int32) dL_law_1360 rfl ?_
  refine sw_lald 1361 G 10 dL_law_1361 rfl gd0 (fun _ => ?_)
  refine sw_iload 1362 G dL_law_1362 0 rfl ?_
  refine sw_i2l 1364 G dL_law_1364 ?_
  refine sw_lcmp 1365 G dL_law_1365 ?_
  exact sw_Beq 1366 1371 G dL_law_1366 rfl (fun _ => fin) (fun h => absurd (by rw [hf0 hz]; exact lgc_self _) h)
theorem st_leastLimit (G : okG Θ p s m args c A 8 cL_law RL lwT) (E : Ev K A s s.heap) (hST : Θ.1.stackTraces = false) (hX : va_X b L xs s s.heap) (hbl : b < s.heap.size) (hbA : ¬ A b) (hL : L ≤ 3072) (hi : i + 5 < L) (hB : B < 2 ^ 30) {cs : CSt} {μ : MSt} (inv : Inv B cs μ) (f : Nat → Int64) (hk : k + 1 ≤ 601024 ∧ n + 6 ≤ 7293034)
    (NX : ∀ (c2 : CSt) (μ2 : MSt) (f2 : Nat → Int64) (k2 n2 : Nat), Inv (B + 20000) c2 μ2 → k2 ≤ k + 1 → n2 ≤ n + 6 → sw Θ p e room_1 s m args below meth c A Q 8 k2 n2 1594 (lvB b ad am q i) [] (wL Θ ad am q f2 c2 μ2)) : sw Θ p e room_1 s m args below meth c A Q 8 k n 1374 (lvB b ad am q i) [] (wL Θ ad am q f cs μ) := by
  obtain ⟨v, c2, μ2, hc, hm, hI⟩ := cs_leastLimit (K := K) (ad := ad) (am := am) (F := 1000001) Θ (by omega) hB inv
  refine sw_aload_n 1374 G dL_law_1374 3 rfl ?_
  refine sw_callVA 1375 G E 0 dL_law_1375 (FC.head (wM Θ am μ) (FC.head (wO Θ q f) hc)) (gwV lk_0965a9ca lk_a123ec1d lk_b8884885 lk_5f14f758 lk_d02853f7) rfl hvW_X5_leastLimit ⟨rfl, rfl⟩ ⟨Nat.le_of_ble_eq_true rfl, Nat.le_of_ble_eq_true rfl⟩ ⟨by show k ≤ 601024; omega, by show n ≤ 7293034; omega⟩ rfl rfl (Nat.le_of_ble_eq_true rfl) 11 rfl vc5 rfl ?_
  refine sw_aload_n 1378 G dL_law_1378 2 rfl ?_
  refine sw_callVA 1379 G E 0 dL_law_1379 (FC.tail (wO Θ q f ++ wC Θ ad c2) hm) (gwV lk_b18f853c lk_a3d0525b lk_8232ad49 lk_6d91b6d2 lk_177c1b80) rfl hvW_X6_leastLimit ⟨rfl, rfl⟩ ⟨Nat.le_of_ble_eq_true rfl, Nat.le_of_ble_eq_true rfl⟩ ⟨by show k ≤ 601024; omega, by show n ≤ 7293034; omega⟩ rfl rfl (Nat.le_of_ble_eq_true rfl) 0 rfl vc6 rfl ?_
  refine sw_Ieq 1382 1594 G dL_law_1382 rfl (fun _ => ?_) (fun h => absurd rfl h)
  exact NX c2 μ2 f _ _ hI (by omega) (by omega)
theorem st_fitsTwice (G : okG Θ p s m args c A 8 cL_law RL lwT) (E : Ev K A s s.heap) (hST : Θ.1.stackTraces = false) (hX : va_X b L xs s s.heap) (hbl : b < s.heap.size) (hbA : ¬ A b) (hL : L ≤ 3072) (hi : i + 5 < L) (hB : B < 2 ^ 30) {cs : CSt} {μ : MSt} (inv : Inv B cs μ) (f : Nat → Int64) (hk : k + 1 ≤ 601024 ∧ n + 6 ≤ 7293034)
    (NX : ∀ (c2 : CSt) (μ2 : MSt) (f2 : Nat → Int64) (k2 n2 : Nat), Inv (B + 20000) c2 μ2 → k2 ≤ k + 1 → n2 ≤ n + 6 → sw Θ p e room_1 s m args below meth c A Q 8 k2 n2 1594 (lvB b ad am q i) [] (wL Θ ad am q f2 c2 μ2)) : sw Θ p e room_1 s m args below meth c A Q 8 k n 1387 (lvB b ad am q i) [] (wL Θ ad am q f cs μ) := by
  obtain ⟨v, c2, μ2, hc, hm, hI⟩ := cs_fitsTwice (K := K) (ad := ad) (am := am) (F := 1000001) Θ (by omega) hB inv
  refine sw_aload_n 1387 G dL_law_1387 3 rfl ?_
  refine sw_callVA 1388 G E 0 dL_law_1388 (FC.head (wM Θ am μ) (FC.head (wO Θ q f) hc)) (gwV lk_7d6b044a lk_b6d8f630 lk_8f672cea lk_5f14f758 lk_fc6b1be2) rfl hvW_X5_fitsTwice ⟨rfl, rfl⟩ ⟨Nat.le_of_ble_eq_true rfl, Nat.le_of_ble_eq_true rfl⟩ ⟨by show k ≤ 601024; omega, by show n ≤ 7293034; omega⟩ rfl rfl (Nat.le_of_ble_eq_true rfl) 11 rfl vc5 rfl ?_
  refine sw_aload_n 1391 G dL_law_1391 2 rfl ?_
  refine sw_callVA 1392 G E 0 dL_law_1392 (FC.tail (wO Θ q f ++ wC Θ ad c2) hm) (gwV lk_b2d4bc80 lk_63ccc836 lk_0714f438 lk_6d91b6d2 lk_494320d9) rfl hvW_X6_fitsTwice ⟨rfl, rfl⟩ ⟨Nat.le_of_ble_eq_true rfl, Nat.le_of_ble_eq_true rfl⟩ ⟨by show k ≤ 601024; omega, by show n ≤ 7293034; omega⟩ rfl rfl (Nat.le_of_ble_eq_true rfl) 0 rfl vc6 rfl ?_
  refine sw_Ieq 1395 1594 G dL_law_1395 rfl (fun _ => ?_) (fun h => absurd rfl h)
  exact NX c2 μ2 f _ _ hI (by omega) (by omega)
theorem st_scrap (G : okG Θ p s m args c A 8 cL_law RL lwT) (E : Ev K A s s.heap) (hST : Θ.1.stackTraces = false) (hX : va_X b L xs s s.heap) (hbl : b < s.heap.size) (hbA : ¬ A b) (hL : L ≤ 3072) (hi : i + 5 < L) (hB : B < 2 ^ 30) {cs : CSt} {μ : MSt} (inv : Inv B cs μ) (f : Nat → Int64) (hk : k + 1 ≤ 601024 ∧ n + 6 ≤ 7293034)
    (NX : ∀ (c2 : CSt) (μ2 : MSt) (f2 : Nat → Int64) (k2 n2 : Nat), Inv (B + 20000) c2 μ2 → k2 ≤ k + 1 → n2 ≤ n + 6 → sw Θ p e room_1 s m args below meth c A Q 8 k2 n2 1594 (lvB b ad am q i) [] (wL Θ ad am q f2 c2 μ2)) : sw Θ p e room_1 s m args below meth c A Q 8 k n 1400 (lvB b ad am q i) [] (wL Θ ad am q f cs μ) := by
  obtain ⟨v, c2, μ2, hc, hm, hI⟩ := cs_scrap (K := K) (ad := ad) (am := am) (F := 1000001) Θ (by omega) hB inv (decide (¬ xs (i + 1) = 0))
  refine sw_aload_n 1400 G dL_law_1400 3 rfl ?_
  refine sw_aload_n 1401 G dL_law_1401 4 rfl ?_
  refine sw_iload 1402 G dL_law_1402 0 rfl ?_
  refine sw_iconst 1404 G (1 : Int32) dL_law_1404 rfl ?_
  refine sw_iadd 1405 G dL_law_1405 ?_
  refine sw_sld 1406 G hX hbl hbA hL (i + 1) (nI_add i 1) (by omega) dL_law_1406 ?_
  refine sw_zb 1407 G dL_law_1407 dL_law_1410 dL_law_1411 dL_law_1414 ?_
  refine sw_callVA 1415 G E 1 dL_law_1415 (FC.head (wM Θ am μ) (FC.head (wO Θ q f) hc)) (gwV lk_786a733e lk_89c46ba6 lk_cc13ca5e lk_5f14f758 lk_c1d0049b) rfl hvW_X5_scrap ⟨rfl, rfl⟩ ⟨Nat.le_of_ble_eq_true rfl, Nat.le_of_ble_eq_true rfl⟩ ⟨by show k ≤ 601024; omega, by show n ≤ 7293034; omega⟩ rfl rfl (Nat.le_of_ble_eq_true rfl) 11 rfl vc5 rfl ?_
  refine sw_aload_n 1418 G dL_law_1418 2 rfl ?_
  refine sw_aload_n 1419 G dL_law_1419 4 rfl ?_
  refine sw_iload 1420 G dL_law_1420 0 rfl ?_
  refine sw_iconst 1422 G (1 : Int32) dL_law_1422 rfl ?_
  refine sw_iadd 1423 G dL_law_1423 ?_
  refine sw_sld 1424 G hX hbl hbA hL (i + 1) (nI_add i 1) (by omega) dL_law_1424 ?_
  refine sw_zb 1425 G dL_law_1425 dL_law_1428 dL_law_1429 dL_law_1432 ?_
  refine sw_callVA 1433 G E 1 dL_law_1433 (FC.tail (wO Θ q f ++ wC Θ ad c2) hm) (gwV lk_7cc8357b lk_e6acb0e9 lk_0580086a lk_6d91b6d2 lk_3159fed3) rfl hvW_X6_scrap ⟨rfl, rfl⟩ ⟨Nat.le_of_ble_eq_true rfl, Nat.le_of_ble_eq_true rfl⟩ ⟨by show k ≤ 601024; omega, by show n ≤ 7293034; omega⟩ rfl rfl (Nat.le_of_ble_eq_true rfl) 0 rfl vc6 rfl ?_
  refine sw_Ieq 1436 1594 G dL_law_1436 rfl (fun _ => ?_) (fun h => absurd rfl h)
  exact NX c2 μ2 f _ _ hI (by omega) (by omega)
theorem st_strokesToGood (G : okG Θ p s m args c A 8 cL_law RL lwT) (E : Ev K A s s.heap) (hST : Θ.1.stackTraces = false) (hX : va_X b L xs s s.heap) (hbl : b < s.heap.size) (hbA : ¬ A b) (hL : L ≤ 3072) (hi : i + 5 < L) (hB : B < 2 ^ 30) {cs : CSt} {μ : MSt} (inv : Inv B cs μ) (f : Nat → Int64) (hk : k + 1 ≤ 601024 ∧ n + 6 ≤ 7293034)
    (NX : ∀ (c2 : CSt) (μ2 : MSt) (f2 : Nat → Int64) (k2 n2 : Nat), Inv (B + 20000) c2 μ2 → k2 ≤ k + 1 → n2 ≤ n + 6 → sw Θ p e room_1 s m args below meth c A Q 8 k2 n2 1594 (lvB b ad am q i) [] (wL Θ ad am q f2 c2 μ2)) : sw Θ p e room_1 s m args below meth c A Q 8 k n 1441 (lvB b ad am q i) [] (wL Θ ad am q f cs μ) := by
  obtain ⟨v, c2, μ2, hc, hm, hI⟩ := cs_strokesToGood (K := K) (ad := ad) (am := am) (F := 1000001) Θ (by omega) hB inv
  refine sw_aload_n 1441 G dL_law_1441 3 rfl ?_
  refine sw_callVA 1442 G E 0 dL_law_1442 (FC.head (wM Θ am μ) (FC.head (wO Θ q f) hc)) (gwV lk_668dc995 lk_9dcedff5 lk_79814c5f lk_5f14f758 lk_ccad33a5) rfl hvW_X5_strokesToGood ⟨rfl, rfl⟩ ⟨Nat.le_of_ble_eq_true rfl, Nat.le_of_ble_eq_true rfl⟩ ⟨by show k ≤ 601024; omega, by show n ≤ 7293034; omega⟩ rfl rfl (Nat.le_of_ble_eq_true rfl) 11 rfl vc5 rfl ?_
  refine sw_aload_n 1445 G dL_law_1445 2 rfl ?_
  refine sw_callVA 1446 G E 0 dL_law_1446 (FC.tail (wO Θ q f ++ wC Θ ad c2) hm) (gwV lk_edd160ff lk_69fbbe85 lk_48acca30 lk_6d91b6d2 lk_d8619462) rfl hvW_X6_strokesToGood ⟨rfl, rfl⟩ ⟨Nat.le_of_ble_eq_true rfl, Nat.le_of_ble_eq_true rfl⟩ ⟨by show k ≤ 601024; omega, by show n ≤ 7293034; omega⟩ rfl rfl (Nat.le_of_ble_eq_true rfl) 0 rfl vc6 rfl ?_
  refine sw_Ieq 1449 1594 G dL_law_1449 rfl (fun _ => ?_) (fun h => absurd rfl h)
  exact NX c2 μ2 f _ _ hI (by omega) (by omega)
theorem st_type (G : okG Θ p s m args c A 8 cL_law RL lwT) (E : Ev K A s s.heap) (hST : Θ.1.stackTraces = false) (hX : va_X b L xs s s.heap) (hbl : b < s.heap.size) (hbA : ¬ A b) (hL : L ≤ 3072) (hi : i + 5 < L) (hB : B < 2 ^ 30) {cs : CSt} {μ : MSt} (inv : Inv B cs μ) (f : Nat → Int64) (hk : k + 1 ≤ 601024 ∧ n + 6 ≤ 7293034)
    (NX : ∀ (c2 : CSt) (μ2 : MSt) (f2 : Nat → Int64) (k2 n2 : Nat), Inv (B + 20000) c2 μ2 → k2 ≤ k + 1 → n2 ≤ n + 6 → sw Θ p e room_1 s m args below meth c A Q 8 k2 n2 1594 (lvB b ad am q i) [] (wL Θ ad am q f2 c2 μ2)) : sw Θ p e room_1 s m args below meth c A Q 8 k n 1454 (lvB b ad am q i) [] (wL Θ ad am q f cs μ) := by
  obtain ⟨kk, r, c2, μ2, f2, hkk, hf0, hw, hm, hth, hI⟩ := wr_type (K := K) (ad := ad) (am := am) Θ q f hST inv (xs (i + 1))
  refine sw_aload_n 1454 G dL_law_1454 3 rfl ?_
  refine sw_aload_n 1455 G dL_law_1455 4 rfl ?_
  refine sw_iload 1456 G dL_law_1456 0 rfl ?_
  refine sw_iconst 1458 G (1 : Int32) dL_law_1458 rfl ?_
  refine sw_iadd 1459 G dL_law_1459 ?_
  refine sw_sld 1460 G hX hbl hbA hL (i + 1) (nI_add i 1) (by omega) dL_law_1460 ?_
  refine sw_aload_n 1461 G dL_law_1461 1 rfl ?_
  refine sw_callSH 1462 G E 3 dL_law_1462 (FC.head (wM Θ am μ) hw) (gwH lk_a86630b3 lk_51a8cdcf lk_faf15186 lk_9c269ae6) rfl hsL_type ⟨rfl, rfl⟩ ⟨Nat.le_of_ble_eq_true rfl, Nat.le_of_ble_eq_true rfl⟩ hk rfl rfl (Nat.le_of_ble_eq_true rfl) ?_
  refine sw_istore 1465 G _ dL_law_1465 (by decide) rfl ?_
  refine sw_aload_n 1467 G dL_law_1467 3 rfl ?_
  refine sw_aload_n 1468 G dL_law_1468 5 rfl ?_
  refine sw_iload 1469 G dL_law_1469 1 rfl ?_
  refine sw_iconst 1471 G (1 : Int32) dL_law_1471 rfl ?_
  refine sw_iadd 1472 G dL_law_1472 ?_
  refine sw_sld 1473 G hX hbl hbA hL (i + 1) (nI_add i 1) (by omega) dL_law_1473 ?_
  refine sw_callVA 1474 G E 1 dL_law_1474 (FC.tail (wO Θ q f2 ++ wC Θ ad c2) hm) (gwV lk_75b0ff48 lk_20c72e33 lk_90fd4d71 lk_6d91b6d2 lk_35d33c69) rfl hvW_X6_type ⟨rfl, rfl⟩ ⟨Nat.le_of_ble_eq_true rfl, Nat.le_of_ble_eq_true rfl⟩ ⟨hk.1, hk.2⟩ rfl rfl (Nat.le_of_ble_eq_true rfl) 0 rfl vc6 rfl ?_
  refine sw_istore 1477 G _ dL_law_1477 (by decide) rfl ?_
  refine sw_aload_n 1479 G dL_law_1479 4 rfl ?_
  refine sw_callVA 1480 G E 0 dL_law_1480 (FC.tail (wO Θ q f2 ++ wC Θ ad c2) (kM_thr μ2)) (gwV lk_79577f46 lk_0e4a22c5 lk_9b3f5359 lk_6d91b6d2 lk_8bbd5765) rfl hvW_X6_thrown ⟨rfl, rfl⟩ ⟨Nat.le_of_ble_eq_true rfl, Nat.le_of_ble_eq_true rfl⟩ ⟨hk.1, hk.2⟩ rfl rfl (Nat.le_of_ble_eq_true rfl) 0 rfl vc6 rfl ?_
  refine sw_iload 1483 G dL_law_1483 1 rfl ?_
  refine sw_Ieq 1485 1490 G dL_law_1485 rfl (fun _ => ?_) (fun h => absurd hth h)
  refine sw_iload 1490 G dL_law_1490 1 rfl ?_
  have fin : sw Θ p e room_1 s m args below meth c A Q 8 (k + 1 + 0 + 0) (n + 6 + 0 + 0) 1507 [(6, .int r), (5, .int (nI kk)), (4, .int (nI i)), (3, .ref q), (2, .ref (am 0)), (1, .ref (ad 0)), (0, .ref b)] [] (wL Θ ad am q f2 c2 μ2) := by
    refine sw_goto 1507 G 1594 dL_law_1507 rfl ?_
    refine sw_lv (lvB b ad am q i) [2, 3, 4, 5, 6] rfl ?_
    exact NX c2 μ2 f2 _ _ hI (by omega) (by omega)
  refine sw_Bne 1492 1507 G dL_law_1492 rfl (fun _ => fin) (fun h => ?_)
  have hz : kk = 0 := by
    by_cases z : kk = 0
    · exact z
    · exact absurd h (nI_ne0 (by omega) (by omega))
  refine sw_aload_n 1495 G dL_law_1495 3 rfl ?_
  refine sw_iconst 1496 G (0 : Int32) dL_law_1496 rfl ?_
  refine sw_lald 1497 G 10 dL_law_1497 rfl gd0 (fun _ => ?_)
  refine sw_iload 1498 G dL_law_1498 0 rfl ?_
  refine sw_i2l 1500 G dL_law_1500 ?_
  refine sw_lcmp 1501 G dL_law_1501 ?_
  exact sw_Beq 1502 1507 G dL_law_1502 rfl (fun _ => fin) (fun h => absurd (by rw [hf0 hz]; exact lgc_self _) h)
theorem st_clearCommands (G : okG Θ p s m args c A 8 cL_law RL lwT) (E : Ev K A s s.heap) (hST : Θ.1.stackTraces = false) (hX : va_X b L xs s s.heap) (hbl : b < s.heap.size) (hbA : ¬ A b) (hL : L ≤ 3072) (hi : i + 5 < L) (hB : B < 2 ^ 30) {cs : CSt} {μ : MSt} (inv : Inv B cs μ) (f : Nat → Int64) (hk : k + 1 ≤ 601024 ∧ n + 6 ≤ 7293034)
    (NX : ∀ (c2 : CSt) (μ2 : MSt) (f2 : Nat → Int64) (k2 n2 : Nat), Inv (B + 20000) c2 μ2 → k2 ≤ k + 1 → n2 ≤ n + 6 → sw Θ p e room_1 s m args below meth c A Q 8 k2 n2 1594 (lvB b ad am q i) [] (wL Θ ad am q f2 c2 μ2)) : sw Θ p e room_1 s m args below meth c A Q 8 k n 1510 (lvB b ad am q i) [] (wL Θ ad am q f cs μ) := by
  obtain ⟨v, c2, μ2, hc, hm, hI⟩ := cs_clearCommands (K := K) (ad := ad) (am := am) (F := 1000001) Θ (by omega) hB inv
  refine sw_aload_n 1510 G dL_law_1510 3 rfl ?_
  refine sw_callVA 1511 G E 0 dL_law_1511 (FC.head (wM Θ am μ) (FC.head (wO Θ q f) hc)) (gwV lk_d863ae7d lk_b76f4bd9 lk_469d2dfb lk_5f14f758 lk_e9840700) rfl hvW_X5_clearCommands ⟨rfl, rfl⟩ ⟨Nat.le_of_ble_eq_true rfl, Nat.le_of_ble_eq_true rfl⟩ ⟨by show k ≤ 601024; omega, by show n ≤ 7293034; omega⟩ rfl rfl (Nat.le_of_ble_eq_true rfl) 11 rfl vc5 rfl ?_
  refine sw_aload_n 1514 G dL_law_1514 2 rfl ?_
  refine sw_callVA 1515 G E 0 dL_law_1515 (FC.tail (wO Θ q f ++ wC Θ ad c2) hm) (gwV lk_e33cf1e1 lk_88bd9129 lk_b1c7ef4a lk_6d91b6d2 lk_c74a7ca8) rfl hvW_X6_clearCommands ⟨rfl, rfl⟩ ⟨Nat.le_of_ble_eq_true rfl, Nat.le_of_ble_eq_true rfl⟩ ⟨by show k ≤ 601024; omega, by show n ≤ 7293034; omega⟩ rfl rfl (Nat.le_of_ble_eq_true rfl) 0 rfl vc6 rfl ?_
  refine sw_Ieq 1518 1594 G dL_law_1518 rfl (fun _ => ?_) (fun h => absurd rfl h)
  exact NX c2 μ2 f _ _ hI (by omega) (by omega)
theorem st_runCommands (G : okG Θ p s m args c A 8 cL_law RL lwT) (E : Ev K A s s.heap) (hST : Θ.1.stackTraces = false) (hX : va_X b L xs s s.heap) (hbl : b < s.heap.size) (hbA : ¬ A b) (hL : L ≤ 3072) (hi : i + 5 < L) (hB : B < 2 ^ 30) {cs : CSt} {μ : MSt} (inv : Inv B cs μ) (f : Nat → Int64) (hk : k + 1 ≤ 601024 ∧ n + 6 ≤ 7293034)
    (NX : ∀ (c2 : CSt) (μ2 : MSt) (f2 : Nat → Int64) (k2 n2 : Nat), Inv (B + 20000) c2 μ2 → k2 ≤ k + 1 → n2 ≤ n + 6 → sw Θ p e room_1 s m args below meth c A Q 8 k2 n2 1594 (lvB b ad am q i) [] (wL Θ ad am q f2 c2 μ2)) : sw Θ p e room_1 s m args below meth c A Q 8 k n 1523 (lvB b ad am q i) [] (wL Θ ad am q f cs μ) := by
  obtain ⟨v, c2, μ2, hc, hm, hI⟩ := cs_runCommands (K := K) (ad := ad) (am := am) (F := 1000001) Θ (by omega) hB inv
  refine sw_aload_n 1523 G dL_law_1523 3 rfl ?_
  refine sw_callVA 1524 G E 0 dL_law_1524 (FC.head (wM Θ am μ) (FC.head (wO Θ q f) hc)) (gwV lk_0b64298d lk_9ab22249 lk_d658f9a1 lk_5f14f758 lk_6481058b) rfl hvW_X5_runCommands ⟨rfl, rfl⟩ ⟨Nat.le_of_ble_eq_true rfl, Nat.le_of_ble_eq_true rfl⟩ ⟨by show k ≤ 601024; omega, by show n ≤ 7293034; omega⟩ rfl rfl (Nat.le_of_ble_eq_true rfl) 11 rfl vc5 rfl ?_
  refine sw_aload_n 1527 G dL_law_1527 2 rfl ?_
  refine sw_callVA 1528 G E 0 dL_law_1528 (FC.tail (wO Θ q f ++ wC Θ ad c2) hm) (gwV lk_ca6f487c lk_8ffccc04 lk_3830a96e lk_6d91b6d2 lk_f978e1eb) rfl hvW_X6_runCommands ⟨rfl, rfl⟩ ⟨Nat.le_of_ble_eq_true rfl, Nat.le_of_ble_eq_true rfl⟩ ⟨by show k ≤ 601024; omega, by show n ≤ 7293034; omega⟩ rfl rfl (Nat.le_of_ble_eq_true rfl) 0 rfl vc6 rfl ?_
  refine sw_Ieq 1531 1594 G dL_law_1531 rfl (fun _ => ?_) (fun h => absurd rfl h)
  exact NX c2 μ2 f _ _ hI (by omega) (by omega)
theorem st_undo (G : okG Θ p s m args c A 8 cL_law RL lwT) (E : Ev K A s s.heap) (hST : Θ.1.stackTraces = false) (hX : va_X b L xs s s.heap) (hbl : b < s.heap.size) (hbA : ¬ A b) (hL : L ≤ 3072) (hi : i + 5 < L) (hB : B < 2 ^ 30) {cs : CSt} {μ : MSt} (inv : Inv B cs μ) (f : Nat → Int64) (hk : k + 1 ≤ 601024 ∧ n + 6 ≤ 7293034)
    (NX : ∀ (c2 : CSt) (μ2 : MSt) (f2 : Nat → Int64) (k2 n2 : Nat), Inv (B + 20000) c2 μ2 → k2 ≤ k + 1 → n2 ≤ n + 6 → sw Θ p e room_1 s m args below meth c A Q 8 k2 n2 1594 (lvB b ad am q i) [] (wL Θ ad am q f2 c2 μ2)) : sw Θ p e room_1 s m args below meth c A Q 8 k n 1536 (lvB b ad am q i) [] (wL Θ ad am q f cs μ) := by
  obtain ⟨kk, r, c2, μ2, f2, hkk, hf0, hw, hm, hth, hI⟩ := wr_undo (K := K) (ad := ad) (am := am) Θ q f hST inv
  refine sw_aload_n 1536 G dL_law_1536 3 rfl ?_
  refine sw_aload_n 1537 G dL_law_1537 1 rfl ?_
  refine sw_callSH 1538 G E 2 dL_law_1538 (FC.head (wM Θ am μ) hw) (gwH lk_fea3679f lk_51a7ffa8 lk_99292259 lk_f4a555d3) rfl hsL_undo ⟨rfl, rfl⟩ ⟨Nat.le_of_ble_eq_true rfl, Nat.le_of_ble_eq_true rfl⟩ hk rfl rfl (Nat.le_of_ble_eq_true rfl) ?_
  refine sw_istore 1541 G _ dL_law_1541 (by decide) rfl ?_
  refine sw_aload_n 1543 G dL_law_1543 3 rfl ?_
  refine sw_callVA 1544 G E 0 dL_law_1544 (FC.tail (wO Θ q f2 ++ wC Θ ad c2) hm) (gwV lk_e19adf1f lk_54c39a58 lk_3ca2cd7e lk_6d91b6d2 lk_28964e21) rfl hvW_X6_undo ⟨rfl, rfl⟩ ⟨Nat.le_of_ble_eq_true rfl, Nat.le_of_ble_eq_true rfl⟩ ⟨hk.1, hk.2⟩ rfl rfl (Nat.le_of_ble_eq_true rfl) 0 rfl vc6 rfl ?_
  refine sw_istore 1547 G _ dL_law_1547 (by decide) rfl ?_
  refine sw_aload_n 1549 G dL_law_1549 4 rfl ?_
  refine sw_callVA 1550 G E 0 dL_law_1550 (FC.tail (wO Θ q f2 ++ wC Θ ad c2) (kM_thr μ2)) (gwV lk_79577f46 lk_0e4a22c5 lk_9b3f5359 lk_6d91b6d2 lk_8bbd5765) rfl hvW_X6_thrown ⟨rfl, rfl⟩ ⟨Nat.le_of_ble_eq_true rfl, Nat.le_of_ble_eq_true rfl⟩ ⟨hk.1, hk.2⟩ rfl rfl (Nat.le_of_ble_eq_true rfl) 0 rfl vc6 rfl ?_
  refine sw_iload 1553 G dL_law_1553 1 rfl ?_
  refine sw_Ieq 1555 1560 G dL_law_1555 rfl (fun _ => ?_) (fun h => absurd hth h)
  refine sw_iload 1560 G dL_law_1560 1 rfl ?_
  have fin : sw Θ p e room_1 s m args below meth c A Q 8 (k + 1 + 0 + 0) (n + 6 + 0 + 0) 1577 [(6, .int r), (5, .int (nI kk)), (4, .int (nI i)), (3, .ref q), (2, .ref (am 0)), (1, .ref (ad 0)), (0, .ref b)] [] (wL Θ ad am q f2 c2 μ2) := by
    refine sw_goto 1577 G 1594 dL_law_1577 rfl ?_
    refine sw_lv (lvB b ad am q i) [2, 3, 4, 5, 6] rfl ?_
    exact NX c2 μ2 f2 _ _ hI (by omega) (by omega)
  refine sw_Bne 1562 1577 G dL_law_1562 rfl (fun _ => fin) (fun h => ?_)
  have hz : kk = 0 := by
    by_cases z : kk = 0
    · exact z
    · exact absurd h (nI_ne0 (by omega) (by omega))
  refine sw_aload_n 1565 G dL_law_1565 3 rfl ?_
  refine sw_iconst 1566 G (0 : Int32) dL_law_1566 rfl ?_
  refine sw_lald 1567 G 10 dL_law_1567 rfl gd0 (fun _ => ?_)
  refine sw_iload 1568 G dL_law_1568 0 rfl ?_
  refine sw_i2l 1570 G dL_law_1570 ?_
  refine sw_lcmp 1571 G dL_law_1571 ?_
  exact sw_Beq 1572 1577 G dL_law_1572 rfl (fun _ => fin) (fun h => absurd (by rw [hf0 hz]; exact lgc_self _) h)
theorem st_digest (G : okG Θ p s m args c A 8 cL_law RL lwT) (E : Ev K A s s.heap) (hST : Θ.1.stackTraces = false) (hX : va_X b L xs s s.heap) (hbl : b < s.heap.size) (hbA : ¬ A b) (hL : L ≤ 3072) (hi : i + 5 < L) (hB : B < 2 ^ 30) {cs : CSt} {μ : MSt} (inv : Inv B cs μ) (f : Nat → Int64) (hk : k + 1 ≤ 601024 ∧ n + 6 ≤ 7293034)
    (NX : ∀ (c2 : CSt) (μ2 : MSt) (f2 : Nat → Int64) (k2 n2 : Nat), Inv (B + 20000) c2 μ2 → k2 ≤ k + 1 → n2 ≤ n + 6 → sw Θ p e room_1 s m args below meth c A Q 8 k2 n2 1594 (lvB b ad am q i) [] (wL Θ ad am q f2 c2 μ2)) : sw Θ p e room_1 s m args below meth c A Q 8 k n 1580 (lvB b ad am q i) [] (wL Θ ad am q f cs μ) := by
  obtain ⟨v, c2, μ2, hc, hm, hI⟩ := cs_digest (K := K) (ad := ad) (am := am) (F := 1000001) Θ (by omega) hB inv
  refine sw_aload_n 1580 G dL_law_1580 3 rfl ?_
  refine sw_callVA 1581 G E 0 dL_law_1581 (FC.head (wM Θ am μ) (FC.head (wO Θ q f) hc)) (gwV lk_226e4bcd lk_a723f402 lk_3cf336c4 lk_5f14f758 lk_4bee6b2d) rfl hvW_X5_digest ⟨rfl, rfl⟩ ⟨Nat.le_of_ble_eq_true rfl, Nat.le_of_ble_eq_true rfl⟩ ⟨by show k ≤ 601024; omega, by show n ≤ 7293034; omega⟩ rfl rfl (Nat.le_of_ble_eq_true rfl) 11 rfl vc5 rfl ?_
  refine sw_aload_n 1584 G dL_law_1584 2 rfl ?_
  refine sw_callVA 1585 G E 0 dL_law_1585 (FC.tail (wO Θ q f ++ wC Θ ad c2) hm) (gwV lk_2f195257 lk_12549e23 lk_7bcde78e lk_6d91b6d2 lk_f1ef07c7) rfl hvW_X6_digest ⟨rfl, rfl⟩ ⟨Nat.le_of_ble_eq_true rfl, Nat.le_of_ble_eq_true rfl⟩ ⟨by show k ≤ 601024; omega, by show n ≤ 7293034; omega⟩ rfl rfl (Nat.le_of_ble_eq_true rfl) 0 rfl vc6 rfl ?_
  refine sw_lcmp 1588 G dL_law_1588 ?_
  refine sw_Beq 1589 1594 G dL_law_1589 rfl (fun _ => ?_) (fun h => absurd (lgc_self _) h)
  exact NX c2 μ2 f _ _ hI (by omega) (by omega)
end LAW2
