theorem dX5_init_0 : decode cX5_init 0 = .ok (.aload_n 0, 1) := by decide +kernel
theorem dX5_init_1 : decode cX5_init 1 = .ok (.invokespecial 3, 3) := by decide +kernel
theorem dX5_init_4 : decode cX5_init 4 = .ok (.aload_n 0, 1) := by decide +kernel
theorem dX5_init_5 : decode cX5_init 5 = .ok (.new 9, 3) := by decide +kernel
theorem dX5_init_8 : decode cX5_init 8 = .ok (.dup, 1) := by decide +kernel
theorem dX5_init_9 : decode cX5_init 9 = .ok (.invokespecial 11, 3) := by decide +kernel
theorem dX5_init_12 : decode cX5_init 12 = .ok (.putfield 12, 3) := by decide +kernel
theorem dX5_init_15 : decode cX5_init 15 = .ok (.aload_n 0, 1) := by decide +kernel
theorem dX5_init_16 : decode cX5_init 16 = .ok (.iconst 4, 1) := by decide +kernel
theorem dX5_init_17 : decode cX5_init 17 = .ok (.anewarray 9, 3) := by decide +kernel
theorem dX5_init_20 : decode cX5_init 20 = .ok (.putfield 16, 3) := by decide +kernel
theorem dX5_init_23 : decode cX5_init 23 = .ok (.iconst 0, 1) := by decide +kernel
theorem dX5_init_24 : decode cX5_init 24 = .ok (.istore_n 1, 1) := by decide +kernel
theorem dX5_init_25 : decode cX5_init 25 = .ok (.iload_n 1, 1) := by decide +kernel
theorem dX5_init_26 : decode cX5_init 26 = .ok (.aload_n 0, 1) := by decide +kernel
theorem dX5_init_27 : decode cX5_init 27 = .ok (.getfield 16, 3) := by decide +kernel
theorem dX5_init_30 : decode cX5_init 30 = .ok (.arraylength, 1) := by decide +kernel
theorem dX5_init_31 : decode cX5_init 31 = .ok (.if_icmp .ge 22, 3) := by decide +kernel
theorem dX5_init_34 : decode cX5_init 34 = .ok (.aload_n 0, 1) := by decide +kernel
theorem dX5_init_35 : decode cX5_init 35 = .ok (.getfield 16, 3) := by decide +kernel
theorem dX5_init_38 : decode cX5_init 38 = .ok (.iload_n 1, 1) := by decide +kernel
theorem dX5_init_39 : decode cX5_init 39 = .ok (.new 9, 3) := by decide +kernel
theorem dX5_init_42 : decode cX5_init 42 = .ok (.dup, 1) := by decide +kernel
theorem dX5_init_43 : decode cX5_init 43 = .ok (.invokespecial 11, 3) := by decide +kernel
theorem dX5_init_46 : decode cX5_init 46 = .ok (.aastore, 1) := by decide +kernel
theorem dX5_init_47 : decode cX5_init 47 = .ok (.iinc 1 1, 3) := by decide +kernel
theorem dX5_init_50 : decode cX5_init 50 = .ok (.goto (-25), 3) := by decide +kernel
theorem dX5_init_53 : decode cX5_init 53 = .ok (.aload_n 0, 1) := by decide +kernel
theorem dX5_init_54 : decode cX5_init 54 = .ok (.new 20, 3) := by decide +kernel
theorem dX5_init_57 : decode cX5_init 57 = .ok (.dup, 1) := by decide +kernel
theorem dX5_init_58 : decode cX5_init 58 = .ok (.invokespecial 22, 3) := by decide +kernel
theorem dX5_init_61 : decode cX5_init 61 = .ok (.putfield 23, 3) := by decide +kernel
theorem dX5_init_64 : decode cX5_init 64 = .ok (.aload_n 0, 1) := by decide +kernel
theorem dX5_init_65 : decode cX5_init 65 = .ok (.new 27, 3) := by decide +kernel
theorem dX5_init_68 : decode cX5_init 68 = .ok (.dup, 1) := by decide +kernel
theorem dX5_init_69 : decode cX5_init 69 = .ok (.invokespecial 29, 3) := by decide +kernel
theorem dX5_init_72 : decode cX5_init 72 = .ok (.putfield 30, 3) := by decide +kernel
theorem dX5_init_75 : decode cX5_init 75 = .ok (.aload_n 0, 1) := by decide +kernel
theorem dX5_init_76 : decode cX5_init 76 = .ok (.new 34, 3) := by decide +kernel
theorem dX5_init_79 : decode cX5_init 79 = .ok (.dup, 1) := by decide +kernel
theorem dX5_init_80 : decode cX5_init 80 = .ok (.invokespecial 36, 3) := by decide +kernel
theorem dX5_init_83 : decode cX5_init 83 = .ok (.putfield 37, 3) := by decide +kernel
theorem dX5_init_86 : decode cX5_init 86 = .ok (.return_, 1) := by decide +kernel
set_option maxRecDepth 20000 in
theorem ggX5_begin_X5_isPitchSize : GoodIn wsX5_begin wsX5_isPitchSize := goodIn_r _ [9] (by decide +kernel) (by decide +kernel)
set_option maxRecDepth 20000 in
theorem gX5_begin_X5_isPitchSize : GoodIn wsX5_begin (va_wsS RX5 41 yX5_isPitchSize wsX5_isPitchSize) := goodIn_app (goodIn_of _ (by decide +kernel)) ggX5_begin_X5_isPitchSize
set_option maxRecDepth 20000 in
theorem ggX5_begin_X5_save : GoodIn wsX5_begin wsX5_save := goodIn_r _ [13, 14, 15, 3, 16, 17, 18, 8, 19, 20, 21, 22, 23, 24, 25, 26, 27, 28, 29, 30, 31, 32, 33, 34, 35, 36, 37, 38, 39, 40, 41, 42, 43, 44, 45, 46, 47, 48, 49, 50, 51, 52, 53, 54, 55, 56, 57, 58, 59, 60, 85, 86, 87, 88, 89, 90, 91, 92, 93, 94, 95, 96, 97, 98, 99, 100, 101, 102, 103, 104, 105, 106, 107, 108, 109, 110, 111, 112] (by decide +kernel) (by decide +kernel)
set_option maxRecDepth 20000 in
theorem gX5_begin_X5_save : GoodIn wsX5_begin (wsV RX5 52 RX5 yX5_save wsX5_save) := goodIn_app (goodIn_of _ (by decide +kernel)) ggX5_begin_X5_save
set_option maxRecDepth 20000 in
theorem ggX5_begin_X5_startOver : GoodIn wsX5_begin wsX5_startOver := goodIn_r _ [64, 3, 4, 65, 66, 67, 68, 31, 69, 33, 34, 36, 37, 38, 39, 70, 71, 72, 50, 73, 57, 58, 59, 60, 74, 75, 76, 77, 52, 53, 78, 79, 80, 81, 82, 83, 84, 85, 86, 87, 88, 89, 90, 91, 92, 93, 94, 95, 96, 97, 98, 99, 100, 101, 102, 103, 104, 105, 106, 107, 108, 109, 110, 111, 112] (by decide +kernel) (by decide +kernel)
set_option maxRecDepth 20000 in
theorem gX5_begin_X5_startOver : GoodIn wsX5_begin (wsV RX5 65 RX5 yX5_startOver wsX5_startOver) := goodIn_app (goodIn_of _ (by decide +kernel)) ggX5_begin_X5_startOver
theorem dX5_begin_0 : decode cX5_begin 0 = .ok (.iload_n 1, 1) := by decide +kernel
theorem dX5_begin_1 : decode cX5_begin 1 = .ok (.iload_n 2, 1) := by decide +kernel
theorem dX5_begin_2 : decode cX5_begin 2 = .ok (.invokestatic 41, 3) := by decide +kernel
theorem dX5_begin_5 : decode cX5_begin 5 = .ok (.ifCond .ne 13, 3) := by decide +kernel
theorem dX5_begin_8 : decode cX5_begin 8 = .ok (.new 45, 3) := by decide +kernel
theorem dX5_begin_11 : decode cX5_begin 11 = .ok (.dup, 1) := by decide +kernel
theorem dX5_begin_12 : decode cX5_begin 12 = .ok (.ldc 47, 2) := by decide +kernel
theorem dX5_begin_14 : decode cX5_begin 14 = .ok (.invokespecial 49, 3) := by decide +kernel
theorem dX5_begin_17 : decode cX5_begin 17 = .ok (.athrow, 1) := by decide +kernel
theorem dX5_begin_18 : decode cX5_begin 18 = .ok (.aload_n 0, 1) := by decide +kernel
theorem dX5_begin_19 : decode cX5_begin 19 = .ok (.invokevirtual 52, 3) := by decide +kernel
theorem dX5_begin_22 : decode cX5_begin 22 = .ok (.aload_n 0, 1) := by decide +kernel
theorem dX5_begin_23 : decode cX5_begin 23 = .ok (.getfield 12, 3) := by decide +kernel
theorem dX5_begin_26 : decode cX5_begin 26 = .ok (.getfield 55, 3) := by decide +kernel
theorem dX5_begin_29 : decode cX5_begin 29 = .ok (.getfield 59, 3) := by decide +kernel
theorem dX5_begin_32 : decode cX5_begin 32 = .ok (.istore_n 3, 1) := by decide +kernel
theorem dX5_begin_33 : decode cX5_begin 33 = .ok (.aload_n 0, 1) := by decide +kernel
theorem dX5_begin_34 : decode cX5_begin 34 = .ok (.iload_n 1, 1) := by decide +kernel
theorem dX5_begin_35 : decode cX5_begin 35 = .ok (.iload_n 2, 1) := by decide +kernel
theorem dX5_begin_36 : decode cX5_begin 36 = .ok (.invokevirtual 65, 3) := by decide +kernel
theorem dX5_begin_39 : decode cX5_begin 39 = .ok (.iload_n 3, 1) := by decide +kernel
theorem dX5_begin_40 : decode cX5_begin 40 = .ok (.ireturn, 1) := by decide +kernel
set_option maxRecDepth 20000 in
theorem ggX5_mark_X1_holds : GoodIn wsX5_mark wsX1_holds := goodIn_r _ [9, 10, 11, 86, 87, 88, 89, 90, 91, 92, 93, 94, 95] (by decide +kernel) (by decide +kernel)
set_option maxRecDepth 20000 in
theorem gX5_mark_X1_holds : GoodIn wsX5_mark (wsV RX5 69 RX1 yX1_holds wsX1_holds) := goodIn_app (goodIn_of _ (by decide +kernel)) ggX5_mark_X1_holds
set_option maxRecDepth 20000 in
theorem ggX5_mark_X5_save : GoodIn wsX5_mark wsX5_save := goodIn_r _ [16, 17, 18, 3, 19, 20, 21, 15, 22, 23, 24, 25, 26, 27, 28, 29, 30, 31, 32, 33, 8, 34, 10, 11, 35, 36, 37, 38, 39, 40, 41, 42, 43, 44, 45, 46, 47, 48, 49, 50, 51, 52, 53, 54, 55, 56, 57, 58, 59, 60, 77, 78, 79, 80, 81, 82, 83, 84, 85, 86, 87, 88, 89, 90, 91, 92, 93, 94, 95, 96, 97, 98, 99, 100, 101, 102, 103, 104] (by decide +kernel) (by decide +kernel)
set_option maxRecDepth 20000 in
theorem gX5_mark_X5_save : GoodIn wsX5_mark (wsV RX5 52 RX5 yX5_save wsX5_save) := goodIn_app (goodIn_of _ (by decide +kernel)) ggX5_mark_X5_save
set_option maxRecDepth 20000 in
theorem ggX5_mark_X1_rectangle : GoodIn wsX5_mark wsX1_rectangle := goodIn_r _ [64, 11, 10, 86, 87, 88, 89, 90, 91, 92, 93, 94, 95] (by decide +kernel) (by decide +kernel)
set_option maxRecDepth 20000 in
theorem gX5_mark_X1_rectangle : GoodIn wsX5_mark (wsV RX5 75 RX1 yX1_rectangle wsX1_rectangle) := goodIn_app (goodIn_of _ (by decide +kernel)) ggX5_mark_X1_rectangle
set_option maxRecDepth 20000 in
theorem ggX5_mark_X1_markCells : GoodIn wsX5_mark wsX1_markCells := goodIn_r _ [68, 36, 69, 37, 70, 71, 72, 73, 74, 75, 76, 86, 87, 88, 89, 90, 91, 92, 93, 94, 95] (by decide +kernel) (by decide +kernel)
set_option maxRecDepth 20000 in
theorem gX5_mark_X1_markCells : GoodIn wsX5_mark (wsV RX5 79 RX1 yX1_markCells wsX1_markCells) := goodIn_app (goodIn_of _ (by decide +kernel)) ggX5_mark_X1_markCells
theorem dX5_mark_0 : decode cX5_mark 0 = .ok (.aload_n 0, 1) := by decide +kernel
theorem dX5_mark_1 : decode cX5_mark 1 = .ok (.getfield 12, 3) := by decide +kernel
theorem dX5_mark_4 : decode cX5_mark 4 = .ok (.getfield 55, 3) := by decide +kernel
theorem dX5_mark_7 : decode cX5_mark 7 = .ok (.iload_n 1, 1) := by decide +kernel
theorem dX5_mark_8 : decode cX5_mark 8 = .ok (.iload_n 2, 1) := by decide +kernel
theorem dX5_mark_9 : decode cX5_mark 9 = .ok (.iload_n 3, 1) := by decide +kernel
theorem dX5_mark_10 : decode cX5_mark 10 = .ok (.iload 4, 2) := by decide +kernel
theorem dX5_mark_12 : decode cX5_mark 12 = .ok (.invokevirtual 69, 3) := by decide +kernel
theorem dX5_mark_15 : decode cX5_mark 15 = .ok (.ifCond .eq 14, 3) := by decide +kernel
theorem dX5_mark_18 : decode cX5_mark 18 = .ok (.iload 5, 2) := by decide +kernel
theorem dX5_mark_20 : decode cX5_mark 20 = .ok (.ifCond .lt 9, 3) := by decide +kernel
theorem dX5_mark_23 : decode cX5_mark 23 = .ok (.iload 5, 2) := by decide +kernel
theorem dX5_mark_25 : decode cX5_mark 25 = .ok (.iconst 2, 1) := by decide +kernel
theorem dX5_mark_26 : decode cX5_mark 26 = .ok (.if_icmp .le 13, 3) := by decide +kernel
theorem dX5_mark_29 : decode cX5_mark 29 = .ok (.new 45, 3) := by decide +kernel
theorem dX5_mark_32 : decode cX5_mark 32 = .ok (.dup, 1) := by decide +kernel
theorem dX5_mark_33 : decode cX5_mark 33 = .ok (.ldc 73, 2) := by decide +kernel
theorem dX5_mark_35 : decode cX5_mark 35 = .ok (.invokespecial 49, 3) := by decide +kernel
theorem dX5_mark_38 : decode cX5_mark 38 = .ok (.athrow, 1) := by decide +kernel
theorem dX5_mark_39 : decode cX5_mark 39 = .ok (.aload_n 0, 1) := by decide +kernel
theorem dX5_mark_40 : decode cX5_mark 40 = .ok (.invokevirtual 52, 3) := by decide +kernel
theorem dX5_mark_43 : decode cX5_mark 43 = .ok (.aload_n 0, 1) := by decide +kernel
theorem dX5_mark_44 : decode cX5_mark 44 = .ok (.getfield 12, 3) := by decide +kernel
theorem dX5_mark_47 : decode cX5_mark 47 = .ok (.getfield 55, 3) := by decide +kernel
theorem dX5_mark_50 : decode cX5_mark 50 = .ok (.aload_n 0, 1) := by decide +kernel
theorem dX5_mark_51 : decode cX5_mark 51 = .ok (.getfield 12, 3) := by decide +kernel
theorem dX5_mark_54 : decode cX5_mark 54 = .ok (.getfield 55, 3) := by decide +kernel
theorem dX5_mark_57 : decode cX5_mark 57 = .ok (.iload_n 1, 1) := by decide +kernel
theorem dX5_mark_58 : decode cX5_mark 58 = .ok (.iload_n 2, 1) := by decide +kernel
theorem dX5_mark_59 : decode cX5_mark 59 = .ok (.iload_n 3, 1) := by decide +kernel
theorem dX5_mark_60 : decode cX5_mark 60 = .ok (.iload 4, 2) := by decide +kernel
theorem dX5_mark_62 : decode cX5_mark 62 = .ok (.invokevirtual 75, 3) := by decide +kernel
theorem dX5_mark_65 : decode cX5_mark 65 = .ok (.iload 5, 2) := by decide +kernel
theorem dX5_mark_67 : decode cX5_mark 67 = .ok (.invokevirtual 79, 3) := by decide +kernel
theorem dX5_mark_70 : decode cX5_mark 70 = .ok (.ireturn, 1) := by decide +kernel
set_option maxRecDepth 20000 in
theorem ggX5_setCarrier_X5_save : GoodIn wsX5_setCarrier wsX5_save := goodIn_r _ [10, 11, 12, 3, 13, 14, 15, 9, 16, 17, 18, 19, 20, 21, 22, 23, 24, 25, 26, 27, 28, 29, 30, 31, 32, 33, 34, 35, 36, 37, 38, 39, 40, 41, 42, 43, 44, 45, 46, 47, 48, 49, 50, 51, 52, 53, 54, 55, 56, 57, 58, 59, 60, 61, 62, 63, 64, 65, 66, 67, 68, 69, 70, 71, 72, 73, 74, 75, 76, 77, 78, 79, 80, 81, 82, 83, 84, 85] (by decide +kernel) (by decide +kernel)
set_option maxRecDepth 20000 in
theorem gX5_setCarrier_X5_save : GoodIn wsX5_setCarrier (wsV RX5 52 RX5 yX5_save wsX5_save) := goodIn_app (goodIn_of _ (by decide +kernel)) ggX5_setCarrier_X5_save
theorem dX5_setCarrier_0 : decode cX5_setCarrier 0 = .ok (.iload_n 1, 1) := by decide +kernel
theorem dX5_setCarrier_1 : decode cX5_setCarrier 1 = .ok (.ifCond .lt 8, 3) := by decide +kernel
theorem dX5_setCarrier_4 : decode cX5_setCarrier 4 = .ok (.iload_n 1, 1) := by decide +kernel
theorem dX5_setCarrier_5 : decode cX5_setCarrier 5 = .ok (.iconst 2, 1) := by decide +kernel
theorem dX5_setCarrier_6 : decode cX5_setCarrier 6 = .ok (.if_icmp .le 13, 3) := by decide +kernel
theorem dX5_setCarrier_9 : decode cX5_setCarrier 9 = .ok (.new 45, 3) := by decide +kernel
theorem dX5_setCarrier_12 : decode cX5_setCarrier 12 = .ok (.dup, 1) := by decide +kernel
theorem dX5_setCarrier_13 : decode cX5_setCarrier 13 = .ok (.ldc 83, 2) := by decide +kernel
theorem dX5_setCarrier_15 : decode cX5_setCarrier 15 = .ok (.invokespecial 49, 3) := by decide +kernel
theorem dX5_setCarrier_18 : decode cX5_setCarrier 18 = .ok (.athrow, 1) := by decide +kernel
theorem dX5_setCarrier_19 : decode cX5_setCarrier 19 = .ok (.aload_n 0, 1) := by decide +kernel
theorem dX5_setCarrier_20 : decode cX5_setCarrier 20 = .ok (.invokevirtual 52, 3) := by decide +kernel
theorem dX5_setCarrier_23 : decode cX5_setCarrier 23 = .ok (.aload_n 0, 1) := by decide +kernel
theorem dX5_setCarrier_24 : decode cX5_setCarrier 24 = .ok (.getfield 12, 3) := by decide +kernel
theorem dX5_setCarrier_27 : decode cX5_setCarrier 27 = .ok (.getfield 55, 3) := by decide +kernel
theorem dX5_setCarrier_30 : decode cX5_setCarrier 30 = .ok (.getfield 85, 3) := by decide +kernel
theorem dX5_setCarrier_33 : decode cX5_setCarrier 33 = .ok (.istore_n 2, 1) := by decide +kernel
theorem dX5_setCarrier_34 : decode cX5_setCarrier 34 = .ok (.aload_n 0, 1) := by decide +kernel
theorem dX5_setCarrier_35 : decode cX5_setCarrier 35 = .ok (.getfield 12, 3) := by decide +kernel
theorem dX5_setCarrier_38 : decode cX5_setCarrier 38 = .ok (.getfield 55, 3) := by decide +kernel
theorem dX5_setCarrier_41 : decode cX5_setCarrier 41 = .ok (.iload_n 1, 1) := by decide +kernel
theorem dX5_setCarrier_42 : decode cX5_setCarrier 42 = .ok (.putfield 85, 3) := by decide +kernel
theorem dX5_setCarrier_45 : decode cX5_setCarrier 45 = .ok (.iload_n 2, 1) := by decide +kernel
theorem dX5_setCarrier_46 : decode cX5_setCarrier 46 = .ok (.ireturn, 1) := by decide +kernel
set_option maxRecDepth 20000 in
theorem ggX5_set_X5_isSettingValue : GoodIn wsX5_set wsX5_isSettingValue := goodIn_r _ [8] (by decide +kernel) (by decide +kernel)
set_option maxRecDepth 20000 in
theorem gX5_set_X5_isSettingValue : GoodIn wsX5_set (va_wsS RX5 88 yX5_isSettingValue wsX5_isSettingValue) := goodIn_app (goodIn_of _ (by decide +kernel)) ggX5_set_X5_isSettingValue
set_option maxRecDepth 20000 in
theorem ggX5_set_X5_save : GoodIn wsX5_set wsX5_save := goodIn_r _ [12, 13, 14, 3, 15, 16, 17, 7, 18, 19, 20, 21, 22, 23, 24, 25, 26, 27, 28, 29, 30, 31, 32, 33, 34, 35, 36, 37, 38, 39, 40, 41, 42, 43, 44, 45, 46, 47, 48, 49, 50, 51, 52, 53, 54, 55, 56, 57, 58, 59, 68, 69, 70, 71, 72, 73, 74, 75, 76, 77, 78, 79, 80, 81, 82, 83, 84, 85, 86, 87, 88, 89, 90, 91, 92, 93, 94, 95] (by decide +kernel) (by decide +kernel)
set_option maxRecDepth 20000 in
theorem gX5_set_X5_save : GoodIn wsX5_set (wsV RX5 52 RX5 yX5_save wsX5_save) := goodIn_app (goodIn_of _ (by decide +kernel)) ggX5_set_X5_save
set_option maxRecDepth 20000 in
theorem ggX5_set_X1_setting : GoodIn wsX5_set wsX1_setting := goodIn_r _ [63, 39, 77, 78, 79, 80, 81, 82, 83, 84, 85, 86] (by decide +kernel) (by decide +kernel)
set_option maxRecDepth 20000 in
theorem gX5_set_X1_setting : GoodIn wsX5_set (wsV RX5 93 RX1 yX1_setting wsX1_setting) := goodIn_app (goodIn_of _ (by decide +kernel)) ggX5_set_X1_setting
set_option maxRecDepth 20000 in
theorem ggX5_set_X1_changeSetting : GoodIn wsX5_set wsX1_changeSetting := goodIn_r _ [67, 39, 77, 78, 79, 80, 81, 82, 83, 84, 85, 86] (by decide +kernel) (by decide +kernel)
set_option maxRecDepth 20000 in
theorem gX5_set_X1_changeSetting : GoodIn wsX5_set (wsV RX5 97 RX1 yX1_changeSetting wsX1_changeSetting) := goodIn_app (goodIn_of _ (by decide +kernel)) ggX5_set_X1_changeSetting
theorem dX5_set_0 : decode cX5_set 0 = .ok (.iload_n 1, 1) := by decide +kernel
theorem dX5_set_1 : decode cX5_set 1 = .ok (.iload_n 2, 1) := by decide +kernel
theorem dX5_set_2 : decode cX5_set 2 = .ok (.invokestatic 88, 3) := by decide +kernel
theorem dX5_set_5 : decode cX5_set 5 = .ok (.ifCond .ne 13, 3) := by decide +kernel
theorem dX5_set_8 : decode cX5_set 8 = .ok (.new 45, 3) := by decide +kernel
theorem dX5_set_11 : decode cX5_set 11 = .ok (.dup, 1) := by decide +kernel
theorem dX5_set_12 : decode cX5_set 12 = .ok (.ldc 91, 2) := by decide +kernel
theorem dX5_set_14 : decode cX5_set 14 = .ok (.invokespecial 49, 3) := by decide +kernel
theorem dX5_set_17 : decode cX5_set 17 = .ok (.athrow, 1) := by decide +kernel
theorem dX5_set_18 : decode cX5_set 18 = .ok (.aload_n 0, 1) := by decide +kernel
theorem dX5_set_19 : decode cX5_set 19 = .ok (.invokevirtual 52, 3) := by decide +kernel
theorem dX5_set_22 : decode cX5_set 22 = .ok (.aload_n 0, 1) := by decide +kernel
theorem dX5_set_23 : decode cX5_set 23 = .ok (.getfield 12, 3) := by decide +kernel
theorem dX5_set_26 : decode cX5_set 26 = .ok (.getfield 55, 3) := by decide +kernel
theorem dX5_set_29 : decode cX5_set 29 = .ok (.iload_n 1, 1) := by decide +kernel
theorem dX5_set_30 : decode cX5_set 30 = .ok (.invokevirtual 93, 3) := by decide +kernel
theorem dX5_set_33 : decode cX5_set 33 = .ok (.istore_n 3, 1) := by decide +kernel
theorem dX5_set_34 : decode cX5_set 34 = .ok (.aload_n 0, 1) := by decide +kernel
theorem dX5_set_35 : decode cX5_set 35 = .ok (.getfield 12, 3) := by decide +kernel
theorem dX5_set_38 : decode cX5_set 38 = .ok (.getfield 55, 3) := by decide +kernel
theorem dX5_set_41 : decode cX5_set 41 = .ok (.iload_n 1, 1) := by decide +kernel
theorem dX5_set_42 : decode cX5_set 42 = .ok (.iload_n 2, 1) := by decide +kernel
theorem dX5_set_43 : decode cX5_set 43 = .ok (.invokevirtual 97, 3) := by decide +kernel
theorem dX5_set_46 : decode cX5_set 46 = .ok (.iload_n 3, 1) := by decide +kernel
theorem dX5_set_47 : decode cX5_set 47 = .ok (.ireturn, 1) := by decide +kernel
set_option maxRecDepth 20000 in
theorem ggX5_addPunch_X1_holds : GoodIn wsX5_addPunch wsX1_holds := goodIn_r _ [11, 12, 13, 92, 93, 94, 95, 96, 97, 98, 99, 100, 101] (by decide +kernel) (by decide +kernel)
set_option maxRecDepth 20000 in
theorem gX5_addPunch_X1_holds : GoodIn wsX5_addPunch (wsV RX5 69 RX1 yX1_holds wsX1_holds) := goodIn_app (goodIn_of _ (by decide +kernel)) ggX5_addPunch_X1_holds
set_option maxRecDepth 20000 in
theorem ggX5_addPunch_X1_isFull : GoodIn wsX5_addPunch wsX1_isFull := goodIn_r _ [17, 18, 92, 93, 94, 95, 96, 97, 98, 99, 100, 101] (by decide +kernel) (by decide +kernel)
set_option maxRecDepth 20000 in
theorem gX5_addPunch_X1_isFull : GoodIn wsX5_addPunch (wsV RX5 102 RX1 yX1_isFull wsX1_isFull) := goodIn_app (goodIn_of _ (by decide +kernel)) ggX5_addPunch_X1_isFull
set_option maxRecDepth 20000 in
theorem ggX5_addPunch_X5_save : GoodIn wsX5_addPunch wsX5_save := goodIn_r _ [23, 24, 25, 5, 26, 27, 28, 22, 29, 30, 31, 32, 33, 34, 35, 36, 37, 38, 39, 40, 10, 41, 12, 13, 42, 43, 44, 18, 45, 46, 47, 48, 49, 50, 51, 52, 53, 54, 55, 56, 57, 58, 59, 60, 61, 62, 63, 64, 65, 66, 83, 84, 85, 86, 87, 88, 89, 90, 91, 92, 93, 94, 95, 96, 97, 98, 99, 100, 101, 102, 103, 104, 105, 106, 107, 108, 109, 110] (by decide +kernel) (by decide +kernel)
set_option maxRecDepth 20000 in
theorem gX5_addPunch_X5_save : GoodIn wsX5_addPunch (wsV RX5 52 RX5 yX5_save wsX5_save) := goodIn_app (goodIn_of _ (by decide +kernel)) ggX5_addPunch_X5_save
set_option maxRecDepth 20000 in
theorem ggX5_addPunch_X1_append : GoodIn wsX5_addPunch wsX1_append := goodIn_r _ [70, 18, 71, 72, 73, 10, 74, 47, 75, 76, 77, 78, 13, 12, 79, 80, 81, 82, 48, 92, 93, 94, 95, 96, 97, 98, 99, 100, 101] (by decide +kernel) (by decide +kernel)
set_option maxRecDepth 20000 in
theorem gX5_addPunch_X1_append : GoodIn wsX5_addPunch (wsV RX5 111 RX1 yX1_append wsX1_append) := goodIn_app (goodIn_of _ (by decide +kernel)) ggX5_addPunch_X1_append
theorem dX5_addPunch_0 : decode cX5_addPunch 0 = .ok (.aload_n 0, 1) := by decide +kernel
theorem dX5_addPunch_1 : decode cX5_addPunch 1 = .ok (.getfield 12, 3) := by decide +kernel
theorem dX5_addPunch_4 : decode cX5_addPunch 4 = .ok (.getfield 55, 3) := by decide +kernel
theorem dX5_addPunch_7 : decode cX5_addPunch 7 = .ok (.iload_n 1, 1) := by decide +kernel
theorem dX5_addPunch_8 : decode cX5_addPunch 8 = .ok (.iload_n 2, 1) := by decide +kernel
theorem dX5_addPunch_9 : decode cX5_addPunch 9 = .ok (.iload_n 3, 1) := by decide +kernel
theorem dX5_addPunch_10 : decode cX5_addPunch 10 = .ok (.iload 4, 2) := by decide +kernel
theorem dX5_addPunch_12 : decode cX5_addPunch 12 = .ok (.invokevirtual 69, 3) := by decide +kernel
theorem dX5_addPunch_15 : decode cX5_addPunch 15 = .ok (.ifCond .ne 13, 3) := by decide +kernel
theorem dX5_addPunch_18 : decode cX5_addPunch 18 = .ok (.new 45, 3) := by decide +kernel
theorem dX5_addPunch_21 : decode cX5_addPunch 21 = .ok (.dup, 1) := by decide +kernel
theorem dX5_addPunch_22 : decode cX5_addPunch 22 = .ok (.ldc 100, 2) := by decide +kernel
theorem dX5_addPunch_24 : decode cX5_addPunch 24 = .ok (.invokespecial 49, 3) := by decide +kernel
theorem dX5_addPunch_27 : decode cX5_addPunch 27 = .ok (.athrow, 1) := by decide +kernel
theorem dX5_addPunch_28 : decode cX5_addPunch 28 = .ok (.aload_n 0, 1) := by decide +kernel
theorem dX5_addPunch_29 : decode cX5_addPunch 29 = .ok (.getfield 12, 3) := by decide +kernel
theorem dX5_addPunch_32 : decode cX5_addPunch 32 = .ok (.getfield 55, 3) := by decide +kernel
theorem dX5_addPunch_35 : decode cX5_addPunch 35 = .ok (.invokevirtual 102, 3) := by decide +kernel
theorem dX5_addPunch_38 : decode cX5_addPunch 38 = .ok (.ifCond .eq 13, 3) := by decide +kernel
theorem dX5_addPunch_41 : decode cX5_addPunch 41 = .ok (.new 106, 3) := by decide +kernel
theorem dX5_addPunch_44 : decode cX5_addPunch 44 = .ok (.dup, 1) := by decide +kernel
theorem dX5_addPunch_45 : decode cX5_addPunch 45 = .ok (.ldc 108, 2) := by decide +kernel
theorem dX5_addPunch_47 : decode cX5_addPunch 47 = .ok (.invokespecial 110, 3) := by decide +kernel
theorem dX5_addPunch_50 : decode cX5_addPunch 50 = .ok (.athrow, 1) := by decide +kernel
theorem dX5_addPunch_51 : decode cX5_addPunch 51 = .ok (.aload_n 0, 1) := by decide +kernel
theorem dX5_addPunch_52 : decode cX5_addPunch 52 = .ok (.invokevirtual 52, 3) := by decide +kernel
theorem dX5_addPunch_55 : decode cX5_addPunch 55 = .ok (.aload_n 0, 1) := by decide +kernel
theorem dX5_addPunch_56 : decode cX5_addPunch 56 = .ok (.getfield 12, 3) := by decide +kernel
theorem dX5_addPunch_59 : decode cX5_addPunch 59 = .ok (.getfield 55, 3) := by decide +kernel
theorem dX5_addPunch_62 : decode cX5_addPunch 62 = .ok (.iconst 0, 1) := by decide +kernel
theorem dX5_addPunch_63 : decode cX5_addPunch 63 = .ok (.iload_n 1, 1) := by decide +kernel
theorem dX5_addPunch_64 : decode cX5_addPunch 64 = .ok (.iload_n 2, 1) := by decide +kernel
theorem dX5_addPunch_65 : decode cX5_addPunch 65 = .ok (.iload_n 3, 1) := by decide +kernel
theorem dX5_addPunch_66 : decode cX5_addPunch 66 = .ok (.iload 4, 2) := by decide +kernel
theorem dX5_addPunch_68 : decode cX5_addPunch 68 = .ok (.invokevirtual 111, 3) := by decide +kernel
theorem dX5_addPunch_71 : decode cX5_addPunch 71 = .ok (.ireturn, 1) := by decide +kernel
set_option maxRecDepth 20000 in
theorem ggX5_addBend_X1_holds : GoodIn wsX5_addBend wsX1_holds := goodIn_r _ [11, 12, 13, 92, 93, 94, 95, 96, 97, 98, 99, 100, 101] (by decide +kernel) (by decide +kernel)
set_option maxRecDepth 20000 in
theorem gX5_addBend_X1_holds : GoodIn wsX5_addBend (wsV RX5 69 RX1 yX1_holds wsX1_holds) := goodIn_app (goodIn_of _ (by decide +kernel)) ggX5_addBend_X1_holds
set_option maxRecDepth 20000 in
theorem ggX5_addBend_X1_isFull : GoodIn wsX5_addBend wsX1_isFull := goodIn_r _ [17, 18, 92, 93, 94, 95, 96, 97, 98, 99, 100, 101] (by decide +kernel) (by decide +kernel)
set_option maxRecDepth 20000 in
theorem gX5_addBend_X1_isFull : GoodIn wsX5_addBend (wsV RX5 102 RX1 yX1_isFull wsX1_isFull) := goodIn_app (goodIn_of _ (by decide +kernel)) ggX5_addBend_X1_isFull
set_option maxRecDepth 20000 in
theorem ggX5_addBend_X5_save : GoodIn wsX5_addBend wsX5_save := goodIn_r _ [23, 24, 25, 5, 26, 27, 28, 22, 29, 30, 31, 32, 33, 34, 35, 36, 37, 38, 39, 40, 10, 41, 12, 13, 42, 43, 44, 18, 45, 46, 47, 48, 49, 50, 51, 52, 53, 54, 55, 56, 57, 58, 59, 60, 61, 62, 63, 64, 65, 66, 83, 84, 85, 86, 87, 88, 89, 90, 91, 92, 93, 94, 95, 96, 97, 98, 99, 100, 101, 102, 103, 104, 105, 106, 107, 108, 109, 110] (by decide +kernel) (by decide +kernel)
set_option maxRecDepth 20000 in
theorem gX5_addBend_X5_save : GoodIn wsX5_addBend (wsV RX5 52 RX5 yX5_save wsX5_save) := goodIn_app (goodIn_of _ (by decide +kernel)) ggX5_addBend_X5_save
set_option maxRecDepth 20000 in
theorem ggX5_addBend_X1_append : GoodIn wsX5_addBend wsX1_append := goodIn_r _ [70, 18, 71, 72, 73, 10, 74, 47, 75, 76, 77, 78, 13, 12, 79, 80, 81, 82, 48, 92, 93, 94, 95, 96, 97, 98, 99, 100, 101] (by decide +kernel) (by decide +kernel)
set_option maxRecDepth 20000 in
theorem gX5_addBend_X1_append : GoodIn wsX5_addBend (wsV RX5 111 RX1 yX1_append wsX1_append) := goodIn_app (goodIn_of _ (by decide +kernel)) ggX5_addBend_X1_append
theorem dX5_addBend_0 : decode cX5_addBend 0 = .ok (.aload_n 0, 1) := by decide +kernel
theorem dX5_addBend_1 : decode cX5_addBend 1 = .ok (.getfield 12, 3) := by decide +kernel
theorem dX5_addBend_4 : decode cX5_addBend 4 = .ok (.getfield 55, 3) := by decide +kernel
theorem dX5_addBend_7 : decode cX5_addBend 7 = .ok (.iload_n 1, 1) := by decide +kernel
theorem dX5_addBend_8 : decode cX5_addBend 8 = .ok (.iload_n 2, 1) := by decide +kernel
theorem dX5_addBend_9 : decode cX5_addBend 9 = .ok (.iload_n 3, 1) := by decide +kernel
theorem dX5_addBend_10 : decode cX5_addBend 10 = .ok (.iconst 1, 1) := by decide +kernel
theorem dX5_addBend_11 : decode cX5_addBend 11 = .ok (.invokevirtual 69, 3) := by decide +kernel
theorem dX5_addBend_14 : decode cX5_addBend 14 = .ok (.ifCond .ne 13, 3) := by decide +kernel
theorem dX5_addBend_17 : decode cX5_addBend 17 = .ok (.new 45, 3) := by decide +kernel
theorem dX5_addBend_20 : decode cX5_addBend 20 = .ok (.dup, 1) := by decide +kernel
theorem dX5_addBend_21 : decode cX5_addBend 21 = .ok (.ldc 115, 2) := by decide +kernel
theorem dX5_addBend_23 : decode cX5_addBend 23 = .ok (.invokespecial 49, 3) := by decide +kernel
theorem dX5_addBend_26 : decode cX5_addBend 26 = .ok (.athrow, 1) := by decide +kernel
theorem dX5_addBend_27 : decode cX5_addBend 27 = .ok (.aload_n 0, 1) := by decide +kernel
theorem dX5_addBend_28 : decode cX5_addBend 28 = .ok (.getfield 12, 3) := by decide +kernel
theorem dX5_addBend_31 : decode cX5_addBend 31 = .ok (.getfield 55, 3) := by decide +kernel
theorem dX5_addBend_34 : decode cX5_addBend 34 = .ok (.invokevirtual 102, 3) := by decide +kernel
theorem dX5_addBend_37 : decode cX5_addBend 37 = .ok (.ifCond .eq 13, 3) := by decide +kernel
theorem dX5_addBend_40 : decode cX5_addBend 40 = .ok (.new 106, 3) := by decide +kernel
theorem dX5_addBend_43 : decode cX5_addBend 43 = .ok (.dup, 1) := by decide +kernel
theorem dX5_addBend_44 : decode cX5_addBend 44 = .ok (.ldc 108, 2) := by decide +kernel
theorem dX5_addBend_46 : decode cX5_addBend 46 = .ok (.invokespecial 110, 3) := by decide +kernel
theorem dX5_addBend_49 : decode cX5_addBend 49 = .ok (.athrow, 1) := by decide +kernel
theorem dX5_addBend_50 : decode cX5_addBend 50 = .ok (.aload_n 0, 1) := by decide +kernel
theorem dX5_addBend_51 : decode cX5_addBend 51 = .ok (.invokevirtual 52, 3) := by decide +kernel
theorem dX5_addBend_54 : decode cX5_addBend 54 = .ok (.aload_n 0, 1) := by decide +kernel
theorem dX5_addBend_55 : decode cX5_addBend 55 = .ok (.getfield 12, 3) := by decide +kernel
theorem dX5_addBend_58 : decode cX5_addBend 58 = .ok (.getfield 55, 3) := by decide +kernel
theorem dX5_addBend_61 : decode cX5_addBend 61 = .ok (.iconst 1, 1) := by decide +kernel
theorem dX5_addBend_62 : decode cX5_addBend 62 = .ok (.iload_n 1, 1) := by decide +kernel
theorem dX5_addBend_63 : decode cX5_addBend 63 = .ok (.iload_n 2, 1) := by decide +kernel
theorem dX5_addBend_64 : decode cX5_addBend 64 = .ok (.iload_n 3, 1) := by decide +kernel
theorem dX5_addBend_65 : decode cX5_addBend 65 = .ok (.iconst 1, 1) := by decide +kernel
theorem dX5_addBend_66 : decode cX5_addBend 66 = .ok (.invokevirtual 111, 3) := by decide +kernel
theorem dX5_addBend_69 : decode cX5_addBend 69 = .ok (.ireturn, 1) := by decide +kernel
set_option maxRecDepth 20000 in
theorem ggX5_dropOperation_X1_hasOperation : GoodIn wsX5_dropOperation wsX1_hasOperation := goodIn_r _ [11, 12, 96, 97, 98, 99, 100, 101, 102, 103, 104, 105] (by decide +kernel) (by decide +kernel)
set_option maxRecDepth 20000 in
theorem gX5_dropOperation_X1_hasOperation : GoodIn wsX5_dropOperation (wsV RX5 117 RX1 yX1_hasOperation wsX1_hasOperation) := goodIn_app (goodIn_of _ (by decide +kernel)) ggX5_dropOperation_X1_hasOperation
set_option maxRecDepth 20000 in
theorem ggX5_dropOperation_X5_save : GoodIn wsX5_dropOperation wsX5_save := goodIn_r _ [17, 18, 19, 3, 20, 21, 22, 16, 23, 24, 25, 26, 27, 28, 29, 30, 31, 32, 33, 34, 10, 35, 36, 37, 38, 39, 40, 12, 41, 42, 43, 44, 45, 46, 47, 48, 49, 50, 51, 52, 53, 54, 55, 56, 57, 58, 59, 60, 61, 62, 87, 88, 89, 90, 91, 92, 93, 94, 95, 96, 97, 98, 99, 100, 101, 102, 103, 104, 105, 106, 107, 108, 109, 110, 111, 112, 113, 114] (by decide +kernel) (by decide +kernel)
set_option maxRecDepth 20000 in
theorem gX5_dropOperation_X5_save : GoodIn wsX5_dropOperation (wsV RX5 52 RX5 yX5_save wsX5_save) := goodIn_app (goodIn_of _ (by decide +kernel)) ggX5_dropOperation_X5_save
set_option maxRecDepth 20000 in
theorem ggX5_dropOperation_X1_remove : GoodIn wsX5_dropOperation wsX1_remove := goodIn_r _ [66, 12, 67, 68, 69, 10, 70, 43, 71, 72, 73, 74, 75, 76, 77, 78, 44, 79, 80, 81, 82, 96, 97, 98, 99, 100, 101, 102, 103, 104, 105] (by decide +kernel) (by decide +kernel)
set_option maxRecDepth 20000 in
theorem gX5_dropOperation_X1_remove : GoodIn wsX5_dropOperation (wsV RX5 126 RX1 yX1_remove wsX1_remove) := goodIn_app (goodIn_of _ (by decide +kernel)) ggX5_dropOperation_X1_remove
set_option maxRecDepth 20000 in
theorem ggX5_dropOperation_X3_forgetBend : GoodIn wsX5_dropOperation wsX3_forgetBend := goodIn_r _ [86, 57, 106, 107, 108, 109, 110, 111, 112, 113, 114] (by decide +kernel) (by decide +kernel)
set_option maxRecDepth 20000 in
theorem gX5_dropOperation_X3_forgetBend : GoodIn wsX5_dropOperation (wsV RX5 133 RX3 yX3_forgetBend wsX3_forgetBend) := goodIn_app (goodIn_of _ (by decide +kernel)) ggX5_dropOperation_X3_forgetBend
theorem dX5_dropOperation_0 : decode cX5_dropOperation 0 = .ok (.aload_n 0, 1) := by decide +kernel
theorem dX5_dropOperation_1 : decode cX5_dropOperation 1 = .ok (.getfield 12, 3) := by decide +kernel
theorem dX5_dropOperation_4 : decode cX5_dropOperation 4 = .ok (.getfield 55, 3) := by decide +kernel
theorem dX5_dropOperation_7 : decode cX5_dropOperation 7 = .ok (.iload_n 1, 1) := by decide +kernel
theorem dX5_dropOperation_8 : decode cX5_dropOperation 8 = .ok (.invokevirtual 117, 3) := by decide +kernel
theorem dX5_dropOperation_11 : decode cX5_dropOperation 11 = .ok (.ifCond .ne 13, 3) := by decide +kernel
theorem dX5_dropOperation_14 : decode cX5_dropOperation 14 = .ok (.new 121, 3) := by decide +kernel
theorem dX5_dropOperation_17 : decode cX5_dropOperation 17 = .ok (.dup, 1) := by decide +kernel
theorem dX5_dropOperation_18 : decode cX5_dropOperation 18 = .ok (.ldc 123, 2) := by decide +kernel
theorem dX5_dropOperation_20 : decode cX5_dropOperation 20 = .ok (.invokespecial 125, 3) := by decide +kernel
theorem dX5_dropOperation_23 : decode cX5_dropOperation 23 = .ok (.athrow, 1) := by decide +kernel
theorem dX5_dropOperation_24 : decode cX5_dropOperation 24 = .ok (.aload_n 0, 1) := by decide +kernel
theorem dX5_dropOperation_25 : decode cX5_dropOperation 25 = .ok (.invokevirtual 52, 3) := by decide +kernel
theorem dX5_dropOperation_28 : decode cX5_dropOperation 28 = .ok (.aload_n 0, 1) := by decide +kernel
theorem dX5_dropOperation_29 : decode cX5_dropOperation 29 = .ok (.getfield 12, 3) := by decide +kernel
theorem dX5_dropOperation_32 : decode cX5_dropOperation 32 = .ok (.getfield 55, 3) := by decide +kernel
theorem dX5_dropOperation_35 : decode cX5_dropOperation 35 = .ok (.iload_n 1, 1) := by decide +kernel
theorem dX5_dropOperation_36 : decode cX5_dropOperation 36 = .ok (.invokevirtual 126, 3) := by decide +kernel
theorem dX5_dropOperation_39 : decode cX5_dropOperation 39 = .ok (.aload_n 0, 1) := by decide +kernel
theorem dX5_dropOperation_40 : decode cX5_dropOperation 40 = .ok (.getfield 12, 3) := by decide +kernel
theorem dX5_dropOperation_43 : decode cX5_dropOperation 43 = .ok (.getfield 130, 3) := by decide +kernel
theorem dX5_dropOperation_46 : decode cX5_dropOperation 46 = .ok (.iload_n 1, 1) := by decide +kernel
theorem dX5_dropOperation_47 : decode cX5_dropOperation 47 = .ok (.invokevirtual 133, 3) := by decide +kernel
theorem dX5_dropOperation_50 : decode cX5_dropOperation 50 = .ok (.aload_n 0, 1) := by decide +kernel
theorem dX5_dropOperation_51 : decode cX5_dropOperation 51 = .ok (.getfield 12, 3) := by decide +kernel
theorem dX5_dropOperation_54 : decode cX5_dropOperation 54 = .ok (.getfield 55, 3) := by decide +kernel
theorem dX5_dropOperation_57 : decode cX5_dropOperation 57 = .ok (.getfield 59, 3) := by decide +kernel
theorem dX5_dropOperation_60 : decode cX5_dropOperation 60 = .ok (.ireturn, 1) := by decide +kernel
set_option maxRecDepth 20000 in
theorem ggX5_setStation_X1_hasOperation : GoodIn wsX5_setStation wsX1_hasOperation := goodIn_r _ [11, 12, 83, 84, 85, 86, 87, 88, 89, 90, 91, 92] (by decide +kernel) (by decide +kernel)
set_option maxRecDepth 20000 in
theorem gX5_setStation_X1_hasOperation : GoodIn wsX5_setStation (wsV RX5 117 RX1 yX1_hasOperation wsX1_hasOperation) := goodIn_app (goodIn_of _ (by decide +kernel)) ggX5_setStation_X1_hasOperation
set_option maxRecDepth 20000 in
theorem ggX5_setStation_X5_isStation : GoodIn wsX5_setStation wsX5_isStation := goodIn_r _ [16] (by decide +kernel) (by decide +kernel)
set_option maxRecDepth 20000 in
theorem gX5_setStation_X5_isStation : GoodIn wsX5_setStation (va_wsS RX5 136 yX5_isStation wsX5_isStation) := goodIn_app (goodIn_of _ (by decide +kernel)) ggX5_setStation_X5_isStation
set_option maxRecDepth 20000 in
theorem ggX5_setStation_X5_save : GoodIn wsX5_setStation wsX5_save := goodIn_r _ [20, 21, 22, 5, 23, 24, 25, 15, 26, 27, 28, 29, 30, 31, 32, 33, 34, 35, 36, 37, 10, 38, 39, 40, 41, 42, 43, 12, 44, 45, 46, 47, 48, 49, 50, 51, 52, 53, 54, 55, 56, 57, 58, 59, 60, 61, 62, 63, 64, 65, 74, 75, 76, 77, 78, 79, 80, 81, 82, 83, 84, 85, 86, 87, 88, 89, 90, 91, 92, 93, 94, 95, 96, 97, 98, 99, 100, 101] (by decide +kernel) (by decide +kernel)
set_option maxRecDepth 20000 in
theorem gX5_setStation_X5_save : GoodIn wsX5_setStation (wsV RX5 52 RX5 yX5_save wsX5_save) := goodIn_app (goodIn_of _ (by decide +kernel)) ggX5_setStation_X5_save
set_option maxRecDepth 20000 in
theorem ggX5_setStation_X1_fact : GoodIn wsX5_setStation wsX1_fact := goodIn_r _ [69, 46, 83, 84, 85, 86, 87, 88, 89, 90, 91, 92] (by decide +kernel) (by decide +kernel)
set_option maxRecDepth 20000 in
theorem gX5_setStation_X1_fact : GoodIn wsX5_setStation (wsV RX5 141 RX1 yX1_fact wsX1_fact) := goodIn_app (goodIn_of _ (by decide +kernel)) ggX5_setStation_X1_fact
set_option maxRecDepth 20000 in
theorem ggX5_setStation_X1_changeFact : GoodIn wsX5_setStation wsX1_changeFact := goodIn_r _ [73, 46, 83, 84, 85, 86, 87, 88, 89, 90, 91, 92] (by decide +kernel) (by decide +kernel)
set_option maxRecDepth 20000 in
theorem gX5_setStation_X1_changeFact : GoodIn wsX5_setStation (wsV RX5 145 RX1 yX1_changeFact wsX1_changeFact) := goodIn_app (goodIn_of _ (by decide +kernel)) ggX5_setStation_X1_changeFact
theorem dX5_setStation_0 : decode cX5_setStation 0 = .ok (.aload_n 0, 1) := by decide +kernel
theorem dX5_setStation_1 : decode cX5_setStation 1 = .ok (.getfield 12, 3) := by decide +kernel
theorem dX5_setStation_4 : decode cX5_setStation 4 = .ok (.getfield 55, 3) := by decide +kernel
theorem dX5_setStation_7 : decode cX5_setStation 7 = .ok (.iload_n 1, 1) := by decide +kernel
theorem dX5_setStation_8 : decode cX5_setStation 8 = .ok (.invokevirtual 117, 3) := by decide +kernel
theorem dX5_setStation_11 : decode cX5_setStation 11 = .ok (.ifCond .ne 13, 3) := by decide +kernel
theorem dX5_setStation_14 : decode cX5_setStation 14 = .ok (.new 121, 3) := by decide +kernel
theorem dX5_setStation_17 : decode cX5_setStation 17 = .ok (.dup, 1) := by decide +kernel
theorem dX5_setStation_18 : decode cX5_setStation 18 = .ok (.ldc 123, 2) := by decide +kernel
theorem dX5_setStation_20 : decode cX5_setStation 20 = .ok (.invokespecial 125, 3) := by decide +kernel
theorem dX5_setStation_23 : decode cX5_setStation 23 = .ok (.athrow, 1) := by decide +kernel
theorem dX5_setStation_24 : decode cX5_setStation 24 = .ok (.iload_n 2, 1) := by decide +kernel
theorem dX5_setStation_25 : decode cX5_setStation 25 = .ok (.iconst (-1), 1) := by decide +kernel
theorem dX5_setStation_26 : decode cX5_setStation 26 = .ok (.if_icmp .eq 20, 3) := by decide +kernel
theorem dX5_setStation_29 : decode cX5_setStation 29 = .ok (.iload_n 2, 1) := by decide +kernel
theorem dX5_setStation_30 : decode cX5_setStation 30 = .ok (.invokestatic 136, 3) := by decide +kernel
theorem dX5_setStation_33 : decode cX5_setStation 33 = .ok (.ifCond .ne 13, 3) := by decide +kernel
theorem dX5_setStation_36 : decode cX5_setStation 36 = .ok (.new 45, 3) := by decide +kernel
theorem dX5_setStation_39 : decode cX5_setStation 39 = .ok (.dup, 1) := by decide +kernel
theorem dX5_setStation_40 : decode cX5_setStation 40 = .ok (.ldc 139, 2) := by decide +kernel
theorem dX5_setStation_42 : decode cX5_setStation 42 = .ok (.invokespecial 49, 3) := by decide +kernel
theorem dX5_setStation_45 : decode cX5_setStation 45 = .ok (.athrow, 1) := by decide +kernel
theorem dX5_setStation_46 : decode cX5_setStation 46 = .ok (.aload_n 0, 1) := by decide +kernel
theorem dX5_setStation_47 : decode cX5_setStation 47 = .ok (.invokevirtual 52, 3) := by decide +kernel
theorem dX5_setStation_50 : decode cX5_setStation 50 = .ok (.aload_n 0, 1) := by decide +kernel
theorem dX5_setStation_51 : decode cX5_setStation 51 = .ok (.getfield 12, 3) := by decide +kernel
theorem dX5_setStation_54 : decode cX5_setStation 54 = .ok (.getfield 55, 3) := by decide +kernel
theorem dX5_setStation_57 : decode cX5_setStation 57 = .ok (.iload_n 1, 1) := by decide +kernel
theorem dX5_setStation_58 : decode cX5_setStation 58 = .ok (.bipush 6, 2) := by decide +kernel
theorem dX5_setStation_60 : decode cX5_setStation 60 = .ok (.invokevirtual 141, 3) := by decide +kernel
theorem dX5_setStation_63 : decode cX5_setStation 63 = .ok (.istore_n 3, 1) := by decide +kernel
theorem dX5_setStation_64 : decode cX5_setStation 64 = .ok (.aload_n 0, 1) := by decide +kernel
theorem dX5_setStation_65 : decode cX5_setStation 65 = .ok (.getfield 12, 3) := by decide +kernel
theorem dX5_setStation_68 : decode cX5_setStation 68 = .ok (.getfield 55, 3) := by decide +kernel
theorem dX5_setStation_71 : decode cX5_setStation 71 = .ok (.iload_n 1, 1) := by decide +kernel
theorem dX5_setStation_72 : decode cX5_setStation 72 = .ok (.bipush 6, 2) := by decide +kernel
theorem dX5_setStation_74 : decode cX5_setStation 74 = .ok (.iload_n 2, 1) := by decide +kernel
theorem dX5_setStation_75 : decode cX5_setStation 75 = .ok (.invokevirtual 145, 3) := by decide +kernel
theorem dX5_setStation_78 : decode cX5_setStation 78 = .ok (.iload_n 3, 1) := by decide +kernel
theorem dX5_setStation_79 : decode cX5_setStation 79 = .ok (.ireturn, 1) := by decide +kernel
set_option maxRecDepth 20000 in
theorem ggX5_usePlan_X2_findBest : GoodIn wsX5_usePlan wsX2_findBest := goodIn_r _ [10, 11, 12, 13, 14, 15, 9, 16, 17, 18, 19, 20, 21, 22, 23, 24, 25, 26, 27, 28, 29, 30, 31, 32, 33, 34, 35, 36, 37, 38, 39, 40, 41, 42, 43, 44, 45, 46, 47, 48, 49, 50, 51, 52, 53, 54, 55, 56, 57, 58, 59, 60, 61, 62, 63, 64, 65, 66, 67, 68, 69, 70, 71, 72, 73, 74, 75, 76, 77, 78, 79, 80, 81, 82, 83, 84, 85, 86, 87, 88, 89, 90, 91, 92, 93, 94, 156, 157, 158, 159, 160, 161, 162, 163, 164, 165, 166, 167, 168, 169, 170, 171, 172, 173] (by decide +kernel) (by decide +kernel)
set_option maxRecDepth 20000 in
theorem gX5_usePlan_X2_findBest : GoodIn wsX5_usePlan (wsV RX5 149 RX2 yX2_findBest wsX2_findBest) := goodIn_app (goodIn_of _ (by decide +kernel)) ggX5_usePlan_X2_findBest
set_option maxRecDepth 20000 in
theorem ggX5_usePlan_X5_save : GoodIn wsX5_usePlan wsX5_save := goodIn_r _ [98, 99, 100, 4, 101, 102, 103, 77, 104, 105, 106, 107, 108, 109, 110, 111, 112, 113, 114, 115, 33, 116, 51, 50, 117, 118, 119, 40, 120, 35, 65, 45, 121, 122, 123, 124, 125, 126, 127, 128, 129, 130, 131, 132, 133, 134, 135, 136, 137, 138, 147, 148, 149, 150, 151, 152, 153, 154, 155, 164, 165, 166, 167, 168, 169, 170, 171, 172, 173, 174, 175, 176, 177, 178, 179, 180, 181, 182] (by decide +kernel) (by decide +kernel)
set_option maxRecDepth 20000 in
theorem gX5_usePlan_X5_save : GoodIn wsX5_usePlan (wsV RX5 52 RX5 yX5_save wsX5_save) := goodIn_app (goodIn_of _ (by decide +kernel)) ggX5_usePlan_X5_save
set_option maxRecDepth 20000 in
theorem ggX5_usePlan_X2_putInto : GoodIn wsX5_usePlan wsX2_putInto := goodIn_r _ [142, 17, 83, 84, 85, 9, 86, 70, 143, 144, 145, 33, 146, 65, 164, 165, 166, 167, 168, 169, 170, 171, 172, 173, 156, 157, 158, 159, 160, 161, 162, 163] (by decide +kernel) (by decide +kernel)
set_option maxRecDepth 20000 in
theorem gX5_usePlan_X2_putInto : GoodIn wsX5_usePlan (wsV RX5 155 RX2 yX2_putInto wsX2_putInto) := goodIn_app (goodIn_of _ (by decide +kernel)) ggX5_usePlan_X2_putInto
theorem dX5_usePlan_0 : decode cX5_usePlan 0 = .ok (.aload_n 0, 1) := by decide +kernel
theorem dX5_usePlan_1 : decode cX5_usePlan 1 = .ok (.getfield 30, 3) := by decide +kernel
theorem dX5_usePlan_4 : decode cX5_usePlan 4 = .ok (.aload_n 0, 1) := by decide +kernel
theorem dX5_usePlan_5 : decode cX5_usePlan 5 = .ok (.getfield 12, 3) := by decide +kernel
theorem dX5_usePlan_8 : decode cX5_usePlan 8 = .ok (.getfield 55, 3) := by decide +kernel
theorem dX5_usePlan_11 : decode cX5_usePlan 11 = .ok (.invokevirtual 149, 3) := by decide +kernel
theorem dX5_usePlan_14 : decode cX5_usePlan 14 = .ok (.istore_n 1, 1) := by decide +kernel
theorem dX5_usePlan_15 : decode cX5_usePlan 15 = .ok (.iload_n 1, 1) := by decide +kernel
theorem dX5_usePlan_16 : decode cX5_usePlan 16 = .ok (.iconst (-1), 1) := by decide +kernel
theorem dX5_usePlan_17 : decode cX5_usePlan 17 = .ok (.if_icmp .ne 13, 3) := by decide +kernel
theorem dX5_usePlan_20 : decode cX5_usePlan 20 = .ok (.new 106, 3) := by decide +kernel
theorem dX5_usePlan_23 : decode cX5_usePlan 23 = .ok (.dup, 1) := by decide +kernel
theorem dX5_usePlan_24 : decode cX5_usePlan 24 = .ok (.ldc 153, 2) := by decide +kernel
theorem dX5_usePlan_26 : decode cX5_usePlan 26 = .ok (.invokespecial 110, 3) := by decide +kernel
theorem dX5_usePlan_29 : decode cX5_usePlan 29 = .ok (.athrow, 1) := by decide +kernel
theorem dX5_usePlan_30 : decode cX5_usePlan 30 = .ok (.aload_n 0, 1) := by decide +kernel
theorem dX5_usePlan_31 : decode cX5_usePlan 31 = .ok (.invokevirtual 52, 3) := by decide +kernel
theorem dX5_usePlan_34 : decode cX5_usePlan 34 = .ok (.aload_n 0, 1) := by decide +kernel
theorem dX5_usePlan_35 : decode cX5_usePlan 35 = .ok (.getfield 30, 3) := by decide +kernel
theorem dX5_usePlan_38 : decode cX5_usePlan 38 = .ok (.aload_n 0, 1) := by decide +kernel
theorem dX5_usePlan_39 : decode cX5_usePlan 39 = .ok (.getfield 12, 3) := by decide +kernel
theorem dX5_usePlan_42 : decode cX5_usePlan 42 = .ok (.getfield 55, 3) := by decide +kernel
theorem dX5_usePlan_45 : decode cX5_usePlan 45 = .ok (.invokevirtual 155, 3) := by decide +kernel
theorem dX5_usePlan_48 : decode cX5_usePlan 48 = .ok (.iload_n 1, 1) := by decide +kernel
theorem dX5_usePlan_49 : decode cX5_usePlan 49 = .ok (.ireturn, 1) := by decide +kernel
set_option maxRecDepth 20000 in
theorem ggX5_setPilot_X5_isStation : GoodIn wsX5_setPilot wsX5_isStation := goodIn_r _ [9] (by decide +kernel) (by decide +kernel)
set_option maxRecDepth 20000 in
theorem gX5_setPilot_X5_isStation : GoodIn wsX5_setPilot (va_wsS RX5 136 yX5_isStation wsX5_isStation) := goodIn_app (goodIn_of _ (by decide +kernel)) ggX5_setPilot_X5_isStation
set_option maxRecDepth 20000 in
theorem ggX5_setPilot_X5_save : GoodIn wsX5_setPilot wsX5_save := goodIn_r _ [13, 14, 15, 3, 16, 17, 18, 8, 19, 20, 21, 22, 23, 24, 25, 26, 27, 28, 29, 30, 31, 32, 33, 34, 35, 36, 37, 38, 39, 40, 41, 42, 43, 44, 45, 46, 47, 48, 49, 50, 51, 52, 53, 54, 55, 56, 57, 58, 59, 60, 72, 73, 74, 75, 76, 77, 78, 79, 80, 81, 82, 83, 84, 85, 86, 87, 88, 89, 90, 91, 92, 93, 94, 95, 96, 97, 98, 99] (by decide +kernel) (by decide +kernel)
set_option maxRecDepth 20000 in
theorem gX5_setPilot_X5_save : GoodIn wsX5_setPilot (wsV RX5 52 RX5 yX5_save wsX5_save) := goodIn_app (goodIn_of _ (by decide +kernel)) ggX5_setPilot_X5_save
set_option maxRecDepth 20000 in
theorem ggX5_setPilot_X1_changePilot : GoodIn wsX5_setPilot wsX1_changePilot := goodIn_r _ [64, 39, 81, 82, 83, 84, 85, 86, 87, 88, 89, 90] (by decide +kernel) (by decide +kernel)
set_option maxRecDepth 20000 in
theorem gX5_setPilot_X1_changePilot : GoodIn wsX5_setPilot (wsV RX5 161 RX1 yX1_changePilot wsX1_changePilot) := goodIn_app (goodIn_of _ (by decide +kernel)) ggX5_setPilot_X1_changePilot
set_option maxRecDepth 20000 in
theorem ggX5_setPilot_J6_bitCount_0f7a4 : GoodIn wsX5_setPilot wsJ6_bitCount_0f7a4 := goodIn_r _ [68, 69, 70, 71] (by decide +kernel) (by decide +kernel)
set_option maxRecDepth 20000 in
theorem gX5_setPilot_J6_bitCount_0f7a4 : GoodIn wsX5_setPilot (va_wsS RX5 168 yJ6_bitCount_0f7a4 wsJ6_bitCount_0f7a4) := goodIn_app (goodIn_of _ (by decide +kernel)) ggX5_setPilot_J6_bitCount_0f7a4
theorem dX5_setPilot_0 : decode cX5_setPilot 0 = .ok (.iload_n 1, 1) := by decide +kernel
theorem dX5_setPilot_1 : decode cX5_setPilot 1 = .ok (.invokestatic 136, 3) := by decide +kernel
theorem dX5_setPilot_4 : decode cX5_setPilot 4 = .ok (.ifCond .ne 13, 3) := by decide +kernel
theorem dX5_setPilot_7 : decode cX5_setPilot 7 = .ok (.new 45, 3) := by decide +kernel
theorem dX5_setPilot_10 : decode cX5_setPilot 10 = .ok (.dup, 1) := by decide +kernel
theorem dX5_setPilot_11 : decode cX5_setPilot 11 = .ok (.ldc 159, 2) := by decide +kernel
theorem dX5_setPilot_13 : decode cX5_setPilot 13 = .ok (.invokespecial 49, 3) := by decide +kernel
theorem dX5_setPilot_16 : decode cX5_setPilot 16 = .ok (.athrow, 1) := by decide +kernel
theorem dX5_setPilot_17 : decode cX5_setPilot 17 = .ok (.aload_n 0, 1) := by decide +kernel
theorem dX5_setPilot_18 : decode cX5_setPilot 18 = .ok (.invokevirtual 52, 3) := by decide +kernel
theorem dX5_setPilot_21 : decode cX5_setPilot 21 = .ok (.aload_n 0, 1) := by decide +kernel
theorem dX5_setPilot_22 : decode cX5_setPilot 22 = .ok (.getfield 12, 3) := by decide +kernel
theorem dX5_setPilot_25 : decode cX5_setPilot 25 = .ok (.getfield 55, 3) := by decide +kernel
theorem dX5_setPilot_28 : decode cX5_setPilot 28 = .ok (.iload_n 1, 1) := by decide +kernel
theorem dX5_setPilot_29 : decode cX5_setPilot 29 = .ok (.iload_n 2, 1) := by decide +kernel
theorem dX5_setPilot_30 : decode cX5_setPilot 30 = .ok (.invokevirtual 161, 3) := by decide +kernel
theorem dX5_setPilot_33 : decode cX5_setPilot 33 = .ok (.aload_n 0, 1) := by decide +kernel
theorem dX5_setPilot_34 : decode cX5_setPilot 34 = .ok (.getfield 12, 3) := by decide +kernel
theorem dX5_setPilot_37 : decode cX5_setPilot 37 = .ok (.getfield 55, 3) := by decide +kernel
theorem dX5_setPilot_40 : decode cX5_setPilot 40 = .ok (.getfield 165, 3) := by decide +kernel
theorem dX5_setPilot_43 : decode cX5_setPilot 43 = .ok (.invokestatic 168, 3) := by decide +kernel
theorem dX5_setPilot_46 : decode cX5_setPilot 46 = .ok (.ireturn, 1) := by decide +kernel
set_option maxRecDepth 20000 in
theorem ggX5_stroke_X5_save : GoodIn wsX5_stroke wsX5_save := goodIn_r _ [8, 9, 10, 1, 11, 12, 13, 7, 14, 15, 16, 17, 18, 19, 20, 21, 22, 23, 24, 25, 26, 27, 28, 29, 30, 31, 32, 33, 34, 35, 36, 37, 38, 39, 40, 41, 42, 43, 44, 45, 46, 47, 48, 49, 50, 51, 52, 53, 54, 55, 158, 159, 160, 161, 162, 163, 164, 165, 166, 167, 168, 169, 170, 171, 172, 173, 174, 175, 176, 177, 178, 179, 180, 181, 182, 183, 184, 185] (by decide +kernel) (by decide +kernel)
set_option maxRecDepth 20000 in
theorem gX5_stroke_X5_save : GoodIn wsX5_stroke (wsV RX5 52 RX5 yX5_save wsX5_save) := goodIn_app (goodIn_of _ (by decide +kernel)) ggX5_stroke_X5_save
set_option maxRecDepth 20000 in
theorem ggX5_stroke_X3_feed : GoodIn wsX5_stroke wsX3_feed := goodIn_r _ [59, 53, 54, 52, 60, 61, 62, 45, 63, 47, 48, 64, 65, 66, 67, 49, 68, 69, 70, 71, 50, 72, 73, 74, 75, 51, 76, 77, 78, 26, 79, 35, 80, 81, 82, 83, 84, 85, 86, 87, 28, 29, 88, 89, 90, 91, 92, 93, 94, 95, 31, 96, 97, 98, 99, 100, 30, 101, 102, 103, 104, 32, 105, 106, 107, 108, 109, 33, 110, 111, 112, 113, 114, 115, 116, 117, 36, 118, 119, 120, 121, 122, 7, 123, 124, 125, 126, 127, 128, 129, 130, 131, 132, 133, 134, 135, 136, 137, 34, 138, 139, 140, 141, 142, 143, 144, 145, 55, 146, 147, 148, 149, 150, 37, 151, 152, 153, 154, 155, 156, 157, 177, 178, 179, 180, 181, 182, 183, 184, 185, 167, 168, 169, 170, 171, 172, 173, 174, 175, 176] (by decide +kernel) (by decide +kernel)
set_option maxRecDepth 20000 in
theorem gX5_stroke_X3_feed : GoodIn wsX5_stroke (wsV RX5 173 RX3 yX3_feed wsX3_feed) := goodIn_app (goodIn_of _ (by decide +kernel)) ggX5_stroke_X3_feed
theorem dX5_stroke_0 : decode cX5_stroke 0 = .ok (.aload_n 0, 1) := by decide +kernel
theorem dX5_stroke_1 : decode cX5_stroke 1 = .ok (.invokevirtual 52, 3) := by decide +kernel
theorem dX5_stroke_4 : decode cX5_stroke 4 = .ok (.aload_n 0, 1) := by decide +kernel
theorem dX5_stroke_5 : decode cX5_stroke 5 = .ok (.getfield 12, 3) := by decide +kernel
theorem dX5_stroke_8 : decode cX5_stroke 8 = .ok (.getfield 130, 3) := by decide +kernel
theorem dX5_stroke_11 : decode cX5_stroke 11 = .ok (.aload_n 0, 1) := by decide +kernel
theorem dX5_stroke_12 : decode cX5_stroke 12 = .ok (.getfield 12, 3) := by decide +kernel
theorem dX5_stroke_15 : decode cX5_stroke 15 = .ok (.getfield 55, 3) := by decide +kernel
theorem dX5_stroke_18 : decode cX5_stroke 18 = .ok (.invokevirtual 173, 3) := by decide +kernel
theorem dX5_stroke_21 : decode cX5_stroke 21 = .ok (.ireturn, 1) := by decide +kernel
set_option maxRecDepth 20000 in
theorem ggX5_emptyPress_X5_save : GoodIn wsX5_emptyPress wsX5_save := goodIn_r _ [8, 9, 10, 1, 11, 12, 13, 7, 14, 15, 16, 17, 18, 19, 20, 21, 22, 23, 24, 25, 26, 27, 28, 29, 30, 31, 32, 33, 34, 35, 36, 37, 38, 39, 40, 41, 42, 43, 44, 45, 46, 47, 48, 49, 50, 51, 52, 53, 54, 55, 67, 68, 69, 70, 71, 72, 73, 74, 75, 85, 86, 87, 88, 89, 90, 91, 92, 93, 94, 76, 77, 78, 79, 80, 81, 82, 83, 84] (by decide +kernel) (by decide +kernel)
set_option maxRecDepth 20000 in
theorem gX5_emptyPress_X5_save : GoodIn wsX5_emptyPress (wsV RX5 52 RX5 yX5_save wsX5_save) := goodIn_app (goodIn_of _ (by decide +kernel)) ggX5_emptyPress_X5_save
set_option maxRecDepth 20000 in
theorem ggX5_emptyPress_X3_clearPitches : GoodIn wsX5_emptyPress wsX3_clearPitches := goodIn_r _ [59, 47, 48, 60, 61, 62, 63, 64, 65, 66, 76, 77, 78, 79, 80, 81, 82, 83, 84] (by decide +kernel) (by decide +kernel)
set_option maxRecDepth 20000 in
theorem gX5_emptyPress_X3_clearPitches : GoodIn wsX5_emptyPress (wsV RX5 176 RX3 yX3_clearPitches wsX3_clearPitches) := goodIn_app (goodIn_of _ (by decide +kernel)) ggX5_emptyPress_X3_clearPitches
theorem dX5_emptyPress_0 : decode cX5_emptyPress 0 = .ok (.aload_n 0, 1) := by decide +kernel
theorem dX5_emptyPress_1 : decode cX5_emptyPress 1 = .ok (.invokevirtual 52, 3) := by decide +kernel
theorem dX5_emptyPress_4 : decode cX5_emptyPress 4 = .ok (.aload_n 0, 1) := by decide +kernel
theorem dX5_emptyPress_5 : decode cX5_emptyPress 5 = .ok (.getfield 12, 3) := by decide +kernel
theorem dX5_emptyPress_8 : decode cX5_emptyPress 8 = .ok (.getfield 130, 3) := by decide +kernel
theorem dX5_emptyPress_11 : decode cX5_emptyPress 11 = .ok (.invokevirtual 176, 3) := by decide +kernel
theorem dX5_emptyPress_14 : decode cX5_emptyPress 14 = .ok (.istore_n 1, 1) := by decide +kernel
theorem dX5_emptyPress_15 : decode cX5_emptyPress 15 = .ok (.aload_n 0, 1) := by decide +kernel
theorem dX5_emptyPress_16 : decode cX5_emptyPress 16 = .ok (.getfield 12, 3) := by decide +kernel
theorem dX5_emptyPress_19 : decode cX5_emptyPress 19 = .ok (.getfield 130, 3) := by decide +kernel
theorem dX5_emptyPress_22 : decode cX5_emptyPress 22 = .ok (.dup, 1) := by decide +kernel
theorem dX5_emptyPress_23 : decode cX5_emptyPress 23 = .ok (.getfield 180, 3) := by decide +kernel
theorem dX5_emptyPress_26 : decode cX5_emptyPress 26 = .ok (.iload_n 1, 1) := by decide +kernel
theorem dX5_emptyPress_27 : decode cX5_emptyPress 27 = .ok (.iadd, 1) := by decide +kernel
theorem dX5_emptyPress_28 : decode cX5_emptyPress 28 = .ok (.putfield 180, 3) := by decide +kernel
theorem dX5_emptyPress_31 : decode cX5_emptyPress 31 = .ok (.iload_n 1, 1) := by decide +kernel
theorem dX5_emptyPress_32 : decode cX5_emptyPress 32 = .ok (.ireturn, 1) := by decide +kernel
set_option maxRecDepth 20000 in
theorem ggX5_cellSet_X1_partCells : GoodIn wsX5_cellSet wsX1_partCells := goodIn_r _ [9, 10, 11, 12, 13, 14, 8, 15, 16, 17, 18, 75, 76, 77, 78, 79, 80, 81, 82, 83, 84] (by decide +kernel) (by decide +kernel)
set_option maxRecDepth 20000 in
theorem gX5_cellSet_X1_partCells : GoodIn wsX5_cellSet (wsV RX5 183 RX1 yX1_partCells wsX1_partCells) := goodIn_app (goodIn_of _ (by decide +kernel)) ggX5_cellSet_X1_partCells
set_option maxRecDepth 20000 in
theorem ggX5_cellSet_X1_linkCells : GoodIn wsX5_cellSet wsX1_linkCells := goodIn_r _ [22, 23, 11, 12, 13, 14, 8, 15, 16, 17, 18, 75, 76, 77, 78, 79, 80, 81, 82, 83, 84] (by decide +kernel) (by decide +kernel)
set_option maxRecDepth 20000 in
theorem gX5_cellSet_X1_linkCells : GoodIn wsX5_cellSet (wsV RX5 187 RX1 yX1_linkCells wsX1_linkCells) := goodIn_app (goodIn_of _ (by decide +kernel)) ggX5_cellSet_X1_linkCells
set_option maxRecDepth 20000 in
theorem ggX5_cellSet_X1_carrierCells : GoodIn wsX5_cellSet wsX1_carrierCells := goodIn_r _ [15, 16, 17, 18, 75, 76, 77, 78, 79, 80, 81, 82, 83, 84] (by decide +kernel) (by decide +kernel)
set_option maxRecDepth 20000 in
theorem gX5_cellSet_X1_carrierCells : GoodIn wsX5_cellSet (wsV RX5 190 RX1 yX1_carrierCells wsX1_carrierCells) := goodIn_app (goodIn_of _ (by decide +kernel)) ggX5_cellSet_X1_carrierCells
set_option maxRecDepth 20000 in
theorem ggX5_cellSet_X1_cellsOfKind : GoodIn wsX5_cellSet wsX1_cellsOfKind := goodIn_r _ [28, 29, 30, 31, 32, 8, 33, 34, 35, 36, 37, 38, 39, 75, 76, 77, 78, 79, 80, 81, 82, 83, 84] (by decide +kernel) (by decide +kernel)
set_option maxRecDepth 20000 in
theorem gX5_cellSet_X1_cellsOfKind : GoodIn wsX5_cellSet (wsV RX5 193 RX1 yX1_cellsOfKind wsX1_cellsOfKind) := goodIn_app (goodIn_of _ (by decide +kernel)) ggX5_cellSet_X1_cellsOfKind
set_option maxRecDepth 20000 in
theorem ggX5_cellSet_X1_forgottenCells : GoodIn wsX5_cellSet wsX1_forgottenCells := goodIn_r _ [43, 11, 44, 45, 46, 8, 47, 10, 23, 48, 49, 50, 51, 16, 17, 12, 13, 14, 15, 18, 52, 26, 27, 28, 29, 30, 31, 32, 33, 34, 35, 36, 37, 38, 39, 75, 76, 77, 78, 79, 80, 81, 82, 83, 84] (by decide +kernel) (by decide +kernel)
set_option maxRecDepth 20000 in
theorem gX5_cellSet_X1_forgottenCells : GoodIn wsX5_cellSet (wsV RX5 197 RX1 yX1_forgottenCells wsX1_forgottenCells) := goodIn_app (goodIn_of _ (by decide +kernel)) ggX5_cellSet_X1_forgottenCells
set_option maxRecDepth 20000 in
theorem ggX5_cellSet_X1_looseCells : GoodIn wsX5_cellSet wsX1_looseCells := goodIn_r _ [56, 10, 23, 11, 12, 13, 14, 8, 15, 16, 17, 18, 57, 58, 59, 60, 61, 62, 63, 64, 48, 49, 50, 51, 65, 6, 7, 9, 75, 76, 77, 78, 79, 80, 81, 82, 83, 84] (by decide +kernel) (by decide +kernel)
set_option maxRecDepth 20000 in
theorem gX5_cellSet_X1_looseCells : GoodIn wsX5_cellSet (wsV RX5 200 RX1 yX1_looseCells wsX1_looseCells) := goodIn_app (goodIn_of _ (by decide +kernel)) ggX5_cellSet_X1_looseCells
theorem dX5_cellSet_0 : decode cX5_cellSet 0 = .ok (.iload_n 1, 1) := by decide +kernel
theorem dX5_cellSet_1 : decode cX5_cellSet 1 = .ok (.tableswitch 106 0 5 #[39, 50, 61, 72, 84, 95], 39) := by decide +kernel
theorem dX5_cellSet_40 : decode cX5_cellSet 40 = .ok (.aload_n 0, 1) := by decide +kernel
theorem dX5_cellSet_41 : decode cX5_cellSet 41 = .ok (.getfield 12, 3) := by decide +kernel
theorem dX5_cellSet_44 : decode cX5_cellSet 44 = .ok (.getfield 55, 3) := by decide +kernel
theorem dX5_cellSet_47 : decode cX5_cellSet 47 = .ok (.invokevirtual 183, 3) := by decide +kernel
theorem dX5_cellSet_50 : decode cX5_cellSet 50 = .ok (.lreturn, 1) := by decide +kernel
theorem dX5_cellSet_51 : decode cX5_cellSet 51 = .ok (.aload_n 0, 1) := by decide +kernel
theorem dX5_cellSet_52 : decode cX5_cellSet 52 = .ok (.getfield 12, 3) := by decide +kernel
theorem dX5_cellSet_55 : decode cX5_cellSet 55 = .ok (.getfield 55, 3) := by decide +kernel
theorem dX5_cellSet_58 : decode cX5_cellSet 58 = .ok (.invokevirtual 187, 3) := by decide +kernel
theorem dX5_cellSet_61 : decode cX5_cellSet 61 = .ok (.lreturn, 1) := by decide +kernel
theorem dX5_cellSet_62 : decode cX5_cellSet 62 = .ok (.aload_n 0, 1) := by decide +kernel
theorem dX5_cellSet_63 : decode cX5_cellSet 63 = .ok (.getfield 12, 3) := by decide +kernel
theorem dX5_cellSet_66 : decode cX5_cellSet 66 = .ok (.getfield 55, 3) := by decide +kernel
theorem dX5_cellSet_69 : decode cX5_cellSet 69 = .ok (.invokevirtual 190, 3) := by decide +kernel
theorem dX5_cellSet_72 : decode cX5_cellSet 72 = .ok (.lreturn, 1) := by decide +kernel
theorem dX5_cellSet_73 : decode cX5_cellSet 73 = .ok (.aload_n 0, 1) := by decide +kernel
theorem dX5_cellSet_74 : decode cX5_cellSet 74 = .ok (.getfield 12, 3) := by decide +kernel
theorem dX5_cellSet_77 : decode cX5_cellSet 77 = .ok (.getfield 55, 3) := by decide +kernel
theorem dX5_cellSet_80 : decode cX5_cellSet 80 = .ok (.iconst 0, 1) := by decide +kernel
theorem dX5_cellSet_81 : decode cX5_cellSet 81 = .ok (.invokevirtual 193, 3) := by decide +kernel
theorem dX5_cellSet_84 : decode cX5_cellSet 84 = .ok (.lreturn, 1) := by decide +kernel
theorem dX5_cellSet_85 : decode cX5_cellSet 85 = .ok (.aload_n 0, 1) := by decide +kernel
theorem dX5_cellSet_86 : decode cX5_cellSet 86 = .ok (.getfield 12, 3) := by decide +kernel
theorem dX5_cellSet_89 : decode cX5_cellSet 89 = .ok (.getfield 55, 3) := by decide +kernel
theorem dX5_cellSet_92 : decode cX5_cellSet 92 = .ok (.invokevirtual 197, 3) := by decide +kernel
theorem dX5_cellSet_95 : decode cX5_cellSet 95 = .ok (.lreturn, 1) := by decide +kernel
theorem dX5_cellSet_96 : decode cX5_cellSet 96 = .ok (.aload_n 0, 1) := by decide +kernel
theorem dX5_cellSet_97 : decode cX5_cellSet 97 = .ok (.getfield 12, 3) := by decide +kernel
theorem dX5_cellSet_100 : decode cX5_cellSet 100 = .ok (.getfield 55, 3) := by decide +kernel
theorem dX5_cellSet_103 : decode cX5_cellSet 103 = .ok (.invokevirtual 200, 3) := by decide +kernel
theorem dX5_cellSet_106 : decode cX5_cellSet 106 = .ok (.lreturn, 1) := by decide +kernel
theorem dX5_cellSet_107 : decode cX5_cellSet 107 = .ok (.new 45, 3) := by decide +kernel
theorem dX5_cellSet_110 : decode cX5_cellSet 110 = .ok (.dup, 1) := by decide +kernel
theorem dX5_cellSet_111 : decode cX5_cellSet 111 = .ok (.ldc 203, 2) := by decide +kernel
theorem dX5_cellSet_113 : decode cX5_cellSet 113 = .ok (.invokespecial 49, 3) := by decide +kernel
theorem dX5_cellSet_116 : decode cX5_cellSet 116 = .ok (.athrow, 1) := by decide +kernel
set_option maxRecDepth 20000 in
theorem ggX5_operation_X1_hasOperation : GoodIn wsX5_operation wsX1_hasOperation := goodIn_r _ [11, 12, 51, 52, 53, 54, 55, 56, 57, 58, 59, 60] (by decide +kernel) (by decide +kernel)
set_option maxRecDepth 20000 in
theorem gX5_operation_X1_hasOperation : GoodIn wsX5_operation (wsV RX5 117 RX1 yX1_hasOperation wsX1_hasOperation) := goodIn_app (goodIn_of _ (by decide +kernel)) ggX5_operation_X1_hasOperation
set_option maxRecDepth 20000 in
theorem ggX5_operation_X1_touching : GoodIn wsX5_operation wsX1_touching := goodIn_r _ [16, 12, 17, 18, 19, 10, 20, 21, 22, 23, 24, 25, 26, 27, 28, 29, 30, 31, 32, 33, 34, 35, 36, 51, 52, 53, 54, 55, 56, 57, 58, 59, 60] (by decide +kernel) (by decide +kernel)
set_option maxRecDepth 20000 in
theorem gX5_operation_X1_touching : GoodIn wsX5_operation (wsV RX5 207 RX1 yX1_touching wsX1_touching) := goodIn_app (goodIn_of _ (by decide +kernel)) ggX5_operation_X1_touching
set_option maxRecDepth 20000 in
theorem ggX5_operation_X1_fact : GoodIn wsX5_operation wsX1_fact := goodIn_r _ [40, 41, 51, 52, 53, 54, 55, 56, 57, 58, 59, 60] (by decide +kernel) (by decide +kernel)
set_option maxRecDepth 20000 in
theorem gX5_operation_X1_fact : GoodIn wsX5_operation (wsV RX5 141 RX1 yX1_fact wsX1_fact) := goodIn_app (goodIn_of _ (by decide +kernel)) ggX5_operation_X1_fact
theorem dX5_operation_0 : decode cX5_operation 0 = .ok (.aload_n 0, 1) := by decide +kernel
theorem dX5_operation_1 : decode cX5_operation 1 = .ok (.getfield 12, 3) := by decide +kernel
theorem dX5_operation_4 : decode cX5_operation 4 = .ok (.getfield 55, 3) := by decide +kernel
theorem dX5_operation_7 : decode cX5_operation 7 = .ok (.iload_n 1, 1) := by decide +kernel
theorem dX5_operation_8 : decode cX5_operation 8 = .ok (.invokevirtual 117, 3) := by decide +kernel
theorem dX5_operation_11 : decode cX5_operation 11 = .ok (.ifCond .ne 13, 3) := by decide +kernel
theorem dX5_operation_14 : decode cX5_operation 14 = .ok (.new 121, 3) := by decide +kernel
theorem dX5_operation_17 : decode cX5_operation 17 = .ok (.dup, 1) := by decide +kernel
theorem dX5_operation_18 : decode cX5_operation 18 = .ok (.ldc 123, 2) := by decide +kernel
theorem dX5_operation_20 : decode cX5_operation 20 = .ok (.invokespecial 125, 3) := by decide +kernel
theorem dX5_operation_23 : decode cX5_operation 23 = .ok (.athrow, 1) := by decide +kernel
theorem dX5_operation_24 : decode cX5_operation 24 = .ok (.iload_n 2, 1) := by decide +kernel
theorem dX5_operation_25 : decode cX5_operation 25 = .ok (.ifCond .lt 9, 3) := by decide +kernel
theorem dX5_operation_28 : decode cX5_operation 28 = .ok (.iload_n 2, 1) := by decide +kernel
theorem dX5_operation_29 : decode cX5_operation 29 = .ok (.bipush 7, 2) := by decide +kernel
theorem dX5_operation_31 : decode cX5_operation 31 = .ok (.if_icmp .le 13, 3) := by decide +kernel
theorem dX5_operation_34 : decode cX5_operation 34 = .ok (.new 45, 3) := by decide +kernel
theorem dX5_operation_37 : decode cX5_operation 37 = .ok (.dup, 1) := by decide +kernel
theorem dX5_operation_38 : decode cX5_operation 38 = .ok (.ldc 205, 2) := by decide +kernel
theorem dX5_operation_40 : decode cX5_operation 40 = .ok (.invokespecial 49, 3) := by decide +kernel
theorem dX5_operation_43 : decode cX5_operation 43 = .ok (.athrow, 1) := by decide +kernel
theorem dX5_operation_44 : decode cX5_operation 44 = .ok (.iload_n 2, 1) := by decide +kernel
theorem dX5_operation_45 : decode cX5_operation 45 = .ok (.bipush 7, 2) := by decide +kernel
theorem dX5_operation_47 : decode cX5_operation 47 = .ok (.if_icmp .ne 17, 3) := by decide +kernel
theorem dX5_operation_50 : decode cX5_operation 50 = .ok (.aload_n 0, 1) := by decide +kernel
theorem dX5_operation_51 : decode cX5_operation 51 = .ok (.getfield 12, 3) := by decide +kernel
theorem dX5_operation_54 : decode cX5_operation 54 = .ok (.getfield 55, 3) := by decide +kernel
theorem dX5_operation_57 : decode cX5_operation 57 = .ok (.iload_n 1, 1) := by decide +kernel
theorem dX5_operation_58 : decode cX5_operation 58 = .ok (.invokevirtual 207, 3) := by decide +kernel
theorem dX5_operation_61 : decode cX5_operation 61 = .ok (.goto 15, 3) := by decide +kernel
theorem dX5_operation_64 : decode cX5_operation 64 = .ok (.aload_n 0, 1) := by decide +kernel
theorem dX5_operation_65 : decode cX5_operation 65 = .ok (.getfield 12, 3) := by decide +kernel
theorem dX5_operation_68 : decode cX5_operation 68 = .ok (.getfield 55, 3) := by decide +kernel
theorem dX5_operation_71 : decode cX5_operation 71 = .ok (.iload_n 1, 1) := by decide +kernel
theorem dX5_operation_72 : decode cX5_operation 72 = .ok (.iload_n 2, 1) := by decide +kernel
theorem dX5_operation_73 : decode cX5_operation 73 = .ok (.invokevirtual 141, 3) := by decide +kernel
theorem dX5_operation_76 : decode cX5_operation 76 = .ok (.ireturn, 1) := by decide +kernel
set_option maxRecDepth 20000 in
theorem ggX5_station_X5_isStation : GoodIn wsX5_station wsX5_isStation := goodIn_r _ [9] (by decide +kernel) (by decide +kernel)
set_option maxRecDepth 20000 in
theorem gX5_station_X5_isStation : GoodIn wsX5_station (va_wsS RX5 136 yX5_isStation wsX5_isStation) := goodIn_app (goodIn_of _ (by decide +kernel)) ggX5_station_X5_isStation
set_option maxRecDepth 20000 in
theorem ggX5_station_X1_operationsAt : GoodIn wsX5_station wsX1_operationsAt := goodIn_r _ [14, 15, 16, 17, 18, 13, 19, 20, 47, 48, 49, 50, 51, 52, 53, 54, 55, 56] (by decide +kernel) (by decide +kernel)
set_option maxRecDepth 20000 in
theorem gX5_station_X1_operationsAt : GoodIn wsX5_station (wsV RX5 210 RX1 yX1_operationsAt wsX1_operationsAt) := goodIn_app (goodIn_of _ (by decide +kernel)) ggX5_station_X1_operationsAt
set_option maxRecDepth 20000 in
theorem ggX5_station_X1_forceAt : GoodIn wsX5_station wsX1_forceAt := goodIn_r _ [24, 15, 16, 17, 18, 13, 19, 20, 47, 48, 49, 50, 51, 52, 53, 54, 55, 56] (by decide +kernel) (by decide +kernel)
set_option maxRecDepth 20000 in
theorem gX5_station_X1_forceAt : GoodIn wsX5_station (wsV RX5 213 RX1 yX1_forceAt wsX1_forceAt) := goodIn_app (goodIn_of _ (by decide +kernel)) ggX5_station_X1_forceAt
set_option maxRecDepth 20000 in
theorem ggX5_station_X1_hasPilot : GoodIn wsX5_station wsX1_hasPilot := goodIn_r _ [28, 29, 30, 8, 31, 47, 48, 49, 50, 51, 52, 53, 54, 55, 56] (by decide +kernel) (by decide +kernel)
set_option maxRecDepth 20000 in
theorem gX5_station_X1_hasPilot : GoodIn wsX5_station (wsV RX5 216 RX1 yX1_hasPilot wsX1_hasPilot) := goodIn_app (goodIn_of _ (by decide +kernel)) ggX5_station_X1_hasPilot
set_option maxRecDepth 20000 in
theorem ggX5_station_X3_hasPitch : GoodIn wsX5_station wsX3_hasPitch := goodIn_r _ [36, 37, 30, 8, 31, 57, 58, 59, 60, 61, 62, 63, 64, 65] (by decide +kernel) (by decide +kernel)
set_option maxRecDepth 20000 in
theorem gX5_station_X3_hasPitch : GoodIn wsX5_station (wsV RX5 219 RX3 yX3_hasPitch wsX3_hasPitch) := goodIn_app (goodIn_of _ (by decide +kernel)) ggX5_station_X3_hasPitch
theorem dX5_station_0 : decode cX5_station 0 = .ok (.iload_n 1, 1) := by decide +kernel
theorem dX5_station_1 : decode cX5_station 1 = .ok (.invokestatic 136, 3) := by decide +kernel
theorem dX5_station_4 : decode cX5_station 4 = .ok (.ifCond .ne 13, 3) := by decide +kernel
theorem dX5_station_7 : decode cX5_station 7 = .ok (.new 45, 3) := by decide +kernel
theorem dX5_station_10 : decode cX5_station 10 = .ok (.dup, 1) := by decide +kernel
theorem dX5_station_11 : decode cX5_station 11 = .ok (.ldc 159, 2) := by decide +kernel
theorem dX5_station_13 : decode cX5_station 13 = .ok (.invokespecial 49, 3) := by decide +kernel
theorem dX5_station_16 : decode cX5_station 16 = .ok (.athrow, 1) := by decide +kernel
theorem dX5_station_17 : decode cX5_station 17 = .ok (.iload_n 2, 1) := by decide +kernel
theorem dX5_station_18 : decode cX5_station 18 = .ok (.tableswitch 94 0 3 #[30, 42, 54, 74], 30) := by decide +kernel
theorem dX5_station_48 : decode cX5_station 48 = .ok (.aload_n 0, 1) := by decide +kernel
theorem dX5_station_49 : decode cX5_station 49 = .ok (.getfield 12, 3) := by decide +kernel
theorem dX5_station_52 : decode cX5_station 52 = .ok (.getfield 55, 3) := by decide +kernel
theorem dX5_station_55 : decode cX5_station 55 = .ok (.iload_n 1, 1) := by decide +kernel
theorem dX5_station_56 : decode cX5_station 56 = .ok (.invokevirtual 210, 3) := by decide +kernel
theorem dX5_station_59 : decode cX5_station 59 = .ok (.ireturn, 1) := by decide +kernel
theorem dX5_station_60 : decode cX5_station 60 = .ok (.aload_n 0, 1) := by decide +kernel
theorem dX5_station_61 : decode cX5_station 61 = .ok (.getfield 12, 3) := by decide +kernel
theorem dX5_station_64 : decode cX5_station 64 = .ok (.getfield 55, 3) := by decide +kernel
theorem dX5_station_67 : decode cX5_station 67 = .ok (.iload_n 1, 1) := by decide +kernel
theorem dX5_station_68 : decode cX5_station 68 = .ok (.invokevirtual 213, 3) := by decide +kernel
theorem dX5_station_71 : decode cX5_station 71 = .ok (.ireturn, 1) := by decide +kernel
theorem dX5_station_72 : decode cX5_station 72 = .ok (.aload_n 0, 1) := by decide +kernel
theorem dX5_station_73 : decode cX5_station 73 = .ok (.getfield 12, 3) := by decide +kernel
theorem dX5_station_76 : decode cX5_station 76 = .ok (.getfield 55, 3) := by decide +kernel
theorem dX5_station_79 : decode cX5_station 79 = .ok (.iload_n 1, 1) := by decide +kernel
theorem dX5_station_80 : decode cX5_station 80 = .ok (.invokevirtual 216, 3) := by decide +kernel
theorem dX5_station_83 : decode cX5_station 83 = .ok (.ifCond .eq 7, 3) := by decide +kernel
theorem dX5_station_86 : decode cX5_station 86 = .ok (.iconst 1, 1) := by decide +kernel
theorem dX5_station_87 : decode cX5_station 87 = .ok (.goto 4, 3) := by decide +kernel
theorem dX5_station_90 : decode cX5_station 90 = .ok (.iconst 0, 1) := by decide +kernel
theorem dX5_station_91 : decode cX5_station 91 = .ok (.ireturn, 1) := by decide +kernel
theorem dX5_station_92 : decode cX5_station 92 = .ok (.aload_n 0, 1) := by decide +kernel
theorem dX5_station_93 : decode cX5_station 93 = .ok (.getfield 12, 3) := by decide +kernel
theorem dX5_station_96 : decode cX5_station 96 = .ok (.getfield 130, 3) := by decide +kernel
theorem dX5_station_99 : decode cX5_station 99 = .ok (.iload_n 1, 1) := by decide +kernel
theorem dX5_station_100 : decode cX5_station 100 = .ok (.invokevirtual 219, 3) := by decide +kernel
theorem dX5_station_103 : decode cX5_station 103 = .ok (.ifCond .eq 7, 3) := by decide +kernel
theorem dX5_station_106 : decode cX5_station 106 = .ok (.iconst 1, 1) := by decide +kernel
theorem dX5_station_107 : decode cX5_station 107 = .ok (.goto 4, 3) := by decide +kernel
theorem dX5_station_110 : decode cX5_station 110 = .ok (.iconst 0, 1) := by decide +kernel
theorem dX5_station_111 : decode cX5_station 111 = .ok (.ireturn, 1) := by decide +kernel
theorem dX5_station_112 : decode cX5_station 112 = .ok (.new 45, 3) := by decide +kernel
theorem dX5_station_115 : decode cX5_station 115 = .ok (.dup, 1) := by decide +kernel
theorem dX5_station_116 : decode cX5_station 116 = .ok (.ldc 222, 2) := by decide +kernel
theorem dX5_station_118 : decode cX5_station 118 = .ok (.invokespecial 49, 3) := by decide +kernel
theorem dX5_station_121 : decode cX5_station 121 = .ok (.athrow, 1) := by decide +kernel
set_option maxRecDepth 20000 in
theorem ggX5_pitch_X5_isStation : GoodIn wsX5_pitch wsX5_isStation := goodIn_r _ [8] (by decide +kernel) (by decide +kernel)
set_option maxRecDepth 20000 in
theorem gX5_pitch_X5_isStation : GoodIn wsX5_pitch (va_wsS RX5 136 yX5_isStation wsX5_isStation) := goodIn_app (goodIn_of _ (by decide +kernel)) ggX5_pitch_X5_isStation
set_option maxRecDepth 20000 in
theorem ggX5_pitch_X3_hasPitch : GoodIn wsX5_pitch wsX3_hasPitch := goodIn_r _ [13, 14, 15, 7, 16, 53, 54, 55, 56, 57, 58, 59, 60, 61] (by decide +kernel) (by decide +kernel)
set_option maxRecDepth 20000 in
theorem gX5_pitch_X3_hasPitch : GoodIn wsX5_pitch (wsV RX5 219 RX3 yX3_hasPitch wsX3_hasPitch) := goodIn_app (goodIn_of _ (by decide +kernel)) ggX5_pitch_X3_hasPitch
set_option maxRecDepth 20000 in
theorem ggX5_pitch_X3_valueOf : GoodIn wsX5_pitch wsX3_valueOf := goodIn_r _ [20, 21, 22, 23, 24, 12, 25, 26, 27, 28, 29, 30, 31, 15, 7, 16, 32, 33, 34, 35, 36, 37, 38, 39, 40, 41, 42, 43, 53, 54, 55, 56, 57, 58, 59, 60, 61] (by decide +kernel) (by decide +kernel)
set_option maxRecDepth 20000 in
theorem gX5_pitch_X3_valueOf : GoodIn wsX5_pitch (wsV RX5 226 RX3 yX3_valueOf wsX3_valueOf) := goodIn_app (goodIn_of _ (by decide +kernel)) ggX5_pitch_X3_valueOf
theorem dX5_pitch_0 : decode cX5_pitch 0 = .ok (.iload_n 1, 1) := by decide +kernel
theorem dX5_pitch_1 : decode cX5_pitch 1 = .ok (.invokestatic 136, 3) := by decide +kernel
theorem dX5_pitch_4 : decode cX5_pitch 4 = .ok (.ifCond .eq 12, 3) := by decide +kernel
theorem dX5_pitch_7 : decode cX5_pitch 7 = .ok (.iload_n 2, 1) := by decide +kernel
theorem dX5_pitch_8 : decode cX5_pitch 8 = .ok (.ifCond .lt 8, 3) := by decide +kernel
theorem dX5_pitch_11 : decode cX5_pitch 11 = .ok (.iload_n 2, 1) := by decide +kernel
theorem dX5_pitch_12 : decode cX5_pitch 12 = .ok (.iconst 3, 1) := by decide +kernel
theorem dX5_pitch_13 : decode cX5_pitch 13 = .ok (.if_icmp .le 13, 3) := by decide +kernel
theorem dX5_pitch_16 : decode cX5_pitch 16 = .ok (.new 45, 3) := by decide +kernel
theorem dX5_pitch_19 : decode cX5_pitch 19 = .ok (.dup, 1) := by decide +kernel
theorem dX5_pitch_20 : decode cX5_pitch 20 = .ok (.ldc 224, 2) := by decide +kernel
theorem dX5_pitch_22 : decode cX5_pitch 22 = .ok (.invokespecial 49, 3) := by decide +kernel
theorem dX5_pitch_25 : decode cX5_pitch 25 = .ok (.athrow, 1) := by decide +kernel
theorem dX5_pitch_26 : decode cX5_pitch 26 = .ok (.aload_n 0, 1) := by decide +kernel
theorem dX5_pitch_27 : decode cX5_pitch 27 = .ok (.getfield 12, 3) := by decide +kernel
theorem dX5_pitch_30 : decode cX5_pitch 30 = .ok (.getfield 130, 3) := by decide +kernel
theorem dX5_pitch_33 : decode cX5_pitch 33 = .ok (.iload_n 1, 1) := by decide +kernel
theorem dX5_pitch_34 : decode cX5_pitch 34 = .ok (.invokevirtual 219, 3) := by decide +kernel
theorem dX5_pitch_37 : decode cX5_pitch 37 = .ok (.ifCond .eq 18, 3) := by decide +kernel
theorem dX5_pitch_40 : decode cX5_pitch 40 = .ok (.aload_n 0, 1) := by decide +kernel
theorem dX5_pitch_41 : decode cX5_pitch 41 = .ok (.getfield 12, 3) := by decide +kernel
theorem dX5_pitch_44 : decode cX5_pitch 44 = .ok (.getfield 130, 3) := by decide +kernel
theorem dX5_pitch_47 : decode cX5_pitch 47 = .ok (.iload_n 1, 1) := by decide +kernel
theorem dX5_pitch_48 : decode cX5_pitch 48 = .ok (.iload_n 2, 1) := by decide +kernel
theorem dX5_pitch_49 : decode cX5_pitch 49 = .ok (.invokevirtual 226, 3) := by decide +kernel
theorem dX5_pitch_52 : decode cX5_pitch 52 = .ok (.goto 4, 3) := by decide +kernel
theorem dX5_pitch_55 : decode cX5_pitch 55 = .ok (.iconst (-1), 1) := by decide +kernel
theorem dX5_pitch_56 : decode cX5_pitch 56 = .ok (.ireturn, 1) := by decide +kernel
set_option maxRecDepth 20000 in
theorem ggX5_left_X5_isStation : GoodIn wsX5_left wsX5_isStation := goodIn_r _ [8] (by decide +kernel) (by decide +kernel)
set_option maxRecDepth 20000 in
theorem gX5_left_X5_isStation : GoodIn wsX5_left (va_wsS RX5 136 yX5_isStation wsX5_isStation) := goodIn_app (goodIn_of _ (by decide +kernel)) ggX5_left_X5_isStation
set_option maxRecDepth 20000 in
theorem ggX5_left_X3_hasPitch : GoodIn wsX5_left wsX3_hasPitch := goodIn_r _ [13, 14, 15, 7, 16, 31, 32, 33, 34, 35, 36, 37, 38, 39] (by decide +kernel) (by decide +kernel)
set_option maxRecDepth 20000 in
theorem gX5_left_X3_hasPitch : GoodIn wsX5_left (wsV RX5 219 RX3 yX3_hasPitch wsX3_hasPitch) := goodIn_app (goodIn_of _ (by decide +kernel)) ggX5_left_X3_hasPitch
set_option maxRecDepth 20000 in
theorem ggX5_left_X3_cellsAt : GoodIn wsX5_left wsX3_cellsAt := goodIn_r _ [20, 21, 31, 32, 33, 34, 35, 36, 37, 38, 39] (by decide +kernel) (by decide +kernel)
set_option maxRecDepth 20000 in
theorem gX5_left_X3_cellsAt : GoodIn wsX5_left (wsV RX5 229 RX3 yX3_cellsAt wsX3_cellsAt) := goodIn_app (goodIn_of _ (by decide +kernel)) ggX5_left_X3_cellsAt
theorem dX5_left_0 : decode cX5_left 0 = .ok (.iload_n 1, 1) := by decide +kernel
theorem dX5_left_1 : decode cX5_left 1 = .ok (.invokestatic 136, 3) := by decide +kernel
theorem dX5_left_4 : decode cX5_left 4 = .ok (.ifCond .ne 13, 3) := by decide +kernel
theorem dX5_left_7 : decode cX5_left 7 = .ok (.new 45, 3) := by decide +kernel
theorem dX5_left_10 : decode cX5_left 10 = .ok (.dup, 1) := by decide +kernel
theorem dX5_left_11 : decode cX5_left 11 = .ok (.ldc 159, 2) := by decide +kernel
theorem dX5_left_13 : decode cX5_left 13 = .ok (.invokespecial 49, 3) := by decide +kernel
theorem dX5_left_16 : decode cX5_left 16 = .ok (.athrow, 1) := by decide +kernel
theorem dX5_left_17 : decode cX5_left 17 = .ok (.aload_n 0, 1) := by decide +kernel
theorem dX5_left_18 : decode cX5_left 18 = .ok (.getfield 12, 3) := by decide +kernel
theorem dX5_left_21 : decode cX5_left 21 = .ok (.getfield 130, 3) := by decide +kernel
theorem dX5_left_24 : decode cX5_left 24 = .ok (.iload_n 1, 1) := by decide +kernel
theorem dX5_left_25 : decode cX5_left 25 = .ok (.invokevirtual 219, 3) := by decide +kernel
theorem dX5_left_28 : decode cX5_left 28 = .ok (.ifCond .eq 17, 3) := by decide +kernel
theorem dX5_left_31 : decode cX5_left 31 = .ok (.aload_n 0, 1) := by decide +kernel
theorem dX5_left_32 : decode cX5_left 32 = .ok (.getfield 12, 3) := by decide +kernel
theorem dX5_left_35 : decode cX5_left 35 = .ok (.getfield 130, 3) := by decide +kernel
theorem dX5_left_38 : decode cX5_left 38 = .ok (.iload_n 1, 1) := by decide +kernel
theorem dX5_left_39 : decode cX5_left 39 = .ok (.invokevirtual 229, 3) := by decide +kernel
theorem dX5_left_42 : decode cX5_left 42 = .ok (.goto 4, 3) := by decide +kernel
theorem dX5_left_45 : decode cX5_left 45 = .ok (.lconst 0, 1) := by decide +kernel
theorem dX5_left_46 : decode cX5_left 46 = .ok (.lreturn, 1) := by decide +kernel
set_option maxRecDepth 20000 in
theorem ggX5_whole_X1_wholeValue : GoodIn wsX5_whole wsX1_wholeValue := goodIn_r _ [13, 14, 15, 16, 17, 18, 19, 20, 12, 21, 22, 23, 24, 25, 26, 27, 28, 29, 30, 31, 32, 33, 34, 35, 63, 64, 65, 66, 67, 68, 69, 70, 71, 72] (by decide +kernel) (by decide +kernel)
set_option maxRecDepth 20000 in
theorem gX5_whole_X1_wholeValue : GoodIn wsX5_whole (wsV RX5 234 RX1 yX1_wholeValue wsX1_wholeValue) := goodIn_app (goodIn_of _ (by decide +kernel)) ggX5_whole_X1_wholeValue
set_option maxRecDepth 20000 in
theorem ggX5_whole_J6_bitCount_0f7a4 : GoodIn wsX5_whole wsJ6_bitCount_0f7a4 := goodIn_r _ [39, 40, 41, 42] (by decide +kernel) (by decide +kernel)
set_option maxRecDepth 20000 in
theorem gX5_whole_J6_bitCount_0f7a4 : GoodIn wsX5_whole (va_wsS RX5 168 yJ6_bitCount_0f7a4 wsJ6_bitCount_0f7a4) := goodIn_app (goodIn_of _ (by decide +kernel)) ggX5_whole_J6_bitCount_0f7a4
set_option maxRecDepth 20000 in
theorem ggX5_whole_X3_wholeValue : GoodIn wsX5_whole wsX3_wholeValue := goodIn_r _ [47, 48, 49, 50, 51, 52, 53, 37, 38, 39, 40, 41, 42, 78, 79, 80, 81, 82, 83, 84, 85, 86] (by decide +kernel) (by decide +kernel)
set_option maxRecDepth 20000 in
theorem gX5_whole_X3_wholeValue : GoodIn wsX5_whole (wsV RX5 240 RX3 yX3_wholeValue wsX3_wholeValue) := goodIn_app (goodIn_of _ (by decide +kernel)) ggX5_whole_X3_wholeValue
theorem dX5_whole_0 : decode cX5_whole 0 = .ok (.iload_n 1, 1) := by decide +kernel
theorem dX5_whole_1 : decode cX5_whole 1 = .ok (.ifCond .lt 9, 3) := by decide +kernel
theorem dX5_whole_4 : decode cX5_whole 4 = .ok (.iload_n 1, 1) := by decide +kernel
theorem dX5_whole_5 : decode cX5_whole 5 = .ok (.bipush 16, 2) := by decide +kernel
theorem dX5_whole_7 : decode cX5_whole 7 = .ok (.if_icmp .le 13, 3) := by decide +kernel
theorem dX5_whole_10 : decode cX5_whole 10 = .ok (.new 45, 3) := by decide +kernel
theorem dX5_whole_13 : decode cX5_whole 13 = .ok (.dup, 1) := by decide +kernel
theorem dX5_whole_14 : decode cX5_whole 14 = .ok (.ldc 232, 2) := by decide +kernel
theorem dX5_whole_16 : decode cX5_whole 16 = .ok (.invokespecial 49, 3) := by decide +kernel
theorem dX5_whole_19 : decode cX5_whole 19 = .ok (.athrow, 1) := by decide +kernel
theorem dX5_whole_20 : decode cX5_whole 20 = .ok (.iload_n 1, 1) := by decide +kernel
theorem dX5_whole_21 : decode cX5_whole 21 = .ok (.bipush 10, 2) := by decide +kernel
theorem dX5_whole_23 : decode cX5_whole 23 = .ok (.if_icmp .ge 15, 3) := by decide +kernel
theorem dX5_whole_26 : decode cX5_whole 26 = .ok (.aload_n 0, 1) := by decide +kernel
theorem dX5_whole_27 : decode cX5_whole 27 = .ok (.getfield 12, 3) := by decide +kernel
theorem dX5_whole_30 : decode cX5_whole 30 = .ok (.getfield 55, 3) := by decide +kernel
theorem dX5_whole_33 : decode cX5_whole 33 = .ok (.iload_n 1, 1) := by decide +kernel
theorem dX5_whole_34 : decode cX5_whole 34 = .ok (.invokevirtual 234, 3) := by decide +kernel
theorem dX5_whole_37 : decode cX5_whole 37 = .ok (.ireturn, 1) := by decide +kernel
theorem dX5_whole_38 : decode cX5_whole 38 = .ok (.iload_n 1, 1) := by decide +kernel
theorem dX5_whole_39 : decode cX5_whole 39 = .ok (.bipush 15, 2) := by decide +kernel
theorem dX5_whole_41 : decode cX5_whole 41 = .ok (.if_icmp .ne 17, 3) := by decide +kernel
theorem dX5_whole_44 : decode cX5_whole 44 = .ok (.aload_n 0, 1) := by decide +kernel
theorem dX5_whole_45 : decode cX5_whole 45 = .ok (.getfield 12, 3) := by decide +kernel
theorem dX5_whole_48 : decode cX5_whole 48 = .ok (.getfield 55, 3) := by decide +kernel
theorem dX5_whole_51 : decode cX5_whole 51 = .ok (.getfield 165, 3) := by decide +kernel
theorem dX5_whole_54 : decode cX5_whole 54 = .ok (.invokestatic 168, 3) := by decide +kernel
theorem dX5_whole_57 : decode cX5_whole 57 = .ok (.ireturn, 1) := by decide +kernel
theorem dX5_whole_58 : decode cX5_whole 58 = .ok (.iload_n 1, 1) := by decide +kernel
theorem dX5_whole_59 : decode cX5_whole 59 = .ok (.bipush 16, 2) := by decide +kernel
theorem dX5_whole_61 : decode cX5_whole 61 = .ok (.if_icmp .ne 13, 3) := by decide +kernel
theorem dX5_whole_64 : decode cX5_whole 64 = .ok (.aload_n 0, 1) := by decide +kernel
theorem dX5_whole_65 : decode cX5_whole 65 = .ok (.getfield 37, 3) := by decide +kernel
theorem dX5_whole_68 : decode cX5_whole 68 = .ok (.getfield 237, 3) := by decide +kernel
theorem dX5_whole_71 : decode cX5_whole 71 = .ok (.goto 14, 3) := by decide +kernel
theorem dX5_whole_74 : decode cX5_whole 74 = .ok (.aload_n 0, 1) := by decide +kernel
theorem dX5_whole_75 : decode cX5_whole 75 = .ok (.getfield 12, 3) := by decide +kernel
theorem dX5_whole_78 : decode cX5_whole 78 = .ok (.getfield 130, 3) := by decide +kernel
theorem dX5_whole_81 : decode cX5_whole 81 = .ok (.iload_n 1, 1) := by decide +kernel
theorem dX5_whole_82 : decode cX5_whole 82 = .ok (.invokevirtual 240, 3) := by decide +kernel
theorem dX5_whole_85 : decode cX5_whole 85 = .ok (.ireturn, 1) := by decide +kernel
set_option maxRecDepth 20000 in
theorem ggX5_dieFault_X1_faultOfDie : GoodIn wsX5_dieFault wsX1_faultOfDie := goodIn_r _ [7, 8, 9, 10, 11, 6, 12, 13, 14, 15, 16, 17, 18, 19, 20, 21, 22, 23, 24, 25, 26, 27, 28, 29, 30, 31, 32, 33, 34, 35, 36, 37, 38, 39, 40, 41, 42, 43, 44, 45, 46, 47, 48, 49, 50, 51, 52, 53, 54, 55, 56, 57, 58, 59, 60, 61, 62, 63, 64, 74, 75, 76, 77, 78, 79, 80, 81, 82, 83] (by decide +kernel) (by decide +kernel)
set_option maxRecDepth 20000 in
theorem gX5_dieFault_X1_faultOfDie : GoodIn wsX5_dieFault (wsV RX5 241 RX1 yX1_faultOfDie wsX1_faultOfDie) := goodIn_app (goodIn_of _ (by decide +kernel)) ggX5_dieFault_X1_faultOfDie
theorem dX5_dieFault_0 : decode cX5_dieFault 0 = .ok (.aload_n 0, 1) := by decide +kernel
theorem dX5_dieFault_1 : decode cX5_dieFault 1 = .ok (.getfield 12, 3) := by decide +kernel
theorem dX5_dieFault_4 : decode cX5_dieFault 4 = .ok (.getfield 55, 3) := by decide +kernel
theorem dX5_dieFault_7 : decode cX5_dieFault 7 = .ok (.invokevirtual 241, 3) := by decide +kernel
theorem dX5_dieFault_10 : decode cX5_dieFault 10 = .ok (.ireturn, 1) := by decide +kernel
set_option maxRecDepth 20000 in
theorem ggX5_planFault_X1_faultOfPlan : GoodIn wsX5_planFault wsX1_faultOfPlan := goodIn_r _ [7, 8, 9, 10, 11, 6, 12, 13, 14, 15, 16, 17, 18, 19, 20, 21, 22, 23, 24, 25, 26, 27, 28, 29, 30, 31, 32, 33, 34, 35, 36, 37, 38, 39, 40, 41, 42, 43, 44, 45, 46, 47, 48, 49, 50, 51, 52, 53, 54, 55, 56, 57, 67, 68, 69, 70, 71, 72, 73, 74, 75, 76] (by decide +kernel) (by decide +kernel)
set_option maxRecDepth 20000 in
theorem gX5_planFault_X1_faultOfPlan : GoodIn wsX5_planFault (wsV RX5 244 RX1 yX1_faultOfPlan wsX1_faultOfPlan) := goodIn_app (goodIn_of _ (by decide +kernel)) ggX5_planFault_X1_faultOfPlan
theorem dX5_planFault_0 : decode cX5_planFault 0 = .ok (.aload_n 0, 1) := by decide +kernel
theorem dX5_planFault_1 : decode cX5_planFault 1 = .ok (.getfield 12, 3) := by decide +kernel
theorem dX5_planFault_4 : decode cX5_planFault 4 = .ok (.getfield 55, 3) := by decide +kernel
theorem dX5_planFault_7 : decode cX5_planFault 7 = .ok (.invokevirtual 244, 3) := by decide +kernel
theorem dX5_planFault_10 : decode cX5_planFault 10 = .ok (.ireturn, 1) := by decide +kernel
set_option maxRecDepth 20000 in
theorem ggX5_planned_X1_hasOperation : GoodIn wsX5_planned wsX1_hasOperation := goodIn_r _ [10, 11, 109, 110, 111, 112, 113, 114, 115, 116, 117, 118] (by decide +kernel) (by decide +kernel)
set_option maxRecDepth 20000 in
theorem gX5_planned_X1_hasOperation : GoodIn wsX5_planned (wsV RX5 117 RX1 yX1_hasOperation wsX1_hasOperation) := goodIn_app (goodIn_of _ (by decide +kernel)) ggX5_planned_X1_hasOperation
set_option maxRecDepth 20000 in
theorem ggX5_planned_X2_findBest : GoodIn wsX5_planned wsX2_findBest := goodIn_r _ [16, 17, 18, 19, 20, 21, 15, 22, 23, 24, 25, 26, 27, 28, 29, 30, 31, 32, 33, 34, 35, 36, 37, 38, 9, 39, 40, 41, 42, 43, 44, 11, 45, 46, 47, 48, 49, 50, 51, 52, 53, 54, 55, 56, 57, 58, 59, 60, 61, 62, 63, 64, 65, 66, 67, 68, 69, 70, 71, 72, 73, 74, 75, 76, 77, 78, 79, 80, 81, 82, 83, 84, 85, 86, 87, 88, 89, 90, 91, 92, 93, 94, 95, 96, 97, 98, 119, 120, 121, 122, 123, 124, 125, 126, 109, 110, 111, 112, 113, 114, 115, 116, 117, 118] (by decide +kernel) (by decide +kernel)
set_option maxRecDepth 20000 in
theorem gX5_planned_X2_findBest : GoodIn wsX5_planned (wsV RX5 149 RX2 yX2_findBest wsX2_findBest) := goodIn_app (goodIn_of _ (by decide +kernel)) ggX5_planned_X2_findBest
set_option maxRecDepth 20000 in
theorem ggX5_planned_X2_chosenFor : GoodIn wsX5_planned wsX2_chosenFor := goodIn_r _ [90, 74, 119, 120, 121, 122, 123, 124, 125, 126] (by decide +kernel) (by decide +kernel)
set_option maxRecDepth 20000 in
theorem gX5_planned_X2_chosenFor : GoodIn wsX5_planned (wsV RX5 247 RX2 yX2_chosenFor wsX2_chosenFor) := goodIn_app (goodIn_of _ (by decide +kernel)) ggX5_planned_X2_chosenFor
theorem dX5_planned_0 : decode cX5_planned 0 = .ok (.iload_n 1, 1) := by decide +kernel
theorem dX5_planned_1 : decode cX5_planned 1 = .ok (.iconst (-1), 1) := by decide +kernel
theorem dX5_planned_2 : decode cX5_planned 2 = .ok (.if_icmp .eq 27, 3) := by decide +kernel
theorem dX5_planned_5 : decode cX5_planned 5 = .ok (.aload_n 0, 1) := by decide +kernel
theorem dX5_planned_6 : decode cX5_planned 6 = .ok (.getfield 12, 3) := by decide +kernel
theorem dX5_planned_9 : decode cX5_planned 9 = .ok (.getfield 55, 3) := by decide +kernel
theorem dX5_planned_12 : decode cX5_planned 12 = .ok (.iload_n 1, 1) := by decide +kernel
theorem dX5_planned_13 : decode cX5_planned 13 = .ok (.invokevirtual 117, 3) := by decide +kernel
theorem dX5_planned_16 : decode cX5_planned 16 = .ok (.ifCond .ne 13, 3) := by decide +kernel
theorem dX5_planned_19 : decode cX5_planned 19 = .ok (.new 121, 3) := by decide +kernel
theorem dX5_planned_22 : decode cX5_planned 22 = .ok (.dup, 1) := by decide +kernel
theorem dX5_planned_23 : decode cX5_planned 23 = .ok (.ldc 123, 2) := by decide +kernel
theorem dX5_planned_25 : decode cX5_planned 25 = .ok (.invokespecial 125, 3) := by decide +kernel
theorem dX5_planned_28 : decode cX5_planned 28 = .ok (.athrow, 1) := by decide +kernel
theorem dX5_planned_29 : decode cX5_planned 29 = .ok (.aload_n 0, 1) := by decide +kernel
theorem dX5_planned_30 : decode cX5_planned 30 = .ok (.getfield 30, 3) := by decide +kernel
theorem dX5_planned_33 : decode cX5_planned 33 = .ok (.aload_n 0, 1) := by decide +kernel
theorem dX5_planned_34 : decode cX5_planned 34 = .ok (.getfield 12, 3) := by decide +kernel
theorem dX5_planned_37 : decode cX5_planned 37 = .ok (.getfield 55, 3) := by decide +kernel
theorem dX5_planned_40 : decode cX5_planned 40 = .ok (.invokevirtual 149, 3) := by decide +kernel
theorem dX5_planned_43 : decode cX5_planned 43 = .ok (.istore_n 2, 1) := by decide +kernel
theorem dX5_planned_44 : decode cX5_planned 44 = .ok (.iload_n 2, 1) := by decide +kernel
theorem dX5_planned_45 : decode cX5_planned 45 = .ok (.iconst (-1), 1) := by decide +kernel
theorem dX5_planned_46 : decode cX5_planned 46 = .ok (.if_icmp .eq 8, 3) := by decide +kernel
theorem dX5_planned_49 : decode cX5_planned 49 = .ok (.iload_n 1, 1) := by decide +kernel
theorem dX5_planned_50 : decode cX5_planned 50 = .ok (.iconst (-1), 1) := by decide +kernel
theorem dX5_planned_51 : decode cX5_planned 51 = .ok (.if_icmp .ne 5, 3) := by decide +kernel
theorem dX5_planned_54 : decode cX5_planned 54 = .ok (.iload_n 2, 1) := by decide +kernel
theorem dX5_planned_55 : decode cX5_planned 55 = .ok (.ireturn, 1) := by decide +kernel
theorem dX5_planned_56 : decode cX5_planned 56 = .ok (.aload_n 0, 1) := by decide +kernel
theorem dX5_planned_57 : decode cX5_planned 57 = .ok (.getfield 30, 3) := by decide +kernel
theorem dX5_planned_60 : decode cX5_planned 60 = .ok (.iload_n 1, 1) := by decide +kernel
theorem dX5_planned_61 : decode cX5_planned 61 = .ok (.invokevirtual 247, 3) := by decide +kernel
theorem dX5_planned_64 : decode cX5_planned 64 = .ok (.ireturn, 1) := by decide +kernel
set_option maxRecDepth 20000 in
theorem ggX5_leastLimit_X2_findLeastLimit : GoodIn wsX5_leastLimit wsX2_findLeastLimit := goodIn_r _ [8, 9, 10, 11, 12, 13, 14, 15, 16, 17, 7, 18, 19, 20, 21, 22, 23, 24, 25, 26, 27, 28, 29, 30, 31, 32, 33, 34, 35, 36, 37, 38, 39, 40, 41, 42, 43, 44, 45, 46, 47, 48, 49, 50, 51, 52, 53, 54, 55, 56, 57, 58, 59, 60, 61, 62, 63, 64, 65, 66, 67, 68, 69, 70, 71, 72, 73, 74, 75, 76, 77, 78, 79, 80, 81, 82, 83, 84, 85, 86, 87, 88, 89, 90, 91, 92, 102, 103, 104, 105, 106, 107, 108, 109, 110, 111, 112, 113, 114, 115, 116, 117, 118, 119] (by decide +kernel) (by decide +kernel)
set_option maxRecDepth 20000 in
theorem gX5_leastLimit_X2_findLeastLimit : GoodIn wsX5_leastLimit (wsV RX5 250 RX2 yX2_findLeastLimit wsX2_findLeastLimit) := goodIn_app (goodIn_of _ (by decide +kernel)) ggX5_leastLimit_X2_findLeastLimit
theorem dX5_leastLimit_0 : decode cX5_leastLimit 0 = .ok (.aload_n 0, 1) := by decide +kernel
theorem dX5_leastLimit_1 : decode cX5_leastLimit 1 = .ok (.getfield 30, 3) := by decide +kernel
theorem dX5_leastLimit_4 : decode cX5_leastLimit 4 = .ok (.aload_n 0, 1) := by decide +kernel
theorem dX5_leastLimit_5 : decode cX5_leastLimit 5 = .ok (.getfield 12, 3) := by decide +kernel
theorem dX5_leastLimit_8 : decode cX5_leastLimit 8 = .ok (.getfield 55, 3) := by decide +kernel
theorem dX5_leastLimit_11 : decode cX5_leastLimit 11 = .ok (.invokevirtual 250, 3) := by decide +kernel
theorem dX5_leastLimit_14 : decode cX5_leastLimit 14 = .ok (.ireturn, 1) := by decide +kernel
set_option maxRecDepth 20000 in
theorem ggX5_fitsTwice_X1_hasPlaceForSecond : GoodIn wsX5_fitsTwice wsX1_hasPlaceForSecond := goodIn_r _ [7, 8, 9, 10, 6, 11, 12, 13, 14, 15, 16, 17, 18, 19, 20, 21, 22, 23, 24, 25, 26, 27, 28, 29, 30, 31, 32, 33, 34, 35, 36, 46, 47, 48, 49, 50, 51, 52, 53, 54, 55] (by decide +kernel) (by decide +kernel)
set_option maxRecDepth 20000 in
theorem gX5_fitsTwice_X1_hasPlaceForSecond : GoodIn wsX5_fitsTwice (wsV RX5 253 RX1 yX1_hasPlaceForSecond wsX1_hasPlaceForSecond) := goodIn_app (goodIn_of _ (by decide +kernel)) ggX5_fitsTwice_X1_hasPlaceForSecond
theorem dX5_fitsTwice_0 : decode cX5_fitsTwice 0 = .ok (.aload_n 0, 1) := by decide +kernel
theorem dX5_fitsTwice_1 : decode cX5_fitsTwice 1 = .ok (.getfield 12, 3) := by decide +kernel
theorem dX5_fitsTwice_4 : decode cX5_fitsTwice 4 = .ok (.getfield 55, 3) := by decide +kernel
theorem dX5_fitsTwice_7 : decode cX5_fitsTwice 7 = .ok (.invokevirtual 253, 3) := by decide +kernel
theorem dX5_fitsTwice_10 : decode cX5_fitsTwice 10 = .ok (.ifCond .eq 7, 3) := by decide +kernel
theorem dX5_fitsTwice_13 : decode cX5_fitsTwice 13 = .ok (.iconst 1, 1) := by decide +kernel
theorem dX5_fitsTwice_14 : decode cX5_fitsTwice 14 = .ok (.goto 4, 3) := by decide +kernel
theorem dX5_fitsTwice_17 : decode cX5_fitsTwice 17 = .ok (.iconst 0, 1) := by decide +kernel
theorem dX5_fitsTwice_18 : decode cX5_fitsTwice 18 = .ok (.ireturn, 1) := by decide +kernel
set_option maxRecDepth 20000 in
theorem ggX5_scrap_X1_partCells : GoodIn wsX5_scrap wsX1_partCells := goodIn_r _ [9, 10, 11, 12, 13, 14, 8, 15, 16, 17, 18, 56, 57, 58, 59, 60, 61, 62, 63, 64, 65] (by decide +kernel) (by decide +kernel)
set_option maxRecDepth 20000 in
theorem gX5_scrap_X1_partCells : GoodIn wsX5_scrap (wsV RX5 183 RX1 yX1_partCells wsX1_partCells) := goodIn_app (goodIn_of _ (by decide +kernel)) ggX5_scrap_X1_partCells
set_option maxRecDepth 20000 in
theorem ggX5_scrap_J13_bitCount_95d88 : GoodIn wsX5_scrap wsJ13_bitCount_95d88 := goodIn_r _ [22, 23, 24, 25] (by decide +kernel) (by decide +kernel)
set_option maxRecDepth 20000 in
theorem gX5_scrap_J13_bitCount_95d88 : GoodIn wsX5_scrap (va_wsS RX5 262 yJ13_bitCount_95d88 wsJ13_bitCount_95d88) := goodIn_app (goodIn_of _ (by decide +kernel)) ggX5_scrap_J13_bitCount_95d88
set_option maxRecDepth 20000 in
theorem ggX5_scrap_X1_hasPlaceForSecond : GoodIn wsX5_scrap wsX1_hasPlaceForSecond := goodIn_r _ [29, 30, 6, 7, 8, 9, 10, 11, 12, 13, 14, 15, 16, 17, 18, 31, 32, 33, 34, 35, 36, 37, 38, 39, 40, 41, 42, 43, 44, 45, 46, 56, 57, 58, 59, 60, 61, 62, 63, 64, 65] (by decide +kernel) (by decide +kernel)
set_option maxRecDepth 20000 in
theorem gX5_scrap_X1_hasPlaceForSecond : GoodIn wsX5_scrap (wsV RX5 253 RX1 yX1_hasPlaceForSecond wsX1_hasPlaceForSecond) := goodIn_app (goodIn_of _ (by decide +kernel)) ggX5_scrap_X1_hasPlaceForSecond
theorem dX5_scrap_0 : decode cX5_scrap 0 = .ok (.aload_n 0, 1) := by decide +kernel
theorem dX5_scrap_1 : decode cX5_scrap 1 = .ok (.getfield 12, 3) := by decide +kernel
theorem dX5_scrap_4 : decode cX5_scrap 4 = .ok (.getfield 55, 3) := by decide +kernel
theorem dX5_scrap_7 : decode cX5_scrap 7 = .ok (.getfield 256, 3) := by decide +kernel
theorem dX5_scrap_10 : decode cX5_scrap 10 = .ok (.aload_n 0, 1) := by decide +kernel
theorem dX5_scrap_11 : decode cX5_scrap 11 = .ok (.getfield 12, 3) := by decide +kernel
theorem dX5_scrap_14 : decode cX5_scrap 14 = .ok (.getfield 55, 3) := by decide +kernel
theorem dX5_scrap_17 : decode cX5_scrap 17 = .ok (.getfield 259, 3) := by decide +kernel
theorem dX5_scrap_20 : decode cX5_scrap 20 = .ok (.imul, 1) := by decide +kernel
theorem dX5_scrap_21 : decode cX5_scrap 21 = .ok (.istore_n 2, 1) := by decide +kernel
theorem dX5_scrap_22 : decode cX5_scrap 22 = .ok (.iload_n 2, 1) := by decide +kernel
theorem dX5_scrap_23 : decode cX5_scrap 23 = .ok (.iconst 1, 1) := by decide +kernel
theorem dX5_scrap_24 : decode cX5_scrap 24 = .ok (.if_icmp .ge 5, 3) := by decide +kernel
theorem dX5_scrap_27 : decode cX5_scrap 27 = .ok (.iconst 0, 1) := by decide +kernel
theorem dX5_scrap_28 : decode cX5_scrap 28 = .ok (.ireturn, 1) := by decide +kernel
theorem dX5_scrap_29 : decode cX5_scrap 29 = .ok (.aload_n 0, 1) := by decide +kernel
theorem dX5_scrap_30 : decode cX5_scrap 30 = .ok (.getfield 12, 3) := by decide +kernel
theorem dX5_scrap_33 : decode cX5_scrap 33 = .ok (.getfield 55, 3) := by decide +kernel
theorem dX5_scrap_36 : decode cX5_scrap 36 = .ok (.invokevirtual 183, 3) := by decide +kernel
theorem dX5_scrap_39 : decode cX5_scrap 39 = .ok (.invokestatic 262, 3) := by decide +kernel
theorem dX5_scrap_42 : decode cX5_scrap 42 = .ok (.istore_n 3, 1) := by decide +kernel
theorem dX5_scrap_43 : decode cX5_scrap 43 = .ok (.iload_n 1, 1) := by decide +kernel
theorem dX5_scrap_44 : decode cX5_scrap 44 = .ok (.ifCond .eq 20, 3) := by decide +kernel
theorem dX5_scrap_47 : decode cX5_scrap 47 = .ok (.aload_n 0, 1) := by decide +kernel
theorem dX5_scrap_48 : decode cX5_scrap 48 = .ok (.getfield 12, 3) := by decide +kernel
theorem dX5_scrap_51 : decode cX5_scrap 51 = .ok (.getfield 55, 3) := by decide +kernel
theorem dX5_scrap_54 : decode cX5_scrap 54 = .ok (.invokevirtual 253, 3) := by decide +kernel
theorem dX5_scrap_57 : decode cX5_scrap 57 = .ok (.ifCond .eq 7, 3) := by decide +kernel
theorem dX5_scrap_60 : decode cX5_scrap 60 = .ok (.iconst 2, 1) := by decide +kernel
theorem dX5_scrap_61 : decode cX5_scrap 61 = .ok (.iload_n 3, 1) := by decide +kernel
theorem dX5_scrap_62 : decode cX5_scrap 62 = .ok (.imul, 1) := by decide +kernel
theorem dX5_scrap_63 : decode cX5_scrap 63 = .ok (.istore_n 3, 1) := by decide +kernel
theorem dX5_scrap_64 : decode cX5_scrap 64 = .ok (.sipush 1000, 3) := by decide +kernel
theorem dX5_scrap_67 : decode cX5_scrap 67 = .ok (.iload_n 2, 1) := by decide +kernel
theorem dX5_scrap_68 : decode cX5_scrap 68 = .ok (.iload_n 3, 1) := by decide +kernel
theorem dX5_scrap_69 : decode cX5_scrap 69 = .ok (.isub, 1) := by decide +kernel
theorem dX5_scrap_70 : decode cX5_scrap 70 = .ok (.imul, 1) := by decide +kernel
theorem dX5_scrap_71 : decode cX5_scrap 71 = .ok (.iload_n 2, 1) := by decide +kernel
theorem dX5_scrap_72 : decode cX5_scrap 72 = .ok (.idiv, 1) := by decide +kernel
theorem dX5_scrap_73 : decode cX5_scrap 73 = .ok (.ireturn, 1) := by decide +kernel
set_option maxRecDepth 20000 in
theorem ggX5_strokesToGood_X3_copyFrom : GoodIn wsX5_strokesToGood wsX3_copyFrom := goodIn_r _ [10, 11, 12, 13, 14, 15, 16, 17, 18, 19, 20, 21, 22, 23, 24, 147, 148, 149, 150, 151, 152, 153, 154, 155] (by decide +kernel) (by decide +kernel)
set_option maxRecDepth 20000 in
theorem gX5_strokesToGood_X3_copyFrom : GoodIn wsX5_strokesToGood (wsV RX5 267 RX3 yX3_copyFrom wsX3_copyFrom) := goodIn_app (goodIn_of _ (by decide +kernel)) ggX5_strokesToGood_X3_copyFrom
set_option maxRecDepth 20000 in
theorem ggX5_strokesToGood_X3_feed : GoodIn wsX5_strokesToGood wsX3_feed := goodIn_r _ [28, 17, 18, 16, 29, 30, 31, 9, 32, 11, 12, 33, 34, 35, 36, 13, 37, 38, 39, 40, 14, 41, 42, 43, 44, 15, 45, 46, 47, 48, 49, 50, 51, 52, 53, 54, 55, 56, 57, 58, 59, 60, 61, 62, 63, 64, 65, 66, 67, 68, 69, 70, 71, 72, 73, 74, 75, 76, 77, 78, 79, 80, 81, 82, 83, 84, 85, 86, 87, 88, 89, 90, 91, 92, 93, 94, 95, 96, 97, 98, 99, 100, 21, 101, 102, 103, 104, 105, 106, 107, 108, 109, 110, 111, 112, 113, 114, 115, 116, 117, 118, 119, 120, 121, 122, 123, 124, 19, 125, 126, 127, 128, 129, 130, 131, 132, 133, 134, 135, 136, 137, 147, 148, 149, 150, 151, 152, 153, 154, 155, 156, 157, 158, 159, 160, 161, 162, 163, 164, 165] (by decide +kernel) (by decide +kernel)
set_option maxRecDepth 20000 in
theorem gX5_strokesToGood_X3_feed : GoodIn wsX5_strokesToGood (wsV RX5 173 RX3 yX3_feed wsX3_feed) := goodIn_app (goodIn_of _ (by decide +kernel)) ggX5_strokesToGood_X3_feed
theorem dX5_strokesToGood_0 : decode cX5_strokesToGood 0 = .ok (.aload_n 0, 1) := by decide +kernel
theorem dX5_strokesToGood_1 : decode cX5_strokesToGood 1 = .ok (.getfield 23, 3) := by decide +kernel
theorem dX5_strokesToGood_4 : decode cX5_strokesToGood 4 = .ok (.aload_n 0, 1) := by decide +kernel
theorem dX5_strokesToGood_5 : decode cX5_strokesToGood 5 = .ok (.getfield 12, 3) := by decide +kernel
theorem dX5_strokesToGood_8 : decode cX5_strokesToGood 8 = .ok (.getfield 130, 3) := by decide +kernel
theorem dX5_strokesToGood_11 : decode cX5_strokesToGood 11 = .ok (.invokevirtual 267, 3) := by decide +kernel
theorem dX5_strokesToGood_14 : decode cX5_strokesToGood 14 = .ok (.iconst 1, 1) := by decide +kernel
theorem dX5_strokesToGood_15 : decode cX5_strokesToGood 15 = .ok (.istore_n 1, 1) := by decide +kernel
theorem dX5_strokesToGood_16 : decode cX5_strokesToGood 16 = .ok (.iload_n 1, 1) := by decide +kernel
theorem dX5_strokesToGood_17 : decode cX5_strokesToGood 17 = .ok (.bipush 60, 2) := by decide +kernel
theorem dX5_strokesToGood_19 : decode cX5_strokesToGood 19 = .ok (.if_icmp .gt 45, 3) := by decide +kernel
theorem dX5_strokesToGood_22 : decode cX5_strokesToGood 22 = .ok (.aload_n 0, 1) := by decide +kernel
theorem dX5_strokesToGood_23 : decode cX5_strokesToGood 23 = .ok (.getfield 23, 3) := by decide +kernel
theorem dX5_strokesToGood_26 : decode cX5_strokesToGood 26 = .ok (.getfield 271, 3) := by decide +kernel
theorem dX5_strokesToGood_29 : decode cX5_strokesToGood 29 = .ok (.istore_n 2, 1) := by decide +kernel
theorem dX5_strokesToGood_30 : decode cX5_strokesToGood 30 = .ok (.aload_n 0, 1) := by decide +kernel
theorem dX5_strokesToGood_31 : decode cX5_strokesToGood 31 = .ok (.getfield 23, 3) := by decide +kernel
theorem dX5_strokesToGood_34 : decode cX5_strokesToGood 34 = .ok (.aload_n 0, 1) := by decide +kernel
theorem dX5_strokesToGood_35 : decode cX5_strokesToGood 35 = .ok (.getfield 12, 3) := by decide +kernel
theorem dX5_strokesToGood_38 : decode cX5_strokesToGood 38 = .ok (.getfield 55, 3) := by decide +kernel
theorem dX5_strokesToGood_41 : decode cX5_strokesToGood 41 = .ok (.invokevirtual 173, 3) := by decide +kernel
theorem dX5_strokesToGood_44 : decode cX5_strokesToGood 44 = .ok (.pop, 1) := by decide +kernel
theorem dX5_strokesToGood_45 : decode cX5_strokesToGood 45 = .ok (.aload_n 0, 1) := by decide +kernel
theorem dX5_strokesToGood_46 : decode cX5_strokesToGood 46 = .ok (.getfield 23, 3) := by decide +kernel
theorem dX5_strokesToGood_49 : decode cX5_strokesToGood 49 = .ok (.getfield 271, 3) := by decide +kernel
theorem dX5_strokesToGood_52 : decode cX5_strokesToGood 52 = .ok (.iload_n 2, 1) := by decide +kernel
theorem dX5_strokesToGood_53 : decode cX5_strokesToGood 53 = .ok (.if_icmp .le 5, 3) := by decide +kernel
theorem dX5_strokesToGood_56 : decode cX5_strokesToGood 56 = .ok (.iload_n 1, 1) := by decide +kernel
theorem dX5_strokesToGood_57 : decode cX5_strokesToGood 57 = .ok (.ireturn, 1) := by decide +kernel
theorem dX5_strokesToGood_58 : decode cX5_strokesToGood 58 = .ok (.iinc 1 1, 3) := by decide +kernel
theorem dX5_strokesToGood_61 : decode cX5_strokesToGood 61 = .ok (.goto (-45), 3) := by decide +kernel
theorem dX5_strokesToGood_64 : decode cX5_strokesToGood 64 = .ok (.iconst (-1), 1) := by decide +kernel
theorem dX5_strokesToGood_65 : decode cX5_strokesToGood 65 = .ok (.ireturn, 1) := by decide +kernel
set_option maxRecDepth 20000 in
theorem ggX5_type_X0_append : GoodIn wsX5_type wsX0_append := goodIn_r _ [11, 12, 13, 21, 22, 23, 24, 25] (by decide +kernel) (by decide +kernel)
set_option maxRecDepth 20000 in
theorem gX5_type_X0_append : GoodIn wsX5_type (wsV RX5 278 RX0 yX0_append wsX0_append) := goodIn_app (goodIn_of _ (by decide +kernel)) ggX5_type_X0_append
theorem dX5_type_0 : decode cX5_type 0 = .ok (.iload_n 1, 1) := by decide +kernel
theorem dX5_type_1 : decode cX5_type 1 = .ok (.ifCond .lt 9, 3) := by decide +kernel
theorem dX5_type_4 : decode cX5_type 4 = .ok (.iload_n 1, 1) := by decide +kernel
theorem dX5_type_5 : decode cX5_type 5 = .ok (.bipush 127, 2) := by decide +kernel
theorem dX5_type_7 : decode cX5_type 7 = .ok (.if_icmp .le 14, 3) := by decide +kernel
theorem dX5_type_10 : decode cX5_type 10 = .ok (.new 45, 3) := by decide +kernel
theorem dX5_type_13 : decode cX5_type 13 = .ok (.dup, 1) := by decide +kernel
theorem dX5_type_14 : decode cX5_type 14 = .ok (.ldc_w 274, 3) := by decide +kernel
theorem dX5_type_17 : decode cX5_type 17 = .ok (.invokespecial 49, 3) := by decide +kernel
theorem dX5_type_20 : decode cX5_type 20 = .ok (.athrow, 1) := by decide +kernel
theorem dX5_type_21 : decode cX5_type 21 = .ok (.aload_n 0, 1) := by decide +kernel
theorem dX5_type_22 : decode cX5_type 22 = .ok (.getfield 37, 3) := by decide +kernel
theorem dX5_type_25 : decode cX5_type 25 = .ok (.getfield 237, 3) := by decide +kernel
theorem dX5_type_28 : decode cX5_type 28 = .ok (.sipush 150, 3) := by decide +kernel
theorem dX5_type_31 : decode cX5_type 31 = .ok (.if_icmp .lt 14, 3) := by decide +kernel
theorem dX5_type_34 : decode cX5_type 34 = .ok (.new 106, 3) := by decide +kernel
theorem dX5_type_37 : decode cX5_type 37 = .ok (.dup, 1) := by decide +kernel
theorem dX5_type_38 : decode cX5_type 38 = .ok (.ldc_w 276, 3) := by decide +kernel
theorem dX5_type_41 : decode cX5_type 41 = .ok (.invokespecial 110, 3) := by decide +kernel
theorem dX5_type_44 : decode cX5_type 44 = .ok (.athrow, 1) := by decide +kernel
theorem dX5_type_45 : decode cX5_type 45 = .ok (.aload_n 0, 1) := by decide +kernel
theorem dX5_type_46 : decode cX5_type 46 = .ok (.getfield 37, 3) := by decide +kernel
theorem dX5_type_49 : decode cX5_type 49 = .ok (.iload_n 1, 1) := by decide +kernel
theorem dX5_type_50 : decode cX5_type 50 = .ok (.invokevirtual 278, 3) := by decide +kernel
theorem dX5_type_53 : decode cX5_type 53 = .ok (.aload_n 0, 1) := by decide +kernel
theorem dX5_type_54 : decode cX5_type 54 = .ok (.getfield 37, 3) := by decide +kernel
theorem dX5_type_57 : decode cX5_type 57 = .ok (.getfield 237, 3) := by decide +kernel
theorem dX5_type_60 : decode cX5_type 60 = .ok (.ireturn, 1) := by decide +kernel
theorem dX5_clearCommands_0 : decode cX5_clearCommands 0 = .ok (.aload_n 0, 1) := by decide +kernel
theorem dX5_clearCommands_1 : decode cX5_clearCommands 1 = .ok (.getfield 37, 3) := by decide +kernel
theorem dX5_clearCommands_4 : decode cX5_clearCommands 4 = .ok (.getfield 237, 3) := by decide +kernel
theorem dX5_clearCommands_7 : decode cX5_clearCommands 7 = .ok (.istore_n 1, 1) := by decide +kernel
theorem dX5_clearCommands_8 : decode cX5_clearCommands 8 = .ok (.aload_n 0, 1) := by decide +kernel
theorem dX5_clearCommands_9 : decode cX5_clearCommands 9 = .ok (.getfield 37, 3) := by decide +kernel
theorem dX5_clearCommands_12 : decode cX5_clearCommands 12 = .ok (.iconst 0, 1) := by decide +kernel
theorem dX5_clearCommands_13 : decode cX5_clearCommands 13 = .ok (.putfield 237, 3) := by decide +kernel
theorem dX5_clearCommands_16 : decode cX5_clearCommands 16 = .ok (.iload_n 1, 1) := by decide +kernel
theorem dX5_clearCommands_17 : decode cX5_clearCommands 17 = .ok (.ireturn, 1) := by decide +kernel
set_option maxRecDepth 20000 in
theorem ggX5_runCommands_X0_findFault : GoodIn wsX5_runCommands wsX0_findFault := goodIn_r _ [7, 8, 9, 10, 11, 6, 12, 13, 14, 15, 16, 17, 18, 19, 20, 21, 22, 23, 24, 25, 26, 27, 28, 29, 30, 31, 32, 33, 34, 35, 36, 37, 38, 39, 40, 41, 42, 43, 44, 45, 46, 47, 48, 49, 50, 51, 52, 53, 54, 55, 56, 57, 58, 59, 60, 61, 62, 63, 64, 65, 66, 67, 68, 69, 70, 71, 72, 73, 74, 75, 76, 77, 78, 79, 80, 81, 82, 83, 84, 85, 86, 87, 88, 89, 90, 91, 92, 93, 94, 95, 96, 97, 98, 99, 100, 101, 437, 438, 439, 440, 441] (by decide +kernel) (by decide +kernel)
set_option maxRecDepth 20000 in
theorem gX5_runCommands_X0_findFault : GoodIn wsX5_runCommands (wsV RX5 280 RX0 yX0_findFault wsX0_findFault) := goodIn_app (goodIn_of _ (by decide +kernel)) ggX5_runCommands_X0_findFault
set_option maxRecDepth 20000 in
theorem ggX5_runCommands_X5_save : GoodIn wsX5_runCommands wsX5_save := goodIn_r _ [106, 107, 108, 109, 110, 111, 112, 105, 113, 114, 115, 116, 117, 118, 119, 120, 121, 122, 123, 124, 125, 126, 127, 128, 129, 130, 131, 132, 133, 134, 135, 136, 137, 138, 139, 140, 141, 142, 143, 144, 145, 146, 147, 148, 149, 150, 151, 152, 153, 154, 430, 431, 432, 433, 434, 435, 436, 442, 443, 444, 445, 446, 447, 448, 449, 450, 451, 452, 453, 454, 455, 456, 457, 458, 459, 460, 461, 462] (by decide +kernel) (by decide +kernel)
set_option maxRecDepth 20000 in
theorem gX5_runCommands_X5_save : GoodIn wsX5_runCommands (wsV RX5 52 RX5 yX5_save wsX5_save) := goodIn_app (goodIn_of _ (by decide +kernel)) ggX5_runCommands_X5_save
set_option maxRecDepth 20000 in
theorem ggX5_runCommands_X0_isAtEnd : GoodIn wsX5_runCommands wsX0_isAtEnd := goodIn_r _ [12, 8, 13, 14, 15, 16, 6, 17, 18, 19, 20, 21, 22, 437, 438, 439, 440, 441] (by decide +kernel) (by decide +kernel)
set_option maxRecDepth 20000 in
theorem gX5_runCommands_X0_isAtEnd : GoodIn wsX5_runCommands (wsV RX5 286 RX0 yX0_isAtEnd wsX0_isAtEnd) := goodIn_app (goodIn_of _ (by decide +kernel)) ggX5_runCommands_X0_isAtEnd
set_option maxRecDepth 20000 in
theorem ggX5_runCommands_X0_readCommand : GoodIn wsX5_runCommands wsX0_readCommand := goodIn_r _ [26, 8, 27, 18, 19, 20, 6, 21, 13, 22, 28, 29, 30, 31, 32, 33, 34, 35, 36, 37, 38, 39, 40, 41, 42, 43, 44, 45, 46, 47, 48, 49, 50, 51, 52, 53, 54, 55, 56, 57, 58, 59, 60, 61, 62, 63, 64, 65, 66, 67, 68, 69, 70, 71, 72, 73, 74, 75, 76, 77, 78, 79, 80, 81, 82, 83, 84, 85, 86, 87, 88, 89, 90, 91, 92, 93, 94, 95, 96, 97, 98, 14, 15, 16, 17, 99, 100, 101, 437, 438, 439, 440, 441] (by decide +kernel) (by decide +kernel)
set_option maxRecDepth 20000 in
theorem gX5_runCommands_X0_readCommand : GoodIn wsX5_runCommands (wsV RX5 289 RX0 yX0_readCommand wsX0_readCommand) := goodIn_app (goodIn_of _ (by decide +kernel)) ggX5_runCommands_X0_readCommand
set_option maxRecDepth 20000 in
theorem ggX5_runCommands_X5_carryOut : GoodIn wsX5_runCommands wsX5_carryOut := goodIn_r _ [160, 1, 161, 162, 109, 163, 164, 165, 166, 6, 167, 98, 168, 169, 170, 105, 171, 172, 173, 174, 175, 176, 177, 178, 179, 180, 181, 182, 125, 183, 127, 128, 130, 131, 132, 133, 184, 185, 186, 144, 187, 151, 152, 153, 154, 188, 189, 190, 191, 146, 147, 192, 193, 194, 195, 196, 197, 198, 199, 200, 201, 202, 203, 204, 205, 206, 207, 208, 209, 210, 211, 212, 213, 214, 215, 216, 217, 218, 219, 220, 221, 222, 223, 224, 225, 226, 227, 228, 229, 230, 231, 232, 233, 234, 235, 236, 237, 238, 135, 239, 240, 241, 242, 243, 136, 244, 245, 246, 247, 248, 249, 250, 251, 252, 253, 254, 255, 256, 257, 258, 259, 260, 261, 262, 263, 264, 265, 266, 267, 268, 269, 270, 271, 272, 273, 274, 275, 276, 277, 278, 279, 280, 281, 282, 283, 134, 284, 285, 286, 287, 288, 289, 290, 291, 292, 293, 294, 295, 296, 297, 298, 299, 300, 301, 302, 303, 304, 305, 306, 307, 308, 309, 310, 311, 312, 313, 314, 315, 316, 317, 318, 319, 320, 321, 322, 323, 324, 325, 326, 327, 328, 329, 330, 331, 332, 333, 334, 335, 336, 337, 338, 339, 340, 341, 342, 343, 344, 345, 346, 347, 348, 349, 350, 351, 352, 353, 354, 355, 356, 357, 358, 359, 360, 361, 362, 363, 364, 148, 365, 366, 367, 368, 149, 369, 370, 371, 372, 150, 373, 374, 375, 376, 377, 378, 379, 380, 381, 382, 383, 384, 385, 386, 387, 388, 389, 390, 129, 391, 392, 393, 394, 395, 396, 397, 398, 399, 400, 401, 402, 403, 404, 405, 406, 407, 408, 409, 410, 411, 412, 413, 414, 415, 416, 417, 418, 419, 420, 421, 422, 423, 424, 425, 426, 427, 428, 429, 430, 431, 432, 433, 434, 435, 436, 437, 438, 439, 440, 441, 442, 443, 444, 445, 446, 447, 448, 449, 450, 451, 452, 453, 454, 455, 456, 457, 458, 459, 460, 461, 462, 463, 464, 465, 466, 467, 468, 469, 470] (by decide +kernel) (by decide +kernel)
set_option maxRecDepth 20000 in
theorem gX5_runCommands_X5_carryOut : GoodIn wsX5_runCommands (wsV RX5 292 RX5 yX5_carryOut wsX5_carryOut) := goodIn_app (goodIn_of _ (by decide +kernel)) ggX5_runCommands_X5_carryOut
theorem dX5_runCommands_0 : decode cX5_runCommands 0 = .ok (.aload_n 0, 1) := by decide +kernel
theorem dX5_runCommands_1 : decode cX5_runCommands 1 = .ok (.getfield 37, 3) := by decide +kernel
theorem dX5_runCommands_4 : decode cX5_runCommands 4 = .ok (.invokevirtual 280, 3) := by decide +kernel
theorem dX5_runCommands_7 : decode cX5_runCommands 7 = .ok (.istore_n 1, 1) := by decide +kernel
theorem dX5_runCommands_8 : decode cX5_runCommands 8 = .ok (.iload_n 1, 1) := by decide +kernel
theorem dX5_runCommands_9 : decode cX5_runCommands 9 = .ok (.iconst (-1), 1) := by decide +kernel
theorem dX5_runCommands_10 : decode cX5_runCommands 10 = .ok (.if_icmp .eq 8, 3) := by decide +kernel
theorem dX5_runCommands_13 : decode cX5_runCommands 13 = .ok (.bipush (-10), 2) := by decide +kernel
theorem dX5_runCommands_15 : decode cX5_runCommands 15 = .ok (.iload_n 1, 1) := by decide +kernel
theorem dX5_runCommands_16 : decode cX5_runCommands 16 = .ok (.isub, 1) := by decide +kernel
theorem dX5_runCommands_17 : decode cX5_runCommands 17 = .ok (.ireturn, 1) := by decide +kernel
theorem dX5_runCommands_18 : decode cX5_runCommands 18 = .ok (.aload_n 0, 1) := by decide +kernel
theorem dX5_runCommands_19 : decode cX5_runCommands 19 = .ok (.invokevirtual 52, 3) := by decide +kernel
theorem dX5_runCommands_22 : decode cX5_runCommands 22 = .ok (.aload_n 0, 1) := by decide +kernel
theorem dX5_runCommands_23 : decode cX5_runCommands 23 = .ok (.getfield 37, 3) := by decide +kernel
theorem dX5_runCommands_26 : decode cX5_runCommands 26 = .ok (.iconst 0, 1) := by decide +kernel
theorem dX5_runCommands_27 : decode cX5_runCommands 27 = .ok (.putfield 283, 3) := by decide +kernel
theorem dX5_runCommands_30 : decode cX5_runCommands 30 = .ok (.iconst 0, 1) := by decide +kernel
theorem dX5_runCommands_31 : decode cX5_runCommands 31 = .ok (.istore_n 2, 1) := by decide +kernel
theorem dX5_runCommands_32 : decode cX5_runCommands 32 = .ok (.iload_n 2, 1) := by decide +kernel
theorem dX5_runCommands_33 : decode cX5_runCommands 33 = .ok (.sipush 150, 3) := by decide +kernel
theorem dX5_runCommands_36 : decode cX5_runCommands 36 = .ok (.if_icmp .ge 39, 3) := by decide +kernel
theorem dX5_runCommands_39 : decode cX5_runCommands 39 = .ok (.aload_n 0, 1) := by decide +kernel
theorem dX5_runCommands_40 : decode cX5_runCommands 40 = .ok (.getfield 37, 3) := by decide +kernel
theorem dX5_runCommands_43 : decode cX5_runCommands 43 = .ok (.invokevirtual 286, 3) := by decide +kernel
theorem dX5_runCommands_46 : decode cX5_runCommands 46 = .ok (.ifCond .ne 21, 3) := by decide +kernel
theorem dX5_runCommands_49 : decode cX5_runCommands 49 = .ok (.aload_n 0, 1) := by decide +kernel
theorem dX5_runCommands_50 : decode cX5_runCommands 50 = .ok (.getfield 37, 3) := by decide +kernel
theorem dX5_runCommands_53 : decode cX5_runCommands 53 = .ok (.invokevirtual 289, 3) := by decide +kernel
theorem dX5_runCommands_56 : decode cX5_runCommands 56 = .ok (.iconst (-1), 1) := by decide +kernel
theorem dX5_runCommands_57 : decode cX5_runCommands 57 = .ok (.if_icmp .ne 10, 3) := by decide +kernel
theorem dX5_runCommands_60 : decode cX5_runCommands 60 = .ok (.aload_n 0, 1) := by decide +kernel
theorem dX5_runCommands_61 : decode cX5_runCommands 61 = .ok (.invokevirtual 292, 3) := by decide +kernel
theorem dX5_runCommands_64 : decode cX5_runCommands 64 = .ok (.ifCond .ne 5, 3) := by decide +kernel
theorem dX5_runCommands_67 : decode cX5_runCommands 67 = .ok (.iload_n 2, 1) := by decide +kernel
theorem dX5_runCommands_68 : decode cX5_runCommands 68 = .ok (.ireturn, 1) := by decide +kernel
theorem dX5_runCommands_69 : decode cX5_runCommands 69 = .ok (.iinc 2 1, 3) := by decide +kernel
theorem dX5_runCommands_72 : decode cX5_runCommands 72 = .ok (.goto (-40), 3) := by decide +kernel
theorem dX5_runCommands_75 : decode cX5_runCommands 75 = .ok (.sipush 150, 3) := by decide +kernel
theorem dX5_runCommands_78 : decode cX5_runCommands 78 = .ok (.ireturn, 1) := by decide +kernel
set_option maxRecDepth 20000 in
theorem ggX5_undo_X5_savedState : GoodIn wsX5_undo wsX5_savedState := goodIn_r _ [9, 10, 11, 52, 53, 54, 55, 56, 57, 58] (by decide +kernel) (by decide +kernel)
set_option maxRecDepth 20000 in
theorem gX5_undo_X5_savedState : GoodIn wsX5_undo (wsV RX5 300 RX5 yX5_savedState wsX5_savedState) := goodIn_app (goodIn_of _ (by decide +kernel)) ggX5_undo_X5_savedState
set_option maxRecDepth 20000 in
theorem ggX5_undo_X4_copyFrom : GoodIn wsX5_undo wsX4_copyFrom := goodIn_r _ [16, 17, 18, 19, 20, 21, 22, 23, 24, 25, 26, 27, 28, 29, 30, 31, 32, 33, 34, 8, 35, 36, 37, 38, 39, 40, 41, 42, 43, 44, 45, 46, 47, 48, 49, 50, 51, 59, 60, 61, 62, 63, 64, 65, 66, 67, 68, 69, 70, 71, 72, 73, 74, 75, 76, 77, 78, 79] (by decide +kernel) (by decide +kernel)
set_option maxRecDepth 20000 in
theorem gX5_undo_X4_copyFrom : GoodIn wsX5_undo (wsV RX5 304 RX4 yX4_copyFrom wsX4_copyFrom) := goodIn_app (goodIn_of _ (by decide +kernel)) ggX5_undo_X4_copyFrom
theorem dX5_undo_0 : decode cX5_undo 0 = .ok (.aload_n 0, 1) := by decide +kernel
theorem dX5_undo_1 : decode cX5_undo 1 = .ok (.getfield 295, 3) := by decide +kernel
theorem dX5_undo_4 : decode cX5_undo 4 = .ok (.iconst 1, 1) := by decide +kernel
theorem dX5_undo_5 : decode cX5_undo 5 = .ok (.if_icmp .ge 14, 3) := by decide +kernel
theorem dX5_undo_8 : decode cX5_undo 8 = .ok (.new 106, 3) := by decide +kernel
theorem dX5_undo_11 : decode cX5_undo 11 = .ok (.dup, 1) := by decide +kernel
theorem dX5_undo_12 : decode cX5_undo 12 = .ok (.ldc_w 298, 3) := by decide +kernel
theorem dX5_undo_15 : decode cX5_undo 15 = .ok (.invokespecial 110, 3) := by decide +kernel
theorem dX5_undo_18 : decode cX5_undo 18 = .ok (.athrow, 1) := by decide +kernel
theorem dX5_undo_19 : decode cX5_undo 19 = .ok (.aload_n 0, 1) := by decide +kernel
theorem dX5_undo_20 : decode cX5_undo 20 = .ok (.dup, 1) := by decide +kernel
theorem dX5_undo_21 : decode cX5_undo 21 = .ok (.getfield 295, 3) := by decide +kernel
theorem dX5_undo_24 : decode cX5_undo 24 = .ok (.iconst 1, 1) := by decide +kernel
theorem dX5_undo_25 : decode cX5_undo 25 = .ok (.isub, 1) := by decide +kernel
theorem dX5_undo_26 : decode cX5_undo 26 = .ok (.putfield 295, 3) := by decide +kernel
theorem dX5_undo_29 : decode cX5_undo 29 = .ok (.aload_n 0, 1) := by decide +kernel
theorem dX5_undo_30 : decode cX5_undo 30 = .ok (.aload_n 0, 1) := by decide +kernel
theorem dX5_undo_31 : decode cX5_undo 31 = .ok (.getfield 295, 3) := by decide +kernel
theorem dX5_undo_34 : decode cX5_undo 34 = .ok (.invokevirtual 300, 3) := by decide +kernel
theorem dX5_undo_37 : decode cX5_undo 37 = .ok (.astore_n 1, 1) := by decide +kernel
theorem dX5_undo_38 : decode cX5_undo 38 = .ok (.aload_n 1, 1) := by decide +kernel
theorem dX5_undo_39 : decode cX5_undo 39 = .ok (.ifnull 11, 3) := by decide +kernel
theorem dX5_undo_42 : decode cX5_undo 42 = .ok (.aload_n 0, 1) := by decide +kernel
theorem dX5_undo_43 : decode cX5_undo 43 = .ok (.getfield 12, 3) := by decide +kernel
theorem dX5_undo_46 : decode cX5_undo 46 = .ok (.aload_n 1, 1) := by decide +kernel
theorem dX5_undo_47 : decode cX5_undo 47 = .ok (.invokevirtual 304, 3) := by decide +kernel
theorem dX5_undo_50 : decode cX5_undo 50 = .ok (.aload_n 0, 1) := by decide +kernel
theorem dX5_undo_51 : decode cX5_undo 51 = .ok (.getfield 295, 3) := by decide +kernel
theorem dX5_undo_54 : decode cX5_undo 54 = .ok (.ireturn, 1) := by decide +kernel
set_option maxRecDepth 20000 in
theorem ggX5_digest_X5_whole : GoodIn wsX5_digest wsX5_whole := goodIn_ca (goodIn_r _ [11, 12, 13, 4, 5, 14, 15, 16, 17, 18, 19, 20, 21, 22, 23, 24, 25, 26, 27, 28, 29, 30, 31, 32, 33, 34, 35, 36, 37, 38, 39, 40, 41, 42, 43, 44, 45, 46, 47, 48, 49, 50, 51, 52, 53, 54, 55, 56, 57, 58, 59, 60, 61, 62, 300, 301, 302, 303, 304, 305, 306, 307, 308, 309, 310, 311, 312, 313, 314, 315, 316, 317, 318, 319, 320, 321, 322, 323, 324, 325, 326, 327, 328, 329, 330, 331, 332] (by decide +kernel) (by decide +kernel)) (goodIn_sub (fun _ h => List.mem_cons_of_mem _ (List.mem_append_left _ (List.mem_append_right _ h))) (by decide +kernel))
set_option maxRecDepth 20000 in
theorem gX5_digest_X5_whole : GoodIn wsX5_digest (wsV RX5 311 RX5 yX5_whole wsX5_whole) := goodIn_app (goodIn_of _ (by decide +kernel)) ggX5_digest_X5_whole
set_option maxRecDepth 20000 in
theorem ggX5_digest_X5_cellSet : GoodIn wsX5_digest wsX5_cellSet := goodIn_ca (goodIn_r _ [66, 12, 13, 4, 5, 67, 68, 69, 21, 70, 71, 72, 73, 74, 75, 76, 23, 24, 25, 77, 78, 79, 80, 81, 82, 83, 84, 85, 86, 26, 35, 36, 37, 38, 39, 87, 88, 89, 90, 91, 92, 93, 94, 95, 96, 97, 98, 99, 100, 101, 102, 103, 104, 105, 106, 107, 108, 109, 110, 111, 112, 113, 114, 115, 116, 117, 300, 301, 302, 303, 304, 305, 306, 307, 308, 309, 310, 311, 312, 313, 314, 315, 316, 317, 318] (by decide +kernel) (by decide +kernel)) (goodIn_sub (fun _ h => List.mem_cons_of_mem _ (List.mem_append_left _ (List.mem_append_right _ h))) (by decide +kernel))
set_option maxRecDepth 20000 in
theorem gX5_digest_X5_cellSet : GoodIn wsX5_digest (wsV RX5 314 RX5 yX5_cellSet wsX5_cellSet) := goodIn_app (goodIn_of _ (by decide +kernel)) ggX5_digest_X5_cellSet
set_option maxRecDepth 20000 in
theorem ggX5_digest_X5_operation : GoodIn wsX5_digest wsX5_operation := goodIn_ca (goodIn_ca (goodIn_r _ [121, 122, 123, 12, 13, 4, 5, 124, 125, 126, 21, 127, 26, 128, 129, 130, 131, 87, 88, 89, 90, 91, 109, 110, 111, 112, 24, 23, 72, 113, 114, 115, 116, 100, 101, 102, 103, 132, 36, 37, 38, 39, 300, 301, 302, 303, 304, 305, 306, 307, 308, 309, 310, 311, 312, 313, 314, 315, 316, 317, 318] (by decide +kernel) (by decide +kernel)) (goodIn_sub (fun _ h => List.mem_cons_of_mem _ (List.mem_append_right _ h)) (by decide +kernel))) (goodIn_sub (fun _ h => List.mem_cons_of_mem _ (List.mem_append_left _ (List.mem_append_right _ h))) (by decide +kernel))
set_option maxRecDepth 20000 in
theorem gX5_digest_X5_operation : GoodIn wsX5_digest (wsV RX5 317 RX5 yX5_operation wsX5_operation) := goodIn_app (goodIn_of _ (by decide +kernel)) ggX5_digest_X5_operation
set_option maxRecDepth 20000 in
theorem ggX5_digest_X5_withStation : GoodIn wsX5_digest wsX5_withStation := goodIn_ca (goodIn_r _ [136, 3, 137, 138, 139, 10, 140, 12, 13, 4, 5, 17, 141, 142, 143, 144, 145, 146, 21, 147, 26, 35, 36, 37, 38, 39, 148, 149, 150, 151, 152, 153, 154, 155, 156, 157, 158, 159, 160, 161, 55, 162, 57, 163, 164, 165, 166, 167, 168, 169, 170, 171, 172, 173, 174, 175, 176, 177, 178, 179, 180, 181, 182, 183, 184, 185, 186, 187, 188, 189, 190, 191, 192, 193, 194, 195, 196, 197, 198, 300, 301, 302, 303, 304, 305, 306, 307, 308, 309, 310, 311, 312, 313, 314, 315, 316, 317, 318, 324, 325, 326, 327, 328, 329, 330, 331, 332] (by decide +kernel) (by decide +kernel)) (goodIn_sub (fun _ h => List.mem_cons_of_mem _ (List.mem_append_left _ (List.mem_append_right _ h))) (by decide +kernel))
set_option maxRecDepth 20000 in
theorem gX5_digest_X5_withStation : GoodIn wsX5_digest (wsV RX5 320 RX5 yX5_withStation wsX5_withStation) := goodIn_app (goodIn_of _ (by decide +kernel)) ggX5_digest_X5_withStation
set_option maxRecDepth 20000 in
theorem ggX5_digest_X5_dieFault : GoodIn wsX5_digest wsX5_dieFault := goodIn_r _ [202, 4, 5, 203, 204, 205, 21, 206, 72, 117, 68, 69, 70, 71, 73, 74, 75, 76, 23, 24, 25, 104, 84, 85, 86, 26, 35, 36, 37, 38, 39, 87, 88, 89, 90, 91, 207, 78, 79, 80, 81, 208, 93, 94, 95, 96, 97, 98, 99, 100, 101, 102, 103, 209, 106, 107, 108, 109, 110, 111, 112, 113, 114, 115, 116, 300, 301, 302, 303, 304, 305, 306, 307, 308, 309, 310, 311, 312, 313, 314, 315, 316, 317, 318] (by decide +kernel) (by decide +kernel)
set_option maxRecDepth 20000 in
theorem gX5_digest_X5_dieFault : GoodIn wsX5_digest (wsV RX5 324 RX5 yX5_dieFault wsX5_dieFault) := goodIn_app (goodIn_of _ (by decide +kernel)) ggX5_digest_X5_dieFault
set_option maxRecDepth 20000 in
theorem ggX5_digest_X5_planFault : GoodIn wsX5_digest wsX5_planFault := goodIn_r _ [213, 4, 5, 214, 215, 216, 21, 217, 26, 218, 145, 146, 147, 35, 36, 37, 38, 39, 219, 149, 150, 151, 40, 41, 42, 43, 44, 220, 129, 130, 131, 87, 88, 89, 90, 91, 109, 110, 111, 112, 24, 23, 72, 113, 114, 115, 116, 100, 101, 102, 103, 221, 222, 223, 224, 157, 10, 158, 300, 301, 302, 303, 304, 305, 306, 307, 308, 309, 310, 311, 312, 313, 314, 315, 316, 317, 318] (by decide +kernel) (by decide +kernel)
set_option maxRecDepth 20000 in
theorem gX5_digest_X5_planFault : GoodIn wsX5_digest (wsV RX5 327 RX5 yX5_planFault wsX5_planFault) := goodIn_app (goodIn_of _ (by decide +kernel)) ggX5_digest_X5_planFault
set_option maxRecDepth 20000 in
theorem ggX5_digest_X5_planned : GoodIn wsX5_digest wsX5_planned := goodIn_ca (goodIn_r _ [228, 122, 123, 4, 5, 229, 124, 125, 126, 21, 127, 26, 230, 231, 232, 233, 234, 235, 236, 237, 238, 239, 240, 241, 242, 243, 33, 244, 245, 246, 247, 248, 249, 250, 32, 34, 251, 41, 42, 43, 44, 252, 129, 130, 131, 87, 88, 89, 90, 91, 109, 110, 111, 112, 24, 23, 72, 113, 114, 115, 116, 100, 101, 102, 103, 253, 36, 37, 38, 39, 254, 255, 256, 257, 258, 259, 260, 261, 262, 263, 157, 10, 158, 264, 265, 266, 267, 268, 269, 270, 271, 272, 273, 274, 275, 276, 277, 278, 279, 280, 300, 301, 302, 303, 304, 305, 306, 307, 308, 309, 310, 311, 312, 313, 314, 315, 316, 317, 318, 333, 334, 335, 336, 337, 338, 339, 340] (by decide +kernel) (by decide +kernel)) (goodIn_sub (fun _ h => List.mem_cons_of_mem _ (List.mem_append_right _ h)) (by decide +kernel))
set_option maxRecDepth 20000 in
theorem gX5_digest_X5_planned : GoodIn wsX5_digest (wsV RX5 330 RX5 yX5_planned wsX5_planned) := goodIn_app (goodIn_of _ (by decide +kernel)) ggX5_digest_X5_planned
set_option maxRecDepth 20000 in
theorem ggX5_digest_X5_fitsTwice : GoodIn wsX5_digest wsX5_fitsTwice := goodIn_r _ [284, 4, 5, 285, 286, 287, 21, 288, 117, 68, 69, 70, 71, 72, 73, 74, 75, 76, 23, 24, 25, 289, 290, 291, 292, 109, 110, 111, 112, 113, 114, 115, 116, 100, 101, 102, 103, 300, 301, 302, 303, 304, 305, 306, 307, 308, 309, 310, 311, 312, 313, 314, 315, 316, 317, 318] (by decide +kernel) (by decide +kernel)
set_option maxRecDepth 20000 in
theorem gX5_digest_X5_fitsTwice : GoodIn wsX5_digest (wsV RX5 333 RX5 yX5_fitsTwice wsX5_fitsTwice) := goodIn_app (goodIn_of _ (by decide +kernel)) ggX5_digest_X5_fitsTwice
set_option maxRecDepth 20000 in
theorem ggX5_digest_X5_scrap : GoodIn wsX5_digest wsX5_scrap := goodIn_r _ [296, 4, 5, 297, 298, 67, 68, 69, 21, 70, 71, 72, 73, 74, 75, 76, 23, 24, 25, 299, 188, 189, 190, 191, 192, 193, 285, 286, 287, 288, 117, 289, 290, 291, 292, 109, 110, 111, 112, 113, 114, 115, 116, 100, 101, 102, 103, 300, 301, 302, 303, 304, 305, 306, 307, 308, 309, 310, 311, 312, 313, 314, 315, 316, 317, 318] (by decide +kernel) (by decide +kernel)
set_option maxRecDepth 20000 in
theorem gX5_digest_X5_scrap : GoodIn wsX5_digest (wsV RX5 336 RX5 yX5_scrap wsX5_scrap) := goodIn_app (goodIn_of _ (by decide +kernel)) ggX5_digest_X5_scrap
theorem dX5_digest_0 : decode cX5_digest 0 = .ok (.ldc2_w 307, 3) := by decide +kernel
theorem dX5_digest_3 : decode cX5_digest 3 = .ok (.aload_n 0, 1) := by decide +kernel
theorem dX5_digest_4 : decode cX5_digest 4 = .ok (.getfield 295, 3) := by decide +kernel
theorem dX5_digest_7 : decode cX5_digest 7 = .ok (.i2l, 1) := by decide +kernel
theorem dX5_digest_8 : decode cX5_digest 8 = .ok (.ladd, 1) := by decide +kernel
theorem dX5_digest_9 : decode cX5_digest 9 = .ok (.lstore_n 1, 1) := by decide +kernel
theorem dX5_digest_10 : decode cX5_digest 10 = .ok (.iconst 0, 1) := by decide +kernel
theorem dX5_digest_11 : decode cX5_digest 11 = .ok (.istore_n 3, 1) := by decide +kernel
theorem dX5_digest_12 : decode cX5_digest 12 = .ok (.iload_n 3, 1) := by decide +kernel
theorem dX5_digest_13 : decode cX5_digest 13 = .ok (.bipush 16, 2) := by decide +kernel
theorem dX5_digest_15 : decode cX5_digest 15 = .ok (.if_icmp .gt 22, 3) := by decide +kernel
theorem dX5_digest_18 : decode cX5_digest 18 = .ok (.ldc2_w 309, 3) := by decide +kernel
theorem dX5_digest_21 : decode cX5_digest 21 = .ok (.lload_n 1, 1) := by decide +kernel
theorem dX5_digest_22 : decode cX5_digest 22 = .ok (.lmul, 1) := by decide +kernel
theorem dX5_digest_23 : decode cX5_digest 23 = .ok (.aload_n 0, 1) := by decide +kernel
theorem dX5_digest_24 : decode cX5_digest 24 = .ok (.iload_n 3, 1) := by decide +kernel
theorem dX5_digest_25 : decode cX5_digest 25 = .ok (.invokevirtual 311, 3) := by decide +kernel
theorem dX5_digest_28 : decode cX5_digest 28 = .ok (.i2l, 1) := by decide +kernel
theorem dX5_digest_29 : decode cX5_digest 29 = .ok (.ladd, 1) := by decide +kernel
theorem dX5_digest_30 : decode cX5_digest 30 = .ok (.lstore_n 1, 1) := by decide +kernel
theorem dX5_digest_31 : decode cX5_digest 31 = .ok (.iinc 3 1, 3) := by decide +kernel
theorem dX5_digest_34 : decode cX5_digest 34 = .ok (.goto (-22), 3) := by decide +kernel
theorem dX5_digest_37 : decode cX5_digest 37 = .ok (.iconst 0, 1) := by decide +kernel
theorem dX5_digest_38 : decode cX5_digest 38 = .ok (.istore_n 3, 1) := by decide +kernel
theorem dX5_digest_39 : decode cX5_digest 39 = .ok (.iload_n 3, 1) := by decide +kernel
theorem dX5_digest_40 : decode cX5_digest 40 = .ok (.iconst 5, 1) := by decide +kernel
theorem dX5_digest_41 : decode cX5_digest 41 = .ok (.if_icmp .gt 21, 3) := by decide +kernel
theorem dX5_digest_44 : decode cX5_digest 44 = .ok (.ldc2_w 309, 3) := by decide +kernel
theorem dX5_digest_47 : decode cX5_digest 47 = .ok (.lload_n 1, 1) := by decide +kernel
theorem dX5_digest_48 : decode cX5_digest 48 = .ok (.lmul, 1) := by decide +kernel
theorem dX5_digest_49 : decode cX5_digest 49 = .ok (.aload_n 0, 1) := by decide +kernel
theorem dX5_digest_50 : decode cX5_digest 50 = .ok (.iload_n 3, 1) := by decide +kernel
theorem dX5_digest_51 : decode cX5_digest 51 = .ok (.invokevirtual 314, 3) := by decide +kernel
theorem dX5_digest_54 : decode cX5_digest 54 = .ok (.ladd, 1) := by decide +kernel
theorem dX5_digest_55 : decode cX5_digest 55 = .ok (.lstore_n 1, 1) := by decide +kernel
theorem dX5_digest_56 : decode cX5_digest 56 = .ok (.iinc 3 1, 3) := by decide +kernel
theorem dX5_digest_59 : decode cX5_digest 59 = .ok (.goto (-20), 3) := by decide +kernel
theorem dX5_digest_62 : decode cX5_digest 62 = .ok (.iconst 0, 1) := by decide +kernel
theorem dX5_digest_63 : decode cX5_digest 63 = .ok (.istore_n 3, 1) := by decide +kernel
theorem dX5_digest_64 : decode cX5_digest 64 = .ok (.iload_n 3, 1) := by decide +kernel
theorem dX5_digest_65 : decode cX5_digest 65 = .ok (.aload_n 0, 1) := by decide +kernel
theorem dX5_digest_66 : decode cX5_digest 66 = .ok (.getfield 12, 3) := by decide +kernel
theorem dX5_digest_69 : decode cX5_digest 69 = .ok (.getfield 55, 3) := by decide +kernel
theorem dX5_digest_72 : decode cX5_digest 72 = .ok (.getfield 59, 3) := by decide +kernel
theorem dX5_digest_75 : decode cX5_digest 75 = .ok (.if_icmp .ge 40, 3) := by decide +kernel
theorem dX5_digest_78 : decode cX5_digest 78 = .ok (.iconst 0, 1) := by decide +kernel
theorem dX5_digest_79 : decode cX5_digest 79 = .ok (.istore 4, 2) := by decide +kernel
theorem dX5_digest_81 : decode cX5_digest 81 = .ok (.iload 4, 2) := by decide +kernel
theorem dX5_digest_83 : decode cX5_digest 83 = .ok (.bipush 7, 2) := by decide +kernel
theorem dX5_digest_85 : decode cX5_digest 85 = .ok (.if_icmp .gt 24, 3) := by decide +kernel
theorem dX5_digest_88 : decode cX5_digest 88 = .ok (.ldc2_w 309, 3) := by decide +kernel
theorem dX5_digest_91 : decode cX5_digest 91 = .ok (.lload_n 1, 1) := by decide +kernel
theorem dX5_digest_92 : decode cX5_digest 92 = .ok (.lmul, 1) := by decide +kernel
theorem dX5_digest_93 : decode cX5_digest 93 = .ok (.aload_n 0, 1) := by decide +kernel
theorem dX5_digest_94 : decode cX5_digest 94 = .ok (.iload_n 3, 1) := by decide +kernel
theorem dX5_digest_95 : decode cX5_digest 95 = .ok (.iload 4, 2) := by decide +kernel
theorem dX5_digest_97 : decode cX5_digest 97 = .ok (.invokevirtual 317, 3) := by decide +kernel
theorem dX5_digest_100 : decode cX5_digest 100 = .ok (.i2l, 1) := by decide +kernel
theorem dX5_digest_101 : decode cX5_digest 101 = .ok (.ladd, 1) := by decide +kernel
theorem dX5_digest_102 : decode cX5_digest 102 = .ok (.lstore_n 1, 1) := by decide +kernel
theorem dX5_digest_103 : decode cX5_digest 103 = .ok (.iinc 4 1, 3) := by decide +kernel
theorem dX5_digest_106 : decode cX5_digest 106 = .ok (.goto (-25), 3) := by decide +kernel
theorem dX5_digest_109 : decode cX5_digest 109 = .ok (.iinc 3 1, 3) := by decide +kernel
theorem dX5_digest_112 : decode cX5_digest 112 = .ok (.goto (-48), 3) := by decide +kernel
theorem dX5_digest_115 : decode cX5_digest 115 = .ok (.iconst 0, 1) := by decide +kernel
theorem dX5_digest_116 : decode cX5_digest 116 = .ok (.istore_n 3, 1) := by decide +kernel
theorem dX5_digest_117 : decode cX5_digest 117 = .ok (.iload_n 3, 1) := by decide +kernel
theorem dX5_digest_118 : decode cX5_digest 118 = .ok (.bipush 8, 2) := by decide +kernel
theorem dX5_digest_120 : decode cX5_digest 120 = .ok (.if_icmp .ge 16, 3) := by decide +kernel
theorem dX5_digest_123 : decode cX5_digest 123 = .ok (.aload_n 0, 1) := by decide +kernel
theorem dX5_digest_124 : decode cX5_digest 124 = .ok (.lload_n 1, 1) := by decide +kernel
theorem dX5_digest_125 : decode cX5_digest 125 = .ok (.iload_n 3, 1) := by decide +kernel
theorem dX5_digest_126 : decode cX5_digest 126 = .ok (.invokevirtual 320, 3) := by decide +kernel
theorem dX5_digest_129 : decode cX5_digest 129 = .ok (.lstore_n 1, 1) := by decide +kernel
theorem dX5_digest_130 : decode cX5_digest 130 = .ok (.iinc 3 1, 3) := by decide +kernel
theorem dX5_digest_133 : decode cX5_digest 133 = .ok (.goto (-16), 3) := by decide +kernel
theorem dX5_digest_136 : decode cX5_digest 136 = .ok (.ldc2_w 309, 3) := by decide +kernel
theorem dX5_digest_139 : decode cX5_digest 139 = .ok (.lload_n 1, 1) := by decide +kernel
theorem dX5_digest_140 : decode cX5_digest 140 = .ok (.lmul, 1) := by decide +kernel
theorem dX5_digest_141 : decode cX5_digest 141 = .ok (.aload_n 0, 1) := by decide +kernel
theorem dX5_digest_142 : decode cX5_digest 142 = .ok (.invokevirtual 324, 3) := by decide +kernel
theorem dX5_digest_145 : decode cX5_digest 145 = .ok (.i2l, 1) := by decide +kernel
theorem dX5_digest_146 : decode cX5_digest 146 = .ok (.ladd, 1) := by decide +kernel
theorem dX5_digest_147 : decode cX5_digest 147 = .ok (.lstore_n 1, 1) := by decide +kernel
theorem dX5_digest_148 : decode cX5_digest 148 = .ok (.ldc2_w 309, 3) := by decide +kernel
theorem dX5_digest_151 : decode cX5_digest 151 = .ok (.lload_n 1, 1) := by decide +kernel
theorem dX5_digest_152 : decode cX5_digest 152 = .ok (.lmul, 1) := by decide +kernel
theorem dX5_digest_153 : decode cX5_digest 153 = .ok (.aload_n 0, 1) := by decide +kernel
theorem dX5_digest_154 : decode cX5_digest 154 = .ok (.invokevirtual 327, 3) := by decide +kernel
theorem dX5_digest_157 : decode cX5_digest 157 = .ok (.i2l, 1) := by decide +kernel
theorem dX5_digest_158 : decode cX5_digest 158 = .ok (.ladd, 1) := by decide +kernel
theorem dX5_digest_159 : decode cX5_digest 159 = .ok (.lstore_n 1, 1) := by decide +kernel
theorem dX5_digest_160 : decode cX5_digest 160 = .ok (.ldc2_w 309, 3) := by decide +kernel
theorem dX5_digest_163 : decode cX5_digest 163 = .ok (.lload_n 1, 1) := by decide +kernel
theorem dX5_digest_164 : decode cX5_digest 164 = .ok (.lmul, 1) := by decide +kernel
theorem dX5_digest_165 : decode cX5_digest 165 = .ok (.aload_n 0, 1) := by decide +kernel
theorem dX5_digest_166 : decode cX5_digest 166 = .ok (.iconst (-1), 1) := by decide +kernel
theorem dX5_digest_167 : decode cX5_digest 167 = .ok (.invokevirtual 330, 3) := by decide +kernel
theorem dX5_digest_170 : decode cX5_digest 170 = .ok (.i2l, 1) := by decide +kernel
theorem dX5_digest_171 : decode cX5_digest 171 = .ok (.ladd, 1) := by decide +kernel
theorem dX5_digest_172 : decode cX5_digest 172 = .ok (.lstore_n 1, 1) := by decide +kernel
theorem dX5_digest_173 : decode cX5_digest 173 = .ok (.ldc2_w 309, 3) := by decide +kernel
theorem dX5_digest_176 : decode cX5_digest 176 = .ok (.lload_n 1, 1) := by decide +kernel
theorem dX5_digest_177 : decode cX5_digest 177 = .ok (.lmul, 1) := by decide +kernel
theorem dX5_digest_178 : decode cX5_digest 178 = .ok (.aload_n 0, 1) := by decide +kernel
theorem dX5_digest_179 : decode cX5_digest 179 = .ok (.invokevirtual 333, 3) := by decide +kernel
theorem dX5_digest_182 : decode cX5_digest 182 = .ok (.i2l, 1) := by decide +kernel
theorem dX5_digest_183 : decode cX5_digest 183 = .ok (.ladd, 1) := by decide +kernel
theorem dX5_digest_184 : decode cX5_digest 184 = .ok (.lstore_n 1, 1) := by decide +kernel
theorem dX5_digest_185 : decode cX5_digest 185 = .ok (.ldc2_w 309, 3) := by decide +kernel
theorem dX5_digest_188 : decode cX5_digest 188 = .ok (.lload_n 1, 1) := by decide +kernel
theorem dX5_digest_189 : decode cX5_digest 189 = .ok (.lmul, 1) := by decide +kernel
theorem dX5_digest_190 : decode cX5_digest 190 = .ok (.aload_n 0, 1) := by decide +kernel
theorem dX5_digest_191 : decode cX5_digest 191 = .ok (.iconst 0, 1) := by decide +kernel
theorem dX5_digest_192 : decode cX5_digest 192 = .ok (.invokevirtual 336, 3) := by decide +kernel
theorem dX5_digest_195 : decode cX5_digest 195 = .ok (.i2l, 1) := by decide +kernel
theorem dX5_digest_196 : decode cX5_digest 196 = .ok (.ladd, 1) := by decide +kernel
theorem dX5_digest_197 : decode cX5_digest 197 = .ok (.lstore_n 1, 1) := by decide +kernel
theorem dX5_digest_198 : decode cX5_digest 198 = .ok (.ldc2_w 309, 3) := by decide +kernel
theorem dX5_digest_201 : decode cX5_digest 201 = .ok (.lload_n 1, 1) := by decide +kernel
theorem dX5_digest_202 : decode cX5_digest 202 = .ok (.lmul, 1) := by decide +kernel
theorem dX5_digest_203 : decode cX5_digest 203 = .ok (.aload_n 0, 1) := by decide +kernel
theorem dX5_digest_204 : decode cX5_digest 204 = .ok (.iconst 1, 1) := by decide +kernel
theorem dX5_digest_205 : decode cX5_digest 205 = .ok (.invokevirtual 336, 3) := by decide +kernel
theorem dX5_digest_208 : decode cX5_digest 208 = .ok (.i2l, 1) := by decide +kernel
theorem dX5_digest_209 : decode cX5_digest 209 = .ok (.ladd, 1) := by decide +kernel
theorem dX5_digest_210 : decode cX5_digest 210 = .ok (.lreturn, 1) := by decide +kernel
set_option maxRecDepth 20000 in
theorem ggX5_withStation_X5_station : GoodIn wsX5_withStation wsX5_station := goodIn_ca (goodIn_r _ [6, 7, 8, 9, 10, 11, 12, 13, 5, 14, 15, 16, 17, 18, 19, 20, 21, 22, 23, 24, 25, 26, 27, 28, 29, 30, 31, 32, 33, 34, 35, 36, 37, 38, 39, 40, 41, 42, 79, 80, 81, 82, 83, 84, 85, 86, 87, 88, 89, 90, 91, 92, 93, 94, 95, 96, 97, 98, 99, 100, 101, 102, 103, 104, 105, 106] (by decide +kernel) (by decide +kernel)) (goodIn_sub (fun _ h => List.mem_cons_of_mem _ (List.mem_append_right _ h)) (by decide +kernel))
set_option maxRecDepth 20000 in
theorem gX5_withStation_X5_station : GoodIn wsX5_withStation (wsV RX5 340 RX5 yX5_station wsX5_station) := goodIn_app (goodIn_of _ (by decide +kernel)) ggX5_withStation_X5_station
set_option maxRecDepth 20000 in
theorem ggX5_withStation_X5_pitch : GoodIn wsX5_withStation wsX5_pitch := goodIn_ca (goodIn_r _ [46, 7, 8, 9, 11, 12, 13, 5, 14, 37, 38, 39, 40, 41, 42, 35, 36, 47, 48, 49, 50, 51, 52, 53, 54, 55, 56, 57, 58, 59, 60, 61, 62, 63, 64, 65, 66, 67, 68, 69, 70, 71, 72, 73, 79, 80, 81, 82, 83, 84, 85, 86, 87, 98, 99, 100, 101, 102, 103, 104, 105, 106] (by decide +kernel) (by decide +kernel)) (goodIn_sub (fun _ h => List.mem_cons_of_mem _ (List.mem_append_right _ h)) (by decide +kernel))
set_option maxRecDepth 20000 in
theorem gX5_withStation_X5_pitch : GoodIn wsX5_withStation (wsV RX5 343 RX5 yX5_pitch wsX5_pitch) := goodIn_app (goodIn_of _ (by decide +kernel)) ggX5_withStation_X5_pitch
set_option maxRecDepth 20000 in
theorem ggX5_withStation_X5_left : GoodIn wsX5_withStation wsX5_left := goodIn_ca (goodIn_r _ [77, 7, 8, 9, 11, 12, 13, 5, 14, 37, 38, 39, 40, 41, 42, 35, 36, 78, 63, 64, 65, 66, 79, 80, 81, 82, 83, 84, 85, 86, 87, 98, 99, 100, 101, 102, 103, 104, 105, 106] (by decide +kernel) (by decide +kernel)) (goodIn_sub (fun _ h => List.mem_cons_of_mem _ (List.mem_append_right _ h)) (by decide +kernel))
set_option maxRecDepth 20000 in
theorem gX5_withStation_X5_left : GoodIn wsX5_withStation (wsV RX5 346 RX5 yX5_left wsX5_left) := goodIn_app (goodIn_of _ (by decide +kernel)) ggX5_withStation_X5_left
theorem dX5_withStation_0 : decode cX5_withStation 0 = .ok (.lload_n 1, 1) := by decide +kernel
theorem dX5_withStation_1 : decode cX5_withStation 1 = .ok (.lstore 4, 2) := by decide +kernel
theorem dX5_withStation_3 : decode cX5_withStation 3 = .ok (.iconst 0, 1) := by decide +kernel
theorem dX5_withStation_4 : decode cX5_withStation 4 = .ok (.istore 6, 2) := by decide +kernel
theorem dX5_withStation_6 : decode cX5_withStation 6 = .ok (.iload 6, 2) := by decide +kernel
theorem dX5_withStation_8 : decode cX5_withStation 8 = .ok (.iconst 3, 1) := by decide +kernel
theorem dX5_withStation_9 : decode cX5_withStation 9 = .ok (.if_icmp .gt 26, 3) := by decide +kernel
theorem dX5_withStation_12 : decode cX5_withStation 12 = .ok (.ldc2_w 309, 3) := by decide +kernel
theorem dX5_withStation_15 : decode cX5_withStation 15 = .ok (.lload 4, 2) := by decide +kernel
theorem dX5_withStation_17 : decode cX5_withStation 17 = .ok (.lmul, 1) := by decide +kernel
theorem dX5_withStation_18 : decode cX5_withStation 18 = .ok (.aload_n 0, 1) := by decide +kernel
theorem dX5_withStation_19 : decode cX5_withStation 19 = .ok (.iload_n 3, 1) := by decide +kernel
theorem dX5_withStation_20 : decode cX5_withStation 20 = .ok (.iload 6, 2) := by decide +kernel
theorem dX5_withStation_22 : decode cX5_withStation 22 = .ok (.invokevirtual 340, 3) := by decide +kernel
theorem dX5_withStation_25 : decode cX5_withStation 25 = .ok (.i2l, 1) := by decide +kernel
theorem dX5_withStation_26 : decode cX5_withStation 26 = .ok (.ladd, 1) := by decide +kernel
theorem dX5_withStation_27 : decode cX5_withStation 27 = .ok (.lstore 4, 2) := by decide +kernel
theorem dX5_withStation_29 : decode cX5_withStation 29 = .ok (.iinc 6 1, 3) := by decide +kernel
theorem dX5_withStation_32 : decode cX5_withStation 32 = .ok (.goto (-26), 3) := by decide +kernel
theorem dX5_withStation_35 : decode cX5_withStation 35 = .ok (.iconst 0, 1) := by decide +kernel
theorem dX5_withStation_36 : decode cX5_withStation 36 = .ok (.istore 6, 2) := by decide +kernel
theorem dX5_withStation_38 : decode cX5_withStation 38 = .ok (.iload 6, 2) := by decide +kernel
theorem dX5_withStation_40 : decode cX5_withStation 40 = .ok (.iconst 3, 1) := by decide +kernel
theorem dX5_withStation_41 : decode cX5_withStation 41 = .ok (.if_icmp .gt 26, 3) := by decide +kernel
theorem dX5_withStation_44 : decode cX5_withStation 44 = .ok (.ldc2_w 309, 3) := by decide +kernel
theorem dX5_withStation_47 : decode cX5_withStation 47 = .ok (.lload 4, 2) := by decide +kernel
theorem dX5_withStation_49 : decode cX5_withStation 49 = .ok (.lmul, 1) := by decide +kernel
theorem dX5_withStation_50 : decode cX5_withStation 50 = .ok (.aload_n 0, 1) := by decide +kernel
theorem dX5_withStation_51 : decode cX5_withStation 51 = .ok (.iload_n 3, 1) := by decide +kernel
theorem dX5_withStation_52 : decode cX5_withStation 52 = .ok (.iload 6, 2) := by decide +kernel
theorem dX5_withStation_54 : decode cX5_withStation 54 = .ok (.invokevirtual 343, 3) := by decide +kernel
theorem dX5_withStation_57 : decode cX5_withStation 57 = .ok (.i2l, 1) := by decide +kernel
theorem dX5_withStation_58 : decode cX5_withStation 58 = .ok (.ladd, 1) := by decide +kernel
theorem dX5_withStation_59 : decode cX5_withStation 59 = .ok (.lstore 4, 2) := by decide +kernel
theorem dX5_withStation_61 : decode cX5_withStation 61 = .ok (.iinc 6 1, 3) := by decide +kernel
theorem dX5_withStation_64 : decode cX5_withStation 64 = .ok (.goto (-26), 3) := by decide +kernel
theorem dX5_withStation_67 : decode cX5_withStation 67 = .ok (.ldc2_w 309, 3) := by decide +kernel
theorem dX5_withStation_70 : decode cX5_withStation 70 = .ok (.lload 4, 2) := by decide +kernel
theorem dX5_withStation_72 : decode cX5_withStation 72 = .ok (.lmul, 1) := by decide +kernel
theorem dX5_withStation_73 : decode cX5_withStation 73 = .ok (.aload_n 0, 1) := by decide +kernel
theorem dX5_withStation_74 : decode cX5_withStation 74 = .ok (.iload_n 3, 1) := by decide +kernel
theorem dX5_withStation_75 : decode cX5_withStation 75 = .ok (.invokevirtual 346, 3) := by decide +kernel
theorem dX5_withStation_78 : decode cX5_withStation 78 = .ok (.ladd, 1) := by decide +kernel
theorem dX5_withStation_79 : decode cX5_withStation 79 = .ok (.lreturn, 1) := by decide +kernel
theorem dX5_isPitchSize_0 : decode cX5_isPitchSize 0 = .ok (.iload_n 0, 1) := by decide +kernel
theorem dX5_isPitchSize_1 : decode cX5_isPitchSize 1 = .ok (.iconst 2, 1) := by decide +kernel
theorem dX5_isPitchSize_2 : decode cX5_isPitchSize 2 = .ok (.if_icmp .lt 24, 3) := by decide +kernel
theorem dX5_isPitchSize_5 : decode cX5_isPitchSize 5 = .ok (.iload_n 0, 1) := by decide +kernel
theorem dX5_isPitchSize_6 : decode cX5_isPitchSize 6 = .ok (.bipush 10, 2) := by decide +kernel
theorem dX5_isPitchSize_8 : decode cX5_isPitchSize 8 = .ok (.if_icmp .gt 18, 3) := by decide +kernel
theorem dX5_isPitchSize_11 : decode cX5_isPitchSize 11 = .ok (.iload_n 1, 1) := by decide +kernel
theorem dX5_isPitchSize_12 : decode cX5_isPitchSize 12 = .ok (.iconst 2, 1) := by decide +kernel
theorem dX5_isPitchSize_13 : decode cX5_isPitchSize 13 = .ok (.if_icmp .lt 13, 3) := by decide +kernel
theorem dX5_isPitchSize_16 : decode cX5_isPitchSize 16 = .ok (.iload_n 1, 1) := by decide +kernel
theorem dX5_isPitchSize_17 : decode cX5_isPitchSize 17 = .ok (.bipush 6, 2) := by decide +kernel
theorem dX5_isPitchSize_19 : decode cX5_isPitchSize 19 = .ok (.if_icmp .gt 7, 3) := by decide +kernel
theorem dX5_isPitchSize_22 : decode cX5_isPitchSize 22 = .ok (.iconst 1, 1) := by decide +kernel
theorem dX5_isPitchSize_23 : decode cX5_isPitchSize 23 = .ok (.goto 4, 3) := by decide +kernel
theorem dX5_isPitchSize_26 : decode cX5_isPitchSize 26 = .ok (.iconst 0, 1) := by decide +kernel
theorem dX5_isPitchSize_27 : decode cX5_isPitchSize 27 = .ok (.ireturn, 1) := by decide +kernel
theorem dX5_isStation_0 : decode cX5_isStation 0 = .ok (.iload_n 0, 1) := by decide +kernel
theorem dX5_isStation_1 : decode cX5_isStation 1 = .ok (.ifCond .lt 13, 3) := by decide +kernel
theorem dX5_isStation_4 : decode cX5_isStation 4 = .ok (.iload_n 0, 1) := by decide +kernel
theorem dX5_isStation_5 : decode cX5_isStation 5 = .ok (.bipush 8, 2) := by decide +kernel
theorem dX5_isStation_7 : decode cX5_isStation 7 = .ok (.if_icmp .ge 7, 3) := by decide +kernel
theorem dX5_isStation_10 : decode cX5_isStation 10 = .ok (.iconst 1, 1) := by decide +kernel
theorem dX5_isStation_11 : decode cX5_isStation 11 = .ok (.goto 4, 3) := by decide +kernel
theorem dX5_isStation_14 : decode cX5_isStation 14 = .ok (.iconst 0, 1) := by decide +kernel
theorem dX5_isStation_15 : decode cX5_isStation 15 = .ok (.ireturn, 1) := by decide +kernel
theorem dX5_isSettingValue_0 : decode cX5_isSettingValue 0 = .ok (.iload_n 0, 1) := by decide +kernel
theorem dX5_isSettingValue_1 : decode cX5_isSettingValue 1 = .ok (.tableswitch 100 0 4 #[35, 53, 68, 84, 84], 35) := by decide +kernel
theorem dX5_isSettingValue_36 : decode cX5_isSettingValue 36 = .ok (.iload_n 1, 1) := by decide +kernel
theorem dX5_isSettingValue_37 : decode cX5_isSettingValue 37 = .ok (.iconst 1, 1) := by decide +kernel
theorem dX5_isSettingValue_38 : decode cX5_isSettingValue 38 = .ok (.if_icmp .lt 14, 3) := by decide +kernel
theorem dX5_isSettingValue_41 : decode cX5_isSettingValue 41 = .ok (.iload_n 1, 1) := by decide +kernel
theorem dX5_isSettingValue_42 : decode cX5_isSettingValue 42 = .ok (.sipush 999, 3) := by decide +kernel
theorem dX5_isSettingValue_45 : decode cX5_isSettingValue 45 = .ok (.if_icmp .gt 7, 3) := by decide +kernel
theorem dX5_isSettingValue_48 : decode cX5_isSettingValue 48 = .ok (.iconst 1, 1) := by decide +kernel
theorem dX5_isSettingValue_49 : decode cX5_isSettingValue 49 = .ok (.goto 4, 3) := by decide +kernel
theorem dX5_isSettingValue_52 : decode cX5_isSettingValue 52 = .ok (.iconst 0, 1) := by decide +kernel
theorem dX5_isSettingValue_53 : decode cX5_isSettingValue 53 = .ok (.ireturn, 1) := by decide +kernel
theorem dX5_isSettingValue_54 : decode cX5_isSettingValue 54 = .ok (.iload_n 1, 1) := by decide +kernel
theorem dX5_isSettingValue_55 : decode cX5_isSettingValue 55 = .ok (.ifCond .lt 12, 3) := by decide +kernel
theorem dX5_isSettingValue_58 : decode cX5_isSettingValue 58 = .ok (.iload_n 1, 1) := by decide +kernel
theorem dX5_isSettingValue_59 : decode cX5_isSettingValue 59 = .ok (.iconst 3, 1) := by decide +kernel
theorem dX5_isSettingValue_60 : decode cX5_isSettingValue 60 = .ok (.if_icmp .gt 7, 3) := by decide +kernel
theorem dX5_isSettingValue_63 : decode cX5_isSettingValue 63 = .ok (.iconst 1, 1) := by decide +kernel
theorem dX5_isSettingValue_64 : decode cX5_isSettingValue 64 = .ok (.goto 4, 3) := by decide +kernel
theorem dX5_isSettingValue_67 : decode cX5_isSettingValue 67 = .ok (.iconst 0, 1) := by decide +kernel
theorem dX5_isSettingValue_68 : decode cX5_isSettingValue 68 = .ok (.ireturn, 1) := by decide +kernel
theorem dX5_isSettingValue_69 : decode cX5_isSettingValue 69 = .ok (.iload_n 1, 1) := by decide +kernel
theorem dX5_isSettingValue_70 : decode cX5_isSettingValue 70 = .ok (.ifCond .lt 13, 3) := by decide +kernel
theorem dX5_isSettingValue_73 : decode cX5_isSettingValue 73 = .ok (.iload_n 1, 1) := by decide +kernel
theorem dX5_isSettingValue_74 : decode cX5_isSettingValue 74 = .ok (.bipush 9, 2) := by decide +kernel
theorem dX5_isSettingValue_76 : decode cX5_isSettingValue 76 = .ok (.if_icmp .gt 7, 3) := by decide +kernel
theorem dX5_isSettingValue_79 : decode cX5_isSettingValue 79 = .ok (.iconst 1, 1) := by decide +kernel
theorem dX5_isSettingValue_80 : decode cX5_isSettingValue 80 = .ok (.goto 4, 3) := by decide +kernel
theorem dX5_isSettingValue_83 : decode cX5_isSettingValue 83 = .ok (.iconst 0, 1) := by decide +kernel
theorem dX5_isSettingValue_84 : decode cX5_isSettingValue 84 = .ok (.ireturn, 1) := by decide +kernel
theorem dX5_isSettingValue_85 : decode cX5_isSettingValue 85 = .ok (.iload_n 1, 1) := by decide +kernel
theorem dX5_isSettingValue_86 : decode cX5_isSettingValue 86 = .ok (.ifCond .lt 13, 3) := by decide +kernel
theorem dX5_isSettingValue_89 : decode cX5_isSettingValue 89 = .ok (.iload_n 1, 1) := by decide +kernel
theorem dX5_isSettingValue_90 : decode cX5_isSettingValue 90 = .ok (.bipush 50, 2) := by decide +kernel
theorem dX5_isSettingValue_92 : decode cX5_isSettingValue 92 = .ok (.if_icmp .gt 7, 3) := by decide +kernel
theorem dX5_isSettingValue_95 : decode cX5_isSettingValue 95 = .ok (.iconst 1, 1) := by decide +kernel
theorem dX5_isSettingValue_96 : decode cX5_isSettingValue 96 = .ok (.goto 4, 3) := by decide +kernel
theorem dX5_isSettingValue_99 : decode cX5_isSettingValue 99 = .ok (.iconst 0, 1) := by decide +kernel
theorem dX5_isSettingValue_100 : decode cX5_isSettingValue 100 = .ok (.ireturn, 1) := by decide +kernel
theorem dX5_isSettingValue_101 : decode cX5_isSettingValue 101 = .ok (.iconst 0, 1) := by decide +kernel
theorem dX5_isSettingValue_102 : decode cX5_isSettingValue 102 = .ok (.ireturn, 1) := by decide +kernel
set_option maxRecDepth 20000 in
theorem ggX5_startOver_X1_startOver : GoodIn wsX5_startOver wsX1_startOver := goodIn_r _ [8, 9, 10, 11, 12, 13, 14, 46, 47, 48, 49, 50, 51, 52, 53, 54, 55] (by decide +kernel) (by decide +kernel)
set_option maxRecDepth 20000 in
theorem gX5_startOver_X1_startOver : GoodIn wsX5_startOver (wsV RX5 349 RX1 yX1_startOver wsX1_startOver) := goodIn_app (goodIn_of _ (by decide +kernel)) ggX5_startOver_X1_startOver
set_option maxRecDepth 20000 in
theorem ggX5_startOver_X3_startOver : GoodIn wsX5_startOver wsX3_startOver := goodIn_r _ [19, 20, 21, 22, 23, 24, 25, 26, 18, 27, 28, 29, 30, 31, 32, 33, 34, 35, 36, 56, 57, 58, 59, 60, 61, 62, 63, 64] (by decide +kernel) (by decide +kernel)
set_option maxRecDepth 20000 in
theorem gX5_startOver_X3_startOver : GoodIn wsX5_startOver (wsV RX5 350 RX3 yX3_startOver wsX3_startOver) := goodIn_app (goodIn_of _ (by decide +kernel)) ggX5_startOver_X3_startOver
theorem dX5_startOver_0 : decode cX5_startOver 0 = .ok (.aload_n 0, 1) := by decide +kernel
theorem dX5_startOver_1 : decode cX5_startOver 1 = .ok (.getfield 12, 3) := by decide +kernel
theorem dX5_startOver_4 : decode cX5_startOver 4 = .ok (.getfield 55, 3) := by decide +kernel
theorem dX5_startOver_7 : decode cX5_startOver 7 = .ok (.iload_n 1, 1) := by decide +kernel
theorem dX5_startOver_8 : decode cX5_startOver 8 = .ok (.iload_n 2, 1) := by decide +kernel
theorem dX5_startOver_9 : decode cX5_startOver 9 = .ok (.invokevirtual 349, 3) := by decide +kernel
theorem dX5_startOver_12 : decode cX5_startOver 12 = .ok (.aload_n 0, 1) := by decide +kernel
theorem dX5_startOver_13 : decode cX5_startOver 13 = .ok (.getfield 12, 3) := by decide +kernel
theorem dX5_startOver_16 : decode cX5_startOver 16 = .ok (.getfield 130, 3) := by decide +kernel
theorem dX5_startOver_19 : decode cX5_startOver 19 = .ok (.invokevirtual 350, 3) := by decide +kernel
theorem dX5_startOver_22 : decode cX5_startOver 22 = .ok (.return_, 1) := by decide +kernel
theorem dX5_savedState_0 : decode cX5_savedState 0 = .ok (.aload_n 0, 1) := by decide +kernel
theorem dX5_savedState_1 : decode cX5_savedState 1 = .ok (.getfield 352, 3) := by decide +kernel
theorem dX5_savedState_4 : decode cX5_savedState 4 = .ok (.iload_n 1, 1) := by decide +kernel
theorem dX5_savedState_5 : decode cX5_savedState 5 = .ok (.iadd, 1) := by decide +kernel
theorem dX5_savedState_6 : decode cX5_savedState 6 = .ok (.iconst 4, 1) := by decide +kernel
theorem dX5_savedState_7 : decode cX5_savedState 7 = .ok (.irem, 1) := by decide +kernel
theorem dX5_savedState_8 : decode cX5_savedState 8 = .ok (.istore_n 2, 1) := by decide +kernel
theorem dX5_savedState_9 : decode cX5_savedState 9 = .ok (.iload_n 2, 1) := by decide +kernel
theorem dX5_savedState_10 : decode cX5_savedState 10 = .ok (.ifCond .lt 21, 3) := by decide +kernel
theorem dX5_savedState_13 : decode cX5_savedState 13 = .ok (.iload_n 2, 1) := by decide +kernel
theorem dX5_savedState_14 : decode cX5_savedState 14 = .ok (.aload_n 0, 1) := by decide +kernel
theorem dX5_savedState_15 : decode cX5_savedState 15 = .ok (.getfield 16, 3) := by decide +kernel
theorem dX5_savedState_18 : decode cX5_savedState 18 = .ok (.arraylength, 1) := by decide +kernel
theorem dX5_savedState_19 : decode cX5_savedState 19 = .ok (.if_icmp .ge 12, 3) := by decide +kernel
theorem dX5_savedState_22 : decode cX5_savedState 22 = .ok (.aload_n 0, 1) := by decide +kernel
theorem dX5_savedState_23 : decode cX5_savedState 23 = .ok (.getfield 16, 3) := by decide +kernel
theorem dX5_savedState_26 : decode cX5_savedState 26 = .ok (.iload_n 2, 1) := by decide +kernel
theorem dX5_savedState_27 : decode cX5_savedState 27 = .ok (.aaload, 1) := by decide +kernel
theorem dX5_savedState_28 : decode cX5_savedState 28 = .ok (.goto 4, 3) := by decide +kernel
theorem dX5_savedState_31 : decode cX5_savedState 31 = .ok (.aconst_null, 1) := by decide +kernel
theorem dX5_savedState_32 : decode cX5_savedState 32 = .ok (.areturn, 1) := by decide +kernel
set_option maxRecDepth 20000 in
theorem ggX5_save_X5_savedState : GoodIn wsX5_save wsX5_savedState := goodIn_r _ [8, 2, 9, 50, 51, 52, 53, 54, 55, 56] (by decide +kernel) (by decide +kernel)
set_option maxRecDepth 20000 in
theorem gX5_save_X5_savedState : GoodIn wsX5_save (wsV RX5 300 RX5 yX5_savedState wsX5_savedState) := goodIn_app (goodIn_of _ (by decide +kernel)) ggX5_save_X5_savedState
set_option maxRecDepth 20000 in
theorem ggX5_save_X4_copyFrom : GoodIn wsX5_save wsX4_copyFrom := goodIn_r _ [14, 15, 16, 17, 18, 19, 20, 21, 22, 23, 24, 25, 26, 27, 28, 29, 30, 31, 32, 7, 33, 34, 35, 36, 37, 38, 39, 40, 41, 42, 43, 44, 45, 46, 47, 48, 49, 57, 58, 59, 60, 61, 62, 63, 64, 65, 66, 67, 68, 69, 70, 71, 72, 73, 74, 75, 76, 77] (by decide +kernel) (by decide +kernel)
set_option maxRecDepth 20000 in
theorem gX5_save_X4_copyFrom : GoodIn wsX5_save (wsV RX5 304 RX4 yX4_copyFrom wsX4_copyFrom) := goodIn_app (goodIn_of _ (by decide +kernel)) ggX5_save_X4_copyFrom
theorem dX5_save_0 : decode cX5_save 0 = .ok (.aload_n 0, 1) := by decide +kernel
theorem dX5_save_1 : decode cX5_save 1 = .ok (.getfield 295, 3) := by decide +kernel
theorem dX5_save_4 : decode cX5_save 4 = .ok (.iconst 4, 1) := by decide +kernel
theorem dX5_save_5 : decode cX5_save 5 = .ok (.if_icmp .lt 25, 3) := by decide +kernel
theorem dX5_save_8 : decode cX5_save 8 = .ok (.aload_n 0, 1) := by decide +kernel
theorem dX5_save_9 : decode cX5_save 9 = .ok (.aload_n 0, 1) := by decide +kernel
theorem dX5_save_10 : decode cX5_save 10 = .ok (.getfield 352, 3) := by decide +kernel
theorem dX5_save_13 : decode cX5_save 13 = .ok (.iconst 1, 1) := by decide +kernel
theorem dX5_save_14 : decode cX5_save 14 = .ok (.iadd, 1) := by decide +kernel
theorem dX5_save_15 : decode cX5_save 15 = .ok (.iconst 4, 1) := by decide +kernel
theorem dX5_save_16 : decode cX5_save 16 = .ok (.irem, 1) := by decide +kernel
theorem dX5_save_17 : decode cX5_save 17 = .ok (.putfield 352, 3) := by decide +kernel
theorem dX5_save_20 : decode cX5_save 20 = .ok (.aload_n 0, 1) := by decide +kernel
theorem dX5_save_21 : decode cX5_save 21 = .ok (.dup, 1) := by decide +kernel
theorem dX5_save_22 : decode cX5_save 22 = .ok (.getfield 295, 3) := by decide +kernel
theorem dX5_save_25 : decode cX5_save 25 = .ok (.iconst 1, 1) := by decide +kernel
theorem dX5_save_26 : decode cX5_save 26 = .ok (.isub, 1) := by decide +kernel
theorem dX5_save_27 : decode cX5_save 27 = .ok (.putfield 295, 3) := by decide +kernel
theorem dX5_save_30 : decode cX5_save 30 = .ok (.aload_n 0, 1) := by decide +kernel
theorem dX5_save_31 : decode cX5_save 31 = .ok (.aload_n 0, 1) := by decide +kernel
theorem dX5_save_32 : decode cX5_save 32 = .ok (.getfield 295, 3) := by decide +kernel
theorem dX5_save_35 : decode cX5_save 35 = .ok (.invokevirtual 300, 3) := by decide +kernel
theorem dX5_save_38 : decode cX5_save 38 = .ok (.astore_n 1, 1) := by decide +kernel
theorem dX5_save_39 : decode cX5_save 39 = .ok (.aload_n 1, 1) := by decide +kernel
theorem dX5_save_40 : decode cX5_save 40 = .ok (.ifnull 21, 3) := by decide +kernel
theorem dX5_save_43 : decode cX5_save 43 = .ok (.aload_n 1, 1) := by decide +kernel
theorem dX5_save_44 : decode cX5_save 44 = .ok (.aload_n 0, 1) := by decide +kernel
theorem dX5_save_45 : decode cX5_save 45 = .ok (.getfield 12, 3) := by decide +kernel
theorem dX5_save_48 : decode cX5_save 48 = .ok (.invokevirtual 304, 3) := by decide +kernel
theorem dX5_save_51 : decode cX5_save 51 = .ok (.aload_n 0, 1) := by decide +kernel
theorem dX5_save_52 : decode cX5_save 52 = .ok (.dup, 1) := by decide +kernel
theorem dX5_save_53 : decode cX5_save 53 = .ok (.getfield 295, 3) := by decide +kernel
theorem dX5_save_56 : decode cX5_save 56 = .ok (.iconst 1, 1) := by decide +kernel
theorem dX5_save_57 : decode cX5_save 57 = .ok (.iadd, 1) := by decide +kernel
theorem dX5_save_58 : decode cX5_save 58 = .ok (.putfield 295, 3) := by decide +kernel
theorem dX5_save_61 : decode cX5_save 61 = .ok (.return_, 1) := by decide +kernel
set_option maxRecDepth 20000 in
theorem ggX5_carryOut_X0_number : GoodIn wsX5_carryOut wsX0_number := goodIn_r _ [10, 11, 303, 304, 305, 306, 307] (by decide +kernel) (by decide +kernel)
set_option maxRecDepth 20000 in
theorem gX5_carryOut_X0_number : GoodIn wsX5_carryOut (wsV RX5 355 RX0 yX0_number wsX0_number) := goodIn_app (goodIn_of _ (by decide +kernel)) ggX5_carryOut_X0_number
set_option maxRecDepth 20000 in
theorem ggX5_carryOut_X5_carryOutPitch : GoodIn wsX5_carryOut wsX5_carryOutPitch := goodIn_r _ [16, 17, 18, 15, 19, 20, 21, 22, 23, 4, 5, 24, 25, 26, 27, 28, 29, 30, 31, 32, 33, 34, 35, 36, 37, 38, 39, 40, 41, 42, 43, 44, 45, 46, 47, 48, 49, 50, 51, 52, 53, 54, 55, 56, 57, 296, 297, 298, 299, 300, 301, 302, 308, 309, 310, 311, 312, 313, 314, 315, 316, 317, 318, 319, 320, 321, 322, 323, 324, 325, 326, 327, 328] (by decide +kernel) (by decide +kernel)
set_option maxRecDepth 20000 in
theorem gX5_carryOut_X5_carryOutPitch : GoodIn wsX5_carryOut (wsV RX5 361 RX5 yX5_carryOutPitch wsX5_carryOutPitch) := goodIn_app (goodIn_of _ (by decide +kernel)) ggX5_carryOut_X5_carryOutPitch
set_option maxRecDepth 20000 in
theorem ggX5_carryOut_X5_carryOutMark : GoodIn wsX5_carryOut wsX5_carryOutMark := goodIn_r _ [61, 4, 5, 62, 63, 64, 28, 65, 30, 31, 66, 67, 68, 69, 70, 71, 72, 73, 32, 74, 33, 75, 76, 77, 78, 79, 80, 81, 296, 297, 298, 299, 300, 301, 302, 308, 309, 310, 311, 312, 313, 314, 315, 316, 317, 318, 319] (by decide +kernel) (by decide +kernel)
set_option maxRecDepth 20000 in
theorem gX5_carryOut_X5_carryOutMark : GoodIn wsX5_carryOut (wsV RX5 364 RX5 yX5_carryOutMark wsX5_carryOutMark) := goodIn_app (goodIn_of _ (by decide +kernel)) ggX5_carryOut_X5_carryOutMark
set_option maxRecDepth 20000 in
theorem ggX5_carryOut_X5_carryOutAdd : GoodIn wsX5_carryOut wsX5_carryOutAdd := goodIn_r _ [85, 4, 5, 62, 63, 64, 28, 65, 30, 31, 86, 87, 88, 89, 34, 90, 91, 92, 93, 94, 95, 96, 97, 98, 99, 67, 68, 69, 100, 101, 102, 103, 104, 296, 297, 298, 299, 300, 301, 302, 308, 309, 310, 311, 312, 313, 314, 315, 316, 317, 318, 319] (by decide +kernel) (by decide +kernel)
set_option maxRecDepth 20000 in
theorem gX5_carryOut_X5_carryOutAdd : GoodIn wsX5_carryOut (wsV RX5 368 RX5 yX5_carryOutAdd wsX5_carryOutAdd) := goodIn_app (goodIn_of _ (by decide +kernel)) ggX5_carryOut_X5_carryOutAdd
set_option maxRecDepth 20000 in
theorem ggX5_carryOut_X5_carryOutPlace : GoodIn wsX5_carryOut wsX5_carryOutPlace := goodIn_r _ [108, 4, 5, 109, 110, 111, 28, 112, 34, 113, 114, 15, 115, 116, 95, 96, 97, 98, 296, 297, 298, 299, 300, 301, 302, 308, 309, 310, 311, 312, 313, 314, 315, 316, 317, 318, 319] (by decide +kernel) (by decide +kernel)
set_option maxRecDepth 20000 in
theorem gX5_carryOut_X5_carryOutPlace : GoodIn wsX5_carryOut (wsV RX5 371 RX5 yX5_carryOutPlace wsX5_carryOutPlace) := goodIn_app (goodIn_of _ (by decide +kernel)) ggX5_carryOut_X5_carryOutPlace
set_option maxRecDepth 20000 in
theorem ggX5_carryOut_X2_findBest : GoodIn wsX5_carryOut wsX2_findBest := goodIn_r _ [121, 122, 123, 124, 125, 126, 120, 127, 128, 129, 130, 131, 132, 133, 134, 135, 136, 137, 138, 139, 140, 141, 142, 143, 28, 144, 145, 146, 147, 148, 149, 34, 150, 151, 152, 153, 104, 154, 155, 156, 157, 31, 30, 74, 99, 67, 68, 69, 158, 159, 160, 161, 162, 163, 164, 165, 98, 166, 167, 168, 169, 170, 171, 172, 173, 174, 175, 176, 15, 177, 178, 179, 180, 181, 182, 183, 184, 185, 186, 187, 188, 189, 190, 191, 192, 193, 329, 330, 331, 332, 333, 334, 335, 336, 310, 311, 312, 313, 314, 315, 316, 317, 318, 319] (by decide +kernel) (by decide +kernel)
set_option maxRecDepth 20000 in
theorem gX5_carryOut_X2_findBest : GoodIn wsX5_carryOut (wsV RX5 149 RX2 yX2_findBest wsX2_findBest) := goodIn_app (goodIn_of _ (by decide +kernel)) ggX5_carryOut_X2_findBest
set_option maxRecDepth 20000 in
theorem ggX5_carryOut_X5_carryOutPlan : GoodIn wsX5_carryOut wsX5_carryOutPlan := goodIn_r _ [197, 3, 4, 5, 198, 199, 200, 120, 201, 128, 182, 183, 184, 185, 170, 202, 95, 96, 28, 97, 98, 296, 297, 298, 299, 300, 301, 302, 308, 309, 310, 311, 312, 313, 314, 315, 316, 317, 318, 319, 329, 330, 331, 332, 333, 334, 335, 336] (by decide +kernel) (by decide +kernel)
set_option maxRecDepth 20000 in
theorem gX5_carryOut_X5_carryOutPlan : GoodIn wsX5_carryOut (wsV RX5 374 RX5 yX5_carryOutPlan wsX5_carryOutPlan) := goodIn_app (goodIn_of _ (by decide +kernel)) ggX5_carryOut_X5_carryOutPlan
set_option maxRecDepth 20000 in
theorem ggX5_carryOut_X5_carryOutPilot : GoodIn wsX5_carryOut wsX5_carryOutPilot := goodIn_r _ [206, 4, 5, 113, 114, 15, 115, 207, 208, 209, 28, 210, 35, 296, 297, 298, 299, 300, 301, 302, 308, 309, 310, 311, 312, 313, 314, 315, 316, 317, 318, 319] (by decide +kernel) (by decide +kernel)
set_option maxRecDepth 20000 in
theorem gX5_carryOut_X5_carryOutPilot : GoodIn wsX5_carryOut (wsV RX5 377 RX5 yX5_carryOutPilot wsX5_carryOutPilot) := goodIn_app (goodIn_of _ (by decide +kernel)) ggX5_carryOut_X5_carryOutPilot
set_option maxRecDepth 20000 in
theorem ggX5_carryOut_X5_carryOutStrokes : GoodIn wsX5_carryOut wsX5_carryOutStrokes := goodIn_r _ [214, 4, 24, 5, 215, 216, 217, 39, 218, 42, 43, 41, 219, 220, 221, 222, 49, 50, 223, 224, 225, 226, 227, 228, 229, 230, 231, 232, 233, 234, 235, 236, 237, 238, 142, 143, 28, 144, 145, 239, 240, 241, 242, 243, 159, 160, 161, 30, 31, 244, 245, 246, 247, 248, 249, 250, 251, 32, 74, 252, 253, 254, 255, 256, 257, 258, 259, 260, 33, 158, 261, 262, 263, 264, 34, 265, 139, 131, 140, 266, 163, 164, 165, 98, 267, 268, 269, 270, 176, 15, 177, 271, 272, 273, 274, 275, 276, 277, 278, 279, 280, 281, 282, 283, 284, 35, 285, 286, 287, 288, 289, 290, 291, 292, 44, 293, 294, 151, 152, 153, 104, 295, 76, 77, 78, 79, 80, 81, 296, 297, 298, 299, 300, 301, 302, 308, 309, 320, 321, 322, 323, 324, 325, 326, 327, 328, 310, 311, 312, 313, 314, 315, 316, 317, 318, 319] (by decide +kernel) (by decide +kernel)
set_option maxRecDepth 20000 in
theorem gX5_carryOut_X5_carryOutStrokes : GoodIn wsX5_carryOut (wsV RX5 380 RX5 yX5_carryOutStrokes wsX5_carryOutStrokes) := goodIn_app (goodIn_of _ (by decide +kernel)) ggX5_carryOut_X5_carryOutStrokes
theorem dX5_carryOut_0 : decode cX5_carryOut 0 = .ok (.aload_n 0, 1) := by decide +kernel
theorem dX5_carryOut_1 : decode cX5_carryOut 1 = .ok (.getfield 37, 3) := by decide +kernel
theorem dX5_carryOut_4 : decode cX5_carryOut 4 = .ok (.iconst 0, 1) := by decide +kernel
theorem dX5_carryOut_5 : decode cX5_carryOut 5 = .ok (.invokevirtual 355, 3) := by decide +kernel
theorem dX5_carryOut_8 : decode cX5_carryOut 8 = .ok (.istore_n 1, 1) := by decide +kernel
theorem dX5_carryOut_9 : decode cX5_carryOut 9 = .ok (.aload_n 0, 1) := by decide +kernel
theorem dX5_carryOut_10 : decode cX5_carryOut 10 = .ok (.getfield 37, 3) := by decide +kernel
theorem dX5_carryOut_13 : decode cX5_carryOut 13 = .ok (.iconst 1, 1) := by decide +kernel
theorem dX5_carryOut_14 : decode cX5_carryOut 14 = .ok (.invokevirtual 355, 3) := by decide +kernel
theorem dX5_carryOut_17 : decode cX5_carryOut 17 = .ok (.istore_n 2, 1) := by decide +kernel
theorem dX5_carryOut_18 : decode cX5_carryOut 18 = .ok (.aload_n 0, 1) := by decide +kernel
theorem dX5_carryOut_19 : decode cX5_carryOut 19 = .ok (.getfield 37, 3) := by decide +kernel
theorem dX5_carryOut_22 : decode cX5_carryOut 22 = .ok (.iconst 2, 1) := by decide +kernel
theorem dX5_carryOut_23 : decode cX5_carryOut 23 = .ok (.invokevirtual 355, 3) := by decide +kernel
theorem dX5_carryOut_26 : decode cX5_carryOut 26 = .ok (.istore_n 3, 1) := by decide +kernel
theorem dX5_carryOut_27 : decode cX5_carryOut 27 = .ok (.aload_n 0, 1) := by decide +kernel
theorem dX5_carryOut_28 : decode cX5_carryOut 28 = .ok (.getfield 37, 3) := by decide +kernel
theorem dX5_carryOut_31 : decode cX5_carryOut 31 = .ok (.iconst 3, 1) := by decide +kernel
theorem dX5_carryOut_32 : decode cX5_carryOut 32 = .ok (.invokevirtual 355, 3) := by decide +kernel
theorem dX5_carryOut_35 : decode cX5_carryOut 35 = .ok (.istore 4, 2) := by decide +kernel
theorem dX5_carryOut_37 : decode cX5_carryOut 37 = .ok (.aload_n 0, 1) := by decide +kernel
theorem dX5_carryOut_38 : decode cX5_carryOut 38 = .ok (.getfield 37, 3) := by decide +kernel
theorem dX5_carryOut_41 : decode cX5_carryOut 41 = .ok (.getfield 358, 3) := by decide +kernel
theorem dX5_carryOut_44 : decode cX5_carryOut 44 = .ok (.tableswitch 140 0 8 #[52, 59, 70, 81, 92, 102, 109, 128, 134], 52) := by decide +kernel
theorem dX5_carryOut_96 : decode cX5_carryOut 96 = .ok (.aload_n 0, 1) := by decide +kernel
theorem dX5_carryOut_97 : decode cX5_carryOut 97 = .ok (.iload_n 1, 1) := by decide +kernel
theorem dX5_carryOut_98 : decode cX5_carryOut 98 = .ok (.iload_n 2, 1) := by decide +kernel
theorem dX5_carryOut_99 : decode cX5_carryOut 99 = .ok (.invokevirtual 361, 3) := by decide +kernel
theorem dX5_carryOut_102 : decode cX5_carryOut 102 = .ok (.ireturn, 1) := by decide +kernel
theorem dX5_carryOut_103 : decode cX5_carryOut 103 = .ok (.aload_n 0, 1) := by decide +kernel
theorem dX5_carryOut_104 : decode cX5_carryOut 104 = .ok (.iload_n 1, 1) := by decide +kernel
theorem dX5_carryOut_105 : decode cX5_carryOut 105 = .ok (.iload_n 2, 1) := by decide +kernel
theorem dX5_carryOut_106 : decode cX5_carryOut 106 = .ok (.iload_n 3, 1) := by decide +kernel
theorem dX5_carryOut_107 : decode cX5_carryOut 107 = .ok (.iload 4, 2) := by decide +kernel
theorem dX5_carryOut_109 : decode cX5_carryOut 109 = .ok (.iconst 1, 1) := by decide +kernel
theorem dX5_carryOut_110 : decode cX5_carryOut 110 = .ok (.invokevirtual 364, 3) := by decide +kernel
theorem dX5_carryOut_113 : decode cX5_carryOut 113 = .ok (.ireturn, 1) := by decide +kernel
theorem dX5_carryOut_114 : decode cX5_carryOut 114 = .ok (.aload_n 0, 1) := by decide +kernel
theorem dX5_carryOut_115 : decode cX5_carryOut 115 = .ok (.iload_n 1, 1) := by decide +kernel
theorem dX5_carryOut_116 : decode cX5_carryOut 116 = .ok (.iload_n 2, 1) := by decide +kernel
theorem dX5_carryOut_117 : decode cX5_carryOut 117 = .ok (.iload_n 3, 1) := by decide +kernel
theorem dX5_carryOut_118 : decode cX5_carryOut 118 = .ok (.iload 4, 2) := by decide +kernel
theorem dX5_carryOut_120 : decode cX5_carryOut 120 = .ok (.iconst 2, 1) := by decide +kernel
theorem dX5_carryOut_121 : decode cX5_carryOut 121 = .ok (.invokevirtual 364, 3) := by decide +kernel
theorem dX5_carryOut_124 : decode cX5_carryOut 124 = .ok (.ireturn, 1) := by decide +kernel
theorem dX5_carryOut_125 : decode cX5_carryOut 125 = .ok (.aload_n 0, 1) := by decide +kernel
theorem dX5_carryOut_126 : decode cX5_carryOut 126 = .ok (.iconst 0, 1) := by decide +kernel
theorem dX5_carryOut_127 : decode cX5_carryOut 127 = .ok (.iload_n 1, 1) := by decide +kernel
theorem dX5_carryOut_128 : decode cX5_carryOut 128 = .ok (.iload_n 2, 1) := by decide +kernel
theorem dX5_carryOut_129 : decode cX5_carryOut 129 = .ok (.iload_n 3, 1) := by decide +kernel
theorem dX5_carryOut_130 : decode cX5_carryOut 130 = .ok (.iload 4, 2) := by decide +kernel
theorem dX5_carryOut_132 : decode cX5_carryOut 132 = .ok (.invokevirtual 368, 3) := by decide +kernel
theorem dX5_carryOut_135 : decode cX5_carryOut 135 = .ok (.ireturn, 1) := by decide +kernel
theorem dX5_carryOut_136 : decode cX5_carryOut 136 = .ok (.aload_n 0, 1) := by decide +kernel
theorem dX5_carryOut_137 : decode cX5_carryOut 137 = .ok (.iconst 1, 1) := by decide +kernel
theorem dX5_carryOut_138 : decode cX5_carryOut 138 = .ok (.iload_n 1, 1) := by decide +kernel
theorem dX5_carryOut_139 : decode cX5_carryOut 139 = .ok (.iload_n 2, 1) := by decide +kernel
theorem dX5_carryOut_140 : decode cX5_carryOut 140 = .ok (.iload_n 3, 1) := by decide +kernel
theorem dX5_carryOut_141 : decode cX5_carryOut 141 = .ok (.iconst 1, 1) := by decide +kernel
theorem dX5_carryOut_142 : decode cX5_carryOut 142 = .ok (.invokevirtual 368, 3) := by decide +kernel
theorem dX5_carryOut_145 : decode cX5_carryOut 145 = .ok (.ireturn, 1) := by decide +kernel
theorem dX5_carryOut_146 : decode cX5_carryOut 146 = .ok (.aload_n 0, 1) := by decide +kernel
theorem dX5_carryOut_147 : decode cX5_carryOut 147 = .ok (.iload_n 1, 1) := by decide +kernel
theorem dX5_carryOut_148 : decode cX5_carryOut 148 = .ok (.iload_n 2, 1) := by decide +kernel
theorem dX5_carryOut_149 : decode cX5_carryOut 149 = .ok (.invokevirtual 371, 3) := by decide +kernel
theorem dX5_carryOut_152 : decode cX5_carryOut 152 = .ok (.ireturn, 1) := by decide +kernel
theorem dX5_carryOut_153 : decode cX5_carryOut 153 = .ok (.aload_n 0, 1) := by decide +kernel
theorem dX5_carryOut_154 : decode cX5_carryOut 154 = .ok (.aload_n 0, 1) := by decide +kernel
theorem dX5_carryOut_155 : decode cX5_carryOut 155 = .ok (.getfield 30, 3) := by decide +kernel
theorem dX5_carryOut_158 : decode cX5_carryOut 158 = .ok (.aload_n 0, 1) := by decide +kernel
theorem dX5_carryOut_159 : decode cX5_carryOut 159 = .ok (.getfield 12, 3) := by decide +kernel
theorem dX5_carryOut_162 : decode cX5_carryOut 162 = .ok (.getfield 55, 3) := by decide +kernel
theorem dX5_carryOut_165 : decode cX5_carryOut 165 = .ok (.invokevirtual 149, 3) := by decide +kernel
theorem dX5_carryOut_168 : decode cX5_carryOut 168 = .ok (.invokevirtual 374, 3) := by decide +kernel
theorem dX5_carryOut_171 : decode cX5_carryOut 171 = .ok (.ireturn, 1) := by decide +kernel
theorem dX5_carryOut_172 : decode cX5_carryOut 172 = .ok (.aload_n 0, 1) := by decide +kernel
theorem dX5_carryOut_173 : decode cX5_carryOut 173 = .ok (.iload_n 1, 1) := by decide +kernel
theorem dX5_carryOut_174 : decode cX5_carryOut 174 = .ok (.invokevirtual 377, 3) := by decide +kernel
theorem dX5_carryOut_177 : decode cX5_carryOut 177 = .ok (.ireturn, 1) := by decide +kernel
theorem dX5_carryOut_178 : decode cX5_carryOut 178 = .ok (.aload_n 0, 1) := by decide +kernel
theorem dX5_carryOut_179 : decode cX5_carryOut 179 = .ok (.iload_n 1, 1) := by decide +kernel
theorem dX5_carryOut_180 : decode cX5_carryOut 180 = .ok (.invokevirtual 380, 3) := by decide +kernel
theorem dX5_carryOut_183 : decode cX5_carryOut 183 = .ok (.ireturn, 1) := by decide +kernel
theorem dX5_carryOut_184 : decode cX5_carryOut 184 = .ok (.iconst 0, 1) := by decide +kernel
theorem dX5_carryOut_185 : decode cX5_carryOut 185 = .ok (.ireturn, 1) := by decide +kernel
set_option maxRecDepth 20000 in
theorem ggX5_carryOutPitch_X5_isPitchSize : GoodIn wsX5_carryOutPitch wsX5_isPitchSize := goodIn_r _ [4] (by decide +kernel) (by decide +kernel)
set_option maxRecDepth 20000 in
theorem gX5_carryOutPitch_X5_isPitchSize : GoodIn wsX5_carryOutPitch (va_wsS RX5 41 yX5_isPitchSize wsX5_isPitchSize) := goodIn_app (goodIn_of _ (by decide +kernel)) ggX5_carryOutPitch_X5_isPitchSize
set_option maxRecDepth 20000 in
theorem ggX5_carryOutPitch_X5_startOver : GoodIn wsX5_carryOutPitch wsX5_startOver := goodIn_r _ [8, 9, 10, 11, 12, 13, 14, 15, 16, 17, 18, 19, 20, 21, 22, 23, 24, 25, 26, 27, 28, 29, 30, 31, 32, 33, 34, 35, 36, 37, 38, 39, 40, 41, 42, 43, 44, 45, 46, 47, 48, 49, 50, 51, 52, 53, 54, 55, 56, 57, 58, 59, 60, 61, 62, 63, 64, 65, 66, 67, 68, 69, 70, 71, 72] (by decide +kernel) (by decide +kernel)
set_option maxRecDepth 20000 in
theorem gX5_carryOutPitch_X5_startOver : GoodIn wsX5_carryOutPitch (wsV RX5 65 RX5 yX5_startOver wsX5_startOver) := goodIn_app (goodIn_of _ (by decide +kernel)) ggX5_carryOutPitch_X5_startOver
theorem dX5_carryOutPitch_0 : decode cX5_carryOutPitch 0 = .ok (.iload_n 1, 1) := by decide +kernel
theorem dX5_carryOutPitch_1 : decode cX5_carryOutPitch 1 = .ok (.iload_n 2, 1) := by decide +kernel
theorem dX5_carryOutPitch_2 : decode cX5_carryOutPitch 2 = .ok (.invokestatic 41, 3) := by decide +kernel
theorem dX5_carryOutPitch_5 : decode cX5_carryOutPitch 5 = .ok (.ifCond .ne 5, 3) := by decide +kernel
theorem dX5_carryOutPitch_8 : decode cX5_carryOutPitch 8 = .ok (.iconst 0, 1) := by decide +kernel
theorem dX5_carryOutPitch_9 : decode cX5_carryOutPitch 9 = .ok (.ireturn, 1) := by decide +kernel
theorem dX5_carryOutPitch_10 : decode cX5_carryOutPitch 10 = .ok (.aload_n 0, 1) := by decide +kernel
theorem dX5_carryOutPitch_11 : decode cX5_carryOutPitch 11 = .ok (.iload_n 1, 1) := by decide +kernel
theorem dX5_carryOutPitch_12 : decode cX5_carryOutPitch 12 = .ok (.iload_n 2, 1) := by decide +kernel
theorem dX5_carryOutPitch_13 : decode cX5_carryOutPitch 13 = .ok (.invokevirtual 65, 3) := by decide +kernel
theorem dX5_carryOutPitch_16 : decode cX5_carryOutPitch 16 = .ok (.iconst 1, 1) := by decide +kernel
theorem dX5_carryOutPitch_17 : decode cX5_carryOutPitch 17 = .ok (.ireturn, 1) := by decide +kernel
set_option maxRecDepth 20000 in
theorem ggX5_carryOutMark_X1_holds : GoodIn wsX5_carryOutMark wsX1_holds := goodIn_r _ [7, 8, 9, 37, 38, 39, 40, 41, 42, 43, 44, 45, 46] (by decide +kernel) (by decide +kernel)
set_option maxRecDepth 20000 in
theorem gX5_carryOutMark_X1_holds : GoodIn wsX5_carryOutMark (wsV RX5 69 RX1 yX1_holds wsX1_holds) := goodIn_app (goodIn_of _ (by decide +kernel)) ggX5_carryOutMark_X1_holds
set_option maxRecDepth 20000 in
theorem ggX5_carryOutMark_X1_rectangle : GoodIn wsX5_carryOutMark wsX1_rectangle := goodIn_r _ [13, 9, 8, 37, 38, 39, 40, 41, 42, 43, 44, 45, 46] (by decide +kernel) (by decide +kernel)
set_option maxRecDepth 20000 in
theorem gX5_carryOutMark_X1_rectangle : GoodIn wsX5_carryOutMark (wsV RX5 75 RX1 yX1_rectangle wsX1_rectangle) := goodIn_app (goodIn_of _ (by decide +kernel)) ggX5_carryOutMark_X1_rectangle
set_option maxRecDepth 20000 in
theorem ggX5_carryOutMark_X1_markCells : GoodIn wsX5_carryOutMark wsX1_markCells := goodIn_r _ [17, 18, 19, 20, 21, 22, 23, 24, 25, 26, 27, 37, 38, 39, 40, 41, 42, 43, 44, 45, 46] (by decide +kernel) (by decide +kernel)
set_option maxRecDepth 20000 in
theorem gX5_carryOutMark_X1_markCells : GoodIn wsX5_carryOutMark (wsV RX5 79 RX1 yX1_markCells wsX1_markCells) := goodIn_app (goodIn_of _ (by decide +kernel)) ggX5_carryOutMark_X1_markCells
theorem dX5_carryOutMark_0 : decode cX5_carryOutMark 0 = .ok (.aload_n 0, 1) := by decide +kernel
theorem dX5_carryOutMark_1 : decode cX5_carryOutMark 1 = .ok (.getfield 12, 3) := by decide +kernel
theorem dX5_carryOutMark_4 : decode cX5_carryOutMark 4 = .ok (.getfield 55, 3) := by decide +kernel
theorem dX5_carryOutMark_7 : decode cX5_carryOutMark 7 = .ok (.iload_n 1, 1) := by decide +kernel
theorem dX5_carryOutMark_8 : decode cX5_carryOutMark 8 = .ok (.iload_n 2, 1) := by decide +kernel
theorem dX5_carryOutMark_9 : decode cX5_carryOutMark 9 = .ok (.iload_n 3, 1) := by decide +kernel
theorem dX5_carryOutMark_10 : decode cX5_carryOutMark 10 = .ok (.iload 4, 2) := by decide +kernel
theorem dX5_carryOutMark_12 : decode cX5_carryOutMark 12 = .ok (.invokevirtual 69, 3) := by decide +kernel
theorem dX5_carryOutMark_15 : decode cX5_carryOutMark 15 = .ok (.ifCond .ne 5, 3) := by decide +kernel
theorem dX5_carryOutMark_18 : decode cX5_carryOutMark 18 = .ok (.iconst 0, 1) := by decide +kernel
theorem dX5_carryOutMark_19 : decode cX5_carryOutMark 19 = .ok (.ireturn, 1) := by decide +kernel
theorem dX5_carryOutMark_20 : decode cX5_carryOutMark 20 = .ok (.aload_n 0, 1) := by decide +kernel
theorem dX5_carryOutMark_21 : decode cX5_carryOutMark 21 = .ok (.getfield 12, 3) := by decide +kernel
theorem dX5_carryOutMark_24 : decode cX5_carryOutMark 24 = .ok (.getfield 55, 3) := by decide +kernel
theorem dX5_carryOutMark_27 : decode cX5_carryOutMark 27 = .ok (.aload_n 0, 1) := by decide +kernel
theorem dX5_carryOutMark_28 : decode cX5_carryOutMark 28 = .ok (.getfield 12, 3) := by decide +kernel
theorem dX5_carryOutMark_31 : decode cX5_carryOutMark 31 = .ok (.getfield 55, 3) := by decide +kernel
theorem dX5_carryOutMark_34 : decode cX5_carryOutMark 34 = .ok (.iload_n 1, 1) := by decide +kernel
theorem dX5_carryOutMark_35 : decode cX5_carryOutMark 35 = .ok (.iload_n 2, 1) := by decide +kernel
theorem dX5_carryOutMark_36 : decode cX5_carryOutMark 36 = .ok (.iload_n 3, 1) := by decide +kernel
theorem dX5_carryOutMark_37 : decode cX5_carryOutMark 37 = .ok (.iload 4, 2) := by decide +kernel
theorem dX5_carryOutMark_39 : decode cX5_carryOutMark 39 = .ok (.invokevirtual 75, 3) := by decide +kernel
theorem dX5_carryOutMark_42 : decode cX5_carryOutMark 42 = .ok (.iload 5, 2) := by decide +kernel
theorem dX5_carryOutMark_44 : decode cX5_carryOutMark 44 = .ok (.invokevirtual 79, 3) := by decide +kernel
theorem dX5_carryOutMark_47 : decode cX5_carryOutMark 47 = .ok (.pop, 1) := by decide +kernel
theorem dX5_carryOutMark_48 : decode cX5_carryOutMark 48 = .ok (.iconst 1, 1) := by decide +kernel
theorem dX5_carryOutMark_49 : decode cX5_carryOutMark 49 = .ok (.ireturn, 1) := by decide +kernel
set_option maxRecDepth 20000 in
theorem ggX5_carryOutAdd_X1_holds : GoodIn wsX5_carryOutAdd wsX1_holds := goodIn_r _ [7, 8, 9, 42, 43, 44, 45, 46, 47, 48, 49, 50, 51] (by decide +kernel) (by decide +kernel)
set_option maxRecDepth 20000 in
theorem gX5_carryOutAdd_X1_holds : GoodIn wsX5_carryOutAdd (wsV RX5 69 RX1 yX1_holds wsX1_holds) := goodIn_app (goodIn_of _ (by decide +kernel)) ggX5_carryOutAdd_X1_holds
set_option maxRecDepth 20000 in
theorem ggX5_carryOutAdd_X1_isFull : GoodIn wsX5_carryOutAdd wsX1_isFull := goodIn_r _ [13, 14, 42, 43, 44, 45, 46, 47, 48, 49, 50, 51] (by decide +kernel) (by decide +kernel)
set_option maxRecDepth 20000 in
theorem gX5_carryOutAdd_X1_isFull : GoodIn wsX5_carryOutAdd (wsV RX5 102 RX1 yX1_isFull wsX1_isFull) := goodIn_app (goodIn_of _ (by decide +kernel)) ggX5_carryOutAdd_X1_isFull
set_option maxRecDepth 20000 in
theorem ggX5_carryOutAdd_X1_append : GoodIn wsX5_carryOutAdd wsX1_append := goodIn_r _ [18, 14, 19, 20, 21, 6, 22, 23, 24, 25, 26, 27, 9, 8, 28, 29, 30, 31, 32, 42, 43, 44, 45, 46, 47, 48, 49, 50, 51] (by decide +kernel) (by decide +kernel)
set_option maxRecDepth 20000 in
theorem gX5_carryOutAdd_X1_append : GoodIn wsX5_carryOutAdd (wsV RX5 111 RX1 yX1_append wsX1_append) := goodIn_app (goodIn_of _ (by decide +kernel)) ggX5_carryOutAdd_X1_append
theorem dX5_carryOutAdd_0 : decode cX5_carryOutAdd 0 = .ok (.aload_n 0, 1) := by decide +kernel
theorem dX5_carryOutAdd_1 : decode cX5_carryOutAdd 1 = .ok (.getfield 12, 3) := by decide +kernel
theorem dX5_carryOutAdd_4 : decode cX5_carryOutAdd 4 = .ok (.getfield 55, 3) := by decide +kernel
theorem dX5_carryOutAdd_7 : decode cX5_carryOutAdd 7 = .ok (.iload_n 2, 1) := by decide +kernel
theorem dX5_carryOutAdd_8 : decode cX5_carryOutAdd 8 = .ok (.iload_n 3, 1) := by decide +kernel
theorem dX5_carryOutAdd_9 : decode cX5_carryOutAdd 9 = .ok (.iload 4, 2) := by decide +kernel
theorem dX5_carryOutAdd_11 : decode cX5_carryOutAdd 11 = .ok (.iload 5, 2) := by decide +kernel
theorem dX5_carryOutAdd_13 : decode cX5_carryOutAdd 13 = .ok (.invokevirtual 69, 3) := by decide +kernel
theorem dX5_carryOutAdd_16 : decode cX5_carryOutAdd 16 = .ok (.ifCond .eq 16, 3) := by decide +kernel
theorem dX5_carryOutAdd_19 : decode cX5_carryOutAdd 19 = .ok (.aload_n 0, 1) := by decide +kernel
theorem dX5_carryOutAdd_20 : decode cX5_carryOutAdd 20 = .ok (.getfield 12, 3) := by decide +kernel
theorem dX5_carryOutAdd_23 : decode cX5_carryOutAdd 23 = .ok (.getfield 55, 3) := by decide +kernel
theorem dX5_carryOutAdd_26 : decode cX5_carryOutAdd 26 = .ok (.invokevirtual 102, 3) := by decide +kernel
theorem dX5_carryOutAdd_29 : decode cX5_carryOutAdd 29 = .ok (.ifCond .eq 5, 3) := by decide +kernel
theorem dX5_carryOutAdd_32 : decode cX5_carryOutAdd 32 = .ok (.iconst 0, 1) := by decide +kernel
theorem dX5_carryOutAdd_33 : decode cX5_carryOutAdd 33 = .ok (.ireturn, 1) := by decide +kernel
theorem dX5_carryOutAdd_34 : decode cX5_carryOutAdd 34 = .ok (.aload_n 0, 1) := by decide +kernel
theorem dX5_carryOutAdd_35 : decode cX5_carryOutAdd 35 = .ok (.getfield 12, 3) := by decide +kernel
theorem dX5_carryOutAdd_38 : decode cX5_carryOutAdd 38 = .ok (.getfield 55, 3) := by decide +kernel
theorem dX5_carryOutAdd_41 : decode cX5_carryOutAdd 41 = .ok (.iload_n 1, 1) := by decide +kernel
theorem dX5_carryOutAdd_42 : decode cX5_carryOutAdd 42 = .ok (.iload_n 2, 1) := by decide +kernel
theorem dX5_carryOutAdd_43 : decode cX5_carryOutAdd 43 = .ok (.iload_n 3, 1) := by decide +kernel
theorem dX5_carryOutAdd_44 : decode cX5_carryOutAdd 44 = .ok (.iload 4, 2) := by decide +kernel
theorem dX5_carryOutAdd_46 : decode cX5_carryOutAdd 46 = .ok (.iload 5, 2) := by decide +kernel
theorem dX5_carryOutAdd_48 : decode cX5_carryOutAdd 48 = .ok (.invokevirtual 111, 3) := by decide +kernel
theorem dX5_carryOutAdd_51 : decode cX5_carryOutAdd 51 = .ok (.pop, 1) := by decide +kernel
theorem dX5_carryOutAdd_52 : decode cX5_carryOutAdd 52 = .ok (.iconst 1, 1) := by decide +kernel
theorem dX5_carryOutAdd_53 : decode cX5_carryOutAdd 53 = .ok (.ireturn, 1) := by decide +kernel
set_option maxRecDepth 20000 in
theorem ggX5_carryOutPlace_X1_hasOperation : GoodIn wsX5_carryOutPlace wsX1_hasOperation := goodIn_r _ [7, 8, 27, 28, 29, 30, 31, 32, 33, 34, 35, 36] (by decide +kernel) (by decide +kernel)
set_option maxRecDepth 20000 in
theorem gX5_carryOutPlace_X1_hasOperation : GoodIn wsX5_carryOutPlace (wsV RX5 117 RX1 yX1_hasOperation wsX1_hasOperation) := goodIn_app (goodIn_of _ (by decide +kernel)) ggX5_carryOutPlace_X1_hasOperation
set_option maxRecDepth 20000 in
theorem ggX5_carryOutPlace_X5_isStation : GoodIn wsX5_carryOutPlace wsX5_isStation := goodIn_r _ [12] (by decide +kernel) (by decide +kernel)
set_option maxRecDepth 20000 in
theorem gX5_carryOutPlace_X5_isStation : GoodIn wsX5_carryOutPlace (va_wsS RX5 136 yX5_isStation wsX5_isStation) := goodIn_app (goodIn_of _ (by decide +kernel)) ggX5_carryOutPlace_X5_isStation
set_option maxRecDepth 20000 in
theorem ggX5_carryOutPlace_X1_changeFact : GoodIn wsX5_carryOutPlace wsX1_changeFact := goodIn_r _ [16, 17, 27, 28, 29, 30, 31, 32, 33, 34, 35, 36] (by decide +kernel) (by decide +kernel)
set_option maxRecDepth 20000 in
theorem gX5_carryOutPlace_X1_changeFact : GoodIn wsX5_carryOutPlace (wsV RX5 145 RX1 yX1_changeFact wsX1_changeFact) := goodIn_app (goodIn_of _ (by decide +kernel)) ggX5_carryOutPlace_X1_changeFact
theorem dX5_carryOutPlace_0 : decode cX5_carryOutPlace 0 = .ok (.aload_n 0, 1) := by decide +kernel
theorem dX5_carryOutPlace_1 : decode cX5_carryOutPlace 1 = .ok (.getfield 12, 3) := by decide +kernel
theorem dX5_carryOutPlace_4 : decode cX5_carryOutPlace 4 = .ok (.getfield 55, 3) := by decide +kernel
theorem dX5_carryOutPlace_7 : decode cX5_carryOutPlace 7 = .ok (.iload_n 1, 1) := by decide +kernel
theorem dX5_carryOutPlace_8 : decode cX5_carryOutPlace 8 = .ok (.invokevirtual 117, 3) := by decide +kernel
theorem dX5_carryOutPlace_11 : decode cX5_carryOutPlace 11 = .ok (.ifCond .eq 10, 3) := by decide +kernel
theorem dX5_carryOutPlace_14 : decode cX5_carryOutPlace 14 = .ok (.iload_n 2, 1) := by decide +kernel
theorem dX5_carryOutPlace_15 : decode cX5_carryOutPlace 15 = .ok (.invokestatic 136, 3) := by decide +kernel
theorem dX5_carryOutPlace_18 : decode cX5_carryOutPlace 18 = .ok (.ifCond .ne 5, 3) := by decide +kernel
theorem dX5_carryOutPlace_21 : decode cX5_carryOutPlace 21 = .ok (.iconst 0, 1) := by decide +kernel
theorem dX5_carryOutPlace_22 : decode cX5_carryOutPlace 22 = .ok (.ireturn, 1) := by decide +kernel
theorem dX5_carryOutPlace_23 : decode cX5_carryOutPlace 23 = .ok (.aload_n 0, 1) := by decide +kernel
theorem dX5_carryOutPlace_24 : decode cX5_carryOutPlace 24 = .ok (.getfield 12, 3) := by decide +kernel
theorem dX5_carryOutPlace_27 : decode cX5_carryOutPlace 27 = .ok (.getfield 55, 3) := by decide +kernel
theorem dX5_carryOutPlace_30 : decode cX5_carryOutPlace 30 = .ok (.iload_n 1, 1) := by decide +kernel
theorem dX5_carryOutPlace_31 : decode cX5_carryOutPlace 31 = .ok (.bipush 6, 2) := by decide +kernel
theorem dX5_carryOutPlace_33 : decode cX5_carryOutPlace 33 = .ok (.iload_n 2, 1) := by decide +kernel
theorem dX5_carryOutPlace_34 : decode cX5_carryOutPlace 34 = .ok (.invokevirtual 145, 3) := by decide +kernel
theorem dX5_carryOutPlace_37 : decode cX5_carryOutPlace 37 = .ok (.iconst 1, 1) := by decide +kernel
theorem dX5_carryOutPlace_38 : decode cX5_carryOutPlace 38 = .ok (.ireturn, 1) := by decide +kernel
set_option maxRecDepth 20000 in
theorem ggX5_carryOutPlan_X2_putInto : GoodIn wsX5_carryOutPlan wsX2_putInto := goodIn_r _ [8, 9, 10, 11, 12, 7, 13, 14, 15, 16, 17, 18, 19, 20, 30, 31, 32, 33, 34, 35, 36, 37, 38, 39, 40, 41, 42, 43, 44, 45, 46, 47] (by decide +kernel) (by decide +kernel)
set_option maxRecDepth 20000 in
theorem gX5_carryOutPlan_X2_putInto : GoodIn wsX5_carryOutPlan (wsV RX5 155 RX2 yX2_putInto wsX2_putInto) := goodIn_app (goodIn_of _ (by decide +kernel)) ggX5_carryOutPlan_X2_putInto
theorem dX5_carryOutPlan_0 : decode cX5_carryOutPlan 0 = .ok (.iload_n 1, 1) := by decide +kernel
theorem dX5_carryOutPlan_1 : decode cX5_carryOutPlan 1 = .ok (.iconst (-1), 1) := by decide +kernel
theorem dX5_carryOutPlan_2 : decode cX5_carryOutPlan 2 = .ok (.if_icmp .ne 5, 3) := by decide +kernel
theorem dX5_carryOutPlan_5 : decode cX5_carryOutPlan 5 = .ok (.iconst 0, 1) := by decide +kernel
theorem dX5_carryOutPlan_6 : decode cX5_carryOutPlan 6 = .ok (.ireturn, 1) := by decide +kernel
theorem dX5_carryOutPlan_7 : decode cX5_carryOutPlan 7 = .ok (.aload_n 0, 1) := by decide +kernel
theorem dX5_carryOutPlan_8 : decode cX5_carryOutPlan 8 = .ok (.getfield 30, 3) := by decide +kernel
theorem dX5_carryOutPlan_11 : decode cX5_carryOutPlan 11 = .ok (.aload_n 0, 1) := by decide +kernel
theorem dX5_carryOutPlan_12 : decode cX5_carryOutPlan 12 = .ok (.getfield 12, 3) := by decide +kernel
theorem dX5_carryOutPlan_15 : decode cX5_carryOutPlan 15 = .ok (.getfield 55, 3) := by decide +kernel
theorem dX5_carryOutPlan_18 : decode cX5_carryOutPlan 18 = .ok (.invokevirtual 155, 3) := by decide +kernel
theorem dX5_carryOutPlan_21 : decode cX5_carryOutPlan 21 = .ok (.iconst 1, 1) := by decide +kernel
theorem dX5_carryOutPlan_22 : decode cX5_carryOutPlan 22 = .ok (.ireturn, 1) := by decide +kernel
set_option maxRecDepth 20000 in
theorem ggX5_carryOutPilot_X5_isStation : GoodIn wsX5_carryOutPilot wsX5_isStation := goodIn_r _ [6] (by decide +kernel) (by decide +kernel)
set_option maxRecDepth 20000 in
theorem gX5_carryOutPilot_X5_isStation : GoodIn wsX5_carryOutPilot (va_wsS RX5 136 yX5_isStation wsX5_isStation) := goodIn_app (goodIn_of _ (by decide +kernel)) ggX5_carryOutPilot_X5_isStation
set_option maxRecDepth 20000 in
theorem ggX5_carryOutPilot_X1_changePilot : GoodIn wsX5_carryOutPilot wsX1_changePilot := goodIn_r _ [11, 12, 22, 23, 24, 25, 26, 27, 28, 29, 30, 31] (by decide +kernel) (by decide +kernel)
set_option maxRecDepth 20000 in
theorem gX5_carryOutPilot_X1_changePilot : GoodIn wsX5_carryOutPilot (wsV RX5 161 RX1 yX1_changePilot wsX1_changePilot) := goodIn_app (goodIn_of _ (by decide +kernel)) ggX5_carryOutPilot_X1_changePilot
theorem dX5_carryOutPilot_0 : decode cX5_carryOutPilot 0 = .ok (.iload_n 1, 1) := by decide +kernel
theorem dX5_carryOutPilot_1 : decode cX5_carryOutPilot 1 = .ok (.invokestatic 136, 3) := by decide +kernel
theorem dX5_carryOutPilot_4 : decode cX5_carryOutPilot 4 = .ok (.ifCond .ne 5, 3) := by decide +kernel
theorem dX5_carryOutPilot_7 : decode cX5_carryOutPilot 7 = .ok (.iconst 0, 1) := by decide +kernel
theorem dX5_carryOutPilot_8 : decode cX5_carryOutPilot 8 = .ok (.ireturn, 1) := by decide +kernel
theorem dX5_carryOutPilot_9 : decode cX5_carryOutPilot 9 = .ok (.aload_n 0, 1) := by decide +kernel
theorem dX5_carryOutPilot_10 : decode cX5_carryOutPilot 10 = .ok (.getfield 12, 3) := by decide +kernel
theorem dX5_carryOutPilot_13 : decode cX5_carryOutPilot 13 = .ok (.getfield 55, 3) := by decide +kernel
theorem dX5_carryOutPilot_16 : decode cX5_carryOutPilot 16 = .ok (.iload_n 1, 1) := by decide +kernel
theorem dX5_carryOutPilot_17 : decode cX5_carryOutPilot 17 = .ok (.iconst 1, 1) := by decide +kernel
theorem dX5_carryOutPilot_18 : decode cX5_carryOutPilot 18 = .ok (.invokevirtual 161, 3) := by decide +kernel
theorem dX5_carryOutPilot_21 : decode cX5_carryOutPilot 21 = .ok (.iconst 1, 1) := by decide +kernel
theorem dX5_carryOutPilot_22 : decode cX5_carryOutPilot 22 = .ok (.ireturn, 1) := by decide +kernel
set_option maxRecDepth 20000 in
theorem ggX5_carryOutStrokes_X3_feed : GoodIn wsX5_carryOutStrokes wsX3_feed := goodIn_r _ [8, 9, 10, 11, 12, 13, 14, 7, 15, 16, 17, 18, 19, 20, 21, 22, 23, 24, 25, 26, 27, 28, 29, 30, 31, 32, 33, 34, 35, 36, 37, 38, 39, 40, 41, 42, 43, 44, 45, 46, 47, 48, 49, 50, 51, 52, 53, 54, 55, 56, 57, 58, 59, 60, 61, 62, 63, 64, 65, 66, 67, 68, 69, 70, 71, 72, 73, 74, 75, 76, 77, 78, 79, 80, 81, 82, 83, 84, 85, 86, 87, 88, 89, 90, 91, 92, 93, 94, 95, 96, 97, 98, 99, 100, 101, 102, 103, 104, 105, 106, 107, 108, 109, 110, 111, 112, 113, 114, 115, 116, 117, 118, 119, 120, 121, 122, 123, 124, 125, 126, 127, 137, 138, 139, 140, 141, 142, 143, 144, 145, 146, 147, 148, 149, 150, 151, 152, 153, 154, 155] (by decide +kernel) (by decide +kernel)
set_option maxRecDepth 20000 in
theorem gX5_carryOutStrokes_X3_feed : GoodIn wsX5_carryOutStrokes (wsV RX5 173 RX3 yX3_feed wsX3_feed) := goodIn_app (goodIn_of _ (by decide +kernel)) ggX5_carryOutStrokes_X3_feed
theorem dX5_carryOutStrokes_0 : decode cX5_carryOutStrokes 0 = .ok (.iload_n 1, 1) := by decide +kernel
theorem dX5_carryOutStrokes_1 : decode cX5_carryOutStrokes 1 = .ok (.iconst 1, 1) := by decide +kernel
theorem dX5_carryOutStrokes_2 : decode cX5_carryOutStrokes 2 = .ok (.if_icmp .lt 9, 3) := by decide +kernel
theorem dX5_carryOutStrokes_5 : decode cX5_carryOutStrokes 5 = .ok (.iload_n 1, 1) := by decide +kernel
theorem dX5_carryOutStrokes_6 : decode cX5_carryOutStrokes 6 = .ok (.bipush 50, 2) := by decide +kernel
theorem dX5_carryOutStrokes_8 : decode cX5_carryOutStrokes 8 = .ok (.if_icmp .le 5, 3) := by decide +kernel
theorem dX5_carryOutStrokes_11 : decode cX5_carryOutStrokes 11 = .ok (.iconst 0, 1) := by decide +kernel
theorem dX5_carryOutStrokes_12 : decode cX5_carryOutStrokes 12 = .ok (.ireturn, 1) := by decide +kernel
theorem dX5_carryOutStrokes_13 : decode cX5_carryOutStrokes 13 = .ok (.iconst 0, 1) := by decide +kernel
theorem dX5_carryOutStrokes_14 : decode cX5_carryOutStrokes 14 = .ok (.istore_n 2, 1) := by decide +kernel
theorem dX5_carryOutStrokes_15 : decode cX5_carryOutStrokes 15 = .ok (.iload_n 2, 1) := by decide +kernel
theorem dX5_carryOutStrokes_16 : decode cX5_carryOutStrokes 16 = .ok (.iload_n 1, 1) := by decide +kernel
theorem dX5_carryOutStrokes_17 : decode cX5_carryOutStrokes 17 = .ok (.if_icmp .ge 27, 3) := by decide +kernel
theorem dX5_carryOutStrokes_20 : decode cX5_carryOutStrokes 20 = .ok (.aload_n 0, 1) := by decide +kernel
theorem dX5_carryOutStrokes_21 : decode cX5_carryOutStrokes 21 = .ok (.getfield 12, 3) := by decide +kernel
theorem dX5_carryOutStrokes_24 : decode cX5_carryOutStrokes 24 = .ok (.getfield 130, 3) := by decide +kernel
theorem dX5_carryOutStrokes_27 : decode cX5_carryOutStrokes 27 = .ok (.aload_n 0, 1) := by decide +kernel
theorem dX5_carryOutStrokes_28 : decode cX5_carryOutStrokes 28 = .ok (.getfield 12, 3) := by decide +kernel
theorem dX5_carryOutStrokes_31 : decode cX5_carryOutStrokes 31 = .ok (.getfield 55, 3) := by decide +kernel
theorem dX5_carryOutStrokes_34 : decode cX5_carryOutStrokes 34 = .ok (.invokevirtual 173, 3) := by decide +kernel
theorem dX5_carryOutStrokes_37 : decode cX5_carryOutStrokes 37 = .ok (.pop, 1) := by decide +kernel
theorem dX5_carryOutStrokes_38 : decode cX5_carryOutStrokes 38 = .ok (.iinc 2 1, 3) := by decide +kernel
theorem dX5_carryOutStrokes_41 : decode cX5_carryOutStrokes 41 = .ok (.goto (-26), 3) := by decide +kernel
theorem dX5_carryOutStrokes_44 : decode cX5_carryOutStrokes 44 = .ok (.iconst 1, 1) := by decide +kernel
theorem dX5_carryOutStrokes_45 : decode cX5_carryOutStrokes 45 = .ok (.ireturn, 1) := by decide +kernel
theorem dX5_isIn_0 : decode cX5_isIn 0 = .ok (.iload_n 0, 1) := by decide +kernel
theorem dX5_isIn_1 : decode cX5_isIn 1 = .ok (.iload_n 1, 1) := by decide +kernel
theorem dX5_isIn_2 : decode cX5_isIn 2 = .ok (.ishr, 1) := by decide +kernel
theorem dX5_isIn_3 : decode cX5_isIn 3 = .ok (.iconst 1, 1) := by decide +kernel
theorem dX5_isIn_4 : decode cX5_isIn 4 = .ok (.iand, 1) := by decide +kernel
theorem dX5_isIn_5 : decode cX5_isIn 5 = .ok (.ifCond .eq 7, 3) := by decide +kernel
theorem dX5_isIn_8 : decode cX5_isIn 8 = .ok (.iconst 1, 1) := by decide +kernel
theorem dX5_isIn_9 : decode cX5_isIn 9 = .ok (.goto 4, 3) := by decide +kernel
theorem dX5_isIn_12 : decode cX5_isIn 12 = .ok (.iconst 0, 1) := by decide +kernel
theorem dX5_isIn_13 : decode cX5_isIn 13 = .ok (.ireturn, 1) := by decide +kernel
theorem dX5_copyInts_0 : decode cX5_copyInts 0 = .ok (.iconst 0, 1) := by decide +kernel
theorem dX5_copyInts_1 : decode cX5_copyInts 1 = .ok (.istore_n 2, 1) := by decide +kernel
theorem dX5_copyInts_2 : decode cX5_copyInts 2 = .ok (.iload_n 2, 1) := by decide +kernel
theorem dX5_copyInts_3 : decode cX5_copyInts 3 = .ok (.aload_n 0, 1) := by decide +kernel
theorem dX5_copyInts_4 : decode cX5_copyInts 4 = .ok (.arraylength, 1) := by decide +kernel
theorem dX5_copyInts_5 : decode cX5_copyInts 5 = .ok (.if_icmp .ge 21, 3) := by decide +kernel
theorem dX5_copyInts_8 : decode cX5_copyInts 8 = .ok (.iload_n 2, 1) := by decide +kernel
theorem dX5_copyInts_9 : decode cX5_copyInts 9 = .ok (.aload_n 1, 1) := by decide +kernel
theorem dX5_copyInts_10 : decode cX5_copyInts 10 = .ok (.arraylength, 1) := by decide +kernel
theorem dX5_copyInts_11 : decode cX5_copyInts 11 = .ok (.if_icmp .ge 15, 3) := by decide +kernel
theorem dX5_copyInts_14 : decode cX5_copyInts 14 = .ok (.aload_n 1, 1) := by decide +kernel
theorem dX5_copyInts_15 : decode cX5_copyInts 15 = .ok (.iload_n 2, 1) := by decide +kernel
theorem dX5_copyInts_16 : decode cX5_copyInts 16 = .ok (.aload_n 0, 1) := by decide +kernel
theorem dX5_copyInts_17 : decode cX5_copyInts 17 = .ok (.iload_n 2, 1) := by decide +kernel
theorem dX5_copyInts_18 : decode cX5_copyInts 18 = .ok (.iaload, 1) := by decide +kernel
theorem dX5_copyInts_19 : decode cX5_copyInts 19 = .ok (.iastore, 1) := by decide +kernel
theorem dX5_copyInts_20 : decode cX5_copyInts 20 = .ok (.iinc 2 1, 3) := by decide +kernel
theorem dX5_copyInts_23 : decode cX5_copyInts 23 = .ok (.goto (-21), 3) := by decide +kernel
theorem dX5_copyInts_26 : decode cX5_copyInts 26 = .ok (.return_, 1) := by decide +kernel
theorem dX5_copyLongs_0 : decode cX5_copyLongs 0 = .ok (.iconst 0, 1) := by decide +kernel
theorem dX5_copyLongs_1 : decode cX5_copyLongs 1 = .ok (.istore_n 2, 1) := by decide +kernel
theorem dX5_copyLongs_2 : decode cX5_copyLongs 2 = .ok (.iload_n 2, 1) := by decide +kernel
theorem dX5_copyLongs_3 : decode cX5_copyLongs 3 = .ok (.aload_n 0, 1) := by decide +kernel
theorem dX5_copyLongs_4 : decode cX5_copyLongs 4 = .ok (.arraylength, 1) := by decide +kernel
theorem dX5_copyLongs_5 : decode cX5_copyLongs 5 = .ok (.if_icmp .ge 21, 3) := by decide +kernel
theorem dX5_copyLongs_8 : decode cX5_copyLongs 8 = .ok (.iload_n 2, 1) := by decide +kernel
theorem dX5_copyLongs_9 : decode cX5_copyLongs 9 = .ok (.aload_n 1, 1) := by decide +kernel
theorem dX5_copyLongs_10 : decode cX5_copyLongs 10 = .ok (.arraylength, 1) := by decide +kernel
theorem dX5_copyLongs_11 : decode cX5_copyLongs 11 = .ok (.if_icmp .ge 15, 3) := by decide +kernel
theorem dX5_copyLongs_14 : decode cX5_copyLongs 14 = .ok (.aload_n 1, 1) := by decide +kernel
theorem dX5_copyLongs_15 : decode cX5_copyLongs 15 = .ok (.iload_n 2, 1) := by decide +kernel
theorem dX5_copyLongs_16 : decode cX5_copyLongs 16 = .ok (.aload_n 0, 1) := by decide +kernel
theorem dX5_copyLongs_17 : decode cX5_copyLongs 17 = .ok (.iload_n 2, 1) := by decide +kernel
theorem dX5_copyLongs_18 : decode cX5_copyLongs 18 = .ok (.laload, 1) := by decide +kernel
theorem dX5_copyLongs_19 : decode cX5_copyLongs 19 = .ok (.lastore, 1) := by decide +kernel
theorem dX5_copyLongs_20 : decode cX5_copyLongs 20 = .ok (.iinc 2 1, 3) := by decide +kernel
theorem dX5_copyLongs_23 : decode cX5_copyLongs 23 = .ok (.goto (-21), 3) := by decide +kernel
theorem dX5_copyLongs_26 : decode cX5_copyLongs 26 = .ok (.return_, 1) := by decide +kernel
