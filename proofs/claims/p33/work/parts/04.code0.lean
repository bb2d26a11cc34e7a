theorem dX0_init_0 : decode cX0_init 0 = .ok (.aload_n 0, 1) := by decide +kernel
theorem dX0_init_1 : decode cX0_init 1 = .ok (.invokespecial 3, 3) := by decide +kernel
theorem dX0_init_4 : decode cX0_init 4 = .ok (.aload_n 0, 1) := by decide +kernel
theorem dX0_init_5 : decode cX0_init 5 = .ok (.sipush 150, 3) := by decide +kernel
theorem dX0_init_8 : decode cX0_init 8 = .ok (.newarray .byte, 2) := by decide +kernel
theorem dX0_init_10 : decode cX0_init 10 = .ok (.putfield 9, 3) := by decide +kernel
theorem dX0_init_13 : decode cX0_init 13 = .ok (.aload_n 0, 1) := by decide +kernel
theorem dX0_init_14 : decode cX0_init 14 = .ok (.iconst 4, 1) := by decide +kernel
theorem dX0_init_15 : decode cX0_init 15 = .ok (.newarray .int, 2) := by decide +kernel
theorem dX0_init_17 : decode cX0_init 17 = .ok (.putfield 15, 3) := by decide +kernel
theorem dX0_init_20 : decode cX0_init 20 = .ok (.return_, 1) := by decide +kernel
theorem dX1_init_0 : decode cX1_init 0 = .ok (.aload_n 0, 1) := by decide +kernel
theorem dX1_init_1 : decode cX1_init 1 = .ok (.invokespecial 3, 3) := by decide +kernel
theorem dX1_init_4 : decode cX1_init 4 = .ok (.aload_n 0, 1) := by decide +kernel
theorem dX1_init_5 : decode cX1_init 5 = .ok (.bipush 6, 2) := by decide +kernel
theorem dX1_init_7 : decode cX1_init 7 = .ok (.putfield 9, 3) := by decide +kernel
theorem dX1_init_10 : decode cX1_init 10 = .ok (.aload_n 0, 1) := by decide +kernel
theorem dX1_init_11 : decode cX1_init 11 = .ok (.iconst 4, 1) := by decide +kernel
theorem dX1_init_12 : decode cX1_init 12 = .ok (.putfield 15, 3) := by decide +kernel
theorem dX1_init_15 : decode cX1_init 15 = .ok (.aload_n 0, 1) := by decide +kernel
theorem dX1_init_16 : decode cX1_init 16 = .ok (.iconst 5, 1) := by decide +kernel
theorem dX1_init_17 : decode cX1_init 17 = .ok (.newarray .int, 2) := by decide +kernel
theorem dX1_init_19 : decode cX1_init 19 = .ok (.dup, 1) := by decide +kernel
theorem dX1_init_20 : decode cX1_init 20 = .ok (.iconst 0, 1) := by decide +kernel
theorem dX1_init_21 : decode cX1_init 21 = .ok (.bipush 30, 2) := by decide +kernel
theorem dX1_init_23 : decode cX1_init 23 = .ok (.iastore, 1) := by decide +kernel
theorem dX1_init_24 : decode cX1_init 24 = .ok (.dup, 1) := by decide +kernel
theorem dX1_init_25 : decode cX1_init 25 = .ok (.iconst 1, 1) := by decide +kernel
theorem dX1_init_26 : decode cX1_init 26 = .ok (.iconst 0, 1) := by decide +kernel
theorem dX1_init_27 : decode cX1_init 27 = .ok (.iastore, 1) := by decide +kernel
theorem dX1_init_28 : decode cX1_init 28 = .ok (.dup, 1) := by decide +kernel
theorem dX1_init_29 : decode cX1_init 29 = .ok (.iconst 2, 1) := by decide +kernel
theorem dX1_init_30 : decode cX1_init 30 = .ok (.iconst 1, 1) := by decide +kernel
theorem dX1_init_31 : decode cX1_init 31 = .ok (.iastore, 1) := by decide +kernel
theorem dX1_init_32 : decode cX1_init 32 = .ok (.dup, 1) := by decide +kernel
theorem dX1_init_33 : decode cX1_init 33 = .ok (.iconst 3, 1) := by decide +kernel
theorem dX1_init_34 : decode cX1_init 34 = .ok (.iconst 5, 1) := by decide +kernel
theorem dX1_init_35 : decode cX1_init 35 = .ok (.iastore, 1) := by decide +kernel
theorem dX1_init_36 : decode cX1_init 36 = .ok (.dup, 1) := by decide +kernel
theorem dX1_init_37 : decode cX1_init 37 = .ok (.iconst 4, 1) := by decide +kernel
theorem dX1_init_38 : decode cX1_init 38 = .ok (.iconst 2, 1) := by decide +kernel
theorem dX1_init_39 : decode cX1_init 39 = .ok (.iastore, 1) := by decide +kernel
theorem dX1_init_40 : decode cX1_init 40 = .ok (.putfield 18, 3) := by decide +kernel
theorem dX1_init_43 : decode cX1_init 43 = .ok (.aload_n 0, 1) := by decide +kernel
theorem dX1_init_44 : decode cX1_init 44 = .ok (.bipush 42, 2) := by decide +kernel
theorem dX1_init_46 : decode cX1_init 46 = .ok (.newarray .int, 2) := by decide +kernel
theorem dX1_init_48 : decode cX1_init 48 = .ok (.putfield 22, 3) := by decide +kernel
theorem dX1_init_51 : decode cX1_init 51 = .ok (.aload_n 0, 1) := by decide +kernel
theorem dX1_init_52 : decode cX1_init 52 = .ok (.bipush 6, 2) := by decide +kernel
theorem dX1_init_54 : decode cX1_init 54 = .ok (.newarray .long, 2) := by decide +kernel
theorem dX1_init_56 : decode cX1_init 56 = .ok (.putfield 25, 3) := by decide +kernel
theorem dX1_init_59 : decode cX1_init 59 = .ok (.return_, 1) := by decide +kernel
theorem dX1_copyFrom_0 : decode cX1_copyFrom 0 = .ok (.aload_n 0, 1) := by decide +kernel
theorem dX1_copyFrom_1 : decode cX1_copyFrom 1 = .ok (.aload_n 1, 1) := by decide +kernel
theorem dX1_copyFrom_2 : decode cX1_copyFrom 2 = .ok (.getfield 9, 3) := by decide +kernel
theorem dX1_copyFrom_5 : decode cX1_copyFrom 5 = .ok (.putfield 9, 3) := by decide +kernel
theorem dX1_copyFrom_8 : decode cX1_copyFrom 8 = .ok (.aload_n 0, 1) := by decide +kernel
theorem dX1_copyFrom_9 : decode cX1_copyFrom 9 = .ok (.aload_n 1, 1) := by decide +kernel
theorem dX1_copyFrom_10 : decode cX1_copyFrom 10 = .ok (.getfield 15, 3) := by decide +kernel
theorem dX1_copyFrom_13 : decode cX1_copyFrom 13 = .ok (.putfield 15, 3) := by decide +kernel
theorem dX1_copyFrom_16 : decode cX1_copyFrom 16 = .ok (.aload_n 0, 1) := by decide +kernel
theorem dX1_copyFrom_17 : decode cX1_copyFrom 17 = .ok (.aload_n 1, 1) := by decide +kernel
theorem dX1_copyFrom_18 : decode cX1_copyFrom 18 = .ok (.getfield 29, 3) := by decide +kernel
theorem dX1_copyFrom_21 : decode cX1_copyFrom 21 = .ok (.putfield 29, 3) := by decide +kernel
theorem dX1_copyFrom_24 : decode cX1_copyFrom 24 = .ok (.aload_n 0, 1) := by decide +kernel
theorem dX1_copyFrom_25 : decode cX1_copyFrom 25 = .ok (.aload_n 1, 1) := by decide +kernel
theorem dX1_copyFrom_26 : decode cX1_copyFrom 26 = .ok (.getfield 32, 3) := by decide +kernel
theorem dX1_copyFrom_29 : decode cX1_copyFrom 29 = .ok (.putfield 32, 3) := by decide +kernel
theorem dX1_copyFrom_32 : decode cX1_copyFrom 32 = .ok (.aload_n 0, 1) := by decide +kernel
theorem dX1_copyFrom_33 : decode cX1_copyFrom 33 = .ok (.aload_n 1, 1) := by decide +kernel
theorem dX1_copyFrom_34 : decode cX1_copyFrom 34 = .ok (.getfield 36, 3) := by decide +kernel
theorem dX1_copyFrom_37 : decode cX1_copyFrom 37 = .ok (.putfield 36, 3) := by decide +kernel
theorem dX1_copyFrom_40 : decode cX1_copyFrom 40 = .ok (.aload_n 0, 1) := by decide +kernel
theorem dX1_copyFrom_41 : decode cX1_copyFrom 41 = .ok (.aload_n 1, 1) := by decide +kernel
theorem dX1_copyFrom_42 : decode cX1_copyFrom 42 = .ok (.getfield 39, 3) := by decide +kernel
theorem dX1_copyFrom_45 : decode cX1_copyFrom 45 = .ok (.putfield 39, 3) := by decide +kernel
theorem dX1_copyFrom_48 : decode cX1_copyFrom 48 = .ok (.aload_n 0, 1) := by decide +kernel
theorem dX1_copyFrom_49 : decode cX1_copyFrom 49 = .ok (.aload_n 1, 1) := by decide +kernel
theorem dX1_copyFrom_50 : decode cX1_copyFrom 50 = .ok (.getfield 42, 3) := by decide +kernel
theorem dX1_copyFrom_53 : decode cX1_copyFrom 53 = .ok (.putfield 42, 3) := by decide +kernel
theorem dX1_copyFrom_56 : decode cX1_copyFrom 56 = .ok (.aload_n 1, 1) := by decide +kernel
theorem dX1_copyFrom_57 : decode cX1_copyFrom 57 = .ok (.getfield 18, 3) := by decide +kernel
theorem dX1_copyFrom_60 : decode cX1_copyFrom 60 = .ok (.aload_n 0, 1) := by decide +kernel
theorem dX1_copyFrom_61 : decode cX1_copyFrom 61 = .ok (.getfield 18, 3) := by decide +kernel
theorem dX1_copyFrom_64 : decode cX1_copyFrom 64 = .ok (.invokestatic 45, 3) := by decide +kernel
theorem dX1_copyFrom_67 : decode cX1_copyFrom 67 = .ok (.aload_n 1, 1) := by decide +kernel
theorem dX1_copyFrom_68 : decode cX1_copyFrom 68 = .ok (.getfield 22, 3) := by decide +kernel
theorem dX1_copyFrom_71 : decode cX1_copyFrom 71 = .ok (.aload_n 0, 1) := by decide +kernel
theorem dX1_copyFrom_72 : decode cX1_copyFrom 72 = .ok (.getfield 22, 3) := by decide +kernel
theorem dX1_copyFrom_75 : decode cX1_copyFrom 75 = .ok (.invokestatic 45, 3) := by decide +kernel
theorem dX1_copyFrom_78 : decode cX1_copyFrom 78 = .ok (.aload_n 1, 1) := by decide +kernel
theorem dX1_copyFrom_79 : decode cX1_copyFrom 79 = .ok (.getfield 25, 3) := by decide +kernel
theorem dX1_copyFrom_82 : decode cX1_copyFrom 82 = .ok (.aload_n 0, 1) := by decide +kernel
theorem dX1_copyFrom_83 : decode cX1_copyFrom 83 = .ok (.getfield 25, 3) := by decide +kernel
theorem dX1_copyFrom_86 : decode cX1_copyFrom 86 = .ok (.invokestatic 49, 3) := by decide +kernel
theorem dX1_copyFrom_89 : decode cX1_copyFrom 89 = .ok (.return_, 1) := by decide +kernel
theorem dX1_startOver_0 : decode cX1_startOver 0 = .ok (.aload_n 0, 1) := by decide +kernel
theorem dX1_startOver_1 : decode cX1_startOver 1 = .ok (.iload_n 1, 1) := by decide +kernel
theorem dX1_startOver_2 : decode cX1_startOver 2 = .ok (.putfield 9, 3) := by decide +kernel
theorem dX1_startOver_5 : decode cX1_startOver 5 = .ok (.aload_n 0, 1) := by decide +kernel
theorem dX1_startOver_6 : decode cX1_startOver 6 = .ok (.iload_n 2, 1) := by decide +kernel
theorem dX1_startOver_7 : decode cX1_startOver 7 = .ok (.putfield 15, 3) := by decide +kernel
theorem dX1_startOver_10 : decode cX1_startOver 10 = .ok (.aload_n 0, 1) := by decide +kernel
theorem dX1_startOver_11 : decode cX1_startOver 11 = .ok (.lconst 0, 1) := by decide +kernel
theorem dX1_startOver_12 : decode cX1_startOver 12 = .ok (.putfield 32, 3) := by decide +kernel
theorem dX1_startOver_15 : decode cX1_startOver 15 = .ok (.aload_n 0, 1) := by decide +kernel
theorem dX1_startOver_16 : decode cX1_startOver 16 = .ok (.lconst 0, 1) := by decide +kernel
theorem dX1_startOver_17 : decode cX1_startOver 17 = .ok (.putfield 36, 3) := by decide +kernel
theorem dX1_startOver_20 : decode cX1_startOver 20 = .ok (.aload_n 0, 1) := by decide +kernel
theorem dX1_startOver_21 : decode cX1_startOver 21 = .ok (.iconst 0, 1) := by decide +kernel
theorem dX1_startOver_22 : decode cX1_startOver 22 = .ok (.putfield 39, 3) := by decide +kernel
theorem dX1_startOver_25 : decode cX1_startOver 25 = .ok (.aload_n 0, 1) := by decide +kernel
theorem dX1_startOver_26 : decode cX1_startOver 26 = .ok (.iconst 0, 1) := by decide +kernel
theorem dX1_startOver_27 : decode cX1_startOver 27 = .ok (.putfield 42, 3) := by decide +kernel
theorem dX1_startOver_30 : decode cX1_startOver 30 = .ok (.return_, 1) := by decide +kernel
theorem dX1_setting_0 : decode cX1_setting 0 = .ok (.iload_n 1, 1) := by decide +kernel
theorem dX1_setting_1 : decode cX1_setting 1 = .ok (.ifCond .lt 21, 3) := by decide +kernel
theorem dX1_setting_4 : decode cX1_setting 4 = .ok (.iload_n 1, 1) := by decide +kernel
theorem dX1_setting_5 : decode cX1_setting 5 = .ok (.aload_n 0, 1) := by decide +kernel
theorem dX1_setting_6 : decode cX1_setting 6 = .ok (.getfield 18, 3) := by decide +kernel
theorem dX1_setting_9 : decode cX1_setting 9 = .ok (.arraylength, 1) := by decide +kernel
theorem dX1_setting_10 : decode cX1_setting 10 = .ok (.if_icmp .ge 12, 3) := by decide +kernel
theorem dX1_setting_13 : decode cX1_setting 13 = .ok (.aload_n 0, 1) := by decide +kernel
theorem dX1_setting_14 : decode cX1_setting 14 = .ok (.getfield 18, 3) := by decide +kernel
theorem dX1_setting_17 : decode cX1_setting 17 = .ok (.iload_n 1, 1) := by decide +kernel
theorem dX1_setting_18 : decode cX1_setting 18 = .ok (.iaload, 1) := by decide +kernel
theorem dX1_setting_19 : decode cX1_setting 19 = .ok (.goto 4, 3) := by decide +kernel
theorem dX1_setting_22 : decode cX1_setting 22 = .ok (.iconst 0, 1) := by decide +kernel
theorem dX1_setting_23 : decode cX1_setting 23 = .ok (.ireturn, 1) := by decide +kernel
theorem dX1_changeSetting_0 : decode cX1_changeSetting 0 = .ok (.iload_n 1, 1) := by decide +kernel
theorem dX1_changeSetting_1 : decode cX1_changeSetting 1 = .ok (.ifCond .lt 19, 3) := by decide +kernel
theorem dX1_changeSetting_4 : decode cX1_changeSetting 4 = .ok (.iload_n 1, 1) := by decide +kernel
theorem dX1_changeSetting_5 : decode cX1_changeSetting 5 = .ok (.aload_n 0, 1) := by decide +kernel
theorem dX1_changeSetting_6 : decode cX1_changeSetting 6 = .ok (.getfield 18, 3) := by decide +kernel
theorem dX1_changeSetting_9 : decode cX1_changeSetting 9 = .ok (.arraylength, 1) := by decide +kernel
theorem dX1_changeSetting_10 : decode cX1_changeSetting 10 = .ok (.if_icmp .ge 10, 3) := by decide +kernel
theorem dX1_changeSetting_13 : decode cX1_changeSetting 13 = .ok (.aload_n 0, 1) := by decide +kernel
theorem dX1_changeSetting_14 : decode cX1_changeSetting 14 = .ok (.getfield 18, 3) := by decide +kernel
theorem dX1_changeSetting_17 : decode cX1_changeSetting 17 = .ok (.iload_n 1, 1) := by decide +kernel
theorem dX1_changeSetting_18 : decode cX1_changeSetting 18 = .ok (.iload_n 2, 1) := by decide +kernel
theorem dX1_changeSetting_19 : decode cX1_changeSetting 19 = .ok (.iastore, 1) := by decide +kernel
theorem dX1_changeSetting_20 : decode cX1_changeSetting 20 = .ok (.return_, 1) := by decide +kernel
theorem dX1_hasPilot_0 : decode cX1_hasPilot 0 = .ok (.aload_n 0, 1) := by decide +kernel
theorem dX1_hasPilot_1 : decode cX1_hasPilot 1 = .ok (.getfield 42, 3) := by decide +kernel
theorem dX1_hasPilot_4 : decode cX1_hasPilot 4 = .ok (.iload_n 1, 1) := by decide +kernel
theorem dX1_hasPilot_5 : decode cX1_hasPilot 5 = .ok (.invokestatic 53, 3) := by decide +kernel
theorem dX1_hasPilot_8 : decode cX1_hasPilot 8 = .ok (.ireturn, 1) := by decide +kernel
theorem dX1_changePilot_0 : decode cX1_changePilot 0 = .ok (.aload_n 0, 1) := by decide +kernel
theorem dX1_changePilot_1 : decode cX1_changePilot 1 = .ok (.iload_n 2, 1) := by decide +kernel
theorem dX1_changePilot_2 : decode cX1_changePilot 2 = .ok (.ifCond .eq 14, 3) := by decide +kernel
theorem dX1_changePilot_5 : decode cX1_changePilot 5 = .ok (.aload_n 0, 1) := by decide +kernel
theorem dX1_changePilot_6 : decode cX1_changePilot 6 = .ok (.getfield 42, 3) := by decide +kernel
theorem dX1_changePilot_9 : decode cX1_changePilot 9 = .ok (.iconst 1, 1) := by decide +kernel
theorem dX1_changePilot_10 : decode cX1_changePilot 10 = .ok (.iload_n 1, 1) := by decide +kernel
theorem dX1_changePilot_11 : decode cX1_changePilot 11 = .ok (.ishl, 1) := by decide +kernel
theorem dX1_changePilot_12 : decode cX1_changePilot 12 = .ok (.ior, 1) := by decide +kernel
theorem dX1_changePilot_13 : decode cX1_changePilot 13 = .ok (.goto 13, 3) := by decide +kernel
theorem dX1_changePilot_16 : decode cX1_changePilot 16 = .ok (.aload_n 0, 1) := by decide +kernel
theorem dX1_changePilot_17 : decode cX1_changePilot 17 = .ok (.getfield 42, 3) := by decide +kernel
theorem dX1_changePilot_20 : decode cX1_changePilot 20 = .ok (.iconst 1, 1) := by decide +kernel
theorem dX1_changePilot_21 : decode cX1_changePilot 21 = .ok (.iload_n 1, 1) := by decide +kernel
theorem dX1_changePilot_22 : decode cX1_changePilot 22 = .ok (.ishl, 1) := by decide +kernel
theorem dX1_changePilot_23 : decode cX1_changePilot 23 = .ok (.iconst (-1), 1) := by decide +kernel
theorem dX1_changePilot_24 : decode cX1_changePilot 24 = .ok (.ixor, 1) := by decide +kernel
theorem dX1_changePilot_25 : decode cX1_changePilot 25 = .ok (.iand, 1) := by decide +kernel
theorem dX1_changePilot_26 : decode cX1_changePilot 26 = .ok (.putfield 42, 3) := by decide +kernel
theorem dX1_changePilot_29 : decode cX1_changePilot 29 = .ok (.return_, 1) := by decide +kernel
theorem dX1_wholeValue_0 : decode cX1_wholeValue 0 = .ok (.iload_n 1, 1) := by decide +kernel
theorem dX1_wholeValue_1 : decode cX1_wholeValue 1 = .ok (.tableswitch 80 0 9 #[55, 60, 65, 80, 80, 80, 80, 80, 70, 75], 55) := by decide +kernel
theorem dX1_wholeValue_56 : decode cX1_wholeValue 56 = .ok (.aload_n 0, 1) := by decide +kernel
theorem dX1_wholeValue_57 : decode cX1_wholeValue 57 = .ok (.getfield 9, 3) := by decide +kernel
theorem dX1_wholeValue_60 : decode cX1_wholeValue 60 = .ok (.ireturn, 1) := by decide +kernel
theorem dX1_wholeValue_61 : decode cX1_wholeValue 61 = .ok (.aload_n 0, 1) := by decide +kernel
theorem dX1_wholeValue_62 : decode cX1_wholeValue 62 = .ok (.getfield 15, 3) := by decide +kernel
theorem dX1_wholeValue_65 : decode cX1_wholeValue 65 = .ok (.ireturn, 1) := by decide +kernel
theorem dX1_wholeValue_66 : decode cX1_wholeValue 66 = .ok (.aload_n 0, 1) := by decide +kernel
theorem dX1_wholeValue_67 : decode cX1_wholeValue 67 = .ok (.getfield 29, 3) := by decide +kernel
theorem dX1_wholeValue_70 : decode cX1_wholeValue 70 = .ok (.ireturn, 1) := by decide +kernel
theorem dX1_wholeValue_71 : decode cX1_wholeValue 71 = .ok (.aload_n 0, 1) := by decide +kernel
theorem dX1_wholeValue_72 : decode cX1_wholeValue 72 = .ok (.getfield 39, 3) := by decide +kernel
theorem dX1_wholeValue_75 : decode cX1_wholeValue 75 = .ok (.ireturn, 1) := by decide +kernel
theorem dX1_wholeValue_76 : decode cX1_wholeValue 76 = .ok (.aload_n 0, 1) := by decide +kernel
theorem dX1_wholeValue_77 : decode cX1_wholeValue 77 = .ok (.invokevirtual 57, 3) := by decide +kernel
theorem dX1_wholeValue_80 : decode cX1_wholeValue 80 = .ok (.ireturn, 1) := by decide +kernel
theorem dX1_wholeValue_81 : decode cX1_wholeValue 81 = .ok (.aload_n 0, 1) := by decide +kernel
theorem dX1_wholeValue_82 : decode cX1_wholeValue 82 = .ok (.iload_n 1, 1) := by decide +kernel
theorem dX1_wholeValue_83 : decode cX1_wholeValue 83 = .ok (.iconst 3, 1) := by decide +kernel
theorem dX1_wholeValue_84 : decode cX1_wholeValue 84 = .ok (.isub, 1) := by decide +kernel
theorem dX1_wholeValue_85 : decode cX1_wholeValue 85 = .ok (.invokevirtual 61, 3) := by decide +kernel
theorem dX1_wholeValue_88 : decode cX1_wholeValue 88 = .ok (.ireturn, 1) := by decide +kernel
theorem dX1_holds_0 : decode cX1_holds 0 = .ok (.iload_n 3, 1) := by decide +kernel
theorem dX1_holds_1 : decode cX1_holds 1 = .ok (.iconst 1, 1) := by decide +kernel
theorem dX1_holds_2 : decode cX1_holds 2 = .ok (.if_icmp .lt 59, 3) := by decide +kernel
theorem dX1_holds_5 : decode cX1_holds 5 = .ok (.iload_n 3, 1) := by decide +kernel
theorem dX1_holds_6 : decode cX1_holds 6 = .ok (.aload_n 0, 1) := by decide +kernel
theorem dX1_holds_7 : decode cX1_holds 7 = .ok (.getfield 9, 3) := by decide +kernel
theorem dX1_holds_10 : decode cX1_holds 10 = .ok (.if_icmp .gt 51, 3) := by decide +kernel
theorem dX1_holds_13 : decode cX1_holds 13 = .ok (.iload 4, 2) := by decide +kernel
theorem dX1_holds_15 : decode cX1_holds 15 = .ok (.iconst 1, 1) := by decide +kernel
theorem dX1_holds_16 : decode cX1_holds 16 = .ok (.if_icmp .lt 45, 3) := by decide +kernel
theorem dX1_holds_19 : decode cX1_holds 19 = .ok (.iload 4, 2) := by decide +kernel
theorem dX1_holds_21 : decode cX1_holds 21 = .ok (.aload_n 0, 1) := by decide +kernel
theorem dX1_holds_22 : decode cX1_holds 22 = .ok (.getfield 15, 3) := by decide +kernel
theorem dX1_holds_25 : decode cX1_holds 25 = .ok (.if_icmp .gt 36, 3) := by decide +kernel
theorem dX1_holds_28 : decode cX1_holds 28 = .ok (.iload_n 1, 1) := by decide +kernel
theorem dX1_holds_29 : decode cX1_holds 29 = .ok (.ifCond .lt 32, 3) := by decide +kernel
theorem dX1_holds_32 : decode cX1_holds 32 = .ok (.iload_n 1, 1) := by decide +kernel
theorem dX1_holds_33 : decode cX1_holds 33 = .ok (.aload_n 0, 1) := by decide +kernel
theorem dX1_holds_34 : decode cX1_holds 34 = .ok (.getfield 9, 3) := by decide +kernel
theorem dX1_holds_37 : decode cX1_holds 37 = .ok (.iload_n 3, 1) := by decide +kernel
theorem dX1_holds_38 : decode cX1_holds 38 = .ok (.isub, 1) := by decide +kernel
theorem dX1_holds_39 : decode cX1_holds 39 = .ok (.if_icmp .gt 22, 3) := by decide +kernel
theorem dX1_holds_42 : decode cX1_holds 42 = .ok (.iload_n 2, 1) := by decide +kernel
theorem dX1_holds_43 : decode cX1_holds 43 = .ok (.ifCond .lt 18, 3) := by decide +kernel
theorem dX1_holds_46 : decode cX1_holds 46 = .ok (.iload_n 2, 1) := by decide +kernel
theorem dX1_holds_47 : decode cX1_holds 47 = .ok (.aload_n 0, 1) := by decide +kernel
theorem dX1_holds_48 : decode cX1_holds 48 = .ok (.getfield 15, 3) := by decide +kernel
theorem dX1_holds_51 : decode cX1_holds 51 = .ok (.iload 4, 2) := by decide +kernel
theorem dX1_holds_53 : decode cX1_holds 53 = .ok (.isub, 1) := by decide +kernel
theorem dX1_holds_54 : decode cX1_holds 54 = .ok (.if_icmp .gt 7, 3) := by decide +kernel
theorem dX1_holds_57 : decode cX1_holds 57 = .ok (.iconst 1, 1) := by decide +kernel
theorem dX1_holds_58 : decode cX1_holds 58 = .ok (.goto 4, 3) := by decide +kernel
theorem dX1_holds_61 : decode cX1_holds 61 = .ok (.iconst 0, 1) := by decide +kernel
theorem dX1_holds_62 : decode cX1_holds 62 = .ok (.ireturn, 1) := by decide +kernel
theorem dX1_rectangle_0 : decode cX1_rectangle 0 = .ok (.lconst 1, 1) := by decide +kernel
theorem dX1_rectangle_1 : decode cX1_rectangle 1 = .ok (.iload_n 3, 1) := by decide +kernel
theorem dX1_rectangle_2 : decode cX1_rectangle 2 = .ok (.lshl, 1) := by decide +kernel
theorem dX1_rectangle_3 : decode cX1_rectangle 3 = .ok (.lconst 1, 1) := by decide +kernel
theorem dX1_rectangle_4 : decode cX1_rectangle 4 = .ok (.lsub, 1) := by decide +kernel
theorem dX1_rectangle_5 : decode cX1_rectangle 5 = .ok (.iload_n 1, 1) := by decide +kernel
theorem dX1_rectangle_6 : decode cX1_rectangle 6 = .ok (.lshl, 1) := by decide +kernel
theorem dX1_rectangle_7 : decode cX1_rectangle 7 = .ok (.lstore 5, 2) := by decide +kernel
theorem dX1_rectangle_9 : decode cX1_rectangle 9 = .ok (.lconst 0, 1) := by decide +kernel
theorem dX1_rectangle_10 : decode cX1_rectangle 10 = .ok (.lstore 7, 2) := by decide +kernel
theorem dX1_rectangle_12 : decode cX1_rectangle 12 = .ok (.iconst 0, 1) := by decide +kernel
theorem dX1_rectangle_13 : decode cX1_rectangle 13 = .ok (.istore 9, 2) := by decide +kernel
theorem dX1_rectangle_15 : decode cX1_rectangle 15 = .ok (.iload 9, 2) := by decide +kernel
theorem dX1_rectangle_17 : decode cX1_rectangle 17 = .ok (.iload 4, 2) := by decide +kernel
theorem dX1_rectangle_19 : decode cX1_rectangle 19 = .ok (.if_icmp .ge 35, 3) := by decide +kernel
theorem dX1_rectangle_22 : decode cX1_rectangle 22 = .ok (.iload 9, 2) := by decide +kernel
theorem dX1_rectangle_24 : decode cX1_rectangle 24 = .ok (.aload_n 0, 1) := by decide +kernel
theorem dX1_rectangle_25 : decode cX1_rectangle 25 = .ok (.getfield 15, 3) := by decide +kernel
theorem dX1_rectangle_28 : decode cX1_rectangle 28 = .ok (.if_icmp .ge 26, 3) := by decide +kernel
theorem dX1_rectangle_31 : decode cX1_rectangle 31 = .ok (.lload 7, 2) := by decide +kernel
theorem dX1_rectangle_33 : decode cX1_rectangle 33 = .ok (.lload 5, 2) := by decide +kernel
theorem dX1_rectangle_35 : decode cX1_rectangle 35 = .ok (.iload_n 2, 1) := by decide +kernel
theorem dX1_rectangle_36 : decode cX1_rectangle 36 = .ok (.iload 9, 2) := by decide +kernel
theorem dX1_rectangle_38 : decode cX1_rectangle 38 = .ok (.iadd, 1) := by decide +kernel
theorem dX1_rectangle_39 : decode cX1_rectangle 39 = .ok (.aload_n 0, 1) := by decide +kernel
theorem dX1_rectangle_40 : decode cX1_rectangle 40 = .ok (.getfield 9, 3) := by decide +kernel
theorem dX1_rectangle_43 : decode cX1_rectangle 43 = .ok (.imul, 1) := by decide +kernel
theorem dX1_rectangle_44 : decode cX1_rectangle 44 = .ok (.lshl, 1) := by decide +kernel
theorem dX1_rectangle_45 : decode cX1_rectangle 45 = .ok (.lor, 1) := by decide +kernel
theorem dX1_rectangle_46 : decode cX1_rectangle 46 = .ok (.lstore 7, 2) := by decide +kernel
theorem dX1_rectangle_48 : decode cX1_rectangle 48 = .ok (.iinc 9 1, 3) := by decide +kernel
theorem dX1_rectangle_51 : decode cX1_rectangle 51 = .ok (.goto (-36), 3) := by decide +kernel
theorem dX1_rectangle_54 : decode cX1_rectangle 54 = .ok (.lload 7, 2) := by decide +kernel
theorem dX1_rectangle_56 : decode cX1_rectangle 56 = .ok (.lreturn, 1) := by decide +kernel
theorem dX1_allCells_0 : decode cX1_allCells 0 = .ok (.lconst 1, 1) := by decide +kernel
theorem dX1_allCells_1 : decode cX1_allCells 1 = .ok (.aload_n 0, 1) := by decide +kernel
theorem dX1_allCells_2 : decode cX1_allCells 2 = .ok (.getfield 9, 3) := by decide +kernel
theorem dX1_allCells_5 : decode cX1_allCells 5 = .ok (.aload_n 0, 1) := by decide +kernel
theorem dX1_allCells_6 : decode cX1_allCells 6 = .ok (.getfield 15, 3) := by decide +kernel
theorem dX1_allCells_9 : decode cX1_allCells 9 = .ok (.imul, 1) := by decide +kernel
theorem dX1_allCells_10 : decode cX1_allCells 10 = .ok (.lshl, 1) := by decide +kernel
theorem dX1_allCells_11 : decode cX1_allCells 11 = .ok (.lconst 1, 1) := by decide +kernel
theorem dX1_allCells_12 : decode cX1_allCells 12 = .ok (.lsub, 1) := by decide +kernel
theorem dX1_allCells_13 : decode cX1_allCells 13 = .ok (.lreturn, 1) := by decide +kernel
theorem dX1_markCells_0 : decode cX1_markCells 0 = .ok (.iload_n 3, 1) := by decide +kernel
theorem dX1_markCells_1 : decode cX1_markCells 1 = .ok (.iconst 1, 1) := by decide +kernel
theorem dX1_markCells_2 : decode cX1_markCells 2 = .ok (.if_icmp .ne 12, 3) := by decide +kernel
theorem dX1_markCells_5 : decode cX1_markCells 5 = .ok (.aload_n 0, 1) := by decide +kernel
theorem dX1_markCells_6 : decode cX1_markCells 6 = .ok (.getfield 32, 3) := by decide +kernel
theorem dX1_markCells_9 : decode cX1_markCells 9 = .ok (.lload_n 1, 1) := by decide +kernel
theorem dX1_markCells_10 : decode cX1_markCells 10 = .ok (.lor, 1) := by decide +kernel
theorem dX1_markCells_11 : decode cX1_markCells 11 = .ok (.goto 13, 3) := by decide +kernel
theorem dX1_markCells_14 : decode cX1_markCells 14 = .ok (.aload_n 0, 1) := by decide +kernel
theorem dX1_markCells_15 : decode cX1_markCells 15 = .ok (.getfield 32, 3) := by decide +kernel
theorem dX1_markCells_18 : decode cX1_markCells 18 = .ok (.lload_n 1, 1) := by decide +kernel
theorem dX1_markCells_19 : decode cX1_markCells 19 = .ok (.ldc2_w 65, 3) := by decide +kernel
theorem dX1_markCells_22 : decode cX1_markCells 22 = .ok (.lxor, 1) := by decide +kernel
theorem dX1_markCells_23 : decode cX1_markCells 23 = .ok (.land, 1) := by decide +kernel
theorem dX1_markCells_24 : decode cX1_markCells 24 = .ok (.lstore 4, 2) := by decide +kernel
theorem dX1_markCells_26 : decode cX1_markCells 26 = .ok (.iload_n 3, 1) := by decide +kernel
theorem dX1_markCells_27 : decode cX1_markCells 27 = .ok (.iconst 2, 1) := by decide +kernel
theorem dX1_markCells_28 : decode cX1_markCells 28 = .ok (.if_icmp .ne 12, 3) := by decide +kernel
theorem dX1_markCells_31 : decode cX1_markCells 31 = .ok (.aload_n 0, 1) := by decide +kernel
theorem dX1_markCells_32 : decode cX1_markCells 32 = .ok (.getfield 36, 3) := by decide +kernel
theorem dX1_markCells_35 : decode cX1_markCells 35 = .ok (.lload_n 1, 1) := by decide +kernel
theorem dX1_markCells_36 : decode cX1_markCells 36 = .ok (.lor, 1) := by decide +kernel
theorem dX1_markCells_37 : decode cX1_markCells 37 = .ok (.goto 13, 3) := by decide +kernel
theorem dX1_markCells_40 : decode cX1_markCells 40 = .ok (.aload_n 0, 1) := by decide +kernel
theorem dX1_markCells_41 : decode cX1_markCells 41 = .ok (.getfield 36, 3) := by decide +kernel
theorem dX1_markCells_44 : decode cX1_markCells 44 = .ok (.lload_n 1, 1) := by decide +kernel
theorem dX1_markCells_45 : decode cX1_markCells 45 = .ok (.ldc2_w 65, 3) := by decide +kernel
theorem dX1_markCells_48 : decode cX1_markCells 48 = .ok (.lxor, 1) := by decide +kernel
theorem dX1_markCells_49 : decode cX1_markCells 49 = .ok (.land, 1) := by decide +kernel
theorem dX1_markCells_50 : decode cX1_markCells 50 = .ok (.lstore 6, 2) := by decide +kernel
theorem dX1_markCells_52 : decode cX1_markCells 52 = .ok (.lload 4, 2) := by decide +kernel
theorem dX1_markCells_54 : decode cX1_markCells 54 = .ok (.aload_n 0, 1) := by decide +kernel
theorem dX1_markCells_55 : decode cX1_markCells 55 = .ok (.getfield 32, 3) := by decide +kernel
theorem dX1_markCells_58 : decode cX1_markCells 58 = .ok (.lxor, 1) := by decide +kernel
theorem dX1_markCells_59 : decode cX1_markCells 59 = .ok (.lload 6, 2) := by decide +kernel
theorem dX1_markCells_61 : decode cX1_markCells 61 = .ok (.aload_n 0, 1) := by decide +kernel
theorem dX1_markCells_62 : decode cX1_markCells 62 = .ok (.getfield 36, 3) := by decide +kernel
theorem dX1_markCells_65 : decode cX1_markCells 65 = .ok (.lxor, 1) := by decide +kernel
theorem dX1_markCells_66 : decode cX1_markCells 66 = .ok (.lor, 1) := by decide +kernel
theorem dX1_markCells_67 : decode cX1_markCells 67 = .ok (.lstore 8, 2) := by decide +kernel
theorem dX1_markCells_69 : decode cX1_markCells 69 = .ok (.aload_n 0, 1) := by decide +kernel
theorem dX1_markCells_70 : decode cX1_markCells 70 = .ok (.lload 4, 2) := by decide +kernel
theorem dX1_markCells_72 : decode cX1_markCells 72 = .ok (.putfield 32, 3) := by decide +kernel
theorem dX1_markCells_75 : decode cX1_markCells 75 = .ok (.aload_n 0, 1) := by decide +kernel
theorem dX1_markCells_76 : decode cX1_markCells 76 = .ok (.lload 6, 2) := by decide +kernel
theorem dX1_markCells_78 : decode cX1_markCells 78 = .ok (.putfield 36, 3) := by decide +kernel
theorem dX1_markCells_81 : decode cX1_markCells 81 = .ok (.lload 8, 2) := by decide +kernel
theorem dX1_markCells_83 : decode cX1_markCells 83 = .ok (.invokestatic 67, 3) := by decide +kernel
theorem dX1_markCells_86 : decode cX1_markCells 86 = .ok (.ireturn, 1) := by decide +kernel
theorem dX1_carrierCells_0 : decode cX1_carrierCells 0 = .ok (.lconst 1, 1) := by decide +kernel
theorem dX1_carrierCells_1 : decode cX1_carrierCells 1 = .ok (.aload_n 0, 1) := by decide +kernel
theorem dX1_carrierCells_2 : decode cX1_carrierCells 2 = .ok (.getfield 9, 3) := by decide +kernel
theorem dX1_carrierCells_5 : decode cX1_carrierCells 5 = .ok (.lshl, 1) := by decide +kernel
theorem dX1_carrierCells_6 : decode cX1_carrierCells 6 = .ok (.lconst 1, 1) := by decide +kernel
theorem dX1_carrierCells_7 : decode cX1_carrierCells 7 = .ok (.lsub, 1) := by decide +kernel
theorem dX1_carrierCells_8 : decode cX1_carrierCells 8 = .ok (.lstore_n 1, 1) := by decide +kernel
theorem dX1_carrierCells_9 : decode cX1_carrierCells 9 = .ok (.lload_n 1, 1) := by decide +kernel
theorem dX1_carrierCells_10 : decode cX1_carrierCells 10 = .ok (.aload_n 0, 1) := by decide +kernel
theorem dX1_carrierCells_11 : decode cX1_carrierCells 11 = .ok (.getfield 15, 3) := by decide +kernel
theorem dX1_carrierCells_14 : decode cX1_carrierCells 14 = .ok (.iconst 1, 1) := by decide +kernel
theorem dX1_carrierCells_15 : decode cX1_carrierCells 15 = .ok (.isub, 1) := by decide +kernel
theorem dX1_carrierCells_16 : decode cX1_carrierCells 16 = .ok (.aload_n 0, 1) := by decide +kernel
theorem dX1_carrierCells_17 : decode cX1_carrierCells 17 = .ok (.getfield 9, 3) := by decide +kernel
theorem dX1_carrierCells_20 : decode cX1_carrierCells 20 = .ok (.imul, 1) := by decide +kernel
theorem dX1_carrierCells_21 : decode cX1_carrierCells 21 = .ok (.lshl, 1) := by decide +kernel
theorem dX1_carrierCells_22 : decode cX1_carrierCells 22 = .ok (.lstore_n 3, 1) := by decide +kernel
theorem dX1_carrierCells_23 : decode cX1_carrierCells 23 = .ok (.aload_n 0, 1) := by decide +kernel
theorem dX1_carrierCells_24 : decode cX1_carrierCells 24 = .ok (.getfield 29, 3) := by decide +kernel
theorem dX1_carrierCells_27 : decode cX1_carrierCells 27 = .ok (.iconst 2, 1) := by decide +kernel
theorem dX1_carrierCells_28 : decode cX1_carrierCells 28 = .ok (.if_icmp .ne 7, 3) := by decide +kernel
theorem dX1_carrierCells_31 : decode cX1_carrierCells 31 = .ok (.lload_n 1, 1) := by decide +kernel
theorem dX1_carrierCells_32 : decode cX1_carrierCells 32 = .ok (.lload_n 3, 1) := by decide +kernel
theorem dX1_carrierCells_33 : decode cX1_carrierCells 33 = .ok (.lor, 1) := by decide +kernel
theorem dX1_carrierCells_34 : decode cX1_carrierCells 34 = .ok (.lreturn, 1) := by decide +kernel
theorem dX1_carrierCells_35 : decode cX1_carrierCells 35 = .ok (.aload_n 0, 1) := by decide +kernel
theorem dX1_carrierCells_36 : decode cX1_carrierCells 36 = .ok (.getfield 29, 3) := by decide +kernel
theorem dX1_carrierCells_39 : decode cX1_carrierCells 39 = .ok (.ifCond .ne 7, 3) := by decide +kernel
theorem dX1_carrierCells_42 : decode cX1_carrierCells 42 = .ok (.lload_n 1, 1) := by decide +kernel
theorem dX1_carrierCells_43 : decode cX1_carrierCells 43 = .ok (.goto 4, 3) := by decide +kernel
theorem dX1_carrierCells_46 : decode cX1_carrierCells 46 = .ok (.lload_n 3, 1) := by decide +kernel
theorem dX1_carrierCells_47 : decode cX1_carrierCells 47 = .ok (.lreturn, 1) := by decide +kernel
theorem dX1_partCells_0 : decode cX1_partCells 0 = .ok (.aload_n 0, 1) := by decide +kernel
theorem dX1_partCells_1 : decode cX1_partCells 1 = .ok (.getfield 32, 3) := by decide +kernel
theorem dX1_partCells_4 : decode cX1_partCells 4 = .ok (.aload_n 0, 1) := by decide +kernel
theorem dX1_partCells_5 : decode cX1_partCells 5 = .ok (.invokevirtual 73, 3) := by decide +kernel
theorem dX1_partCells_8 : decode cX1_partCells 8 = .ok (.ldc2_w 65, 3) := by decide +kernel
theorem dX1_partCells_11 : decode cX1_partCells 11 = .ok (.lxor, 1) := by decide +kernel
theorem dX1_partCells_12 : decode cX1_partCells 12 = .ok (.land, 1) := by decide +kernel
theorem dX1_partCells_13 : decode cX1_partCells 13 = .ok (.lreturn, 1) := by decide +kernel
theorem dX1_linkCells_0 : decode cX1_linkCells 0 = .ok (.aload_n 0, 1) := by decide +kernel
theorem dX1_linkCells_1 : decode cX1_linkCells 1 = .ok (.getfield 36, 3) := by decide +kernel
theorem dX1_linkCells_4 : decode cX1_linkCells 4 = .ok (.aload_n 0, 1) := by decide +kernel
theorem dX1_linkCells_5 : decode cX1_linkCells 5 = .ok (.invokevirtual 73, 3) := by decide +kernel
theorem dX1_linkCells_8 : decode cX1_linkCells 8 = .ok (.ldc2_w 65, 3) := by decide +kernel
theorem dX1_linkCells_11 : decode cX1_linkCells 11 = .ok (.lxor, 1) := by decide +kernel
theorem dX1_linkCells_12 : decode cX1_linkCells 12 = .ok (.land, 1) := by decide +kernel
theorem dX1_linkCells_13 : decode cX1_linkCells 13 = .ok (.lreturn, 1) := by decide +kernel
theorem dX1_wasteCells_0 : decode cX1_wasteCells 0 = .ok (.aload_n 0, 1) := by decide +kernel
theorem dX1_wasteCells_1 : decode cX1_wasteCells 1 = .ok (.invokevirtual 77, 3) := by decide +kernel
theorem dX1_wasteCells_4 : decode cX1_wasteCells 4 = .ok (.aload_n 0, 1) := by decide +kernel
theorem dX1_wasteCells_5 : decode cX1_wasteCells 5 = .ok (.getfield 32, 3) := by decide +kernel
theorem dX1_wasteCells_8 : decode cX1_wasteCells 8 = .ok (.aload_n 0, 1) := by decide +kernel
theorem dX1_wasteCells_9 : decode cX1_wasteCells 9 = .ok (.getfield 36, 3) := by decide +kernel
theorem dX1_wasteCells_12 : decode cX1_wasteCells 12 = .ok (.lor, 1) := by decide +kernel
theorem dX1_wasteCells_13 : decode cX1_wasteCells 13 = .ok (.aload_n 0, 1) := by decide +kernel
theorem dX1_wasteCells_14 : decode cX1_wasteCells 14 = .ok (.invokevirtual 73, 3) := by decide +kernel
theorem dX1_wasteCells_17 : decode cX1_wasteCells 17 = .ok (.lor, 1) := by decide +kernel
theorem dX1_wasteCells_18 : decode cX1_wasteCells 18 = .ok (.ldc2_w 65, 3) := by decide +kernel
theorem dX1_wasteCells_21 : decode cX1_wasteCells 21 = .ok (.lxor, 1) := by decide +kernel
theorem dX1_wasteCells_22 : decode cX1_wasteCells 22 = .ok (.land, 1) := by decide +kernel
theorem dX1_wasteCells_23 : decode cX1_wasteCells 23 = .ok (.lreturn, 1) := by decide +kernel
theorem dX1_cellsOfKind_0 : decode cX1_cellsOfKind 0 = .ok (.lconst 0, 1) := by decide +kernel
theorem dX1_cellsOfKind_1 : decode cX1_cellsOfKind 1 = .ok (.lstore_n 2, 1) := by decide +kernel
theorem dX1_cellsOfKind_2 : decode cX1_cellsOfKind 2 = .ok (.iconst 0, 1) := by decide +kernel
theorem dX1_cellsOfKind_3 : decode cX1_cellsOfKind 3 = .ok (.istore 4, 2) := by decide +kernel
theorem dX1_cellsOfKind_5 : decode cX1_cellsOfKind 5 = .ok (.iload 4, 2) := by decide +kernel
theorem dX1_cellsOfKind_7 : decode cX1_cellsOfKind 7 = .ok (.aload_n 0, 1) := by decide +kernel
theorem dX1_cellsOfKind_8 : decode cX1_cellsOfKind 8 = .ok (.getfield 39, 3) := by decide +kernel
theorem dX1_cellsOfKind_11 : decode cX1_cellsOfKind 11 = .ok (.if_icmp .ge 29, 3) := by decide +kernel
theorem dX1_cellsOfKind_14 : decode cX1_cellsOfKind 14 = .ok (.aload_n 0, 1) := by decide +kernel
theorem dX1_cellsOfKind_15 : decode cX1_cellsOfKind 15 = .ok (.iload 4, 2) := by decide +kernel
theorem dX1_cellsOfKind_17 : decode cX1_cellsOfKind 17 = .ok (.iconst 0, 1) := by decide +kernel
theorem dX1_cellsOfKind_18 : decode cX1_cellsOfKind 18 = .ok (.invokevirtual 80, 3) := by decide +kernel
theorem dX1_cellsOfKind_21 : decode cX1_cellsOfKind 21 = .ok (.iload_n 1, 1) := by decide +kernel
theorem dX1_cellsOfKind_22 : decode cX1_cellsOfKind 22 = .ok (.if_icmp .ne 12, 3) := by decide +kernel
theorem dX1_cellsOfKind_25 : decode cX1_cellsOfKind 25 = .ok (.lload_n 2, 1) := by decide +kernel
theorem dX1_cellsOfKind_26 : decode cX1_cellsOfKind 26 = .ok (.aload_n 0, 1) := by decide +kernel
theorem dX1_cellsOfKind_27 : decode cX1_cellsOfKind 27 = .ok (.iload 4, 2) := by decide +kernel
theorem dX1_cellsOfKind_29 : decode cX1_cellsOfKind 29 = .ok (.invokevirtual 84, 3) := by decide +kernel
theorem dX1_cellsOfKind_32 : decode cX1_cellsOfKind 32 = .ok (.lor, 1) := by decide +kernel
theorem dX1_cellsOfKind_33 : decode cX1_cellsOfKind 33 = .ok (.lstore_n 2, 1) := by decide +kernel
theorem dX1_cellsOfKind_34 : decode cX1_cellsOfKind 34 = .ok (.iinc 4 1, 3) := by decide +kernel
theorem dX1_cellsOfKind_37 : decode cX1_cellsOfKind 37 = .ok (.goto (-32), 3) := by decide +kernel
theorem dX1_cellsOfKind_40 : decode cX1_cellsOfKind 40 = .ok (.lload_n 2, 1) := by decide +kernel
theorem dX1_cellsOfKind_41 : decode cX1_cellsOfKind 41 = .ok (.lreturn, 1) := by decide +kernel
theorem dX1_forgottenCells_0 : decode cX1_forgottenCells 0 = .ok (.aload_n 0, 1) := by decide +kernel
theorem dX1_forgottenCells_1 : decode cX1_forgottenCells 1 = .ok (.invokevirtual 88, 3) := by decide +kernel
theorem dX1_forgottenCells_4 : decode cX1_forgottenCells 4 = .ok (.aload_n 0, 1) := by decide +kernel
theorem dX1_forgottenCells_5 : decode cX1_forgottenCells 5 = .ok (.iconst 0, 1) := by decide +kernel
theorem dX1_forgottenCells_6 : decode cX1_forgottenCells 6 = .ok (.invokevirtual 91, 3) := by decide +kernel
theorem dX1_forgottenCells_9 : decode cX1_forgottenCells 9 = .ok (.ldc2_w 65, 3) := by decide +kernel
theorem dX1_forgottenCells_12 : decode cX1_forgottenCells 12 = .ok (.lxor, 1) := by decide +kernel
theorem dX1_forgottenCells_13 : decode cX1_forgottenCells 13 = .ok (.land, 1) := by decide +kernel
theorem dX1_forgottenCells_14 : decode cX1_forgottenCells 14 = .ok (.lreturn, 1) := by decide +kernel
theorem dX1_looseCells_0 : decode cX1_looseCells 0 = .ok (.aload_n 0, 1) := by decide +kernel
theorem dX1_looseCells_1 : decode cX1_looseCells 1 = .ok (.invokevirtual 73, 3) := by decide +kernel
theorem dX1_looseCells_4 : decode cX1_looseCells 4 = .ok (.lstore_n 1, 1) := by decide +kernel
theorem dX1_looseCells_5 : decode cX1_looseCells 5 = .ok (.aload_n 0, 1) := by decide +kernel
theorem dX1_looseCells_6 : decode cX1_looseCells 6 = .ok (.getfield 32, 3) := by decide +kernel
theorem dX1_looseCells_9 : decode cX1_looseCells 9 = .ok (.aload_n 0, 1) := by decide +kernel
theorem dX1_looseCells_10 : decode cX1_looseCells 10 = .ok (.getfield 36, 3) := by decide +kernel
theorem dX1_looseCells_13 : decode cX1_looseCells 13 = .ok (.lor, 1) := by decide +kernel
theorem dX1_looseCells_14 : decode cX1_looseCells 14 = .ok (.lload_n 1, 1) := by decide +kernel
theorem dX1_looseCells_15 : decode cX1_looseCells 15 = .ok (.lor, 1) := by decide +kernel
theorem dX1_looseCells_16 : decode cX1_looseCells 16 = .ok (.lstore_n 3, 1) := by decide +kernel
theorem dX1_looseCells_17 : decode cX1_looseCells 17 = .ok (.iconst 0, 1) := by decide +kernel
theorem dX1_looseCells_18 : decode cX1_looseCells 18 = .ok (.istore 5, 2) := by decide +kernel
theorem dX1_looseCells_20 : decode cX1_looseCells 20 = .ok (.iload 5, 2) := by decide +kernel
theorem dX1_looseCells_22 : decode cX1_looseCells 22 = .ok (.bipush 60, 2) := by decide +kernel
theorem dX1_looseCells_24 : decode cX1_looseCells 24 = .ok (.if_icmp .ge 33, 3) := by decide +kernel
theorem dX1_looseCells_27 : decode cX1_looseCells 27 = .ok (.lload_n 1, 1) := by decide +kernel
theorem dX1_looseCells_28 : decode cX1_looseCells 28 = .ok (.aload_n 0, 1) := by decide +kernel
theorem dX1_looseCells_29 : decode cX1_looseCells 29 = .ok (.lload_n 1, 1) := by decide +kernel
theorem dX1_looseCells_30 : decode cX1_looseCells 30 = .ok (.invokevirtual 94, 3) := by decide +kernel
theorem dX1_looseCells_33 : decode cX1_looseCells 33 = .ok (.lload_n 3, 1) := by decide +kernel
theorem dX1_looseCells_34 : decode cX1_looseCells 34 = .ok (.land, 1) := by decide +kernel
theorem dX1_looseCells_35 : decode cX1_looseCells 35 = .ok (.lor, 1) := by decide +kernel
theorem dX1_looseCells_36 : decode cX1_looseCells 36 = .ok (.lstore 6, 2) := by decide +kernel
theorem dX1_looseCells_38 : decode cX1_looseCells 38 = .ok (.lload 6, 2) := by decide +kernel
theorem dX1_looseCells_40 : decode cX1_looseCells 40 = .ok (.lload_n 1, 1) := by decide +kernel
theorem dX1_looseCells_41 : decode cX1_looseCells 41 = .ok (.lcmp, 1) := by decide +kernel
theorem dX1_looseCells_42 : decode cX1_looseCells 42 = .ok (.ifCond .ne 6, 3) := by decide +kernel
theorem dX1_looseCells_45 : decode cX1_looseCells 45 = .ok (.goto 12, 3) := by decide +kernel
theorem dX1_looseCells_48 : decode cX1_looseCells 48 = .ok (.lload 6, 2) := by decide +kernel
theorem dX1_looseCells_50 : decode cX1_looseCells 50 = .ok (.lstore_n 1, 1) := by decide +kernel
theorem dX1_looseCells_51 : decode cX1_looseCells 51 = .ok (.iinc 5 1, 3) := by decide +kernel
theorem dX1_looseCells_54 : decode cX1_looseCells 54 = .ok (.goto (-34), 3) := by decide +kernel
theorem dX1_looseCells_57 : decode cX1_looseCells 57 = .ok (.aload_n 0, 1) := by decide +kernel
theorem dX1_looseCells_58 : decode cX1_looseCells 58 = .ok (.invokevirtual 98, 3) := by decide +kernel
theorem dX1_looseCells_61 : decode cX1_looseCells 61 = .ok (.lload_n 1, 1) := by decide +kernel
theorem dX1_looseCells_62 : decode cX1_looseCells 62 = .ok (.ldc2_w 65, 3) := by decide +kernel
theorem dX1_looseCells_65 : decode cX1_looseCells 65 = .ok (.lxor, 1) := by decide +kernel
theorem dX1_looseCells_66 : decode cX1_looseCells 66 = .ok (.land, 1) := by decide +kernel
theorem dX1_looseCells_67 : decode cX1_looseCells 67 = .ok (.lreturn, 1) := by decide +kernel
theorem dX1_neighbors_0 : decode cX1_neighbors 0 = .ok (.aload_n 0, 1) := by decide +kernel
theorem dX1_neighbors_1 : decode cX1_neighbors 1 = .ok (.iconst 0, 1) := by decide +kernel
theorem dX1_neighbors_2 : decode cX1_neighbors 2 = .ok (.iconst 0, 1) := by decide +kernel
theorem dX1_neighbors_3 : decode cX1_neighbors 3 = .ok (.iconst 1, 1) := by decide +kernel
theorem dX1_neighbors_4 : decode cX1_neighbors 4 = .ok (.aload_n 0, 1) := by decide +kernel
theorem dX1_neighbors_5 : decode cX1_neighbors 5 = .ok (.getfield 15, 3) := by decide +kernel
theorem dX1_neighbors_8 : decode cX1_neighbors 8 = .ok (.invokevirtual 101, 3) := by decide +kernel
theorem dX1_neighbors_11 : decode cX1_neighbors 11 = .ok (.lstore_n 3, 1) := by decide +kernel
theorem dX1_neighbors_12 : decode cX1_neighbors 12 = .ok (.lload_n 3, 1) := by decide +kernel
theorem dX1_neighbors_13 : decode cX1_neighbors 13 = .ok (.aload_n 0, 1) := by decide +kernel
theorem dX1_neighbors_14 : decode cX1_neighbors 14 = .ok (.getfield 9, 3) := by decide +kernel
theorem dX1_neighbors_17 : decode cX1_neighbors 17 = .ok (.iconst 1, 1) := by decide +kernel
theorem dX1_neighbors_18 : decode cX1_neighbors 18 = .ok (.isub, 1) := by decide +kernel
theorem dX1_neighbors_19 : decode cX1_neighbors 19 = .ok (.lshl, 1) := by decide +kernel
theorem dX1_neighbors_20 : decode cX1_neighbors 20 = .ok (.lstore 5, 2) := by decide +kernel
theorem dX1_neighbors_22 : decode cX1_neighbors 22 = .ok (.lload_n 1, 1) := by decide +kernel
theorem dX1_neighbors_23 : decode cX1_neighbors 23 = .ok (.lload 5, 2) := by decide +kernel
theorem dX1_neighbors_25 : decode cX1_neighbors 25 = .ok (.ldc2_w 65, 3) := by decide +kernel
theorem dX1_neighbors_28 : decode cX1_neighbors 28 = .ok (.lxor, 1) := by decide +kernel
theorem dX1_neighbors_29 : decode cX1_neighbors 29 = .ok (.land, 1) := by decide +kernel
theorem dX1_neighbors_30 : decode cX1_neighbors 30 = .ok (.iconst 1, 1) := by decide +kernel
theorem dX1_neighbors_31 : decode cX1_neighbors 31 = .ok (.lshl, 1) := by decide +kernel
theorem dX1_neighbors_32 : decode cX1_neighbors 32 = .ok (.lload_n 1, 1) := by decide +kernel
theorem dX1_neighbors_33 : decode cX1_neighbors 33 = .ok (.lload_n 3, 1) := by decide +kernel
theorem dX1_neighbors_34 : decode cX1_neighbors 34 = .ok (.ldc2_w 65, 3) := by decide +kernel
theorem dX1_neighbors_37 : decode cX1_neighbors 37 = .ok (.lxor, 1) := by decide +kernel
theorem dX1_neighbors_38 : decode cX1_neighbors 38 = .ok (.land, 1) := by decide +kernel
theorem dX1_neighbors_39 : decode cX1_neighbors 39 = .ok (.iconst 1, 1) := by decide +kernel
theorem dX1_neighbors_40 : decode cX1_neighbors 40 = .ok (.lushr, 1) := by decide +kernel
theorem dX1_neighbors_41 : decode cX1_neighbors 41 = .ok (.lor, 1) := by decide +kernel
theorem dX1_neighbors_42 : decode cX1_neighbors 42 = .ok (.lstore 7, 2) := by decide +kernel
theorem dX1_neighbors_44 : decode cX1_neighbors 44 = .ok (.lload_n 1, 1) := by decide +kernel
theorem dX1_neighbors_45 : decode cX1_neighbors 45 = .ok (.aload_n 0, 1) := by decide +kernel
theorem dX1_neighbors_46 : decode cX1_neighbors 46 = .ok (.getfield 9, 3) := by decide +kernel
theorem dX1_neighbors_49 : decode cX1_neighbors 49 = .ok (.lshl, 1) := by decide +kernel
theorem dX1_neighbors_50 : decode cX1_neighbors 50 = .ok (.lload_n 1, 1) := by decide +kernel
theorem dX1_neighbors_51 : decode cX1_neighbors 51 = .ok (.aload_n 0, 1) := by decide +kernel
theorem dX1_neighbors_52 : decode cX1_neighbors 52 = .ok (.getfield 9, 3) := by decide +kernel
theorem dX1_neighbors_55 : decode cX1_neighbors 55 = .ok (.lushr, 1) := by decide +kernel
theorem dX1_neighbors_56 : decode cX1_neighbors 56 = .ok (.lor, 1) := by decide +kernel
theorem dX1_neighbors_57 : decode cX1_neighbors 57 = .ok (.lstore 9, 2) := by decide +kernel
theorem dX1_neighbors_59 : decode cX1_neighbors 59 = .ok (.lload 7, 2) := by decide +kernel
theorem dX1_neighbors_61 : decode cX1_neighbors 61 = .ok (.lload 9, 2) := by decide +kernel
theorem dX1_neighbors_63 : decode cX1_neighbors 63 = .ok (.lor, 1) := by decide +kernel
theorem dX1_neighbors_64 : decode cX1_neighbors 64 = .ok (.aload_n 0, 1) := by decide +kernel
theorem dX1_neighbors_65 : decode cX1_neighbors 65 = .ok (.invokevirtual 77, 3) := by decide +kernel
theorem dX1_neighbors_68 : decode cX1_neighbors 68 = .ok (.land, 1) := by decide +kernel
theorem dX1_neighbors_69 : decode cX1_neighbors 69 = .ok (.lreturn, 1) := by decide +kernel
theorem dX1_hasPlaceForSecond_0 : decode cX1_hasPlaceForSecond 0 = .ok (.aload_n 0, 1) := by decide +kernel
theorem dX1_hasPlaceForSecond_1 : decode cX1_hasPlaceForSecond 1 = .ok (.invokevirtual 98, 3) := by decide +kernel
theorem dX1_hasPlaceForSecond_4 : decode cX1_hasPlaceForSecond 4 = .ok (.lstore_n 1, 1) := by decide +kernel
theorem dX1_hasPlaceForSecond_5 : decode cX1_hasPlaceForSecond 5 = .ok (.aload_n 0, 1) := by decide +kernel
theorem dX1_hasPlaceForSecond_6 : decode cX1_hasPlaceForSecond 6 = .ok (.lload_n 1, 1) := by decide +kernel
theorem dX1_hasPlaceForSecond_7 : decode cX1_hasPlaceForSecond 7 = .ok (.invokevirtual 105, 3) := by decide +kernel
theorem dX1_hasPlaceForSecond_10 : decode cX1_hasPlaceForSecond 10 = .ok (.lstore_n 3, 1) := by decide +kernel
theorem dX1_hasPlaceForSecond_11 : decode cX1_hasPlaceForSecond 11 = .ok (.lload_n 1, 1) := by decide +kernel
theorem dX1_hasPlaceForSecond_12 : decode cX1_hasPlaceForSecond 12 = .ok (.lconst 0, 1) := by decide +kernel
theorem dX1_hasPlaceForSecond_13 : decode cX1_hasPlaceForSecond 13 = .ok (.lcmp, 1) := by decide +kernel
theorem dX1_hasPlaceForSecond_14 : decode cX1_hasPlaceForSecond 14 = .ok (.ifCond .eq 26, 3) := by decide +kernel
theorem dX1_hasPlaceForSecond_17 : decode cX1_hasPlaceForSecond 17 = .ok (.lload_n 3, 1) := by decide +kernel
theorem dX1_hasPlaceForSecond_18 : decode cX1_hasPlaceForSecond 18 = .ok (.aload_n 0, 1) := by decide +kernel
theorem dX1_hasPlaceForSecond_19 : decode cX1_hasPlaceForSecond 19 = .ok (.invokevirtual 73, 3) := by decide +kernel
theorem dX1_hasPlaceForSecond_22 : decode cX1_hasPlaceForSecond 22 = .ok (.lload_n 1, 1) := by decide +kernel
theorem dX1_hasPlaceForSecond_23 : decode cX1_hasPlaceForSecond 23 = .ok (.lor, 1) := by decide +kernel
theorem dX1_hasPlaceForSecond_24 : decode cX1_hasPlaceForSecond 24 = .ok (.aload_n 0, 1) := by decide +kernel
theorem dX1_hasPlaceForSecond_25 : decode cX1_hasPlaceForSecond 25 = .ok (.lload_n 1, 1) := by decide +kernel
theorem dX1_hasPlaceForSecond_26 : decode cX1_hasPlaceForSecond 26 = .ok (.invokevirtual 94, 3) := by decide +kernel
theorem dX1_hasPlaceForSecond_29 : decode cX1_hasPlaceForSecond 29 = .ok (.lor, 1) := by decide +kernel
theorem dX1_hasPlaceForSecond_30 : decode cX1_hasPlaceForSecond 30 = .ok (.land, 1) := by decide +kernel
theorem dX1_hasPlaceForSecond_31 : decode cX1_hasPlaceForSecond 31 = .ok (.lconst 0, 1) := by decide +kernel
theorem dX1_hasPlaceForSecond_32 : decode cX1_hasPlaceForSecond 32 = .ok (.lcmp, 1) := by decide +kernel
theorem dX1_hasPlaceForSecond_33 : decode cX1_hasPlaceForSecond 33 = .ok (.ifCond .ne 7, 3) := by decide +kernel
theorem dX1_hasPlaceForSecond_36 : decode cX1_hasPlaceForSecond 36 = .ok (.iconst 1, 1) := by decide +kernel
theorem dX1_hasPlaceForSecond_37 : decode cX1_hasPlaceForSecond 37 = .ok (.goto 4, 3) := by decide +kernel
theorem dX1_hasPlaceForSecond_40 : decode cX1_hasPlaceForSecond 40 = .ok (.iconst 0, 1) := by decide +kernel
theorem dX1_hasPlaceForSecond_41 : decode cX1_hasPlaceForSecond 41 = .ok (.ireturn, 1) := by decide +kernel
theorem dX1_halfTurned_0 : decode cX1_halfTurned 0 = .ok (.aload_n 0, 1) := by decide +kernel
theorem dX1_halfTurned_1 : decode cX1_halfTurned 1 = .ok (.getfield 9, 3) := by decide +kernel
theorem dX1_halfTurned_4 : decode cX1_halfTurned 4 = .ok (.aload_n 0, 1) := by decide +kernel
theorem dX1_halfTurned_5 : decode cX1_halfTurned 5 = .ok (.getfield 15, 3) := by decide +kernel
theorem dX1_halfTurned_8 : decode cX1_halfTurned 8 = .ok (.imul, 1) := by decide +kernel
theorem dX1_halfTurned_9 : decode cX1_halfTurned 9 = .ok (.iconst 1, 1) := by decide +kernel
theorem dX1_halfTurned_10 : decode cX1_halfTurned 10 = .ok (.isub, 1) := by decide +kernel
theorem dX1_halfTurned_11 : decode cX1_halfTurned 11 = .ok (.istore_n 3, 1) := by decide +kernel
theorem dX1_halfTurned_12 : decode cX1_halfTurned 12 = .ok (.lconst 0, 1) := by decide +kernel
theorem dX1_halfTurned_13 : decode cX1_halfTurned 13 = .ok (.lstore 4, 2) := by decide +kernel
theorem dX1_halfTurned_15 : decode cX1_halfTurned 15 = .ok (.iconst 0, 1) := by decide +kernel
theorem dX1_halfTurned_16 : decode cX1_halfTurned 16 = .ok (.istore 6, 2) := by decide +kernel
theorem dX1_halfTurned_18 : decode cX1_halfTurned 18 = .ok (.iload 6, 2) := by decide +kernel
theorem dX1_halfTurned_20 : decode cX1_halfTurned 20 = .ok (.iload_n 3, 1) := by decide +kernel
theorem dX1_halfTurned_21 : decode cX1_halfTurned 21 = .ok (.if_icmp .gt 25, 3) := by decide +kernel
theorem dX1_halfTurned_24 : decode cX1_halfTurned 24 = .ok (.lload 4, 2) := by decide +kernel
theorem dX1_halfTurned_26 : decode cX1_halfTurned 26 = .ok (.lload_n 1, 1) := by decide +kernel
theorem dX1_halfTurned_27 : decode cX1_halfTurned 27 = .ok (.iload 6, 2) := by decide +kernel
theorem dX1_halfTurned_29 : decode cX1_halfTurned 29 = .ok (.lushr, 1) := by decide +kernel
theorem dX1_halfTurned_30 : decode cX1_halfTurned 30 = .ok (.lconst 1, 1) := by decide +kernel
theorem dX1_halfTurned_31 : decode cX1_halfTurned 31 = .ok (.land, 1) := by decide +kernel
theorem dX1_halfTurned_32 : decode cX1_halfTurned 32 = .ok (.iload_n 3, 1) := by decide +kernel
theorem dX1_halfTurned_33 : decode cX1_halfTurned 33 = .ok (.iload 6, 2) := by decide +kernel
theorem dX1_halfTurned_35 : decode cX1_halfTurned 35 = .ok (.isub, 1) := by decide +kernel
theorem dX1_halfTurned_36 : decode cX1_halfTurned 36 = .ok (.lshl, 1) := by decide +kernel
theorem dX1_halfTurned_37 : decode cX1_halfTurned 37 = .ok (.lor, 1) := by decide +kernel
theorem dX1_halfTurned_38 : decode cX1_halfTurned 38 = .ok (.lstore 4, 2) := by decide +kernel
theorem dX1_halfTurned_40 : decode cX1_halfTurned 40 = .ok (.iinc 6 1, 3) := by decide +kernel
theorem dX1_halfTurned_43 : decode cX1_halfTurned 43 = .ok (.goto (-25), 3) := by decide +kernel
theorem dX1_halfTurned_46 : decode cX1_halfTurned 46 = .ok (.lload 4, 2) := by decide +kernel
theorem dX1_halfTurned_48 : decode cX1_halfTurned 48 = .ok (.lreturn, 1) := by decide +kernel
theorem dX1_faultOfDie_0 : decode cX1_faultOfDie 0 = .ok (.aload_n 0, 1) := by decide +kernel
theorem dX1_faultOfDie_1 : decode cX1_faultOfDie 1 = .ok (.invokevirtual 98, 3) := by decide +kernel
theorem dX1_faultOfDie_4 : decode cX1_faultOfDie 4 = .ok (.lstore_n 1, 1) := by decide +kernel
theorem dX1_faultOfDie_5 : decode cX1_faultOfDie 5 = .ok (.aload_n 0, 1) := by decide +kernel
theorem dX1_faultOfDie_6 : decode cX1_faultOfDie 6 = .ok (.iconst 0, 1) := by decide +kernel
theorem dX1_faultOfDie_7 : decode cX1_faultOfDie 7 = .ok (.invokevirtual 91, 3) := by decide +kernel
theorem dX1_faultOfDie_10 : decode cX1_faultOfDie 10 = .ok (.lstore_n 3, 1) := by decide +kernel
theorem dX1_faultOfDie_11 : decode cX1_faultOfDie 11 = .ok (.lload_n 1, 1) := by decide +kernel
theorem dX1_faultOfDie_12 : decode cX1_faultOfDie 12 = .ok (.lconst 0, 1) := by decide +kernel
theorem dX1_faultOfDie_13 : decode cX1_faultOfDie 13 = .ok (.lcmp, 1) := by decide +kernel
theorem dX1_faultOfDie_14 : decode cX1_faultOfDie 14 = .ok (.ifCond .ne 5, 3) := by decide +kernel
theorem dX1_faultOfDie_17 : decode cX1_faultOfDie 17 = .ok (.iconst 1, 1) := by decide +kernel
theorem dX1_faultOfDie_18 : decode cX1_faultOfDie 18 = .ok (.ireturn, 1) := by decide +kernel
theorem dX1_faultOfDie_19 : decode cX1_faultOfDie 19 = .ok (.lload_n 3, 1) := by decide +kernel
theorem dX1_faultOfDie_20 : decode cX1_faultOfDie 20 = .ok (.lload_n 1, 1) := by decide +kernel
theorem dX1_faultOfDie_21 : decode cX1_faultOfDie 21 = .ok (.aload_n 0, 1) := by decide +kernel
theorem dX1_faultOfDie_22 : decode cX1_faultOfDie 22 = .ok (.invokevirtual 108, 3) := by decide +kernel
theorem dX1_faultOfDie_25 : decode cX1_faultOfDie 25 = .ok (.lor, 1) := by decide +kernel
theorem dX1_faultOfDie_26 : decode cX1_faultOfDie 26 = .ok (.land, 1) := by decide +kernel
theorem dX1_faultOfDie_27 : decode cX1_faultOfDie 27 = .ok (.lconst 0, 1) := by decide +kernel
theorem dX1_faultOfDie_28 : decode cX1_faultOfDie 28 = .ok (.lcmp, 1) := by decide +kernel
theorem dX1_faultOfDie_29 : decode cX1_faultOfDie 29 = .ok (.ifCond .eq 5, 3) := by decide +kernel
theorem dX1_faultOfDie_32 : decode cX1_faultOfDie 32 = .ok (.iconst 2, 1) := by decide +kernel
theorem dX1_faultOfDie_33 : decode cX1_faultOfDie 33 = .ok (.ireturn, 1) := by decide +kernel
theorem dX1_faultOfDie_34 : decode cX1_faultOfDie 34 = .ok (.lload_n 3, 1) := by decide +kernel
theorem dX1_faultOfDie_35 : decode cX1_faultOfDie 35 = .ok (.aload_n 0, 1) := by decide +kernel
theorem dX1_faultOfDie_36 : decode cX1_faultOfDie 36 = .ok (.invokevirtual 73, 3) := by decide +kernel
theorem dX1_faultOfDie_39 : decode cX1_faultOfDie 39 = .ok (.land, 1) := by decide +kernel
theorem dX1_faultOfDie_40 : decode cX1_faultOfDie 40 = .ok (.lconst 0, 1) := by decide +kernel
theorem dX1_faultOfDie_41 : decode cX1_faultOfDie 41 = .ok (.lcmp, 1) := by decide +kernel
theorem dX1_faultOfDie_42 : decode cX1_faultOfDie 42 = .ok (.ifCond .eq 5, 3) := by decide +kernel
theorem dX1_faultOfDie_45 : decode cX1_faultOfDie 45 = .ok (.iconst 3, 1) := by decide +kernel
theorem dX1_faultOfDie_46 : decode cX1_faultOfDie 46 = .ok (.ireturn, 1) := by decide +kernel
theorem dX1_faultOfDie_47 : decode cX1_faultOfDie 47 = .ok (.aload_n 0, 1) := by decide +kernel
theorem dX1_faultOfDie_48 : decode cX1_faultOfDie 48 = .ok (.iconst 1, 1) := by decide +kernel
theorem dX1_faultOfDie_49 : decode cX1_faultOfDie 49 = .ok (.invokevirtual 91, 3) := by decide +kernel
theorem dX1_faultOfDie_52 : decode cX1_faultOfDie 52 = .ok (.lload_n 1, 1) := by decide +kernel
theorem dX1_faultOfDie_53 : decode cX1_faultOfDie 53 = .ok (.ldc2_w 65, 3) := by decide +kernel
theorem dX1_faultOfDie_56 : decode cX1_faultOfDie 56 = .ok (.lxor, 1) := by decide +kernel
theorem dX1_faultOfDie_57 : decode cX1_faultOfDie 57 = .ok (.land, 1) := by decide +kernel
theorem dX1_faultOfDie_58 : decode cX1_faultOfDie 58 = .ok (.lconst 0, 1) := by decide +kernel
theorem dX1_faultOfDie_59 : decode cX1_faultOfDie 59 = .ok (.lcmp, 1) := by decide +kernel
theorem dX1_faultOfDie_60 : decode cX1_faultOfDie 60 = .ok (.ifCond .eq 5, 3) := by decide +kernel
theorem dX1_faultOfDie_63 : decode cX1_faultOfDie 63 = .ok (.iconst 4, 1) := by decide +kernel
theorem dX1_faultOfDie_64 : decode cX1_faultOfDie 64 = .ok (.ireturn, 1) := by decide +kernel
theorem dX1_faultOfDie_65 : decode cX1_faultOfDie 65 = .ok (.aload_n 0, 1) := by decide +kernel
theorem dX1_faultOfDie_66 : decode cX1_faultOfDie 66 = .ok (.invokevirtual 111, 3) := by decide +kernel
theorem dX1_faultOfDie_69 : decode cX1_faultOfDie 69 = .ok (.lconst 0, 1) := by decide +kernel
theorem dX1_faultOfDie_70 : decode cX1_faultOfDie 70 = .ok (.lcmp, 1) := by decide +kernel
theorem dX1_faultOfDie_71 : decode cX1_faultOfDie 71 = .ok (.ifCond .eq 5, 3) := by decide +kernel
theorem dX1_faultOfDie_74 : decode cX1_faultOfDie 74 = .ok (.iconst 5, 1) := by decide +kernel
theorem dX1_faultOfDie_75 : decode cX1_faultOfDie 75 = .ok (.ireturn, 1) := by decide +kernel
theorem dX1_faultOfDie_76 : decode cX1_faultOfDie 76 = .ok (.aload_n 0, 1) := by decide +kernel
theorem dX1_faultOfDie_77 : decode cX1_faultOfDie 77 = .ok (.invokevirtual 114, 3) := by decide +kernel
theorem dX1_faultOfDie_80 : decode cX1_faultOfDie 80 = .ok (.lconst 0, 1) := by decide +kernel
theorem dX1_faultOfDie_81 : decode cX1_faultOfDie 81 = .ok (.lcmp, 1) := by decide +kernel
theorem dX1_faultOfDie_82 : decode cX1_faultOfDie 82 = .ok (.ifCond .eq 8, 3) := by decide +kernel
theorem dX1_faultOfDie_85 : decode cX1_faultOfDie 85 = .ok (.bipush 6, 2) := by decide +kernel
theorem dX1_faultOfDie_87 : decode cX1_faultOfDie 87 = .ok (.goto 4, 3) := by decide +kernel
theorem dX1_faultOfDie_90 : decode cX1_faultOfDie 90 = .ok (.iconst 0, 1) := by decide +kernel
theorem dX1_faultOfDie_91 : decode cX1_faultOfDie 91 = .ok (.ireturn, 1) := by decide +kernel
theorem dX1_isFull_0 : decode cX1_isFull 0 = .ok (.aload_n 0, 1) := by decide +kernel
theorem dX1_isFull_1 : decode cX1_isFull 1 = .ok (.getfield 39, 3) := by decide +kernel
theorem dX1_isFull_4 : decode cX1_isFull 4 = .ok (.bipush 6, 2) := by decide +kernel
theorem dX1_isFull_6 : decode cX1_isFull 6 = .ok (.if_icmp .lt 7, 3) := by decide +kernel
theorem dX1_isFull_9 : decode cX1_isFull 9 = .ok (.iconst 1, 1) := by decide +kernel
theorem dX1_isFull_10 : decode cX1_isFull 10 = .ok (.goto 4, 3) := by decide +kernel
theorem dX1_isFull_13 : decode cX1_isFull 13 = .ok (.iconst 0, 1) := by decide +kernel
theorem dX1_isFull_14 : decode cX1_isFull 14 = .ok (.ireturn, 1) := by decide +kernel
theorem dX1_hasOperation_0 : decode cX1_hasOperation 0 = .ok (.iload_n 1, 1) := by decide +kernel
theorem dX1_hasOperation_1 : decode cX1_hasOperation 1 = .ok (.ifCond .lt 15, 3) := by decide +kernel
theorem dX1_hasOperation_4 : decode cX1_hasOperation 4 = .ok (.iload_n 1, 1) := by decide +kernel
theorem dX1_hasOperation_5 : decode cX1_hasOperation 5 = .ok (.aload_n 0, 1) := by decide +kernel
theorem dX1_hasOperation_6 : decode cX1_hasOperation 6 = .ok (.getfield 39, 3) := by decide +kernel
theorem dX1_hasOperation_9 : decode cX1_hasOperation 9 = .ok (.if_icmp .ge 7, 3) := by decide +kernel
theorem dX1_hasOperation_12 : decode cX1_hasOperation 12 = .ok (.iconst 1, 1) := by decide +kernel
theorem dX1_hasOperation_13 : decode cX1_hasOperation 13 = .ok (.goto 4, 3) := by decide +kernel
theorem dX1_hasOperation_16 : decode cX1_hasOperation 16 = .ok (.iconst 0, 1) := by decide +kernel
theorem dX1_hasOperation_17 : decode cX1_hasOperation 17 = .ok (.ireturn, 1) := by decide +kernel
theorem dX1_fact_0 : decode cX1_fact 0 = .ok (.iload_n 1, 1) := by decide +kernel
theorem dX1_fact_1 : decode cX1_fact 1 = .ok (.bipush 7, 2) := by decide +kernel
theorem dX1_fact_3 : decode cX1_fact 3 = .ok (.imul, 1) := by decide +kernel
theorem dX1_fact_4 : decode cX1_fact 4 = .ok (.iload_n 2, 1) := by decide +kernel
theorem dX1_fact_5 : decode cX1_fact 5 = .ok (.iadd, 1) := by decide +kernel
theorem dX1_fact_6 : decode cX1_fact 6 = .ok (.istore_n 3, 1) := by decide +kernel
theorem dX1_fact_7 : decode cX1_fact 7 = .ok (.iload_n 3, 1) := by decide +kernel
theorem dX1_fact_8 : decode cX1_fact 8 = .ok (.ifCond .lt 21, 3) := by decide +kernel
theorem dX1_fact_11 : decode cX1_fact 11 = .ok (.iload_n 3, 1) := by decide +kernel
theorem dX1_fact_12 : decode cX1_fact 12 = .ok (.aload_n 0, 1) := by decide +kernel
theorem dX1_fact_13 : decode cX1_fact 13 = .ok (.getfield 22, 3) := by decide +kernel
theorem dX1_fact_16 : decode cX1_fact 16 = .ok (.arraylength, 1) := by decide +kernel
theorem dX1_fact_17 : decode cX1_fact 17 = .ok (.if_icmp .ge 12, 3) := by decide +kernel
theorem dX1_fact_20 : decode cX1_fact 20 = .ok (.aload_n 0, 1) := by decide +kernel
theorem dX1_fact_21 : decode cX1_fact 21 = .ok (.getfield 22, 3) := by decide +kernel
theorem dX1_fact_24 : decode cX1_fact 24 = .ok (.iload_n 3, 1) := by decide +kernel
theorem dX1_fact_25 : decode cX1_fact 25 = .ok (.iaload, 1) := by decide +kernel
theorem dX1_fact_26 : decode cX1_fact 26 = .ok (.goto 4, 3) := by decide +kernel
theorem dX1_fact_29 : decode cX1_fact 29 = .ok (.iconst 0, 1) := by decide +kernel
theorem dX1_fact_30 : decode cX1_fact 30 = .ok (.ireturn, 1) := by decide +kernel
theorem dX1_changeFact_0 : decode cX1_changeFact 0 = .ok (.iload_n 1, 1) := by decide +kernel
theorem dX1_changeFact_1 : decode cX1_changeFact 1 = .ok (.bipush 7, 2) := by decide +kernel
theorem dX1_changeFact_3 : decode cX1_changeFact 3 = .ok (.imul, 1) := by decide +kernel
theorem dX1_changeFact_4 : decode cX1_changeFact 4 = .ok (.iload_n 2, 1) := by decide +kernel
theorem dX1_changeFact_5 : decode cX1_changeFact 5 = .ok (.iadd, 1) := by decide +kernel
theorem dX1_changeFact_6 : decode cX1_changeFact 6 = .ok (.istore 4, 2) := by decide +kernel
theorem dX1_changeFact_8 : decode cX1_changeFact 8 = .ok (.iload 4, 2) := by decide +kernel
theorem dX1_changeFact_10 : decode cX1_changeFact 10 = .ok (.ifCond .lt 21, 3) := by decide +kernel
theorem dX1_changeFact_13 : decode cX1_changeFact 13 = .ok (.iload 4, 2) := by decide +kernel
theorem dX1_changeFact_15 : decode cX1_changeFact 15 = .ok (.aload_n 0, 1) := by decide +kernel
theorem dX1_changeFact_16 : decode cX1_changeFact 16 = .ok (.getfield 22, 3) := by decide +kernel
theorem dX1_changeFact_19 : decode cX1_changeFact 19 = .ok (.arraylength, 1) := by decide +kernel
theorem dX1_changeFact_20 : decode cX1_changeFact 20 = .ok (.if_icmp .ge 11, 3) := by decide +kernel
theorem dX1_changeFact_23 : decode cX1_changeFact 23 = .ok (.aload_n 0, 1) := by decide +kernel
theorem dX1_changeFact_24 : decode cX1_changeFact 24 = .ok (.getfield 22, 3) := by decide +kernel
theorem dX1_changeFact_27 : decode cX1_changeFact 27 = .ok (.iload 4, 2) := by decide +kernel
theorem dX1_changeFact_29 : decode cX1_changeFact 29 = .ok (.iload_n 3, 1) := by decide +kernel
theorem dX1_changeFact_30 : decode cX1_changeFact 30 = .ok (.iastore, 1) := by decide +kernel
theorem dX1_changeFact_31 : decode cX1_changeFact 31 = .ok (.return_, 1) := by decide +kernel
theorem dX1_cellsOf_0 : decode cX1_cellsOf 0 = .ok (.iload_n 1, 1) := by decide +kernel
theorem dX1_cellsOf_1 : decode cX1_cellsOf 1 = .ok (.ifCond .lt 21, 3) := by decide +kernel
theorem dX1_cellsOf_4 : decode cX1_cellsOf 4 = .ok (.iload_n 1, 1) := by decide +kernel
theorem dX1_cellsOf_5 : decode cX1_cellsOf 5 = .ok (.aload_n 0, 1) := by decide +kernel
theorem dX1_cellsOf_6 : decode cX1_cellsOf 6 = .ok (.getfield 25, 3) := by decide +kernel
theorem dX1_cellsOf_9 : decode cX1_cellsOf 9 = .ok (.arraylength, 1) := by decide +kernel
theorem dX1_cellsOf_10 : decode cX1_cellsOf 10 = .ok (.if_icmp .ge 12, 3) := by decide +kernel
theorem dX1_cellsOf_13 : decode cX1_cellsOf 13 = .ok (.aload_n 0, 1) := by decide +kernel
theorem dX1_cellsOf_14 : decode cX1_cellsOf 14 = .ok (.getfield 25, 3) := by decide +kernel
theorem dX1_cellsOf_17 : decode cX1_cellsOf 17 = .ok (.iload_n 1, 1) := by decide +kernel
theorem dX1_cellsOf_18 : decode cX1_cellsOf 18 = .ok (.laload, 1) := by decide +kernel
theorem dX1_cellsOf_19 : decode cX1_cellsOf 19 = .ok (.goto 4, 3) := by decide +kernel
theorem dX1_cellsOf_22 : decode cX1_cellsOf 22 = .ok (.lconst 0, 1) := by decide +kernel
theorem dX1_cellsOf_23 : decode cX1_cellsOf 23 = .ok (.lreturn, 1) := by decide +kernel
theorem dX1_changeCells_0 : decode cX1_changeCells 0 = .ok (.iload_n 1, 1) := by decide +kernel
theorem dX1_changeCells_1 : decode cX1_changeCells 1 = .ok (.ifCond .lt 19, 3) := by decide +kernel
theorem dX1_changeCells_4 : decode cX1_changeCells 4 = .ok (.iload_n 1, 1) := by decide +kernel
theorem dX1_changeCells_5 : decode cX1_changeCells 5 = .ok (.aload_n 0, 1) := by decide +kernel
theorem dX1_changeCells_6 : decode cX1_changeCells 6 = .ok (.getfield 25, 3) := by decide +kernel
theorem dX1_changeCells_9 : decode cX1_changeCells 9 = .ok (.arraylength, 1) := by decide +kernel
theorem dX1_changeCells_10 : decode cX1_changeCells 10 = .ok (.if_icmp .ge 10, 3) := by decide +kernel
theorem dX1_changeCells_13 : decode cX1_changeCells 13 = .ok (.aload_n 0, 1) := by decide +kernel
theorem dX1_changeCells_14 : decode cX1_changeCells 14 = .ok (.getfield 25, 3) := by decide +kernel
theorem dX1_changeCells_17 : decode cX1_changeCells 17 = .ok (.iload_n 1, 1) := by decide +kernel
theorem dX1_changeCells_18 : decode cX1_changeCells 18 = .ok (.lload_n 2, 1) := by decide +kernel
theorem dX1_changeCells_19 : decode cX1_changeCells 19 = .ok (.lastore, 1) := by decide +kernel
theorem dX1_changeCells_20 : decode cX1_changeCells 20 = .ok (.return_, 1) := by decide +kernel
theorem dX1_append_0 : decode cX1_append 0 = .ok (.aload_n 0, 1) := by decide +kernel
theorem dX1_append_1 : decode cX1_append 1 = .ok (.getfield 39, 3) := by decide +kernel
theorem dX1_append_4 : decode cX1_append 4 = .ok (.istore 6, 2) := by decide +kernel
theorem dX1_append_6 : decode cX1_append 6 = .ok (.aload_n 0, 1) := by decide +kernel
theorem dX1_append_7 : decode cX1_append 7 = .ok (.iload 6, 2) := by decide +kernel
theorem dX1_append_9 : decode cX1_append 9 = .ok (.iconst 0, 1) := by decide +kernel
theorem dX1_append_10 : decode cX1_append 10 = .ok (.iload_n 1, 1) := by decide +kernel
theorem dX1_append_11 : decode cX1_append 11 = .ok (.invokevirtual 117, 3) := by decide +kernel
theorem dX1_append_14 : decode cX1_append 14 = .ok (.aload_n 0, 1) := by decide +kernel
theorem dX1_append_15 : decode cX1_append 15 = .ok (.iload 6, 2) := by decide +kernel
theorem dX1_append_17 : decode cX1_append 17 = .ok (.iconst 1, 1) := by decide +kernel
theorem dX1_append_18 : decode cX1_append 18 = .ok (.iload_n 2, 1) := by decide +kernel
theorem dX1_append_19 : decode cX1_append 19 = .ok (.invokevirtual 117, 3) := by decide +kernel
theorem dX1_append_22 : decode cX1_append 22 = .ok (.aload_n 0, 1) := by decide +kernel
theorem dX1_append_23 : decode cX1_append 23 = .ok (.iload 6, 2) := by decide +kernel
theorem dX1_append_25 : decode cX1_append 25 = .ok (.iconst 2, 1) := by decide +kernel
theorem dX1_append_26 : decode cX1_append 26 = .ok (.iload_n 3, 1) := by decide +kernel
theorem dX1_append_27 : decode cX1_append 27 = .ok (.invokevirtual 117, 3) := by decide +kernel
theorem dX1_append_30 : decode cX1_append 30 = .ok (.aload_n 0, 1) := by decide +kernel
theorem dX1_append_31 : decode cX1_append 31 = .ok (.iload 6, 2) := by decide +kernel
theorem dX1_append_33 : decode cX1_append 33 = .ok (.iconst 3, 1) := by decide +kernel
theorem dX1_append_34 : decode cX1_append 34 = .ok (.iload 4, 2) := by decide +kernel
theorem dX1_append_36 : decode cX1_append 36 = .ok (.invokevirtual 117, 3) := by decide +kernel
theorem dX1_append_39 : decode cX1_append 39 = .ok (.aload_n 0, 1) := by decide +kernel
theorem dX1_append_40 : decode cX1_append 40 = .ok (.iload 6, 2) := by decide +kernel
theorem dX1_append_42 : decode cX1_append 42 = .ok (.iconst 4, 1) := by decide +kernel
theorem dX1_append_43 : decode cX1_append 43 = .ok (.iload 5, 2) := by decide +kernel
theorem dX1_append_45 : decode cX1_append 45 = .ok (.invokevirtual 117, 3) := by decide +kernel
theorem dX1_append_48 : decode cX1_append 48 = .ok (.aload_n 0, 1) := by decide +kernel
theorem dX1_append_49 : decode cX1_append 49 = .ok (.iload 6, 2) := by decide +kernel
theorem dX1_append_51 : decode cX1_append 51 = .ok (.iconst 5, 1) := by decide +kernel
theorem dX1_append_52 : decode cX1_append 52 = .ok (.iload_n 1, 1) := by decide +kernel
theorem dX1_append_53 : decode cX1_append 53 = .ok (.ifCond .ne 13, 3) := by decide +kernel
theorem dX1_append_56 : decode cX1_append 56 = .ok (.iconst 2, 1) := by decide +kernel
theorem dX1_append_57 : decode cX1_append 57 = .ok (.iload 4, 2) := by decide +kernel
theorem dX1_append_59 : decode cX1_append 59 = .ok (.iload 5, 2) := by decide +kernel
theorem dX1_append_61 : decode cX1_append 61 = .ok (.iadd, 1) := by decide +kernel
theorem dX1_append_62 : decode cX1_append 62 = .ok (.imul, 1) := by decide +kernel
theorem dX1_append_63 : decode cX1_append 63 = .ok (.goto 5, 3) := by decide +kernel
theorem dX1_append_66 : decode cX1_append 66 = .ok (.iload 4, 2) := by decide +kernel
theorem dX1_append_68 : decode cX1_append 68 = .ok (.invokevirtual 117, 3) := by decide +kernel
theorem dX1_append_71 : decode cX1_append 71 = .ok (.aload_n 0, 1) := by decide +kernel
theorem dX1_append_72 : decode cX1_append 72 = .ok (.iload 6, 2) := by decide +kernel
theorem dX1_append_74 : decode cX1_append 74 = .ok (.bipush 6, 2) := by decide +kernel
theorem dX1_append_76 : decode cX1_append 76 = .ok (.iconst (-1), 1) := by decide +kernel
theorem dX1_append_77 : decode cX1_append 77 = .ok (.invokevirtual 117, 3) := by decide +kernel
theorem dX1_append_80 : decode cX1_append 80 = .ok (.aload_n 0, 1) := by decide +kernel
theorem dX1_append_81 : decode cX1_append 81 = .ok (.iload 6, 2) := by decide +kernel
theorem dX1_append_83 : decode cX1_append 83 = .ok (.aload_n 0, 1) := by decide +kernel
theorem dX1_append_84 : decode cX1_append 84 = .ok (.iload_n 2, 1) := by decide +kernel
theorem dX1_append_85 : decode cX1_append 85 = .ok (.iload_n 3, 1) := by decide +kernel
theorem dX1_append_86 : decode cX1_append 86 = .ok (.iload 4, 2) := by decide +kernel
theorem dX1_append_88 : decode cX1_append 88 = .ok (.iload 5, 2) := by decide +kernel
theorem dX1_append_90 : decode cX1_append 90 = .ok (.invokevirtual 101, 3) := by decide +kernel
theorem dX1_append_93 : decode cX1_append 93 = .ok (.invokevirtual 121, 3) := by decide +kernel
theorem dX1_append_96 : decode cX1_append 96 = .ok (.aload_n 0, 1) := by decide +kernel
theorem dX1_append_97 : decode cX1_append 97 = .ok (.dup, 1) := by decide +kernel
theorem dX1_append_98 : decode cX1_append 98 = .ok (.getfield 39, 3) := by decide +kernel
theorem dX1_append_101 : decode cX1_append 101 = .ok (.iconst 1, 1) := by decide +kernel
theorem dX1_append_102 : decode cX1_append 102 = .ok (.iadd, 1) := by decide +kernel
theorem dX1_append_103 : decode cX1_append 103 = .ok (.putfield 39, 3) := by decide +kernel
theorem dX1_append_106 : decode cX1_append 106 = .ok (.iload 6, 2) := by decide +kernel
theorem dX1_append_108 : decode cX1_append 108 = .ok (.ireturn, 1) := by decide +kernel
theorem dX1_remove_0 : decode cX1_remove 0 = .ok (.iload_n 1, 1) := by decide +kernel
theorem dX1_remove_1 : decode cX1_remove 1 = .ok (.istore_n 2, 1) := by decide +kernel
theorem dX1_remove_2 : decode cX1_remove 2 = .ok (.iload_n 2, 1) := by decide +kernel
theorem dX1_remove_3 : decode cX1_remove 3 = .ok (.aload_n 0, 1) := by decide +kernel
theorem dX1_remove_4 : decode cX1_remove 4 = .ok (.getfield 39, 3) := by decide +kernel
theorem dX1_remove_7 : decode cX1_remove 7 = .ok (.iconst 1, 1) := by decide +kernel
theorem dX1_remove_8 : decode cX1_remove 8 = .ok (.isub, 1) := by decide +kernel
theorem dX1_remove_9 : decode cX1_remove 9 = .ok (.if_icmp .ge 49, 3) := by decide +kernel
theorem dX1_remove_12 : decode cX1_remove 12 = .ok (.iconst 0, 1) := by decide +kernel
theorem dX1_remove_13 : decode cX1_remove 13 = .ok (.istore_n 3, 1) := by decide +kernel
theorem dX1_remove_14 : decode cX1_remove 14 = .ok (.iload_n 3, 1) := by decide +kernel
theorem dX1_remove_15 : decode cX1_remove 15 = .ok (.bipush 7, 2) := by decide +kernel
theorem dX1_remove_17 : decode cX1_remove 17 = .ok (.if_icmp .ge 23, 3) := by decide +kernel
theorem dX1_remove_20 : decode cX1_remove 20 = .ok (.aload_n 0, 1) := by decide +kernel
theorem dX1_remove_21 : decode cX1_remove 21 = .ok (.iload_n 2, 1) := by decide +kernel
theorem dX1_remove_22 : decode cX1_remove 22 = .ok (.iload_n 3, 1) := by decide +kernel
theorem dX1_remove_23 : decode cX1_remove 23 = .ok (.aload_n 0, 1) := by decide +kernel
theorem dX1_remove_24 : decode cX1_remove 24 = .ok (.iload_n 2, 1) := by decide +kernel
theorem dX1_remove_25 : decode cX1_remove 25 = .ok (.iconst 1, 1) := by decide +kernel
theorem dX1_remove_26 : decode cX1_remove 26 = .ok (.iadd, 1) := by decide +kernel
theorem dX1_remove_27 : decode cX1_remove 27 = .ok (.iload_n 3, 1) := by decide +kernel
theorem dX1_remove_28 : decode cX1_remove 28 = .ok (.invokevirtual 80, 3) := by decide +kernel
theorem dX1_remove_31 : decode cX1_remove 31 = .ok (.invokevirtual 117, 3) := by decide +kernel
theorem dX1_remove_34 : decode cX1_remove 34 = .ok (.iinc 3 1, 3) := by decide +kernel
theorem dX1_remove_37 : decode cX1_remove 37 = .ok (.goto (-23), 3) := by decide +kernel
theorem dX1_remove_40 : decode cX1_remove 40 = .ok (.aload_n 0, 1) := by decide +kernel
theorem dX1_remove_41 : decode cX1_remove 41 = .ok (.iload_n 2, 1) := by decide +kernel
theorem dX1_remove_42 : decode cX1_remove 42 = .ok (.aload_n 0, 1) := by decide +kernel
theorem dX1_remove_43 : decode cX1_remove 43 = .ok (.iload_n 2, 1) := by decide +kernel
theorem dX1_remove_44 : decode cX1_remove 44 = .ok (.iconst 1, 1) := by decide +kernel
theorem dX1_remove_45 : decode cX1_remove 45 = .ok (.iadd, 1) := by decide +kernel
theorem dX1_remove_46 : decode cX1_remove 46 = .ok (.invokevirtual 84, 3) := by decide +kernel
theorem dX1_remove_49 : decode cX1_remove 49 = .ok (.invokevirtual 121, 3) := by decide +kernel
theorem dX1_remove_52 : decode cX1_remove 52 = .ok (.iinc 2 1, 3) := by decide +kernel
theorem dX1_remove_55 : decode cX1_remove 55 = .ok (.goto (-53), 3) := by decide +kernel
theorem dX1_remove_58 : decode cX1_remove 58 = .ok (.aload_n 0, 1) := by decide +kernel
theorem dX1_remove_59 : decode cX1_remove 59 = .ok (.dup, 1) := by decide +kernel
theorem dX1_remove_60 : decode cX1_remove 60 = .ok (.getfield 39, 3) := by decide +kernel
theorem dX1_remove_63 : decode cX1_remove 63 = .ok (.iconst 1, 1) := by decide +kernel
theorem dX1_remove_64 : decode cX1_remove 64 = .ok (.isub, 1) := by decide +kernel
theorem dX1_remove_65 : decode cX1_remove 65 = .ok (.putfield 39, 3) := by decide +kernel
theorem dX1_remove_68 : decode cX1_remove 68 = .ok (.return_, 1) := by decide +kernel
theorem dX1_touching_0 : decode cX1_touching 0 = .ok (.aload_n 0, 1) := by decide +kernel
theorem dX1_touching_1 : decode cX1_touching 1 = .ok (.iload_n 1, 1) := by decide +kernel
theorem dX1_touching_2 : decode cX1_touching 2 = .ok (.invokevirtual 84, 3) := by decide +kernel
theorem dX1_touching_5 : decode cX1_touching 5 = .ok (.aload_n 0, 1) := by decide +kernel
theorem dX1_touching_6 : decode cX1_touching 6 = .ok (.aload_n 0, 1) := by decide +kernel
theorem dX1_touching_7 : decode cX1_touching 7 = .ok (.iload_n 1, 1) := by decide +kernel
theorem dX1_touching_8 : decode cX1_touching 8 = .ok (.invokevirtual 84, 3) := by decide +kernel
theorem dX1_touching_11 : decode cX1_touching 11 = .ok (.invokevirtual 94, 3) := by decide +kernel
theorem dX1_touching_14 : decode cX1_touching 14 = .ok (.lor, 1) := by decide +kernel
theorem dX1_touching_15 : decode cX1_touching 15 = .ok (.lstore_n 2, 1) := by decide +kernel
theorem dX1_touching_16 : decode cX1_touching 16 = .ok (.iconst 0, 1) := by decide +kernel
theorem dX1_touching_17 : decode cX1_touching 17 = .ok (.istore 4, 2) := by decide +kernel
theorem dX1_touching_19 : decode cX1_touching 19 = .ok (.iconst 0, 1) := by decide +kernel
theorem dX1_touching_20 : decode cX1_touching 20 = .ok (.istore 5, 2) := by decide +kernel
theorem dX1_touching_22 : decode cX1_touching 22 = .ok (.iload 5, 2) := by decide +kernel
theorem dX1_touching_24 : decode cX1_touching 24 = .ok (.aload_n 0, 1) := by decide +kernel
theorem dX1_touching_25 : decode cX1_touching 25 = .ok (.getfield 39, 3) := by decide +kernel
theorem dX1_touching_28 : decode cX1_touching 28 = .ok (.if_icmp .ge 37, 3) := by decide +kernel
theorem dX1_touching_31 : decode cX1_touching 31 = .ok (.iload 5, 2) := by decide +kernel
theorem dX1_touching_33 : decode cX1_touching 33 = .ok (.iload_n 1, 1) := by decide +kernel
theorem dX1_touching_34 : decode cX1_touching 34 = .ok (.if_icmp .eq 25, 3) := by decide +kernel
theorem dX1_touching_37 : decode cX1_touching 37 = .ok (.lload_n 2, 1) := by decide +kernel
theorem dX1_touching_38 : decode cX1_touching 38 = .ok (.aload_n 0, 1) := by decide +kernel
theorem dX1_touching_39 : decode cX1_touching 39 = .ok (.iload 5, 2) := by decide +kernel
theorem dX1_touching_41 : decode cX1_touching 41 = .ok (.invokevirtual 84, 3) := by decide +kernel
theorem dX1_touching_44 : decode cX1_touching 44 = .ok (.land, 1) := by decide +kernel
theorem dX1_touching_45 : decode cX1_touching 45 = .ok (.lconst 0, 1) := by decide +kernel
theorem dX1_touching_46 : decode cX1_touching 46 = .ok (.lcmp, 1) := by decide +kernel
theorem dX1_touching_47 : decode cX1_touching 47 = .ok (.ifCond .eq 12, 3) := by decide +kernel
theorem dX1_touching_50 : decode cX1_touching 50 = .ok (.iload 4, 2) := by decide +kernel
theorem dX1_touching_52 : decode cX1_touching 52 = .ok (.iconst 1, 1) := by decide +kernel
theorem dX1_touching_53 : decode cX1_touching 53 = .ok (.iload 5, 2) := by decide +kernel
theorem dX1_touching_55 : decode cX1_touching 55 = .ok (.ishl, 1) := by decide +kernel
theorem dX1_touching_56 : decode cX1_touching 56 = .ok (.ior, 1) := by decide +kernel
theorem dX1_touching_57 : decode cX1_touching 57 = .ok (.istore 4, 2) := by decide +kernel
theorem dX1_touching_59 : decode cX1_touching 59 = .ok (.iinc 5 1, 3) := by decide +kernel
theorem dX1_touching_62 : decode cX1_touching 62 = .ok (.goto (-40), 3) := by decide +kernel
theorem dX1_touching_65 : decode cX1_touching 65 = .ok (.iload 4, 2) := by decide +kernel
theorem dX1_touching_67 : decode cX1_touching 67 = .ok (.ireturn, 1) := by decide +kernel
theorem dX1_planStations_0 : decode cX1_planStations 0 = .ok (.iconst (-1), 1) := by decide +kernel
theorem dX1_planStations_1 : decode cX1_planStations 1 = .ok (.istore_n 1, 1) := by decide +kernel
theorem dX1_planStations_2 : decode cX1_planStations 2 = .ok (.iconst 0, 1) := by decide +kernel
theorem dX1_planStations_3 : decode cX1_planStations 3 = .ok (.istore_n 2, 1) := by decide +kernel
theorem dX1_planStations_4 : decode cX1_planStations 4 = .ok (.iload_n 2, 1) := by decide +kernel
theorem dX1_planStations_5 : decode cX1_planStations 5 = .ok (.aload_n 0, 1) := by decide +kernel
theorem dX1_planStations_6 : decode cX1_planStations 6 = .ok (.getfield 39, 3) := by decide +kernel
theorem dX1_planStations_9 : decode cX1_planStations 9 = .ok (.if_icmp .ge 21, 3) := by decide +kernel
theorem dX1_planStations_12 : decode cX1_planStations 12 = .ok (.iload_n 1, 1) := by decide +kernel
theorem dX1_planStations_13 : decode cX1_planStations 13 = .ok (.aload_n 0, 1) := by decide +kernel
theorem dX1_planStations_14 : decode cX1_planStations 14 = .ok (.iload_n 2, 1) := by decide +kernel
theorem dX1_planStations_15 : decode cX1_planStations 15 = .ok (.bipush 6, 2) := by decide +kernel
theorem dX1_planStations_17 : decode cX1_planStations 17 = .ok (.invokevirtual 80, 3) := by decide +kernel
theorem dX1_planStations_20 : decode cX1_planStations 20 = .ok (.invokestatic 125, 3) := by decide +kernel
theorem dX1_planStations_23 : decode cX1_planStations 23 = .ok (.istore_n 1, 1) := by decide +kernel
theorem dX1_planStations_24 : decode cX1_planStations 24 = .ok (.iinc 2 1, 3) := by decide +kernel
theorem dX1_planStations_27 : decode cX1_planStations 27 = .ok (.goto (-23), 3) := by decide +kernel
theorem dX1_planStations_30 : decode cX1_planStations 30 = .ok (.iload_n 1, 1) := by decide +kernel
theorem dX1_planStations_31 : decode cX1_planStations 31 = .ok (.iconst 1, 1) := by decide +kernel
theorem dX1_planStations_32 : decode cX1_planStations 32 = .ok (.iadd, 1) := by decide +kernel
theorem dX1_planStations_33 : decode cX1_planStations 33 = .ok (.ireturn, 1) := by decide +kernel
theorem dX1_operationsAt_0 : decode cX1_operationsAt 0 = .ok (.iconst 0, 1) := by decide +kernel
theorem dX1_operationsAt_1 : decode cX1_operationsAt 1 = .ok (.istore_n 2, 1) := by decide +kernel
theorem dX1_operationsAt_2 : decode cX1_operationsAt 2 = .ok (.iconst 0, 1) := by decide +kernel
theorem dX1_operationsAt_3 : decode cX1_operationsAt 3 = .ok (.istore_n 3, 1) := by decide +kernel
theorem dX1_operationsAt_4 : decode cX1_operationsAt 4 = .ok (.iload_n 3, 1) := by decide +kernel
theorem dX1_operationsAt_5 : decode cX1_operationsAt 5 = .ok (.aload_n 0, 1) := by decide +kernel
theorem dX1_operationsAt_6 : decode cX1_operationsAt 6 = .ok (.getfield 39, 3) := by decide +kernel
theorem dX1_operationsAt_9 : decode cX1_operationsAt 9 = .ok (.if_icmp .ge 26, 3) := by decide +kernel
theorem dX1_operationsAt_12 : decode cX1_operationsAt 12 = .ok (.aload_n 0, 1) := by decide +kernel
theorem dX1_operationsAt_13 : decode cX1_operationsAt 13 = .ok (.iload_n 3, 1) := by decide +kernel
theorem dX1_operationsAt_14 : decode cX1_operationsAt 14 = .ok (.bipush 6, 2) := by decide +kernel
theorem dX1_operationsAt_16 : decode cX1_operationsAt 16 = .ok (.invokevirtual 80, 3) := by decide +kernel
theorem dX1_operationsAt_19 : decode cX1_operationsAt 19 = .ok (.iload_n 1, 1) := by decide +kernel
theorem dX1_operationsAt_20 : decode cX1_operationsAt 20 = .ok (.if_icmp .ne 9, 3) := by decide +kernel
theorem dX1_operationsAt_23 : decode cX1_operationsAt 23 = .ok (.iload_n 2, 1) := by decide +kernel
theorem dX1_operationsAt_24 : decode cX1_operationsAt 24 = .ok (.iconst 1, 1) := by decide +kernel
theorem dX1_operationsAt_25 : decode cX1_operationsAt 25 = .ok (.iload_n 3, 1) := by decide +kernel
theorem dX1_operationsAt_26 : decode cX1_operationsAt 26 = .ok (.ishl, 1) := by decide +kernel
theorem dX1_operationsAt_27 : decode cX1_operationsAt 27 = .ok (.ior, 1) := by decide +kernel
theorem dX1_operationsAt_28 : decode cX1_operationsAt 28 = .ok (.istore_n 2, 1) := by decide +kernel
theorem dX1_operationsAt_29 : decode cX1_operationsAt 29 = .ok (.iinc 3 1, 3) := by decide +kernel
theorem dX1_operationsAt_32 : decode cX1_operationsAt 32 = .ok (.goto (-28), 3) := by decide +kernel
theorem dX1_operationsAt_35 : decode cX1_operationsAt 35 = .ok (.iload_n 2, 1) := by decide +kernel
theorem dX1_operationsAt_36 : decode cX1_operationsAt 36 = .ok (.ireturn, 1) := by decide +kernel
theorem dX1_forceAt_0 : decode cX1_forceAt 0 = .ok (.iconst 0, 1) := by decide +kernel
theorem dX1_forceAt_1 : decode cX1_forceAt 1 = .ok (.istore_n 2, 1) := by decide +kernel
theorem dX1_forceAt_2 : decode cX1_forceAt 2 = .ok (.iconst 0, 1) := by decide +kernel
theorem dX1_forceAt_3 : decode cX1_forceAt 3 = .ok (.istore_n 3, 1) := by decide +kernel
theorem dX1_forceAt_4 : decode cX1_forceAt 4 = .ok (.iload_n 3, 1) := by decide +kernel
theorem dX1_forceAt_5 : decode cX1_forceAt 5 = .ok (.aload_n 0, 1) := by decide +kernel
theorem dX1_forceAt_6 : decode cX1_forceAt 6 = .ok (.getfield 39, 3) := by decide +kernel
theorem dX1_forceAt_9 : decode cX1_forceAt 9 = .ok (.if_icmp .ge 29, 3) := by decide +kernel
theorem dX1_forceAt_12 : decode cX1_forceAt 12 = .ok (.aload_n 0, 1) := by decide +kernel
theorem dX1_forceAt_13 : decode cX1_forceAt 13 = .ok (.iload_n 3, 1) := by decide +kernel
theorem dX1_forceAt_14 : decode cX1_forceAt 14 = .ok (.bipush 6, 2) := by decide +kernel
theorem dX1_forceAt_16 : decode cX1_forceAt 16 = .ok (.invokevirtual 80, 3) := by decide +kernel
theorem dX1_forceAt_19 : decode cX1_forceAt 19 = .ok (.iload_n 1, 1) := by decide +kernel
theorem dX1_forceAt_20 : decode cX1_forceAt 20 = .ok (.if_icmp .ne 12, 3) := by decide +kernel
theorem dX1_forceAt_23 : decode cX1_forceAt 23 = .ok (.iload_n 2, 1) := by decide +kernel
theorem dX1_forceAt_24 : decode cX1_forceAt 24 = .ok (.aload_n 0, 1) := by decide +kernel
theorem dX1_forceAt_25 : decode cX1_forceAt 25 = .ok (.iload_n 3, 1) := by decide +kernel
theorem dX1_forceAt_26 : decode cX1_forceAt 26 = .ok (.iconst 5, 1) := by decide +kernel
theorem dX1_forceAt_27 : decode cX1_forceAt 27 = .ok (.invokevirtual 80, 3) := by decide +kernel
theorem dX1_forceAt_30 : decode cX1_forceAt 30 = .ok (.iadd, 1) := by decide +kernel
theorem dX1_forceAt_31 : decode cX1_forceAt 31 = .ok (.istore_n 2, 1) := by decide +kernel
theorem dX1_forceAt_32 : decode cX1_forceAt 32 = .ok (.iinc 3 1, 3) := by decide +kernel
theorem dX1_forceAt_35 : decode cX1_forceAt 35 = .ok (.goto (-31), 3) := by decide +kernel
theorem dX1_forceAt_38 : decode cX1_forceAt 38 = .ok (.iload_n 2, 1) := by decide +kernel
theorem dX1_forceAt_39 : decode cX1_forceAt 39 = .ok (.ireturn, 1) := by decide +kernel
theorem dX1_faultOfPlan_0 : decode cX1_faultOfPlan 0 = .ok (.aload_n 0, 1) := by decide +kernel
theorem dX1_faultOfPlan_1 : decode cX1_faultOfPlan 1 = .ok (.iconst (-1), 1) := by decide +kernel
theorem dX1_faultOfPlan_2 : decode cX1_faultOfPlan 2 = .ok (.invokevirtual 130, 3) := by decide +kernel
theorem dX1_faultOfPlan_5 : decode cX1_faultOfPlan 5 = .ok (.ifCond .eq 5, 3) := by decide +kernel
theorem dX1_faultOfPlan_8 : decode cX1_faultOfPlan 8 = .ok (.iconst 1, 1) := by decide +kernel
theorem dX1_faultOfPlan_9 : decode cX1_faultOfPlan 9 = .ok (.ireturn, 1) := by decide +kernel
theorem dX1_faultOfPlan_10 : decode cX1_faultOfPlan 10 = .ok (.iconst 0, 1) := by decide +kernel
theorem dX1_faultOfPlan_11 : decode cX1_faultOfPlan 11 = .ok (.istore_n 1, 1) := by decide +kernel
theorem dX1_faultOfPlan_12 : decode cX1_faultOfPlan 12 = .ok (.iload_n 1, 1) := by decide +kernel
theorem dX1_faultOfPlan_13 : decode cX1_faultOfPlan 13 = .ok (.bipush 8, 2) := by decide +kernel
theorem dX1_faultOfPlan_15 : decode cX1_faultOfPlan 15 = .ok (.if_icmp .ge 24, 3) := by decide +kernel
theorem dX1_faultOfPlan_18 : decode cX1_faultOfPlan 18 = .ok (.aload_n 0, 1) := by decide +kernel
theorem dX1_faultOfPlan_19 : decode cX1_faultOfPlan 19 = .ok (.iload_n 1, 1) := by decide +kernel
theorem dX1_faultOfPlan_20 : decode cX1_faultOfPlan 20 = .ok (.invokevirtual 133, 3) := by decide +kernel
theorem dX1_faultOfPlan_23 : decode cX1_faultOfPlan 23 = .ok (.aload_n 0, 1) := by decide +kernel
theorem dX1_faultOfPlan_24 : decode cX1_faultOfPlan 24 = .ok (.iconst 0, 1) := by decide +kernel
theorem dX1_faultOfPlan_25 : decode cX1_faultOfPlan 25 = .ok (.invokevirtual 61, 3) := by decide +kernel
theorem dX1_faultOfPlan_28 : decode cX1_faultOfPlan 28 = .ok (.if_icmp .le 5, 3) := by decide +kernel
theorem dX1_faultOfPlan_31 : decode cX1_faultOfPlan 31 = .ok (.iconst 2, 1) := by decide +kernel
theorem dX1_faultOfPlan_32 : decode cX1_faultOfPlan 32 = .ok (.ireturn, 1) := by decide +kernel
theorem dX1_faultOfPlan_33 : decode cX1_faultOfPlan 33 = .ok (.iinc 1 1, 3) := by decide +kernel
theorem dX1_faultOfPlan_36 : decode cX1_faultOfPlan 36 = .ok (.goto (-24), 3) := by decide +kernel
theorem dX1_faultOfPlan_39 : decode cX1_faultOfPlan 39 = .ok (.iconst 0, 1) := by decide +kernel
theorem dX1_faultOfPlan_40 : decode cX1_faultOfPlan 40 = .ok (.istore_n 1, 1) := by decide +kernel
theorem dX1_faultOfPlan_41 : decode cX1_faultOfPlan 41 = .ok (.iload_n 1, 1) := by decide +kernel
theorem dX1_faultOfPlan_42 : decode cX1_faultOfPlan 42 = .ok (.aload_n 0, 1) := by decide +kernel
theorem dX1_faultOfPlan_43 : decode cX1_faultOfPlan 43 = .ok (.getfield 39, 3) := by decide +kernel
theorem dX1_faultOfPlan_46 : decode cX1_faultOfPlan 46 = .ok (.if_icmp .ge 31, 3) := by decide +kernel
theorem dX1_faultOfPlan_49 : decode cX1_faultOfPlan 49 = .ok (.aload_n 0, 1) := by decide +kernel
theorem dX1_faultOfPlan_50 : decode cX1_faultOfPlan 50 = .ok (.iload_n 1, 1) := by decide +kernel
theorem dX1_faultOfPlan_51 : decode cX1_faultOfPlan 51 = .ok (.invokevirtual 136, 3) := by decide +kernel
theorem dX1_faultOfPlan_54 : decode cX1_faultOfPlan 54 = .ok (.aload_n 0, 1) := by decide +kernel
theorem dX1_faultOfPlan_55 : decode cX1_faultOfPlan 55 = .ok (.aload_n 0, 1) := by decide +kernel
theorem dX1_faultOfPlan_56 : decode cX1_faultOfPlan 56 = .ok (.iload_n 1, 1) := by decide +kernel
theorem dX1_faultOfPlan_57 : decode cX1_faultOfPlan 57 = .ok (.bipush 6, 2) := by decide +kernel
theorem dX1_faultOfPlan_59 : decode cX1_faultOfPlan 59 = .ok (.invokevirtual 80, 3) := by decide +kernel
theorem dX1_faultOfPlan_62 : decode cX1_faultOfPlan 62 = .ok (.invokevirtual 130, 3) := by decide +kernel
theorem dX1_faultOfPlan_65 : decode cX1_faultOfPlan 65 = .ok (.iand, 1) := by decide +kernel
theorem dX1_faultOfPlan_66 : decode cX1_faultOfPlan 66 = .ok (.ifCond .eq 5, 3) := by decide +kernel
theorem dX1_faultOfPlan_69 : decode cX1_faultOfPlan 69 = .ok (.iconst 3, 1) := by decide +kernel
theorem dX1_faultOfPlan_70 : decode cX1_faultOfPlan 70 = .ok (.ireturn, 1) := by decide +kernel
theorem dX1_faultOfPlan_71 : decode cX1_faultOfPlan 71 = .ok (.iinc 1 1, 3) := by decide +kernel
theorem dX1_faultOfPlan_74 : decode cX1_faultOfPlan 74 = .ok (.goto (-33), 3) := by decide +kernel
theorem dX1_faultOfPlan_77 : decode cX1_faultOfPlan 77 = .ok (.iconst 0, 1) := by decide +kernel
theorem dX1_faultOfPlan_78 : decode cX1_faultOfPlan 78 = .ok (.istore_n 1, 1) := by decide +kernel
theorem dX1_faultOfPlan_79 : decode cX1_faultOfPlan 79 = .ok (.iload_n 1, 1) := by decide +kernel
theorem dX1_faultOfPlan_80 : decode cX1_faultOfPlan 80 = .ok (.aload_n 0, 1) := by decide +kernel
theorem dX1_faultOfPlan_81 : decode cX1_faultOfPlan 81 = .ok (.getfield 39, 3) := by decide +kernel
theorem dX1_faultOfPlan_84 : decode cX1_faultOfPlan 84 = .ok (.if_icmp .ge 29, 3) := by decide +kernel
theorem dX1_faultOfPlan_87 : decode cX1_faultOfPlan 87 = .ok (.aload_n 0, 1) := by decide +kernel
theorem dX1_faultOfPlan_88 : decode cX1_faultOfPlan 88 = .ok (.iload_n 1, 1) := by decide +kernel
theorem dX1_faultOfPlan_89 : decode cX1_faultOfPlan 89 = .ok (.iconst 0, 1) := by decide +kernel
theorem dX1_faultOfPlan_90 : decode cX1_faultOfPlan 90 = .ok (.invokevirtual 80, 3) := by decide +kernel
theorem dX1_faultOfPlan_93 : decode cX1_faultOfPlan 93 = .ok (.iconst 1, 1) := by decide +kernel
theorem dX1_faultOfPlan_94 : decode cX1_faultOfPlan 94 = .ok (.if_icmp .ne 13, 3) := by decide +kernel
theorem dX1_faultOfPlan_97 : decode cX1_faultOfPlan 97 = .ok (.aload_n 0, 1) := by decide +kernel
theorem dX1_faultOfPlan_98 : decode cX1_faultOfPlan 98 = .ok (.iload_n 1, 1) := by decide +kernel
theorem dX1_faultOfPlan_99 : decode cX1_faultOfPlan 99 = .ok (.invokevirtual 139, 3) := by decide +kernel
theorem dX1_faultOfPlan_102 : decode cX1_faultOfPlan 102 = .ok (.ifCond .eq 5, 3) := by decide +kernel
theorem dX1_faultOfPlan_105 : decode cX1_faultOfPlan 105 = .ok (.iconst 4, 1) := by decide +kernel
theorem dX1_faultOfPlan_106 : decode cX1_faultOfPlan 106 = .ok (.ireturn, 1) := by decide +kernel
theorem dX1_faultOfPlan_107 : decode cX1_faultOfPlan 107 = .ok (.iinc 1 1, 3) := by decide +kernel
theorem dX1_faultOfPlan_110 : decode cX1_faultOfPlan 110 = .ok (.goto (-31), 3) := by decide +kernel
theorem dX1_faultOfPlan_113 : decode cX1_faultOfPlan 113 = .ok (.iconst 0, 1) := by decide +kernel
theorem dX1_faultOfPlan_114 : decode cX1_faultOfPlan 114 = .ok (.ireturn, 1) := by decide +kernel
theorem dX1_isTooEarly_0 : decode cX1_isTooEarly 0 = .ok (.aload_n 0, 1) := by decide +kernel
theorem dX1_isTooEarly_1 : decode cX1_isTooEarly 1 = .ok (.iload_n 1, 1) := by decide +kernel
theorem dX1_isTooEarly_2 : decode cX1_isTooEarly 2 = .ok (.invokevirtual 136, 3) := by decide +kernel
theorem dX1_isTooEarly_5 : decode cX1_isTooEarly 5 = .ok (.istore_n 2, 1) := by decide +kernel
theorem dX1_isTooEarly_6 : decode cX1_isTooEarly 6 = .ok (.iconst 0, 1) := by decide +kernel
theorem dX1_isTooEarly_7 : decode cX1_isTooEarly 7 = .ok (.istore_n 3, 1) := by decide +kernel
theorem dX1_isTooEarly_8 : decode cX1_isTooEarly 8 = .ok (.iload_n 3, 1) := by decide +kernel
theorem dX1_isTooEarly_9 : decode cX1_isTooEarly 9 = .ok (.aload_n 0, 1) := by decide +kernel
theorem dX1_isTooEarly_10 : decode cX1_isTooEarly 10 = .ok (.getfield 39, 3) := by decide +kernel
theorem dX1_isTooEarly_13 : decode cX1_isTooEarly 13 = .ok (.if_icmp .ge 65, 3) := by decide +kernel
theorem dX1_isTooEarly_16 : decode cX1_isTooEarly 16 = .ok (.iload_n 2, 1) := by decide +kernel
theorem dX1_isTooEarly_17 : decode cX1_isTooEarly 17 = .ok (.iload_n 3, 1) := by decide +kernel
theorem dX1_isTooEarly_18 : decode cX1_isTooEarly 18 = .ok (.invokestatic 53, 3) := by decide +kernel
theorem dX1_isTooEarly_21 : decode cX1_isTooEarly 21 = .ok (.ifCond .eq 16, 3) := by decide +kernel
theorem dX1_isTooEarly_24 : decode cX1_isTooEarly 24 = .ok (.aload_n 0, 1) := by decide +kernel
theorem dX1_isTooEarly_25 : decode cX1_isTooEarly 25 = .ok (.iload_n 3, 1) := by decide +kernel
theorem dX1_isTooEarly_26 : decode cX1_isTooEarly 26 = .ok (.iconst 0, 1) := by decide +kernel
theorem dX1_isTooEarly_27 : decode cX1_isTooEarly 27 = .ok (.invokevirtual 80, 3) := by decide +kernel
theorem dX1_isTooEarly_30 : decode cX1_isTooEarly 30 = .ok (.ifCond .ne 7, 3) := by decide +kernel
theorem dX1_isTooEarly_33 : decode cX1_isTooEarly 33 = .ok (.iconst 1, 1) := by decide +kernel
theorem dX1_isTooEarly_34 : decode cX1_isTooEarly 34 = .ok (.goto 4, 3) := by decide +kernel
theorem dX1_isTooEarly_37 : decode cX1_isTooEarly 37 = .ok (.iconst 0, 1) := by decide +kernel
theorem dX1_isTooEarly_38 : decode cX1_isTooEarly 38 = .ok (.istore 4, 2) := by decide +kernel
theorem dX1_isTooEarly_40 : decode cX1_isTooEarly 40 = .ok (.iload 4, 2) := by decide +kernel
theorem dX1_isTooEarly_42 : decode cX1_isTooEarly 42 = .ok (.ifCond .eq 30, 3) := by decide +kernel
theorem dX1_isTooEarly_45 : decode cX1_isTooEarly 45 = .ok (.aload_n 0, 1) := by decide +kernel
theorem dX1_isTooEarly_46 : decode cX1_isTooEarly 46 = .ok (.iload_n 1, 1) := by decide +kernel
theorem dX1_isTooEarly_47 : decode cX1_isTooEarly 47 = .ok (.bipush 6, 2) := by decide +kernel
theorem dX1_isTooEarly_49 : decode cX1_isTooEarly 49 = .ok (.invokevirtual 80, 3) := by decide +kernel
theorem dX1_isTooEarly_52 : decode cX1_isTooEarly 52 = .ok (.aload_n 0, 1) := by decide +kernel
theorem dX1_isTooEarly_53 : decode cX1_isTooEarly 53 = .ok (.iload_n 3, 1) := by decide +kernel
theorem dX1_isTooEarly_54 : decode cX1_isTooEarly 54 = .ok (.bipush 6, 2) := by decide +kernel
theorem dX1_isTooEarly_56 : decode cX1_isTooEarly 56 = .ok (.invokevirtual 80, 3) := by decide +kernel
theorem dX1_isTooEarly_59 : decode cX1_isTooEarly 59 = .ok (.iconst 1, 1) := by decide +kernel
theorem dX1_isTooEarly_60 : decode cX1_isTooEarly 60 = .ok (.iadd, 1) := by decide +kernel
theorem dX1_isTooEarly_61 : decode cX1_isTooEarly 61 = .ok (.aload_n 0, 1) := by decide +kernel
theorem dX1_isTooEarly_62 : decode cX1_isTooEarly 62 = .ok (.iconst 1, 1) := by decide +kernel
theorem dX1_isTooEarly_63 : decode cX1_isTooEarly 63 = .ok (.invokevirtual 61, 3) := by decide +kernel
theorem dX1_isTooEarly_66 : decode cX1_isTooEarly 66 = .ok (.iadd, 1) := by decide +kernel
theorem dX1_isTooEarly_67 : decode cX1_isTooEarly 67 = .ok (.if_icmp .ge 5, 3) := by decide +kernel
theorem dX1_isTooEarly_70 : decode cX1_isTooEarly 70 = .ok (.iconst 1, 1) := by decide +kernel
theorem dX1_isTooEarly_71 : decode cX1_isTooEarly 71 = .ok (.ireturn, 1) := by decide +kernel
theorem dX1_isTooEarly_72 : decode cX1_isTooEarly 72 = .ok (.iinc 3 1, 3) := by decide +kernel
theorem dX1_isTooEarly_75 : decode cX1_isTooEarly 75 = .ok (.goto (-67), 3) := by decide +kernel
theorem dX1_isTooEarly_78 : decode cX1_isTooEarly 78 = .ok (.iconst 0, 1) := by decide +kernel
theorem dX1_isTooEarly_79 : decode cX1_isTooEarly 79 = .ok (.ireturn, 1) := by decide +kernel
theorem dX2_init_0 : decode cX2_init 0 = .ok (.aload_n 0, 1) := by decide +kernel
theorem dX2_init_1 : decode cX2_init 1 = .ok (.invokespecial 3, 3) := by decide +kernel
theorem dX2_init_4 : decode cX2_init 4 = .ok (.aload_n 0, 1) := by decide +kernel
theorem dX2_init_5 : decode cX2_init 5 = .ok (.bipush 6, 2) := by decide +kernel
theorem dX2_init_7 : decode cX2_init 7 = .ok (.newarray .int, 2) := by decide +kernel
theorem dX2_init_9 : decode cX2_init 9 = .ok (.putfield 9, 3) := by decide +kernel
theorem dX2_init_12 : decode cX2_init 12 = .ok (.aload_n 0, 1) := by decide +kernel
theorem dX2_init_13 : decode cX2_init 13 = .ok (.bipush 6, 2) := by decide +kernel
theorem dX2_init_15 : decode cX2_init 15 = .ok (.newarray .int, 2) := by decide +kernel
theorem dX2_init_17 : decode cX2_init 17 = .ok (.putfield 15, 3) := by decide +kernel
theorem dX2_init_20 : decode cX2_init 20 = .ok (.aload_n 0, 1) := by decide +kernel
theorem dX2_init_21 : decode cX2_init 21 = .ok (.bipush 6, 2) := by decide +kernel
theorem dX2_init_23 : decode cX2_init 23 = .ok (.newarray .int, 2) := by decide +kernel
theorem dX2_init_25 : decode cX2_init 25 = .ok (.putfield 18, 3) := by decide +kernel
theorem dX2_init_28 : decode cX2_init 28 = .ok (.return_, 1) := by decide +kernel
theorem dX2_findBest_0 : decode cX2_findBest 0 = .ok (.aload_n 0, 1) := by decide +kernel
theorem dX2_findBest_1 : decode cX2_findBest 1 = .ok (.aload_n 1, 1) := by decide +kernel
theorem dX2_findBest_2 : decode cX2_findBest 2 = .ok (.invokevirtual 21, 3) := by decide +kernel
theorem dX2_findBest_5 : decode cX2_findBest 5 = .ok (.aload_n 0, 1) := by decide +kernel
theorem dX2_findBest_6 : decode cX2_findBest 6 = .ok (.aload_n 1, 1) := by decide +kernel
theorem dX2_findBest_7 : decode cX2_findBest 7 = .ok (.iconst 0, 1) := by decide +kernel
theorem dX2_findBest_8 : decode cX2_findBest 8 = .ok (.invokevirtual 25, 3) := by decide +kernel
theorem dX2_findBest_11 : decode cX2_findBest 11 = .ok (.putfield 31, 3) := by decide +kernel
theorem dX2_findBest_14 : decode cX2_findBest 14 = .ok (.aload_n 0, 1) := by decide +kernel
theorem dX2_findBest_15 : decode cX2_findBest 15 = .ok (.getfield 35, 3) := by decide +kernel
theorem dX2_findBest_18 : decode cX2_findBest 18 = .ok (.aload_n 0, 1) := by decide +kernel
theorem dX2_findBest_19 : decode cX2_findBest 19 = .ok (.getfield 31, 3) := by decide +kernel
theorem dX2_findBest_22 : decode cX2_findBest 22 = .ok (.if_icmp .le 5, 3) := by decide +kernel
theorem dX2_findBest_25 : decode cX2_findBest 25 = .ok (.iconst (-1), 1) := by decide +kernel
theorem dX2_findBest_26 : decode cX2_findBest 26 = .ok (.ireturn, 1) := by decide +kernel
theorem dX2_findBest_27 : decode cX2_findBest 27 = .ok (.iconst 0, 1) := by decide +kernel
theorem dX2_findBest_28 : decode cX2_findBest 28 = .ok (.istore_n 2, 1) := by decide +kernel
theorem dX2_findBest_29 : decode cX2_findBest 29 = .ok (.iload_n 2, 1) := by decide +kernel
theorem dX2_findBest_30 : decode cX2_findBest 30 = .ok (.bipush 8, 2) := by decide +kernel
theorem dX2_findBest_32 : decode cX2_findBest 32 = .ok (.if_icmp .gt 19, 3) := by decide +kernel
theorem dX2_findBest_35 : decode cX2_findBest 35 = .ok (.aload_n 0, 1) := by decide +kernel
theorem dX2_findBest_36 : decode cX2_findBest 36 = .ok (.iload_n 2, 1) := by decide +kernel
theorem dX2_findBest_37 : decode cX2_findBest 37 = .ok (.invokevirtual 38, 3) := by decide +kernel
theorem dX2_findBest_40 : decode cX2_findBest 40 = .ok (.ifCond .eq 5, 3) := by decide +kernel
theorem dX2_findBest_43 : decode cX2_findBest 43 = .ok (.iload_n 2, 1) := by decide +kernel
theorem dX2_findBest_44 : decode cX2_findBest 44 = .ok (.ireturn, 1) := by decide +kernel
theorem dX2_findBest_45 : decode cX2_findBest 45 = .ok (.iinc 2 1, 3) := by decide +kernel
theorem dX2_findBest_48 : decode cX2_findBest 48 = .ok (.goto (-19), 3) := by decide +kernel
theorem dX2_findBest_51 : decode cX2_findBest 51 = .ok (.iconst (-1), 1) := by decide +kernel
theorem dX2_findBest_52 : decode cX2_findBest 52 = .ok (.ireturn, 1) := by decide +kernel
theorem dX2_putInto_0 : decode cX2_putInto 0 = .ok (.iconst 0, 1) := by decide +kernel
theorem dX2_putInto_1 : decode cX2_putInto 1 = .ok (.istore_n 2, 1) := by decide +kernel
theorem dX2_putInto_2 : decode cX2_putInto 2 = .ok (.iload_n 2, 1) := by decide +kernel
theorem dX2_putInto_3 : decode cX2_putInto 3 = .ok (.aload_n 1, 1) := by decide +kernel
theorem dX2_putInto_4 : decode cX2_putInto 4 = .ok (.getfield 48, 3) := by decide +kernel
theorem dX2_putInto_7 : decode cX2_putInto 7 = .ok (.if_icmp .ge 21, 3) := by decide +kernel
theorem dX2_putInto_10 : decode cX2_putInto 10 = .ok (.aload_n 1, 1) := by decide +kernel
theorem dX2_putInto_11 : decode cX2_putInto 11 = .ok (.iload_n 2, 1) := by decide +kernel
theorem dX2_putInto_12 : decode cX2_putInto 12 = .ok (.bipush 6, 2) := by decide +kernel
theorem dX2_putInto_14 : decode cX2_putInto 14 = .ok (.aload_n 0, 1) := by decide +kernel
theorem dX2_putInto_15 : decode cX2_putInto 15 = .ok (.iload_n 2, 1) := by decide +kernel
theorem dX2_putInto_16 : decode cX2_putInto 16 = .ok (.invokevirtual 51, 3) := by decide +kernel
theorem dX2_putInto_19 : decode cX2_putInto 19 = .ok (.invokevirtual 54, 3) := by decide +kernel
theorem dX2_putInto_22 : decode cX2_putInto 22 = .ok (.iinc 2 1, 3) := by decide +kernel
theorem dX2_putInto_25 : decode cX2_putInto 25 = .ok (.goto (-23), 3) := by decide +kernel
theorem dX2_putInto_28 : decode cX2_putInto 28 = .ok (.return_, 1) := by decide +kernel
theorem dX2_chosenFor_0 : decode cX2_chosenFor 0 = .ok (.iload_n 1, 1) := by decide +kernel
theorem dX2_chosenFor_1 : decode cX2_chosenFor 1 = .ok (.ifCond .lt 21, 3) := by decide +kernel
theorem dX2_chosenFor_4 : decode cX2_chosenFor 4 = .ok (.iload_n 1, 1) := by decide +kernel
theorem dX2_chosenFor_5 : decode cX2_chosenFor 5 = .ok (.aload_n 0, 1) := by decide +kernel
theorem dX2_chosenFor_6 : decode cX2_chosenFor 6 = .ok (.getfield 9, 3) := by decide +kernel
theorem dX2_chosenFor_9 : decode cX2_chosenFor 9 = .ok (.arraylength, 1) := by decide +kernel
theorem dX2_chosenFor_10 : decode cX2_chosenFor 10 = .ok (.if_icmp .ge 12, 3) := by decide +kernel
theorem dX2_chosenFor_13 : decode cX2_chosenFor 13 = .ok (.aload_n 0, 1) := by decide +kernel
theorem dX2_chosenFor_14 : decode cX2_chosenFor 14 = .ok (.getfield 9, 3) := by decide +kernel
theorem dX2_chosenFor_17 : decode cX2_chosenFor 17 = .ok (.iload_n 1, 1) := by decide +kernel
theorem dX2_chosenFor_18 : decode cX2_chosenFor 18 = .ok (.iaload, 1) := by decide +kernel
theorem dX2_chosenFor_19 : decode cX2_chosenFor 19 = .ok (.goto 4, 3) := by decide +kernel
theorem dX2_chosenFor_22 : decode cX2_chosenFor 22 = .ok (.iconst (-1), 1) := by decide +kernel
theorem dX2_chosenFor_23 : decode cX2_chosenFor 23 = .ok (.ireturn, 1) := by decide +kernel
theorem dX2_prepare_0 : decode cX2_prepare 0 = .ok (.aload_n 0, 1) := by decide +kernel
theorem dX2_prepare_1 : decode cX2_prepare 1 = .ok (.aload_n 1, 1) := by decide +kernel
theorem dX2_prepare_2 : decode cX2_prepare 2 = .ok (.getfield 48, 3) := by decide +kernel
theorem dX2_prepare_5 : decode cX2_prepare 5 = .ok (.bipush 6, 2) := by decide +kernel
theorem dX2_prepare_7 : decode cX2_prepare 7 = .ok (.invokestatic 58, 3) := by decide +kernel
theorem dX2_prepare_10 : decode cX2_prepare 10 = .ok (.putfield 61, 3) := by decide +kernel
theorem dX2_prepare_13 : decode cX2_prepare 13 = .ok (.aload_n 0, 1) := by decide +kernel
theorem dX2_prepare_14 : decode cX2_prepare 14 = .ok (.aload_n 1, 1) := by decide +kernel
theorem dX2_prepare_15 : decode cX2_prepare 15 = .ok (.iconst 1, 1) := by decide +kernel
theorem dX2_prepare_16 : decode cX2_prepare 16 = .ok (.invokevirtual 25, 3) := by decide +kernel
theorem dX2_prepare_19 : decode cX2_prepare 19 = .ok (.putfield 62, 3) := by decide +kernel
theorem dX2_prepare_22 : decode cX2_prepare 22 = .ok (.aload_n 0, 1) := by decide +kernel
theorem dX2_prepare_23 : decode cX2_prepare 23 = .ok (.iconst 0, 1) := by decide +kernel
theorem dX2_prepare_24 : decode cX2_prepare 24 = .ok (.putfield 65, 3) := by decide +kernel
theorem dX2_prepare_27 : decode cX2_prepare 27 = .ok (.aload_n 0, 1) := by decide +kernel
theorem dX2_prepare_28 : decode cX2_prepare 28 = .ok (.iconst 0, 1) := by decide +kernel
theorem dX2_prepare_29 : decode cX2_prepare 29 = .ok (.putfield 35, 3) := by decide +kernel
theorem dX2_prepare_32 : decode cX2_prepare 32 = .ok (.iconst 0, 1) := by decide +kernel
theorem dX2_prepare_33 : decode cX2_prepare 33 = .ok (.istore_n 2, 1) := by decide +kernel
theorem dX2_prepare_34 : decode cX2_prepare 34 = .ok (.iload_n 2, 1) := by decide +kernel
theorem dX2_prepare_35 : decode cX2_prepare 35 = .ok (.aload_n 0, 1) := by decide +kernel
theorem dX2_prepare_36 : decode cX2_prepare 36 = .ok (.getfield 61, 3) := by decide +kernel
theorem dX2_prepare_39 : decode cX2_prepare 39 = .ok (.if_icmp .ge 89, 3) := by decide +kernel
theorem dX2_prepare_42 : decode cX2_prepare 42 = .ok (.iload_n 2, 1) := by decide +kernel
theorem dX2_prepare_43 : decode cX2_prepare 43 = .ok (.aload_n 0, 1) := by decide +kernel
theorem dX2_prepare_44 : decode cX2_prepare 44 = .ok (.getfield 15, 3) := by decide +kernel
theorem dX2_prepare_47 : decode cX2_prepare 47 = .ok (.arraylength, 1) := by decide +kernel
theorem dX2_prepare_48 : decode cX2_prepare 48 = .ok (.if_icmp .ge 80, 3) := by decide +kernel
theorem dX2_prepare_51 : decode cX2_prepare 51 = .ok (.iload_n 2, 1) := by decide +kernel
theorem dX2_prepare_52 : decode cX2_prepare 52 = .ok (.aload_n 0, 1) := by decide +kernel
theorem dX2_prepare_53 : decode cX2_prepare 53 = .ok (.getfield 18, 3) := by decide +kernel
theorem dX2_prepare_56 : decode cX2_prepare 56 = .ok (.arraylength, 1) := by decide +kernel
theorem dX2_prepare_57 : decode cX2_prepare 57 = .ok (.if_icmp .ge 71, 3) := by decide +kernel
theorem dX2_prepare_60 : decode cX2_prepare 60 = .ok (.aload_n 0, 1) := by decide +kernel
theorem dX2_prepare_61 : decode cX2_prepare 61 = .ok (.getfield 15, 3) := by decide +kernel
theorem dX2_prepare_64 : decode cX2_prepare 64 = .ok (.iload_n 2, 1) := by decide +kernel
theorem dX2_prepare_65 : decode cX2_prepare 65 = .ok (.aload_n 1, 1) := by decide +kernel
theorem dX2_prepare_66 : decode cX2_prepare 66 = .ok (.iload_n 2, 1) := by decide +kernel
theorem dX2_prepare_67 : decode cX2_prepare 67 = .ok (.invokevirtual 68, 3) := by decide +kernel
theorem dX2_prepare_70 : decode cX2_prepare 70 = .ok (.iastore, 1) := by decide +kernel
theorem dX2_prepare_71 : decode cX2_prepare 71 = .ok (.aload_n 0, 1) := by decide +kernel
theorem dX2_prepare_72 : decode cX2_prepare 72 = .ok (.getfield 18, 3) := by decide +kernel
theorem dX2_prepare_75 : decode cX2_prepare 75 = .ok (.iload_n 2, 1) := by decide +kernel
theorem dX2_prepare_76 : decode cX2_prepare 76 = .ok (.aload_n 1, 1) := by decide +kernel
theorem dX2_prepare_77 : decode cX2_prepare 77 = .ok (.iload_n 2, 1) := by decide +kernel
theorem dX2_prepare_78 : decode cX2_prepare 78 = .ok (.iconst 5, 1) := by decide +kernel
theorem dX2_prepare_79 : decode cX2_prepare 79 = .ok (.invokevirtual 70, 3) := by decide +kernel
theorem dX2_prepare_82 : decode cX2_prepare 82 = .ok (.iastore, 1) := by decide +kernel
theorem dX2_prepare_83 : decode cX2_prepare 83 = .ok (.aload_n 0, 1) := by decide +kernel
theorem dX2_prepare_84 : decode cX2_prepare 84 = .ok (.aload_n 0, 1) := by decide +kernel
theorem dX2_prepare_85 : decode cX2_prepare 85 = .ok (.getfield 35, 3) := by decide +kernel
theorem dX2_prepare_88 : decode cX2_prepare 88 = .ok (.aload_n 0, 1) := by decide +kernel
theorem dX2_prepare_89 : decode cX2_prepare 89 = .ok (.getfield 18, 3) := by decide +kernel
theorem dX2_prepare_92 : decode cX2_prepare 92 = .ok (.iload_n 2, 1) := by decide +kernel
theorem dX2_prepare_93 : decode cX2_prepare 93 = .ok (.iaload, 1) := by decide +kernel
theorem dX2_prepare_94 : decode cX2_prepare 94 = .ok (.invokestatic 42, 3) := by decide +kernel
theorem dX2_prepare_97 : decode cX2_prepare 97 = .ok (.putfield 35, 3) := by decide +kernel
theorem dX2_prepare_100 : decode cX2_prepare 100 = .ok (.aload_n 1, 1) := by decide +kernel
theorem dX2_prepare_101 : decode cX2_prepare 101 = .ok (.iload_n 2, 1) := by decide +kernel
theorem dX2_prepare_102 : decode cX2_prepare 102 = .ok (.iconst 0, 1) := by decide +kernel
theorem dX2_prepare_103 : decode cX2_prepare 103 = .ok (.invokevirtual 70, 3) := by decide +kernel
theorem dX2_prepare_106 : decode cX2_prepare 106 = .ok (.iconst 1, 1) := by decide +kernel
theorem dX2_prepare_107 : decode cX2_prepare 107 = .ok (.if_icmp .ne 15, 3) := by decide +kernel
theorem dX2_prepare_110 : decode cX2_prepare 110 = .ok (.aload_n 0, 1) := by decide +kernel
theorem dX2_prepare_111 : decode cX2_prepare 111 = .ok (.dup, 1) := by decide +kernel
theorem dX2_prepare_112 : decode cX2_prepare 112 = .ok (.getfield 65, 3) := by decide +kernel
theorem dX2_prepare_115 : decode cX2_prepare 115 = .ok (.iconst 1, 1) := by decide +kernel
theorem dX2_prepare_116 : decode cX2_prepare 116 = .ok (.iload_n 2, 1) := by decide +kernel
theorem dX2_prepare_117 : decode cX2_prepare 117 = .ok (.ishl, 1) := by decide +kernel
theorem dX2_prepare_118 : decode cX2_prepare 118 = .ok (.ior, 1) := by decide +kernel
theorem dX2_prepare_119 : decode cX2_prepare 119 = .ok (.putfield 65, 3) := by decide +kernel
theorem dX2_prepare_122 : decode cX2_prepare 122 = .ok (.iinc 2 1, 3) := by decide +kernel
theorem dX2_prepare_125 : decode cX2_prepare 125 = .ok (.goto (-91), 3) := by decide +kernel
theorem dX2_prepare_128 : decode cX2_prepare 128 = .ok (.return_, 1) := by decide +kernel
theorem dX2_findWithin_0 : decode cX2_findWithin 0 = .ok (.iconst 0, 1) := by decide +kernel
theorem dX2_findWithin_1 : decode cX2_findWithin 1 = .ok (.istore_n 2, 1) := by decide +kernel
theorem dX2_findWithin_2 : decode cX2_findWithin 2 = .ok (.iload_n 2, 1) := by decide +kernel
theorem dX2_findWithin_3 : decode cX2_findWithin 3 = .ok (.aload_n 0, 1) := by decide +kernel
theorem dX2_findWithin_4 : decode cX2_findWithin 4 = .ok (.getfield 9, 3) := by decide +kernel
theorem dX2_findWithin_7 : decode cX2_findWithin 7 = .ok (.arraylength, 1) := by decide +kernel
theorem dX2_findWithin_8 : decode cX2_findWithin 8 = .ok (.if_icmp .ge 16, 3) := by decide +kernel
theorem dX2_findWithin_11 : decode cX2_findWithin 11 = .ok (.aload_n 0, 1) := by decide +kernel
theorem dX2_findWithin_12 : decode cX2_findWithin 12 = .ok (.getfield 9, 3) := by decide +kernel
theorem dX2_findWithin_15 : decode cX2_findWithin 15 = .ok (.iload_n 2, 1) := by decide +kernel
theorem dX2_findWithin_16 : decode cX2_findWithin 16 = .ok (.iconst (-1), 1) := by decide +kernel
theorem dX2_findWithin_17 : decode cX2_findWithin 17 = .ok (.iastore, 1) := by decide +kernel
theorem dX2_findWithin_18 : decode cX2_findWithin 18 = .ok (.iinc 2 1, 3) := by decide +kernel
theorem dX2_findWithin_21 : decode cX2_findWithin 21 = .ok (.goto (-19), 3) := by decide +kernel
theorem dX2_findWithin_24 : decode cX2_findWithin 24 = .ok (.iconst 0, 1) := by decide +kernel
theorem dX2_findWithin_25 : decode cX2_findWithin 25 = .ok (.istore_n 2, 1) := by decide +kernel
theorem dX2_findWithin_26 : decode cX2_findWithin 26 = .ok (.iconst 0, 1) := by decide +kernel
theorem dX2_findWithin_27 : decode cX2_findWithin 27 = .ok (.istore_n 3, 1) := by decide +kernel
theorem dX2_findWithin_28 : decode cX2_findWithin 28 = .ok (.iload_n 3, 1) := by decide +kernel
theorem dX2_findWithin_29 : decode cX2_findWithin 29 = .ok (.ldc 73, 2) := by decide +kernel
theorem dX2_findWithin_31 : decode cX2_findWithin 31 = .ok (.if_icmp .ge 62, 3) := by decide +kernel
theorem dX2_findWithin_34 : decode cX2_findWithin 34 = .ok (.iload_n 2, 1) := by decide +kernel
theorem dX2_findWithin_35 : decode cX2_findWithin 35 = .ok (.ifCond .lt 58, 3) := by decide +kernel
theorem dX2_findWithin_38 : decode cX2_findWithin 38 = .ok (.iload_n 2, 1) := by decide +kernel
theorem dX2_findWithin_39 : decode cX2_findWithin 39 = .ok (.aload_n 0, 1) := by decide +kernel
theorem dX2_findWithin_40 : decode cX2_findWithin 40 = .ok (.getfield 61, 3) := by decide +kernel
theorem dX2_findWithin_43 : decode cX2_findWithin 43 = .ok (.if_icmp .ge 50, 3) := by decide +kernel
theorem dX2_findWithin_46 : decode cX2_findWithin 46 = .ok (.iload_n 2, 1) := by decide +kernel
theorem dX2_findWithin_47 : decode cX2_findWithin 47 = .ok (.aload_n 0, 1) := by decide +kernel
theorem dX2_findWithin_48 : decode cX2_findWithin 48 = .ok (.getfield 9, 3) := by decide +kernel
theorem dX2_findWithin_51 : decode cX2_findWithin 51 = .ok (.arraylength, 1) := by decide +kernel
theorem dX2_findWithin_52 : decode cX2_findWithin 52 = .ok (.if_icmp .ge 41, 3) := by decide +kernel
theorem dX2_findWithin_55 : decode cX2_findWithin 55 = .ok (.aload_n 0, 1) := by decide +kernel
theorem dX2_findWithin_56 : decode cX2_findWithin 56 = .ok (.getfield 9, 3) := by decide +kernel
theorem dX2_findWithin_59 : decode cX2_findWithin 59 = .ok (.iload_n 2, 1) := by decide +kernel
theorem dX2_findWithin_60 : decode cX2_findWithin 60 = .ok (.aload_n 0, 1) := by decide +kernel
theorem dX2_findWithin_61 : decode cX2_findWithin 61 = .ok (.iload_n 2, 1) := by decide +kernel
theorem dX2_findWithin_62 : decode cX2_findWithin 62 = .ok (.iload_n 1, 1) := by decide +kernel
theorem dX2_findWithin_63 : decode cX2_findWithin 63 = .ok (.invokevirtual 74, 3) := by decide +kernel
theorem dX2_findWithin_66 : decode cX2_findWithin 66 = .ok (.iastore, 1) := by decide +kernel
theorem dX2_findWithin_67 : decode cX2_findWithin 67 = .ok (.aload_n 0, 1) := by decide +kernel
theorem dX2_findWithin_68 : decode cX2_findWithin 68 = .ok (.getfield 9, 3) := by decide +kernel
theorem dX2_findWithin_71 : decode cX2_findWithin 71 = .ok (.iload_n 2, 1) := by decide +kernel
theorem dX2_findWithin_72 : decode cX2_findWithin 72 = .ok (.iaload, 1) := by decide +kernel
theorem dX2_findWithin_73 : decode cX2_findWithin 73 = .ok (.iconst (-1), 1) := by decide +kernel
theorem dX2_findWithin_74 : decode cX2_findWithin 74 = .ok (.if_icmp .ne 9, 3) := by decide +kernel
theorem dX2_findWithin_77 : decode cX2_findWithin 77 = .ok (.iload_n 2, 1) := by decide +kernel
theorem dX2_findWithin_78 : decode cX2_findWithin 78 = .ok (.iconst 1, 1) := by decide +kernel
theorem dX2_findWithin_79 : decode cX2_findWithin 79 = .ok (.isub, 1) := by decide +kernel
theorem dX2_findWithin_80 : decode cX2_findWithin 80 = .ok (.goto 6, 3) := by decide +kernel
theorem dX2_findWithin_83 : decode cX2_findWithin 83 = .ok (.iload_n 2, 1) := by decide +kernel
theorem dX2_findWithin_84 : decode cX2_findWithin 84 = .ok (.iconst 1, 1) := by decide +kernel
theorem dX2_findWithin_85 : decode cX2_findWithin 85 = .ok (.iadd, 1) := by decide +kernel
theorem dX2_findWithin_86 : decode cX2_findWithin 86 = .ok (.istore_n 2, 1) := by decide +kernel
theorem dX2_findWithin_87 : decode cX2_findWithin 87 = .ok (.iinc 3 1, 3) := by decide +kernel
theorem dX2_findWithin_90 : decode cX2_findWithin 90 = .ok (.goto (-62), 3) := by decide +kernel
theorem dX2_findWithin_93 : decode cX2_findWithin 93 = .ok (.iload_n 2, 1) := by decide +kernel
theorem dX2_findWithin_94 : decode cX2_findWithin 94 = .ok (.aload_n 0, 1) := by decide +kernel
theorem dX2_findWithin_95 : decode cX2_findWithin 95 = .ok (.getfield 61, 3) := by decide +kernel
theorem dX2_findWithin_98 : decode cX2_findWithin 98 = .ok (.if_icmp .lt 7, 3) := by decide +kernel
theorem dX2_findWithin_101 : decode cX2_findWithin 101 = .ok (.iconst 1, 1) := by decide +kernel
theorem dX2_findWithin_102 : decode cX2_findWithin 102 = .ok (.goto 4, 3) := by decide +kernel
theorem dX2_findWithin_105 : decode cX2_findWithin 105 = .ok (.iconst 0, 1) := by decide +kernel
theorem dX2_findWithin_106 : decode cX2_findWithin 106 = .ok (.ireturn, 1) := by decide +kernel
theorem dX2_nextStation_0 : decode cX2_nextStation 0 = .ok (.aload_n 0, 1) := by decide +kernel
theorem dX2_nextStation_1 : decode cX2_nextStation 1 = .ok (.getfield 65, 3) := by decide +kernel
theorem dX2_nextStation_4 : decode cX2_nextStation 4 = .ok (.iload_n 1, 1) := by decide +kernel
theorem dX2_nextStation_5 : decode cX2_nextStation 5 = .ok (.invokestatic 77, 3) := by decide +kernel
theorem dX2_nextStation_8 : decode cX2_nextStation 8 = .ok (.istore_n 3, 1) := by decide +kernel
theorem dX2_nextStation_9 : decode cX2_nextStation 9 = .ok (.aload_n 0, 1) := by decide +kernel
theorem dX2_nextStation_10 : decode cX2_nextStation 10 = .ok (.iload_n 1, 1) := by decide +kernel
theorem dX2_nextStation_11 : decode cX2_nextStation 11 = .ok (.invokevirtual 81, 3) := by decide +kernel
theorem dX2_nextStation_14 : decode cX2_nextStation 14 = .ok (.iload_n 3, 1) := by decide +kernel
theorem dX2_nextStation_15 : decode cX2_nextStation 15 = .ok (.ifCond .eq 12, 3) := by decide +kernel
theorem dX2_nextStation_18 : decode cX2_nextStation 18 = .ok (.aload_n 0, 1) := by decide +kernel
theorem dX2_nextStation_19 : decode cX2_nextStation 19 = .ok (.getfield 65, 3) := by decide +kernel
theorem dX2_nextStation_22 : decode cX2_nextStation 22 = .ok (.iconst (-1), 1) := by decide +kernel
theorem dX2_nextStation_23 : decode cX2_nextStation 23 = .ok (.ixor, 1) := by decide +kernel
theorem dX2_nextStation_24 : decode cX2_nextStation 24 = .ok (.goto 7, 3) := by decide +kernel
theorem dX2_nextStation_27 : decode cX2_nextStation 27 = .ok (.aload_n 0, 1) := by decide +kernel
theorem dX2_nextStation_28 : decode cX2_nextStation 28 = .ok (.getfield 65, 3) := by decide +kernel
theorem dX2_nextStation_31 : decode cX2_nextStation 31 = .ok (.iand, 1) := by decide +kernel
theorem dX2_nextStation_32 : decode cX2_nextStation 32 = .ok (.ifCond .eq 7, 3) := by decide +kernel
theorem dX2_nextStation_35 : decode cX2_nextStation 35 = .ok (.iconst 1, 1) := by decide +kernel
theorem dX2_nextStation_36 : decode cX2_nextStation 36 = .ok (.goto 4, 3) := by decide +kernel
theorem dX2_nextStation_39 : decode cX2_nextStation 39 = .ok (.iconst 0, 1) := by decide +kernel
theorem dX2_nextStation_40 : decode cX2_nextStation 40 = .ok (.istore 4, 2) := by decide +kernel
theorem dX2_nextStation_42 : decode cX2_nextStation 42 = .ok (.aload_n 0, 1) := by decide +kernel
theorem dX2_nextStation_43 : decode cX2_nextStation 43 = .ok (.iload_n 1, 1) := by decide +kernel
theorem dX2_nextStation_44 : decode cX2_nextStation 44 = .ok (.invokevirtual 51, 3) := by decide +kernel
theorem dX2_nextStation_47 : decode cX2_nextStation 47 = .ok (.iconst 1, 1) := by decide +kernel
theorem dX2_nextStation_48 : decode cX2_nextStation 48 = .ok (.iadd, 1) := by decide +kernel
theorem dX2_nextStation_49 : decode cX2_nextStation 49 = .ok (.istore 5, 2) := by decide +kernel
theorem dX2_nextStation_51 : decode cX2_nextStation 51 = .ok (.iload_n 2, 1) := by decide +kernel
theorem dX2_nextStation_52 : decode cX2_nextStation 52 = .ok (.istore 6, 2) := by decide +kernel
theorem dX2_nextStation_54 : decode cX2_nextStation 54 = .ok (.iload 4, 2) := by decide +kernel
theorem dX2_nextStation_56 : decode cX2_nextStation 56 = .ok (.ifCond .eq 23, 3) := by decide +kernel
theorem dX2_nextStation_59 : decode cX2_nextStation 59 = .ok (.iload_n 3, 1) := by decide +kernel
theorem dX2_nextStation_60 : decode cX2_nextStation 60 = .ok (.ifCond .eq 19, 3) := by decide +kernel
theorem dX2_nextStation_63 : decode cX2_nextStation 63 = .ok (.iload 5, 2) := by decide +kernel
theorem dX2_nextStation_65 : decode cX2_nextStation 65 = .ok (.iconst 1, 1) := by decide +kernel
theorem dX2_nextStation_66 : decode cX2_nextStation 66 = .ok (.aload_n 0, 1) := by decide +kernel
theorem dX2_nextStation_67 : decode cX2_nextStation 67 = .ok (.getfield 62, 3) := by decide +kernel
theorem dX2_nextStation_70 : decode cX2_nextStation 70 = .ok (.iadd, 1) := by decide +kernel
theorem dX2_nextStation_71 : decode cX2_nextStation 71 = .ok (.invokestatic 42, 3) := by decide +kernel
theorem dX2_nextStation_74 : decode cX2_nextStation 74 = .ok (.istore 5, 2) := by decide +kernel
theorem dX2_nextStation_76 : decode cX2_nextStation 76 = .ok (.goto 18, 3) := by decide +kernel
theorem dX2_nextStation_79 : decode cX2_nextStation 79 = .ok (.iload 4, 2) := by decide +kernel
theorem dX2_nextStation_81 : decode cX2_nextStation 81 = .ok (.ifCond .eq 13, 3) := by decide +kernel
theorem dX2_nextStation_84 : decode cX2_nextStation 84 = .ok (.iload_n 2, 1) := by decide +kernel
theorem dX2_nextStation_85 : decode cX2_nextStation 85 = .ok (.iconst 1, 1) := by decide +kernel
theorem dX2_nextStation_86 : decode cX2_nextStation 86 = .ok (.isub, 1) := by decide +kernel
theorem dX2_nextStation_87 : decode cX2_nextStation 87 = .ok (.aload_n 0, 1) := by decide +kernel
theorem dX2_nextStation_88 : decode cX2_nextStation 88 = .ok (.getfield 62, 3) := by decide +kernel
theorem dX2_nextStation_91 : decode cX2_nextStation 91 = .ok (.isub, 1) := by decide +kernel
theorem dX2_nextStation_92 : decode cX2_nextStation 92 = .ok (.istore 6, 2) := by decide +kernel
theorem dX2_nextStation_94 : decode cX2_nextStation 94 = .ok (.iload 5, 2) := by decide +kernel
theorem dX2_nextStation_96 : decode cX2_nextStation 96 = .ok (.istore 7, 2) := by decide +kernel
theorem dX2_nextStation_98 : decode cX2_nextStation 98 = .ok (.iload 7, 2) := by decide +kernel
theorem dX2_nextStation_100 : decode cX2_nextStation 100 = .ok (.iload 6, 2) := by decide +kernel
theorem dX2_nextStation_102 : decode cX2_nextStation 102 = .ok (.if_icmp .ge 22, 3) := by decide +kernel
theorem dX2_nextStation_105 : decode cX2_nextStation 105 = .ok (.aload_n 0, 1) := by decide +kernel
theorem dX2_nextStation_106 : decode cX2_nextStation 106 = .ok (.iload_n 1, 1) := by decide +kernel
theorem dX2_nextStation_107 : decode cX2_nextStation 107 = .ok (.iload 7, 2) := by decide +kernel
theorem dX2_nextStation_109 : decode cX2_nextStation 109 = .ok (.invokevirtual 84, 3) := by decide +kernel
theorem dX2_nextStation_112 : decode cX2_nextStation 112 = .ok (.ifCond .eq 6, 3) := by decide +kernel
theorem dX2_nextStation_115 : decode cX2_nextStation 115 = .ok (.iload 7, 2) := by decide +kernel
theorem dX2_nextStation_117 : decode cX2_nextStation 117 = .ok (.ireturn, 1) := by decide +kernel
theorem dX2_nextStation_118 : decode cX2_nextStation 118 = .ok (.iinc 7 1, 3) := by decide +kernel
theorem dX2_nextStation_121 : decode cX2_nextStation 121 = .ok (.goto (-23), 3) := by decide +kernel
theorem dX2_nextStation_124 : decode cX2_nextStation 124 = .ok (.iconst (-1), 1) := by decide +kernel
theorem dX2_nextStation_125 : decode cX2_nextStation 125 = .ok (.ireturn, 1) := by decide +kernel
theorem dX2_fits_0 : decode cX2_fits 0 = .ok (.aload_n 0, 1) := by decide +kernel
theorem dX2_fits_1 : decode cX2_fits 1 = .ok (.iload_n 1, 1) := by decide +kernel
theorem dX2_fits_2 : decode cX2_fits 2 = .ok (.invokevirtual 87, 3) := by decide +kernel
theorem dX2_fits_5 : decode cX2_fits 5 = .ok (.istore_n 3, 1) := by decide +kernel
theorem dX2_fits_6 : decode cX2_fits 6 = .ok (.aload_n 0, 1) := by decide +kernel
theorem dX2_fits_7 : decode cX2_fits 7 = .ok (.getfield 65, 3) := by decide +kernel
theorem dX2_fits_10 : decode cX2_fits 10 = .ok (.iload_n 1, 1) := by decide +kernel
theorem dX2_fits_11 : decode cX2_fits 11 = .ok (.invokestatic 77, 3) := by decide +kernel
theorem dX2_fits_14 : decode cX2_fits 14 = .ok (.istore 4, 2) := by decide +kernel
theorem dX2_fits_16 : decode cX2_fits 16 = .ok (.iconst 0, 1) := by decide +kernel
theorem dX2_fits_17 : decode cX2_fits 17 = .ok (.istore 5, 2) := by decide +kernel
theorem dX2_fits_19 : decode cX2_fits 19 = .ok (.iload 5, 2) := by decide +kernel
theorem dX2_fits_21 : decode cX2_fits 21 = .ok (.iload_n 1, 1) := by decide +kernel
theorem dX2_fits_22 : decode cX2_fits 22 = .ok (.if_icmp .ge 109, 3) := by decide +kernel
theorem dX2_fits_25 : decode cX2_fits 25 = .ok (.iload_n 2, 1) := by decide +kernel
theorem dX2_fits_26 : decode cX2_fits 26 = .ok (.aload_n 0, 1) := by decide +kernel
theorem dX2_fits_27 : decode cX2_fits 27 = .ok (.iload 5, 2) := by decide +kernel
theorem dX2_fits_29 : decode cX2_fits 29 = .ok (.invokevirtual 51, 3) := by decide +kernel
theorem dX2_fits_32 : decode cX2_fits 32 = .ok (.isub, 1) := by decide +kernel
theorem dX2_fits_33 : decode cX2_fits 33 = .ok (.istore 6, 2) := by decide +kernel
theorem dX2_fits_35 : decode cX2_fits 35 = .ok (.iload 4, 2) := by decide +kernel
theorem dX2_fits_37 : decode cX2_fits 37 = .ok (.aload_n 0, 1) := by decide +kernel
theorem dX2_fits_38 : decode cX2_fits 38 = .ok (.getfield 65, 3) := by decide +kernel
theorem dX2_fits_41 : decode cX2_fits 41 = .ok (.iload 5, 2) := by decide +kernel
theorem dX2_fits_43 : decode cX2_fits 43 = .ok (.invokestatic 77, 3) := by decide +kernel
theorem dX2_fits_46 : decode cX2_fits 46 = .ok (.if_icmp .ne 16, 3) := by decide +kernel
theorem dX2_fits_49 : decode cX2_fits 49 = .ok (.iload 6, 2) := by decide +kernel
theorem dX2_fits_51 : decode cX2_fits 51 = .ok (.ifCond .ne 7, 3) := by decide +kernel
theorem dX2_fits_54 : decode cX2_fits 54 = .ok (.iconst 1, 1) := by decide +kernel
theorem dX2_fits_55 : decode cX2_fits 55 = .ok (.goto 34, 3) := by decide +kernel
theorem dX2_fits_58 : decode cX2_fits 58 = .ok (.iconst 0, 1) := by decide +kernel
theorem dX2_fits_59 : decode cX2_fits 59 = .ok (.goto 30, 3) := by decide +kernel
theorem dX2_fits_62 : decode cX2_fits 62 = .ok (.iload 4, 2) := by decide +kernel
theorem dX2_fits_64 : decode cX2_fits 64 = .ok (.ifCond .eq 8, 3) := by decide +kernel
theorem dX2_fits_67 : decode cX2_fits 67 = .ok (.iload 6, 2) := by decide +kernel
theorem dX2_fits_69 : decode cX2_fits 69 = .ok (.goto 6, 3) := by decide +kernel
theorem dX2_fits_72 : decode cX2_fits 72 = .ok (.iload 6, 2) := by decide +kernel
theorem dX2_fits_74 : decode cX2_fits 74 = .ok (.ineg, 1) := by decide +kernel
theorem dX2_fits_75 : decode cX2_fits 75 = .ok (.iconst 1, 1) := by decide +kernel
theorem dX2_fits_76 : decode cX2_fits 76 = .ok (.aload_n 0, 1) := by decide +kernel
theorem dX2_fits_77 : decode cX2_fits 77 = .ok (.getfield 62, 3) := by decide +kernel
theorem dX2_fits_80 : decode cX2_fits 80 = .ok (.iadd, 1) := by decide +kernel
theorem dX2_fits_81 : decode cX2_fits 81 = .ok (.if_icmp .ge 7, 3) := by decide +kernel
theorem dX2_fits_84 : decode cX2_fits 84 = .ok (.iconst 1, 1) := by decide +kernel
theorem dX2_fits_85 : decode cX2_fits 85 = .ok (.goto 4, 3) := by decide +kernel
theorem dX2_fits_88 : decode cX2_fits 88 = .ok (.iconst 0, 1) := by decide +kernel
theorem dX2_fits_89 : decode cX2_fits 89 = .ok (.istore 7, 2) := by decide +kernel
theorem dX2_fits_91 : decode cX2_fits 91 = .ok (.iload 7, 2) := by decide +kernel
theorem dX2_fits_93 : decode cX2_fits 93 = .ok (.ifCond .eq 18, 3) := by decide +kernel
theorem dX2_fits_96 : decode cX2_fits 96 = .ok (.aload_n 0, 1) := by decide +kernel
theorem dX2_fits_97 : decode cX2_fits 97 = .ok (.iload_n 1, 1) := by decide +kernel
theorem dX2_fits_98 : decode cX2_fits 98 = .ok (.invokevirtual 81, 3) := by decide +kernel
theorem dX2_fits_101 : decode cX2_fits 101 = .ok (.iload 5, 2) := by decide +kernel
theorem dX2_fits_103 : decode cX2_fits 103 = .ok (.invokestatic 77, 3) := by decide +kernel
theorem dX2_fits_106 : decode cX2_fits 106 = .ok (.ifCond .eq 5, 3) := by decide +kernel
theorem dX2_fits_109 : decode cX2_fits 109 = .ok (.iconst 0, 1) := by decide +kernel
theorem dX2_fits_110 : decode cX2_fits 110 = .ok (.ireturn, 1) := by decide +kernel
theorem dX2_fits_111 : decode cX2_fits 111 = .ok (.iload 6, 2) := by decide +kernel
theorem dX2_fits_113 : decode cX2_fits 113 = .ok (.ifCond .ne 12, 3) := by decide +kernel
theorem dX2_fits_116 : decode cX2_fits 116 = .ok (.iload_n 3, 1) := by decide +kernel
theorem dX2_fits_117 : decode cX2_fits 117 = .ok (.aload_n 0, 1) := by decide +kernel
theorem dX2_fits_118 : decode cX2_fits 118 = .ok (.iload 5, 2) := by decide +kernel
theorem dX2_fits_120 : decode cX2_fits 120 = .ok (.invokevirtual 87, 3) := by decide +kernel
theorem dX2_fits_123 : decode cX2_fits 123 = .ok (.iadd, 1) := by decide +kernel
theorem dX2_fits_124 : decode cX2_fits 124 = .ok (.istore_n 3, 1) := by decide +kernel
theorem dX2_fits_125 : decode cX2_fits 125 = .ok (.iinc 5 1, 3) := by decide +kernel
theorem dX2_fits_128 : decode cX2_fits 128 = .ok (.goto (-109), 3) := by decide +kernel
theorem dX2_fits_131 : decode cX2_fits 131 = .ok (.iload_n 3, 1) := by decide +kernel
theorem dX2_fits_132 : decode cX2_fits 132 = .ok (.aload_n 0, 1) := by decide +kernel
theorem dX2_fits_133 : decode cX2_fits 133 = .ok (.getfield 31, 3) := by decide +kernel
theorem dX2_fits_136 : decode cX2_fits 136 = .ok (.if_icmp .gt 7, 3) := by decide +kernel
theorem dX2_fits_139 : decode cX2_fits 139 = .ok (.iconst 1, 1) := by decide +kernel
theorem dX2_fits_140 : decode cX2_fits 140 = .ok (.goto 4, 3) := by decide +kernel
theorem dX2_fits_143 : decode cX2_fits 143 = .ok (.iconst 0, 1) := by decide +kernel
theorem dX2_fits_144 : decode cX2_fits 144 = .ok (.ireturn, 1) := by decide +kernel
theorem dX2_touchingOf_0 : decode cX2_touchingOf 0 = .ok (.iload_n 1, 1) := by decide +kernel
theorem dX2_touchingOf_1 : decode cX2_touchingOf 1 = .ok (.ifCond .lt 21, 3) := by decide +kernel
theorem dX2_touchingOf_4 : decode cX2_touchingOf 4 = .ok (.iload_n 1, 1) := by decide +kernel
theorem dX2_touchingOf_5 : decode cX2_touchingOf 5 = .ok (.aload_n 0, 1) := by decide +kernel
theorem dX2_touchingOf_6 : decode cX2_touchingOf 6 = .ok (.getfield 15, 3) := by decide +kernel
theorem dX2_touchingOf_9 : decode cX2_touchingOf 9 = .ok (.arraylength, 1) := by decide +kernel
theorem dX2_touchingOf_10 : decode cX2_touchingOf 10 = .ok (.if_icmp .ge 12, 3) := by decide +kernel
theorem dX2_touchingOf_13 : decode cX2_touchingOf 13 = .ok (.aload_n 0, 1) := by decide +kernel
theorem dX2_touchingOf_14 : decode cX2_touchingOf 14 = .ok (.getfield 15, 3) := by decide +kernel
theorem dX2_touchingOf_17 : decode cX2_touchingOf 17 = .ok (.iload_n 1, 1) := by decide +kernel
theorem dX2_touchingOf_18 : decode cX2_touchingOf 18 = .ok (.iaload, 1) := by decide +kernel
theorem dX2_touchingOf_19 : decode cX2_touchingOf 19 = .ok (.goto 4, 3) := by decide +kernel
theorem dX2_touchingOf_22 : decode cX2_touchingOf 22 = .ok (.iconst 0, 1) := by decide +kernel
theorem dX2_touchingOf_23 : decode cX2_touchingOf 23 = .ok (.ireturn, 1) := by decide +kernel
theorem dX2_forceOf_0 : decode cX2_forceOf 0 = .ok (.iload_n 1, 1) := by decide +kernel
theorem dX2_forceOf_1 : decode cX2_forceOf 1 = .ok (.ifCond .lt 21, 3) := by decide +kernel
theorem dX2_forceOf_4 : decode cX2_forceOf 4 = .ok (.iload_n 1, 1) := by decide +kernel
theorem dX2_forceOf_5 : decode cX2_forceOf 5 = .ok (.aload_n 0, 1) := by decide +kernel
theorem dX2_forceOf_6 : decode cX2_forceOf 6 = .ok (.getfield 18, 3) := by decide +kernel
theorem dX2_forceOf_9 : decode cX2_forceOf 9 = .ok (.arraylength, 1) := by decide +kernel
theorem dX2_forceOf_10 : decode cX2_forceOf 10 = .ok (.if_icmp .ge 12, 3) := by decide +kernel
theorem dX2_forceOf_13 : decode cX2_forceOf 13 = .ok (.aload_n 0, 1) := by decide +kernel
theorem dX2_forceOf_14 : decode cX2_forceOf 14 = .ok (.getfield 18, 3) := by decide +kernel
theorem dX2_forceOf_17 : decode cX2_forceOf 17 = .ok (.iload_n 1, 1) := by decide +kernel
theorem dX2_forceOf_18 : decode cX2_forceOf 18 = .ok (.iaload, 1) := by decide +kernel
theorem dX2_forceOf_19 : decode cX2_forceOf 19 = .ok (.goto 4, 3) := by decide +kernel
theorem dX2_forceOf_22 : decode cX2_forceOf 22 = .ok (.iconst 0, 1) := by decide +kernel
theorem dX2_forceOf_23 : decode cX2_forceOf 23 = .ok (.ireturn, 1) := by decide +kernel
theorem dX3_init_0 : decode cX3_init 0 = .ok (.aload_n 0, 1) := by decide +kernel
theorem dX3_init_1 : decode cX3_init 1 = .ok (.invokespecial 3, 3) := by decide +kernel
theorem dX3_init_4 : decode cX3_init 4 = .ok (.aload_n 0, 1) := by decide +kernel
theorem dX3_init_5 : decode cX3_init 5 = .ok (.bipush 9, 2) := by decide +kernel
theorem dX3_init_7 : decode cX3_init 7 = .ok (.newarray .long, 2) := by decide +kernel
theorem dX3_init_9 : decode cX3_init 9 = .ok (.putfield 9, 3) := by decide +kernel
theorem dX3_init_12 : decode cX3_init 12 = .ok (.aload_n 0, 1) := by decide +kernel
theorem dX3_init_13 : decode cX3_init 13 = .ok (.bipush 9, 2) := by decide +kernel
theorem dX3_init_15 : decode cX3_init 15 = .ok (.newarray .int, 2) := by decide +kernel
theorem dX3_init_17 : decode cX3_init 17 = .ok (.putfield 15, 3) := by decide +kernel
theorem dX3_init_20 : decode cX3_init 20 = .ok (.aload_n 0, 1) := by decide +kernel
theorem dX3_init_21 : decode cX3_init 21 = .ok (.bipush 9, 2) := by decide +kernel
theorem dX3_init_23 : decode cX3_init 23 = .ok (.newarray .int, 2) := by decide +kernel
theorem dX3_init_25 : decode cX3_init 25 = .ok (.putfield 19, 3) := by decide +kernel
theorem dX3_init_28 : decode cX3_init 28 = .ok (.return_, 1) := by decide +kernel
theorem dX3_copyFrom_0 : decode cX3_copyFrom 0 = .ok (.aload_n 0, 1) := by decide +kernel
theorem dX3_copyFrom_1 : decode cX3_copyFrom 1 = .ok (.aload_n 1, 1) := by decide +kernel
theorem dX3_copyFrom_2 : decode cX3_copyFrom 2 = .ok (.getfield 22, 3) := by decide +kernel
theorem dX3_copyFrom_5 : decode cX3_copyFrom 5 = .ok (.putfield 22, 3) := by decide +kernel
theorem dX3_copyFrom_8 : decode cX3_copyFrom 8 = .ok (.aload_n 0, 1) := by decide +kernel
theorem dX3_copyFrom_9 : decode cX3_copyFrom 9 = .ok (.aload_n 1, 1) := by decide +kernel
theorem dX3_copyFrom_10 : decode cX3_copyFrom 10 = .ok (.getfield 26, 3) := by decide +kernel
theorem dX3_copyFrom_13 : decode cX3_copyFrom 13 = .ok (.putfield 26, 3) := by decide +kernel
theorem dX3_copyFrom_16 : decode cX3_copyFrom 16 = .ok (.aload_n 1, 1) := by decide +kernel
theorem dX3_copyFrom_17 : decode cX3_copyFrom 17 = .ok (.getfield 9, 3) := by decide +kernel
theorem dX3_copyFrom_20 : decode cX3_copyFrom 20 = .ok (.aload_n 0, 1) := by decide +kernel
theorem dX3_copyFrom_21 : decode cX3_copyFrom 21 = .ok (.getfield 9, 3) := by decide +kernel
theorem dX3_copyFrom_24 : decode cX3_copyFrom 24 = .ok (.invokestatic 29, 3) := by decide +kernel
theorem dX3_copyFrom_27 : decode cX3_copyFrom 27 = .ok (.aload_n 1, 1) := by decide +kernel
theorem dX3_copyFrom_28 : decode cX3_copyFrom 28 = .ok (.getfield 15, 3) := by decide +kernel
theorem dX3_copyFrom_31 : decode cX3_copyFrom 31 = .ok (.aload_n 0, 1) := by decide +kernel
theorem dX3_copyFrom_32 : decode cX3_copyFrom 32 = .ok (.getfield 15, 3) := by decide +kernel
theorem dX3_copyFrom_35 : decode cX3_copyFrom 35 = .ok (.invokestatic 33, 3) := by decide +kernel
theorem dX3_copyFrom_38 : decode cX3_copyFrom 38 = .ok (.aload_n 1, 1) := by decide +kernel
theorem dX3_copyFrom_39 : decode cX3_copyFrom 39 = .ok (.getfield 19, 3) := by decide +kernel
theorem dX3_copyFrom_42 : decode cX3_copyFrom 42 = .ok (.aload_n 0, 1) := by decide +kernel
theorem dX3_copyFrom_43 : decode cX3_copyFrom 43 = .ok (.getfield 19, 3) := by decide +kernel
theorem dX3_copyFrom_46 : decode cX3_copyFrom 46 = .ok (.invokestatic 33, 3) := by decide +kernel
theorem dX3_copyFrom_49 : decode cX3_copyFrom 49 = .ok (.aload_n 0, 1) := by decide +kernel
theorem dX3_copyFrom_50 : decode cX3_copyFrom 50 = .ok (.aload_n 1, 1) := by decide +kernel
theorem dX3_copyFrom_51 : decode cX3_copyFrom 51 = .ok (.getfield 37, 3) := by decide +kernel
theorem dX3_copyFrom_54 : decode cX3_copyFrom 54 = .ok (.putfield 37, 3) := by decide +kernel
theorem dX3_copyFrom_57 : decode cX3_copyFrom 57 = .ok (.aload_n 0, 1) := by decide +kernel
theorem dX3_copyFrom_58 : decode cX3_copyFrom 58 = .ok (.aload_n 1, 1) := by decide +kernel
theorem dX3_copyFrom_59 : decode cX3_copyFrom 59 = .ok (.getfield 40, 3) := by decide +kernel
theorem dX3_copyFrom_62 : decode cX3_copyFrom 62 = .ok (.putfield 40, 3) := by decide +kernel
theorem dX3_copyFrom_65 : decode cX3_copyFrom 65 = .ok (.aload_n 0, 1) := by decide +kernel
theorem dX3_copyFrom_66 : decode cX3_copyFrom 66 = .ok (.aload_n 1, 1) := by decide +kernel
theorem dX3_copyFrom_67 : decode cX3_copyFrom 67 = .ok (.getfield 43, 3) := by decide +kernel
theorem dX3_copyFrom_70 : decode cX3_copyFrom 70 = .ok (.putfield 43, 3) := by decide +kernel
theorem dX3_copyFrom_73 : decode cX3_copyFrom 73 = .ok (.aload_n 0, 1) := by decide +kernel
theorem dX3_copyFrom_74 : decode cX3_copyFrom 74 = .ok (.aload_n 1, 1) := by decide +kernel
theorem dX3_copyFrom_75 : decode cX3_copyFrom 75 = .ok (.getfield 46, 3) := by decide +kernel
theorem dX3_copyFrom_78 : decode cX3_copyFrom 78 = .ok (.putfield 46, 3) := by decide +kernel
theorem dX3_copyFrom_81 : decode cX3_copyFrom 81 = .ok (.return_, 1) := by decide +kernel
theorem dX3_startOver_0 : decode cX3_startOver 0 = .ok (.aload_n 0, 1) := by decide +kernel
theorem dX3_startOver_1 : decode cX3_startOver 1 = .ok (.invokevirtual 49, 3) := by decide +kernel
theorem dX3_startOver_4 : decode cX3_startOver 4 = .ok (.pop, 1) := by decide +kernel
theorem dX3_startOver_5 : decode cX3_startOver 5 = .ok (.aload_n 0, 1) := by decide +kernel
theorem dX3_startOver_6 : decode cX3_startOver 6 = .ok (.iconst 0, 1) := by decide +kernel
theorem dX3_startOver_7 : decode cX3_startOver 7 = .ok (.putfield 37, 3) := by decide +kernel
theorem dX3_startOver_10 : decode cX3_startOver 10 = .ok (.aload_n 0, 1) := by decide +kernel
theorem dX3_startOver_11 : decode cX3_startOver 11 = .ok (.iconst 0, 1) := by decide +kernel
theorem dX3_startOver_12 : decode cX3_startOver 12 = .ok (.putfield 40, 3) := by decide +kernel
theorem dX3_startOver_15 : decode cX3_startOver 15 = .ok (.aload_n 0, 1) := by decide +kernel
theorem dX3_startOver_16 : decode cX3_startOver 16 = .ok (.iconst 0, 1) := by decide +kernel
theorem dX3_startOver_17 : decode cX3_startOver 17 = .ok (.putfield 43, 3) := by decide +kernel
theorem dX3_startOver_20 : decode cX3_startOver 20 = .ok (.aload_n 0, 1) := by decide +kernel
theorem dX3_startOver_21 : decode cX3_startOver 21 = .ok (.iconst 0, 1) := by decide +kernel
theorem dX3_startOver_22 : decode cX3_startOver 22 = .ok (.putfield 46, 3) := by decide +kernel
theorem dX3_startOver_25 : decode cX3_startOver 25 = .ok (.return_, 1) := by decide +kernel
theorem dX3_clearPitches_0 : decode cX3_clearPitches 0 = .ok (.aload_n 0, 1) := by decide +kernel
theorem dX3_clearPitches_1 : decode cX3_clearPitches 1 = .ok (.getfield 22, 3) := by decide +kernel
theorem dX3_clearPitches_4 : decode cX3_clearPitches 4 = .ok (.invokestatic 53, 3) := by decide +kernel
theorem dX3_clearPitches_7 : decode cX3_clearPitches 7 = .ok (.istore_n 1, 1) := by decide +kernel
theorem dX3_clearPitches_8 : decode cX3_clearPitches 8 = .ok (.aload_n 0, 1) := by decide +kernel
theorem dX3_clearPitches_9 : decode cX3_clearPitches 9 = .ok (.iconst 0, 1) := by decide +kernel
theorem dX3_clearPitches_10 : decode cX3_clearPitches 10 = .ok (.putfield 22, 3) := by decide +kernel
theorem dX3_clearPitches_13 : decode cX3_clearPitches 13 = .ok (.aload_n 0, 1) := by decide +kernel
theorem dX3_clearPitches_14 : decode cX3_clearPitches 14 = .ok (.iconst 0, 1) := by decide +kernel
theorem dX3_clearPitches_15 : decode cX3_clearPitches 15 = .ok (.putfield 26, 3) := by decide +kernel
theorem dX3_clearPitches_18 : decode cX3_clearPitches 18 = .ok (.iload_n 1, 1) := by decide +kernel
theorem dX3_clearPitches_19 : decode cX3_clearPitches 19 = .ok (.ireturn, 1) := by decide +kernel
theorem dX3_hasPitch_0 : decode cX3_hasPitch 0 = .ok (.aload_n 0, 1) := by decide +kernel
theorem dX3_hasPitch_1 : decode cX3_hasPitch 1 = .ok (.getfield 22, 3) := by decide +kernel
theorem dX3_hasPitch_4 : decode cX3_hasPitch 4 = .ok (.iload_n 1, 1) := by decide +kernel
theorem dX3_hasPitch_5 : decode cX3_hasPitch 5 = .ok (.invokestatic 59, 3) := by decide +kernel
theorem dX3_hasPitch_8 : decode cX3_hasPitch 8 = .ok (.ireturn, 1) := by decide +kernel
theorem dX3_cellsAt_0 : decode cX3_cellsAt 0 = .ok (.iload_n 1, 1) := by decide +kernel
theorem dX3_cellsAt_1 : decode cX3_cellsAt 1 = .ok (.ifCond .lt 21, 3) := by decide +kernel
theorem dX3_cellsAt_4 : decode cX3_cellsAt 4 = .ok (.iload_n 1, 1) := by decide +kernel
theorem dX3_cellsAt_5 : decode cX3_cellsAt 5 = .ok (.aload_n 0, 1) := by decide +kernel
theorem dX3_cellsAt_6 : decode cX3_cellsAt 6 = .ok (.getfield 9, 3) := by decide +kernel
theorem dX3_cellsAt_9 : decode cX3_cellsAt 9 = .ok (.arraylength, 1) := by decide +kernel
theorem dX3_cellsAt_10 : decode cX3_cellsAt 10 = .ok (.if_icmp .ge 12, 3) := by decide +kernel
theorem dX3_cellsAt_13 : decode cX3_cellsAt 13 = .ok (.aload_n 0, 1) := by decide +kernel
theorem dX3_cellsAt_14 : decode cX3_cellsAt 14 = .ok (.getfield 9, 3) := by decide +kernel
theorem dX3_cellsAt_17 : decode cX3_cellsAt 17 = .ok (.iload_n 1, 1) := by decide +kernel
theorem dX3_cellsAt_18 : decode cX3_cellsAt 18 = .ok (.laload, 1) := by decide +kernel
theorem dX3_cellsAt_19 : decode cX3_cellsAt 19 = .ok (.goto 4, 3) := by decide +kernel
theorem dX3_cellsAt_22 : decode cX3_cellsAt 22 = .ok (.lconst 0, 1) := by decide +kernel
theorem dX3_cellsAt_23 : decode cX3_cellsAt 23 = .ok (.lreturn, 1) := by decide +kernel
theorem dX3_bendsAt_0 : decode cX3_bendsAt 0 = .ok (.iload_n 1, 1) := by decide +kernel
theorem dX3_bendsAt_1 : decode cX3_bendsAt 1 = .ok (.ifCond .lt 21, 3) := by decide +kernel
theorem dX3_bendsAt_4 : decode cX3_bendsAt 4 = .ok (.iload_n 1, 1) := by decide +kernel
theorem dX3_bendsAt_5 : decode cX3_bendsAt 5 = .ok (.aload_n 0, 1) := by decide +kernel
theorem dX3_bendsAt_6 : decode cX3_bendsAt 6 = .ok (.getfield 15, 3) := by decide +kernel
theorem dX3_bendsAt_9 : decode cX3_bendsAt 9 = .ok (.arraylength, 1) := by decide +kernel
theorem dX3_bendsAt_10 : decode cX3_bendsAt 10 = .ok (.if_icmp .ge 12, 3) := by decide +kernel
theorem dX3_bendsAt_13 : decode cX3_bendsAt 13 = .ok (.aload_n 0, 1) := by decide +kernel
theorem dX3_bendsAt_14 : decode cX3_bendsAt 14 = .ok (.getfield 15, 3) := by decide +kernel
theorem dX3_bendsAt_17 : decode cX3_bendsAt 17 = .ok (.iload_n 1, 1) := by decide +kernel
theorem dX3_bendsAt_18 : decode cX3_bendsAt 18 = .ok (.iaload, 1) := by decide +kernel
theorem dX3_bendsAt_19 : decode cX3_bendsAt 19 = .ok (.goto 4, 3) := by decide +kernel
theorem dX3_bendsAt_22 : decode cX3_bendsAt 22 = .ok (.iconst 0, 1) := by decide +kernel
theorem dX3_bendsAt_23 : decode cX3_bendsAt 23 = .ok (.ireturn, 1) := by decide +kernel
theorem dX3_offsetAt_0 : decode cX3_offsetAt 0 = .ok (.iload_n 1, 1) := by decide +kernel
theorem dX3_offsetAt_1 : decode cX3_offsetAt 1 = .ok (.ifCond .lt 21, 3) := by decide +kernel
theorem dX3_offsetAt_4 : decode cX3_offsetAt 4 = .ok (.iload_n 1, 1) := by decide +kernel
theorem dX3_offsetAt_5 : decode cX3_offsetAt 5 = .ok (.aload_n 0, 1) := by decide +kernel
theorem dX3_offsetAt_6 : decode cX3_offsetAt 6 = .ok (.getfield 19, 3) := by decide +kernel
theorem dX3_offsetAt_9 : decode cX3_offsetAt 9 = .ok (.arraylength, 1) := by decide +kernel
theorem dX3_offsetAt_10 : decode cX3_offsetAt 10 = .ok (.if_icmp .ge 12, 3) := by decide +kernel
theorem dX3_offsetAt_13 : decode cX3_offsetAt 13 = .ok (.aload_n 0, 1) := by decide +kernel
theorem dX3_offsetAt_14 : decode cX3_offsetAt 14 = .ok (.getfield 19, 3) := by decide +kernel
theorem dX3_offsetAt_17 : decode cX3_offsetAt 17 = .ok (.iload_n 1, 1) := by decide +kernel
theorem dX3_offsetAt_18 : decode cX3_offsetAt 18 = .ok (.iaload, 1) := by decide +kernel
theorem dX3_offsetAt_19 : decode cX3_offsetAt 19 = .ok (.goto 4, 3) := by decide +kernel
theorem dX3_offsetAt_22 : decode cX3_offsetAt 22 = .ok (.iconst 0, 1) := by decide +kernel
theorem dX3_offsetAt_23 : decode cX3_offsetAt 23 = .ok (.ireturn, 1) := by decide +kernel
theorem dX3_changePitch_0 : decode cX3_changePitch 0 = .ok (.iload_n 1, 1) := by decide +kernel
theorem dX3_changePitch_1 : decode cX3_changePitch 1 = .ok (.ifCond .lt 53, 3) := by decide +kernel
theorem dX3_changePitch_4 : decode cX3_changePitch 4 = .ok (.iload_n 1, 1) := by decide +kernel
theorem dX3_changePitch_5 : decode cX3_changePitch 5 = .ok (.aload_n 0, 1) := by decide +kernel
theorem dX3_changePitch_6 : decode cX3_changePitch 6 = .ok (.getfield 9, 3) := by decide +kernel
theorem dX3_changePitch_9 : decode cX3_changePitch 9 = .ok (.arraylength, 1) := by decide +kernel
theorem dX3_changePitch_10 : decode cX3_changePitch 10 = .ok (.if_icmp .ge 44, 3) := by decide +kernel
theorem dX3_changePitch_13 : decode cX3_changePitch 13 = .ok (.iload_n 1, 1) := by decide +kernel
theorem dX3_changePitch_14 : decode cX3_changePitch 14 = .ok (.aload_n 0, 1) := by decide +kernel
theorem dX3_changePitch_15 : decode cX3_changePitch 15 = .ok (.getfield 15, 3) := by decide +kernel
theorem dX3_changePitch_18 : decode cX3_changePitch 18 = .ok (.arraylength, 1) := by decide +kernel
theorem dX3_changePitch_19 : decode cX3_changePitch 19 = .ok (.if_icmp .ge 35, 3) := by decide +kernel
theorem dX3_changePitch_22 : decode cX3_changePitch 22 = .ok (.iload_n 1, 1) := by decide +kernel
theorem dX3_changePitch_23 : decode cX3_changePitch 23 = .ok (.aload_n 0, 1) := by decide +kernel
theorem dX3_changePitch_24 : decode cX3_changePitch 24 = .ok (.getfield 19, 3) := by decide +kernel
theorem dX3_changePitch_27 : decode cX3_changePitch 27 = .ok (.arraylength, 1) := by decide +kernel
theorem dX3_changePitch_28 : decode cX3_changePitch 28 = .ok (.if_icmp .ge 26, 3) := by decide +kernel
theorem dX3_changePitch_31 : decode cX3_changePitch 31 = .ok (.aload_n 0, 1) := by decide +kernel
theorem dX3_changePitch_32 : decode cX3_changePitch 32 = .ok (.getfield 9, 3) := by decide +kernel
theorem dX3_changePitch_35 : decode cX3_changePitch 35 = .ok (.iload_n 1, 1) := by decide +kernel
theorem dX3_changePitch_36 : decode cX3_changePitch 36 = .ok (.lload_n 2, 1) := by decide +kernel
theorem dX3_changePitch_37 : decode cX3_changePitch 37 = .ok (.lastore, 1) := by decide +kernel
theorem dX3_changePitch_38 : decode cX3_changePitch 38 = .ok (.aload_n 0, 1) := by decide +kernel
theorem dX3_changePitch_39 : decode cX3_changePitch 39 = .ok (.getfield 15, 3) := by decide +kernel
theorem dX3_changePitch_42 : decode cX3_changePitch 42 = .ok (.iload_n 1, 1) := by decide +kernel
theorem dX3_changePitch_43 : decode cX3_changePitch 43 = .ok (.iload 4, 2) := by decide +kernel
theorem dX3_changePitch_45 : decode cX3_changePitch 45 = .ok (.iastore, 1) := by decide +kernel
theorem dX3_changePitch_46 : decode cX3_changePitch 46 = .ok (.aload_n 0, 1) := by decide +kernel
theorem dX3_changePitch_47 : decode cX3_changePitch 47 = .ok (.getfield 19, 3) := by decide +kernel
theorem dX3_changePitch_50 : decode cX3_changePitch 50 = .ok (.iload_n 1, 1) := by decide +kernel
theorem dX3_changePitch_51 : decode cX3_changePitch 51 = .ok (.iload 5, 2) := by decide +kernel
theorem dX3_changePitch_53 : decode cX3_changePitch 53 = .ok (.iastore, 1) := by decide +kernel
theorem dX3_changePitch_54 : decode cX3_changePitch 54 = .ok (.return_, 1) := by decide +kernel
theorem dX3_valueOf_0 : decode cX3_valueOf 0 = .ok (.iload_n 2, 1) := by decide +kernel
theorem dX3_valueOf_1 : decode cX3_valueOf 1 = .ok (.tableswitch 56 0 2 #[27, 33, 39], 27) := by decide +kernel
theorem dX3_valueOf_28 : decode cX3_valueOf 28 = .ok (.aload_n 0, 1) := by decide +kernel
theorem dX3_valueOf_29 : decode cX3_valueOf 29 = .ok (.iload_n 1, 1) := by decide +kernel
theorem dX3_valueOf_30 : decode cX3_valueOf 30 = .ok (.invokevirtual 63, 3) := by decide +kernel
theorem dX3_valueOf_33 : decode cX3_valueOf 33 = .ok (.ireturn, 1) := by decide +kernel
theorem dX3_valueOf_34 : decode cX3_valueOf 34 = .ok (.aload_n 0, 1) := by decide +kernel
theorem dX3_valueOf_35 : decode cX3_valueOf 35 = .ok (.iload_n 1, 1) := by decide +kernel
theorem dX3_valueOf_36 : decode cX3_valueOf 36 = .ok (.invokevirtual 66, 3) := by decide +kernel
theorem dX3_valueOf_39 : decode cX3_valueOf 39 = .ok (.ireturn, 1) := by decide +kernel
theorem dX3_valueOf_40 : decode cX3_valueOf 40 = .ok (.aload_n 0, 1) := by decide +kernel
theorem dX3_valueOf_41 : decode cX3_valueOf 41 = .ok (.getfield 26, 3) := by decide +kernel
theorem dX3_valueOf_44 : decode cX3_valueOf 44 = .ok (.iload_n 1, 1) := by decide +kernel
theorem dX3_valueOf_45 : decode cX3_valueOf 45 = .ok (.invokestatic 59, 3) := by decide +kernel
theorem dX3_valueOf_48 : decode cX3_valueOf 48 = .ok (.ifCond .eq 7, 3) := by decide +kernel
theorem dX3_valueOf_51 : decode cX3_valueOf 51 = .ok (.iconst 1, 1) := by decide +kernel
theorem dX3_valueOf_52 : decode cX3_valueOf 52 = .ok (.goto 4, 3) := by decide +kernel
theorem dX3_valueOf_55 : decode cX3_valueOf 55 = .ok (.iconst 0, 1) := by decide +kernel
theorem dX3_valueOf_56 : decode cX3_valueOf 56 = .ok (.ireturn, 1) := by decide +kernel
theorem dX3_valueOf_57 : decode cX3_valueOf 57 = .ok (.aload_n 0, 1) := by decide +kernel
theorem dX3_valueOf_58 : decode cX3_valueOf 58 = .ok (.iload_n 1, 1) := by decide +kernel
theorem dX3_valueOf_59 : decode cX3_valueOf 59 = .ok (.invokevirtual 69, 3) := by decide +kernel
theorem dX3_valueOf_62 : decode cX3_valueOf 62 = .ok (.invokestatic 73, 3) := by decide +kernel
theorem dX3_valueOf_65 : decode cX3_valueOf 65 = .ok (.ireturn, 1) := by decide +kernel
theorem dX3_wholeValue_0 : decode cX3_wholeValue 0 = .ok (.iload_n 1, 1) := by decide +kernel
theorem dX3_wholeValue_1 : decode cX3_wholeValue 1 = .ok (.tableswitch 54 10 13 #[31, 39, 44, 49], 31) := by decide +kernel
theorem dX3_wholeValue_32 : decode cX3_wholeValue 32 = .ok (.aload_n 0, 1) := by decide +kernel
theorem dX3_wholeValue_33 : decode cX3_wholeValue 33 = .ok (.getfield 22, 3) := by decide +kernel
theorem dX3_wholeValue_36 : decode cX3_wholeValue 36 = .ok (.invokestatic 53, 3) := by decide +kernel
theorem dX3_wholeValue_39 : decode cX3_wholeValue 39 = .ok (.ireturn, 1) := by decide +kernel
theorem dX3_wholeValue_40 : decode cX3_wholeValue 40 = .ok (.aload_n 0, 1) := by decide +kernel
theorem dX3_wholeValue_41 : decode cX3_wholeValue 41 = .ok (.getfield 37, 3) := by decide +kernel
theorem dX3_wholeValue_44 : decode cX3_wholeValue 44 = .ok (.ireturn, 1) := by decide +kernel
theorem dX3_wholeValue_45 : decode cX3_wholeValue 45 = .ok (.aload_n 0, 1) := by decide +kernel
theorem dX3_wholeValue_46 : decode cX3_wholeValue 46 = .ok (.getfield 40, 3) := by decide +kernel
theorem dX3_wholeValue_49 : decode cX3_wholeValue 49 = .ok (.ireturn, 1) := by decide +kernel
theorem dX3_wholeValue_50 : decode cX3_wholeValue 50 = .ok (.aload_n 0, 1) := by decide +kernel
theorem dX3_wholeValue_51 : decode cX3_wholeValue 51 = .ok (.getfield 43, 3) := by decide +kernel
theorem dX3_wholeValue_54 : decode cX3_wholeValue 54 = .ok (.ireturn, 1) := by decide +kernel
theorem dX3_wholeValue_55 : decode cX3_wholeValue 55 = .ok (.aload_n 0, 1) := by decide +kernel
theorem dX3_wholeValue_56 : decode cX3_wholeValue 56 = .ok (.getfield 46, 3) := by decide +kernel
theorem dX3_wholeValue_59 : decode cX3_wholeValue 59 = .ok (.ireturn, 1) := by decide +kernel
theorem dX3_forgetBend_0 : decode cX3_forgetBend 0 = .ok (.iconst 1, 1) := by decide +kernel
theorem dX3_forgetBend_1 : decode cX3_forgetBend 1 = .ok (.iload_n 1, 1) := by decide +kernel
theorem dX3_forgetBend_2 : decode cX3_forgetBend 2 = .ok (.ishl, 1) := by decide +kernel
theorem dX3_forgetBend_3 : decode cX3_forgetBend 3 = .ok (.iconst 1, 1) := by decide +kernel
theorem dX3_forgetBend_4 : decode cX3_forgetBend 4 = .ok (.isub, 1) := by decide +kernel
theorem dX3_forgetBend_5 : decode cX3_forgetBend 5 = .ok (.istore_n 2, 1) := by decide +kernel
theorem dX3_forgetBend_6 : decode cX3_forgetBend 6 = .ok (.iconst 0, 1) := by decide +kernel
theorem dX3_forgetBend_7 : decode cX3_forgetBend 7 = .ok (.istore_n 3, 1) := by decide +kernel
theorem dX3_forgetBend_8 : decode cX3_forgetBend 8 = .ok (.iload_n 3, 1) := by decide +kernel
theorem dX3_forgetBend_9 : decode cX3_forgetBend 9 = .ok (.aload_n 0, 1) := by decide +kernel
theorem dX3_forgetBend_10 : decode cX3_forgetBend 10 = .ok (.getfield 15, 3) := by decide +kernel
theorem dX3_forgetBend_13 : decode cX3_forgetBend 13 = .ok (.arraylength, 1) := by decide +kernel
theorem dX3_forgetBend_14 : decode cX3_forgetBend 14 = .ok (.if_icmp .ge 36, 3) := by decide +kernel
theorem dX3_forgetBend_17 : decode cX3_forgetBend 17 = .ok (.aload_n 0, 1) := by decide +kernel
theorem dX3_forgetBend_18 : decode cX3_forgetBend 18 = .ok (.getfield 15, 3) := by decide +kernel
theorem dX3_forgetBend_21 : decode cX3_forgetBend 21 = .ok (.iload_n 3, 1) := by decide +kernel
theorem dX3_forgetBend_22 : decode cX3_forgetBend 22 = .ok (.aload_n 0, 1) := by decide +kernel
theorem dX3_forgetBend_23 : decode cX3_forgetBend 23 = .ok (.getfield 15, 3) := by decide +kernel
theorem dX3_forgetBend_26 : decode cX3_forgetBend 26 = .ok (.iload_n 3, 1) := by decide +kernel
theorem dX3_forgetBend_27 : decode cX3_forgetBend 27 = .ok (.iaload, 1) := by decide +kernel
theorem dX3_forgetBend_28 : decode cX3_forgetBend 28 = .ok (.iload_n 2, 1) := by decide +kernel
theorem dX3_forgetBend_29 : decode cX3_forgetBend 29 = .ok (.iand, 1) := by decide +kernel
theorem dX3_forgetBend_30 : decode cX3_forgetBend 30 = .ok (.aload_n 0, 1) := by decide +kernel
theorem dX3_forgetBend_31 : decode cX3_forgetBend 31 = .ok (.getfield 15, 3) := by decide +kernel
theorem dX3_forgetBend_34 : decode cX3_forgetBend 34 = .ok (.iload_n 3, 1) := by decide +kernel
theorem dX3_forgetBend_35 : decode cX3_forgetBend 35 = .ok (.iaload, 1) := by decide +kernel
theorem dX3_forgetBend_36 : decode cX3_forgetBend 36 = .ok (.iconst 1, 1) := by decide +kernel
theorem dX3_forgetBend_37 : decode cX3_forgetBend 37 = .ok (.ishr, 1) := by decide +kernel
theorem dX3_forgetBend_38 : decode cX3_forgetBend 38 = .ok (.iload_n 2, 1) := by decide +kernel
theorem dX3_forgetBend_39 : decode cX3_forgetBend 39 = .ok (.iconst (-1), 1) := by decide +kernel
theorem dX3_forgetBend_40 : decode cX3_forgetBend 40 = .ok (.ixor, 1) := by decide +kernel
theorem dX3_forgetBend_41 : decode cX3_forgetBend 41 = .ok (.iand, 1) := by decide +kernel
theorem dX3_forgetBend_42 : decode cX3_forgetBend 42 = .ok (.ior, 1) := by decide +kernel
theorem dX3_forgetBend_43 : decode cX3_forgetBend 43 = .ok (.iastore, 1) := by decide +kernel
theorem dX3_forgetBend_44 : decode cX3_forgetBend 44 = .ok (.iinc 3 1, 3) := by decide +kernel
theorem dX3_forgetBend_47 : decode cX3_forgetBend 47 = .ok (.goto (-39), 3) := by decide +kernel
theorem dX3_forgetBend_50 : decode cX3_forgetBend 50 = .ok (.return_, 1) := by decide +kernel
theorem dX3_feed_0 : decode cX3_feed 0 = .ok (.aload_n 0, 1) := by decide +kernel
theorem dX3_feed_1 : decode cX3_feed 1 = .ok (.getfield 40, 3) := by decide +kernel
theorem dX3_feed_4 : decode cX3_feed 4 = .ok (.istore_n 2, 1) := by decide +kernel
theorem dX3_feed_5 : decode cX3_feed 5 = .ok (.aload_n 0, 1) := by decide +kernel
theorem dX3_feed_6 : decode cX3_feed 6 = .ok (.getfield 43, 3) := by decide +kernel
theorem dX3_feed_9 : decode cX3_feed 9 = .ok (.istore_n 3, 1) := by decide +kernel
theorem dX3_feed_10 : decode cX3_feed 10 = .ok (.aload_n 0, 1) := by decide +kernel
theorem dX3_feed_11 : decode cX3_feed 11 = .ok (.dup, 1) := by decide +kernel
theorem dX3_feed_12 : decode cX3_feed 12 = .ok (.getfield 37, 3) := by decide +kernel
theorem dX3_feed_15 : decode cX3_feed 15 = .ok (.iconst 1, 1) := by decide +kernel
theorem dX3_feed_16 : decode cX3_feed 16 = .ok (.iadd, 1) := by decide +kernel
theorem dX3_feed_17 : decode cX3_feed 17 = .ok (.putfield 37, 3) := by decide +kernel
theorem dX3_feed_20 : decode cX3_feed 20 = .ok (.aload_n 0, 1) := by decide +kernel
theorem dX3_feed_21 : decode cX3_feed 21 = .ok (.aload_n 1, 1) := by decide +kernel
theorem dX3_feed_22 : decode cX3_feed 22 = .ok (.invokevirtual 78, 3) := by decide +kernel
theorem dX3_feed_25 : decode cX3_feed 25 = .ok (.aload_n 0, 1) := by decide +kernel
theorem dX3_feed_26 : decode cX3_feed 26 = .ok (.aload_n 1, 1) := by decide +kernel
theorem dX3_feed_27 : decode cX3_feed 27 = .ok (.invokevirtual 82, 3) := by decide +kernel
theorem dX3_feed_30 : decode cX3_feed 30 = .ok (.aload_n 0, 1) := by decide +kernel
theorem dX3_feed_31 : decode cX3_feed 31 = .ok (.aload_n 1, 1) := by decide +kernel
theorem dX3_feed_32 : decode cX3_feed 32 = .ok (.invokevirtual 85, 3) := by decide +kernel
theorem dX3_feed_35 : decode cX3_feed 35 = .ok (.aload_n 0, 1) := by decide +kernel
theorem dX3_feed_36 : decode cX3_feed 36 = .ok (.aload_n 1, 1) := by decide +kernel
theorem dX3_feed_37 : decode cX3_feed 37 = .ok (.invokevirtual 88, 3) := by decide +kernel
theorem dX3_feed_40 : decode cX3_feed 40 = .ok (.aload_n 0, 1) := by decide +kernel
theorem dX3_feed_41 : decode cX3_feed 41 = .ok (.getfield 43, 3) := by decide +kernel
theorem dX3_feed_44 : decode cX3_feed 44 = .ok (.iload_n 3, 1) := by decide +kernel
theorem dX3_feed_45 : decode cX3_feed 45 = .ok (.if_icmp .le 5, 3) := by decide +kernel
theorem dX3_feed_48 : decode cX3_feed 48 = .ok (.iconst 2, 1) := by decide +kernel
theorem dX3_feed_49 : decode cX3_feed 49 = .ok (.ireturn, 1) := by decide +kernel
theorem dX3_feed_50 : decode cX3_feed 50 = .ok (.aload_n 0, 1) := by decide +kernel
theorem dX3_feed_51 : decode cX3_feed 51 = .ok (.getfield 40, 3) := by decide +kernel
theorem dX3_feed_54 : decode cX3_feed 54 = .ok (.iload_n 2, 1) := by decide +kernel
theorem dX3_feed_55 : decode cX3_feed 55 = .ok (.if_icmp .le 7, 3) := by decide +kernel
theorem dX3_feed_58 : decode cX3_feed 58 = .ok (.iconst 1, 1) := by decide +kernel
theorem dX3_feed_59 : decode cX3_feed 59 = .ok (.goto 4, 3) := by decide +kernel
theorem dX3_feed_62 : decode cX3_feed 62 = .ok (.iconst 0, 1) := by decide +kernel
theorem dX3_feed_63 : decode cX3_feed 63 = .ok (.ireturn, 1) := by decide +kernel
theorem dX3_moveOn_0 : decode cX3_moveOn 0 = .ok (.bipush 8, 2) := by decide +kernel
theorem dX3_moveOn_2 : decode cX3_moveOn 2 = .ok (.istore_n 2, 1) := by decide +kernel
theorem dX3_moveOn_3 : decode cX3_moveOn 3 = .ok (.iload_n 2, 1) := by decide +kernel
theorem dX3_moveOn_4 : decode cX3_moveOn 4 = .ok (.iconst 1, 1) := by decide +kernel
theorem dX3_moveOn_5 : decode cX3_moveOn 5 = .ok (.if_icmp .lt 41, 3) := by decide +kernel
theorem dX3_moveOn_8 : decode cX3_moveOn 8 = .ok (.aload_n 0, 1) := by decide +kernel
theorem dX3_moveOn_9 : decode cX3_moveOn 9 = .ok (.iload_n 2, 1) := by decide +kernel
theorem dX3_moveOn_10 : decode cX3_moveOn 10 = .ok (.aload_n 0, 1) := by decide +kernel
theorem dX3_moveOn_11 : decode cX3_moveOn 11 = .ok (.iload_n 2, 1) := by decide +kernel
theorem dX3_moveOn_12 : decode cX3_moveOn 12 = .ok (.iconst 1, 1) := by decide +kernel
theorem dX3_moveOn_13 : decode cX3_moveOn 13 = .ok (.isub, 1) := by decide +kernel
theorem dX3_moveOn_14 : decode cX3_moveOn 14 = .ok (.invokevirtual 69, 3) := by decide +kernel
theorem dX3_moveOn_17 : decode cX3_moveOn 17 = .ok (.aload_n 0, 1) := by decide +kernel
theorem dX3_moveOn_18 : decode cX3_moveOn 18 = .ok (.iload_n 2, 1) := by decide +kernel
theorem dX3_moveOn_19 : decode cX3_moveOn 19 = .ok (.iconst 1, 1) := by decide +kernel
theorem dX3_moveOn_20 : decode cX3_moveOn 20 = .ok (.isub, 1) := by decide +kernel
theorem dX3_moveOn_21 : decode cX3_moveOn 21 = .ok (.invokevirtual 63, 3) := by decide +kernel
theorem dX3_moveOn_24 : decode cX3_moveOn 24 = .ok (.aload_n 0, 1) := by decide +kernel
theorem dX3_moveOn_25 : decode cX3_moveOn 25 = .ok (.iload_n 2, 1) := by decide +kernel
theorem dX3_moveOn_26 : decode cX3_moveOn 26 = .ok (.iconst 1, 1) := by decide +kernel
theorem dX3_moveOn_27 : decode cX3_moveOn 27 = .ok (.isub, 1) := by decide +kernel
theorem dX3_moveOn_28 : decode cX3_moveOn 28 = .ok (.invokevirtual 66, 3) := by decide +kernel
theorem dX3_moveOn_31 : decode cX3_moveOn 31 = .ok (.aload_n 1, 1) := by decide +kernel
theorem dX3_moveOn_32 : decode cX3_moveOn 32 = .ok (.iconst 2, 1) := by decide +kernel
theorem dX3_moveOn_33 : decode cX3_moveOn 33 = .ok (.invokevirtual 91, 3) := by decide +kernel
theorem dX3_moveOn_36 : decode cX3_moveOn 36 = .ok (.iadd, 1) := by decide +kernel
theorem dX3_moveOn_37 : decode cX3_moveOn 37 = .ok (.invokevirtual 96, 3) := by decide +kernel
theorem dX3_moveOn_40 : decode cX3_moveOn 40 = .ok (.iinc 2 (-1), 3) := by decide +kernel
theorem dX3_moveOn_43 : decode cX3_moveOn 43 = .ok (.goto (-40), 3) := by decide +kernel
theorem dX3_moveOn_46 : decode cX3_moveOn 46 = .ok (.aload_n 0, 1) := by decide +kernel
theorem dX3_moveOn_47 : decode cX3_moveOn 47 = .ok (.iconst 0, 1) := by decide +kernel
theorem dX3_moveOn_48 : decode cX3_moveOn 48 = .ok (.aload_n 1, 1) := by decide +kernel
theorem dX3_moveOn_49 : decode cX3_moveOn 49 = .ok (.invokevirtual 100, 3) := by decide +kernel
theorem dX3_moveOn_52 : decode cX3_moveOn 52 = .ok (.iconst 0, 1) := by decide +kernel
theorem dX3_moveOn_53 : decode cX3_moveOn 53 = .ok (.iconst 0, 1) := by decide +kernel
theorem dX3_moveOn_54 : decode cX3_moveOn 54 = .ok (.invokevirtual 96, 3) := by decide +kernel
theorem dX3_moveOn_57 : decode cX3_moveOn 57 = .ok (.aload_n 0, 1) := by decide +kernel
theorem dX3_moveOn_58 : decode cX3_moveOn 58 = .ok (.aload_n 0, 1) := by decide +kernel
theorem dX3_moveOn_59 : decode cX3_moveOn 59 = .ok (.getfield 22, 3) := by decide +kernel
theorem dX3_moveOn_62 : decode cX3_moveOn 62 = .ok (.iconst 1, 1) := by decide +kernel
theorem dX3_moveOn_63 : decode cX3_moveOn 63 = .ok (.ishl, 1) := by decide +kernel
theorem dX3_moveOn_64 : decode cX3_moveOn 64 = .ok (.iconst 1, 1) := by decide +kernel
theorem dX3_moveOn_65 : decode cX3_moveOn 65 = .ok (.ior, 1) := by decide +kernel
theorem dX3_moveOn_66 : decode cX3_moveOn 66 = .ok (.putfield 22, 3) := by decide +kernel
theorem dX3_moveOn_69 : decode cX3_moveOn 69 = .ok (.aload_n 0, 1) := by decide +kernel
theorem dX3_moveOn_70 : decode cX3_moveOn 70 = .ok (.aload_n 0, 1) := by decide +kernel
theorem dX3_moveOn_71 : decode cX3_moveOn 71 = .ok (.getfield 26, 3) := by decide +kernel
theorem dX3_moveOn_74 : decode cX3_moveOn 74 = .ok (.iconst 1, 1) := by decide +kernel
theorem dX3_moveOn_75 : decode cX3_moveOn 75 = .ok (.ishl, 1) := by decide +kernel
theorem dX3_moveOn_76 : decode cX3_moveOn 76 = .ok (.putfield 26, 3) := by decide +kernel
theorem dX3_moveOn_79 : decode cX3_moveOn 79 = .ok (.return_, 1) := by decide +kernel
theorem dX3_cutOff_0 : decode cX3_cutOff 0 = .ok (.aload_n 1, 1) := by decide +kernel
theorem dX3_cutOff_1 : decode cX3_cutOff 1 = .ok (.invokevirtual 104, 3) := by decide +kernel
theorem dX3_cutOff_4 : decode cX3_cutOff 4 = .ok (.lstore_n 2, 1) := by decide +kernel
theorem dX3_cutOff_5 : decode cX3_cutOff 5 = .ok (.aload_n 1, 1) := by decide +kernel
theorem dX3_cutOff_6 : decode cX3_cutOff 6 = .ok (.invokevirtual 107, 3) := by decide +kernel
theorem dX3_cutOff_9 : decode cX3_cutOff 9 = .ok (.lstore 4, 2) := by decide +kernel
theorem dX3_cutOff_11 : decode cX3_cutOff 11 = .ok (.aload_n 1, 1) := by decide +kernel
theorem dX3_cutOff_12 : decode cX3_cutOff 12 = .ok (.invokevirtual 110, 3) := by decide +kernel
theorem dX3_cutOff_15 : decode cX3_cutOff 15 = .ok (.istore 6, 2) := by decide +kernel
theorem dX3_cutOff_17 : decode cX3_cutOff 17 = .ok (.iload 6, 2) := by decide +kernel
theorem dX3_cutOff_19 : decode cX3_cutOff 19 = .ok (.bipush 9, 2) := by decide +kernel
theorem dX3_cutOff_21 : decode cX3_cutOff 21 = .ok (.if_icmp .ge 121, 3) := by decide +kernel
theorem dX3_cutOff_24 : decode cX3_cutOff 24 = .ok (.aload_n 0, 1) := by decide +kernel
theorem dX3_cutOff_25 : decode cX3_cutOff 25 = .ok (.iload 6, 2) := by decide +kernel
theorem dX3_cutOff_27 : decode cX3_cutOff 27 = .ok (.invokevirtual 113, 3) := by decide +kernel
theorem dX3_cutOff_30 : decode cX3_cutOff 30 = .ok (.ifCond .eq 106, 3) := by decide +kernel
theorem dX3_cutOff_33 : decode cX3_cutOff 33 = .ok (.aload_n 0, 1) := by decide +kernel
theorem dX3_cutOff_34 : decode cX3_cutOff 34 = .ok (.iload 6, 2) := by decide +kernel
theorem dX3_cutOff_36 : decode cX3_cutOff 36 = .ok (.invokevirtual 69, 3) := by decide +kernel
theorem dX3_cutOff_39 : decode cX3_cutOff 39 = .ok (.lload_n 2, 1) := by decide +kernel
theorem dX3_cutOff_40 : decode cX3_cutOff 40 = .ok (.lload 4, 2) := by decide +kernel
theorem dX3_cutOff_42 : decode cX3_cutOff 42 = .ok (.lor, 1) := by decide +kernel
theorem dX3_cutOff_43 : decode cX3_cutOff 43 = .ok (.land, 1) := by decide +kernel
theorem dX3_cutOff_44 : decode cX3_cutOff 44 = .ok (.lload_n 2, 1) := by decide +kernel
theorem dX3_cutOff_45 : decode cX3_cutOff 45 = .ok (.lcmp, 1) := by decide +kernel
theorem dX3_cutOff_46 : decode cX3_cutOff 46 = .ok (.ifCond .ne 7, 3) := by decide +kernel
theorem dX3_cutOff_49 : decode cX3_cutOff 49 = .ok (.iconst 1, 1) := by decide +kernel
theorem dX3_cutOff_50 : decode cX3_cutOff 50 = .ok (.goto 4, 3) := by decide +kernel
theorem dX3_cutOff_53 : decode cX3_cutOff 53 = .ok (.iconst 0, 1) := by decide +kernel
theorem dX3_cutOff_54 : decode cX3_cutOff 54 = .ok (.istore 7, 2) := by decide +kernel
theorem dX3_cutOff_56 : decode cX3_cutOff 56 = .ok (.iload 7, 2) := by decide +kernel
theorem dX3_cutOff_58 : decode cX3_cutOff 58 = .ok (.ifCond .eq 38, 3) := by decide +kernel
theorem dX3_cutOff_61 : decode cX3_cutOff 61 = .ok (.aload_n 0, 1) := by decide +kernel
theorem dX3_cutOff_62 : decode cX3_cutOff 62 = .ok (.aload_n 1, 1) := by decide +kernel
theorem dX3_cutOff_63 : decode cX3_cutOff 63 = .ok (.iload 6, 2) := by decide +kernel
theorem dX3_cutOff_65 : decode cX3_cutOff 65 = .ok (.invokevirtual 117, 3) := by decide +kernel
theorem dX3_cutOff_68 : decode cX3_cutOff 68 = .ok (.ifCond .eq 28, 3) := by decide +kernel
theorem dX3_cutOff_71 : decode cX3_cutOff 71 = .ok (.aload_n 0, 1) := by decide +kernel
theorem dX3_cutOff_72 : decode cX3_cutOff 72 = .ok (.getfield 26, 3) := by decide +kernel
theorem dX3_cutOff_75 : decode cX3_cutOff 75 = .ok (.iload 6, 2) := by decide +kernel
theorem dX3_cutOff_77 : decode cX3_cutOff 77 = .ok (.invokestatic 59, 3) := by decide +kernel
theorem dX3_cutOff_80 : decode cX3_cutOff 80 = .ok (.ifCond .ne 16, 3) := by decide +kernel
theorem dX3_cutOff_83 : decode cX3_cutOff 83 = .ok (.aload_n 0, 1) := by decide +kernel
theorem dX3_cutOff_84 : decode cX3_cutOff 84 = .ok (.dup, 1) := by decide +kernel
theorem dX3_cutOff_85 : decode cX3_cutOff 85 = .ok (.getfield 40, 3) := by decide +kernel
theorem dX3_cutOff_88 : decode cX3_cutOff 88 = .ok (.iconst 1, 1) := by decide +kernel
theorem dX3_cutOff_89 : decode cX3_cutOff 89 = .ok (.iadd, 1) := by decide +kernel
theorem dX3_cutOff_90 : decode cX3_cutOff 90 = .ok (.putfield 40, 3) := by decide +kernel
theorem dX3_cutOff_93 : decode cX3_cutOff 93 = .ok (.goto 13, 3) := by decide +kernel
theorem dX3_cutOff_96 : decode cX3_cutOff 96 = .ok (.aload_n 0, 1) := by decide +kernel
theorem dX3_cutOff_97 : decode cX3_cutOff 97 = .ok (.dup, 1) := by decide +kernel
theorem dX3_cutOff_98 : decode cX3_cutOff 98 = .ok (.getfield 43, 3) := by decide +kernel
theorem dX3_cutOff_101 : decode cX3_cutOff 101 = .ok (.iconst 1, 1) := by decide +kernel
theorem dX3_cutOff_102 : decode cX3_cutOff 102 = .ok (.iadd, 1) := by decide +kernel
theorem dX3_cutOff_103 : decode cX3_cutOff 103 = .ok (.putfield 43, 3) := by decide +kernel
theorem dX3_cutOff_106 : decode cX3_cutOff 106 = .ok (.aload_n 0, 1) := by decide +kernel
theorem dX3_cutOff_107 : decode cX3_cutOff 107 = .ok (.dup, 1) := by decide +kernel
theorem dX3_cutOff_108 : decode cX3_cutOff 108 = .ok (.getfield 22, 3) := by decide +kernel
theorem dX3_cutOff_111 : decode cX3_cutOff 111 = .ok (.iconst 1, 1) := by decide +kernel
theorem dX3_cutOff_112 : decode cX3_cutOff 112 = .ok (.iload 6, 2) := by decide +kernel
theorem dX3_cutOff_114 : decode cX3_cutOff 114 = .ok (.ishl, 1) := by decide +kernel
theorem dX3_cutOff_115 : decode cX3_cutOff 115 = .ok (.iconst (-1), 1) := by decide +kernel
theorem dX3_cutOff_116 : decode cX3_cutOff 116 = .ok (.ixor, 1) := by decide +kernel
theorem dX3_cutOff_117 : decode cX3_cutOff 117 = .ok (.iand, 1) := by decide +kernel
theorem dX3_cutOff_118 : decode cX3_cutOff 118 = .ok (.putfield 22, 3) := by decide +kernel
theorem dX3_cutOff_121 : decode cX3_cutOff 121 = .ok (.aload_n 0, 1) := by decide +kernel
theorem dX3_cutOff_122 : decode cX3_cutOff 122 = .ok (.dup, 1) := by decide +kernel
theorem dX3_cutOff_123 : decode cX3_cutOff 123 = .ok (.getfield 26, 3) := by decide +kernel
theorem dX3_cutOff_126 : decode cX3_cutOff 126 = .ok (.iconst 1, 1) := by decide +kernel
theorem dX3_cutOff_127 : decode cX3_cutOff 127 = .ok (.iload 6, 2) := by decide +kernel
theorem dX3_cutOff_129 : decode cX3_cutOff 129 = .ok (.ishl, 1) := by decide +kernel
theorem dX3_cutOff_130 : decode cX3_cutOff 130 = .ok (.iconst (-1), 1) := by decide +kernel
theorem dX3_cutOff_131 : decode cX3_cutOff 131 = .ok (.ixor, 1) := by decide +kernel
theorem dX3_cutOff_132 : decode cX3_cutOff 132 = .ok (.iand, 1) := by decide +kernel
theorem dX3_cutOff_133 : decode cX3_cutOff 133 = .ok (.putfield 26, 3) := by decide +kernel
theorem dX3_cutOff_136 : decode cX3_cutOff 136 = .ok (.iinc 6 1, 3) := by decide +kernel
theorem dX3_cutOff_139 : decode cX3_cutOff 139 = .ok (.goto (-122), 3) := by decide +kernel
theorem dX3_cutOff_142 : decode cX3_cutOff 142 = .ok (.return_, 1) := by decide +kernel
theorem dX3_hasAllBends_0 : decode cX3_hasAllBends 0 = .ok (.iconst 0, 1) := by decide +kernel
theorem dX3_hasAllBends_1 : decode cX3_hasAllBends 1 = .ok (.istore_n 3, 1) := by decide +kernel
theorem dX3_hasAllBends_2 : decode cX3_hasAllBends 2 = .ok (.iload_n 3, 1) := by decide +kernel
theorem dX3_hasAllBends_3 : decode cX3_hasAllBends 3 = .ok (.aload_n 1, 1) := by decide +kernel
theorem dX3_hasAllBends_4 : decode cX3_hasAllBends 4 = .ok (.getfield 121, 3) := by decide +kernel
theorem dX3_hasAllBends_7 : decode cX3_hasAllBends 7 = .ok (.if_icmp .ge 33, 3) := by decide +kernel
theorem dX3_hasAllBends_10 : decode cX3_hasAllBends 10 = .ok (.aload_n 1, 1) := by decide +kernel
theorem dX3_hasAllBends_11 : decode cX3_hasAllBends 11 = .ok (.iload_n 3, 1) := by decide +kernel
theorem dX3_hasAllBends_12 : decode cX3_hasAllBends 12 = .ok (.iconst 0, 1) := by decide +kernel
theorem dX3_hasAllBends_13 : decode cX3_hasAllBends 13 = .ok (.invokevirtual 124, 3) := by decide +kernel
theorem dX3_hasAllBends_16 : decode cX3_hasAllBends 16 = .ok (.iconst 1, 1) := by decide +kernel
theorem dX3_hasAllBends_17 : decode cX3_hasAllBends 17 = .ok (.if_icmp .ne 17, 3) := by decide +kernel
theorem dX3_hasAllBends_20 : decode cX3_hasAllBends 20 = .ok (.aload_n 0, 1) := by decide +kernel
theorem dX3_hasAllBends_21 : decode cX3_hasAllBends 21 = .ok (.iload_n 2, 1) := by decide +kernel
theorem dX3_hasAllBends_22 : decode cX3_hasAllBends 22 = .ok (.invokevirtual 63, 3) := by decide +kernel
theorem dX3_hasAllBends_25 : decode cX3_hasAllBends 25 = .ok (.iload_n 3, 1) := by decide +kernel
theorem dX3_hasAllBends_26 : decode cX3_hasAllBends 26 = .ok (.invokestatic 59, 3) := by decide +kernel
theorem dX3_hasAllBends_29 : decode cX3_hasAllBends 29 = .ok (.ifCond .ne 5, 3) := by decide +kernel
theorem dX3_hasAllBends_32 : decode cX3_hasAllBends 32 = .ok (.iconst 0, 1) := by decide +kernel
theorem dX3_hasAllBends_33 : decode cX3_hasAllBends 33 = .ok (.ireturn, 1) := by decide +kernel
theorem dX3_hasAllBends_34 : decode cX3_hasAllBends 34 = .ok (.iinc 3 1, 3) := by decide +kernel
theorem dX3_hasAllBends_37 : decode cX3_hasAllBends 37 = .ok (.goto (-35), 3) := by decide +kernel
theorem dX3_hasAllBends_40 : decode cX3_hasAllBends 40 = .ok (.iconst 1, 1) := by decide +kernel
theorem dX3_hasAllBends_41 : decode cX3_hasAllBends 41 = .ok (.ireturn, 1) := by decide +kernel
theorem dX3_catchDrift_0 : decode cX3_catchDrift 0 = .ok (.iconst 0, 1) := by decide +kernel
theorem dX3_catchDrift_1 : decode cX3_catchDrift 1 = .ok (.istore_n 2, 1) := by decide +kernel
theorem dX3_catchDrift_2 : decode cX3_catchDrift 2 = .ok (.iload_n 2, 1) := by decide +kernel
theorem dX3_catchDrift_3 : decode cX3_catchDrift 3 = .ok (.bipush 8, 2) := by decide +kernel
theorem dX3_catchDrift_5 : decode cX3_catchDrift 5 = .ok (.if_icmp .ge 69, 3) := by decide +kernel
theorem dX3_catchDrift_8 : decode cX3_catchDrift 8 = .ok (.aload_n 0, 1) := by decide +kernel
theorem dX3_catchDrift_9 : decode cX3_catchDrift 9 = .ok (.iload_n 2, 1) := by decide +kernel
theorem dX3_catchDrift_10 : decode cX3_catchDrift 10 = .ok (.invokevirtual 113, 3) := by decide +kernel
theorem dX3_catchDrift_13 : decode cX3_catchDrift 13 = .ok (.ifCond .eq 55, 3) := by decide +kernel
theorem dX3_catchDrift_16 : decode cX3_catchDrift 16 = .ok (.aload_n 1, 1) := by decide +kernel
theorem dX3_catchDrift_17 : decode cX3_catchDrift 17 = .ok (.iload_n 2, 1) := by decide +kernel
theorem dX3_catchDrift_18 : decode cX3_catchDrift 18 = .ok (.invokevirtual 128, 3) := by decide +kernel
theorem dX3_catchDrift_21 : decode cX3_catchDrift 21 = .ok (.ifCond .eq 47, 3) := by decide +kernel
theorem dX3_catchDrift_24 : decode cX3_catchDrift 24 = .ok (.aload_n 0, 1) := by decide +kernel
theorem dX3_catchDrift_25 : decode cX3_catchDrift 25 = .ok (.iload_n 2, 1) := by decide +kernel
theorem dX3_catchDrift_26 : decode cX3_catchDrift 26 = .ok (.invokevirtual 66, 3) := by decide +kernel
theorem dX3_catchDrift_29 : decode cX3_catchDrift 29 = .ok (.aload_n 1, 1) := by decide +kernel
theorem dX3_catchDrift_30 : decode cX3_catchDrift 30 = .ok (.iconst 3, 1) := by decide +kernel
theorem dX3_catchDrift_31 : decode cX3_catchDrift 31 = .ok (.invokevirtual 91, 3) := by decide +kernel
theorem dX3_catchDrift_34 : decode cX3_catchDrift 34 = .ok (.if_icmp .gt 22, 3) := by decide +kernel
theorem dX3_catchDrift_37 : decode cX3_catchDrift 37 = .ok (.aload_n 0, 1) := by decide +kernel
theorem dX3_catchDrift_38 : decode cX3_catchDrift 38 = .ok (.iload_n 2, 1) := by decide +kernel
theorem dX3_catchDrift_39 : decode cX3_catchDrift 39 = .ok (.aload_n 0, 1) := by decide +kernel
theorem dX3_catchDrift_40 : decode cX3_catchDrift 40 = .ok (.iload_n 2, 1) := by decide +kernel
theorem dX3_catchDrift_41 : decode cX3_catchDrift 41 = .ok (.invokevirtual 69, 3) := by decide +kernel
theorem dX3_catchDrift_44 : decode cX3_catchDrift 44 = .ok (.aload_n 0, 1) := by decide +kernel
theorem dX3_catchDrift_45 : decode cX3_catchDrift 45 = .ok (.iload_n 2, 1) := by decide +kernel
theorem dX3_catchDrift_46 : decode cX3_catchDrift 46 = .ok (.invokevirtual 63, 3) := by decide +kernel
theorem dX3_catchDrift_49 : decode cX3_catchDrift 49 = .ok (.iconst 0, 1) := by decide +kernel
theorem dX3_catchDrift_50 : decode cX3_catchDrift 50 = .ok (.invokevirtual 96, 3) := by decide +kernel
theorem dX3_catchDrift_53 : decode cX3_catchDrift 53 = .ok (.goto 15, 3) := by decide +kernel
theorem dX3_catchDrift_56 : decode cX3_catchDrift 56 = .ok (.aload_n 0, 1) := by decide +kernel
theorem dX3_catchDrift_57 : decode cX3_catchDrift 57 = .ok (.dup, 1) := by decide +kernel
theorem dX3_catchDrift_58 : decode cX3_catchDrift 58 = .ok (.getfield 26, 3) := by decide +kernel
theorem dX3_catchDrift_61 : decode cX3_catchDrift 61 = .ok (.iconst 1, 1) := by decide +kernel
theorem dX3_catchDrift_62 : decode cX3_catchDrift 62 = .ok (.iload_n 2, 1) := by decide +kernel
theorem dX3_catchDrift_63 : decode cX3_catchDrift 63 = .ok (.ishl, 1) := by decide +kernel
theorem dX3_catchDrift_64 : decode cX3_catchDrift 64 = .ok (.ior, 1) := by decide +kernel
theorem dX3_catchDrift_65 : decode cX3_catchDrift 65 = .ok (.putfield 26, 3) := by decide +kernel
theorem dX3_catchDrift_68 : decode cX3_catchDrift 68 = .ok (.iinc 2 1, 3) := by decide +kernel
theorem dX3_catchDrift_71 : decode cX3_catchDrift 71 = .ok (.goto (-69), 3) := by decide +kernel
theorem dX3_catchDrift_74 : decode cX3_catchDrift 74 = .ok (.return_, 1) := by decide +kernel
theorem dX3_work_0 : decode cX3_work 0 = .ok (.iconst 0, 1) := by decide +kernel
theorem dX3_work_1 : decode cX3_work 1 = .ok (.istore_n 2, 1) := by decide +kernel
theorem dX3_work_2 : decode cX3_work 2 = .ok (.iload_n 2, 1) := by decide +kernel
theorem dX3_work_3 : decode cX3_work 3 = .ok (.aload_n 1, 1) := by decide +kernel
theorem dX3_work_4 : decode cX3_work 4 = .ok (.getfield 121, 3) := by decide +kernel
theorem dX3_work_7 : decode cX3_work 7 = .ok (.if_icmp .ge 37, 3) := by decide +kernel
theorem dX3_work_10 : decode cX3_work 10 = .ok (.aload_n 1, 1) := by decide +kernel
theorem dX3_work_11 : decode cX3_work 11 = .ok (.iload_n 2, 1) := by decide +kernel
theorem dX3_work_12 : decode cX3_work 12 = .ok (.bipush 6, 2) := by decide +kernel
theorem dX3_work_14 : decode cX3_work 14 = .ok (.invokevirtual 124, 3) := by decide +kernel
theorem dX3_work_17 : decode cX3_work 17 = .ok (.istore_n 3, 1) := by decide +kernel
theorem dX3_work_18 : decode cX3_work 18 = .ok (.iload_n 3, 1) := by decide +kernel
theorem dX3_work_19 : decode cX3_work 19 = .ok (.iconst (-1), 1) := by decide +kernel
theorem dX3_work_20 : decode cX3_work 20 = .ok (.if_icmp .eq 18, 3) := by decide +kernel
theorem dX3_work_23 : decode cX3_work 23 = .ok (.aload_n 0, 1) := by decide +kernel
theorem dX3_work_24 : decode cX3_work 24 = .ok (.iload_n 3, 1) := by decide +kernel
theorem dX3_work_25 : decode cX3_work 25 = .ok (.invokevirtual 113, 3) := by decide +kernel
theorem dX3_work_28 : decode cX3_work 28 = .ok (.ifCond .eq 10, 3) := by decide +kernel
theorem dX3_work_31 : decode cX3_work 31 = .ok (.aload_n 0, 1) := by decide +kernel
theorem dX3_work_32 : decode cX3_work 32 = .ok (.aload_n 1, 1) := by decide +kernel
theorem dX3_work_33 : decode cX3_work 33 = .ok (.iload_n 2, 1) := by decide +kernel
theorem dX3_work_34 : decode cX3_work 34 = .ok (.iload_n 3, 1) := by decide +kernel
theorem dX3_work_35 : decode cX3_work 35 = .ok (.invokevirtual 131, 3) := by decide +kernel
theorem dX3_work_38 : decode cX3_work 38 = .ok (.iinc 2 1, 3) := by decide +kernel
theorem dX3_work_41 : decode cX3_work 41 = .ok (.goto (-39), 3) := by decide +kernel
theorem dX3_work_44 : decode cX3_work 44 = .ok (.return_, 1) := by decide +kernel
theorem dX3_doOperation_0 : decode cX3_doOperation 0 = .ok (.aload_n 1, 1) := by decide +kernel
theorem dX3_doOperation_1 : decode cX3_doOperation 1 = .ok (.iload_n 2, 1) := by decide +kernel
theorem dX3_doOperation_2 : decode cX3_doOperation 2 = .ok (.iconst 0, 1) := by decide +kernel
theorem dX3_doOperation_3 : decode cX3_doOperation 3 = .ok (.invokevirtual 124, 3) := by decide +kernel
theorem dX3_doOperation_6 : decode cX3_doOperation 6 = .ok (.ifCond .ne 60, 3) := by decide +kernel
theorem dX3_doOperation_9 : decode cX3_doOperation 9 = .ok (.aload_n 0, 1) := by decide +kernel
theorem dX3_doOperation_10 : decode cX3_doOperation 10 = .ok (.iload_n 3, 1) := by decide +kernel
theorem dX3_doOperation_11 : decode cX3_doOperation 11 = .ok (.invokevirtual 69, 3) := by decide +kernel
theorem dX3_doOperation_14 : decode cX3_doOperation 14 = .ok (.aload_n 1, 1) := by decide +kernel
theorem dX3_doOperation_15 : decode cX3_doOperation 15 = .ok (.iload_n 2, 1) := by decide +kernel
theorem dX3_doOperation_16 : decode cX3_doOperation 16 = .ok (.invokevirtual 135, 3) := by decide +kernel
theorem dX3_doOperation_19 : decode cX3_doOperation 19 = .ok (.land, 1) := by decide +kernel
theorem dX3_doOperation_20 : decode cX3_doOperation 20 = .ok (.lstore 4, 2) := by decide +kernel
theorem dX3_doOperation_22 : decode cX3_doOperation 22 = .ok (.aload_n 0, 1) := by decide +kernel
theorem dX3_doOperation_23 : decode cX3_doOperation 23 = .ok (.dup, 1) := by decide +kernel
theorem dX3_doOperation_24 : decode cX3_doOperation 24 = .ok (.getfield 46, 3) := by decide +kernel
theorem dX3_doOperation_27 : decode cX3_doOperation 27 = .ok (.lload 4, 2) := by decide +kernel
theorem dX3_doOperation_29 : decode cX3_doOperation 29 = .ok (.invokestatic 73, 3) := by decide +kernel
theorem dX3_doOperation_32 : decode cX3_doOperation 32 = .ok (.iadd, 1) := by decide +kernel
theorem dX3_doOperation_33 : decode cX3_doOperation 33 = .ok (.putfield 46, 3) := by decide +kernel
theorem dX3_doOperation_36 : decode cX3_doOperation 36 = .ok (.aload_n 0, 1) := by decide +kernel
theorem dX3_doOperation_37 : decode cX3_doOperation 37 = .ok (.iload_n 3, 1) := by decide +kernel
theorem dX3_doOperation_38 : decode cX3_doOperation 38 = .ok (.aload_n 0, 1) := by decide +kernel
theorem dX3_doOperation_39 : decode cX3_doOperation 39 = .ok (.iload_n 3, 1) := by decide +kernel
theorem dX3_doOperation_40 : decode cX3_doOperation 40 = .ok (.invokevirtual 69, 3) := by decide +kernel
theorem dX3_doOperation_43 : decode cX3_doOperation 43 = .ok (.lload 4, 2) := by decide +kernel
theorem dX3_doOperation_45 : decode cX3_doOperation 45 = .ok (.ldc2_w 138, 3) := by decide +kernel
theorem dX3_doOperation_48 : decode cX3_doOperation 48 = .ok (.lxor, 1) := by decide +kernel
theorem dX3_doOperation_49 : decode cX3_doOperation 49 = .ok (.land, 1) := by decide +kernel
theorem dX3_doOperation_50 : decode cX3_doOperation 50 = .ok (.aload_n 0, 1) := by decide +kernel
theorem dX3_doOperation_51 : decode cX3_doOperation 51 = .ok (.iload_n 3, 1) := by decide +kernel
theorem dX3_doOperation_52 : decode cX3_doOperation 52 = .ok (.invokevirtual 63, 3) := by decide +kernel
theorem dX3_doOperation_55 : decode cX3_doOperation 55 = .ok (.aload_n 0, 1) := by decide +kernel
theorem dX3_doOperation_56 : decode cX3_doOperation 56 = .ok (.iload_n 3, 1) := by decide +kernel
theorem dX3_doOperation_57 : decode cX3_doOperation 57 = .ok (.invokevirtual 66, 3) := by decide +kernel
theorem dX3_doOperation_60 : decode cX3_doOperation 60 = .ok (.invokevirtual 96, 3) := by decide +kernel
theorem dX3_doOperation_63 : decode cX3_doOperation 63 = .ok (.goto 27, 3) := by decide +kernel
theorem dX3_doOperation_66 : decode cX3_doOperation 66 = .ok (.aload_n 0, 1) := by decide +kernel
theorem dX3_doOperation_67 : decode cX3_doOperation 67 = .ok (.iload_n 3, 1) := by decide +kernel
theorem dX3_doOperation_68 : decode cX3_doOperation 68 = .ok (.aload_n 0, 1) := by decide +kernel
theorem dX3_doOperation_69 : decode cX3_doOperation 69 = .ok (.iload_n 3, 1) := by decide +kernel
theorem dX3_doOperation_70 : decode cX3_doOperation 70 = .ok (.invokevirtual 69, 3) := by decide +kernel
theorem dX3_doOperation_73 : decode cX3_doOperation 73 = .ok (.aload_n 0, 1) := by decide +kernel
theorem dX3_doOperation_74 : decode cX3_doOperation 74 = .ok (.iload_n 3, 1) := by decide +kernel
theorem dX3_doOperation_75 : decode cX3_doOperation 75 = .ok (.invokevirtual 63, 3) := by decide +kernel
theorem dX3_doOperation_78 : decode cX3_doOperation 78 = .ok (.iconst 1, 1) := by decide +kernel
theorem dX3_doOperation_79 : decode cX3_doOperation 79 = .ok (.iload_n 2, 1) := by decide +kernel
theorem dX3_doOperation_80 : decode cX3_doOperation 80 = .ok (.ishl, 1) := by decide +kernel
theorem dX3_doOperation_81 : decode cX3_doOperation 81 = .ok (.ior, 1) := by decide +kernel
theorem dX3_doOperation_82 : decode cX3_doOperation 82 = .ok (.aload_n 0, 1) := by decide +kernel
theorem dX3_doOperation_83 : decode cX3_doOperation 83 = .ok (.iload_n 3, 1) := by decide +kernel
theorem dX3_doOperation_84 : decode cX3_doOperation 84 = .ok (.invokevirtual 66, 3) := by decide +kernel
theorem dX3_doOperation_87 : decode cX3_doOperation 87 = .ok (.invokevirtual 96, 3) := by decide +kernel
theorem dX3_doOperation_90 : decode cX3_doOperation 90 = .ok (.aload_n 0, 1) := by decide +kernel
theorem dX3_doOperation_91 : decode cX3_doOperation 91 = .ok (.iload_n 3, 1) := by decide +kernel
theorem dX3_doOperation_92 : decode cX3_doOperation 92 = .ok (.invokevirtual 66, 3) := by decide +kernel
theorem dX3_doOperation_95 : decode cX3_doOperation 95 = .ok (.aload_n 1, 1) := by decide +kernel
theorem dX3_doOperation_96 : decode cX3_doOperation 96 = .ok (.iconst 4, 1) := by decide +kernel
theorem dX3_doOperation_97 : decode cX3_doOperation 97 = .ok (.invokevirtual 91, 3) := by decide +kernel
theorem dX3_doOperation_100 : decode cX3_doOperation 100 = .ok (.if_icmp .le 15, 3) := by decide +kernel
theorem dX3_doOperation_103 : decode cX3_doOperation 103 = .ok (.aload_n 0, 1) := by decide +kernel
theorem dX3_doOperation_104 : decode cX3_doOperation 104 = .ok (.dup, 1) := by decide +kernel
theorem dX3_doOperation_105 : decode cX3_doOperation 105 = .ok (.getfield 26, 3) := by decide +kernel
theorem dX3_doOperation_108 : decode cX3_doOperation 108 = .ok (.iconst 1, 1) := by decide +kernel
theorem dX3_doOperation_109 : decode cX3_doOperation 109 = .ok (.iload_n 3, 1) := by decide +kernel
theorem dX3_doOperation_110 : decode cX3_doOperation 110 = .ok (.ishl, 1) := by decide +kernel
theorem dX3_doOperation_111 : decode cX3_doOperation 111 = .ok (.ior, 1) := by decide +kernel
theorem dX3_doOperation_112 : decode cX3_doOperation 112 = .ok (.putfield 26, 3) := by decide +kernel
theorem dX3_doOperation_115 : decode cX3_doOperation 115 = .ok (.return_, 1) := by decide +kernel
theorem dX4_init_0 : decode cX4_init 0 = .ok (.aload_n 0, 1) := by decide +kernel
theorem dX4_init_1 : decode cX4_init 1 = .ok (.invokespecial 1, 3) := by decide +kernel
theorem dX4_init_4 : decode cX4_init 4 = .ok (.aload_n 0, 1) := by decide +kernel
theorem dX4_init_5 : decode cX4_init 5 = .ok (.new 7, 3) := by decide +kernel
theorem dX4_init_8 : decode cX4_init 8 = .ok (.dup, 1) := by decide +kernel
theorem dX4_init_9 : decode cX4_init 9 = .ok (.invokespecial 9, 3) := by decide +kernel
theorem dX4_init_12 : decode cX4_init 12 = .ok (.putfield 10, 3) := by decide +kernel
theorem dX4_init_15 : decode cX4_init 15 = .ok (.aload_n 0, 1) := by decide +kernel
theorem dX4_init_16 : decode cX4_init 16 = .ok (.new 16, 3) := by decide +kernel
theorem dX4_init_19 : decode cX4_init 19 = .ok (.dup, 1) := by decide +kernel
theorem dX4_init_20 : decode cX4_init 20 = .ok (.invokespecial 18, 3) := by decide +kernel
theorem dX4_init_23 : decode cX4_init 23 = .ok (.putfield 19, 3) := by decide +kernel
theorem dX4_init_26 : decode cX4_init 26 = .ok (.return_, 1) := by decide +kernel
theorem dX4_copyFrom_0 : decode cX4_copyFrom 0 = .ok (.aload_n 0, 1) := by decide +kernel
theorem dX4_copyFrom_1 : decode cX4_copyFrom 1 = .ok (.getfield 10, 3) := by decide +kernel
theorem dX4_copyFrom_4 : decode cX4_copyFrom 4 = .ok (.aload_n 1, 1) := by decide +kernel
theorem dX4_copyFrom_5 : decode cX4_copyFrom 5 = .ok (.getfield 10, 3) := by decide +kernel
theorem dX4_copyFrom_8 : decode cX4_copyFrom 8 = .ok (.invokevirtual 23, 3) := by decide +kernel
theorem dX4_copyFrom_11 : decode cX4_copyFrom 11 = .ok (.aload_n 0, 1) := by decide +kernel
theorem dX4_copyFrom_12 : decode cX4_copyFrom 12 = .ok (.getfield 19, 3) := by decide +kernel
theorem dX4_copyFrom_15 : decode cX4_copyFrom 15 = .ok (.aload_n 1, 1) := by decide +kernel
theorem dX4_copyFrom_16 : decode cX4_copyFrom 16 = .ok (.getfield 19, 3) := by decide +kernel
theorem dX4_copyFrom_19 : decode cX4_copyFrom 19 = .ok (.invokevirtual 27, 3) := by decide +kernel
theorem dX4_copyFrom_22 : decode cX4_copyFrom 22 = .ok (.return_, 1) := by decide +kernel
theorem dX5_init_0 : decode cX5_init 0 = .ok (.aload_n 0, 1) := by decide +kernel
theorem dX5_init_1 : decode cX5_init 1 = .ok (.invokespecial 3, 3) := by decide +kernel
theorem dX5_init_4 : decode cX5_init 4 = .ok (.aload_n 0, 1) := by decide +kernel
theorem dX5_init_5 : decode cX5_init 5 = .ok (.new 9, 3) := by decide +kernel
theorem dX5_init_8 : decode cX5_init 8 = .ok (.dup, 1) := by decide +kernel
theorem dX5_init_9 : decode cX5_init 9 = .ok (.invokespecial 11, 3) := by decide +kernel
theorem dX5_init_12 : decode cX5_init 12 = .ok (.putfield 12, 3) := by decide +kernel
theorem dX5_init_15 : decode cX5_init 15 = .ok (.aload_n 0, 1) := by decide +kernel
theorem dX5_init_16 : decode cX5_init 16 = .ok (.iconst 4, 1) := by decide +kernel
theorem dX5_init_17 : decode cX5_init 17 = .ok (.anewarray 9, 3) := by decide +kernel
theorem dX5_init_20 : decode cX5_init 20 = .ok (.putfield 16, 3) := by decide +kernel
theorem dX5_init_23 : decode cX5_init 23 = .ok (.iconst 0, 1) := by decide +kernel
theorem dX5_init_24 : decode cX5_init 24 = .ok (.istore_n 1, 1) := by decide +kernel
theorem dX5_init_25 : decode cX5_init 25 = .ok (.iload_n 1, 1) := by decide +kernel
theorem dX5_init_26 : decode cX5_init 26 = .ok (.aload_n 0, 1) := by decide +kernel
theorem dX5_init_27 : decode cX5_init 27 = .ok (.getfield 16, 3) := by decide +kernel
theorem dX5_init_30 : decode cX5_init 30 = .ok (.arraylength, 1) := by decide +kernel
theorem dX5_init_31 : decode cX5_init 31 = .ok (.if_icmp .ge 22, 3) := by decide +kernel
theorem dX5_init_34 : decode cX5_init 34 = .ok (.aload_n 0, 1) := by decide +kernel
theorem dX5_init_35 : decode cX5_init 35 = .ok (.getfield 16, 3) := by decide +kernel
theorem dX5_init_38 : decode cX5_init 38 = .ok (.iload_n 1, 1) := by decide +kernel
theorem dX5_init_39 : decode cX5_init 39 = .ok (.new 9, 3) := by decide +kernel
theorem dX5_init_42 : decode cX5_init 42 = .ok (.dup, 1) := by decide +kernel
theorem dX5_init_43 : decode cX5_init 43 = .ok (.invokespecial 11, 3) := by decide +kernel
theorem dX5_init_46 : decode cX5_init 46 = .ok (.aastore, 1) := by decide +kernel
theorem dX5_init_47 : decode cX5_init 47 = .ok (.iinc 1 1, 3) := by decide +kernel
theorem dX5_init_50 : decode cX5_init 50 = .ok (.goto (-25), 3) := by decide +kernel
theorem dX5_init_53 : decode cX5_init 53 = .ok (.aload_n 0, 1) := by decide +kernel
theorem dX5_init_54 : decode cX5_init 54 = .ok (.new 20, 3) := by decide +kernel
theorem dX5_init_57 : decode cX5_init 57 = .ok (.dup, 1) := by decide +kernel
theorem dX5_init_58 : decode cX5_init 58 = .ok (.invokespecial 22, 3) := by decide +kernel
theorem dX5_init_61 : decode cX5_init 61 = .ok (.putfield 23, 3) := by decide +kernel
theorem dX5_init_64 : decode cX5_init 64 = .ok (.aload_n 0, 1) := by decide +kernel
theorem dX5_init_65 : decode cX5_init 65 = .ok (.new 27, 3) := by decide +kernel
theorem dX5_init_68 : decode cX5_init 68 = .ok (.dup, 1) := by decide +kernel
theorem dX5_init_69 : decode cX5_init 69 = .ok (.invokespecial 29, 3) := by decide +kernel
theorem dX5_init_72 : decode cX5_init 72 = .ok (.putfield 30, 3) := by decide +kernel
theorem dX5_init_75 : decode cX5_init 75 = .ok (.aload_n 0, 1) := by decide +kernel
theorem dX5_init_76 : decode cX5_init 76 = .ok (.new 34, 3) := by decide +kernel
theorem dX5_init_79 : decode cX5_init 79 = .ok (.dup, 1) := by decide +kernel
theorem dX5_init_80 : decode cX5_init 80 = .ok (.invokespecial 36, 3) := by decide +kernel
theorem dX5_init_83 : decode cX5_init 83 = .ok (.putfield 37, 3) := by decide +kernel
theorem dX5_init_86 : decode cX5_init 86 = .ok (.return_, 1) := by decide +kernel
theorem dX5_begin_0 : decode cX5_begin 0 = .ok (.iload_n 1, 1) := by decide +kernel
theorem dX5_begin_1 : decode cX5_begin 1 = .ok (.iload_n 2, 1) := by decide +kernel
theorem dX5_begin_2 : decode cX5_begin 2 = .ok (.invokestatic 41, 3) := by decide +kernel
theorem dX5_begin_5 : decode cX5_begin 5 = .ok (.ifCond .ne 13, 3) := by decide +kernel
theorem dX5_begin_8 : decode cX5_begin 8 = .ok (.new 45, 3) := by decide +kernel
theorem dX5_begin_11 : decode cX5_begin 11 = .ok (.dup, 1) := by decide +kernel
theorem dX5_begin_12 : decode cX5_begin 12 = .ok (.ldc 47, 2) := by decide +kernel
theorem dX5_begin_14 : decode cX5_begin 14 = .ok (.invokespecial 49, 3) := by decide +kernel
theorem dX5_begin_17 : decode cX5_begin 17 = .ok (.athrow, 1) := by decide +kernel
theorem dX5_begin_18 : decode cX5_begin 18 = .ok (.aload_n 0, 1) := by decide +kernel
theorem dX5_begin_19 : decode cX5_begin 19 = .ok (.invokevirtual 52, 3) := by decide +kernel
theorem dX5_begin_22 : decode cX5_begin 22 = .ok (.aload_n 0, 1) := by decide +kernel
theorem dX5_begin_23 : decode cX5_begin 23 = .ok (.getfield 12, 3) := by decide +kernel
theorem dX5_begin_26 : decode cX5_begin 26 = .ok (.getfield 55, 3) := by decide +kernel
theorem dX5_begin_29 : decode cX5_begin 29 = .ok (.getfield 59, 3) := by decide +kernel
theorem dX5_begin_32 : decode cX5_begin 32 = .ok (.istore_n 3, 1) := by decide +kernel
theorem dX5_begin_33 : decode cX5_begin 33 = .ok (.aload_n 0, 1) := by decide +kernel
theorem dX5_begin_34 : decode cX5_begin 34 = .ok (.iload_n 1, 1) := by decide +kernel
theorem dX5_begin_35 : decode cX5_begin 35 = .ok (.iload_n 2, 1) := by decide +kernel
theorem dX5_begin_36 : decode cX5_begin 36 = .ok (.invokevirtual 65, 3) := by decide +kernel
theorem dX5_begin_39 : decode cX5_begin 39 = .ok (.iload_n 3, 1) := by decide +kernel
theorem dX5_begin_40 : decode cX5_begin 40 = .ok (.ireturn, 1) := by decide +kernel
theorem dX5_mark_0 : decode cX5_mark 0 = .ok (.aload_n 0, 1) := by decide +kernel
theorem dX5_mark_1 : decode cX5_mark 1 = .ok (.getfield 12, 3) := by decide +kernel
theorem dX5_mark_4 : decode cX5_mark 4 = .ok (.getfield 55, 3) := by decide +kernel
theorem dX5_mark_7 : decode cX5_mark 7 = .ok (.iload_n 1, 1) := by decide +kernel
theorem dX5_mark_8 : decode cX5_mark 8 = .ok (.iload_n 2, 1) := by decide +kernel
theorem dX5_mark_9 : decode cX5_mark 9 = .ok (.iload_n 3, 1) := by decide +kernel
theorem dX5_mark_10 : decode cX5_mark 10 = .ok (.iload 4, 2) := by decide +kernel
theorem dX5_mark_12 : decode cX5_mark 12 = .ok (.invokevirtual 69, 3) := by decide +kernel
theorem dX5_mark_15 : decode cX5_mark 15 = .ok (.ifCond .eq 14, 3) := by decide +kernel
theorem dX5_mark_18 : decode cX5_mark 18 = .ok (.iload 5, 2) := by decide +kernel
theorem dX5_mark_20 : decode cX5_mark 20 = .ok (.ifCond .lt 9, 3) := by decide +kernel
theorem dX5_mark_23 : decode cX5_mark 23 = .ok (.iload 5, 2) := by decide +kernel
theorem dX5_mark_25 : decode cX5_mark 25 = .ok (.iconst 2, 1) := by decide +kernel
theorem dX5_mark_26 : decode cX5_mark 26 = .ok (.if_icmp .le 13, 3) := by decide +kernel
theorem dX5_mark_29 : decode cX5_mark 29 = .ok (.new 45, 3) := by decide +kernel
theorem dX5_mark_32 : decode cX5_mark 32 = .ok (.dup, 1) := by decide +kernel
theorem dX5_mark_33 : decode cX5_mark 33 = .ok (.ldc 73, 2) := by decide +kernel
theorem dX5_mark_35 : decode cX5_mark 35 = .ok (.invokespecial 49, 3) := by decide +kernel
theorem dX5_mark_38 : decode cX5_mark 38 = .ok (.athrow, 1) := by decide +kernel
theorem dX5_mark_39 : decode cX5_mark 39 = .ok (.aload_n 0, 1) := by decide +kernel
theorem dX5_mark_40 : decode cX5_mark 40 = .ok (.invokevirtual 52, 3) := by decide +kernel
theorem dX5_mark_43 : decode cX5_mark 43 = .ok (.aload_n 0, 1) := by decide +kernel
theorem dX5_mark_44 : decode cX5_mark 44 = .ok (.getfield 12, 3) := by decide +kernel
theorem dX5_mark_47 : decode cX5_mark 47 = .ok (.getfield 55, 3) := by decide +kernel
theorem dX5_mark_50 : decode cX5_mark 50 = .ok (.aload_n 0, 1) := by decide +kernel
theorem dX5_mark_51 : decode cX5_mark 51 = .ok (.getfield 12, 3) := by decide +kernel
theorem dX5_mark_54 : decode cX5_mark 54 = .ok (.getfield 55, 3) := by decide +kernel
theorem dX5_mark_57 : decode cX5_mark 57 = .ok (.iload_n 1, 1) := by decide +kernel
theorem dX5_mark_58 : decode cX5_mark 58 = .ok (.iload_n 2, 1) := by decide +kernel
theorem dX5_mark_59 : decode cX5_mark 59 = .ok (.iload_n 3, 1) := by decide +kernel
theorem dX5_mark_60 : decode cX5_mark 60 = .ok (.iload 4, 2) := by decide +kernel
theorem dX5_mark_62 : decode cX5_mark 62 = .ok (.invokevirtual 75, 3) := by decide +kernel
theorem dX5_mark_65 : decode cX5_mark 65 = .ok (.iload 5, 2) := by decide +kernel
theorem dX5_mark_67 : decode cX5_mark 67 = .ok (.invokevirtual 79, 3) := by decide +kernel
theorem dX5_mark_70 : decode cX5_mark 70 = .ok (.ireturn, 1) := by decide +kernel
theorem dX5_setCarrier_0 : decode cX5_setCarrier 0 = .ok (.iload_n 1, 1) := by decide +kernel
theorem dX5_setCarrier_1 : decode cX5_setCarrier 1 = .ok (.ifCond .lt 8, 3) := by decide +kernel
theorem dX5_setCarrier_4 : decode cX5_setCarrier 4 = .ok (.iload_n 1, 1) := by decide +kernel
theorem dX5_setCarrier_5 : decode cX5_setCarrier 5 = .ok (.iconst 2, 1) := by decide +kernel
theorem dX5_setCarrier_6 : decode cX5_setCarrier 6 = .ok (.if_icmp .le 13, 3) := by decide +kernel
theorem dX5_setCarrier_9 : decode cX5_setCarrier 9 = .ok (.new 45, 3) := by decide +kernel
theorem dX5_setCarrier_12 : decode cX5_setCarrier 12 = .ok (.dup, 1) := by decide +kernel
theorem dX5_setCarrier_13 : decode cX5_setCarrier 13 = .ok (.ldc 83, 2) := by decide +kernel
theorem dX5_setCarrier_15 : decode cX5_setCarrier 15 = .ok (.invokespecial 49, 3) := by decide +kernel
theorem dX5_setCarrier_18 : decode cX5_setCarrier 18 = .ok (.athrow, 1) := by decide +kernel
theorem dX5_setCarrier_19 : decode cX5_setCarrier 19 = .ok (.aload_n 0, 1) := by decide +kernel
theorem dX5_setCarrier_20 : decode cX5_setCarrier 20 = .ok (.invokevirtual 52, 3) := by decide +kernel
theorem dX5_setCarrier_23 : decode cX5_setCarrier 23 = .ok (.aload_n 0, 1) := by decide +kernel
theorem dX5_setCarrier_24 : decode cX5_setCarrier 24 = .ok (.getfield 12, 3) := by decide +kernel
theorem dX5_setCarrier_27 : decode cX5_setCarrier 27 = .ok (.getfield 55, 3) := by decide +kernel
theorem dX5_setCarrier_30 : decode cX5_setCarrier 30 = .ok (.getfield 85, 3) := by decide +kernel
theorem dX5_setCarrier_33 : decode cX5_setCarrier 33 = .ok (.istore_n 2, 1) := by decide +kernel
theorem dX5_setCarrier_34 : decode cX5_setCarrier 34 = .ok (.aload_n 0, 1) := by decide +kernel
theorem dX5_setCarrier_35 : decode cX5_setCarrier 35 = .ok (.getfield 12, 3) := by decide +kernel
theorem dX5_setCarrier_38 : decode cX5_setCarrier 38 = .ok (.getfield 55, 3) := by decide +kernel
theorem dX5_setCarrier_41 : decode cX5_setCarrier 41 = .ok (.iload_n 1, 1) := by decide +kernel
theorem dX5_setCarrier_42 : decode cX5_setCarrier 42 = .ok (.putfield 85, 3) := by decide +kernel
theorem dX5_setCarrier_45 : decode cX5_setCarrier 45 = .ok (.iload_n 2, 1) := by decide +kernel
theorem dX5_setCarrier_46 : decode cX5_setCarrier 46 = .ok (.ireturn, 1) := by decide +kernel
theorem dX5_set_0 : decode cX5_set 0 = .ok (.iload_n 1, 1) := by decide +kernel
theorem dX5_set_1 : decode cX5_set 1 = .ok (.iload_n 2, 1) := by decide +kernel
theorem dX5_set_2 : decode cX5_set 2 = .ok (.invokestatic 88, 3) := by decide +kernel
theorem dX5_set_5 : decode cX5_set 5 = .ok (.ifCond .ne 13, 3) := by decide +kernel
theorem dX5_set_8 : decode cX5_set 8 = .ok (.new 45, 3) := by decide +kernel
theorem dX5_set_11 : decode cX5_set 11 = .ok (.dup, 1) := by decide +kernel
theorem dX5_set_12 : decode cX5_set 12 = .ok (.ldc 91, 2) := by decide +kernel
theorem dX5_set_14 : decode cX5_set 14 = .ok (.invokespecial 49, 3) := by decide +kernel
theorem dX5_set_17 : decode cX5_set 17 = .ok (.athrow, 1) := by decide +kernel
theorem dX5_set_18 : decode cX5_set 18 = .ok (.aload_n 0, 1) := by decide +kernel
theorem dX5_set_19 : decode cX5_set 19 = .ok (.invokevirtual 52, 3) := by decide +kernel
theorem dX5_set_22 : decode cX5_set 22 = .ok (.aload_n 0, 1) := by decide +kernel
theorem dX5_set_23 : decode cX5_set 23 = .ok (.getfield 12, 3) := by decide +kernel
theorem dX5_set_26 : decode cX5_set 26 = .ok (.getfield 55, 3) := by decide +kernel
theorem dX5_set_29 : decode cX5_set 29 = .ok (.iload_n 1, 1) := by decide +kernel
theorem dX5_set_30 : decode cX5_set 30 = .ok (.invokevirtual 93, 3) := by decide +kernel
theorem dX5_set_33 : decode cX5_set 33 = .ok (.istore_n 3, 1) := by decide +kernel
theorem dX5_set_34 : decode cX5_set 34 = .ok (.aload_n 0, 1) := by decide +kernel
theorem dX5_set_35 : decode cX5_set 35 = .ok (.getfield 12, 3) := by decide +kernel
theorem dX5_set_38 : decode cX5_set 38 = .ok (.getfield 55, 3) := by decide +kernel
theorem dX5_set_41 : decode cX5_set 41 = .ok (.iload_n 1, 1) := by decide +kernel
theorem dX5_set_42 : decode cX5_set 42 = .ok (.iload_n 2, 1) := by decide +kernel
theorem dX5_set_43 : decode cX5_set 43 = .ok (.invokevirtual 97, 3) := by decide +kernel
theorem dX5_set_46 : decode cX5_set 46 = .ok (.iload_n 3, 1) := by decide +kernel
theorem dX5_set_47 : decode cX5_set 47 = .ok (.ireturn, 1) := by decide +kernel
theorem dX5_addPunch_0 : decode cX5_addPunch 0 = .ok (.aload_n 0, 1) := by decide +kernel
theorem dX5_addPunch_1 : decode cX5_addPunch 1 = .ok (.getfield 12, 3) := by decide +kernel
theorem dX5_addPunch_4 : decode cX5_addPunch 4 = .ok (.getfield 55, 3) := by decide +kernel
theorem dX5_addPunch_7 : decode cX5_addPunch 7 = .ok (.iload_n 1, 1) := by decide +kernel
theorem dX5_addPunch_8 : decode cX5_addPunch 8 = .ok (.iload_n 2, 1) := by decide +kernel
theorem dX5_addPunch_9 : decode cX5_addPunch 9 = .ok (.iload_n 3, 1) := by decide +kernel
theorem dX5_addPunch_10 : decode cX5_addPunch 10 = .ok (.iload 4, 2) := by decide +kernel
theorem dX5_addPunch_12 : decode cX5_addPunch 12 = .ok (.invokevirtual 69, 3) := by decide +kernel
theorem dX5_addPunch_15 : decode cX5_addPunch 15 = .ok (.ifCond .ne 13, 3) := by decide +kernel
theorem dX5_addPunch_18 : decode cX5_addPunch 18 = .ok (.new 45, 3) := by decide +kernel
theorem dX5_addPunch_21 : decode cX5_addPunch 21 = .ok (.dup, 1) := by decide +kernel
theorem dX5_addPunch_22 : decode cX5_addPunch 22 = .ok (.ldc 100, 2) := by decide +kernel
theorem dX5_addPunch_24 : decode cX5_addPunch 24 = .ok (.invokespecial 49, 3) := by decide +kernel
theorem dX5_addPunch_27 : decode cX5_addPunch 27 = .ok (.athrow, 1) := by decide +kernel
theorem dX5_addPunch_28 : decode cX5_addPunch 28 = .ok (.aload_n 0, 1) := by decide +kernel
theorem dX5_addPunch_29 : decode cX5_addPunch 29 = .ok (.getfield 12, 3) := by decide +kernel
theorem dX5_addPunch_32 : decode cX5_addPunch 32 = .ok (.getfield 55, 3) := by decide +kernel
theorem dX5_addPunch_35 : decode cX5_addPunch 35 = .ok (.invokevirtual 102, 3) := by decide +kernel
theorem dX5_addPunch_38 : decode cX5_addPunch 38 = .ok (.ifCond .eq 13, 3) := by decide +kernel
theorem dX5_addPunch_41 : decode cX5_addPunch 41 = .ok (.new 106, 3) := by decide +kernel
theorem dX5_addPunch_44 : decode cX5_addPunch 44 = .ok (.dup, 1) := by decide +kernel
theorem dX5_addPunch_45 : decode cX5_addPunch 45 = .ok (.ldc 108, 2) := by decide +kernel
theorem dX5_addPunch_47 : decode cX5_addPunch 47 = .ok (.invokespecial 110, 3) := by decide +kernel
theorem dX5_addPunch_50 : decode cX5_addPunch 50 = .ok (.athrow, 1) := by decide +kernel
theorem dX5_addPunch_51 : decode cX5_addPunch 51 = .ok (.aload_n 0, 1) := by decide +kernel
theorem dX5_addPunch_52 : decode cX5_addPunch 52 = .ok (.invokevirtual 52, 3) := by decide +kernel
theorem dX5_addPunch_55 : decode cX5_addPunch 55 = .ok (.aload_n 0, 1) := by decide +kernel
theorem dX5_addPunch_56 : decode cX5_addPunch 56 = .ok (.getfield 12, 3) := by decide +kernel
theorem dX5_addPunch_59 : decode cX5_addPunch 59 = .ok (.getfield 55, 3) := by decide +kernel
theorem dX5_addPunch_62 : decode cX5_addPunch 62 = .ok (.iconst 0, 1) := by decide +kernel
theorem dX5_addPunch_63 : decode cX5_addPunch 63 = .ok (.iload_n 1, 1) := by decide +kernel
theorem dX5_addPunch_64 : decode cX5_addPunch 64 = .ok (.iload_n 2, 1) := by decide +kernel
theorem dX5_addPunch_65 : decode cX5_addPunch 65 = .ok (.iload_n 3, 1) := by decide +kernel
theorem dX5_addPunch_66 : decode cX5_addPunch 66 = .ok (.iload 4, 2) := by decide +kernel
theorem dX5_addPunch_68 : decode cX5_addPunch 68 = .ok (.invokevirtual 111, 3) := by decide +kernel
theorem dX5_addPunch_71 : decode cX5_addPunch 71 = .ok (.ireturn, 1) := by decide +kernel
theorem dX5_addBend_0 : decode cX5_addBend 0 = .ok (.aload_n 0, 1) := by decide +kernel
theorem dX5_addBend_1 : decode cX5_addBend 1 = .ok (.getfield 12, 3) := by decide +kernel
theorem dX5_addBend_4 : decode cX5_addBend 4 = .ok (.getfield 55, 3) := by decide +kernel
theorem dX5_addBend_7 : decode cX5_addBend 7 = .ok (.iload_n 1, 1) := by decide +kernel
theorem dX5_addBend_8 : decode cX5_addBend 8 = .ok (.iload_n 2, 1) := by decide +kernel
theorem dX5_addBend_9 : decode cX5_addBend 9 = .ok (.iload_n 3, 1) := by decide +kernel
theorem dX5_addBend_10 : decode cX5_addBend 10 = .ok (.iconst 1, 1) := by decide +kernel
theorem dX5_addBend_11 : decode cX5_addBend 11 = .ok (.invokevirtual 69, 3) := by decide +kernel
