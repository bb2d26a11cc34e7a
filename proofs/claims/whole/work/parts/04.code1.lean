theorem dX3_cutOff_107 : decode cX3_cutOff 107 = .ok (.dup, 1) := by decide +kernel
theorem dX3_cutOff_108 : decode cX3_cutOff 108 = .ok (.getfield 22, 3) := by decide +kernel
theorem dX3_cutOff_111 : decode cX3_cutOff 111 = .ok (.iconst 1, 1) := by decide +kernel
theorem dX3_cutOff_112 : decode cX3_cutOff 112 = .ok (.iload 6, 2) := by decide +kernel
theorem dX3_cutOff_114 : decode cX3_cutOff 114 = .ok (.ishl, 1) := by decide +kernel
theorem dX3_cutOff_115 : decode cX3_cutOff 115 = .ok (.iconst (-1), 1) := by decide +kernel
theorem dX3_cutOff_116 : decode cX3_cutOff 116 = .ok (.ixor, 1) := by decide +kernel
theorem dX3_cutOff_117 : decode cX3_cutOff 117 = .ok (.iand, 1) := by decide +kernel
theorem dX3_cutOff_118 : decode cX3_cutOff 118 = .ok (.putfield 22, 3) := by decide +kernel
theorem dX3_cutOff_121 : decode cX3_cutOff 121 = .ok (.aload_n 0, 1) := by decide +kernel
theorem dX3_cutOff_122 : decode cX3_cutOff 122 = .ok (.dup, 1) := by decide +kernel
theorem dX3_cutOff_123 : decode cX3_cutOff 123 = .ok (.getfield 26, 3) := by decide +kernel
theorem dX3_cutOff_126 : decode cX3_cutOff 126 = .ok (.iconst 1, 1) := by decide +kernel
theorem dX3_cutOff_127 : decode cX3_cutOff 127 = .ok (.iload 6, 2) := by decide +kernel
theorem dX3_cutOff_129 : decode cX3_cutOff 129 = .ok (.ishl, 1) := by decide +kernel
theorem dX3_cutOff_130 : decode cX3_cutOff 130 = .ok (.iconst (-1), 1) := by decide +kernel
theorem dX3_cutOff_131 : decode cX3_cutOff 131 = .ok (.ixor, 1) := by decide +kernel
theorem dX3_cutOff_132 : decode cX3_cutOff 132 = .ok (.iand, 1) := by decide +kernel
theorem dX3_cutOff_133 : decode cX3_cutOff 133 = .ok (.putfield 26, 3) := by decide +kernel
theorem dX3_cutOff_136 : decode cX3_cutOff 136 = .ok (.iinc 6 1, 3) := by decide +kernel
theorem dX3_cutOff_139 : decode cX3_cutOff 139 = .ok (.goto (-122), 3) := by decide +kernel
theorem dX3_cutOff_142 : decode cX3_cutOff 142 = .ok (.return_, 1) := by decide +kernel
theorem dX3_hasAllBends_0 : decode cX3_hasAllBends 0 = .ok (.iconst 0, 1) := by decide +kernel
theorem dX3_hasAllBends_1 : decode cX3_hasAllBends 1 = .ok (.istore_n 3, 1) := by decide +kernel
theorem dX3_hasAllBends_2 : decode cX3_hasAllBends 2 = .ok (.iload_n 3, 1) := by decide +kernel
theorem dX3_hasAllBends_3 : decode cX3_hasAllBends 3 = .ok (.aload_n 1, 1) := by decide +kernel
theorem dX3_hasAllBends_4 : decode cX3_hasAllBends 4 = .ok (.getfield 121, 3) := by decide +kernel
theorem dX3_hasAllBends_7 : decode cX3_hasAllBends 7 = .ok (.if_icmp .ge 33, 3) := by decide +kernel
theorem dX3_hasAllBends_10 : decode cX3_hasAllBends 10 = .ok (.aload_n 1, 1) := by decide +kernel
theorem dX3_hasAllBends_11 : decode cX3_hasAllBends 11 = .ok (.iload_n 3, 1) := by decide +kernel
theorem dX3_hasAllBends_12 : decode cX3_hasAllBends 12 = .ok (.iconst 0, 1) := by decide +kernel
theorem dX3_hasAllBends_13 : decode cX3_hasAllBends 13 = .ok (.invokevirtual 124, 3) := by decide +kernel
theorem dX3_hasAllBends_16 : decode cX3_hasAllBends 16 = .ok (.iconst 1, 1) := by decide +kernel
theorem dX3_hasAllBends_17 : decode cX3_hasAllBends 17 = .ok (.if_icmp .ne 17, 3) := by decide +kernel
theorem dX3_hasAllBends_20 : decode cX3_hasAllBends 20 = .ok (.aload_n 0, 1) := by decide +kernel
theorem dX3_hasAllBends_21 : decode cX3_hasAllBends 21 = .ok (.iload_n 2, 1) := by decide +kernel
theorem dX3_hasAllBends_22 : decode cX3_hasAllBends 22 = .ok (.invokevirtual 63, 3) := by decide +kernel
theorem dX3_hasAllBends_25 : decode cX3_hasAllBends 25 = .ok (.iload_n 3, 1) := by decide +kernel
theorem dX3_hasAllBends_26 : decode cX3_hasAllBends 26 = .ok (.invokestatic 59, 3) := by decide +kernel
theorem dX3_hasAllBends_29 : decode cX3_hasAllBends 29 = .ok (.ifCond .ne 5, 3) := by decide +kernel
theorem dX3_hasAllBends_32 : decode cX3_hasAllBends 32 = .ok (.iconst 0, 1) := by decide +kernel
theorem dX3_hasAllBends_33 : decode cX3_hasAllBends 33 = .ok (.ireturn, 1) := by decide +kernel
theorem dX3_hasAllBends_34 : decode cX3_hasAllBends 34 = .ok (.iinc 3 1, 3) := by decide +kernel
theorem dX3_hasAllBends_37 : decode cX3_hasAllBends 37 = .ok (.goto (-35), 3) := by decide +kernel
theorem dX3_hasAllBends_40 : decode cX3_hasAllBends 40 = .ok (.iconst 1, 1) := by decide +kernel
theorem dX3_hasAllBends_41 : decode cX3_hasAllBends 41 = .ok (.ireturn, 1) := by decide +kernel
theorem dX3_catchDrift_0 : decode cX3_catchDrift 0 = .ok (.iconst 0, 1) := by decide +kernel
theorem dX3_catchDrift_1 : decode cX3_catchDrift 1 = .ok (.istore_n 2, 1) := by decide +kernel
theorem dX3_catchDrift_2 : decode cX3_catchDrift 2 = .ok (.iload_n 2, 1) := by decide +kernel
theorem dX3_catchDrift_3 : decode cX3_catchDrift 3 = .ok (.bipush 8, 2) := by decide +kernel
theorem dX3_catchDrift_5 : decode cX3_catchDrift 5 = .ok (.if_icmp .ge 69, 3) := by decide +kernel
theorem dX3_catchDrift_8 : decode cX3_catchDrift 8 = .ok (.aload_n 0, 1) := by decide +kernel
theorem dX3_catchDrift_9 : decode cX3_catchDrift 9 = .ok (.iload_n 2, 1) := by decide +kernel
theorem dX3_catchDrift_10 : decode cX3_catchDrift 10 = .ok (.invokevirtual 113, 3) := by decide +kernel
theorem dX3_catchDrift_13 : decode cX3_catchDrift 13 = .ok (.ifCond .eq 55, 3) := by decide +kernel
theorem dX3_catchDrift_16 : decode cX3_catchDrift 16 = .ok (.aload_n 1, 1) := by decide +kernel
theorem dX3_catchDrift_17 : decode cX3_catchDrift 17 = .ok (.iload_n 2, 1) := by decide +kernel
theorem dX3_catchDrift_18 : decode cX3_catchDrift 18 = .ok (.invokevirtual 128, 3) := by decide +kernel
theorem dX3_catchDrift_21 : decode cX3_catchDrift 21 = .ok (.ifCond .eq 47, 3) := by decide +kernel
theorem dX3_catchDrift_24 : decode cX3_catchDrift 24 = .ok (.aload_n 0, 1) := by decide +kernel
theorem dX3_catchDrift_25 : decode cX3_catchDrift 25 = .ok (.iload_n 2, 1) := by decide +kernel
theorem dX3_catchDrift_26 : decode cX3_catchDrift 26 = .ok (.invokevirtual 66, 3) := by decide +kernel
theorem dX3_catchDrift_29 : decode cX3_catchDrift 29 = .ok (.aload_n 1, 1) := by decide +kernel
theorem dX3_catchDrift_30 : decode cX3_catchDrift 30 = .ok (.iconst 3, 1) := by decide +kernel
theorem dX3_catchDrift_31 : decode cX3_catchDrift 31 = .ok (.invokevirtual 91, 3) := by decide +kernel
theorem dX3_catchDrift_34 : decode cX3_catchDrift 34 = .ok (.if_icmp .gt 22, 3) := by decide +kernel
theorem dX3_catchDrift_37 : decode cX3_catchDrift 37 = .ok (.aload_n 0, 1) := by decide +kernel
theorem dX3_catchDrift_38 : decode cX3_catchDrift 38 = .ok (.iload_n 2, 1) := by decide +kernel
theorem dX3_catchDrift_39 : decode cX3_catchDrift 39 = .ok (.aload_n 0, 1) := by decide +kernel
theorem dX3_catchDrift_40 : decode cX3_catchDrift 40 = .ok (.iload_n 2, 1) := by decide +kernel
theorem dX3_catchDrift_41 : decode cX3_catchDrift 41 = .ok (.invokevirtual 69, 3) := by decide +kernel
theorem dX3_catchDrift_44 : decode cX3_catchDrift 44 = .ok (.aload_n 0, 1) := by decide +kernel
theorem dX3_catchDrift_45 : decode cX3_catchDrift 45 = .ok (.iload_n 2, 1) := by decide +kernel
theorem dX3_catchDrift_46 : decode cX3_catchDrift 46 = .ok (.invokevirtual 63, 3) := by decide +kernel
theorem dX3_catchDrift_49 : decode cX3_catchDrift 49 = .ok (.iconst 0, 1) := by decide +kernel
theorem dX3_catchDrift_50 : decode cX3_catchDrift 50 = .ok (.invokevirtual 96, 3) := by decide +kernel
theorem dX3_catchDrift_53 : decode cX3_catchDrift 53 = .ok (.goto 15, 3) := by decide +kernel
theorem dX3_catchDrift_56 : decode cX3_catchDrift 56 = .ok (.aload_n 0, 1) := by decide +kernel
theorem dX3_catchDrift_57 : decode cX3_catchDrift 57 = .ok (.dup, 1) := by decide +kernel
theorem dX3_catchDrift_58 : decode cX3_catchDrift 58 = .ok (.getfield 26, 3) := by decide +kernel
theorem dX3_catchDrift_61 : decode cX3_catchDrift 61 = .ok (.iconst 1, 1) := by decide +kernel
theorem dX3_catchDrift_62 : decode cX3_catchDrift 62 = .ok (.iload_n 2, 1) := by decide +kernel
theorem dX3_catchDrift_63 : decode cX3_catchDrift 63 = .ok (.ishl, 1) := by decide +kernel
theorem dX3_catchDrift_64 : decode cX3_catchDrift 64 = .ok (.ior, 1) := by decide +kernel
theorem dX3_catchDrift_65 : decode cX3_catchDrift 65 = .ok (.putfield 26, 3) := by decide +kernel
theorem dX3_catchDrift_68 : decode cX3_catchDrift 68 = .ok (.iinc 2 1, 3) := by decide +kernel
theorem dX3_catchDrift_71 : decode cX3_catchDrift 71 = .ok (.goto (-69), 3) := by decide +kernel
theorem dX3_catchDrift_74 : decode cX3_catchDrift 74 = .ok (.return_, 1) := by decide +kernel
theorem dX3_work_0 : decode cX3_work 0 = .ok (.iconst 0, 1) := by decide +kernel
theorem dX3_work_1 : decode cX3_work 1 = .ok (.istore_n 2, 1) := by decide +kernel
theorem dX3_work_2 : decode cX3_work 2 = .ok (.iload_n 2, 1) := by decide +kernel
theorem dX3_work_3 : decode cX3_work 3 = .ok (.aload_n 1, 1) := by decide +kernel
theorem dX3_work_4 : decode cX3_work 4 = .ok (.getfield 121, 3) := by decide +kernel
theorem dX3_work_7 : decode cX3_work 7 = .ok (.if_icmp .ge 37, 3) := by decide +kernel
theorem dX3_work_10 : decode cX3_work 10 = .ok (.aload_n 1, 1) := by decide +kernel
theorem dX3_work_11 : decode cX3_work 11 = .ok (.iload_n 2, 1) := by decide +kernel
theorem dX3_work_12 : decode cX3_work 12 = .ok (.bipush 6, 2) := by decide +kernel
theorem dX3_work_14 : decode cX3_work 14 = .ok (.invokevirtual 124, 3) := by decide +kernel
theorem dX3_work_17 : decode cX3_work 17 = .ok (.istore_n 3, 1) := by decide +kernel
theorem dX3_work_18 : decode cX3_work 18 = .ok (.iload_n 3, 1) := by decide +kernel
theorem dX3_work_19 : decode cX3_work 19 = .ok (.iconst (-1), 1) := by decide +kernel
theorem dX3_work_20 : decode cX3_work 20 = .ok (.if_icmp .eq 18, 3) := by decide +kernel
theorem dX3_work_23 : decode cX3_work 23 = .ok (.aload_n 0, 1) := by decide +kernel
theorem dX3_work_24 : decode cX3_work 24 = .ok (.iload_n 3, 1) := by decide +kernel
theorem dX3_work_25 : decode cX3_work 25 = .ok (.invokevirtual 113, 3) := by decide +kernel
theorem dX3_work_28 : decode cX3_work 28 = .ok (.ifCond .eq 10, 3) := by decide +kernel
theorem dX3_work_31 : decode cX3_work 31 = .ok (.aload_n 0, 1) := by decide +kernel
theorem dX3_work_32 : decode cX3_work 32 = .ok (.aload_n 1, 1) := by decide +kernel
theorem dX3_work_33 : decode cX3_work 33 = .ok (.iload_n 2, 1) := by decide +kernel
theorem dX3_work_34 : decode cX3_work 34 = .ok (.iload_n 3, 1) := by decide +kernel
theorem dX3_work_35 : decode cX3_work 35 = .ok (.invokevirtual 131, 3) := by decide +kernel
theorem dX3_work_38 : decode cX3_work 38 = .ok (.iinc 2 1, 3) := by decide +kernel
theorem dX3_work_41 : decode cX3_work 41 = .ok (.goto (-39), 3) := by decide +kernel
theorem dX3_work_44 : decode cX3_work 44 = .ok (.return_, 1) := by decide +kernel
theorem dX3_doOperation_0 : decode cX3_doOperation 0 = .ok (.aload_n 1, 1) := by decide +kernel
theorem dX3_doOperation_1 : decode cX3_doOperation 1 = .ok (.iload_n 2, 1) := by decide +kernel
theorem dX3_doOperation_2 : decode cX3_doOperation 2 = .ok (.iconst 0, 1) := by decide +kernel
theorem dX3_doOperation_3 : decode cX3_doOperation 3 = .ok (.invokevirtual 124, 3) := by decide +kernel
theorem dX3_doOperation_6 : decode cX3_doOperation 6 = .ok (.ifCond .ne 60, 3) := by decide +kernel
theorem dX3_doOperation_9 : decode cX3_doOperation 9 = .ok (.aload_n 0, 1) := by decide +kernel
theorem dX3_doOperation_10 : decode cX3_doOperation 10 = .ok (.iload_n 3, 1) := by decide +kernel
theorem dX3_doOperation_11 : decode cX3_doOperation 11 = .ok (.invokevirtual 69, 3) := by decide +kernel
theorem dX3_doOperation_14 : decode cX3_doOperation 14 = .ok (.aload_n 1, 1) := by decide +kernel
theorem dX3_doOperation_15 : decode cX3_doOperation 15 = .ok (.iload_n 2, 1) := by decide +kernel
theorem dX3_doOperation_16 : decode cX3_doOperation 16 = .ok (.invokevirtual 135, 3) := by decide +kernel
theorem dX3_doOperation_19 : decode cX3_doOperation 19 = .ok (.land, 1) := by decide +kernel
theorem dX3_doOperation_20 : decode cX3_doOperation 20 = .ok (.lstore 4, 2) := by decide +kernel
theorem dX3_doOperation_22 : decode cX3_doOperation 22 = .ok (.aload_n 0, 1) := by decide +kernel
theorem dX3_doOperation_23 : decode cX3_doOperation 23 = .ok (.dup, 1) := by decide +kernel
theorem dX3_doOperation_24 : decode cX3_doOperation 24 = .ok (.getfield 46, 3) := by decide +kernel
theorem dX3_doOperation_27 : decode cX3_doOperation 27 = .ok (.lload 4, 2) := by decide +kernel
theorem dX3_doOperation_29 : decode cX3_doOperation 29 = .ok (.invokestatic 73, 3) := by decide +kernel
theorem dX3_doOperation_32 : decode cX3_doOperation 32 = .ok (.iadd, 1) := by decide +kernel
theorem dX3_doOperation_33 : decode cX3_doOperation 33 = .ok (.putfield 46, 3) := by decide +kernel
theorem dX3_doOperation_36 : decode cX3_doOperation 36 = .ok (.aload_n 0, 1) := by decide +kernel
theorem dX3_doOperation_37 : decode cX3_doOperation 37 = .ok (.iload_n 3, 1) := by decide +kernel
theorem dX3_doOperation_38 : decode cX3_doOperation 38 = .ok (.aload_n 0, 1) := by decide +kernel
theorem dX3_doOperation_39 : decode cX3_doOperation 39 = .ok (.iload_n 3, 1) := by decide +kernel
theorem dX3_doOperation_40 : decode cX3_doOperation 40 = .ok (.invokevirtual 69, 3) := by decide +kernel
theorem dX3_doOperation_43 : decode cX3_doOperation 43 = .ok (.lload 4, 2) := by decide +kernel
theorem dX3_doOperation_45 : decode cX3_doOperation 45 = .ok (.ldc2_w 138, 3) := by decide +kernel
theorem dX3_doOperation_48 : decode cX3_doOperation 48 = .ok (.lxor, 1) := by decide +kernel
theorem dX3_doOperation_49 : decode cX3_doOperation 49 = .ok (.land, 1) := by decide +kernel
theorem dX3_doOperation_50 : decode cX3_doOperation 50 = .ok (.aload_n 0, 1) := by decide +kernel
theorem dX3_doOperation_51 : decode cX3_doOperation 51 = .ok (.iload_n 3, 1) := by decide +kernel
theorem dX3_doOperation_52 : decode cX3_doOperation 52 = .ok (.invokevirtual 63, 3) := by decide +kernel
theorem dX3_doOperation_55 : decode cX3_doOperation 55 = .ok (.aload_n 0, 1) := by decide +kernel
theorem dX3_doOperation_56 : decode cX3_doOperation 56 = .ok (.iload_n 3, 1) := by decide +kernel
theorem dX3_doOperation_57 : decode cX3_doOperation 57 = .ok (.invokevirtual 66, 3) := by decide +kernel
theorem dX3_doOperation_60 : decode cX3_doOperation 60 = .ok (.invokevirtual 96, 3) := by decide +kernel
theorem dX3_doOperation_63 : decode cX3_doOperation 63 = .ok (.goto 27, 3) := by decide +kernel
theorem dX3_doOperation_66 : decode cX3_doOperation 66 = .ok (.aload_n 0, 1) := by decide +kernel
theorem dX3_doOperation_67 : decode cX3_doOperation 67 = .ok (.iload_n 3, 1) := by decide +kernel
theorem dX3_doOperation_68 : decode cX3_doOperation 68 = .ok (.aload_n 0, 1) := by decide +kernel
theorem dX3_doOperation_69 : decode cX3_doOperation 69 = .ok (.iload_n 3, 1) := by decide +kernel
theorem dX3_doOperation_70 : decode cX3_doOperation 70 = .ok (.invokevirtual 69, 3) := by decide +kernel
theorem dX3_doOperation_73 : decode cX3_doOperation 73 = .ok (.aload_n 0, 1) := by decide +kernel
theorem dX3_doOperation_74 : decode cX3_doOperation 74 = .ok (.iload_n 3, 1) := by decide +kernel
theorem dX3_doOperation_75 : decode cX3_doOperation 75 = .ok (.invokevirtual 63, 3) := by decide +kernel
theorem dX3_doOperation_78 : decode cX3_doOperation 78 = .ok (.iconst 1, 1) := by decide +kernel
theorem dX3_doOperation_79 : decode cX3_doOperation 79 = .ok (.iload_n 2, 1) := by decide +kernel
theorem dX3_doOperation_80 : decode cX3_doOperation 80 = .ok (.ishl, 1) := by decide +kernel
theorem dX3_doOperation_81 : decode cX3_doOperation 81 = .ok (.ior, 1) := by decide +kernel
theorem dX3_doOperation_82 : decode cX3_doOperation 82 = .ok (.aload_n 0, 1) := by decide +kernel
theorem dX3_doOperation_83 : decode cX3_doOperation 83 = .ok (.iload_n 3, 1) := by decide +kernel
theorem dX3_doOperation_84 : decode cX3_doOperation 84 = .ok (.invokevirtual 66, 3) := by decide +kernel
theorem dX3_doOperation_87 : decode cX3_doOperation 87 = .ok (.invokevirtual 96, 3) := by decide +kernel
theorem dX3_doOperation_90 : decode cX3_doOperation 90 = .ok (.aload_n 0, 1) := by decide +kernel
theorem dX3_doOperation_91 : decode cX3_doOperation 91 = .ok (.iload_n 3, 1) := by decide +kernel
theorem dX3_doOperation_92 : decode cX3_doOperation 92 = .ok (.invokevirtual 66, 3) := by decide +kernel
theorem dX3_doOperation_95 : decode cX3_doOperation 95 = .ok (.aload_n 1, 1) := by decide +kernel
theorem dX3_doOperation_96 : decode cX3_doOperation 96 = .ok (.iconst 4, 1) := by decide +kernel
theorem dX3_doOperation_97 : decode cX3_doOperation 97 = .ok (.invokevirtual 91, 3) := by decide +kernel
theorem dX3_doOperation_100 : decode cX3_doOperation 100 = .ok (.if_icmp .le 15, 3) := by decide +kernel
theorem dX3_doOperation_103 : decode cX3_doOperation 103 = .ok (.aload_n 0, 1) := by decide +kernel
theorem dX3_doOperation_104 : decode cX3_doOperation 104 = .ok (.dup, 1) := by decide +kernel
theorem dX3_doOperation_105 : decode cX3_doOperation 105 = .ok (.getfield 26, 3) := by decide +kernel
theorem dX3_doOperation_108 : decode cX3_doOperation 108 = .ok (.iconst 1, 1) := by decide +kernel
theorem dX3_doOperation_109 : decode cX3_doOperation 109 = .ok (.iload_n 3, 1) := by decide +kernel
theorem dX3_doOperation_110 : decode cX3_doOperation 110 = .ok (.ishl, 1) := by decide +kernel
theorem dX3_doOperation_111 : decode cX3_doOperation 111 = .ok (.ior, 1) := by decide +kernel
theorem dX3_doOperation_112 : decode cX3_doOperation 112 = .ok (.putfield 26, 3) := by decide +kernel
theorem dX3_doOperation_115 : decode cX3_doOperation 115 = .ok (.return_, 1) := by decide +kernel
theorem dX4_init_0 : decode cX4_init 0 = .ok (.aload_n 0, 1) := by decide +kernel
theorem dX4_init_1 : decode cX4_init 1 = .ok (.invokespecial 1, 3) := by decide +kernel
theorem dX4_init_4 : decode cX4_init 4 = .ok (.aload_n 0, 1) := by decide +kernel
theorem dX4_init_5 : decode cX4_init 5 = .ok (.new 7, 3) := by decide +kernel
theorem dX4_init_8 : decode cX4_init 8 = .ok (.dup, 1) := by decide +kernel
theorem dX4_init_9 : decode cX4_init 9 = .ok (.invokespecial 9, 3) := by decide +kernel
theorem dX4_init_12 : decode cX4_init 12 = .ok (.putfield 10, 3) := by decide +kernel
theorem dX4_init_15 : decode cX4_init 15 = .ok (.aload_n 0, 1) := by decide +kernel
theorem dX4_init_16 : decode cX4_init 16 = .ok (.new 16, 3) := by decide +kernel
theorem dX4_init_19 : decode cX4_init 19 = .ok (.dup, 1) := by decide +kernel
theorem dX4_init_20 : decode cX4_init 20 = .ok (.invokespecial 18, 3) := by decide +kernel
theorem dX4_init_23 : decode cX4_init 23 = .ok (.putfield 19, 3) := by decide +kernel
theorem dX4_init_26 : decode cX4_init 26 = .ok (.return_, 1) := by decide +kernel
theorem dX4_copyFrom_0 : decode cX4_copyFrom 0 = .ok (.aload_n 0, 1) := by decide +kernel
theorem dX4_copyFrom_1 : decode cX4_copyFrom 1 = .ok (.getfield 10, 3) := by decide +kernel
theorem dX4_copyFrom_4 : decode cX4_copyFrom 4 = .ok (.aload_n 1, 1) := by decide +kernel
theorem dX4_copyFrom_5 : decode cX4_copyFrom 5 = .ok (.getfield 10, 3) := by decide +kernel
theorem dX4_copyFrom_8 : decode cX4_copyFrom 8 = .ok (.invokevirtual 23, 3) := by decide +kernel
theorem dX4_copyFrom_11 : decode cX4_copyFrom 11 = .ok (.aload_n 0, 1) := by decide +kernel
theorem dX4_copyFrom_12 : decode cX4_copyFrom 12 = .ok (.getfield 19, 3) := by decide +kernel
theorem dX4_copyFrom_15 : decode cX4_copyFrom 15 = .ok (.aload_n 1, 1) := by decide +kernel
theorem dX4_copyFrom_16 : decode cX4_copyFrom 16 = .ok (.getfield 19, 3) := by decide +kernel
theorem dX4_copyFrom_19 : decode cX4_copyFrom 19 = .ok (.invokevirtual 27, 3) := by decide +kernel
theorem dX4_copyFrom_22 : decode cX4_copyFrom 22 = .ok (.return_, 1) := by decide +kernel
theorem dX5_init_0 : decode cX5_init 0 = .ok (.aload_n 0, 1) := by decide +kernel
theorem dX5_init_1 : decode cX5_init 1 = .ok (.invokespecial 3, 3) := by decide +kernel
theorem dX5_init_4 : decode cX5_init 4 = .ok (.aload_n 0, 1) := by decide +kernel
theorem dX5_init_5 : decode cX5_init 5 = .ok (.new 9, 3) := by decide +kernel
theorem dX5_init_8 : decode cX5_init 8 = .ok (.dup, 1) := by decide +kernel
theorem dX5_init_9 : decode cX5_init 9 = .ok (.invokespecial 11, 3) := by decide +kernel
theorem dX5_init_12 : decode cX5_init 12 = .ok (.putfield 12, 3) := by decide +kernel
theorem dX5_init_15 : decode cX5_init 15 = .ok (.aload_n 0, 1) := by decide +kernel
theorem dX5_init_16 : decode cX5_init 16 = .ok (.iconst 4, 1) := by decide +kernel
theorem dX5_init_17 : decode cX5_init 17 = .ok (.anewarray 9, 3) := by decide +kernel
theorem dX5_init_20 : decode cX5_init 20 = .ok (.putfield 16, 3) := by decide +kernel
theorem dX5_init_23 : decode cX5_init 23 = .ok (.iconst 0, 1) := by decide +kernel
theorem dX5_init_24 : decode cX5_init 24 = .ok (.istore_n 1, 1) := by decide +kernel
theorem dX5_init_25 : decode cX5_init 25 = .ok (.iload_n 1, 1) := by decide +kernel
theorem dX5_init_26 : decode cX5_init 26 = .ok (.aload_n 0, 1) := by decide +kernel
theorem dX5_init_27 : decode cX5_init 27 = .ok (.getfield 16, 3) := by decide +kernel
theorem dX5_init_30 : decode cX5_init 30 = .ok (.arraylength, 1) := by decide +kernel
theorem dX5_init_31 : decode cX5_init 31 = .ok (.if_icmp .ge 22, 3) := by decide +kernel
theorem dX5_init_34 : decode cX5_init 34 = .ok (.aload_n 0, 1) := by decide +kernel
theorem dX5_init_35 : decode cX5_init 35 = .ok (.getfield 16, 3) := by decide +kernel
theorem dX5_init_38 : decode cX5_init 38 = .ok (.iload_n 1, 1) := by decide +kernel
theorem dX5_init_39 : decode cX5_init 39 = .ok (.new 9, 3) := by decide +kernel
theorem dX5_init_42 : decode cX5_init 42 = .ok (.dup, 1) := by decide +kernel
theorem dX5_init_43 : decode cX5_init 43 = .ok (.invokespecial 11, 3) := by decide +kernel
theorem dX5_init_46 : decode cX5_init 46 = .ok (.aastore, 1) := by decide +kernel
theorem dX5_init_47 : decode cX5_init 47 = .ok (.iinc 1 1, 3) := by decide +kernel
theorem dX5_init_50 : decode cX5_init 50 = .ok (.goto (-25), 3) := by decide +kernel
theorem dX5_init_53 : decode cX5_init 53 = .ok (.aload_n 0, 1) := by decide +kernel
theorem dX5_init_54 : decode cX5_init 54 = .ok (.new 20, 3) := by decide +kernel
theorem dX5_init_57 : decode cX5_init 57 = .ok (.dup, 1) := by decide +kernel
theorem dX5_init_58 : decode cX5_init 58 = .ok (.invokespecial 22, 3) := by decide +kernel
theorem dX5_init_61 : decode cX5_init 61 = .ok (.putfield 23, 3) := by decide +kernel
theorem dX5_init_64 : decode cX5_init 64 = .ok (.aload_n 0, 1) := by decide +kernel
theorem dX5_init_65 : decode cX5_init 65 = .ok (.new 27, 3) := by decide +kernel
theorem dX5_init_68 : decode cX5_init 68 = .ok (.dup, 1) := by decide +kernel
theorem dX5_init_69 : decode cX5_init 69 = .ok (.invokespecial 29, 3) := by decide +kernel
theorem dX5_init_72 : decode cX5_init 72 = .ok (.putfield 30, 3) := by decide +kernel
theorem dX5_init_75 : decode cX5_init 75 = .ok (.aload_n 0, 1) := by decide +kernel
theorem dX5_init_76 : decode cX5_init 76 = .ok (.new 34, 3) := by decide +kernel
theorem dX5_init_79 : decode cX5_init 79 = .ok (.dup, 1) := by decide +kernel
theorem dX5_init_80 : decode cX5_init 80 = .ok (.invokespecial 36, 3) := by decide +kernel
theorem dX5_init_83 : decode cX5_init 83 = .ok (.putfield 37, 3) := by decide +kernel
theorem dX5_init_86 : decode cX5_init 86 = .ok (.return_, 1) := by decide +kernel
theorem dX5_begin_0 : decode cX5_begin 0 = .ok (.iload_n 1, 1) := by decide +kernel
theorem dX5_begin_1 : decode cX5_begin 1 = .ok (.iload_n 2, 1) := by decide +kernel
theorem dX5_begin_2 : decode cX5_begin 2 = .ok (.invokestatic 41, 3) := by decide +kernel
theorem dX5_begin_5 : decode cX5_begin 5 = .ok (.ifCond .ne 13, 3) := by decide +kernel
theorem dX5_begin_8 : decode cX5_begin 8 = .ok (.new 45, 3) := by decide +kernel
theorem dX5_begin_11 : decode cX5_begin 11 = .ok (.dup, 1) := by decide +kernel
theorem dX5_begin_12 : decode cX5_begin 12 = .ok (.ldc 47, 2) := by decide +kernel
theorem dX5_begin_14 : decode cX5_begin 14 = .ok (.invokespecial 49, 3) := by decide +kernel
theorem dX5_begin_17 : decode cX5_begin 17 = .ok (.athrow, 1) := by decide +kernel
theorem dX5_begin_18 : decode cX5_begin 18 = .ok (.aload_n 0, 1) := by decide +kernel
theorem dX5_begin_19 : decode cX5_begin 19 = .ok (.invokevirtual 52, 3) := by decide +kernel
theorem dX5_begin_22 : decode cX5_begin 22 = .ok (.aload_n 0, 1) := by decide +kernel
theorem dX5_begin_23 : decode cX5_begin 23 = .ok (.getfield 12, 3) := by decide +kernel
theorem dX5_begin_26 : decode cX5_begin 26 = .ok (.getfield 55, 3) := by decide +kernel
theorem dX5_begin_29 : decode cX5_begin 29 = .ok (.getfield 59, 3) := by decide +kernel
theorem dX5_begin_32 : decode cX5_begin 32 = .ok (.istore_n 3, 1) := by decide +kernel
theorem dX5_begin_33 : decode cX5_begin 33 = .ok (.aload_n 0, 1) := by decide +kernel
theorem dX5_begin_34 : decode cX5_begin 34 = .ok (.iload_n 1, 1) := by decide +kernel
theorem dX5_begin_35 : decode cX5_begin 35 = .ok (.iload_n 2, 1) := by decide +kernel
theorem dX5_begin_36 : decode cX5_begin 36 = .ok (.invokevirtual 65, 3) := by decide +kernel
theorem dX5_begin_39 : decode cX5_begin 39 = .ok (.iload_n 3, 1) := by decide +kernel
theorem dX5_begin_40 : decode cX5_begin 40 = .ok (.ireturn, 1) := by decide +kernel
theorem dX5_mark_0 : decode cX5_mark 0 = .ok (.aload_n 0, 1) := by decide +kernel
theorem dX5_mark_1 : decode cX5_mark 1 = .ok (.getfield 12, 3) := by decide +kernel
theorem dX5_mark_4 : decode cX5_mark 4 = .ok (.getfield 55, 3) := by decide +kernel
theorem dX5_mark_7 : decode cX5_mark 7 = .ok (.iload_n 1, 1) := by decide +kernel
theorem dX5_mark_8 : decode cX5_mark 8 = .ok (.iload_n 2, 1) := by decide +kernel
theorem dX5_mark_9 : decode cX5_mark 9 = .ok (.iload_n 3, 1) := by decide +kernel
theorem dX5_mark_10 : decode cX5_mark 10 = .ok (.iload 4, 2) := by decide +kernel
theorem dX5_mark_12 : decode cX5_mark 12 = .ok (.invokevirtual 69, 3) := by decide +kernel
theorem dX5_mark_15 : decode cX5_mark 15 = .ok (.ifCond .eq 14, 3) := by decide +kernel
theorem dX5_mark_18 : decode cX5_mark 18 = .ok (.iload 5, 2) := by decide +kernel
theorem dX5_mark_20 : decode cX5_mark 20 = .ok (.ifCond .lt 9, 3) := by decide +kernel
theorem dX5_mark_23 : decode cX5_mark 23 = .ok (.iload 5, 2) := by decide +kernel
theorem dX5_mark_25 : decode cX5_mark 25 = .ok (.iconst 2, 1) := by decide +kernel
theorem dX5_mark_26 : decode cX5_mark 26 = .ok (.if_icmp .le 13, 3) := by decide +kernel
theorem dX5_mark_29 : decode cX5_mark 29 = .ok (.new 45, 3) := by decide +kernel
theorem dX5_mark_32 : decode cX5_mark 32 = .ok (.dup, 1) := by decide +kernel
theorem dX5_mark_33 : decode cX5_mark 33 = .ok (.ldc 73, 2) := by decide +kernel
theorem dX5_mark_35 : decode cX5_mark 35 = .ok (.invokespecial 49, 3) := by decide +kernel
theorem dX5_mark_38 : decode cX5_mark 38 = .ok (.athrow, 1) := by decide +kernel
theorem dX5_mark_39 : decode cX5_mark 39 = .ok (.aload_n 0, 1) := by decide +kernel
theorem dX5_mark_40 : decode cX5_mark 40 = .ok (.invokevirtual 52, 3) := by decide +kernel
theorem dX5_mark_43 : decode cX5_mark 43 = .ok (.aload_n 0, 1) := by decide +kernel
theorem dX5_mark_44 : decode cX5_mark 44 = .ok (.getfield 12, 3) := by decide +kernel
theorem dX5_mark_47 : decode cX5_mark 47 = .ok (.getfield 55, 3) := by decide +kernel
theorem dX5_mark_50 : decode cX5_mark 50 = .ok (.aload_n 0, 1) := by decide +kernel
theorem dX5_mark_51 : decode cX5_mark 51 = .ok (.getfield 12, 3) := by decide +kernel
theorem dX5_mark_54 : decode cX5_mark 54 = .ok (.getfield 55, 3) := by decide +kernel
theorem dX5_mark_57 : decode cX5_mark 57 = .ok (.iload_n 1, 1) := by decide +kernel
theorem dX5_mark_58 : decode cX5_mark 58 = .ok (.iload_n 2, 1) := by decide +kernel
theorem dX5_mark_59 : decode cX5_mark 59 = .ok (.iload_n 3, 1) := by decide +kernel
theorem dX5_mark_60 : decode cX5_mark 60 = .ok (.iload 4, 2) := by decide +kernel
theorem dX5_mark_62 : decode cX5_mark 62 = .ok (.invokevirtual 75, 3) := by decide +kernel
theorem dX5_mark_65 : decode cX5_mark 65 = .ok (.iload 5, 2) := by decide +kernel
theorem dX5_mark_67 : decode cX5_mark 67 = .ok (.invokevirtual 79, 3) := by decide +kernel
theorem dX5_mark_70 : decode cX5_mark 70 = .ok (.ireturn, 1) := by decide +kernel
theorem dX5_setCarrier_0 : decode cX5_setCarrier 0 = .ok (.iload_n 1, 1) := by decide +kernel
theorem dX5_setCarrier_1 : decode cX5_setCarrier 1 = .ok (.ifCond .lt 8, 3) := by decide +kernel
theorem dX5_setCarrier_4 : decode cX5_setCarrier 4 = .ok (.iload_n 1, 1) := by decide +kernel
theorem dX5_setCarrier_5 : decode cX5_setCarrier 5 = .ok (.iconst 2, 1) := by decide +kernel
theorem dX5_setCarrier_6 : decode cX5_setCarrier 6 = .ok (.if_icmp .le 13, 3) := by decide +kernel
theorem dX5_setCarrier_9 : decode cX5_setCarrier 9 = .ok (.new 45, 3) := by decide +kernel
theorem dX5_setCarrier_12 : decode cX5_setCarrier 12 = .ok (.dup, 1) := by decide +kernel
theorem dX5_setCarrier_13 : decode cX5_setCarrier 13 = .ok (.ldc 83, 2) := by decide +kernel
theorem dX5_setCarrier_15 : decode cX5_setCarrier 15 = .ok (.invokespecial 49, 3) := by decide +kernel
theorem dX5_setCarrier_18 : decode cX5_setCarrier 18 = .ok (.athrow, 1) := by decide +kernel
theorem dX5_setCarrier_19 : decode cX5_setCarrier 19 = .ok (.aload_n 0, 1) := by decide +kernel
theorem dX5_setCarrier_20 : decode cX5_setCarrier 20 = .ok (.invokevirtual 52, 3) := by decide +kernel
theorem dX5_setCarrier_23 : decode cX5_setCarrier 23 = .ok (.aload_n 0, 1) := by decide +kernel
theorem dX5_setCarrier_24 : decode cX5_setCarrier 24 = .ok (.getfield 12, 3) := by decide +kernel
theorem dX5_setCarrier_27 : decode cX5_setCarrier 27 = .ok (.getfield 55, 3) := by decide +kernel
theorem dX5_setCarrier_30 : decode cX5_setCarrier 30 = .ok (.getfield 85, 3) := by decide +kernel
theorem dX5_setCarrier_33 : decode cX5_setCarrier 33 = .ok (.istore_n 2, 1) := by decide +kernel
theorem dX5_setCarrier_34 : decode cX5_setCarrier 34 = .ok (.aload_n 0, 1) := by decide +kernel
theorem dX5_setCarrier_35 : decode cX5_setCarrier 35 = .ok (.getfield 12, 3) := by decide +kernel
theorem dX5_setCarrier_38 : decode cX5_setCarrier 38 = .ok (.getfield 55, 3) := by decide +kernel
theorem dX5_setCarrier_41 : decode cX5_setCarrier 41 = .ok (.iload_n 1, 1) := by decide +kernel
theorem dX5_setCarrier_42 : decode cX5_setCarrier 42 = .ok (.putfield 85, 3) := by decide +kernel
theorem dX5_setCarrier_45 : decode cX5_setCarrier 45 = .ok (.iload_n 2, 1) := by decide +kernel
theorem dX5_setCarrier_46 : decode cX5_setCarrier 46 = .ok (.ireturn, 1) := by decide +kernel
theorem dX5_set_0 : decode cX5_set 0 = .ok (.iload_n 1, 1) := by decide +kernel
theorem dX5_set_1 : decode cX5_set 1 = .ok (.iload_n 2, 1) := by decide +kernel
theorem dX5_set_2 : decode cX5_set 2 = .ok (.invokestatic 88, 3) := by decide +kernel
theorem dX5_set_5 : decode cX5_set 5 = .ok (.ifCond .ne 13, 3) := by decide +kernel
theorem dX5_set_8 : decode cX5_set 8 = .ok (.new 45, 3) := by decide +kernel
theorem dX5_set_11 : decode cX5_set 11 = .ok (.dup, 1) := by decide +kernel
theorem dX5_set_12 : decode cX5_set 12 = .ok (.ldc 91, 2) := by decide +kernel
theorem dX5_set_14 : decode cX5_set 14 = .ok (.invokespecial 49, 3) := by decide +kernel
theorem dX5_set_17 : decode cX5_set 17 = .ok (.athrow, 1) := by decide +kernel
theorem dX5_set_18 : decode cX5_set 18 = .ok (.aload_n 0, 1) := by decide +kernel
theorem dX5_set_19 : decode cX5_set 19 = .ok (.invokevirtual 52, 3) := by decide +kernel
theorem dX5_set_22 : decode cX5_set 22 = .ok (.aload_n 0, 1) := by decide +kernel
theorem dX5_set_23 : decode cX5_set 23 = .ok (.getfield 12, 3) := by decide +kernel
theorem dX5_set_26 : decode cX5_set 26 = .ok (.getfield 55, 3) := by decide +kernel
theorem dX5_set_29 : decode cX5_set 29 = .ok (.iload_n 1, 1) := by decide +kernel
theorem dX5_set_30 : decode cX5_set 30 = .ok (.invokevirtual 93, 3) := by decide +kernel
theorem dX5_set_33 : decode cX5_set 33 = .ok (.istore_n 3, 1) := by decide +kernel
theorem dX5_set_34 : decode cX5_set 34 = .ok (.aload_n 0, 1) := by decide +kernel
theorem dX5_set_35 : decode cX5_set 35 = .ok (.getfield 12, 3) := by decide +kernel
theorem dX5_set_38 : decode cX5_set 38 = .ok (.getfield 55, 3) := by decide +kernel
theorem dX5_set_41 : decode cX5_set 41 = .ok (.iload_n 1, 1) := by decide +kernel
theorem dX5_set_42 : decode cX5_set 42 = .ok (.iload_n 2, 1) := by decide +kernel
theorem dX5_set_43 : decode cX5_set 43 = .ok (.invokevirtual 97, 3) := by decide +kernel
theorem dX5_set_46 : decode cX5_set 46 = .ok (.iload_n 3, 1) := by decide +kernel
theorem dX5_set_47 : decode cX5_set 47 = .ok (.ireturn, 1) := by decide +kernel
theorem dX5_addPunch_0 : decode cX5_addPunch 0 = .ok (.aload_n 0, 1) := by decide +kernel
theorem dX5_addPunch_1 : decode cX5_addPunch 1 = .ok (.getfield 12, 3) := by decide +kernel
theorem dX5_addPunch_4 : decode cX5_addPunch 4 = .ok (.getfield 55, 3) := by decide +kernel
theorem dX5_addPunch_7 : decode cX5_addPunch 7 = .ok (.iload_n 1, 1) := by decide +kernel
theorem dX5_addPunch_8 : decode cX5_addPunch 8 = .ok (.iload_n 2, 1) := by decide +kernel
theorem dX5_addPunch_9 : decode cX5_addPunch 9 = .ok (.iload_n 3, 1) := by decide +kernel
theorem dX5_addPunch_10 : decode cX5_addPunch 10 = .ok (.iload 4, 2) := by decide +kernel
theorem dX5_addPunch_12 : decode cX5_addPunch 12 = .ok (.invokevirtual 69, 3) := by decide +kernel
theorem dX5_addPunch_15 : decode cX5_addPunch 15 = .ok (.ifCond .ne 13, 3) := by decide +kernel
theorem dX5_addPunch_18 : decode cX5_addPunch 18 = .ok (.new 45, 3) := by decide +kernel
theorem dX5_addPunch_21 : decode cX5_addPunch 21 = .ok (.dup, 1) := by decide +kernel
theorem dX5_addPunch_22 : decode cX5_addPunch 22 = .ok (.ldc 100, 2) := by decide +kernel
theorem dX5_addPunch_24 : decode cX5_addPunch 24 = .ok (.invokespecial 49, 3) := by decide +kernel
theorem dX5_addPunch_27 : decode cX5_addPunch 27 = .ok (.athrow, 1) := by decide +kernel
theorem dX5_addPunch_28 : decode cX5_addPunch 28 = .ok (.aload_n 0, 1) := by decide +kernel
theorem dX5_addPunch_29 : decode cX5_addPunch 29 = .ok (.getfield 12, 3) := by decide +kernel
theorem dX5_addPunch_32 : decode cX5_addPunch 32 = .ok (.getfield 55, 3) := by decide +kernel
theorem dX5_addPunch_35 : decode cX5_addPunch 35 = .ok (.invokevirtual 102, 3) := by decide +kernel
theorem dX5_addPunch_38 : decode cX5_addPunch 38 = .ok (.ifCond .eq 13, 3) := by decide +kernel
theorem dX5_addPunch_41 : decode cX5_addPunch 41 = .ok (.new 106, 3) := by decide +kernel
theorem dX5_addPunch_44 : decode cX5_addPunch 44 = .ok (.dup, 1) := by decide +kernel
theorem dX5_addPunch_45 : decode cX5_addPunch 45 = .ok (.ldc 108, 2) := by decide +kernel
theorem dX5_addPunch_47 : decode cX5_addPunch 47 = .ok (.invokespecial 110, 3) := by decide +kernel
theorem dX5_addPunch_50 : decode cX5_addPunch 50 = .ok (.athrow, 1) := by decide +kernel
theorem dX5_addPunch_51 : decode cX5_addPunch 51 = .ok (.aload_n 0, 1) := by decide +kernel
theorem dX5_addPunch_52 : decode cX5_addPunch 52 = .ok (.invokevirtual 52, 3) := by decide +kernel
theorem dX5_addPunch_55 : decode cX5_addPunch 55 = .ok (.aload_n 0, 1) := by decide +kernel
theorem dX5_addPunch_56 : decode cX5_addPunch 56 = .ok (.getfield 12, 3) := by decide +kernel
theorem dX5_addPunch_59 : decode cX5_addPunch 59 = .ok (.getfield 55, 3) := by decide +kernel
theorem dX5_addPunch_62 : decode cX5_addPunch 62 = .ok (.iconst 0, 1) := by decide +kernel
theorem dX5_addPunch_63 : decode cX5_addPunch 63 = .ok (.iload_n 1, 1) := by decide +kernel
theorem dX5_addPunch_64 : decode cX5_addPunch 64 = .ok (.iload_n 2, 1) := by decide +kernel
theorem dX5_addPunch_65 : decode cX5_addPunch 65 = .ok (.iload_n 3, 1) := by decide +kernel
theorem dX5_addPunch_66 : decode cX5_addPunch 66 = .ok (.iload 4, 2) := by decide +kernel
theorem dX5_addPunch_68 : decode cX5_addPunch 68 = .ok (.invokevirtual 111, 3) := by decide +kernel
theorem dX5_addPunch_71 : decode cX5_addPunch 71 = .ok (.ireturn, 1) := by decide +kernel
theorem dX5_addBend_0 : decode cX5_addBend 0 = .ok (.aload_n 0, 1) := by decide +kernel
theorem dX5_addBend_1 : decode cX5_addBend 1 = .ok (.getfield 12, 3) := by decide +kernel
theorem dX5_addBend_4 : decode cX5_addBend 4 = .ok (.getfield 55, 3) := by decide +kernel
theorem dX5_addBend_7 : decode cX5_addBend 7 = .ok (.iload_n 1, 1) := by decide +kernel
theorem dX5_addBend_8 : decode cX5_addBend 8 = .ok (.iload_n 2, 1) := by decide +kernel
theorem dX5_addBend_9 : decode cX5_addBend 9 = .ok (.iload_n 3, 1) := by decide +kernel
theorem dX5_addBend_10 : decode cX5_addBend 10 = .ok (.iconst 1, 1) := by decide +kernel
theorem dX5_addBend_11 : decode cX5_addBend 11 = .ok (.invokevirtual 69, 3) := by decide +kernel
theorem dX5_addBend_14 : decode cX5_addBend 14 = .ok (.ifCond .ne 13, 3) := by decide +kernel
theorem dX5_addBend_17 : decode cX5_addBend 17 = .ok (.new 45, 3) := by decide +kernel
theorem dX5_addBend_20 : decode cX5_addBend 20 = .ok (.dup, 1) := by decide +kernel
theorem dX5_addBend_21 : decode cX5_addBend 21 = .ok (.ldc 115, 2) := by decide +kernel
theorem dX5_addBend_23 : decode cX5_addBend 23 = .ok (.invokespecial 49, 3) := by decide +kernel
theorem dX5_addBend_26 : decode cX5_addBend 26 = .ok (.athrow, 1) := by decide +kernel
theorem dX5_addBend_27 : decode cX5_addBend 27 = .ok (.aload_n 0, 1) := by decide +kernel
theorem dX5_addBend_28 : decode cX5_addBend 28 = .ok (.getfield 12, 3) := by decide +kernel
theorem dX5_addBend_31 : decode cX5_addBend 31 = .ok (.getfield 55, 3) := by decide +kernel
theorem dX5_addBend_34 : decode cX5_addBend 34 = .ok (.invokevirtual 102, 3) := by decide +kernel
theorem dX5_addBend_37 : decode cX5_addBend 37 = .ok (.ifCond .eq 13, 3) := by decide +kernel
theorem dX5_addBend_40 : decode cX5_addBend 40 = .ok (.new 106, 3) := by decide +kernel
theorem dX5_addBend_43 : decode cX5_addBend 43 = .ok (.dup, 1) := by decide +kernel
theorem dX5_addBend_44 : decode cX5_addBend 44 = .ok (.ldc 108, 2) := by decide +kernel
theorem dX5_addBend_46 : decode cX5_addBend 46 = .ok (.invokespecial 110, 3) := by decide +kernel
theorem dX5_addBend_49 : decode cX5_addBend 49 = .ok (.athrow, 1) := by decide +kernel
theorem dX5_addBend_50 : decode cX5_addBend 50 = .ok (.aload_n 0, 1) := by decide +kernel
theorem dX5_addBend_51 : decode cX5_addBend 51 = .ok (.invokevirtual 52, 3) := by decide +kernel
theorem dX5_addBend_54 : decode cX5_addBend 54 = .ok (.aload_n 0, 1) := by decide +kernel
theorem dX5_addBend_55 : decode cX5_addBend 55 = .ok (.getfield 12, 3) := by decide +kernel
theorem dX5_addBend_58 : decode cX5_addBend 58 = .ok (.getfield 55, 3) := by decide +kernel
theorem dX5_addBend_61 : decode cX5_addBend 61 = .ok (.iconst 1, 1) := by decide +kernel
theorem dX5_addBend_62 : decode cX5_addBend 62 = .ok (.iload_n 1, 1) := by decide +kernel
theorem dX5_addBend_63 : decode cX5_addBend 63 = .ok (.iload_n 2, 1) := by decide +kernel
theorem dX5_addBend_64 : decode cX5_addBend 64 = .ok (.iload_n 3, 1) := by decide +kernel
theorem dX5_addBend_65 : decode cX5_addBend 65 = .ok (.iconst 1, 1) := by decide +kernel
theorem dX5_addBend_66 : decode cX5_addBend 66 = .ok (.invokevirtual 111, 3) := by decide +kernel
theorem dX5_addBend_69 : decode cX5_addBend 69 = .ok (.ireturn, 1) := by decide +kernel
theorem dX5_dropOperation_0 : decode cX5_dropOperation 0 = .ok (.aload_n 0, 1) := by decide +kernel
theorem dX5_dropOperation_1 : decode cX5_dropOperation 1 = .ok (.getfield 12, 3) := by decide +kernel
theorem dX5_dropOperation_4 : decode cX5_dropOperation 4 = .ok (.getfield 55, 3) := by decide +kernel
theorem dX5_dropOperation_7 : decode cX5_dropOperation 7 = .ok (.iload_n 1, 1) := by decide +kernel
theorem dX5_dropOperation_8 : decode cX5_dropOperation 8 = .ok (.invokevirtual 117, 3) := by decide +kernel
theorem dX5_dropOperation_11 : decode cX5_dropOperation 11 = .ok (.ifCond .ne 13, 3) := by decide +kernel
theorem dX5_dropOperation_14 : decode cX5_dropOperation 14 = .ok (.new 121, 3) := by decide +kernel
theorem dX5_dropOperation_17 : decode cX5_dropOperation 17 = .ok (.dup, 1) := by decide +kernel
theorem dX5_dropOperation_18 : decode cX5_dropOperation 18 = .ok (.ldc 123, 2) := by decide +kernel
theorem dX5_dropOperation_20 : decode cX5_dropOperation 20 = .ok (.invokespecial 125, 3) := by decide +kernel
theorem dX5_dropOperation_23 : decode cX5_dropOperation 23 = .ok (.athrow, 1) := by decide +kernel
theorem dX5_dropOperation_24 : decode cX5_dropOperation 24 = .ok (.aload_n 0, 1) := by decide +kernel
theorem dX5_dropOperation_25 : decode cX5_dropOperation 25 = .ok (.invokevirtual 52, 3) := by decide +kernel
theorem dX5_dropOperation_28 : decode cX5_dropOperation 28 = .ok (.aload_n 0, 1) := by decide +kernel
theorem dX5_dropOperation_29 : decode cX5_dropOperation 29 = .ok (.getfield 12, 3) := by decide +kernel
theorem dX5_dropOperation_32 : decode cX5_dropOperation 32 = .ok (.getfield 55, 3) := by decide +kernel
theorem dX5_dropOperation_35 : decode cX5_dropOperation 35 = .ok (.iload_n 1, 1) := by decide +kernel
theorem dX5_dropOperation_36 : decode cX5_dropOperation 36 = .ok (.invokevirtual 126, 3) := by decide +kernel
theorem dX5_dropOperation_39 : decode cX5_dropOperation 39 = .ok (.aload_n 0, 1) := by decide +kernel
theorem dX5_dropOperation_40 : decode cX5_dropOperation 40 = .ok (.getfield 12, 3) := by decide +kernel
theorem dX5_dropOperation_43 : decode cX5_dropOperation 43 = .ok (.getfield 130, 3) := by decide +kernel
theorem dX5_dropOperation_46 : decode cX5_dropOperation 46 = .ok (.iload_n 1, 1) := by decide +kernel
theorem dX5_dropOperation_47 : decode cX5_dropOperation 47 = .ok (.invokevirtual 133, 3) := by decide +kernel
theorem dX5_dropOperation_50 : decode cX5_dropOperation 50 = .ok (.aload_n 0, 1) := by decide +kernel
theorem dX5_dropOperation_51 : decode cX5_dropOperation 51 = .ok (.getfield 12, 3) := by decide +kernel
theorem dX5_dropOperation_54 : decode cX5_dropOperation 54 = .ok (.getfield 55, 3) := by decide +kernel
theorem dX5_dropOperation_57 : decode cX5_dropOperation 57 = .ok (.getfield 59, 3) := by decide +kernel
theorem dX5_dropOperation_60 : decode cX5_dropOperation 60 = .ok (.ireturn, 1) := by decide +kernel
theorem dX5_setStation_0 : decode cX5_setStation 0 = .ok (.aload_n 0, 1) := by decide +kernel
theorem dX5_setStation_1 : decode cX5_setStation 1 = .ok (.getfield 12, 3) := by decide +kernel
theorem dX5_setStation_4 : decode cX5_setStation 4 = .ok (.getfield 55, 3) := by decide +kernel
theorem dX5_setStation_7 : decode cX5_setStation 7 = .ok (.iload_n 1, 1) := by decide +kernel
theorem dX5_setStation_8 : decode cX5_setStation 8 = .ok (.invokevirtual 117, 3) := by decide +kernel
theorem dX5_setStation_11 : decode cX5_setStation 11 = .ok (.ifCond .ne 13, 3) := by decide +kernel
theorem dX5_setStation_14 : decode cX5_setStation 14 = .ok (.new 121, 3) := by decide +kernel
theorem dX5_setStation_17 : decode cX5_setStation 17 = .ok (.dup, 1) := by decide +kernel
theorem dX5_setStation_18 : decode cX5_setStation 18 = .ok (.ldc 123, 2) := by decide +kernel
theorem dX5_setStation_20 : decode cX5_setStation 20 = .ok (.invokespecial 125, 3) := by decide +kernel
theorem dX5_setStation_23 : decode cX5_setStation 23 = .ok (.athrow, 1) := by decide +kernel
theorem dX5_setStation_24 : decode cX5_setStation 24 = .ok (.iload_n 2, 1) := by decide +kernel
theorem dX5_setStation_25 : decode cX5_setStation 25 = .ok (.iconst (-1), 1) := by decide +kernel
theorem dX5_setStation_26 : decode cX5_setStation 26 = .ok (.if_icmp .eq 20, 3) := by decide +kernel
theorem dX5_setStation_29 : decode cX5_setStation 29 = .ok (.iload_n 2, 1) := by decide +kernel
theorem dX5_setStation_30 : decode cX5_setStation 30 = .ok (.invokestatic 136, 3) := by decide +kernel
theorem dX5_setStation_33 : decode cX5_setStation 33 = .ok (.ifCond .ne 13, 3) := by decide +kernel
theorem dX5_setStation_36 : decode cX5_setStation 36 = .ok (.new 45, 3) := by decide +kernel
theorem dX5_setStation_39 : decode cX5_setStation 39 = .ok (.dup, 1) := by decide +kernel
theorem dX5_setStation_40 : decode cX5_setStation 40 = .ok (.ldc 139, 2) := by decide +kernel
theorem dX5_setStation_42 : decode cX5_setStation 42 = .ok (.invokespecial 49, 3) := by decide +kernel
theorem dX5_setStation_45 : decode cX5_setStation 45 = .ok (.athrow, 1) := by decide +kernel
theorem dX5_setStation_46 : decode cX5_setStation 46 = .ok (.aload_n 0, 1) := by decide +kernel
theorem dX5_setStation_47 : decode cX5_setStation 47 = .ok (.invokevirtual 52, 3) := by decide +kernel
theorem dX5_setStation_50 : decode cX5_setStation 50 = .ok (.aload_n 0, 1) := by decide +kernel
theorem dX5_setStation_51 : decode cX5_setStation 51 = .ok (.getfield 12, 3) := by decide +kernel
theorem dX5_setStation_54 : decode cX5_setStation 54 = .ok (.getfield 55, 3) := by decide +kernel
theorem dX5_setStation_57 : decode cX5_setStation 57 = .ok (.iload_n 1, 1) := by decide +kernel
theorem dX5_setStation_58 : decode cX5_setStation 58 = .ok (.bipush 6, 2) := by decide +kernel
theorem dX5_setStation_60 : decode cX5_setStation 60 = .ok (.invokevirtual 141, 3) := by decide +kernel
theorem dX5_setStation_63 : decode cX5_setStation 63 = .ok (.istore_n 3, 1) := by decide +kernel
theorem dX5_setStation_64 : decode cX5_setStation 64 = .ok (.aload_n 0, 1) := by decide +kernel
theorem dX5_setStation_65 : decode cX5_setStation 65 = .ok (.getfield 12, 3) := by decide +kernel
theorem dX5_setStation_68 : decode cX5_setStation 68 = .ok (.getfield 55, 3) := by decide +kernel
theorem dX5_setStation_71 : decode cX5_setStation 71 = .ok (.iload_n 1, 1) := by decide +kernel
theorem dX5_setStation_72 : decode cX5_setStation 72 = .ok (.bipush 6, 2) := by decide +kernel
theorem dX5_setStation_74 : decode cX5_setStation 74 = .ok (.iload_n 2, 1) := by decide +kernel
theorem dX5_setStation_75 : decode cX5_setStation 75 = .ok (.invokevirtual 145, 3) := by decide +kernel
theorem dX5_setStation_78 : decode cX5_setStation 78 = .ok (.iload_n 3, 1) := by decide +kernel
theorem dX5_setStation_79 : decode cX5_setStation 79 = .ok (.ireturn, 1) := by decide +kernel
theorem dX5_usePlan_0 : decode cX5_usePlan 0 = .ok (.aload_n 0, 1) := by decide +kernel
theorem dX5_usePlan_1 : decode cX5_usePlan 1 = .ok (.getfield 30, 3) := by decide +kernel
theorem dX5_usePlan_4 : decode cX5_usePlan 4 = .ok (.aload_n 0, 1) := by decide +kernel
theorem dX5_usePlan_5 : decode cX5_usePlan 5 = .ok (.getfield 12, 3) := by decide +kernel
theorem dX5_usePlan_8 : decode cX5_usePlan 8 = .ok (.getfield 55, 3) := by decide +kernel
theorem dX5_usePlan_11 : decode cX5_usePlan 11 = .ok (.invokevirtual 149, 3) := by decide +kernel
theorem dX5_usePlan_14 : decode cX5_usePlan 14 = .ok (.istore_n 1, 1) := by decide +kernel
theorem dX5_usePlan_15 : decode cX5_usePlan 15 = .ok (.iload_n 1, 1) := by decide +kernel
theorem dX5_usePlan_16 : decode cX5_usePlan 16 = .ok (.iconst (-1), 1) := by decide +kernel
theorem dX5_usePlan_17 : decode cX5_usePlan 17 = .ok (.if_icmp .ne 13, 3) := by decide +kernel
theorem dX5_usePlan_20 : decode cX5_usePlan 20 = .ok (.new 106, 3) := by decide +kernel
theorem dX5_usePlan_23 : decode cX5_usePlan 23 = .ok (.dup, 1) := by decide +kernel
theorem dX5_usePlan_24 : decode cX5_usePlan 24 = .ok (.ldc 153, 2) := by decide +kernel
theorem dX5_usePlan_26 : decode cX5_usePlan 26 = .ok (.invokespecial 110, 3) := by decide +kernel
theorem dX5_usePlan_29 : decode cX5_usePlan 29 = .ok (.athrow, 1) := by decide +kernel
theorem dX5_usePlan_30 : decode cX5_usePlan 30 = .ok (.aload_n 0, 1) := by decide +kernel
theorem dX5_usePlan_31 : decode cX5_usePlan 31 = .ok (.invokevirtual 52, 3) := by decide +kernel
theorem dX5_usePlan_34 : decode cX5_usePlan 34 = .ok (.aload_n 0, 1) := by decide +kernel
theorem dX5_usePlan_35 : decode cX5_usePlan 35 = .ok (.getfield 30, 3) := by decide +kernel
theorem dX5_usePlan_38 : decode cX5_usePlan 38 = .ok (.aload_n 0, 1) := by decide +kernel
theorem dX5_usePlan_39 : decode cX5_usePlan 39 = .ok (.getfield 12, 3) := by decide +kernel
theorem dX5_usePlan_42 : decode cX5_usePlan 42 = .ok (.getfield 55, 3) := by decide +kernel
theorem dX5_usePlan_45 : decode cX5_usePlan 45 = .ok (.invokevirtual 155, 3) := by decide +kernel
theorem dX5_usePlan_48 : decode cX5_usePlan 48 = .ok (.iload_n 1, 1) := by decide +kernel
theorem dX5_usePlan_49 : decode cX5_usePlan 49 = .ok (.ireturn, 1) := by decide +kernel
theorem dX5_setPilot_0 : decode cX5_setPilot 0 = .ok (.iload_n 1, 1) := by decide +kernel
theorem dX5_setPilot_1 : decode cX5_setPilot 1 = .ok (.invokestatic 136, 3) := by decide +kernel
theorem dX5_setPilot_4 : decode cX5_setPilot 4 = .ok (.ifCond .ne 13, 3) := by decide +kernel
theorem dX5_setPilot_7 : decode cX5_setPilot 7 = .ok (.new 45, 3) := by decide +kernel
theorem dX5_setPilot_10 : decode cX5_setPilot 10 = .ok (.dup, 1) := by decide +kernel
theorem dX5_setPilot_11 : decode cX5_setPilot 11 = .ok (.ldc 159, 2) := by decide +kernel
theorem dX5_setPilot_13 : decode cX5_setPilot 13 = .ok (.invokespecial 49, 3) := by decide +kernel
theorem dX5_setPilot_16 : decode cX5_setPilot 16 = .ok (.athrow, 1) := by decide +kernel
theorem dX5_setPilot_17 : decode cX5_setPilot 17 = .ok (.aload_n 0, 1) := by decide +kernel
theorem dX5_setPilot_18 : decode cX5_setPilot 18 = .ok (.invokevirtual 52, 3) := by decide +kernel
theorem dX5_setPilot_21 : decode cX5_setPilot 21 = .ok (.aload_n 0, 1) := by decide +kernel
theorem dX5_setPilot_22 : decode cX5_setPilot 22 = .ok (.getfield 12, 3) := by decide +kernel
theorem dX5_setPilot_25 : decode cX5_setPilot 25 = .ok (.getfield 55, 3) := by decide +kernel
theorem dX5_setPilot_28 : decode cX5_setPilot 28 = .ok (.iload_n 1, 1) := by decide +kernel
theorem dX5_setPilot_29 : decode cX5_setPilot 29 = .ok (.iload_n 2, 1) := by decide +kernel
theorem dX5_setPilot_30 : decode cX5_setPilot 30 = .ok (.invokevirtual 161, 3) := by decide +kernel
theorem dX5_setPilot_33 : decode cX5_setPilot 33 = .ok (.aload_n 0, 1) := by decide +kernel
theorem dX5_setPilot_34 : decode cX5_setPilot 34 = .ok (.getfield 12, 3) := by decide +kernel
theorem dX5_setPilot_37 : decode cX5_setPilot 37 = .ok (.getfield 55, 3) := by decide +kernel
theorem dX5_setPilot_40 : decode cX5_setPilot 40 = .ok (.getfield 165, 3) := by decide +kernel
theorem dX5_setPilot_43 : decode cX5_setPilot 43 = .ok (.invokestatic 168, 3) := by decide +kernel
theorem dX5_setPilot_46 : decode cX5_setPilot 46 = .ok (.ireturn, 1) := by decide +kernel
theorem dX5_stroke_0 : decode cX5_stroke 0 = .ok (.aload_n 0, 1) := by decide +kernel
theorem dX5_stroke_1 : decode cX5_stroke 1 = .ok (.invokevirtual 52, 3) := by decide +kernel
theorem dX5_stroke_4 : decode cX5_stroke 4 = .ok (.aload_n 0, 1) := by decide +kernel
theorem dX5_stroke_5 : decode cX5_stroke 5 = .ok (.getfield 12, 3) := by decide +kernel
theorem dX5_stroke_8 : decode cX5_stroke 8 = .ok (.getfield 130, 3) := by decide +kernel
theorem dX5_stroke_11 : decode cX5_stroke 11 = .ok (.aload_n 0, 1) := by decide +kernel
theorem dX5_stroke_12 : decode cX5_stroke 12 = .ok (.getfield 12, 3) := by decide +kernel
theorem dX5_stroke_15 : decode cX5_stroke 15 = .ok (.getfield 55, 3) := by decide +kernel
theorem dX5_stroke_18 : decode cX5_stroke 18 = .ok (.invokevirtual 173, 3) := by decide +kernel
theorem dX5_stroke_21 : decode cX5_stroke 21 = .ok (.ireturn, 1) := by decide +kernel
theorem dX5_emptyPress_0 : decode cX5_emptyPress 0 = .ok (.aload_n 0, 1) := by decide +kernel
theorem dX5_emptyPress_1 : decode cX5_emptyPress 1 = .ok (.invokevirtual 52, 3) := by decide +kernel
theorem dX5_emptyPress_4 : decode cX5_emptyPress 4 = .ok (.aload_n 0, 1) := by decide +kernel
theorem dX5_emptyPress_5 : decode cX5_emptyPress 5 = .ok (.getfield 12, 3) := by decide +kernel
theorem dX5_emptyPress_8 : decode cX5_emptyPress 8 = .ok (.getfield 130, 3) := by decide +kernel
theorem dX5_emptyPress_11 : decode cX5_emptyPress 11 = .ok (.invokevirtual 176, 3) := by decide +kernel
theorem dX5_emptyPress_14 : decode cX5_emptyPress 14 = .ok (.istore_n 1, 1) := by decide +kernel
theorem dX5_emptyPress_15 : decode cX5_emptyPress 15 = .ok (.aload_n 0, 1) := by decide +kernel
theorem dX5_emptyPress_16 : decode cX5_emptyPress 16 = .ok (.getfield 12, 3) := by decide +kernel
theorem dX5_emptyPress_19 : decode cX5_emptyPress 19 = .ok (.getfield 130, 3) := by decide +kernel
theorem dX5_emptyPress_22 : decode cX5_emptyPress 22 = .ok (.dup, 1) := by decide +kernel
theorem dX5_emptyPress_23 : decode cX5_emptyPress 23 = .ok (.getfield 180, 3) := by decide +kernel
theorem dX5_emptyPress_26 : decode cX5_emptyPress 26 = .ok (.iload_n 1, 1) := by decide +kernel
theorem dX5_emptyPress_27 : decode cX5_emptyPress 27 = .ok (.iadd, 1) := by decide +kernel
theorem dX5_emptyPress_28 : decode cX5_emptyPress 28 = .ok (.putfield 180, 3) := by decide +kernel
theorem dX5_emptyPress_31 : decode cX5_emptyPress 31 = .ok (.iload_n 1, 1) := by decide +kernel
theorem dX5_emptyPress_32 : decode cX5_emptyPress 32 = .ok (.ireturn, 1) := by decide +kernel
theorem dX5_cellSet_0 : decode cX5_cellSet 0 = .ok (.iload_n 1, 1) := by decide +kernel
theorem dX5_cellSet_1 : decode cX5_cellSet 1 = .ok (.tableswitch 106 0 5 #[39, 50, 61, 72, 84, 95], 39) := by decide +kernel
theorem dX5_cellSet_40 : decode cX5_cellSet 40 = .ok (.aload_n 0, 1) := by decide +kernel
theorem dX5_cellSet_41 : decode cX5_cellSet 41 = .ok (.getfield 12, 3) := by decide +kernel
theorem dX5_cellSet_44 : decode cX5_cellSet 44 = .ok (.getfield 55, 3) := by decide +kernel
theorem dX5_cellSet_47 : decode cX5_cellSet 47 = .ok (.invokevirtual 183, 3) := by decide +kernel
theorem dX5_cellSet_50 : decode cX5_cellSet 50 = .ok (.lreturn, 1) := by decide +kernel
theorem dX5_cellSet_51 : decode cX5_cellSet 51 = .ok (.aload_n 0, 1) := by decide +kernel
theorem dX5_cellSet_52 : decode cX5_cellSet 52 = .ok (.getfield 12, 3) := by decide +kernel
theorem dX5_cellSet_55 : decode cX5_cellSet 55 = .ok (.getfield 55, 3) := by decide +kernel
theorem dX5_cellSet_58 : decode cX5_cellSet 58 = .ok (.invokevirtual 187, 3) := by decide +kernel
theorem dX5_cellSet_61 : decode cX5_cellSet 61 = .ok (.lreturn, 1) := by decide +kernel
theorem dX5_cellSet_62 : decode cX5_cellSet 62 = .ok (.aload_n 0, 1) := by decide +kernel
theorem dX5_cellSet_63 : decode cX5_cellSet 63 = .ok (.getfield 12, 3) := by decide +kernel
theorem dX5_cellSet_66 : decode cX5_cellSet 66 = .ok (.getfield 55, 3) := by decide +kernel
theorem dX5_cellSet_69 : decode cX5_cellSet 69 = .ok (.invokevirtual 190, 3) := by decide +kernel
theorem dX5_cellSet_72 : decode cX5_cellSet 72 = .ok (.lreturn, 1) := by decide +kernel
theorem dX5_cellSet_73 : decode cX5_cellSet 73 = .ok (.aload_n 0, 1) := by decide +kernel
theorem dX5_cellSet_74 : decode cX5_cellSet 74 = .ok (.getfield 12, 3) := by decide +kernel
theorem dX5_cellSet_77 : decode cX5_cellSet 77 = .ok (.getfield 55, 3) := by decide +kernel
theorem dX5_cellSet_80 : decode cX5_cellSet 80 = .ok (.iconst 0, 1) := by decide +kernel
theorem dX5_cellSet_81 : decode cX5_cellSet 81 = .ok (.invokevirtual 193, 3) := by decide +kernel
theorem dX5_cellSet_84 : decode cX5_cellSet 84 = .ok (.lreturn, 1) := by decide +kernel
theorem dX5_cellSet_85 : decode cX5_cellSet 85 = .ok (.aload_n 0, 1) := by decide +kernel
theorem dX5_cellSet_86 : decode cX5_cellSet 86 = .ok (.getfield 12, 3) := by decide +kernel
theorem dX5_cellSet_89 : decode cX5_cellSet 89 = .ok (.getfield 55, 3) := by decide +kernel
theorem dX5_cellSet_92 : decode cX5_cellSet 92 = .ok (.invokevirtual 197, 3) := by decide +kernel
theorem dX5_cellSet_95 : decode cX5_cellSet 95 = .ok (.lreturn, 1) := by decide +kernel
theorem dX5_cellSet_96 : decode cX5_cellSet 96 = .ok (.aload_n 0, 1) := by decide +kernel
theorem dX5_cellSet_97 : decode cX5_cellSet 97 = .ok (.getfield 12, 3) := by decide +kernel
theorem dX5_cellSet_100 : decode cX5_cellSet 100 = .ok (.getfield 55, 3) := by decide +kernel
theorem dX5_cellSet_103 : decode cX5_cellSet 103 = .ok (.invokevirtual 200, 3) := by decide +kernel
theorem dX5_cellSet_106 : decode cX5_cellSet 106 = .ok (.lreturn, 1) := by decide +kernel
theorem dX5_cellSet_107 : decode cX5_cellSet 107 = .ok (.new 45, 3) := by decide +kernel
theorem dX5_cellSet_110 : decode cX5_cellSet 110 = .ok (.dup, 1) := by decide +kernel
theorem dX5_cellSet_111 : decode cX5_cellSet 111 = .ok (.ldc 203, 2) := by decide +kernel
theorem dX5_cellSet_113 : decode cX5_cellSet 113 = .ok (.invokespecial 49, 3) := by decide +kernel
theorem dX5_cellSet_116 : decode cX5_cellSet 116 = .ok (.athrow, 1) := by decide +kernel
theorem dX5_operation_0 : decode cX5_operation 0 = .ok (.aload_n 0, 1) := by decide +kernel
theorem dX5_operation_1 : decode cX5_operation 1 = .ok (.getfield 12, 3) := by decide +kernel
theorem dX5_operation_4 : decode cX5_operation 4 = .ok (.getfield 55, 3) := by decide +kernel
theorem dX5_operation_7 : decode cX5_operation 7 = .ok (.iload_n 1, 1) := by decide +kernel
theorem dX5_operation_8 : decode cX5_operation 8 = .ok (.invokevirtual 117, 3) := by decide +kernel
theorem dX5_operation_11 : decode cX5_operation 11 = .ok (.ifCond .ne 13, 3) := by decide +kernel
theorem dX5_operation_14 : decode cX5_operation 14 = .ok (.new 121, 3) := by decide +kernel
theorem dX5_operation_17 : decode cX5_operation 17 = .ok (.dup, 1) := by decide +kernel
theorem dX5_operation_18 : decode cX5_operation 18 = .ok (.ldc 123, 2) := by decide +kernel
theorem dX5_operation_20 : decode cX5_operation 20 = .ok (.invokespecial 125, 3) := by decide +kernel
theorem dX5_operation_23 : decode cX5_operation 23 = .ok (.athrow, 1) := by decide +kernel
theorem dX5_operation_24 : decode cX5_operation 24 = .ok (.iload_n 2, 1) := by decide +kernel
theorem dX5_operation_25 : decode cX5_operation 25 = .ok (.ifCond .lt 9, 3) := by decide +kernel
theorem dX5_operation_28 : decode cX5_operation 28 = .ok (.iload_n 2, 1) := by decide +kernel
theorem dX5_operation_29 : decode cX5_operation 29 = .ok (.bipush 7, 2) := by decide +kernel
theorem dX5_operation_31 : decode cX5_operation 31 = .ok (.if_icmp .le 13, 3) := by decide +kernel
theorem dX5_operation_34 : decode cX5_operation 34 = .ok (.new 45, 3) := by decide +kernel
theorem dX5_operation_37 : decode cX5_operation 37 = .ok (.dup, 1) := by decide +kernel
theorem dX5_operation_38 : decode cX5_operation 38 = .ok (.ldc 205, 2) := by decide +kernel
theorem dX5_operation_40 : decode cX5_operation 40 = .ok (.invokespecial 49, 3) := by decide +kernel
theorem dX5_operation_43 : decode cX5_operation 43 = .ok (.athrow, 1) := by decide +kernel
theorem dX5_operation_44 : decode cX5_operation 44 = .ok (.iload_n 2, 1) := by decide +kernel
theorem dX5_operation_45 : decode cX5_operation 45 = .ok (.bipush 7, 2) := by decide +kernel
theorem dX5_operation_47 : decode cX5_operation 47 = .ok (.if_icmp .ne 17, 3) := by decide +kernel
theorem dX5_operation_50 : decode cX5_operation 50 = .ok (.aload_n 0, 1) := by decide +kernel
theorem dX5_operation_51 : decode cX5_operation 51 = .ok (.getfield 12, 3) := by decide +kernel
theorem dX5_operation_54 : decode cX5_operation 54 = .ok (.getfield 55, 3) := by decide +kernel
theorem dX5_operation_57 : decode cX5_operation 57 = .ok (.iload_n 1, 1) := by decide +kernel
theorem dX5_operation_58 : decode cX5_operation 58 = .ok (.invokevirtual 207, 3) := by decide +kernel
theorem dX5_operation_61 : decode cX5_operation 61 = .ok (.goto 15, 3) := by decide +kernel
theorem dX5_operation_64 : decode cX5_operation 64 = .ok (.aload_n 0, 1) := by decide +kernel
theorem dX5_operation_65 : decode cX5_operation 65 = .ok (.getfield 12, 3) := by decide +kernel
theorem dX5_operation_68 : decode cX5_operation 68 = .ok (.getfield 55, 3) := by decide +kernel
theorem dX5_operation_71 : decode cX5_operation 71 = .ok (.iload_n 1, 1) := by decide +kernel
theorem dX5_operation_72 : decode cX5_operation 72 = .ok (.iload_n 2, 1) := by decide +kernel
theorem dX5_operation_73 : decode cX5_operation 73 = .ok (.invokevirtual 141, 3) := by decide +kernel
theorem dX5_operation_76 : decode cX5_operation 76 = .ok (.ireturn, 1) := by decide +kernel
theorem dX5_station_0 : decode cX5_station 0 = .ok (.iload_n 1, 1) := by decide +kernel
theorem dX5_station_1 : decode cX5_station 1 = .ok (.invokestatic 136, 3) := by decide +kernel
theorem dX5_station_4 : decode cX5_station 4 = .ok (.ifCond .ne 13, 3) := by decide +kernel
theorem dX5_station_7 : decode cX5_station 7 = .ok (.new 45, 3) := by decide +kernel
theorem dX5_station_10 : decode cX5_station 10 = .ok (.dup, 1) := by decide +kernel
theorem dX5_station_11 : decode cX5_station 11 = .ok (.ldc 159, 2) := by decide +kernel
theorem dX5_station_13 : decode cX5_station 13 = .ok (.invokespecial 49, 3) := by decide +kernel
theorem dX5_station_16 : decode cX5_station 16 = .ok (.athrow, 1) := by decide +kernel
theorem dX5_station_17 : decode cX5_station 17 = .ok (.iload_n 2, 1) := by decide +kernel
theorem dX5_station_18 : decode cX5_station 18 = .ok (.tableswitch 94 0 3 #[30, 42, 54, 74], 30) := by decide +kernel
theorem dX5_station_48 : decode cX5_station 48 = .ok (.aload_n 0, 1) := by decide +kernel
theorem dX5_station_49 : decode cX5_station 49 = .ok (.getfield 12, 3) := by decide +kernel
theorem dX5_station_52 : decode cX5_station 52 = .ok (.getfield 55, 3) := by decide +kernel
theorem dX5_station_55 : decode cX5_station 55 = .ok (.iload_n 1, 1) := by decide +kernel
theorem dX5_station_56 : decode cX5_station 56 = .ok (.invokevirtual 210, 3) := by decide +kernel
theorem dX5_station_59 : decode cX5_station 59 = .ok (.ireturn, 1) := by decide +kernel
theorem dX5_station_60 : decode cX5_station 60 = .ok (.aload_n 0, 1) := by decide +kernel
theorem dX5_station_61 : decode cX5_station 61 = .ok (.getfield 12, 3) := by decide +kernel
theorem dX5_station_64 : decode cX5_station 64 = .ok (.getfield 55, 3) := by decide +kernel
theorem dX5_station_67 : decode cX5_station 67 = .ok (.iload_n 1, 1) := by decide +kernel
theorem dX5_station_68 : decode cX5_station 68 = .ok (.invokevirtual 213, 3) := by decide +kernel
theorem dX5_station_71 : decode cX5_station 71 = .ok (.ireturn, 1) := by decide +kernel
theorem dX5_station_72 : decode cX5_station 72 = .ok (.aload_n 0, 1) := by decide +kernel
theorem dX5_station_73 : decode cX5_station 73 = .ok (.getfield 12, 3) := by decide +kernel
theorem dX5_station_76 : decode cX5_station 76 = .ok (.getfield 55, 3) := by decide +kernel
theorem dX5_station_79 : decode cX5_station 79 = .ok (.iload_n 1, 1) := by decide +kernel
theorem dX5_station_80 : decode cX5_station 80 = .ok (.invokevirtual 216, 3) := by decide +kernel
theorem dX5_station_83 : decode cX5_station 83 = .ok (.ifCond .eq 7, 3) := by decide +kernel
theorem dX5_station_86 : decode cX5_station 86 = .ok (.iconst 1, 1) := by decide +kernel
theorem dX5_station_87 : decode cX5_station 87 = .ok (.goto 4, 3) := by decide +kernel
theorem dX5_station_90 : decode cX5_station 90 = .ok (.iconst 0, 1) := by decide +kernel
theorem dX5_station_91 : decode cX5_station 91 = .ok (.ireturn, 1) := by decide +kernel
theorem dX5_station_92 : decode cX5_station 92 = .ok (.aload_n 0, 1) := by decide +kernel
theorem dX5_station_93 : decode cX5_station 93 = .ok (.getfield 12, 3) := by decide +kernel
theorem dX5_station_96 : decode cX5_station 96 = .ok (.getfield 130, 3) := by decide +kernel
theorem dX5_station_99 : decode cX5_station 99 = .ok (.iload_n 1, 1) := by decide +kernel
theorem dX5_station_100 : decode cX5_station 100 = .ok (.invokevirtual 219, 3) := by decide +kernel
theorem dX5_station_103 : decode cX5_station 103 = .ok (.ifCond .eq 7, 3) := by decide +kernel
theorem dX5_station_106 : decode cX5_station 106 = .ok (.iconst 1, 1) := by decide +kernel
theorem dX5_station_107 : decode cX5_station 107 = .ok (.goto 4, 3) := by decide +kernel
theorem dX5_station_110 : decode cX5_station 110 = .ok (.iconst 0, 1) := by decide +kernel
theorem dX5_station_111 : decode cX5_station 111 = .ok (.ireturn, 1) := by decide +kernel
theorem dX5_station_112 : decode cX5_station 112 = .ok (.new 45, 3) := by decide +kernel
theorem dX5_station_115 : decode cX5_station 115 = .ok (.dup, 1) := by decide +kernel
theorem dX5_station_116 : decode cX5_station 116 = .ok (.ldc 222, 2) := by decide +kernel
theorem dX5_station_118 : decode cX5_station 118 = .ok (.invokespecial 49, 3) := by decide +kernel
theorem dX5_station_121 : decode cX5_station 121 = .ok (.athrow, 1) := by decide +kernel
theorem dX5_pitch_0 : decode cX5_pitch 0 = .ok (.iload_n 1, 1) := by decide +kernel
theorem dX5_pitch_1 : decode cX5_pitch 1 = .ok (.invokestatic 136, 3) := by decide +kernel
theorem dX5_pitch_4 : decode cX5_pitch 4 = .ok (.ifCond .eq 12, 3) := by decide +kernel
theorem dX5_pitch_7 : decode cX5_pitch 7 = .ok (.iload_n 2, 1) := by decide +kernel
theorem dX5_pitch_8 : decode cX5_pitch 8 = .ok (.ifCond .lt 8, 3) := by decide +kernel
theorem dX5_pitch_11 : decode cX5_pitch 11 = .ok (.iload_n 2, 1) := by decide +kernel
theorem dX5_pitch_12 : decode cX5_pitch 12 = .ok (.iconst 3, 1) := by decide +kernel
theorem dX5_pitch_13 : decode cX5_pitch 13 = .ok (.if_icmp .le 13, 3) := by decide +kernel
theorem dX5_pitch_16 : decode cX5_pitch 16 = .ok (.new 45, 3) := by decide +kernel
theorem dX5_pitch_19 : decode cX5_pitch 19 = .ok (.dup, 1) := by decide +kernel
theorem dX5_pitch_20 : decode cX5_pitch 20 = .ok (.ldc 224, 2) := by decide +kernel
theorem dX5_pitch_22 : decode cX5_pitch 22 = .ok (.invokespecial 49, 3) := by decide +kernel
theorem dX5_pitch_25 : decode cX5_pitch 25 = .ok (.athrow, 1) := by decide +kernel
theorem dX5_pitch_26 : decode cX5_pitch 26 = .ok (.aload_n 0, 1) := by decide +kernel
theorem dX5_pitch_27 : decode cX5_pitch 27 = .ok (.getfield 12, 3) := by decide +kernel
theorem dX5_pitch_30 : decode cX5_pitch 30 = .ok (.getfield 130, 3) := by decide +kernel
theorem dX5_pitch_33 : decode cX5_pitch 33 = .ok (.iload_n 1, 1) := by decide +kernel
theorem dX5_pitch_34 : decode cX5_pitch 34 = .ok (.invokevirtual 219, 3) := by decide +kernel
theorem dX5_pitch_37 : decode cX5_pitch 37 = .ok (.ifCond .eq 18, 3) := by decide +kernel
theorem dX5_pitch_40 : decode cX5_pitch 40 = .ok (.aload_n 0, 1) := by decide +kernel
theorem dX5_pitch_41 : decode cX5_pitch 41 = .ok (.getfield 12, 3) := by decide +kernel
theorem dX5_pitch_44 : decode cX5_pitch 44 = .ok (.getfield 130, 3) := by decide +kernel
theorem dX5_pitch_47 : decode cX5_pitch 47 = .ok (.iload_n 1, 1) := by decide +kernel
theorem dX5_pitch_48 : decode cX5_pitch 48 = .ok (.iload_n 2, 1) := by decide +kernel
theorem dX5_pitch_49 : decode cX5_pitch 49 = .ok (.invokevirtual 226, 3) := by decide +kernel
theorem dX5_pitch_52 : decode cX5_pitch 52 = .ok (.goto 4, 3) := by decide +kernel
theorem dX5_pitch_55 : decode cX5_pitch 55 = .ok (.iconst (-1), 1) := by decide +kernel
theorem dX5_pitch_56 : decode cX5_pitch 56 = .ok (.ireturn, 1) := by decide +kernel
theorem dX5_left_0 : decode cX5_left 0 = .ok (.iload_n 1, 1) := by decide +kernel
theorem dX5_left_1 : decode cX5_left 1 = .ok (.invokestatic 136, 3) := by decide +kernel
theorem dX5_left_4 : decode cX5_left 4 = .ok (.ifCond .ne 13, 3) := by decide +kernel
theorem dX5_left_7 : decode cX5_left 7 = .ok (.new 45, 3) := by decide +kernel
theorem dX5_left_10 : decode cX5_left 10 = .ok (.dup, 1) := by decide +kernel
theorem dX5_left_11 : decode cX5_left 11 = .ok (.ldc 159, 2) := by decide +kernel
theorem dX5_left_13 : decode cX5_left 13 = .ok (.invokespecial 49, 3) := by decide +kernel
theorem dX5_left_16 : decode cX5_left 16 = .ok (.athrow, 1) := by decide +kernel
theorem dX5_left_17 : decode cX5_left 17 = .ok (.aload_n 0, 1) := by decide +kernel
theorem dX5_left_18 : decode cX5_left 18 = .ok (.getfield 12, 3) := by decide +kernel
theorem dX5_left_21 : decode cX5_left 21 = .ok (.getfield 130, 3) := by decide +kernel
theorem dX5_left_24 : decode cX5_left 24 = .ok (.iload_n 1, 1) := by decide +kernel
theorem dX5_left_25 : decode cX5_left 25 = .ok (.invokevirtual 219, 3) := by decide +kernel
theorem dX5_left_28 : decode cX5_left 28 = .ok (.ifCond .eq 17, 3) := by decide +kernel
theorem dX5_left_31 : decode cX5_left 31 = .ok (.aload_n 0, 1) := by decide +kernel
theorem dX5_left_32 : decode cX5_left 32 = .ok (.getfield 12, 3) := by decide +kernel
theorem dX5_left_35 : decode cX5_left 35 = .ok (.getfield 130, 3) := by decide +kernel
theorem dX5_left_38 : decode cX5_left 38 = .ok (.iload_n 1, 1) := by decide +kernel
theorem dX5_left_39 : decode cX5_left 39 = .ok (.invokevirtual 229, 3) := by decide +kernel
theorem dX5_left_42 : decode cX5_left 42 = .ok (.goto 4, 3) := by decide +kernel
theorem dX5_left_45 : decode cX5_left 45 = .ok (.lconst 0, 1) := by decide +kernel
theorem dX5_left_46 : decode cX5_left 46 = .ok (.lreturn, 1) := by decide +kernel
theorem dX5_whole_0 : decode cX5_whole 0 = .ok (.iload_n 1, 1) := by decide +kernel
theorem dX5_whole_1 : decode cX5_whole 1 = .ok (.ifCond .lt 9, 3) := by decide +kernel
theorem dX5_whole_4 : decode cX5_whole 4 = .ok (.iload_n 1, 1) := by decide +kernel
theorem dX5_whole_5 : decode cX5_whole 5 = .ok (.bipush 16, 2) := by decide +kernel
theorem dX5_whole_7 : decode cX5_whole 7 = .ok (.if_icmp .le 13, 3) := by decide +kernel
theorem dX5_whole_10 : decode cX5_whole 10 = .ok (.new 45, 3) := by decide +kernel
theorem dX5_whole_13 : decode cX5_whole 13 = .ok (.dup, 1) := by decide +kernel
theorem dX5_whole_14 : decode cX5_whole 14 = .ok (.ldc 232, 2) := by decide +kernel
theorem dX5_whole_16 : decode cX5_whole 16 = .ok (.invokespecial 49, 3) := by decide +kernel
theorem dX5_whole_19 : decode cX5_whole 19 = .ok (.athrow, 1) := by decide +kernel
theorem dX5_whole_20 : decode cX5_whole 20 = .ok (.iload_n 1, 1) := by decide +kernel
theorem dX5_whole_21 : decode cX5_whole 21 = .ok (.bipush 10, 2) := by decide +kernel
theorem dX5_whole_23 : decode cX5_whole 23 = .ok (.if_icmp .ge 15, 3) := by decide +kernel
theorem dX5_whole_26 : decode cX5_whole 26 = .ok (.aload_n 0, 1) := by decide +kernel
theorem dX5_whole_27 : decode cX5_whole 27 = .ok (.getfield 12, 3) := by decide +kernel
theorem dX5_whole_30 : decode cX5_whole 30 = .ok (.getfield 55, 3) := by decide +kernel
theorem dX5_whole_33 : decode cX5_whole 33 = .ok (.iload_n 1, 1) := by decide +kernel
theorem dX5_whole_34 : decode cX5_whole 34 = .ok (.invokevirtual 234, 3) := by decide +kernel
theorem dX5_whole_37 : decode cX5_whole 37 = .ok (.ireturn, 1) := by decide +kernel
theorem dX5_whole_38 : decode cX5_whole 38 = .ok (.iload_n 1, 1) := by decide +kernel
theorem dX5_whole_39 : decode cX5_whole 39 = .ok (.bipush 15, 2) := by decide +kernel
theorem dX5_whole_41 : decode cX5_whole 41 = .ok (.if_icmp .ne 17, 3) := by decide +kernel
theorem dX5_whole_44 : decode cX5_whole 44 = .ok (.aload_n 0, 1) := by decide +kernel
theorem dX5_whole_45 : decode cX5_whole 45 = .ok (.getfield 12, 3) := by decide +kernel
theorem dX5_whole_48 : decode cX5_whole 48 = .ok (.getfield 55, 3) := by decide +kernel
theorem dX5_whole_51 : decode cX5_whole 51 = .ok (.getfield 165, 3) := by decide +kernel
theorem dX5_whole_54 : decode cX5_whole 54 = .ok (.invokestatic 168, 3) := by decide +kernel
theorem dX5_whole_57 : decode cX5_whole 57 = .ok (.ireturn, 1) := by decide +kernel
theorem dX5_whole_58 : decode cX5_whole 58 = .ok (.iload_n 1, 1) := by decide +kernel
theorem dX5_whole_59 : decode cX5_whole 59 = .ok (.bipush 16, 2) := by decide +kernel
theorem dX5_whole_61 : decode cX5_whole 61 = .ok (.if_icmp .ne 13, 3) := by decide +kernel
theorem dX5_whole_64 : decode cX5_whole 64 = .ok (.aload_n 0, 1) := by decide +kernel
theorem dX5_whole_65 : decode cX5_whole 65 = .ok (.getfield 37, 3) := by decide +kernel
theorem dX5_whole_68 : decode cX5_whole 68 = .ok (.getfield 237, 3) := by decide +kernel
theorem dX5_whole_71 : decode cX5_whole 71 = .ok (.goto 14, 3) := by decide +kernel
theorem dX5_whole_74 : decode cX5_whole 74 = .ok (.aload_n 0, 1) := by decide +kernel
theorem dX5_whole_75 : decode cX5_whole 75 = .ok (.getfield 12, 3) := by decide +kernel
theorem dX5_whole_78 : decode cX5_whole 78 = .ok (.getfield 130, 3) := by decide +kernel
theorem dX5_whole_81 : decode cX5_whole 81 = .ok (.iload_n 1, 1) := by decide +kernel
theorem dX5_whole_82 : decode cX5_whole 82 = .ok (.invokevirtual 240, 3) := by decide +kernel
theorem dX5_whole_85 : decode cX5_whole 85 = .ok (.ireturn, 1) := by decide +kernel
theorem dX5_dieFault_0 : decode cX5_dieFault 0 = .ok (.aload_n 0, 1) := by decide +kernel
theorem dX5_dieFault_1 : decode cX5_dieFault 1 = .ok (.getfield 12, 3) := by decide +kernel
theorem dX5_dieFault_4 : decode cX5_dieFault 4 = .ok (.getfield 55, 3) := by decide +kernel
theorem dX5_dieFault_7 : decode cX5_dieFault 7 = .ok (.invokevirtual 241, 3) := by decide +kernel
theorem dX5_dieFault_10 : decode cX5_dieFault 10 = .ok (.ireturn, 1) := by decide +kernel
theorem dX5_planFault_0 : decode cX5_planFault 0 = .ok (.aload_n 0, 1) := by decide +kernel
theorem dX5_planFault_1 : decode cX5_planFault 1 = .ok (.getfield 12, 3) := by decide +kernel
theorem dX5_planFault_4 : decode cX5_planFault 4 = .ok (.getfield 55, 3) := by decide +kernel
theorem dX5_planFault_7 : decode cX5_planFault 7 = .ok (.invokevirtual 244, 3) := by decide +kernel
theorem dX5_planFault_10 : decode cX5_planFault 10 = .ok (.ireturn, 1) := by decide +kernel
theorem dX5_planned_0 : decode cX5_planned 0 = .ok (.iload_n 1, 1) := by decide +kernel
theorem dX5_planned_1 : decode cX5_planned 1 = .ok (.iconst (-1), 1) := by decide +kernel
theorem dX5_planned_2 : decode cX5_planned 2 = .ok (.if_icmp .eq 27, 3) := by decide +kernel
theorem dX5_planned_5 : decode cX5_planned 5 = .ok (.aload_n 0, 1) := by decide +kernel
theorem dX5_planned_6 : decode cX5_planned 6 = .ok (.getfield 12, 3) := by decide +kernel
theorem dX5_planned_9 : decode cX5_planned 9 = .ok (.getfield 55, 3) := by decide +kernel
theorem dX5_planned_12 : decode cX5_planned 12 = .ok (.iload_n 1, 1) := by decide +kernel
theorem dX5_planned_13 : decode cX5_planned 13 = .ok (.invokevirtual 117, 3) := by decide +kernel
theorem dX5_planned_16 : decode cX5_planned 16 = .ok (.ifCond .ne 13, 3) := by decide +kernel
theorem dX5_planned_19 : decode cX5_planned 19 = .ok (.new 121, 3) := by decide +kernel
theorem dX5_planned_22 : decode cX5_planned 22 = .ok (.dup, 1) := by decide +kernel
theorem dX5_planned_23 : decode cX5_planned 23 = .ok (.ldc 123, 2) := by decide +kernel
theorem dX5_planned_25 : decode cX5_planned 25 = .ok (.invokespecial 125, 3) := by decide +kernel
theorem dX5_planned_28 : decode cX5_planned 28 = .ok (.athrow, 1) := by decide +kernel
theorem dX5_planned_29 : decode cX5_planned 29 = .ok (.aload_n 0, 1) := by decide +kernel
theorem dX5_planned_30 : decode cX5_planned 30 = .ok (.getfield 30, 3) := by decide +kernel
theorem dX5_planned_33 : decode cX5_planned 33 = .ok (.aload_n 0, 1) := by decide +kernel
theorem dX5_planned_34 : decode cX5_planned 34 = .ok (.getfield 12, 3) := by decide +kernel
theorem dX5_planned_37 : decode cX5_planned 37 = .ok (.getfield 55, 3) := by decide +kernel
theorem dX5_planned_40 : decode cX5_planned 40 = .ok (.invokevirtual 149, 3) := by decide +kernel
theorem dX5_planned_43 : decode cX5_planned 43 = .ok (.istore_n 2, 1) := by decide +kernel
theorem dX5_planned_44 : decode cX5_planned 44 = .ok (.iload_n 2, 1) := by decide +kernel
theorem dX5_planned_45 : decode cX5_planned 45 = .ok (.iconst (-1), 1) := by decide +kernel
theorem dX5_planned_46 : decode cX5_planned 46 = .ok (.if_icmp .eq 8, 3) := by decide +kernel
theorem dX5_planned_49 : decode cX5_planned 49 = .ok (.iload_n 1, 1) := by decide +kernel
theorem dX5_planned_50 : decode cX5_planned 50 = .ok (.iconst (-1), 1) := by decide +kernel
theorem dX5_planned_51 : decode cX5_planned 51 = .ok (.if_icmp .ne 5, 3) := by decide +kernel
theorem dX5_planned_54 : decode cX5_planned 54 = .ok (.iload_n 2, 1) := by decide +kernel
theorem dX5_planned_55 : decode cX5_planned 55 = .ok (.ireturn, 1) := by decide +kernel
theorem dX5_planned_56 : decode cX5_planned 56 = .ok (.aload_n 0, 1) := by decide +kernel
theorem dX5_planned_57 : decode cX5_planned 57 = .ok (.getfield 30, 3) := by decide +kernel
theorem dX5_planned_60 : decode cX5_planned 60 = .ok (.iload_n 1, 1) := by decide +kernel
theorem dX5_planned_61 : decode cX5_planned 61 = .ok (.invokevirtual 247, 3) := by decide +kernel
theorem dX5_planned_64 : decode cX5_planned 64 = .ok (.ireturn, 1) := by decide +kernel
theorem dX5_leastLimit_0 : decode cX5_leastLimit 0 = .ok (.aload_n 0, 1) := by decide +kernel
theorem dX5_leastLimit_1 : decode cX5_leastLimit 1 = .ok (.getfield 30, 3) := by decide +kernel
theorem dX5_leastLimit_4 : decode cX5_leastLimit 4 = .ok (.aload_n 0, 1) := by decide +kernel
theorem dX5_leastLimit_5 : decode cX5_leastLimit 5 = .ok (.getfield 12, 3) := by decide +kernel
theorem dX5_leastLimit_8 : decode cX5_leastLimit 8 = .ok (.getfield 55, 3) := by decide +kernel
theorem dX5_leastLimit_11 : decode cX5_leastLimit 11 = .ok (.invokevirtual 250, 3) := by decide +kernel
theorem dX5_leastLimit_14 : decode cX5_leastLimit 14 = .ok (.ireturn, 1) := by decide +kernel
theorem dX5_fitsTwice_0 : decode cX5_fitsTwice 0 = .ok (.aload_n 0, 1) := by decide +kernel
theorem dX5_fitsTwice_1 : decode cX5_fitsTwice 1 = .ok (.getfield 12, 3) := by decide +kernel
theorem dX5_fitsTwice_4 : decode cX5_fitsTwice 4 = .ok (.getfield 55, 3) := by decide +kernel
theorem dX5_fitsTwice_7 : decode cX5_fitsTwice 7 = .ok (.invokevirtual 253, 3) := by decide +kernel
theorem dX5_fitsTwice_10 : decode cX5_fitsTwice 10 = .ok (.ifCond .eq 7, 3) := by decide +kernel
theorem dX5_fitsTwice_13 : decode cX5_fitsTwice 13 = .ok (.iconst 1, 1) := by decide +kernel
theorem dX5_fitsTwice_14 : decode cX5_fitsTwice 14 = .ok (.goto 4, 3) := by decide +kernel
theorem dX5_fitsTwice_17 : decode cX5_fitsTwice 17 = .ok (.iconst 0, 1) := by decide +kernel
theorem dX5_fitsTwice_18 : decode cX5_fitsTwice 18 = .ok (.ireturn, 1) := by decide +kernel
theorem dX5_scrap_0 : decode cX5_scrap 0 = .ok (.aload_n 0, 1) := by decide +kernel
theorem dX5_scrap_1 : decode cX5_scrap 1 = .ok (.getfield 12, 3) := by decide +kernel
theorem dX5_scrap_4 : decode cX5_scrap 4 = .ok (.getfield 55, 3) := by decide +kernel
theorem dX5_scrap_7 : decode cX5_scrap 7 = .ok (.getfield 256, 3) := by decide +kernel
theorem dX5_scrap_10 : decode cX5_scrap 10 = .ok (.aload_n 0, 1) := by decide +kernel
theorem dX5_scrap_11 : decode cX5_scrap 11 = .ok (.getfield 12, 3) := by decide +kernel
theorem dX5_scrap_14 : decode cX5_scrap 14 = .ok (.getfield 55, 3) := by decide +kernel
theorem dX5_scrap_17 : decode cX5_scrap 17 = .ok (.getfield 259, 3) := by decide +kernel
theorem dX5_scrap_20 : decode cX5_scrap 20 = .ok (.imul, 1) := by decide +kernel
theorem dX5_scrap_21 : decode cX5_scrap 21 = .ok (.istore_n 2, 1) := by decide +kernel
theorem dX5_scrap_22 : decode cX5_scrap 22 = .ok (.iload_n 2, 1) := by decide +kernel
theorem dX5_scrap_23 : decode cX5_scrap 23 = .ok (.iconst 1, 1) := by decide +kernel
theorem dX5_scrap_24 : decode cX5_scrap 24 = .ok (.if_icmp .ge 5, 3) := by decide +kernel
theorem dX5_scrap_27 : decode cX5_scrap 27 = .ok (.iconst 0, 1) := by decide +kernel
theorem dX5_scrap_28 : decode cX5_scrap 28 = .ok (.ireturn, 1) := by decide +kernel
theorem dX5_scrap_29 : decode cX5_scrap 29 = .ok (.aload_n 0, 1) := by decide +kernel
theorem dX5_scrap_30 : decode cX5_scrap 30 = .ok (.getfield 12, 3) := by decide +kernel
theorem dX5_scrap_33 : decode cX5_scrap 33 = .ok (.getfield 55, 3) := by decide +kernel
theorem dX5_scrap_36 : decode cX5_scrap 36 = .ok (.invokevirtual 183, 3) := by decide +kernel
theorem dX5_scrap_39 : decode cX5_scrap 39 = .ok (.invokestatic 262, 3) := by decide +kernel
theorem dX5_scrap_42 : decode cX5_scrap 42 = .ok (.istore_n 3, 1) := by decide +kernel
theorem dX5_scrap_43 : decode cX5_scrap 43 = .ok (.iload_n 1, 1) := by decide +kernel
theorem dX5_scrap_44 : decode cX5_scrap 44 = .ok (.ifCond .eq 20, 3) := by decide +kernel
theorem dX5_scrap_47 : decode cX5_scrap 47 = .ok (.aload_n 0, 1) := by decide +kernel
theorem dX5_scrap_48 : decode cX5_scrap 48 = .ok (.getfield 12, 3) := by decide +kernel
theorem dX5_scrap_51 : decode cX5_scrap 51 = .ok (.getfield 55, 3) := by decide +kernel
theorem dX5_scrap_54 : decode cX5_scrap 54 = .ok (.invokevirtual 253, 3) := by decide +kernel
theorem dX5_scrap_57 : decode cX5_scrap 57 = .ok (.ifCond .eq 7, 3) := by decide +kernel
theorem dX5_scrap_60 : decode cX5_scrap 60 = .ok (.iconst 2, 1) := by decide +kernel
theorem dX5_scrap_61 : decode cX5_scrap 61 = .ok (.iload_n 3, 1) := by decide +kernel
theorem dX5_scrap_62 : decode cX5_scrap 62 = .ok (.imul, 1) := by decide +kernel
theorem dX5_scrap_63 : decode cX5_scrap 63 = .ok (.istore_n 3, 1) := by decide +kernel
theorem dX5_scrap_64 : decode cX5_scrap 64 = .ok (.sipush 1000, 3) := by decide +kernel
theorem dX5_scrap_67 : decode cX5_scrap 67 = .ok (.iload_n 2, 1) := by decide +kernel
theorem dX5_scrap_68 : decode cX5_scrap 68 = .ok (.iload_n 3, 1) := by decide +kernel
theorem dX5_scrap_69 : decode cX5_scrap 69 = .ok (.isub, 1) := by decide +kernel
theorem dX5_scrap_70 : decode cX5_scrap 70 = .ok (.imul, 1) := by decide +kernel
theorem dX5_scrap_71 : decode cX5_scrap 71 = .ok (.iload_n 2, 1) := by decide +kernel
theorem dX5_scrap_72 : decode cX5_scrap 72 = .ok (.idiv, 1) := by decide +kernel
theorem dX5_scrap_73 : decode cX5_scrap 73 = .ok (.ireturn, 1) := by decide +kernel
theorem dX5_strokesToGood_0 : decode cX5_strokesToGood 0 = .ok (.aload_n 0, 1) := by decide +kernel
theorem dX5_strokesToGood_1 : decode cX5_strokesToGood 1 = .ok (.getfield 23, 3) := by decide +kernel
theorem dX5_strokesToGood_4 : decode cX5_strokesToGood 4 = .ok (.aload_n 0, 1) := by decide +kernel
theorem dX5_strokesToGood_5 : decode cX5_strokesToGood 5 = .ok (.getfield 12, 3) := by decide +kernel
theorem dX5_strokesToGood_8 : decode cX5_strokesToGood 8 = .ok (.getfield 130, 3) := by decide +kernel
theorem dX5_strokesToGood_11 : decode cX5_strokesToGood 11 = .ok (.invokevirtual 267, 3) := by decide +kernel
theorem dX5_strokesToGood_14 : decode cX5_strokesToGood 14 = .ok (.iconst 1, 1) := by decide +kernel
theorem dX5_strokesToGood_15 : decode cX5_strokesToGood 15 = .ok (.istore_n 1, 1) := by decide +kernel
theorem dX5_strokesToGood_16 : decode cX5_strokesToGood 16 = .ok (.iload_n 1, 1) := by decide +kernel
theorem dX5_strokesToGood_17 : decode cX5_strokesToGood 17 = .ok (.bipush 60, 2) := by decide +kernel
theorem dX5_strokesToGood_19 : decode cX5_strokesToGood 19 = .ok (.if_icmp .gt 45, 3) := by decide +kernel
theorem dX5_strokesToGood_22 : decode cX5_strokesToGood 22 = .ok (.aload_n 0, 1) := by decide +kernel
theorem dX5_strokesToGood_23 : decode cX5_strokesToGood 23 = .ok (.getfield 23, 3) := by decide +kernel
theorem dX5_strokesToGood_26 : decode cX5_strokesToGood 26 = .ok (.getfield 271, 3) := by decide +kernel
theorem dX5_strokesToGood_29 : decode cX5_strokesToGood 29 = .ok (.istore_n 2, 1) := by decide +kernel
theorem dX5_strokesToGood_30 : decode cX5_strokesToGood 30 = .ok (.aload_n 0, 1) := by decide +kernel
theorem dX5_strokesToGood_31 : decode cX5_strokesToGood 31 = .ok (.getfield 23, 3) := by decide +kernel
theorem dX5_strokesToGood_34 : decode cX5_strokesToGood 34 = .ok (.aload_n 0, 1) := by decide +kernel
theorem dX5_strokesToGood_35 : decode cX5_strokesToGood 35 = .ok (.getfield 12, 3) := by decide +kernel
theorem dX5_strokesToGood_38 : decode cX5_strokesToGood 38 = .ok (.getfield 55, 3) := by decide +kernel
theorem dX5_strokesToGood_41 : decode cX5_strokesToGood 41 = .ok (.invokevirtual 173, 3) := by decide +kernel
theorem dX5_strokesToGood_44 : decode cX5_strokesToGood 44 = .ok (.pop, 1) := by decide +kernel
theorem dX5_strokesToGood_45 : decode cX5_strokesToGood 45 = .ok (.aload_n 0, 1) := by decide +kernel
theorem dX5_strokesToGood_46 : decode cX5_strokesToGood 46 = .ok (.getfield 23, 3) := by decide +kernel
theorem dX5_strokesToGood_49 : decode cX5_strokesToGood 49 = .ok (.getfield 271, 3) := by decide +kernel
theorem dX5_strokesToGood_52 : decode cX5_strokesToGood 52 = .ok (.iload_n 2, 1) := by decide +kernel
theorem dX5_strokesToGood_53 : decode cX5_strokesToGood 53 = .ok (.if_icmp .le 5, 3) := by decide +kernel
theorem dX5_strokesToGood_56 : decode cX5_strokesToGood 56 = .ok (.iload_n 1, 1) := by decide +kernel
theorem dX5_strokesToGood_57 : decode cX5_strokesToGood 57 = .ok (.ireturn, 1) := by decide +kernel
theorem dX5_strokesToGood_58 : decode cX5_strokesToGood 58 = .ok (.iinc 1 1, 3) := by decide +kernel
theorem dX5_strokesToGood_61 : decode cX5_strokesToGood 61 = .ok (.goto (-45), 3) := by decide +kernel
theorem dX5_strokesToGood_64 : decode cX5_strokesToGood 64 = .ok (.iconst (-1), 1) := by decide +kernel
theorem dX5_strokesToGood_65 : decode cX5_strokesToGood 65 = .ok (.ireturn, 1) := by decide +kernel
theorem dX5_type_0 : decode cX5_type 0 = .ok (.iload_n 1, 1) := by decide +kernel
theorem dX5_type_1 : decode cX5_type 1 = .ok (.ifCond .lt 9, 3) := by decide +kernel
theorem dX5_type_4 : decode cX5_type 4 = .ok (.iload_n 1, 1) := by decide +kernel
theorem dX5_type_5 : decode cX5_type 5 = .ok (.bipush 127, 2) := by decide +kernel
theorem dX5_type_7 : decode cX5_type 7 = .ok (.if_icmp .le 14, 3) := by decide +kernel
theorem dX5_type_10 : decode cX5_type 10 = .ok (.new 45, 3) := by decide +kernel
theorem dX5_type_13 : decode cX5_type 13 = .ok (.dup, 1) := by decide +kernel
theorem dX5_type_14 : decode cX5_type 14 = .ok (.ldc_w 274, 3) := by decide +kernel
theorem dX5_type_17 : decode cX5_type 17 = .ok (.invokespecial 49, 3) := by decide +kernel
theorem dX5_type_20 : decode cX5_type 20 = .ok (.athrow, 1) := by decide +kernel
theorem dX5_type_21 : decode cX5_type 21 = .ok (.aload_n 0, 1) := by decide +kernel
theorem dX5_type_22 : decode cX5_type 22 = .ok (.getfield 37, 3) := by decide +kernel
theorem dX5_type_25 : decode cX5_type 25 = .ok (.getfield 237, 3) := by decide +kernel
theorem dX5_type_28 : decode cX5_type 28 = .ok (.sipush 150, 3) := by decide +kernel
theorem dX5_type_31 : decode cX5_type 31 = .ok (.if_icmp .lt 14, 3) := by decide +kernel
theorem dX5_type_34 : decode cX5_type 34 = .ok (.new 106, 3) := by decide +kernel
theorem dX5_type_37 : decode cX5_type 37 = .ok (.dup, 1) := by decide +kernel
theorem dX5_type_38 : decode cX5_type 38 = .ok (.ldc_w 276, 3) := by decide +kernel
theorem dX5_type_41 : decode cX5_type 41 = .ok (.invokespecial 110, 3) := by decide +kernel
theorem dX5_type_44 : decode cX5_type 44 = .ok (.athrow, 1) := by decide +kernel
theorem dX5_type_45 : decode cX5_type 45 = .ok (.aload_n 0, 1) := by decide +kernel
theorem dX5_type_46 : decode cX5_type 46 = .ok (.getfield 37, 3) := by decide +kernel
theorem dX5_type_49 : decode cX5_type 49 = .ok (.iload_n 1, 1) := by decide +kernel
theorem dX5_type_50 : decode cX5_type 50 = .ok (.invokevirtual 278, 3) := by decide +kernel
theorem dX5_type_53 : decode cX5_type 53 = .ok (.aload_n 0, 1) := by decide +kernel
theorem dX5_type_54 : decode cX5_type 54 = .ok (.getfield 37, 3) := by decide +kernel
theorem dX5_type_57 : decode cX5_type 57 = .ok (.getfield 237, 3) := by decide +kernel
theorem dX5_type_60 : decode cX5_type 60 = .ok (.ireturn, 1) := by decide +kernel
theorem dX5_clearCommands_0 : decode cX5_clearCommands 0 = .ok (.aload_n 0, 1) := by decide +kernel
theorem dX5_clearCommands_1 : decode cX5_clearCommands 1 = .ok (.getfield 37, 3) := by decide +kernel
theorem dX5_clearCommands_4 : decode cX5_clearCommands 4 = .ok (.getfield 237, 3) := by decide +kernel
theorem dX5_clearCommands_7 : decode cX5_clearCommands 7 = .ok (.istore_n 1, 1) := by decide +kernel
theorem dX5_clearCommands_8 : decode cX5_clearCommands 8 = .ok (.aload_n 0, 1) := by decide +kernel
theorem dX5_clearCommands_9 : decode cX5_clearCommands 9 = .ok (.getfield 37, 3) := by decide +kernel
theorem dX5_clearCommands_12 : decode cX5_clearCommands 12 = .ok (.iconst 0, 1) := by decide +kernel
theorem dX5_clearCommands_13 : decode cX5_clearCommands 13 = .ok (.putfield 237, 3) := by decide +kernel
theorem dX5_clearCommands_16 : decode cX5_clearCommands 16 = .ok (.iload_n 1, 1) := by decide +kernel
theorem dX5_clearCommands_17 : decode cX5_clearCommands 17 = .ok (.ireturn, 1) := by decide +kernel
theorem dX5_runCommands_0 : decode cX5_runCommands 0 = .ok (.aload_n 0, 1) := by decide +kernel
theorem dX5_runCommands_1 : decode cX5_runCommands 1 = .ok (.getfield 37, 3) := by decide +kernel
theorem dX5_runCommands_4 : decode cX5_runCommands 4 = .ok (.invokevirtual 280, 3) := by decide +kernel
theorem dX5_runCommands_7 : decode cX5_runCommands 7 = .ok (.istore_n 1, 1) := by decide +kernel
theorem dX5_runCommands_8 : decode cX5_runCommands 8 = .ok (.iload_n 1, 1) := by decide +kernel
theorem dX5_runCommands_9 : decode cX5_runCommands 9 = .ok (.iconst (-1), 1) := by decide +kernel
theorem dX5_runCommands_10 : decode cX5_runCommands 10 = .ok (.if_icmp .eq 8, 3) := by decide +kernel
theorem dX5_runCommands_13 : decode cX5_runCommands 13 = .ok (.bipush (-10), 2) := by decide +kernel
theorem dX5_runCommands_15 : decode cX5_runCommands 15 = .ok (.iload_n 1, 1) := by decide +kernel
theorem dX5_runCommands_16 : decode cX5_runCommands 16 = .ok (.isub, 1) := by decide +kernel
theorem dX5_runCommands_17 : decode cX5_runCommands 17 = .ok (.ireturn, 1) := by decide +kernel
theorem dX5_runCommands_18 : decode cX5_runCommands 18 = .ok (.aload_n 0, 1) := by decide +kernel
theorem dX5_runCommands_19 : decode cX5_runCommands 19 = .ok (.invokevirtual 52, 3) := by decide +kernel
theorem dX5_runCommands_22 : decode cX5_runCommands 22 = .ok (.aload_n 0, 1) := by decide +kernel
theorem dX5_runCommands_23 : decode cX5_runCommands 23 = .ok (.getfield 37, 3) := by decide +kernel
theorem dX5_runCommands_26 : decode cX5_runCommands 26 = .ok (.iconst 0, 1) := by decide +kernel
theorem dX5_runCommands_27 : decode cX5_runCommands 27 = .ok (.putfield 283, 3) := by decide +kernel
theorem dX5_runCommands_30 : decode cX5_runCommands 30 = .ok (.iconst 0, 1) := by decide +kernel
theorem dX5_runCommands_31 : decode cX5_runCommands 31 = .ok (.istore_n 2, 1) := by decide +kernel
theorem dX5_runCommands_32 : decode cX5_runCommands 32 = .ok (.iload_n 2, 1) := by decide +kernel
theorem dX5_runCommands_33 : decode cX5_runCommands 33 = .ok (.sipush 150, 3) := by decide +kernel
theorem dX5_runCommands_36 : decode cX5_runCommands 36 = .ok (.if_icmp .ge 39, 3) := by decide +kernel
theorem dX5_runCommands_39 : decode cX5_runCommands 39 = .ok (.aload_n 0, 1) := by decide +kernel
theorem dX5_runCommands_40 : decode cX5_runCommands 40 = .ok (.getfield 37, 3) := by decide +kernel
theorem dX5_runCommands_43 : decode cX5_runCommands 43 = .ok (.invokevirtual 286, 3) := by decide +kernel
theorem dX5_runCommands_46 : decode cX5_runCommands 46 = .ok (.ifCond .ne 21, 3) := by decide +kernel
theorem dX5_runCommands_49 : decode cX5_runCommands 49 = .ok (.aload_n 0, 1) := by decide +kernel
theorem dX5_runCommands_50 : decode cX5_runCommands 50 = .ok (.getfield 37, 3) := by decide +kernel
theorem dX5_runCommands_53 : decode cX5_runCommands 53 = .ok (.invokevirtual 289, 3) := by decide +kernel
theorem dX5_runCommands_56 : decode cX5_runCommands 56 = .ok (.iconst (-1), 1) := by decide +kernel
theorem dX5_runCommands_57 : decode cX5_runCommands 57 = .ok (.if_icmp .ne 10, 3) := by decide +kernel
theorem dX5_runCommands_60 : decode cX5_runCommands 60 = .ok (.aload_n 0, 1) := by decide +kernel
theorem dX5_runCommands_61 : decode cX5_runCommands 61 = .ok (.invokevirtual 292, 3) := by decide +kernel
theorem dX5_runCommands_64 : decode cX5_runCommands 64 = .ok (.ifCond .ne 5, 3) := by decide +kernel
theorem dX5_runCommands_67 : decode cX5_runCommands 67 = .ok (.iload_n 2, 1) := by decide +kernel
theorem dX5_runCommands_68 : decode cX5_runCommands 68 = .ok (.ireturn, 1) := by decide +kernel
theorem dX5_runCommands_69 : decode cX5_runCommands 69 = .ok (.iinc 2 1, 3) := by decide +kernel
theorem dX5_runCommands_72 : decode cX5_runCommands 72 = .ok (.goto (-40), 3) := by decide +kernel
theorem dX5_runCommands_75 : decode cX5_runCommands 75 = .ok (.sipush 150, 3) := by decide +kernel
theorem dX5_runCommands_78 : decode cX5_runCommands 78 = .ok (.ireturn, 1) := by decide +kernel
theorem dX5_undo_0 : decode cX5_undo 0 = .ok (.aload_n 0, 1) := by decide +kernel
theorem dX5_undo_1 : decode cX5_undo 1 = .ok (.getfield 295, 3) := by decide +kernel
theorem dX5_undo_4 : decode cX5_undo 4 = .ok (.iconst 1, 1) := by decide +kernel
theorem dX5_undo_5 : decode cX5_undo 5 = .ok (.if_icmp .ge 14, 3) := by decide +kernel
theorem dX5_undo_8 : decode cX5_undo 8 = .ok (.new 106, 3) := by decide +kernel
theorem dX5_undo_11 : decode cX5_undo 11 = .ok (.dup, 1) := by decide +kernel
theorem dX5_undo_12 : decode cX5_undo 12 = .ok (.ldc_w 298, 3) := by decide +kernel
theorem dX5_undo_15 : decode cX5_undo 15 = .ok (.invokespecial 110, 3) := by decide +kernel
theorem dX5_undo_18 : decode cX5_undo 18 = .ok (.athrow, 1) := by decide +kernel
theorem dX5_undo_19 : decode cX5_undo 19 = .ok (.aload_n 0, 1) := by decide +kernel
theorem dX5_undo_20 : decode cX5_undo 20 = .ok (.dup, 1) := by decide +kernel
theorem dX5_undo_21 : decode cX5_undo 21 = .ok (.getfield 295, 3) := by decide +kernel
theorem dX5_undo_24 : decode cX5_undo 24 = .ok (.iconst 1, 1) := by decide +kernel
theorem dX5_undo_25 : decode cX5_undo 25 = .ok (.isub, 1) := by decide +kernel
theorem dX5_undo_26 : decode cX5_undo 26 = .ok (.putfield 295, 3) := by decide +kernel
theorem dX5_undo_29 : decode cX5_undo 29 = .ok (.aload_n 0, 1) := by decide +kernel
theorem dX5_undo_30 : decode cX5_undo 30 = .ok (.aload_n 0, 1) := by decide +kernel
theorem dX5_undo_31 : decode cX5_undo 31 = .ok (.getfield 295, 3) := by decide +kernel
theorem dX5_undo_34 : decode cX5_undo 34 = .ok (.invokevirtual 300, 3) := by decide +kernel
theorem dX5_undo_37 : decode cX5_undo 37 = .ok (.astore_n 1, 1) := by decide +kernel
theorem dX5_undo_38 : decode cX5_undo 38 = .ok (.aload_n 1, 1) := by decide +kernel
theorem dX5_undo_39 : decode cX5_undo 39 = .ok (.ifnull 11, 3) := by decide +kernel
theorem dX5_undo_42 : decode cX5_undo 42 = .ok (.aload_n 0, 1) := by decide +kernel
theorem dX5_undo_43 : decode cX5_undo 43 = .ok (.getfield 12, 3) := by decide +kernel
theorem dX5_undo_46 : decode cX5_undo 46 = .ok (.aload_n 1, 1) := by decide +kernel
theorem dX5_undo_47 : decode cX5_undo 47 = .ok (.invokevirtual 304, 3) := by decide +kernel
theorem dX5_undo_50 : decode cX5_undo 50 = .ok (.aload_n 0, 1) := by decide +kernel
theorem dX5_undo_51 : decode cX5_undo 51 = .ok (.getfield 295, 3) := by decide +kernel
theorem dX5_undo_54 : decode cX5_undo 54 = .ok (.ireturn, 1) := by decide +kernel
theorem dX5_digest_0 : decode cX5_digest 0 = .ok (.ldc2_w 307, 3) := by decide +kernel
theorem dX5_digest_3 : decode cX5_digest 3 = .ok (.aload_n 0, 1) := by decide +kernel
theorem dX5_digest_4 : decode cX5_digest 4 = .ok (.getfield 295, 3) := by decide +kernel
theorem dX5_digest_7 : decode cX5_digest 7 = .ok (.i2l, 1) := by decide +kernel
theorem dX5_digest_8 : decode cX5_digest 8 = .ok (.ladd, 1) := by decide +kernel
theorem dX5_digest_9 : decode cX5_digest 9 = .ok (.lstore_n 1, 1) := by decide +kernel
theorem dX5_digest_10 : decode cX5_digest 10 = .ok (.iconst 0, 1) := by decide +kernel
theorem dX5_digest_11 : decode cX5_digest 11 = .ok (.istore_n 3, 1) := by decide +kernel
theorem dX5_digest_12 : decode cX5_digest 12 = .ok (.iload_n 3, 1) := by decide +kernel
theorem dX5_digest_13 : decode cX5_digest 13 = .ok (.bipush 16, 2) := by decide +kernel
theorem dX5_digest_15 : decode cX5_digest 15 = .ok (.if_icmp .gt 22, 3) := by decide +kernel
theorem dX5_digest_18 : decode cX5_digest 18 = .ok (.ldc2_w 309, 3) := by decide +kernel
theorem dX5_digest_21 : decode cX5_digest 21 = .ok (.lload_n 1, 1) := by decide +kernel
theorem dX5_digest_22 : decode cX5_digest 22 = .ok (.lmul, 1) := by decide +kernel
theorem dX5_digest_23 : decode cX5_digest 23 = .ok (.aload_n 0, 1) := by decide +kernel
theorem dX5_digest_24 : decode cX5_digest 24 = .ok (.iload_n 3, 1) := by decide +kernel
theorem dX5_digest_25 : decode cX5_digest 25 = .ok (.invokevirtual 311, 3) := by decide +kernel
theorem dX5_digest_28 : decode cX5_digest 28 = .ok (.i2l, 1) := by decide +kernel
theorem dX5_digest_29 : decode cX5_digest 29 = .ok (.ladd, 1) := by decide +kernel
theorem dX5_digest_30 : decode cX5_digest 30 = .ok (.lstore_n 1, 1) := by decide +kernel
theorem dX5_digest_31 : decode cX5_digest 31 = .ok (.iinc 3 1, 3) := by decide +kernel
theorem dX5_digest_34 : decode cX5_digest 34 = .ok (.goto (-22), 3) := by decide +kernel
theorem dX5_digest_37 : decode cX5_digest 37 = .ok (.iconst 0, 1) := by decide +kernel
theorem dX5_digest_38 : decode cX5_digest 38 = .ok (.istore_n 3, 1) := by decide +kernel
theorem dX5_digest_39 : decode cX5_digest 39 = .ok (.iload_n 3, 1) := by decide +kernel
theorem dX5_digest_40 : decode cX5_digest 40 = .ok (.iconst 5, 1) := by decide +kernel
theorem dX5_digest_41 : decode cX5_digest 41 = .ok (.if_icmp .gt 21, 3) := by decide +kernel
theorem dX5_digest_44 : decode cX5_digest 44 = .ok (.ldc2_w 309, 3) := by decide +kernel
theorem dX5_digest_47 : decode cX5_digest 47 = .ok (.lload_n 1, 1) := by decide +kernel
theorem dX5_digest_48 : decode cX5_digest 48 = .ok (.lmul, 1) := by decide +kernel
theorem dX5_digest_49 : decode cX5_digest 49 = .ok (.aload_n 0, 1) := by decide +kernel
theorem dX5_digest_50 : decode cX5_digest 50 = .ok (.iload_n 3, 1) := by decide +kernel
theorem dX5_digest_51 : decode cX5_digest 51 = .ok (.invokevirtual 314, 3) := by decide +kernel
theorem dX5_digest_54 : decode cX5_digest 54 = .ok (.ladd, 1) := by decide +kernel
theorem dX5_digest_55 : decode cX5_digest 55 = .ok (.lstore_n 1, 1) := by decide +kernel
theorem dX5_digest_56 : decode cX5_digest 56 = .ok (.iinc 3 1, 3) := by decide +kernel
theorem dX5_digest_59 : decode cX5_digest 59 = .ok (.goto (-20), 3) := by decide +kernel
theorem dX5_digest_62 : decode cX5_digest 62 = .ok (.iconst 0, 1) := by decide +kernel
theorem dX5_digest_63 : decode cX5_digest 63 = .ok (.istore_n 3, 1) := by decide +kernel
theorem dX5_digest_64 : decode cX5_digest 64 = .ok (.iload_n 3, 1) := by decide +kernel
theorem dX5_digest_65 : decode cX5_digest 65 = .ok (.aload_n 0, 1) := by decide +kernel
theorem dX5_digest_66 : decode cX5_digest 66 = .ok (.getfield 12, 3) := by decide +kernel
theorem dX5_digest_69 : decode cX5_digest 69 = .ok (.getfield 55, 3) := by decide +kernel
theorem dX5_digest_72 : decode cX5_digest 72 = .ok (.getfield 59, 3) := by decide +kernel
theorem dX5_digest_75 : decode cX5_digest 75 = .ok (.if_icmp .ge 40, 3) := by decide +kernel
theorem dX5_digest_78 : decode cX5_digest 78 = .ok (.iconst 0, 1) := by decide +kernel
theorem dX5_digest_79 : decode cX5_digest 79 = .ok (.istore 4, 2) := by decide +kernel
theorem dX5_digest_81 : decode cX5_digest 81 = .ok (.iload 4, 2) := by decide +kernel
theorem dX5_digest_83 : decode cX5_digest 83 = .ok (.bipush 7, 2) := by decide +kernel
theorem dX5_digest_85 : decode cX5_digest 85 = .ok (.if_icmp .gt 24, 3) := by decide +kernel
theorem dX5_digest_88 : decode cX5_digest 88 = .ok (.ldc2_w 309, 3) := by decide +kernel
theorem dX5_digest_91 : decode cX5_digest 91 = .ok (.lload_n 1, 1) := by decide +kernel
theorem dX5_digest_92 : decode cX5_digest 92 = .ok (.lmul, 1) := by decide +kernel
theorem dX5_digest_93 : decode cX5_digest 93 = .ok (.aload_n 0, 1) := by decide +kernel
theorem dX5_digest_94 : decode cX5_digest 94 = .ok (.iload_n 3, 1) := by decide +kernel
theorem dX5_digest_95 : decode cX5_digest 95 = .ok (.iload 4, 2) := by decide +kernel
theorem dX5_digest_97 : decode cX5_digest 97 = .ok (.invokevirtual 317, 3) := by decide +kernel
theorem dX5_digest_100 : decode cX5_digest 100 = .ok (.i2l, 1) := by decide +kernel
theorem dX5_digest_101 : decode cX5_digest 101 = .ok (.ladd, 1) := by decide +kernel
theorem dX5_digest_102 : decode cX5_digest 102 = .ok (.lstore_n 1, 1) := by decide +kernel
theorem dX5_digest_103 : decode cX5_digest 103 = .ok (.iinc 4 1, 3) := by decide +kernel
theorem dX5_digest_106 : decode cX5_digest 106 = .ok (.goto (-25), 3) := by decide +kernel
theorem dX5_digest_109 : decode cX5_digest 109 = .ok (.iinc 3 1, 3) := by decide +kernel
theorem dX5_digest_112 : decode cX5_digest 112 = .ok (.goto (-48), 3) := by decide +kernel
theorem dX5_digest_115 : decode cX5_digest 115 = .ok (.iconst 0, 1) := by decide +kernel
theorem dX5_digest_116 : decode cX5_digest 116 = .ok (.istore_n 3, 1) := by decide +kernel
theorem dX5_digest_117 : decode cX5_digest 117 = .ok (.iload_n 3, 1) := by decide +kernel
theorem dX5_digest_118 : decode cX5_digest 118 = .ok (.bipush 8, 2) := by decide +kernel
theorem dX5_digest_120 : decode cX5_digest 120 = .ok (.if_icmp .ge 16, 3) := by decide +kernel
theorem dX5_digest_123 : decode cX5_digest 123 = .ok (.aload_n 0, 1) := by decide +kernel
theorem dX5_digest_124 : decode cX5_digest 124 = .ok (.lload_n 1, 1) := by decide +kernel
theorem dX5_digest_125 : decode cX5_digest 125 = .ok (.iload_n 3, 1) := by decide +kernel
theorem dX5_digest_126 : decode cX5_digest 126 = .ok (.invokevirtual 320, 3) := by decide +kernel
theorem dX5_digest_129 : decode cX5_digest 129 = .ok (.lstore_n 1, 1) := by decide +kernel
theorem dX5_digest_130 : decode cX5_digest 130 = .ok (.iinc 3 1, 3) := by decide +kernel
theorem dX5_digest_133 : decode cX5_digest 133 = .ok (.goto (-16), 3) := by decide +kernel
theorem dX5_digest_136 : decode cX5_digest 136 = .ok (.ldc2_w 309, 3) := by decide +kernel
theorem dX5_digest_139 : decode cX5_digest 139 = .ok (.lload_n 1, 1) := by decide +kernel
theorem dX5_digest_140 : decode cX5_digest 140 = .ok (.lmul, 1) := by decide +kernel
theorem dX5_digest_141 : decode cX5_digest 141 = .ok (.aload_n 0, 1) := by decide +kernel
theorem dX5_digest_142 : decode cX5_digest 142 = .ok (.invokevirtual 324, 3) := by decide +kernel
theorem dX5_digest_145 : decode cX5_digest 145 = .ok (.i2l, 1) := by decide +kernel
theorem dX5_digest_146 : decode cX5_digest 146 = .ok (.ladd, 1) := by decide +kernel
theorem dX5_digest_147 : decode cX5_digest 147 = .ok (.lstore_n 1, 1) := by decide +kernel
theorem dX5_digest_148 : decode cX5_digest 148 = .ok (.ldc2_w 309, 3) := by decide +kernel
theorem dX5_digest_151 : decode cX5_digest 151 = .ok (.lload_n 1, 1) := by decide +kernel
theorem dX5_digest_152 : decode cX5_digest 152 = .ok (.lmul, 1) := by decide +kernel
theorem dX5_digest_153 : decode cX5_digest 153 = .ok (.aload_n 0, 1) := by decide +kernel
theorem dX5_digest_154 : decode cX5_digest 154 = .ok (.invokevirtual 327, 3) := by decide +kernel
theorem dX5_digest_157 : decode cX5_digest 157 = .ok (.i2l, 1) := by decide +kernel
theorem dX5_digest_158 : decode cX5_digest 158 = .ok (.ladd, 1) := by decide +kernel
theorem dX5_digest_159 : decode cX5_digest 159 = .ok (.lstore_n 1, 1) := by decide +kernel
theorem dX5_digest_160 : decode cX5_digest 160 = .ok (.ldc2_w 309, 3) := by decide +kernel
theorem dX5_digest_163 : decode cX5_digest 163 = .ok (.lload_n 1, 1) := by decide +kernel
theorem dX5_digest_164 : decode cX5_digest 164 = .ok (.lmul, 1) := by decide +kernel
theorem dX5_digest_165 : decode cX5_digest 165 = .ok (.aload_n 0, 1) := by decide +kernel
theorem dX5_digest_166 : decode cX5_digest 166 = .ok (.iconst (-1), 1) := by decide +kernel
theorem dX5_digest_167 : decode cX5_digest 167 = .ok (.invokevirtual 330, 3) := by decide +kernel
theorem dX5_digest_170 : decode cX5_digest 170 = .ok (.i2l, 1) := by decide +kernel
theorem dX5_digest_171 : decode cX5_digest 171 = .ok (.ladd, 1) := by decide +kernel
theorem dX5_digest_172 : decode cX5_digest 172 = .ok (.lstore_n 1, 1) := by decide +kernel
theorem dX5_digest_173 : decode cX5_digest 173 = .ok (.ldc2_w 309, 3) := by decide +kernel
theorem dX5_digest_176 : decode cX5_digest 176 = .ok (.lload_n 1, 1) := by decide +kernel
theorem dX5_digest_177 : decode cX5_digest 177 = .ok (.lmul, 1) := by decide +kernel
theorem dX5_digest_178 : decode cX5_digest 178 = .ok (.aload_n 0, 1) := by decide +kernel
theorem dX5_digest_179 : decode cX5_digest 179 = .ok (.invokevirtual 333, 3) := by decide +kernel
theorem dX5_digest_182 : decode cX5_digest 182 = .ok (.i2l, 1) := by decide +kernel
theorem dX5_digest_183 : decode cX5_digest 183 = .ok (.ladd, 1) := by decide +kernel
theorem dX5_digest_184 : decode cX5_digest 184 = .ok (.lstore_n 1, 1) := by decide +kernel
theorem dX5_digest_185 : decode cX5_digest 185 = .ok (.ldc2_w 309, 3) := by decide +kernel
theorem dX5_digest_188 : decode cX5_digest 188 = .ok (.lload_n 1, 1) := by decide +kernel
theorem dX5_digest_189 : decode cX5_digest 189 = .ok (.lmul, 1) := by decide +kernel
theorem dX5_digest_190 : decode cX5_digest 190 = .ok (.aload_n 0, 1) := by decide +kernel
theorem dX5_digest_191 : decode cX5_digest 191 = .ok (.iconst 0, 1) := by decide +kernel
theorem dX5_digest_192 : decode cX5_digest 192 = .ok (.invokevirtual 336, 3) := by decide +kernel
theorem dX5_digest_195 : decode cX5_digest 195 = .ok (.i2l, 1) := by decide +kernel
theorem dX5_digest_196 : decode cX5_digest 196 = .ok (.ladd, 1) := by decide +kernel
theorem dX5_digest_197 : decode cX5_digest 197 = .ok (.lstore_n 1, 1) := by decide +kernel
theorem dX5_digest_198 : decode cX5_digest 198 = .ok (.ldc2_w 309, 3) := by decide +kernel
theorem dX5_digest_201 : decode cX5_digest 201 = .ok (.lload_n 1, 1) := by decide +kernel
theorem dX5_digest_202 : decode cX5_digest 202 = .ok (.lmul, 1) := by decide +kernel
theorem dX5_digest_203 : decode cX5_digest 203 = .ok (.aload_n 0, 1) := by decide +kernel
theorem dX5_digest_204 : decode cX5_digest 204 = .ok (.iconst 1, 1) := by decide +kernel
theorem dX5_digest_205 : decode cX5_digest 205 = .ok (.invokevirtual 336, 3) := by decide +kernel
theorem dX5_digest_208 : decode cX5_digest 208 = .ok (.i2l, 1) := by decide +kernel
theorem dX5_digest_209 : decode cX5_digest 209 = .ok (.ladd, 1) := by decide +kernel
theorem dX5_digest_210 : decode cX5_digest 210 = .ok (.lreturn, 1) := by decide +kernel
theorem dX5_withStation_0 : decode cX5_withStation 0 = .ok (.lload_n 1, 1) := by decide +kernel
theorem dX5_withStation_1 : decode cX5_withStation 1 = .ok (.lstore 4, 2) := by decide +kernel
theorem dX5_withStation_3 : decode cX5_withStation 3 = .ok (.iconst 0, 1) := by decide +kernel
theorem dX5_withStation_4 : decode cX5_withStation 4 = .ok (.istore 6, 2) := by decide +kernel
theorem dX5_withStation_6 : decode cX5_withStation 6 = .ok (.iload 6, 2) := by decide +kernel
theorem dX5_withStation_8 : decode cX5_withStation 8 = .ok (.iconst 3, 1) := by decide +kernel
theorem dX5_withStation_9 : decode cX5_withStation 9 = .ok (.if_icmp .gt 26, 3) := by decide +kernel
theorem dX5_withStation_12 : decode cX5_withStation 12 = .ok (.ldc2_w 309, 3) := by decide +kernel
theorem dX5_withStation_15 : decode cX5_withStation 15 = .ok (.lload 4, 2) := by decide +kernel
theorem dX5_withStation_17 : decode cX5_withStation 17 = .ok (.lmul, 1) := by decide +kernel
theorem dX5_withStation_18 : decode cX5_withStation 18 = .ok (.aload_n 0, 1) := by decide +kernel
theorem dX5_withStation_19 : decode cX5_withStation 19 = .ok (.iload_n 3, 1) := by decide +kernel
theorem dX5_withStation_20 : decode cX5_withStation 20 = .ok (.iload 6, 2) := by decide +kernel
theorem dX5_withStation_22 : decode cX5_withStation 22 = .ok (.invokevirtual 340, 3) := by decide +kernel
theorem dX5_withStation_25 : decode cX5_withStation 25 = .ok (.i2l, 1) := by decide +kernel
theorem dX5_withStation_26 : decode cX5_withStation 26 = .ok (.ladd, 1) := by decide +kernel
theorem dX5_withStation_27 : decode cX5_withStation 27 = .ok (.lstore 4, 2) := by decide +kernel
theorem dX5_withStation_29 : decode cX5_withStation 29 = .ok (.iinc 6 1, 3) := by decide +kernel
theorem dX5_withStation_32 : decode cX5_withStation 32 = .ok (.goto (-26), 3) := by decide +kernel
theorem dX5_withStation_35 : decode cX5_withStation 35 = .ok (.iconst 0, 1) := by decide +kernel
theorem dX5_withStation_36 : decode cX5_withStation 36 = .ok (.istore 6, 2) := by decide +kernel
theorem dX5_withStation_38 : decode cX5_withStation 38 = .ok (.iload 6, 2) := by decide +kernel
theorem dX5_withStation_40 : decode cX5_withStation 40 = .ok (.iconst 3, 1) := by decide +kernel
theorem dX5_withStation_41 : decode cX5_withStation 41 = .ok (.if_icmp .gt 26, 3) := by decide +kernel
theorem dX5_withStation_44 : decode cX5_withStation 44 = .ok (.ldc2_w 309, 3) := by decide +kernel
theorem dX5_withStation_47 : decode cX5_withStation 47 = .ok (.lload 4, 2) := by decide +kernel
theorem dX5_withStation_49 : decode cX5_withStation 49 = .ok (.lmul, 1) := by decide +kernel
theorem dX5_withStation_50 : decode cX5_withStation 50 = .ok (.aload_n 0, 1) := by decide +kernel
theorem dX5_withStation_51 : decode cX5_withStation 51 = .ok (.iload_n 3, 1) := by decide +kernel
theorem dX5_withStation_52 : decode cX5_withStation 52 = .ok (.iload 6, 2) := by decide +kernel
theorem dX5_withStation_54 : decode cX5_withStation 54 = .ok (.invokevirtual 343, 3) := by decide +kernel
theorem dX5_withStation_57 : decode cX5_withStation 57 = .ok (.i2l, 1) := by decide +kernel
theorem dX5_withStation_58 : decode cX5_withStation 58 = .ok (.ladd, 1) := by decide +kernel
theorem dX5_withStation_59 : decode cX5_withStation 59 = .ok (.lstore 4, 2) := by decide +kernel
theorem dX5_withStation_61 : decode cX5_withStation 61 = .ok (.iinc 6 1, 3) := by decide +kernel
theorem dX5_withStation_64 : decode cX5_withStation 64 = .ok (.goto (-26), 3) := by decide +kernel
theorem dX5_withStation_67 : decode cX5_withStation 67 = .ok (.ldc2_w 309, 3) := by decide +kernel
theorem dX5_withStation_70 : decode cX5_withStation 70 = .ok (.lload 4, 2) := by decide +kernel
theorem dX5_withStation_72 : decode cX5_withStation 72 = .ok (.lmul, 1) := by decide +kernel
theorem dX5_withStation_73 : decode cX5_withStation 73 = .ok (.aload_n 0, 1) := by decide +kernel
theorem dX5_withStation_74 : decode cX5_withStation 74 = .ok (.iload_n 3, 1) := by decide +kernel
theorem dX5_withStation_75 : decode cX5_withStation 75 = .ok (.invokevirtual 346, 3) := by decide +kernel
theorem dX5_withStation_78 : decode cX5_withStation 78 = .ok (.ladd, 1) := by decide +kernel
theorem dX5_withStation_79 : decode cX5_withStation 79 = .ok (.lreturn, 1) := by decide +kernel
theorem dX5_isPitchSize_0 : decode cX5_isPitchSize 0 = .ok (.iload_n 0, 1) := by decide +kernel
theorem dX5_isPitchSize_1 : decode cX5_isPitchSize 1 = .ok (.iconst 2, 1) := by decide +kernel
theorem dX5_isPitchSize_2 : decode cX5_isPitchSize 2 = .ok (.if_icmp .lt 24, 3) := by decide +kernel
theorem dX5_isPitchSize_5 : decode cX5_isPitchSize 5 = .ok (.iload_n 0, 1) := by decide +kernel
theorem dX5_isPitchSize_6 : decode cX5_isPitchSize 6 = .ok (.bipush 10, 2) := by decide +kernel
theorem dX5_isPitchSize_8 : decode cX5_isPitchSize 8 = .ok (.if_icmp .gt 18, 3) := by decide +kernel
theorem dX5_isPitchSize_11 : decode cX5_isPitchSize 11 = .ok (.iload_n 1, 1) := by decide +kernel
theorem dX5_isPitchSize_12 : decode cX5_isPitchSize 12 = .ok (.iconst 2, 1) := by decide +kernel
theorem dX5_isPitchSize_13 : decode cX5_isPitchSize 13 = .ok (.if_icmp .lt 13, 3) := by decide +kernel
theorem dX5_isPitchSize_16 : decode cX5_isPitchSize 16 = .ok (.iload_n 1, 1) := by decide +kernel
theorem dX5_isPitchSize_17 : decode cX5_isPitchSize 17 = .ok (.bipush 6, 2) := by decide +kernel
theorem dX5_isPitchSize_19 : decode cX5_isPitchSize 19 = .ok (.if_icmp .gt 7, 3) := by decide +kernel
theorem dX5_isPitchSize_22 : decode cX5_isPitchSize 22 = .ok (.iconst 1, 1) := by decide +kernel
theorem dX5_isPitchSize_23 : decode cX5_isPitchSize 23 = .ok (.goto 4, 3) := by decide +kernel
theorem dX5_isPitchSize_26 : decode cX5_isPitchSize 26 = .ok (.iconst 0, 1) := by decide +kernel
theorem dX5_isPitchSize_27 : decode cX5_isPitchSize 27 = .ok (.ireturn, 1) := by decide +kernel
theorem dX5_isStation_0 : decode cX5_isStation 0 = .ok (.iload_n 0, 1) := by decide +kernel
theorem dX5_isStation_1 : decode cX5_isStation 1 = .ok (.ifCond .lt 13, 3) := by decide +kernel
theorem dX5_isStation_4 : decode cX5_isStation 4 = .ok (.iload_n 0, 1) := by decide +kernel
theorem dX5_isStation_5 : decode cX5_isStation 5 = .ok (.bipush 8, 2) := by decide +kernel
theorem dX5_isStation_7 : decode cX5_isStation 7 = .ok (.if_icmp .ge 7, 3) := by decide +kernel
theorem dX5_isStation_10 : decode cX5_isStation 10 = .ok (.iconst 1, 1) := by decide +kernel
theorem dX5_isStation_11 : decode cX5_isStation 11 = .ok (.goto 4, 3) := by decide +kernel
theorem dX5_isStation_14 : decode cX5_isStation 14 = .ok (.iconst 0, 1) := by decide +kernel
theorem dX5_isStation_15 : decode cX5_isStation 15 = .ok (.ireturn, 1) := by decide +kernel
theorem dX5_isSettingValue_0 : decode cX5_isSettingValue 0 = .ok (.iload_n 0, 1) := by decide +kernel
theorem dX5_isSettingValue_1 : decode cX5_isSettingValue 1 = .ok (.tableswitch 100 0 4 #[35, 53, 68, 84, 84], 35) := by decide +kernel
theorem dX5_isSettingValue_36 : decode cX5_isSettingValue 36 = .ok (.iload_n 1, 1) := by decide +kernel
theorem dX5_isSettingValue_37 : decode cX5_isSettingValue 37 = .ok (.iconst 1, 1) := by decide +kernel
theorem dX5_isSettingValue_38 : decode cX5_isSettingValue 38 = .ok (.if_icmp .lt 14, 3) := by decide +kernel
theorem dX5_isSettingValue_41 : decode cX5_isSettingValue 41 = .ok (.iload_n 1, 1) := by decide +kernel
theorem dX5_isSettingValue_42 : decode cX5_isSettingValue 42 = .ok (.sipush 999, 3) := by decide +kernel
theorem dX5_isSettingValue_45 : decode cX5_isSettingValue 45 = .ok (.if_icmp .gt 7, 3) := by decide +kernel
theorem dX5_isSettingValue_48 : decode cX5_isSettingValue 48 = .ok (.iconst 1, 1) := by decide +kernel
theorem dX5_isSettingValue_49 : decode cX5_isSettingValue 49 = .ok (.goto 4, 3) := by decide +kernel
theorem dX5_isSettingValue_52 : decode cX5_isSettingValue 52 = .ok (.iconst 0, 1) := by decide +kernel
theorem dX5_isSettingValue_53 : decode cX5_isSettingValue 53 = .ok (.ireturn, 1) := by decide +kernel
theorem dX5_isSettingValue_54 : decode cX5_isSettingValue 54 = .ok (.iload_n 1, 1) := by decide +kernel
theorem dX5_isSettingValue_55 : decode cX5_isSettingValue 55 = .ok (.ifCond .lt 12, 3) := by decide +kernel
theorem dX5_isSettingValue_58 : decode cX5_isSettingValue 58 = .ok (.iload_n 1, 1) := by decide +kernel
theorem dX5_isSettingValue_59 : decode cX5_isSettingValue 59 = .ok (.iconst 3, 1) := by decide +kernel
theorem dX5_isSettingValue_60 : decode cX5_isSettingValue 60 = .ok (.if_icmp .gt 7, 3) := by decide +kernel
theorem dX5_isSettingValue_63 : decode cX5_isSettingValue 63 = .ok (.iconst 1, 1) := by decide +kernel
theorem dX5_isSettingValue_64 : decode cX5_isSettingValue 64 = .ok (.goto 4, 3) := by decide +kernel
theorem dX5_isSettingValue_67 : decode cX5_isSettingValue 67 = .ok (.iconst 0, 1) := by decide +kernel
theorem dX5_isSettingValue_68 : decode cX5_isSettingValue 68 = .ok (.ireturn, 1) := by decide +kernel
theorem dX5_isSettingValue_69 : decode cX5_isSettingValue 69 = .ok (.iload_n 1, 1) := by decide +kernel
theorem dX5_isSettingValue_70 : decode cX5_isSettingValue 70 = .ok (.ifCond .lt 13, 3) := by decide +kernel
theorem dX5_isSettingValue_73 : decode cX5_isSettingValue 73 = .ok (.iload_n 1, 1) := by decide +kernel
theorem dX5_isSettingValue_74 : decode cX5_isSettingValue 74 = .ok (.bipush 9, 2) := by decide +kernel
theorem dX5_isSettingValue_76 : decode cX5_isSettingValue 76 = .ok (.if_icmp .gt 7, 3) := by decide +kernel
theorem dX5_isSettingValue_79 : decode cX5_isSettingValue 79 = .ok (.iconst 1, 1) := by decide +kernel
theorem dX5_isSettingValue_80 : decode cX5_isSettingValue 80 = .ok (.goto 4, 3) := by decide +kernel
theorem dX5_isSettingValue_83 : decode cX5_isSettingValue 83 = .ok (.iconst 0, 1) := by decide +kernel
theorem dX5_isSettingValue_84 : decode cX5_isSettingValue 84 = .ok (.ireturn, 1) := by decide +kernel
theorem dX5_isSettingValue_85 : decode cX5_isSettingValue 85 = .ok (.iload_n 1, 1) := by decide +kernel
theorem dX5_isSettingValue_86 : decode cX5_isSettingValue 86 = .ok (.ifCond .lt 13, 3) := by decide +kernel
theorem dX5_isSettingValue_89 : decode cX5_isSettingValue 89 = .ok (.iload_n 1, 1) := by decide +kernel
theorem dX5_isSettingValue_90 : decode cX5_isSettingValue 90 = .ok (.bipush 50, 2) := by decide +kernel
theorem dX5_isSettingValue_92 : decode cX5_isSettingValue 92 = .ok (.if_icmp .gt 7, 3) := by decide +kernel
theorem dX5_isSettingValue_95 : decode cX5_isSettingValue 95 = .ok (.iconst 1, 1) := by decide +kernel
theorem dX5_isSettingValue_96 : decode cX5_isSettingValue 96 = .ok (.goto 4, 3) := by decide +kernel
theorem dX5_isSettingValue_99 : decode cX5_isSettingValue 99 = .ok (.iconst 0, 1) := by decide +kernel
theorem dX5_isSettingValue_100 : decode cX5_isSettingValue 100 = .ok (.ireturn, 1) := by decide +kernel
theorem dX5_isSettingValue_101 : decode cX5_isSettingValue 101 = .ok (.iconst 0, 1) := by decide +kernel
theorem dX5_isSettingValue_102 : decode cX5_isSettingValue 102 = .ok (.ireturn, 1) := by decide +kernel
theorem dX5_startOver_0 : decode cX5_startOver 0 = .ok (.aload_n 0, 1) := by decide +kernel
theorem dX5_startOver_1 : decode cX5_startOver 1 = .ok (.getfield 12, 3) := by decide +kernel
theorem dX5_startOver_4 : decode cX5_startOver 4 = .ok (.getfield 55, 3) := by decide +kernel
theorem dX5_startOver_7 : decode cX5_startOver 7 = .ok (.iload_n 1, 1) := by decide +kernel
theorem dX5_startOver_8 : decode cX5_startOver 8 = .ok (.iload_n 2, 1) := by decide +kernel
theorem dX5_startOver_9 : decode cX5_startOver 9 = .ok (.invokevirtual 349, 3) := by decide +kernel
theorem dX5_startOver_12 : decode cX5_startOver 12 = .ok (.aload_n 0, 1) := by decide +kernel
theorem dX5_startOver_13 : decode cX5_startOver 13 = .ok (.getfield 12, 3) := by decide +kernel
theorem dX5_startOver_16 : decode cX5_startOver 16 = .ok (.getfield 130, 3) := by decide +kernel
theorem dX5_startOver_19 : decode cX5_startOver 19 = .ok (.invokevirtual 350, 3) := by decide +kernel
theorem dX5_startOver_22 : decode cX5_startOver 22 = .ok (.return_, 1) := by decide +kernel
theorem dX5_savedState_0 : decode cX5_savedState 0 = .ok (.aload_n 0, 1) := by decide +kernel
theorem dX5_savedState_1 : decode cX5_savedState 1 = .ok (.getfield 352, 3) := by decide +kernel
theorem dX5_savedState_4 : decode cX5_savedState 4 = .ok (.iload_n 1, 1) := by decide +kernel
theorem dX5_savedState_5 : decode cX5_savedState 5 = .ok (.iadd, 1) := by decide +kernel
theorem dX5_savedState_6 : decode cX5_savedState 6 = .ok (.iconst 4, 1) := by decide +kernel
theorem dX5_savedState_7 : decode cX5_savedState 7 = .ok (.irem, 1) := by decide +kernel
theorem dX5_savedState_8 : decode cX5_savedState 8 = .ok (.istore_n 2, 1) := by decide +kernel
theorem dX5_savedState_9 : decode cX5_savedState 9 = .ok (.iload_n 2, 1) := by decide +kernel
theorem dX5_savedState_10 : decode cX5_savedState 10 = .ok (.ifCond .lt 21, 3) := by decide +kernel
theorem dX5_savedState_13 : decode cX5_savedState 13 = .ok (.iload_n 2, 1) := by decide +kernel
theorem dX5_savedState_14 : decode cX5_savedState 14 = .ok (.aload_n 0, 1) := by decide +kernel
theorem dX5_savedState_15 : decode cX5_savedState 15 = .ok (.getfield 16, 3) := by decide +kernel
theorem dX5_savedState_18 : decode cX5_savedState 18 = .ok (.arraylength, 1) := by decide +kernel
theorem dX5_savedState_19 : decode cX5_savedState 19 = .ok (.if_icmp .ge 12, 3) := by decide +kernel
theorem dX5_savedState_22 : decode cX5_savedState 22 = .ok (.aload_n 0, 1) := by decide +kernel
theorem dX5_savedState_23 : decode cX5_savedState 23 = .ok (.getfield 16, 3) := by decide +kernel
theorem dX5_savedState_26 : decode cX5_savedState 26 = .ok (.iload_n 2, 1) := by decide +kernel
theorem dX5_savedState_27 : decode cX5_savedState 27 = .ok (.aaload, 1) := by decide +kernel
theorem dX5_savedState_28 : decode cX5_savedState 28 = .ok (.goto 4, 3) := by decide +kernel
theorem dX5_savedState_31 : decode cX5_savedState 31 = .ok (.aconst_null, 1) := by decide +kernel
theorem dX5_savedState_32 : decode cX5_savedState 32 = .ok (.areturn, 1) := by decide +kernel
theorem dX5_save_0 : decode cX5_save 0 = .ok (.aload_n 0, 1) := by decide +kernel
theorem dX5_save_1 : decode cX5_save 1 = .ok (.getfield 295, 3) := by decide +kernel
theorem dX5_save_4 : decode cX5_save 4 = .ok (.iconst 4, 1) := by decide +kernel
theorem dX5_save_5 : decode cX5_save 5 = .ok (.if_icmp .lt 25, 3) := by decide +kernel
theorem dX5_save_8 : decode cX5_save 8 = .ok (.aload_n 0, 1) := by decide +kernel
theorem dX5_save_9 : decode cX5_save 9 = .ok (.aload_n 0, 1) := by decide +kernel
theorem dX5_save_10 : decode cX5_save 10 = .ok (.getfield 352, 3) := by decide +kernel
theorem dX5_save_13 : decode cX5_save 13 = .ok (.iconst 1, 1) := by decide +kernel
theorem dX5_save_14 : decode cX5_save 14 = .ok (.iadd, 1) := by decide +kernel
theorem dX5_save_15 : decode cX5_save 15 = .ok (.iconst 4, 1) := by decide +kernel
theorem dX5_save_16 : decode cX5_save 16 = .ok (.irem, 1) := by decide +kernel
theorem dX5_save_17 : decode cX5_save 17 = .ok (.putfield 352, 3) := by decide +kernel
theorem dX5_save_20 : decode cX5_save 20 = .ok (.aload_n 0, 1) := by decide +kernel
theorem dX5_save_21 : decode cX5_save 21 = .ok (.dup, 1) := by decide +kernel
theorem dX5_save_22 : decode cX5_save 22 = .ok (.getfield 295, 3) := by decide +kernel
theorem dX5_save_25 : decode cX5_save 25 = .ok (.iconst 1, 1) := by decide +kernel
theorem dX5_save_26 : decode cX5_save 26 = .ok (.isub, 1) := by decide +kernel
theorem dX5_save_27 : decode cX5_save 27 = .ok (.putfield 295, 3) := by decide +kernel
theorem dX5_save_30 : decode cX5_save 30 = .ok (.aload_n 0, 1) := by decide +kernel
theorem dX5_save_31 : decode cX5_save 31 = .ok (.aload_n 0, 1) := by decide +kernel
theorem dX5_save_32 : decode cX5_save 32 = .ok (.getfield 295, 3) := by decide +kernel
theorem dX5_save_35 : decode cX5_save 35 = .ok (.invokevirtual 300, 3) := by decide +kernel
theorem dX5_save_38 : decode cX5_save 38 = .ok (.astore_n 1, 1) := by decide +kernel
theorem dX5_save_39 : decode cX5_save 39 = .ok (.aload_n 1, 1) := by decide +kernel
theorem dX5_save_40 : decode cX5_save 40 = .ok (.ifnull 21, 3) := by decide +kernel
theorem dX5_save_43 : decode cX5_save 43 = .ok (.aload_n 1, 1) := by decide +kernel
theorem dX5_save_44 : decode cX5_save 44 = .ok (.aload_n 0, 1) := by decide +kernel
theorem dX5_save_45 : decode cX5_save 45 = .ok (.getfield 12, 3) := by decide +kernel
theorem dX5_save_48 : decode cX5_save 48 = .ok (.invokevirtual 304, 3) := by decide +kernel
theorem dX5_save_51 : decode cX5_save 51 = .ok (.aload_n 0, 1) := by decide +kernel
theorem dX5_save_52 : decode cX5_save 52 = .ok (.dup, 1) := by decide +kernel
theorem dX5_save_53 : decode cX5_save 53 = .ok (.getfield 295, 3) := by decide +kernel
theorem dX5_save_56 : decode cX5_save 56 = .ok (.iconst 1, 1) := by decide +kernel
theorem dX5_save_57 : decode cX5_save 57 = .ok (.iadd, 1) := by decide +kernel
theorem dX5_save_58 : decode cX5_save 58 = .ok (.putfield 295, 3) := by decide +kernel
theorem dX5_save_61 : decode cX5_save 61 = .ok (.return_, 1) := by decide +kernel
theorem dX5_carryOut_0 : decode cX5_carryOut 0 = .ok (.aload_n 0, 1) := by decide +kernel
theorem dX5_carryOut_1 : decode cX5_carryOut 1 = .ok (.getfield 37, 3) := by decide +kernel
theorem dX5_carryOut_4 : decode cX5_carryOut 4 = .ok (.iconst 0, 1) := by decide +kernel
theorem dX5_carryOut_5 : decode cX5_carryOut 5 = .ok (.invokevirtual 355, 3) := by decide +kernel
theorem dX5_carryOut_8 : decode cX5_carryOut 8 = .ok (.istore_n 1, 1) := by decide +kernel
theorem dX5_carryOut_9 : decode cX5_carryOut 9 = .ok (.aload_n 0, 1) := by decide +kernel
theorem dX5_carryOut_10 : decode cX5_carryOut 10 = .ok (.getfield 37, 3) := by decide +kernel
theorem dX5_carryOut_13 : decode cX5_carryOut 13 = .ok (.iconst 1, 1) := by decide +kernel
theorem dX5_carryOut_14 : decode cX5_carryOut 14 = .ok (.invokevirtual 355, 3) := by decide +kernel
theorem dX5_carryOut_17 : decode cX5_carryOut 17 = .ok (.istore_n 2, 1) := by decide +kernel
theorem dX5_carryOut_18 : decode cX5_carryOut 18 = .ok (.aload_n 0, 1) := by decide +kernel
theorem dX5_carryOut_19 : decode cX5_carryOut 19 = .ok (.getfield 37, 3) := by decide +kernel
theorem dX5_carryOut_22 : decode cX5_carryOut 22 = .ok (.iconst 2, 1) := by decide +kernel
theorem dX5_carryOut_23 : decode cX5_carryOut 23 = .ok (.invokevirtual 355, 3) := by decide +kernel
theorem dX5_carryOut_26 : decode cX5_carryOut 26 = .ok (.istore_n 3, 1) := by decide +kernel
theorem dX5_carryOut_27 : decode cX5_carryOut 27 = .ok (.aload_n 0, 1) := by decide +kernel
theorem dX5_carryOut_28 : decode cX5_carryOut 28 = .ok (.getfield 37, 3) := by decide +kernel
theorem dX5_carryOut_31 : decode cX5_carryOut 31 = .ok (.iconst 3, 1) := by decide +kernel
theorem dX5_carryOut_32 : decode cX5_carryOut 32 = .ok (.invokevirtual 355, 3) := by decide +kernel
theorem dX5_carryOut_35 : decode cX5_carryOut 35 = .ok (.istore 4, 2) := by decide +kernel
theorem dX5_carryOut_37 : decode cX5_carryOut 37 = .ok (.aload_n 0, 1) := by decide +kernel
theorem dX5_carryOut_38 : decode cX5_carryOut 38 = .ok (.getfield 37, 3) := by decide +kernel
theorem dX5_carryOut_41 : decode cX5_carryOut 41 = .ok (.getfield 358, 3) := by decide +kernel
theorem dX5_carryOut_44 : decode cX5_carryOut 44 = .ok (.tableswitch 140 0 8 #[52, 59, 70, 81, 92, 102, 109, 128, 134], 52) := by decide +kernel
theorem dX5_carryOut_96 : decode cX5_carryOut 96 = .ok (.aload_n 0, 1) := by decide +kernel
theorem dX5_carryOut_97 : decode cX5_carryOut 97 = .ok (.iload_n 1, 1) := by decide +kernel
theorem dX5_carryOut_98 : decode cX5_carryOut 98 = .ok (.iload_n 2, 1) := by decide +kernel
theorem dX5_carryOut_99 : decode cX5_carryOut 99 = .ok (.invokevirtual 361, 3) := by decide +kernel
theorem dX5_carryOut_102 : decode cX5_carryOut 102 = .ok (.ireturn, 1) := by decide +kernel
theorem dX5_carryOut_103 : decode cX5_carryOut 103 = .ok (.aload_n 0, 1) := by decide +kernel
theorem dX5_carryOut_104 : decode cX5_carryOut 104 = .ok (.iload_n 1, 1) := by decide +kernel
theorem dX5_carryOut_105 : decode cX5_carryOut 105 = .ok (.iload_n 2, 1) := by decide +kernel
theorem dX5_carryOut_106 : decode cX5_carryOut 106 = .ok (.iload_n 3, 1) := by decide +kernel
theorem dX5_carryOut_107 : decode cX5_carryOut 107 = .ok (.iload 4, 2) := by decide +kernel
theorem dX5_carryOut_109 : decode cX5_carryOut 109 = .ok (.iconst 1, 1) := by decide +kernel
theorem dX5_carryOut_110 : decode cX5_carryOut 110 = .ok (.invokevirtual 364, 3) := by decide +kernel
theorem dX5_carryOut_113 : decode cX5_carryOut 113 = .ok (.ireturn, 1) := by decide +kernel
theorem dX5_carryOut_114 : decode cX5_carryOut 114 = .ok (.aload_n 0, 1) := by decide +kernel
theorem dX5_carryOut_115 : decode cX5_carryOut 115 = .ok (.iload_n 1, 1) := by decide +kernel
theorem dX5_carryOut_116 : decode cX5_carryOut 116 = .ok (.iload_n 2, 1) := by decide +kernel
theorem dX5_carryOut_117 : decode cX5_carryOut 117 = .ok (.iload_n 3, 1) := by decide +kernel
theorem dX5_carryOut_118 : decode cX5_carryOut 118 = .ok (.iload 4, 2) := by decide +kernel
theorem dX5_carryOut_120 : decode cX5_carryOut 120 = .ok (.iconst 2, 1) := by decide +kernel
theorem dX5_carryOut_121 : decode cX5_carryOut 121 = .ok (.invokevirtual 364, 3) := by decide +kernel
theorem dX5_carryOut_124 : decode cX5_carryOut 124 = .ok (.ireturn, 1) := by decide +kernel
theorem dX5_carryOut_125 : decode cX5_carryOut 125 = .ok (.aload_n 0, 1) := by decide +kernel
theorem dX5_carryOut_126 : decode cX5_carryOut 126 = .ok (.iconst 0, 1) := by decide +kernel
theorem dX5_carryOut_127 : decode cX5_carryOut 127 = .ok (.iload_n 1, 1) := by decide +kernel
theorem dX5_carryOut_128 : decode cX5_carryOut 128 = .ok (.iload_n 2, 1) := by decide +kernel
theorem dX5_carryOut_129 : decode cX5_carryOut 129 = .ok (.iload_n 3, 1) := by decide +kernel
theorem dX5_carryOut_130 : decode cX5_carryOut 130 = .ok (.iload 4, 2) := by decide +kernel
theorem dX5_carryOut_132 : decode cX5_carryOut 132 = .ok (.invokevirtual 368, 3) := by decide +kernel
theorem dX5_carryOut_135 : decode cX5_carryOut 135 = .ok (.ireturn, 1) := by decide +kernel
theorem dX5_carryOut_136 : decode cX5_carryOut 136 = .ok (.aload_n 0, 1) := by decide +kernel
theorem dX5_carryOut_137 : decode cX5_carryOut 137 = .ok (.iconst 1, 1) := by decide +kernel
theorem dX5_carryOut_138 : decode cX5_carryOut 138 = .ok (.iload_n 1, 1) := by decide +kernel
theorem dX5_carryOut_139 : decode cX5_carryOut 139 = .ok (.iload_n 2, 1) := by decide +kernel
theorem dX5_carryOut_140 : decode cX5_carryOut 140 = .ok (.iload_n 3, 1) := by decide +kernel
theorem dX5_carryOut_141 : decode cX5_carryOut 141 = .ok (.iconst 1, 1) := by decide +kernel
theorem dX5_carryOut_142 : decode cX5_carryOut 142 = .ok (.invokevirtual 368, 3) := by decide +kernel
theorem dX5_carryOut_145 : decode cX5_carryOut 145 = .ok (.ireturn, 1) := by decide +kernel
theorem dX5_carryOut_146 : decode cX5_carryOut 146 = .ok (.aload_n 0, 1) := by decide +kernel
theorem dX5_carryOut_147 : decode cX5_carryOut 147 = .ok (.iload_n 1, 1) := by decide +kernel
theorem dX5_carryOut_148 : decode cX5_carryOut 148 = .ok (.iload_n 2, 1) := by decide +kernel
theorem dX5_carryOut_149 : decode cX5_carryOut 149 = .ok (.invokevirtual 371, 3) := by decide +kernel
theorem dX5_carryOut_152 : decode cX5_carryOut 152 = .ok (.ireturn, 1) := by decide +kernel
theorem dX5_carryOut_153 : decode cX5_carryOut 153 = .ok (.aload_n 0, 1) := by decide +kernel
theorem dX5_carryOut_154 : decode cX5_carryOut 154 = .ok (.aload_n 0, 1) := by decide +kernel
theorem dX5_carryOut_155 : decode cX5_carryOut 155 = .ok (.getfield 30, 3) := by decide +kernel
theorem dX5_carryOut_158 : decode cX5_carryOut 158 = .ok (.aload_n 0, 1) := by decide +kernel
theorem dX5_carryOut_159 : decode cX5_carryOut 159 = .ok (.getfield 12, 3) := by decide +kernel
theorem dX5_carryOut_162 : decode cX5_carryOut 162 = .ok (.getfield 55, 3) := by decide +kernel
theorem dX5_carryOut_165 : decode cX5_carryOut 165 = .ok (.invokevirtual 149, 3) := by decide +kernel
theorem dX5_carryOut_168 : decode cX5_carryOut 168 = .ok (.invokevirtual 374, 3) := by decide +kernel
theorem dX5_carryOut_171 : decode cX5_carryOut 171 = .ok (.ireturn, 1) := by decide +kernel
theorem dX5_carryOut_172 : decode cX5_carryOut 172 = .ok (.aload_n 0, 1) := by decide +kernel
theorem dX5_carryOut_173 : decode cX5_carryOut 173 = .ok (.iload_n 1, 1) := by decide +kernel
theorem dX5_carryOut_174 : decode cX5_carryOut 174 = .ok (.invokevirtual 377, 3) := by decide +kernel
theorem dX5_carryOut_177 : decode cX5_carryOut 177 = .ok (.ireturn, 1) := by decide +kernel
theorem dX5_carryOut_178 : decode cX5_carryOut 178 = .ok (.aload_n 0, 1) := by decide +kernel
theorem dX5_carryOut_179 : decode cX5_carryOut 179 = .ok (.iload_n 1, 1) := by decide +kernel
theorem dX5_carryOut_180 : decode cX5_carryOut 180 = .ok (.invokevirtual 380, 3) := by decide +kernel
theorem dX5_carryOut_183 : decode cX5_carryOut 183 = .ok (.ireturn, 1) := by decide +kernel
theorem dX5_carryOut_184 : decode cX5_carryOut 184 = .ok (.iconst 0, 1) := by decide +kernel
theorem dX5_carryOut_185 : decode cX5_carryOut 185 = .ok (.ireturn, 1) := by decide +kernel
theorem dX5_carryOutPitch_0 : decode cX5_carryOutPitch 0 = .ok (.iload_n 1, 1) := by decide +kernel
theorem dX5_carryOutPitch_1 : decode cX5_carryOutPitch 1 = .ok (.iload_n 2, 1) := by decide +kernel
theorem dX5_carryOutPitch_2 : decode cX5_carryOutPitch 2 = .ok (.invokestatic 41, 3) := by decide +kernel
theorem dX5_carryOutPitch_5 : decode cX5_carryOutPitch 5 = .ok (.ifCond .ne 5, 3) := by decide +kernel
theorem dX5_carryOutPitch_8 : decode cX5_carryOutPitch 8 = .ok (.iconst 0, 1) := by decide +kernel
theorem dX5_carryOutPitch_9 : decode cX5_carryOutPitch 9 = .ok (.ireturn, 1) := by decide +kernel
theorem dX5_carryOutPitch_10 : decode cX5_carryOutPitch 10 = .ok (.aload_n 0, 1) := by decide +kernel
theorem dX5_carryOutPitch_11 : decode cX5_carryOutPitch 11 = .ok (.iload_n 1, 1) := by decide +kernel
theorem dX5_carryOutPitch_12 : decode cX5_carryOutPitch 12 = .ok (.iload_n 2, 1) := by decide +kernel
theorem dX5_carryOutPitch_13 : decode cX5_carryOutPitch 13 = .ok (.invokevirtual 65, 3) := by decide +kernel
theorem dX5_carryOutPitch_16 : decode cX5_carryOutPitch 16 = .ok (.iconst 1, 1) := by decide +kernel
theorem dX5_carryOutPitch_17 : decode cX5_carryOutPitch 17 = .ok (.ireturn, 1) := by decide +kernel
theorem dX5_carryOutMark_0 : decode cX5_carryOutMark 0 = .ok (.aload_n 0, 1) := by decide +kernel
theorem dX5_carryOutMark_1 : decode cX5_carryOutMark 1 = .ok (.getfield 12, 3) := by decide +kernel
theorem dX5_carryOutMark_4 : decode cX5_carryOutMark 4 = .ok (.getfield 55, 3) := by decide +kernel
theorem dX5_carryOutMark_7 : decode cX5_carryOutMark 7 = .ok (.iload_n 1, 1) := by decide +kernel
theorem dX5_carryOutMark_8 : decode cX5_carryOutMark 8 = .ok (.iload_n 2, 1) := by decide +kernel
theorem dX5_carryOutMark_9 : decode cX5_carryOutMark 9 = .ok (.iload_n 3, 1) := by decide +kernel
theorem dX5_carryOutMark_10 : decode cX5_carryOutMark 10 = .ok (.iload 4, 2) := by decide +kernel
theorem dX5_carryOutMark_12 : decode cX5_carryOutMark 12 = .ok (.invokevirtual 69, 3) := by decide +kernel
theorem dX5_carryOutMark_15 : decode cX5_carryOutMark 15 = .ok (.ifCond .ne 5, 3) := by decide +kernel
theorem dX5_carryOutMark_18 : decode cX5_carryOutMark 18 = .ok (.iconst 0, 1) := by decide +kernel
theorem dX5_carryOutMark_19 : decode cX5_carryOutMark 19 = .ok (.ireturn, 1) := by decide +kernel
theorem dX5_carryOutMark_20 : decode cX5_carryOutMark 20 = .ok (.aload_n 0, 1) := by decide +kernel
theorem dX5_carryOutMark_21 : decode cX5_carryOutMark 21 = .ok (.getfield 12, 3) := by decide +kernel
theorem dX5_carryOutMark_24 : decode cX5_carryOutMark 24 = .ok (.getfield 55, 3) := by decide +kernel
theorem dX5_carryOutMark_27 : decode cX5_carryOutMark 27 = .ok (.aload_n 0, 1) := by decide +kernel
theorem dX5_carryOutMark_28 : decode cX5_carryOutMark 28 = .ok (.getfield 12, 3) := by decide +kernel
theorem dX5_carryOutMark_31 : decode cX5_carryOutMark 31 = .ok (.getfield 55, 3) := by decide +kernel
theorem dX5_carryOutMark_34 : decode cX5_carryOutMark 34 = .ok (.iload_n 1, 1) := by decide +kernel
theorem dX5_carryOutMark_35 : decode cX5_carryOutMark 35 = .ok (.iload_n 2, 1) := by decide +kernel
theorem dX5_carryOutMark_36 : decode cX5_carryOutMark 36 = .ok (.iload_n 3, 1) := by decide +kernel
theorem dX5_carryOutMark_37 : decode cX5_carryOutMark 37 = .ok (.iload 4, 2) := by decide +kernel
theorem dX5_carryOutMark_39 : decode cX5_carryOutMark 39 = .ok (.invokevirtual 75, 3) := by decide +kernel
theorem dX5_carryOutMark_42 : decode cX5_carryOutMark 42 = .ok (.iload 5, 2) := by decide +kernel
theorem dX5_carryOutMark_44 : decode cX5_carryOutMark 44 = .ok (.invokevirtual 79, 3) := by decide +kernel
theorem dX5_carryOutMark_47 : decode cX5_carryOutMark 47 = .ok (.pop, 1) := by decide +kernel
theorem dX5_carryOutMark_48 : decode cX5_carryOutMark 48 = .ok (.iconst 1, 1) := by decide +kernel
theorem dX5_carryOutMark_49 : decode cX5_carryOutMark 49 = .ok (.ireturn, 1) := by decide +kernel
theorem dX5_carryOutAdd_0 : decode cX5_carryOutAdd 0 = .ok (.aload_n 0, 1) := by decide +kernel
theorem dX5_carryOutAdd_1 : decode cX5_carryOutAdd 1 = .ok (.getfield 12, 3) := by decide +kernel
theorem dX5_carryOutAdd_4 : decode cX5_carryOutAdd 4 = .ok (.getfield 55, 3) := by decide +kernel
theorem dX5_carryOutAdd_7 : decode cX5_carryOutAdd 7 = .ok (.iload_n 2, 1) := by decide +kernel
theorem dX5_carryOutAdd_8 : decode cX5_carryOutAdd 8 = .ok (.iload_n 3, 1) := by decide +kernel
theorem dX5_carryOutAdd_9 : decode cX5_carryOutAdd 9 = .ok (.iload 4, 2) := by decide +kernel
theorem dX5_carryOutAdd_11 : decode cX5_carryOutAdd 11 = .ok (.iload 5, 2) := by decide +kernel
theorem dX5_carryOutAdd_13 : decode cX5_carryOutAdd 13 = .ok (.invokevirtual 69, 3) := by decide +kernel
theorem dX5_carryOutAdd_16 : decode cX5_carryOutAdd 16 = .ok (.ifCond .eq 16, 3) := by decide +kernel
theorem dX5_carryOutAdd_19 : decode cX5_carryOutAdd 19 = .ok (.aload_n 0, 1) := by decide +kernel
theorem dX5_carryOutAdd_20 : decode cX5_carryOutAdd 20 = .ok (.getfield 12, 3) := by decide +kernel
theorem dX5_carryOutAdd_23 : decode cX5_carryOutAdd 23 = .ok (.getfield 55, 3) := by decide +kernel
theorem dX5_carryOutAdd_26 : decode cX5_carryOutAdd 26 = .ok (.invokevirtual 102, 3) := by decide +kernel
theorem dX5_carryOutAdd_29 : decode cX5_carryOutAdd 29 = .ok (.ifCond .eq 5, 3) := by decide +kernel
theorem dX5_carryOutAdd_32 : decode cX5_carryOutAdd 32 = .ok (.iconst 0, 1) := by decide +kernel
theorem dX5_carryOutAdd_33 : decode cX5_carryOutAdd 33 = .ok (.ireturn, 1) := by decide +kernel
theorem dX5_carryOutAdd_34 : decode cX5_carryOutAdd 34 = .ok (.aload_n 0, 1) := by decide +kernel
theorem dX5_carryOutAdd_35 : decode cX5_carryOutAdd 35 = .ok (.getfield 12, 3) := by decide +kernel
theorem dX5_carryOutAdd_38 : decode cX5_carryOutAdd 38 = .ok (.getfield 55, 3) := by decide +kernel
theorem dX5_carryOutAdd_41 : decode cX5_carryOutAdd 41 = .ok (.iload_n 1, 1) := by decide +kernel
theorem dX5_carryOutAdd_42 : decode cX5_carryOutAdd 42 = .ok (.iload_n 2, 1) := by decide +kernel
theorem dX5_carryOutAdd_43 : decode cX5_carryOutAdd 43 = .ok (.iload_n 3, 1) := by decide +kernel
theorem dX5_carryOutAdd_44 : decode cX5_carryOutAdd 44 = .ok (.iload 4, 2) := by decide +kernel
theorem dX5_carryOutAdd_46 : decode cX5_carryOutAdd 46 = .ok (.iload 5, 2) := by decide +kernel
theorem dX5_carryOutAdd_48 : decode cX5_carryOutAdd 48 = .ok (.invokevirtual 111, 3) := by decide +kernel
theorem dX5_carryOutAdd_51 : decode cX5_carryOutAdd 51 = .ok (.pop, 1) := by decide +kernel
theorem dX5_carryOutAdd_52 : decode cX5_carryOutAdd 52 = .ok (.iconst 1, 1) := by decide +kernel
theorem dX5_carryOutAdd_53 : decode cX5_carryOutAdd 53 = .ok (.ireturn, 1) := by decide +kernel
theorem dX5_carryOutPlace_0 : decode cX5_carryOutPlace 0 = .ok (.aload_n 0, 1) := by decide +kernel
theorem dX5_carryOutPlace_1 : decode cX5_carryOutPlace 1 = .ok (.getfield 12, 3) := by decide +kernel
theorem dX5_carryOutPlace_4 : decode cX5_carryOutPlace 4 = .ok (.getfield 55, 3) := by decide +kernel
theorem dX5_carryOutPlace_7 : decode cX5_carryOutPlace 7 = .ok (.iload_n 1, 1) := by decide +kernel
theorem dX5_carryOutPlace_8 : decode cX5_carryOutPlace 8 = .ok (.invokevirtual 117, 3) := by decide +kernel
theorem dX5_carryOutPlace_11 : decode cX5_carryOutPlace 11 = .ok (.ifCond .eq 10, 3) := by decide +kernel
theorem dX5_carryOutPlace_14 : decode cX5_carryOutPlace 14 = .ok (.iload_n 2, 1) := by decide +kernel
theorem dX5_carryOutPlace_15 : decode cX5_carryOutPlace 15 = .ok (.invokestatic 136, 3) := by decide +kernel
theorem dX5_carryOutPlace_18 : decode cX5_carryOutPlace 18 = .ok (.ifCond .ne 5, 3) := by decide +kernel
theorem dX5_carryOutPlace_21 : decode cX5_carryOutPlace 21 = .ok (.iconst 0, 1) := by decide +kernel
theorem dX5_carryOutPlace_22 : decode cX5_carryOutPlace 22 = .ok (.ireturn, 1) := by decide +kernel
theorem dX5_carryOutPlace_23 : decode cX5_carryOutPlace 23 = .ok (.aload_n 0, 1) := by decide +kernel
theorem dX5_carryOutPlace_24 : decode cX5_carryOutPlace 24 = .ok (.getfield 12, 3) := by decide +kernel
theorem dX5_carryOutPlace_27 : decode cX5_carryOutPlace 27 = .ok (.getfield 55, 3) := by decide +kernel
theorem dX5_carryOutPlace_30 : decode cX5_carryOutPlace 30 = .ok (.iload_n 1, 1) := by decide +kernel
theorem dX5_carryOutPlace_31 : decode cX5_carryOutPlace 31 = .ok (.bipush 6, 2) := by decide +kernel
theorem dX5_carryOutPlace_33 : decode cX5_carryOutPlace 33 = .ok (.iload_n 2, 1) := by decide +kernel
theorem dX5_carryOutPlace_34 : decode cX5_carryOutPlace 34 = .ok (.invokevirtual 145, 3) := by decide +kernel
theorem dX5_carryOutPlace_37 : decode cX5_carryOutPlace 37 = .ok (.iconst 1, 1) := by decide +kernel
theorem dX5_carryOutPlace_38 : decode cX5_carryOutPlace 38 = .ok (.ireturn, 1) := by decide +kernel
theorem dX5_carryOutPlan_0 : decode cX5_carryOutPlan 0 = .ok (.iload_n 1, 1) := by decide +kernel
theorem dX5_carryOutPlan_1 : decode cX5_carryOutPlan 1 = .ok (.iconst (-1), 1) := by decide +kernel
theorem dX5_carryOutPlan_2 : decode cX5_carryOutPlan 2 = .ok (.if_icmp .ne 5, 3) := by decide +kernel
theorem dX5_carryOutPlan_5 : decode cX5_carryOutPlan 5 = .ok (.iconst 0, 1) := by decide +kernel
theorem dX5_carryOutPlan_6 : decode cX5_carryOutPlan 6 = .ok (.ireturn, 1) := by decide +kernel
theorem dX5_carryOutPlan_7 : decode cX5_carryOutPlan 7 = .ok (.aload_n 0, 1) := by decide +kernel
theorem dX5_carryOutPlan_8 : decode cX5_carryOutPlan 8 = .ok (.getfield 30, 3) := by decide +kernel
theorem dX5_carryOutPlan_11 : decode cX5_carryOutPlan 11 = .ok (.aload_n 0, 1) := by decide +kernel
theorem dX5_carryOutPlan_12 : decode cX5_carryOutPlan 12 = .ok (.getfield 12, 3) := by decide +kernel
theorem dX5_carryOutPlan_15 : decode cX5_carryOutPlan 15 = .ok (.getfield 55, 3) := by decide +kernel
theorem dX5_carryOutPlan_18 : decode cX5_carryOutPlan 18 = .ok (.invokevirtual 155, 3) := by decide +kernel
theorem dX5_carryOutPlan_21 : decode cX5_carryOutPlan 21 = .ok (.iconst 1, 1) := by decide +kernel
theorem dX5_carryOutPlan_22 : decode cX5_carryOutPlan 22 = .ok (.ireturn, 1) := by decide +kernel
theorem dX5_carryOutPilot_0 : decode cX5_carryOutPilot 0 = .ok (.iload_n 1, 1) := by decide +kernel
theorem dX5_carryOutPilot_1 : decode cX5_carryOutPilot 1 = .ok (.invokestatic 136, 3) := by decide +kernel
theorem dX5_carryOutPilot_4 : decode cX5_carryOutPilot 4 = .ok (.ifCond .ne 5, 3) := by decide +kernel
theorem dX5_carryOutPilot_7 : decode cX5_carryOutPilot 7 = .ok (.iconst 0, 1) := by decide +kernel
theorem dX5_carryOutPilot_8 : decode cX5_carryOutPilot 8 = .ok (.ireturn, 1) := by decide +kernel
theorem dX5_carryOutPilot_9 : decode cX5_carryOutPilot 9 = .ok (.aload_n 0, 1) := by decide +kernel
theorem dX5_carryOutPilot_10 : decode cX5_carryOutPilot 10 = .ok (.getfield 12, 3) := by decide +kernel
theorem dX5_carryOutPilot_13 : decode cX5_carryOutPilot 13 = .ok (.getfield 55, 3) := by decide +kernel
theorem dX5_carryOutPilot_16 : decode cX5_carryOutPilot 16 = .ok (.iload_n 1, 1) := by decide +kernel
theorem dX5_carryOutPilot_17 : decode cX5_carryOutPilot 17 = .ok (.iconst 1, 1) := by decide +kernel
theorem dX5_carryOutPilot_18 : decode cX5_carryOutPilot 18 = .ok (.invokevirtual 161, 3) := by decide +kernel
theorem dX5_carryOutPilot_21 : decode cX5_carryOutPilot 21 = .ok (.iconst 1, 1) := by decide +kernel
theorem dX5_carryOutPilot_22 : decode cX5_carryOutPilot 22 = .ok (.ireturn, 1) := by decide +kernel
theorem dX5_carryOutStrokes_0 : decode cX5_carryOutStrokes 0 = .ok (.iload_n 1, 1) := by decide +kernel
theorem dX5_carryOutStrokes_1 : decode cX5_carryOutStrokes 1 = .ok (.iconst 1, 1) := by decide +kernel
theorem dX5_carryOutStrokes_2 : decode cX5_carryOutStrokes 2 = .ok (.if_icmp .lt 9, 3) := by decide +kernel
theorem dX5_carryOutStrokes_5 : decode cX5_carryOutStrokes 5 = .ok (.iload_n 1, 1) := by decide +kernel
theorem dX5_carryOutStrokes_6 : decode cX5_carryOutStrokes 6 = .ok (.bipush 50, 2) := by decide +kernel
theorem dX5_carryOutStrokes_8 : decode cX5_carryOutStrokes 8 = .ok (.if_icmp .le 5, 3) := by decide +kernel
theorem dX5_carryOutStrokes_11 : decode cX5_carryOutStrokes 11 = .ok (.iconst 0, 1) := by decide +kernel
theorem dX5_carryOutStrokes_12 : decode cX5_carryOutStrokes 12 = .ok (.ireturn, 1) := by decide +kernel
theorem dX5_carryOutStrokes_13 : decode cX5_carryOutStrokes 13 = .ok (.iconst 0, 1) := by decide +kernel
theorem dX5_carryOutStrokes_14 : decode cX5_carryOutStrokes 14 = .ok (.istore_n 2, 1) := by decide +kernel
theorem dX5_carryOutStrokes_15 : decode cX5_carryOutStrokes 15 = .ok (.iload_n 2, 1) := by decide +kernel
theorem dX5_carryOutStrokes_16 : decode cX5_carryOutStrokes 16 = .ok (.iload_n 1, 1) := by decide +kernel
theorem dX5_carryOutStrokes_17 : decode cX5_carryOutStrokes 17 = .ok (.if_icmp .ge 27, 3) := by decide +kernel
theorem dX5_carryOutStrokes_20 : decode cX5_carryOutStrokes 20 = .ok (.aload_n 0, 1) := by decide +kernel
theorem dX5_carryOutStrokes_21 : decode cX5_carryOutStrokes 21 = .ok (.getfield 12, 3) := by decide +kernel
theorem dX5_carryOutStrokes_24 : decode cX5_carryOutStrokes 24 = .ok (.getfield 130, 3) := by decide +kernel
theorem dX5_carryOutStrokes_27 : decode cX5_carryOutStrokes 27 = .ok (.aload_n 0, 1) := by decide +kernel
theorem dX5_carryOutStrokes_28 : decode cX5_carryOutStrokes 28 = .ok (.getfield 12, 3) := by decide +kernel
theorem dX5_carryOutStrokes_31 : decode cX5_carryOutStrokes 31 = .ok (.getfield 55, 3) := by decide +kernel
theorem dX5_carryOutStrokes_34 : decode cX5_carryOutStrokes 34 = .ok (.invokevirtual 173, 3) := by decide +kernel
theorem dX5_carryOutStrokes_37 : decode cX5_carryOutStrokes 37 = .ok (.pop, 1) := by decide +kernel
theorem dX5_carryOutStrokes_38 : decode cX5_carryOutStrokes 38 = .ok (.iinc 2 1, 3) := by decide +kernel
theorem dX5_carryOutStrokes_41 : decode cX5_carryOutStrokes 41 = .ok (.goto (-26), 3) := by decide +kernel
theorem dX5_carryOutStrokes_44 : decode cX5_carryOutStrokes 44 = .ok (.iconst 1, 1) := by decide +kernel
theorem dX5_carryOutStrokes_45 : decode cX5_carryOutStrokes 45 = .ok (.ireturn, 1) := by decide +kernel
theorem dX5_isIn_0 : decode cX5_isIn 0 = .ok (.iload_n 0, 1) := by decide +kernel
theorem dX5_isIn_1 : decode cX5_isIn 1 = .ok (.iload_n 1, 1) := by decide +kernel
theorem dX5_isIn_2 : decode cX5_isIn 2 = .ok (.ishr, 1) := by decide +kernel
theorem dX5_isIn_3 : decode cX5_isIn 3 = .ok (.iconst 1, 1) := by decide +kernel
theorem dX5_isIn_4 : decode cX5_isIn 4 = .ok (.iand, 1) := by decide +kernel
theorem dX5_isIn_5 : decode cX5_isIn 5 = .ok (.ifCond .eq 7, 3) := by decide +kernel
theorem dX5_isIn_8 : decode cX5_isIn 8 = .ok (.iconst 1, 1) := by decide +kernel
theorem dX5_isIn_9 : decode cX5_isIn 9 = .ok (.goto 4, 3) := by decide +kernel
theorem dX5_isIn_12 : decode cX5_isIn 12 = .ok (.iconst 0, 1) := by decide +kernel
theorem dX5_isIn_13 : decode cX5_isIn 13 = .ok (.ireturn, 1) := by decide +kernel
theorem dX5_copyInts_0 : decode cX5_copyInts 0 = .ok (.iconst 0, 1) := by decide +kernel
theorem dX5_copyInts_1 : decode cX5_copyInts 1 = .ok (.istore_n 2, 1) := by decide +kernel
theorem dX5_copyInts_2 : decode cX5_copyInts 2 = .ok (.iload_n 2, 1) := by decide +kernel
theorem dX5_copyInts_3 : decode cX5_copyInts 3 = .ok (.aload_n 0, 1) := by decide +kernel
theorem dX5_copyInts_4 : decode cX5_copyInts 4 = .ok (.arraylength, 1) := by decide +kernel
theorem dX5_copyInts_5 : decode cX5_copyInts 5 = .ok (.if_icmp .ge 21, 3) := by decide +kernel
theorem dX5_copyInts_8 : decode cX5_copyInts 8 = .ok (.iload_n 2, 1) := by decide +kernel
theorem dX5_copyInts_9 : decode cX5_copyInts 9 = .ok (.aload_n 1, 1) := by decide +kernel
theorem dX5_copyInts_10 : decode cX5_copyInts 10 = .ok (.arraylength, 1) := by decide +kernel
theorem dX5_copyInts_11 : decode cX5_copyInts 11 = .ok (.if_icmp .ge 15, 3) := by decide +kernel
theorem dX5_copyInts_14 : decode cX5_copyInts 14 = .ok (.aload_n 1, 1) := by decide +kernel
theorem dX5_copyInts_15 : decode cX5_copyInts 15 = .ok (.iload_n 2, 1) := by decide +kernel
theorem dX5_copyInts_16 : decode cX5_copyInts 16 = .ok (.aload_n 0, 1) := by decide +kernel
theorem dX5_copyInts_17 : decode cX5_copyInts 17 = .ok (.iload_n 2, 1) := by decide +kernel
theorem dX5_copyInts_18 : decode cX5_copyInts 18 = .ok (.iaload, 1) := by decide +kernel
theorem dX5_copyInts_19 : decode cX5_copyInts 19 = .ok (.iastore, 1) := by decide +kernel
theorem dX5_copyInts_20 : decode cX5_copyInts 20 = .ok (.iinc 2 1, 3) := by decide +kernel
theorem dX5_copyInts_23 : decode cX5_copyInts 23 = .ok (.goto (-21), 3) := by decide +kernel
theorem dX5_copyInts_26 : decode cX5_copyInts 26 = .ok (.return_, 1) := by decide +kernel
theorem dX5_copyLongs_0 : decode cX5_copyLongs 0 = .ok (.iconst 0, 1) := by decide +kernel
theorem dX5_copyLongs_1 : decode cX5_copyLongs 1 = .ok (.istore_n 2, 1) := by decide +kernel
theorem dX5_copyLongs_2 : decode cX5_copyLongs 2 = .ok (.iload_n 2, 1) := by decide +kernel
theorem dX5_copyLongs_3 : decode cX5_copyLongs 3 = .ok (.aload_n 0, 1) := by decide +kernel
theorem dX5_copyLongs_4 : decode cX5_copyLongs 4 = .ok (.arraylength, 1) := by decide +kernel
theorem dX5_copyLongs_5 : decode cX5_copyLongs 5 = .ok (.if_icmp .ge 21, 3) := by decide +kernel
theorem dX5_copyLongs_8 : decode cX5_copyLongs 8 = .ok (.iload_n 2, 1) := by decide +kernel
theorem dX5_copyLongs_9 : decode cX5_copyLongs 9 = .ok (.aload_n 1, 1) := by decide +kernel
theorem dX5_copyLongs_10 : decode cX5_copyLongs 10 = .ok (.arraylength, 1) := by decide +kernel
theorem dX5_copyLongs_11 : decode cX5_copyLongs 11 = .ok (.if_icmp .ge 15, 3) := by decide +kernel
theorem dX5_copyLongs_14 : decode cX5_copyLongs 14 = .ok (.aload_n 1, 1) := by decide +kernel
theorem dX5_copyLongs_15 : decode cX5_copyLongs 15 = .ok (.iload_n 2, 1) := by decide +kernel
theorem dX5_copyLongs_16 : decode cX5_copyLongs 16 = .ok (.aload_n 0, 1) := by decide +kernel
theorem dX5_copyLongs_17 : decode cX5_copyLongs 17 = .ok (.iload_n 2, 1) := by decide +kernel
theorem dX5_copyLongs_18 : decode cX5_copyLongs 18 = .ok (.laload, 1) := by decide +kernel
theorem dX5_copyLongs_19 : decode cX5_copyLongs 19 = .ok (.lastore, 1) := by decide +kernel
theorem dX5_copyLongs_20 : decode cX5_copyLongs 20 = .ok (.iinc 2 1, 3) := by decide +kernel
theorem dX5_copyLongs_23 : decode cX5_copyLongs 23 = .ok (.goto (-21), 3) := by decide +kernel
theorem dX5_copyLongs_26 : decode cX5_copyLongs 26 = .ok (.return_, 1) := by decide +kernel
theorem dX6_init_0 : decode cX6_init 0 = .ok (.aload_n 0, 1) := by decide +kernel
theorem dX6_init_1 : decode cX6_init 1 = .ok (.invokespecial 1, 3) := by decide +kernel
theorem dX6_init_4 : decode cX6_init 4 = .ok (.aload_n 0, 1) := by decide +kernel
theorem dX6_init_5 : decode cX6_init 5 = .ok (.bipush 100, 2) := by decide +kernel
theorem dX6_init_7 : decode cX6_init 7 = .ok (.newarray .long, 2) := by decide +kernel
theorem dX6_init_9 : decode cX6_init 9 = .ok (.putfield 7, 3) := by decide +kernel
theorem dX6_init_12 : decode cX6_init 12 = .ok (.aload_n 0, 1) := by decide +kernel
theorem dX6_init_13 : decode cX6_init 13 = .ok (.sipush 400, 3) := by decide +kernel
theorem dX6_init_16 : decode cX6_init 16 = .ok (.newarray .long, 2) := by decide +kernel
theorem dX6_init_18 : decode cX6_init 18 = .ok (.putfield 13, 3) := by decide +kernel
theorem dX6_init_21 : decode cX6_init 21 = .ok (.aload_n 0, 1) := by decide +kernel
theorem dX6_init_22 : decode cX6_init 22 = .ok (.bipush 100, 2) := by decide +kernel
theorem dX6_init_24 : decode cX6_init 24 = .ok (.newarray .long, 2) := by decide +kernel
theorem dX6_init_26 : decode cX6_init 26 = .ok (.putfield 16, 3) := by decide +kernel
theorem dX6_init_29 : decode cX6_init 29 = .ok (.aload_n 0, 1) := by decide +kernel
theorem dX6_init_30 : decode cX6_init 30 = .ok (.bipush 6, 2) := by decide +kernel
theorem dX6_init_32 : decode cX6_init 32 = .ok (.newarray .int, 2) := by decide +kernel
theorem dX6_init_34 : decode cX6_init 34 = .ok (.putfield 19, 3) := by decide +kernel
theorem dX6_init_37 : decode cX6_init 37 = .ok (.aload_n 0, 1) := by decide +kernel
theorem dX6_init_38 : decode cX6_init 38 = .ok (.bipush 6, 2) := by decide +kernel
theorem dX6_init_40 : decode cX6_init 40 = .ok (.newarray .int, 2) := by decide +kernel
theorem dX6_init_42 : decode cX6_init 42 = .ok (.putfield 23, 3) := by decide +kernel
theorem dX6_init_45 : decode cX6_init 45 = .ok (.aload_n 0, 1) := by decide +kernel
theorem dX6_init_46 : decode cX6_init 46 = .ok (.bipush 6, 2) := by decide +kernel
theorem dX6_init_48 : decode cX6_init 48 = .ok (.newarray .int, 2) := by decide +kernel
theorem dX6_init_50 : decode cX6_init 50 = .ok (.putfield 26, 3) := by decide +kernel
theorem dX6_init_53 : decode cX6_init 53 = .ok (.aload_n 0, 1) := by decide +kernel
theorem dX6_init_54 : decode cX6_init 54 = .ok (.sipush 150, 3) := by decide +kernel
theorem dX6_init_57 : decode cX6_init 57 = .ok (.newarray .int, 2) := by decide +kernel
theorem dX6_init_59 : decode cX6_init 59 = .ok (.putfield 29, 3) := by decide +kernel
theorem dX6_init_62 : decode cX6_init 62 = .ok (.aload_n 0, 1) := by decide +kernel
theorem dX6_init_63 : decode cX6_init 63 = .ok (.bipush 40, 2) := by decide +kernel
theorem dX6_init_65 : decode cX6_init 65 = .ok (.newarray .int, 2) := by decide +kernel
theorem dX6_init_67 : decode cX6_init 67 = .ok (.putfield 32, 3) := by decide +kernel
theorem dX6_init_70 : decode cX6_init 70 = .ok (.aload_n 0, 1) := by decide +kernel
theorem dX6_init_71 : decode cX6_init 71 = .ok (.sipush 160, 3) := by decide +kernel
theorem dX6_init_74 : decode cX6_init 74 = .ok (.newarray .int, 2) := by decide +kernel
theorem dX6_init_76 : decode cX6_init 76 = .ok (.putfield 35, 3) := by decide +kernel
theorem dX6_init_79 : decode cX6_init 79 = .ok (.aload_n 0, 1) := by decide +kernel
theorem dX6_init_80 : decode cX6_init 80 = .ok (.getfield 7, 3) := by decide +kernel
theorem dX6_init_83 : decode cX6_init 83 = .ok (.iconst 0, 1) := by decide +kernel
theorem dX6_init_84 : decode cX6_init 84 = .ok (.ldc2_w 38, 3) := by decide +kernel
theorem dX6_init_87 : decode cX6_init 87 = .ok (.lastore, 1) := by decide +kernel
theorem dX6_init_88 : decode cX6_init 88 = .ok (.aload_n 0, 1) := by decide +kernel
theorem dX6_init_89 : decode cX6_init 89 = .ok (.getfield 7, 3) := by decide +kernel
theorem dX6_init_92 : decode cX6_init 92 = .ok (.iconst 1, 1) := by decide +kernel
theorem dX6_init_93 : decode cX6_init 93 = .ok (.ldc2_w 40, 3) := by decide +kernel
theorem dX6_init_96 : decode cX6_init 96 = .ok (.lastore, 1) := by decide +kernel
theorem dX6_init_97 : decode cX6_init 97 = .ok (.aload_n 0, 1) := by decide +kernel
theorem dX6_init_98 : decode cX6_init 98 = .ok (.getfield 7, 3) := by decide +kernel
theorem dX6_init_101 : decode cX6_init 101 = .ok (.iconst 3, 1) := by decide +kernel
theorem dX6_init_102 : decode cX6_init 102 = .ok (.ldc2_w 42, 3) := by decide +kernel
theorem dX6_init_105 : decode cX6_init 105 = .ok (.lastore, 1) := by decide +kernel
theorem dX6_init_106 : decode cX6_init 106 = .ok (.aload_n 0, 1) := by decide +kernel
theorem dX6_init_107 : decode cX6_init 107 = .ok (.getfield 7, 3) := by decide +kernel
theorem dX6_init_110 : decode cX6_init 110 = .ok (.iconst 5, 1) := by decide +kernel
theorem dX6_init_111 : decode cX6_init 111 = .ok (.lconst 1, 1) := by decide +kernel
theorem dX6_init_112 : decode cX6_init 112 = .ok (.lastore, 1) := by decide +kernel
theorem dX6_init_113 : decode cX6_init 113 = .ok (.aload_n 0, 1) := by decide +kernel
theorem dX6_init_114 : decode cX6_init 114 = .ok (.getfield 7, 3) := by decide +kernel
theorem dX6_init_117 : decode cX6_init 117 = .ok (.bipush 6, 2) := by decide +kernel
theorem dX6_init_119 : decode cX6_init 119 = .ok (.ldc2_w 44, 3) := by decide +kernel
theorem dX6_init_122 : decode cX6_init 122 = .ok (.lastore, 1) := by decide +kernel
theorem dX6_init_123 : decode cX6_init 123 = .ok (.aload_n 0, 1) := by decide +kernel
theorem dX6_init_124 : decode cX6_init 124 = .ok (.getfield 7, 3) := by decide +kernel
theorem dX6_init_127 : decode cX6_init 127 = .ok (.bipush 7, 2) := by decide +kernel
theorem dX6_init_129 : decode cX6_init 129 = .ok (.ldc2_w 46, 3) := by decide +kernel
theorem dX6_init_132 : decode cX6_init 132 = .ok (.lastore, 1) := by decide +kernel
theorem dX6_init_133 : decode cX6_init 133 = .ok (.return_, 1) := by decide +kernel
theorem dX6_thrown_0 : decode cX6_thrown 0 = .ok (.aload_n 0, 1) := by decide +kernel
theorem dX6_thrown_1 : decode cX6_thrown 1 = .ok (.getfield 48, 3) := by decide +kernel
theorem dX6_thrown_4 : decode cX6_thrown 4 = .ok (.ireturn, 1) := by decide +kernel
theorem dX6_fails_0 : decode cX6_fails 0 = .ok (.aload_n 0, 1) := by decide +kernel
theorem dX6_fails_1 : decode cX6_fails 1 = .ok (.iload_n 1, 1) := by decide +kernel
theorem dX6_fails_2 : decode cX6_fails 2 = .ok (.putfield 48, 3) := by decide +kernel
theorem dX6_fails_5 : decode cX6_fails 5 = .ok (.iconst 0, 1) := by decide +kernel
theorem dX6_fails_6 : decode cX6_fails 6 = .ok (.ireturn, 1) := by decide +kernel
theorem dX6_in_0 : decode cX6_in 0 = .ok (.iload_n 0, 1) := by decide +kernel
theorem dX6_in_1 : decode cX6_in 1 = .ok (.iload_n 1, 1) := by decide +kernel
theorem dX6_in_2 : decode cX6_in 2 = .ok (.if_icmp .lt 12, 3) := by decide +kernel
theorem dX6_in_5 : decode cX6_in 5 = .ok (.iload_n 0, 1) := by decide +kernel
theorem dX6_in_6 : decode cX6_in 6 = .ok (.iload_n 2, 1) := by decide +kernel
theorem dX6_in_7 : decode cX6_in 7 = .ok (.if_icmp .gt 7, 3) := by decide +kernel
theorem dX6_in_10 : decode cX6_in 10 = .ok (.iconst 1, 1) := by decide +kernel
theorem dX6_in_11 : decode cX6_in 11 = .ok (.goto 4, 3) := by decide +kernel
theorem dX6_in_14 : decode cX6_in 14 = .ok (.iconst 0, 1) := by decide +kernel
theorem dX6_in_15 : decode cX6_in 15 = .ok (.ireturn, 1) := by decide +kernel
theorem dX6_many_0 : decode cX6_many 0 = .ok (.aload_n 0, 1) := by decide +kernel
theorem dX6_many_1 : decode cX6_many 1 = .ok (.getfield 7, 3) := by decide +kernel
theorem dX6_many_4 : decode cX6_many 4 = .ok (.iload_n 1, 1) := by decide +kernel
theorem dX6_many_5 : decode cX6_many 5 = .ok (.laload, 1) := by decide +kernel
theorem dX6_many_6 : decode cX6_many 6 = .ok (.l2i, 1) := by decide +kernel
theorem dX6_many_7 : decode cX6_many 7 = .ok (.ireturn, 1) := by decide +kernel
theorem dX6_setting_0 : decode cX6_setting 0 = .ok (.aload_n 0, 1) := by decide +kernel
theorem dX6_setting_1 : decode cX6_setting 1 = .ok (.getfield 7, 3) := by decide +kernel
theorem dX6_setting_4 : decode cX6_setting 4 = .ok (.iconst 3, 1) := by decide +kernel
theorem dX6_setting_5 : decode cX6_setting 5 = .ok (.iload_n 1, 1) := by decide +kernel
theorem dX6_setting_6 : decode cX6_setting 6 = .ok (.iadd, 1) := by decide +kernel
theorem dX6_setting_7 : decode cX6_setting 7 = .ok (.laload, 1) := by decide +kernel
theorem dX6_setting_8 : decode cX6_setting 8 = .ok (.l2i, 1) := by decide +kernel
theorem dX6_setting_9 : decode cX6_setting 9 = .ok (.ireturn, 1) := by decide +kernel
theorem dX6_ofOp_0 : decode cX6_ofOp 0 = .ok (.aload_n 0, 1) := by decide +kernel
theorem dX6_ofOp_1 : decode cX6_ofOp 1 = .ok (.getfield 7, 3) := by decide +kernel
theorem dX6_ofOp_4 : decode cX6_ofOp 4 = .ok (.bipush 20, 2) := by decide +kernel
theorem dX6_ofOp_6 : decode cX6_ofOp 6 = .ok (.bipush 6, 2) := by decide +kernel
theorem dX6_ofOp_8 : decode cX6_ofOp 8 = .ok (.iload_n 1, 1) := by decide +kernel
theorem dX6_ofOp_9 : decode cX6_ofOp 9 = .ok (.imul, 1) := by decide +kernel
theorem dX6_ofOp_10 : decode cX6_ofOp 10 = .ok (.iadd, 1) := by decide +kernel
theorem dX6_ofOp_11 : decode cX6_ofOp 11 = .ok (.iload_n 2, 1) := by decide +kernel
theorem dX6_ofOp_12 : decode cX6_ofOp 12 = .ok (.iadd, 1) := by decide +kernel
theorem dX6_ofOp_13 : decode cX6_ofOp 13 = .ok (.laload, 1) := by decide +kernel
theorem dX6_ofOp_14 : decode cX6_ofOp 14 = .ok (.l2i, 1) := by decide +kernel
theorem dX6_ofOp_15 : decode cX6_ofOp 15 = .ok (.ireturn, 1) := by decide +kernel
theorem dX6_isOp_0 : decode cX6_isOp 0 = .ok (.iload_n 1, 1) := by decide +kernel
theorem dX6_isOp_1 : decode cX6_isOp 1 = .ok (.iconst 0, 1) := by decide +kernel
theorem dX6_isOp_2 : decode cX6_isOp 2 = .ok (.aload_n 0, 1) := by decide +kernel
theorem dX6_isOp_3 : decode cX6_isOp 3 = .ok (.bipush 8, 2) := by decide +kernel
theorem dX6_isOp_5 : decode cX6_isOp 5 = .ok (.invokevirtual 52, 3) := by decide +kernel
theorem dX6_isOp_8 : decode cX6_isOp 8 = .ok (.iconst 1, 1) := by decide +kernel
theorem dX6_isOp_9 : decode cX6_isOp 9 = .ok (.isub, 1) := by decide +kernel
theorem dX6_isOp_10 : decode cX6_isOp 10 = .ok (.invokestatic 56, 3) := by decide +kernel
theorem dX6_isOp_13 : decode cX6_isOp 13 = .ok (.ireturn, 1) := by decide +kernel
theorem dX6_ofPitch_0 : decode cX6_ofPitch 0 = .ok (.aload_n 0, 1) := by decide +kernel
theorem dX6_ofPitch_1 : decode cX6_ofPitch 1 = .ok (.getfield 7, 3) := by decide +kernel
theorem dX6_ofPitch_4 : decode cX6_ofPitch 4 = .ok (.bipush 60, 2) := by decide +kernel
theorem dX6_ofPitch_6 : decode cX6_ofPitch 6 = .ok (.iconst 5, 1) := by decide +kernel
theorem dX6_ofPitch_7 : decode cX6_ofPitch 7 = .ok (.iload_n 1, 1) := by decide +kernel
theorem dX6_ofPitch_8 : decode cX6_ofPitch 8 = .ok (.imul, 1) := by decide +kernel
theorem dX6_ofPitch_9 : decode cX6_ofPitch 9 = .ok (.iadd, 1) := by decide +kernel
theorem dX6_ofPitch_10 : decode cX6_ofPitch 10 = .ok (.iload_n 2, 1) := by decide +kernel
theorem dX6_ofPitch_11 : decode cX6_ofPitch 11 = .ok (.iadd, 1) := by decide +kernel
theorem dX6_ofPitch_12 : decode cX6_ofPitch 12 = .ok (.laload, 1) := by decide +kernel
theorem dX6_ofPitch_13 : decode cX6_ofPitch 13 = .ok (.lreturn, 1) := by decide +kernel
theorem dX6_ones_0 : decode cX6_ones 0 = .ok (.iconst 0, 1) := by decide +kernel
theorem dX6_ones_1 : decode cX6_ones 1 = .ok (.istore_n 2, 1) := by decide +kernel
theorem dX6_ones_2 : decode cX6_ones 2 = .ok (.iconst 0, 1) := by decide +kernel
theorem dX6_ones_3 : decode cX6_ones 3 = .ok (.istore_n 3, 1) := by decide +kernel
theorem dX6_ones_4 : decode cX6_ones 4 = .ok (.iload_n 3, 1) := by decide +kernel
theorem dX6_ones_5 : decode cX6_ones 5 = .ok (.bipush 60, 2) := by decide +kernel
theorem dX6_ones_7 : decode cX6_ones 7 = .ok (.if_icmp .ge 18, 3) := by decide +kernel
theorem dX6_ones_10 : decode cX6_ones 10 = .ok (.iload_n 2, 1) := by decide +kernel
theorem dX6_ones_11 : decode cX6_ones 11 = .ok (.lload_n 0, 1) := by decide +kernel
theorem dX6_ones_12 : decode cX6_ones 12 = .ok (.iload_n 3, 1) := by decide +kernel
theorem dX6_ones_13 : decode cX6_ones 13 = .ok (.lshr, 1) := by decide +kernel
theorem dX6_ones_14 : decode cX6_ones 14 = .ok (.lconst 1, 1) := by decide +kernel
theorem dX6_ones_15 : decode cX6_ones 15 = .ok (.land, 1) := by decide +kernel
theorem dX6_ones_16 : decode cX6_ones 16 = .ok (.l2i, 1) := by decide +kernel
theorem dX6_ones_17 : decode cX6_ones 17 = .ok (.iadd, 1) := by decide +kernel
theorem dX6_ones_18 : decode cX6_ones 18 = .ok (.istore_n 2, 1) := by decide +kernel
theorem dX6_ones_19 : decode cX6_ones 19 = .ok (.iinc 3 1, 3) := by decide +kernel
theorem dX6_ones_22 : decode cX6_ones 22 = .ok (.goto (-18), 3) := by decide +kernel
theorem dX6_ones_25 : decode cX6_ones 25 = .ok (.iload_n 2, 1) := by decide +kernel
theorem dX6_ones_26 : decode cX6_ones 26 = .ok (.ireturn, 1) := by decide +kernel
theorem dX6_save_0 : decode cX6_save 0 = .ok (.aload_n 0, 1) := by decide +kernel
theorem dX6_save_1 : decode cX6_save 1 = .ok (.getfield 60, 3) := by decide +kernel
theorem dX6_save_4 : decode cX6_save 4 = .ok (.ifCond .eq 4, 3) := by decide +kernel
theorem dX6_save_7 : decode cX6_save 7 = .ok (.return_, 1) := by decide +kernel
theorem dX6_save_8 : decode cX6_save 8 = .ok (.aload_n 0, 1) := by decide +kernel
theorem dX6_save_9 : decode cX6_save 9 = .ok (.getfield 64, 3) := by decide +kernel
theorem dX6_save_12 : decode cX6_save 12 = .ok (.iconst 4, 1) := by decide +kernel
theorem dX6_save_13 : decode cX6_save 13 = .ok (.if_icmp .ne 43, 3) := by decide +kernel
theorem dX6_save_16 : decode cX6_save 16 = .ok (.iconst 0, 1) := by decide +kernel
theorem dX6_save_17 : decode cX6_save 17 = .ok (.istore_n 1, 1) := by decide +kernel
theorem dX6_save_18 : decode cX6_save 18 = .ok (.iload_n 1, 1) := by decide +kernel
theorem dX6_save_19 : decode cX6_save 19 = .ok (.sipush 300, 3) := by decide +kernel
theorem dX6_save_22 : decode cX6_save 22 = .ok (.if_icmp .ge 24, 3) := by decide +kernel
theorem dX6_save_25 : decode cX6_save 25 = .ok (.aload_n 0, 1) := by decide +kernel
theorem dX6_save_26 : decode cX6_save 26 = .ok (.getfield 13, 3) := by decide +kernel
theorem dX6_save_29 : decode cX6_save 29 = .ok (.iload_n 1, 1) := by decide +kernel
theorem dX6_save_30 : decode cX6_save 30 = .ok (.aload_n 0, 1) := by decide +kernel
theorem dX6_save_31 : decode cX6_save 31 = .ok (.getfield 13, 3) := by decide +kernel
theorem dX6_save_34 : decode cX6_save 34 = .ok (.iload_n 1, 1) := by decide +kernel
theorem dX6_save_35 : decode cX6_save 35 = .ok (.bipush 100, 2) := by decide +kernel
theorem dX6_save_37 : decode cX6_save 37 = .ok (.iadd, 1) := by decide +kernel
theorem dX6_save_38 : decode cX6_save 38 = .ok (.laload, 1) := by decide +kernel
theorem dX6_save_39 : decode cX6_save 39 = .ok (.lastore, 1) := by decide +kernel
theorem dX6_save_40 : decode cX6_save 40 = .ok (.iinc 1 1, 3) := by decide +kernel
theorem dX6_save_43 : decode cX6_save 43 = .ok (.goto (-25), 3) := by decide +kernel
theorem dX6_save_46 : decode cX6_save 46 = .ok (.aload_n 0, 1) := by decide +kernel
theorem dX6_save_47 : decode cX6_save 47 = .ok (.dup, 1) := by decide +kernel
theorem dX6_save_48 : decode cX6_save 48 = .ok (.getfield 64, 3) := by decide +kernel
theorem dX6_save_51 : decode cX6_save 51 = .ok (.iconst 1, 1) := by decide +kernel
theorem dX6_save_52 : decode cX6_save 52 = .ok (.isub, 1) := by decide +kernel
theorem dX6_save_53 : decode cX6_save 53 = .ok (.putfield 64, 3) := by decide +kernel
theorem dX6_save_56 : decode cX6_save 56 = .ok (.iconst 0, 1) := by decide +kernel
theorem dX6_save_57 : decode cX6_save 57 = .ok (.istore_n 1, 1) := by decide +kernel
theorem dX6_save_58 : decode cX6_save 58 = .ok (.iload_n 1, 1) := by decide +kernel
theorem dX6_save_59 : decode cX6_save 59 = .ok (.bipush 100, 2) := by decide +kernel
theorem dX6_save_61 : decode cX6_save 61 = .ok (.if_icmp .ge 29, 3) := by decide +kernel
theorem dX6_save_64 : decode cX6_save 64 = .ok (.aload_n 0, 1) := by decide +kernel
theorem dX6_save_65 : decode cX6_save 65 = .ok (.getfield 13, 3) := by decide +kernel
theorem dX6_save_68 : decode cX6_save 68 = .ok (.bipush 100, 2) := by decide +kernel
theorem dX6_save_70 : decode cX6_save 70 = .ok (.aload_n 0, 1) := by decide +kernel
theorem dX6_save_71 : decode cX6_save 71 = .ok (.getfield 64, 3) := by decide +kernel
theorem dX6_save_74 : decode cX6_save 74 = .ok (.imul, 1) := by decide +kernel
theorem dX6_save_75 : decode cX6_save 75 = .ok (.iload_n 1, 1) := by decide +kernel
theorem dX6_save_76 : decode cX6_save 76 = .ok (.iadd, 1) := by decide +kernel
theorem dX6_save_77 : decode cX6_save 77 = .ok (.aload_n 0, 1) := by decide +kernel
theorem dX6_save_78 : decode cX6_save 78 = .ok (.getfield 7, 3) := by decide +kernel
theorem dX6_save_81 : decode cX6_save 81 = .ok (.iload_n 1, 1) := by decide +kernel
theorem dX6_save_82 : decode cX6_save 82 = .ok (.laload, 1) := by decide +kernel
theorem dX6_save_83 : decode cX6_save 83 = .ok (.lastore, 1) := by decide +kernel
theorem dX6_save_84 : decode cX6_save 84 = .ok (.iinc 1 1, 3) := by decide +kernel
theorem dX6_save_87 : decode cX6_save 87 = .ok (.goto (-29), 3) := by decide +kernel
theorem dX6_save_90 : decode cX6_save 90 = .ok (.aload_n 0, 1) := by decide +kernel
theorem dX6_save_91 : decode cX6_save 91 = .ok (.dup, 1) := by decide +kernel
theorem dX6_save_92 : decode cX6_save 92 = .ok (.getfield 64, 3) := by decide +kernel
theorem dX6_save_95 : decode cX6_save 95 = .ok (.iconst 1, 1) := by decide +kernel
theorem dX6_save_96 : decode cX6_save 96 = .ok (.iadd, 1) := by decide +kernel
theorem dX6_save_97 : decode cX6_save 97 = .ok (.putfield 64, 3) := by decide +kernel
theorem dX6_save_100 : decode cX6_save 100 = .ok (.return_, 1) := by decide +kernel
theorem dX6_isRectangle_0 : decode cX6_isRectangle 0 = .ok (.iload_n 1, 1) := by decide +kernel
theorem dX6_isRectangle_1 : decode cX6_isRectangle 1 = .ok (.iconst 0, 1) := by decide +kernel
theorem dX6_isRectangle_2 : decode cX6_isRectangle 2 = .ok (.aload_n 0, 1) := by decide +kernel
theorem dX6_isRectangle_3 : decode cX6_isRectangle 3 = .ok (.iconst 0, 1) := by decide +kernel
theorem dX6_isRectangle_4 : decode cX6_isRectangle 4 = .ok (.invokevirtual 52, 3) := by decide +kernel
theorem dX6_isRectangle_7 : decode cX6_isRectangle 7 = .ok (.iconst 1, 1) := by decide +kernel
theorem dX6_isRectangle_8 : decode cX6_isRectangle 8 = .ok (.isub, 1) := by decide +kernel
theorem dX6_isRectangle_9 : decode cX6_isRectangle 9 = .ok (.invokestatic 56, 3) := by decide +kernel
theorem dX6_isRectangle_12 : decode cX6_isRectangle 12 = .ok (.ifCond .eq 53, 3) := by decide +kernel
theorem dX6_isRectangle_15 : decode cX6_isRectangle 15 = .ok (.iload_n 2, 1) := by decide +kernel
theorem dX6_isRectangle_16 : decode cX6_isRectangle 16 = .ok (.iconst 0, 1) := by decide +kernel
theorem dX6_isRectangle_17 : decode cX6_isRectangle 17 = .ok (.aload_n 0, 1) := by decide +kernel
theorem dX6_isRectangle_18 : decode cX6_isRectangle 18 = .ok (.iconst 1, 1) := by decide +kernel
theorem dX6_isRectangle_19 : decode cX6_isRectangle 19 = .ok (.invokevirtual 52, 3) := by decide +kernel
theorem dX6_isRectangle_22 : decode cX6_isRectangle 22 = .ok (.iconst 1, 1) := by decide +kernel
theorem dX6_isRectangle_23 : decode cX6_isRectangle 23 = .ok (.isub, 1) := by decide +kernel
theorem dX6_isRectangle_24 : decode cX6_isRectangle 24 = .ok (.invokestatic 56, 3) := by decide +kernel
theorem dX6_isRectangle_27 : decode cX6_isRectangle 27 = .ok (.ifCond .eq 38, 3) := by decide +kernel
theorem dX6_isRectangle_30 : decode cX6_isRectangle 30 = .ok (.iload_n 3, 1) := by decide +kernel
theorem dX6_isRectangle_31 : decode cX6_isRectangle 31 = .ok (.iconst 1, 1) := by decide +kernel
theorem dX6_isRectangle_32 : decode cX6_isRectangle 32 = .ok (.aload_n 0, 1) := by decide +kernel
theorem dX6_isRectangle_33 : decode cX6_isRectangle 33 = .ok (.iconst 0, 1) := by decide +kernel
theorem dX6_isRectangle_34 : decode cX6_isRectangle 34 = .ok (.invokevirtual 52, 3) := by decide +kernel
theorem dX6_isRectangle_37 : decode cX6_isRectangle 37 = .ok (.iload_n 1, 1) := by decide +kernel
theorem dX6_isRectangle_38 : decode cX6_isRectangle 38 = .ok (.isub, 1) := by decide +kernel
theorem dX6_isRectangle_39 : decode cX6_isRectangle 39 = .ok (.invokestatic 56, 3) := by decide +kernel
theorem dX6_isRectangle_42 : decode cX6_isRectangle 42 = .ok (.ifCond .eq 23, 3) := by decide +kernel
theorem dX6_isRectangle_45 : decode cX6_isRectangle 45 = .ok (.iload 4, 2) := by decide +kernel
theorem dX6_isRectangle_47 : decode cX6_isRectangle 47 = .ok (.iconst 1, 1) := by decide +kernel
theorem dX6_isRectangle_48 : decode cX6_isRectangle 48 = .ok (.aload_n 0, 1) := by decide +kernel
theorem dX6_isRectangle_49 : decode cX6_isRectangle 49 = .ok (.iconst 1, 1) := by decide +kernel
theorem dX6_isRectangle_50 : decode cX6_isRectangle 50 = .ok (.invokevirtual 52, 3) := by decide +kernel
theorem dX6_isRectangle_53 : decode cX6_isRectangle 53 = .ok (.iload_n 2, 1) := by decide +kernel
theorem dX6_isRectangle_54 : decode cX6_isRectangle 54 = .ok (.isub, 1) := by decide +kernel
theorem dX6_isRectangle_55 : decode cX6_isRectangle 55 = .ok (.invokestatic 56, 3) := by decide +kernel
theorem dX6_isRectangle_58 : decode cX6_isRectangle 58 = .ok (.ifCond .eq 7, 3) := by decide +kernel
theorem dX6_isRectangle_61 : decode cX6_isRectangle 61 = .ok (.iconst 1, 1) := by decide +kernel
theorem dX6_isRectangle_62 : decode cX6_isRectangle 62 = .ok (.goto 4, 3) := by decide +kernel
theorem dX6_isRectangle_65 : decode cX6_isRectangle 65 = .ok (.iconst 0, 1) := by decide +kernel
theorem dX6_isRectangle_66 : decode cX6_isRectangle 66 = .ok (.ireturn, 1) := by decide +kernel
theorem dX6_rectangle_0 : decode cX6_rectangle 0 = .ok (.lconst 0, 1) := by decide +kernel
theorem dX6_rectangle_1 : decode cX6_rectangle 1 = .ok (.lstore 5, 2) := by decide +kernel
theorem dX6_rectangle_3 : decode cX6_rectangle 3 = .ok (.iload_n 2, 1) := by decide +kernel
theorem dX6_rectangle_4 : decode cX6_rectangle 4 = .ok (.istore 7, 2) := by decide +kernel
theorem dX6_rectangle_6 : decode cX6_rectangle 6 = .ok (.iload 7, 2) := by decide +kernel
theorem dX6_rectangle_8 : decode cX6_rectangle 8 = .ok (.iload_n 2, 1) := by decide +kernel
theorem dX6_rectangle_9 : decode cX6_rectangle 9 = .ok (.iload 4, 2) := by decide +kernel
theorem dX6_rectangle_11 : decode cX6_rectangle 11 = .ok (.iadd, 1) := by decide +kernel
theorem dX6_rectangle_12 : decode cX6_rectangle 12 = .ok (.if_icmp .ge 44, 3) := by decide +kernel
theorem dX6_rectangle_15 : decode cX6_rectangle 15 = .ok (.iload_n 1, 1) := by decide +kernel
theorem dX6_rectangle_16 : decode cX6_rectangle 16 = .ok (.istore 8, 2) := by decide +kernel
theorem dX6_rectangle_18 : decode cX6_rectangle 18 = .ok (.iload 8, 2) := by decide +kernel
theorem dX6_rectangle_20 : decode cX6_rectangle 20 = .ok (.iload_n 1, 1) := by decide +kernel
theorem dX6_rectangle_21 : decode cX6_rectangle 21 = .ok (.iload_n 3, 1) := by decide +kernel
theorem dX6_rectangle_22 : decode cX6_rectangle 22 = .ok (.iadd, 1) := by decide +kernel
theorem dX6_rectangle_23 : decode cX6_rectangle 23 = .ok (.if_icmp .ge 27, 3) := by decide +kernel
theorem dX6_rectangle_26 : decode cX6_rectangle 26 = .ok (.lload 5, 2) := by decide +kernel
theorem dX6_rectangle_28 : decode cX6_rectangle 28 = .ok (.lconst 1, 1) := by decide +kernel
theorem dX6_rectangle_29 : decode cX6_rectangle 29 = .ok (.iload 7, 2) := by decide +kernel
theorem dX6_rectangle_31 : decode cX6_rectangle 31 = .ok (.aload_n 0, 1) := by decide +kernel
theorem dX6_rectangle_32 : decode cX6_rectangle 32 = .ok (.iconst 0, 1) := by decide +kernel
theorem dX6_rectangle_33 : decode cX6_rectangle 33 = .ok (.invokevirtual 52, 3) := by decide +kernel
theorem dX6_rectangle_36 : decode cX6_rectangle 36 = .ok (.imul, 1) := by decide +kernel
theorem dX6_rectangle_37 : decode cX6_rectangle 37 = .ok (.iload 8, 2) := by decide +kernel
theorem dX6_rectangle_39 : decode cX6_rectangle 39 = .ok (.iadd, 1) := by decide +kernel
theorem dX6_rectangle_40 : decode cX6_rectangle 40 = .ok (.lshl, 1) := by decide +kernel
theorem dX6_rectangle_41 : decode cX6_rectangle 41 = .ok (.lor, 1) := by decide +kernel
theorem dX6_rectangle_42 : decode cX6_rectangle 42 = .ok (.lstore 5, 2) := by decide +kernel
theorem dX6_rectangle_44 : decode cX6_rectangle 44 = .ok (.iinc 8 1, 3) := by decide +kernel
theorem dX6_rectangle_47 : decode cX6_rectangle 47 = .ok (.goto (-29), 3) := by decide +kernel
theorem dX6_rectangle_50 : decode cX6_rectangle 50 = .ok (.iinc 7 1, 3) := by decide +kernel
theorem dX6_rectangle_53 : decode cX6_rectangle 53 = .ok (.goto (-47), 3) := by decide +kernel
theorem dX6_rectangle_56 : decode cX6_rectangle 56 = .ok (.lload 5, 2) := by decide +kernel
theorem dX6_rectangle_58 : decode cX6_rectangle 58 = .ok (.lreturn, 1) := by decide +kernel
theorem dX6_all_0 : decode cX6_all 0 = .ok (.aload_n 0, 1) := by decide +kernel
theorem dX6_all_1 : decode cX6_all 1 = .ok (.iconst 0, 1) := by decide +kernel
theorem dX6_all_2 : decode cX6_all 2 = .ok (.iconst 0, 1) := by decide +kernel
theorem dX6_all_3 : decode cX6_all 3 = .ok (.aload_n 0, 1) := by decide +kernel
theorem dX6_all_4 : decode cX6_all 4 = .ok (.iconst 0, 1) := by decide +kernel
theorem dX6_all_5 : decode cX6_all 5 = .ok (.invokevirtual 52, 3) := by decide +kernel
theorem dX6_all_8 : decode cX6_all 8 = .ok (.aload_n 0, 1) := by decide +kernel
theorem dX6_all_9 : decode cX6_all 9 = .ok (.iconst 1, 1) := by decide +kernel
theorem dX6_all_10 : decode cX6_all 10 = .ok (.invokevirtual 52, 3) := by decide +kernel
theorem dX6_all_13 : decode cX6_all 13 = .ok (.invokevirtual 67, 3) := by decide +kernel
theorem dX6_all_16 : decode cX6_all 16 = .ok (.lreturn, 1) := by decide +kernel
theorem dX6_carrier_0 : decode cX6_carrier 0 = .ok (.aload_n 0, 1) := by decide +kernel
theorem dX6_carrier_1 : decode cX6_carrier 1 = .ok (.iconst 0, 1) := by decide +kernel
theorem dX6_carrier_2 : decode cX6_carrier 2 = .ok (.iconst 0, 1) := by decide +kernel
theorem dX6_carrier_3 : decode cX6_carrier 3 = .ok (.aload_n 0, 1) := by decide +kernel
theorem dX6_carrier_4 : decode cX6_carrier 4 = .ok (.iconst 0, 1) := by decide +kernel
theorem dX6_carrier_5 : decode cX6_carrier 5 = .ok (.invokevirtual 52, 3) := by decide +kernel
theorem dX6_carrier_8 : decode cX6_carrier 8 = .ok (.iconst 1, 1) := by decide +kernel
theorem dX6_carrier_9 : decode cX6_carrier 9 = .ok (.invokevirtual 67, 3) := by decide +kernel
theorem dX6_carrier_12 : decode cX6_carrier 12 = .ok (.lstore_n 1, 1) := by decide +kernel
theorem dX6_carrier_13 : decode cX6_carrier 13 = .ok (.aload_n 0, 1) := by decide +kernel
theorem dX6_carrier_14 : decode cX6_carrier 14 = .ok (.iconst 0, 1) := by decide +kernel
theorem dX6_carrier_15 : decode cX6_carrier 15 = .ok (.aload_n 0, 1) := by decide +kernel
theorem dX6_carrier_16 : decode cX6_carrier 16 = .ok (.iconst 1, 1) := by decide +kernel
theorem dX6_carrier_17 : decode cX6_carrier 17 = .ok (.invokevirtual 52, 3) := by decide +kernel
theorem dX6_carrier_20 : decode cX6_carrier 20 = .ok (.iconst 1, 1) := by decide +kernel
theorem dX6_carrier_21 : decode cX6_carrier 21 = .ok (.isub, 1) := by decide +kernel
theorem dX6_carrier_22 : decode cX6_carrier 22 = .ok (.aload_n 0, 1) := by decide +kernel
theorem dX6_carrier_23 : decode cX6_carrier 23 = .ok (.iconst 0, 1) := by decide +kernel
theorem dX6_carrier_24 : decode cX6_carrier 24 = .ok (.invokevirtual 52, 3) := by decide +kernel
theorem dX6_carrier_27 : decode cX6_carrier 27 = .ok (.iconst 1, 1) := by decide +kernel
theorem dX6_carrier_28 : decode cX6_carrier 28 = .ok (.invokevirtual 67, 3) := by decide +kernel
theorem dX6_carrier_31 : decode cX6_carrier 31 = .ok (.lstore_n 3, 1) := by decide +kernel
theorem dX6_carrier_32 : decode cX6_carrier 32 = .ok (.aload_n 0, 1) := by decide +kernel
theorem dX6_carrier_33 : decode cX6_carrier 33 = .ok (.getfield 7, 3) := by decide +kernel
theorem dX6_carrier_36 : decode cX6_carrier 36 = .ok (.iconst 2, 1) := by decide +kernel
theorem dX6_carrier_37 : decode cX6_carrier 37 = .ok (.laload, 1) := by decide +kernel
theorem dX6_carrier_38 : decode cX6_carrier 38 = .ok (.lconst 0, 1) := by decide +kernel
theorem dX6_carrier_39 : decode cX6_carrier 39 = .ok (.lcmp, 1) := by decide +kernel
theorem dX6_carrier_40 : decode cX6_carrier 40 = .ok (.ifCond .ne 7, 3) := by decide +kernel
theorem dX6_carrier_43 : decode cX6_carrier 43 = .ok (.lload_n 1, 1) := by decide +kernel
theorem dX6_carrier_44 : decode cX6_carrier 44 = .ok (.goto 21, 3) := by decide +kernel
theorem dX6_carrier_47 : decode cX6_carrier 47 = .ok (.aload_n 0, 1) := by decide +kernel
theorem dX6_carrier_48 : decode cX6_carrier 48 = .ok (.getfield 7, 3) := by decide +kernel
theorem dX6_carrier_51 : decode cX6_carrier 51 = .ok (.iconst 2, 1) := by decide +kernel
theorem dX6_carrier_52 : decode cX6_carrier 52 = .ok (.laload, 1) := by decide +kernel
theorem dX6_carrier_53 : decode cX6_carrier 53 = .ok (.lconst 1, 1) := by decide +kernel
theorem dX6_carrier_54 : decode cX6_carrier 54 = .ok (.lcmp, 1) := by decide +kernel
theorem dX6_carrier_55 : decode cX6_carrier 55 = .ok (.ifCond .ne 7, 3) := by decide +kernel
theorem dX6_carrier_58 : decode cX6_carrier 58 = .ok (.lload_n 3, 1) := by decide +kernel
theorem dX6_carrier_59 : decode cX6_carrier 59 = .ok (.goto 6, 3) := by decide +kernel
theorem dX6_carrier_62 : decode cX6_carrier 62 = .ok (.lload_n 1, 1) := by decide +kernel
theorem dX6_carrier_63 : decode cX6_carrier 63 = .ok (.lload_n 3, 1) := by decide +kernel
theorem dX6_carrier_64 : decode cX6_carrier 64 = .ok (.lor, 1) := by decide +kernel
theorem dX6_carrier_65 : decode cX6_carrier 65 = .ok (.lreturn, 1) := by decide +kernel
theorem dX6_part_0 : decode cX6_part 0 = .ok (.aload_n 0, 1) := by decide +kernel
theorem dX6_part_1 : decode cX6_part 1 = .ok (.getfield 7, 3) := by decide +kernel
theorem dX6_part_4 : decode cX6_part 4 = .ok (.bipush 14, 2) := by decide +kernel
theorem dX6_part_6 : decode cX6_part 6 = .ok (.laload, 1) := by decide +kernel
theorem dX6_part_7 : decode cX6_part 7 = .ok (.aload_n 0, 1) := by decide +kernel
theorem dX6_part_8 : decode cX6_part 8 = .ok (.invokevirtual 71, 3) := by decide +kernel
theorem dX6_part_11 : decode cX6_part 11 = .ok (.ldc2_w 75, 3) := by decide +kernel
theorem dX6_part_14 : decode cX6_part 14 = .ok (.lxor, 1) := by decide +kernel
theorem dX6_part_15 : decode cX6_part 15 = .ok (.land, 1) := by decide +kernel
theorem dX6_part_16 : decode cX6_part 16 = .ok (.lreturn, 1) := by decide +kernel
theorem dX6_links_0 : decode cX6_links 0 = .ok (.aload_n 0, 1) := by decide +kernel
theorem dX6_links_1 : decode cX6_links 1 = .ok (.getfield 7, 3) := by decide +kernel
theorem dX6_links_4 : decode cX6_links 4 = .ok (.bipush 15, 2) := by decide +kernel
theorem dX6_links_6 : decode cX6_links 6 = .ok (.laload, 1) := by decide +kernel
theorem dX6_links_7 : decode cX6_links 7 = .ok (.aload_n 0, 1) := by decide +kernel
theorem dX6_links_8 : decode cX6_links 8 = .ok (.invokevirtual 71, 3) := by decide +kernel
theorem dX6_links_11 : decode cX6_links 11 = .ok (.ldc2_w 75, 3) := by decide +kernel
theorem dX6_links_14 : decode cX6_links 14 = .ok (.lxor, 1) := by decide +kernel
theorem dX6_links_15 : decode cX6_links 15 = .ok (.land, 1) := by decide +kernel
theorem dX6_links_16 : decode cX6_links 16 = .ok (.lreturn, 1) := by decide +kernel
theorem dX6_grown_0 : decode cX6_grown 0 = .ok (.lload_n 1, 1) := by decide +kernel
theorem dX6_grown_1 : decode cX6_grown 1 = .ok (.lstore_n 3, 1) := by decide +kernel
theorem dX6_grown_2 : decode cX6_grown 2 = .ok (.aload_n 0, 1) := by decide +kernel
theorem dX6_grown_3 : decode cX6_grown 3 = .ok (.iconst 0, 1) := by decide +kernel
theorem dX6_grown_4 : decode cX6_grown 4 = .ok (.invokevirtual 52, 3) := by decide +kernel
theorem dX6_grown_7 : decode cX6_grown 7 = .ok (.aload_n 0, 1) := by decide +kernel
theorem dX6_grown_8 : decode cX6_grown 8 = .ok (.iconst 1, 1) := by decide +kernel
theorem dX6_grown_9 : decode cX6_grown 9 = .ok (.invokevirtual 52, 3) := by decide +kernel
theorem dX6_grown_12 : decode cX6_grown 12 = .ok (.imul, 1) := by decide +kernel
theorem dX6_grown_13 : decode cX6_grown 13 = .ok (.istore 5, 2) := by decide +kernel
theorem dX6_grown_15 : decode cX6_grown 15 = .ok (.iconst 0, 1) := by decide +kernel
theorem dX6_grown_16 : decode cX6_grown 16 = .ok (.istore 6, 2) := by decide +kernel
theorem dX6_grown_18 : decode cX6_grown 18 = .ok (.iload 6, 2) := by decide +kernel
theorem dX6_grown_20 : decode cX6_grown 20 = .ok (.iload 5, 2) := by decide +kernel
theorem dX6_grown_22 : decode cX6_grown 22 = .ok (.if_icmp .ge 130, 3) := by decide +kernel
theorem dX6_grown_25 : decode cX6_grown 25 = .ok (.lload_n 1, 1) := by decide +kernel
theorem dX6_grown_26 : decode cX6_grown 26 = .ok (.iload 6, 2) := by decide +kernel
theorem dX6_grown_28 : decode cX6_grown 28 = .ok (.lshr, 1) := by decide +kernel
theorem dX6_grown_29 : decode cX6_grown 29 = .ok (.lconst 1, 1) := by decide +kernel
theorem dX6_grown_30 : decode cX6_grown 30 = .ok (.land, 1) := by decide +kernel
theorem dX6_grown_31 : decode cX6_grown 31 = .ok (.lconst 1, 1) := by decide +kernel
theorem dX6_grown_32 : decode cX6_grown 32 = .ok (.lcmp, 1) := by decide +kernel
theorem dX6_grown_33 : decode cX6_grown 33 = .ok (.ifCond .ne 113, 3) := by decide +kernel
theorem dX6_grown_36 : decode cX6_grown 36 = .ok (.iload 6, 2) := by decide +kernel
theorem dX6_grown_38 : decode cX6_grown 38 = .ok (.aload_n 0, 1) := by decide +kernel
theorem dX6_grown_39 : decode cX6_grown 39 = .ok (.iconst 0, 1) := by decide +kernel
theorem dX6_grown_40 : decode cX6_grown 40 = .ok (.invokevirtual 52, 3) := by decide +kernel
theorem dX6_grown_43 : decode cX6_grown 43 = .ok (.irem, 1) := by decide +kernel
theorem dX6_grown_44 : decode cX6_grown 44 = .ok (.istore 7, 2) := by decide +kernel
theorem dX6_grown_46 : decode cX6_grown 46 = .ok (.lload_n 3, 1) := by decide +kernel
theorem dX6_grown_47 : decode cX6_grown 47 = .ok (.iload 7, 2) := by decide +kernel
theorem dX6_grown_49 : decode cX6_grown 49 = .ok (.ifCond .le 12, 3) := by decide +kernel
theorem dX6_grown_52 : decode cX6_grown 52 = .ok (.lconst 1, 1) := by decide +kernel
theorem dX6_grown_53 : decode cX6_grown 53 = .ok (.iload 6, 2) := by decide +kernel
theorem dX6_grown_55 : decode cX6_grown 55 = .ok (.iconst 1, 1) := by decide +kernel
theorem dX6_grown_56 : decode cX6_grown 56 = .ok (.isub, 1) := by decide +kernel
theorem dX6_grown_57 : decode cX6_grown 57 = .ok (.lshl, 1) := by decide +kernel
theorem dX6_grown_58 : decode cX6_grown 58 = .ok (.goto 4, 3) := by decide +kernel
theorem dX6_grown_61 : decode cX6_grown 61 = .ok (.lconst 0, 1) := by decide +kernel
theorem dX6_grown_62 : decode cX6_grown 62 = .ok (.lor, 1) := by decide +kernel
theorem dX6_grown_63 : decode cX6_grown 63 = .ok (.lstore_n 3, 1) := by decide +kernel
theorem dX6_grown_64 : decode cX6_grown 64 = .ok (.lload_n 3, 1) := by decide +kernel
theorem dX6_grown_65 : decode cX6_grown 65 = .ok (.iload 7, 2) := by decide +kernel
theorem dX6_grown_67 : decode cX6_grown 67 = .ok (.aload_n 0, 1) := by decide +kernel
theorem dX6_grown_68 : decode cX6_grown 68 = .ok (.iconst 0, 1) := by decide +kernel
theorem dX6_grown_69 : decode cX6_grown 69 = .ok (.invokevirtual 52, 3) := by decide +kernel
theorem dX6_grown_72 : decode cX6_grown 72 = .ok (.iconst 1, 1) := by decide +kernel
theorem dX6_grown_73 : decode cX6_grown 73 = .ok (.isub, 1) := by decide +kernel
theorem dX6_grown_74 : decode cX6_grown 74 = .ok (.if_icmp .ge 12, 3) := by decide +kernel
theorem dX6_grown_77 : decode cX6_grown 77 = .ok (.lconst 1, 1) := by decide +kernel
theorem dX6_grown_78 : decode cX6_grown 78 = .ok (.iload 6, 2) := by decide +kernel
theorem dX6_grown_80 : decode cX6_grown 80 = .ok (.iconst 1, 1) := by decide +kernel
theorem dX6_grown_81 : decode cX6_grown 81 = .ok (.iadd, 1) := by decide +kernel
theorem dX6_grown_82 : decode cX6_grown 82 = .ok (.lshl, 1) := by decide +kernel
theorem dX6_grown_83 : decode cX6_grown 83 = .ok (.goto 4, 3) := by decide +kernel
theorem dX6_grown_86 : decode cX6_grown 86 = .ok (.lconst 0, 1) := by decide +kernel
theorem dX6_grown_87 : decode cX6_grown 87 = .ok (.lor, 1) := by decide +kernel
theorem dX6_grown_88 : decode cX6_grown 88 = .ok (.lstore_n 3, 1) := by decide +kernel
theorem dX6_grown_89 : decode cX6_grown 89 = .ok (.lload_n 3, 1) := by decide +kernel
theorem dX6_grown_90 : decode cX6_grown 90 = .ok (.iload 6, 2) := by decide +kernel
theorem dX6_grown_92 : decode cX6_grown 92 = .ok (.aload_n 0, 1) := by decide +kernel
theorem dX6_grown_93 : decode cX6_grown 93 = .ok (.iconst 0, 1) := by decide +kernel
theorem dX6_grown_94 : decode cX6_grown 94 = .ok (.invokevirtual 52, 3) := by decide +kernel
theorem dX6_grown_97 : decode cX6_grown 97 = .ok (.if_icmp .lt 16, 3) := by decide +kernel
theorem dX6_grown_100 : decode cX6_grown 100 = .ok (.lconst 1, 1) := by decide +kernel
theorem dX6_grown_101 : decode cX6_grown 101 = .ok (.iload 6, 2) := by decide +kernel
theorem dX6_grown_103 : decode cX6_grown 103 = .ok (.aload_n 0, 1) := by decide +kernel
theorem dX6_grown_104 : decode cX6_grown 104 = .ok (.iconst 0, 1) := by decide +kernel
theorem dX6_grown_105 : decode cX6_grown 105 = .ok (.invokevirtual 52, 3) := by decide +kernel
theorem dX6_grown_108 : decode cX6_grown 108 = .ok (.isub, 1) := by decide +kernel
theorem dX6_grown_109 : decode cX6_grown 109 = .ok (.lshl, 1) := by decide +kernel
theorem dX6_grown_110 : decode cX6_grown 110 = .ok (.goto 4, 3) := by decide +kernel
theorem dX6_grown_113 : decode cX6_grown 113 = .ok (.lconst 0, 1) := by decide +kernel
theorem dX6_grown_114 : decode cX6_grown 114 = .ok (.lor, 1) := by decide +kernel
theorem dX6_grown_115 : decode cX6_grown 115 = .ok (.lstore_n 3, 1) := by decide +kernel
theorem dX6_grown_116 : decode cX6_grown 116 = .ok (.lload_n 3, 1) := by decide +kernel
theorem dX6_grown_117 : decode cX6_grown 117 = .ok (.iload 6, 2) := by decide +kernel
theorem dX6_grown_119 : decode cX6_grown 119 = .ok (.aload_n 0, 1) := by decide +kernel
theorem dX6_grown_120 : decode cX6_grown 120 = .ok (.iconst 0, 1) := by decide +kernel
theorem dX6_grown_121 : decode cX6_grown 121 = .ok (.invokevirtual 52, 3) := by decide +kernel
theorem dX6_grown_124 : decode cX6_grown 124 = .ok (.iadd, 1) := by decide +kernel
theorem dX6_grown_125 : decode cX6_grown 125 = .ok (.iload 5, 2) := by decide +kernel
theorem dX6_grown_127 : decode cX6_grown 127 = .ok (.if_icmp .ge 16, 3) := by decide +kernel
theorem dX6_grown_130 : decode cX6_grown 130 = .ok (.lconst 1, 1) := by decide +kernel
theorem dX6_grown_131 : decode cX6_grown 131 = .ok (.iload 6, 2) := by decide +kernel
theorem dX6_grown_133 : decode cX6_grown 133 = .ok (.aload_n 0, 1) := by decide +kernel
theorem dX6_grown_134 : decode cX6_grown 134 = .ok (.iconst 0, 1) := by decide +kernel
theorem dX6_grown_135 : decode cX6_grown 135 = .ok (.invokevirtual 52, 3) := by decide +kernel
theorem dX6_grown_138 : decode cX6_grown 138 = .ok (.iadd, 1) := by decide +kernel
theorem dX6_grown_139 : decode cX6_grown 139 = .ok (.lshl, 1) := by decide +kernel
theorem dX6_grown_140 : decode cX6_grown 140 = .ok (.goto 4, 3) := by decide +kernel
theorem dX6_grown_143 : decode cX6_grown 143 = .ok (.lconst 0, 1) := by decide +kernel
theorem dX6_grown_144 : decode cX6_grown 144 = .ok (.lor, 1) := by decide +kernel
theorem dX6_grown_145 : decode cX6_grown 145 = .ok (.lstore_n 3, 1) := by decide +kernel
theorem dX6_grown_146 : decode cX6_grown 146 = .ok (.iinc 6 1, 3) := by decide +kernel
theorem dX6_grown_149 : decode cX6_grown 149 = .ok (.goto (-131), 3) := by decide +kernel
theorem dX6_grown_152 : decode cX6_grown 152 = .ok (.lload_n 3, 1) := by decide +kernel
theorem dX6_grown_153 : decode cX6_grown 153 = .ok (.lreturn, 1) := by decide +kernel
theorem dX6_cellsOf_0 : decode cX6_cellsOf 0 = .ok (.aload_n 0, 1) := by decide +kernel
theorem dX6_cellsOf_1 : decode cX6_cellsOf 1 = .ok (.aload_n 0, 1) := by decide +kernel
theorem dX6_cellsOf_2 : decode cX6_cellsOf 2 = .ok (.iload_n 1, 1) := by decide +kernel
theorem dX6_cellsOf_3 : decode cX6_cellsOf 3 = .ok (.iconst 1, 1) := by decide +kernel
theorem dX6_cellsOf_4 : decode cX6_cellsOf 4 = .ok (.invokevirtual 77, 3) := by decide +kernel
theorem dX6_cellsOf_7 : decode cX6_cellsOf 7 = .ok (.aload_n 0, 1) := by decide +kernel
theorem dX6_cellsOf_8 : decode cX6_cellsOf 8 = .ok (.iload_n 1, 1) := by decide +kernel
theorem dX6_cellsOf_9 : decode cX6_cellsOf 9 = .ok (.iconst 2, 1) := by decide +kernel
theorem dX6_cellsOf_10 : decode cX6_cellsOf 10 = .ok (.invokevirtual 77, 3) := by decide +kernel
theorem dX6_cellsOf_13 : decode cX6_cellsOf 13 = .ok (.aload_n 0, 1) := by decide +kernel
theorem dX6_cellsOf_14 : decode cX6_cellsOf 14 = .ok (.iload_n 1, 1) := by decide +kernel
theorem dX6_cellsOf_15 : decode cX6_cellsOf 15 = .ok (.iconst 3, 1) := by decide +kernel
theorem dX6_cellsOf_16 : decode cX6_cellsOf 16 = .ok (.invokevirtual 77, 3) := by decide +kernel
theorem dX6_cellsOf_19 : decode cX6_cellsOf 19 = .ok (.aload_n 0, 1) := by decide +kernel
theorem dX6_cellsOf_20 : decode cX6_cellsOf 20 = .ok (.iload_n 1, 1) := by decide +kernel
theorem dX6_cellsOf_21 : decode cX6_cellsOf 21 = .ok (.iconst 4, 1) := by decide +kernel
theorem dX6_cellsOf_22 : decode cX6_cellsOf 22 = .ok (.invokevirtual 77, 3) := by decide +kernel
theorem dX6_cellsOf_25 : decode cX6_cellsOf 25 = .ok (.invokevirtual 67, 3) := by decide +kernel
theorem dX6_cellsOf_28 : decode cX6_cellsOf 28 = .ok (.lreturn, 1) := by decide +kernel
theorem dX6_takenBy_0 : decode cX6_takenBy 0 = .ok (.lconst 0, 1) := by decide +kernel
theorem dX6_takenBy_1 : decode cX6_takenBy 1 = .ok (.lstore_n 2, 1) := by decide +kernel
theorem dX6_takenBy_2 : decode cX6_takenBy 2 = .ok (.iconst 0, 1) := by decide +kernel
theorem dX6_takenBy_3 : decode cX6_takenBy 3 = .ok (.istore 4, 2) := by decide +kernel
theorem dX6_takenBy_5 : decode cX6_takenBy 5 = .ok (.iload 4, 2) := by decide +kernel
theorem dX6_takenBy_7 : decode cX6_takenBy 7 = .ok (.aload_n 0, 1) := by decide +kernel
theorem dX6_takenBy_8 : decode cX6_takenBy 8 = .ok (.bipush 8, 2) := by decide +kernel
theorem dX6_takenBy_10 : decode cX6_takenBy 10 = .ok (.invokevirtual 52, 3) := by decide +kernel
theorem dX6_takenBy_13 : decode cX6_takenBy 13 = .ok (.if_icmp .ge 33, 3) := by decide +kernel
theorem dX6_takenBy_16 : decode cX6_takenBy 16 = .ok (.lload_n 2, 1) := by decide +kernel
theorem dX6_takenBy_17 : decode cX6_takenBy 17 = .ok (.aload_n 0, 1) := by decide +kernel
theorem dX6_takenBy_18 : decode cX6_takenBy 18 = .ok (.iload 4, 2) := by decide +kernel
theorem dX6_takenBy_20 : decode cX6_takenBy 20 = .ok (.iconst 0, 1) := by decide +kernel
theorem dX6_takenBy_21 : decode cX6_takenBy 21 = .ok (.invokevirtual 77, 3) := by decide +kernel
theorem dX6_takenBy_24 : decode cX6_takenBy 24 = .ok (.iload_n 1, 1) := by decide +kernel
theorem dX6_takenBy_25 : decode cX6_takenBy 25 = .ok (.if_icmp .ne 12, 3) := by decide +kernel
theorem dX6_takenBy_28 : decode cX6_takenBy 28 = .ok (.aload_n 0, 1) := by decide +kernel
theorem dX6_takenBy_29 : decode cX6_takenBy 29 = .ok (.iload 4, 2) := by decide +kernel
theorem dX6_takenBy_31 : decode cX6_takenBy 31 = .ok (.invokevirtual 81, 3) := by decide +kernel
theorem dX6_takenBy_34 : decode cX6_takenBy 34 = .ok (.goto 4, 3) := by decide +kernel
theorem dX6_takenBy_37 : decode cX6_takenBy 37 = .ok (.lconst 0, 1) := by decide +kernel
theorem dX6_takenBy_38 : decode cX6_takenBy 38 = .ok (.lor, 1) := by decide +kernel
theorem dX6_takenBy_39 : decode cX6_takenBy 39 = .ok (.lstore_n 2, 1) := by decide +kernel
theorem dX6_takenBy_40 : decode cX6_takenBy 40 = .ok (.iinc 4 1, 3) := by decide +kernel
theorem dX6_takenBy_43 : decode cX6_takenBy 43 = .ok (.goto (-38), 3) := by decide +kernel
theorem dX6_takenBy_46 : decode cX6_takenBy 46 = .ok (.lload_n 2, 1) := by decide +kernel
theorem dX6_takenBy_47 : decode cX6_takenBy 47 = .ok (.lreturn, 1) := by decide +kernel
theorem dX6_loose_0 : decode cX6_loose 0 = .ok (.aload_n 0, 1) := by decide +kernel
theorem dX6_loose_1 : decode cX6_loose 1 = .ok (.invokevirtual 85, 3) := by decide +kernel
theorem dX6_loose_4 : decode cX6_loose 4 = .ok (.aload_n 0, 1) := by decide +kernel
theorem dX6_loose_5 : decode cX6_loose 5 = .ok (.invokevirtual 88, 3) := by decide +kernel
theorem dX6_loose_8 : decode cX6_loose 8 = .ok (.lor, 1) := by decide +kernel
theorem dX6_loose_9 : decode cX6_loose 9 = .ok (.aload_n 0, 1) := by decide +kernel
theorem dX6_loose_10 : decode cX6_loose 10 = .ok (.invokevirtual 71, 3) := by decide +kernel
theorem dX6_loose_13 : decode cX6_loose 13 = .ok (.lor, 1) := by decide +kernel
theorem dX6_loose_14 : decode cX6_loose 14 = .ok (.lstore_n 1, 1) := by decide +kernel
theorem dX6_loose_15 : decode cX6_loose 15 = .ok (.aload_n 0, 1) := by decide +kernel
theorem dX6_loose_16 : decode cX6_loose 16 = .ok (.invokevirtual 71, 3) := by decide +kernel
theorem dX6_loose_19 : decode cX6_loose 19 = .ok (.lstore_n 3, 1) := by decide +kernel
theorem dX6_loose_20 : decode cX6_loose 20 = .ok (.lconst 0, 1) := by decide +kernel
theorem dX6_loose_21 : decode cX6_loose 21 = .ok (.lstore 5, 2) := by decide +kernel
theorem dX6_loose_23 : decode cX6_loose 23 = .ok (.lload 5, 2) := by decide +kernel
theorem dX6_loose_25 : decode cX6_loose 25 = .ok (.lload_n 3, 1) := by decide +kernel
theorem dX6_loose_26 : decode cX6_loose 26 = .ok (.lcmp, 1) := by decide +kernel
theorem dX6_loose_27 : decode cX6_loose 27 = .ok (.ifCond .eq 17, 3) := by decide +kernel
theorem dX6_loose_30 : decode cX6_loose 30 = .ok (.lload_n 3, 1) := by decide +kernel
theorem dX6_loose_31 : decode cX6_loose 31 = .ok (.lstore 5, 2) := by decide +kernel
theorem dX6_loose_33 : decode cX6_loose 33 = .ok (.aload_n 0, 1) := by decide +kernel
theorem dX6_loose_34 : decode cX6_loose 34 = .ok (.lload_n 3, 1) := by decide +kernel
theorem dX6_loose_35 : decode cX6_loose 35 = .ok (.invokevirtual 91, 3) := by decide +kernel
theorem dX6_loose_38 : decode cX6_loose 38 = .ok (.lload_n 1, 1) := by decide +kernel
theorem dX6_loose_39 : decode cX6_loose 39 = .ok (.land, 1) := by decide +kernel
theorem dX6_loose_40 : decode cX6_loose 40 = .ok (.lstore_n 3, 1) := by decide +kernel
theorem dX6_loose_41 : decode cX6_loose 41 = .ok (.goto (-18), 3) := by decide +kernel
theorem dX6_loose_44 : decode cX6_loose 44 = .ok (.aload_n 0, 1) := by decide +kernel
theorem dX6_loose_45 : decode cX6_loose 45 = .ok (.invokevirtual 85, 3) := by decide +kernel
theorem dX6_loose_48 : decode cX6_loose 48 = .ok (.lload_n 3, 1) := by decide +kernel
theorem dX6_loose_49 : decode cX6_loose 49 = .ok (.ldc2_w 75, 3) := by decide +kernel
theorem dX6_loose_52 : decode cX6_loose 52 = .ok (.lxor, 1) := by decide +kernel
theorem dX6_loose_53 : decode cX6_loose 53 = .ok (.land, 1) := by decide +kernel
theorem dX6_loose_54 : decode cX6_loose 54 = .ok (.lreturn, 1) := by decide +kernel
theorem dX6_standing_0 : decode cX6_standing 0 = .ok (.aload_n 0, 1) := by decide +kernel
theorem dX6_standing_1 : decode cX6_standing 1 = .ok (.invokevirtual 95, 3) := by decide +kernel
theorem dX6_standing_4 : decode cX6_standing 4 = .ok (.aload_n 0, 1) := by decide +kernel
theorem dX6_standing_5 : decode cX6_standing 5 = .ok (.invokevirtual 85, 3) := by decide +kernel
theorem dX6_standing_8 : decode cX6_standing 8 = .ok (.ldc2_w 75, 3) := by decide +kernel
theorem dX6_standing_11 : decode cX6_standing 11 = .ok (.lxor, 1) := by decide +kernel
theorem dX6_standing_12 : decode cX6_standing 12 = .ok (.land, 1) := by decide +kernel
theorem dX6_standing_13 : decode cX6_standing 13 = .ok (.aload_n 0, 1) := by decide +kernel
theorem dX6_standing_14 : decode cX6_standing 14 = .ok (.invokevirtual 88, 3) := by decide +kernel
theorem dX6_standing_17 : decode cX6_standing 17 = .ok (.ldc2_w 75, 3) := by decide +kernel
theorem dX6_standing_20 : decode cX6_standing 20 = .ok (.lxor, 1) := by decide +kernel
theorem dX6_standing_21 : decode cX6_standing 21 = .ok (.land, 1) := by decide +kernel
theorem dX6_standing_22 : decode cX6_standing 22 = .ok (.aload_n 0, 1) := by decide +kernel
theorem dX6_standing_23 : decode cX6_standing 23 = .ok (.invokevirtual 71, 3) := by decide +kernel
theorem dX6_standing_26 : decode cX6_standing 26 = .ok (.ldc2_w 75, 3) := by decide +kernel
theorem dX6_standing_29 : decode cX6_standing 29 = .ok (.lxor, 1) := by decide +kernel
theorem dX6_standing_30 : decode cX6_standing 30 = .ok (.land, 1) := by decide +kernel
theorem dX6_standing_31 : decode cX6_standing 31 = .ok (.aload_n 0, 1) := by decide +kernel
theorem dX6_standing_32 : decode cX6_standing 32 = .ok (.iconst 0, 1) := by decide +kernel
theorem dX6_standing_33 : decode cX6_standing 33 = .ok (.invokevirtual 98, 3) := by decide +kernel
theorem dX6_standing_36 : decode cX6_standing 36 = .ok (.ldc2_w 75, 3) := by decide +kernel
theorem dX6_standing_39 : decode cX6_standing 39 = .ok (.lxor, 1) := by decide +kernel
theorem dX6_standing_40 : decode cX6_standing 40 = .ok (.land, 1) := by decide +kernel
theorem dX6_standing_41 : decode cX6_standing 41 = .ok (.lreturn, 1) := by decide +kernel
theorem dX6_setOf_0 : decode cX6_setOf 0 = .ok (.iload_n 1, 1) := by decide +kernel
theorem dX6_setOf_1 : decode cX6_setOf 1 = .ok (.iconst 3, 1) := by decide +kernel
theorem dX6_setOf_2 : decode cX6_setOf 2 = .ok (.if_icmp .ge 31, 3) := by decide +kernel
theorem dX6_setOf_5 : decode cX6_setOf 5 = .ok (.iload_n 1, 1) := by decide +kernel
theorem dX6_setOf_6 : decode cX6_setOf 6 = .ok (.ifCond .ne 10, 3) := by decide +kernel
theorem dX6_setOf_9 : decode cX6_setOf 9 = .ok (.aload_n 0, 1) := by decide +kernel
theorem dX6_setOf_10 : decode cX6_setOf 10 = .ok (.invokevirtual 85, 3) := by decide +kernel
theorem dX6_setOf_13 : decode cX6_setOf 13 = .ok (.goto 19, 3) := by decide +kernel
theorem dX6_setOf_16 : decode cX6_setOf 16 = .ok (.iload_n 1, 1) := by decide +kernel
theorem dX6_setOf_17 : decode cX6_setOf 17 = .ok (.iconst 1, 1) := by decide +kernel
theorem dX6_setOf_18 : decode cX6_setOf 18 = .ok (.if_icmp .ne 10, 3) := by decide +kernel
theorem dX6_setOf_21 : decode cX6_setOf 21 = .ok (.aload_n 0, 1) := by decide +kernel
theorem dX6_setOf_22 : decode cX6_setOf 22 = .ok (.invokevirtual 88, 3) := by decide +kernel
theorem dX6_setOf_25 : decode cX6_setOf 25 = .ok (.goto 7, 3) := by decide +kernel
theorem dX6_setOf_28 : decode cX6_setOf 28 = .ok (.aload_n 0, 1) := by decide +kernel
theorem dX6_setOf_29 : decode cX6_setOf 29 = .ok (.invokevirtual 71, 3) := by decide +kernel
theorem dX6_setOf_32 : decode cX6_setOf 32 = .ok (.lreturn, 1) := by decide +kernel
theorem dX6_setOf_33 : decode cX6_setOf 33 = .ok (.iload_n 1, 1) := by decide +kernel
theorem dX6_setOf_34 : decode cX6_setOf 34 = .ok (.iconst 3, 1) := by decide +kernel
theorem dX6_setOf_35 : decode cX6_setOf 35 = .ok (.if_icmp .ne 11, 3) := by decide +kernel
theorem dX6_setOf_38 : decode cX6_setOf 38 = .ok (.aload_n 0, 1) := by decide +kernel
theorem dX6_setOf_39 : decode cX6_setOf 39 = .ok (.iconst 0, 1) := by decide +kernel
theorem dX6_setOf_40 : decode cX6_setOf 40 = .ok (.invokevirtual 98, 3) := by decide +kernel
theorem dX6_setOf_43 : decode cX6_setOf 43 = .ok (.goto 19, 3) := by decide +kernel
theorem dX6_setOf_46 : decode cX6_setOf 46 = .ok (.iload_n 1, 1) := by decide +kernel
theorem dX6_setOf_47 : decode cX6_setOf 47 = .ok (.iconst 4, 1) := by decide +kernel
theorem dX6_setOf_48 : decode cX6_setOf 48 = .ok (.if_icmp .ne 10, 3) := by decide +kernel
theorem dX6_setOf_51 : decode cX6_setOf 51 = .ok (.aload_n 0, 1) := by decide +kernel
theorem dX6_setOf_52 : decode cX6_setOf 52 = .ok (.invokevirtual 101, 3) := by decide +kernel
theorem dX6_setOf_55 : decode cX6_setOf 55 = .ok (.goto 7, 3) := by decide +kernel
theorem dX6_setOf_58 : decode cX6_setOf 58 = .ok (.aload_n 0, 1) := by decide +kernel
theorem dX6_setOf_59 : decode cX6_setOf 59 = .ok (.invokevirtual 104, 3) := by decide +kernel
theorem dX6_setOf_62 : decode cX6_setOf 62 = .ok (.lreturn, 1) := by decide +kernel
theorem dX6_cellSet_0 : decode cX6_cellSet 0 = .ok (.aload_n 0, 1) := by decide +kernel
theorem dX6_cellSet_1 : decode cX6_cellSet 1 = .ok (.iconst 0, 1) := by decide +kernel
theorem dX6_cellSet_2 : decode cX6_cellSet 2 = .ok (.putfield 48, 3) := by decide +kernel
theorem dX6_cellSet_5 : decode cX6_cellSet 5 = .ok (.iload_n 1, 1) := by decide +kernel
theorem dX6_cellSet_6 : decode cX6_cellSet 6 = .ok (.iconst 0, 1) := by decide +kernel
theorem dX6_cellSet_7 : decode cX6_cellSet 7 = .ok (.iconst 5, 1) := by decide +kernel
