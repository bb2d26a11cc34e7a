theorem dX6_init_0 : decode cX6_init 0 = .ok (.aload_n 0, 1) := by decide +kernel
theorem dX6_init_1 : decode cX6_init 1 = .ok (.invokespecial 1, 3) := by decide +kernel
theorem dX6_init_4 : decode cX6_init 4 = .ok (.aload_n 0, 1) := by decide +kernel
theorem dX6_init_5 : decode cX6_init 5 = .ok (.bipush 100, 2) := by decide +kernel
theorem dX6_init_7 : decode cX6_init 7 = .ok (.newarray .long, 2) := by decide +kernel
theorem dX6_init_9 : decode cX6_init 9 = .ok (.putfield 7, 3) := by decide +kernel
theorem dX6_init_12 : decode cX6_init 12 = .ok (.aload_n 0, 1) := by decide +kernel
theorem dX6_init_13 : decode cX6_init 13 = .ok (.sipush 400, 3) := by decide +kernel
theorem dX6_init_16 : decode cX6_init 16 = .ok (.newarray .long, 2) := by decide +kernel
theorem dX6_init_18 : decode cX6_init 18 = .ok (.putfield 13, 3) := by decide +kernel
theorem dX6_init_21 : decode cX6_init 21 = .ok (.aload_n 0, 1) := by decide +kernel
theorem dX6_init_22 : decode cX6_init 22 = .ok (.bipush 100, 2) := by decide +kernel
theorem dX6_init_24 : decode cX6_init 24 = .ok (.newarray .long, 2) := by decide +kernel
theorem dX6_init_26 : decode cX6_init 26 = .ok (.putfield 16, 3) := by decide +kernel
theorem dX6_init_29 : decode cX6_init 29 = .ok (.aload_n 0, 1) := by decide +kernel
theorem dX6_init_30 : decode cX6_init 30 = .ok (.bipush 6, 2) := by decide +kernel
theorem dX6_init_32 : decode cX6_init 32 = .ok (.newarray .int, 2) := by decide +kernel
theorem dX6_init_34 : decode cX6_init 34 = .ok (.putfield 19, 3) := by decide +kernel
theorem dX6_init_37 : decode cX6_init 37 = .ok (.aload_n 0, 1) := by decide +kernel
theorem dX6_init_38 : decode cX6_init 38 = .ok (.bipush 6, 2) := by decide +kernel
theorem dX6_init_40 : decode cX6_init 40 = .ok (.newarray .int, 2) := by decide +kernel
theorem dX6_init_42 : decode cX6_init 42 = .ok (.putfield 23, 3) := by decide +kernel
theorem dX6_init_45 : decode cX6_init 45 = .ok (.aload_n 0, 1) := by decide +kernel
theorem dX6_init_46 : decode cX6_init 46 = .ok (.bipush 6, 2) := by decide +kernel
theorem dX6_init_48 : decode cX6_init 48 = .ok (.newarray .int, 2) := by decide +kernel
theorem dX6_init_50 : decode cX6_init 50 = .ok (.putfield 26, 3) := by decide +kernel
theorem dX6_init_53 : decode cX6_init 53 = .ok (.aload_n 0, 1) := by decide +kernel
theorem dX6_init_54 : decode cX6_init 54 = .ok (.sipush 150, 3) := by decide +kernel
theorem dX6_init_57 : decode cX6_init 57 = .ok (.newarray .int, 2) := by decide +kernel
theorem dX6_init_59 : decode cX6_init 59 = .ok (.putfield 29, 3) := by decide +kernel
theorem dX6_init_62 : decode cX6_init 62 = .ok (.aload_n 0, 1) := by decide +kernel
theorem dX6_init_63 : decode cX6_init 63 = .ok (.bipush 40, 2) := by decide +kernel
theorem dX6_init_65 : decode cX6_init 65 = .ok (.newarray .int, 2) := by decide +kernel
theorem dX6_init_67 : decode cX6_init 67 = .ok (.putfield 32, 3) := by decide +kernel
theorem dX6_init_70 : decode cX6_init 70 = .ok (.aload_n 0, 1) := by decide +kernel
theorem dX6_init_71 : decode cX6_init 71 = .ok (.sipush 160, 3) := by decide +kernel
theorem dX6_init_74 : decode cX6_init 74 = .ok (.newarray .int, 2) := by decide +kernel
theorem dX6_init_76 : decode cX6_init 76 = .ok (.putfield 35, 3) := by decide +kernel
theorem dX6_init_79 : decode cX6_init 79 = .ok (.aload_n 0, 1) := by decide +kernel
theorem dX6_init_80 : decode cX6_init 80 = .ok (.getfield 7, 3) := by decide +kernel
theorem dX6_init_83 : decode cX6_init 83 = .ok (.iconst 0, 1) := by decide +kernel
theorem dX6_init_84 : decode cX6_init 84 = .ok (.ldc2_w 38, 3) := by decide +kernel
theorem dX6_init_87 : decode cX6_init 87 = .ok (.lastore, 1) := by decide +kernel
theorem dX6_init_88 : decode cX6_init 88 = .ok (.aload_n 0, 1) := by decide +kernel
theorem dX6_init_89 : decode cX6_init 89 = .ok (.getfield 7, 3) := by decide +kernel
theorem dX6_init_92 : decode cX6_init 92 = .ok (.iconst 1, 1) := by decide +kernel
theorem dX6_init_93 : decode cX6_init 93 = .ok (.ldc2_w 40, 3) := by decide +kernel
theorem dX6_init_96 : decode cX6_init 96 = .ok (.lastore, 1) := by decide +kernel
theorem dX6_init_97 : decode cX6_init 97 = .ok (.aload_n 0, 1) := by decide +kernel
theorem dX6_init_98 : decode cX6_init 98 = .ok (.getfield 7, 3) := by decide +kernel
theorem dX6_init_101 : decode cX6_init 101 = .ok (.iconst 3, 1) := by decide +kernel
theorem dX6_init_102 : decode cX6_init 102 = .ok (.ldc2_w 42, 3) := by decide +kernel
theorem dX6_init_105 : decode cX6_init 105 = .ok (.lastore, 1) := by decide +kernel
theorem dX6_init_106 : decode cX6_init 106 = .ok (.aload_n 0, 1) := by decide +kernel
theorem dX6_init_107 : decode cX6_init 107 = .ok (.getfield 7, 3) := by decide +kernel
theorem dX6_init_110 : decode cX6_init 110 = .ok (.iconst 5, 1) := by decide +kernel
theorem dX6_init_111 : decode cX6_init 111 = .ok (.lconst 1, 1) := by decide +kernel
theorem dX6_init_112 : decode cX6_init 112 = .ok (.lastore, 1) := by decide +kernel
theorem dX6_init_113 : decode cX6_init 113 = .ok (.aload_n 0, 1) := by decide +kernel
theorem dX6_init_114 : decode cX6_init 114 = .ok (.getfield 7, 3) := by decide +kernel
theorem dX6_init_117 : decode cX6_init 117 = .ok (.bipush 6, 2) := by decide +kernel
theorem dX6_init_119 : decode cX6_init 119 = .ok (.ldc2_w 44, 3) := by decide +kernel
theorem dX6_init_122 : decode cX6_init 122 = .ok (.lastore, 1) := by decide +kernel
theorem dX6_init_123 : decode cX6_init 123 = .ok (.aload_n 0, 1) := by decide +kernel
theorem dX6_init_124 : decode cX6_init 124 = .ok (.getfield 7, 3) := by decide +kernel
theorem dX6_init_127 : decode cX6_init 127 = .ok (.bipush 7, 2) := by decide +kernel
theorem dX6_init_129 : decode cX6_init 129 = .ok (.ldc2_w 46, 3) := by decide +kernel
theorem dX6_init_132 : decode cX6_init 132 = .ok (.lastore, 1) := by decide +kernel
theorem dX6_init_133 : decode cX6_init 133 = .ok (.return_, 1) := by decide +kernel
theorem dX6_thrown_0 : decode cX6_thrown 0 = .ok (.aload_n 0, 1) := by decide +kernel
theorem dX6_thrown_1 : decode cX6_thrown 1 = .ok (.getfield 48, 3) := by decide +kernel
theorem dX6_thrown_4 : decode cX6_thrown 4 = .ok (.ireturn, 1) := by decide +kernel
theorem dX6_fails_0 : decode cX6_fails 0 = .ok (.aload_n 0, 1) := by decide +kernel
theorem dX6_fails_1 : decode cX6_fails 1 = .ok (.iload_n 1, 1) := by decide +kernel
theorem dX6_fails_2 : decode cX6_fails 2 = .ok (.putfield 48, 3) := by decide +kernel
theorem dX6_fails_5 : decode cX6_fails 5 = .ok (.iconst 0, 1) := by decide +kernel
theorem dX6_fails_6 : decode cX6_fails 6 = .ok (.ireturn, 1) := by decide +kernel
theorem dX6_in_0 : decode cX6_in 0 = .ok (.iload_n 0, 1) := by decide +kernel
theorem dX6_in_1 : decode cX6_in 1 = .ok (.iload_n 1, 1) := by decide +kernel
theorem dX6_in_2 : decode cX6_in 2 = .ok (.if_icmp .lt 12, 3) := by decide +kernel
theorem dX6_in_5 : decode cX6_in 5 = .ok (.iload_n 0, 1) := by decide +kernel
theorem dX6_in_6 : decode cX6_in 6 = .ok (.iload_n 2, 1) := by decide +kernel
theorem dX6_in_7 : decode cX6_in 7 = .ok (.if_icmp .gt 7, 3) := by decide +kernel
theorem dX6_in_10 : decode cX6_in 10 = .ok (.iconst 1, 1) := by decide +kernel
theorem dX6_in_11 : decode cX6_in 11 = .ok (.goto 4, 3) := by decide +kernel
theorem dX6_in_14 : decode cX6_in 14 = .ok (.iconst 0, 1) := by decide +kernel
theorem dX6_in_15 : decode cX6_in 15 = .ok (.ireturn, 1) := by decide +kernel
theorem dX6_many_0 : decode cX6_many 0 = .ok (.aload_n 0, 1) := by decide +kernel
theorem dX6_many_1 : decode cX6_many 1 = .ok (.getfield 7, 3) := by decide +kernel
theorem dX6_many_4 : decode cX6_many 4 = .ok (.iload_n 1, 1) := by decide +kernel
theorem dX6_many_5 : decode cX6_many 5 = .ok (.laload, 1) := by decide +kernel
theorem dX6_many_6 : decode cX6_many 6 = .ok (.l2i, 1) := by decide +kernel
theorem dX6_many_7 : decode cX6_many 7 = .ok (.ireturn, 1) := by decide +kernel
theorem dX6_setting_0 : decode cX6_setting 0 = .ok (.aload_n 0, 1) := by decide +kernel
theorem dX6_setting_1 : decode cX6_setting 1 = .ok (.getfield 7, 3) := by decide +kernel
theorem dX6_setting_4 : decode cX6_setting 4 = .ok (.iconst 3, 1) := by decide +kernel
theorem dX6_setting_5 : decode cX6_setting 5 = .ok (.iload_n 1, 1) := by decide +kernel
theorem dX6_setting_6 : decode cX6_setting 6 = .ok (.iadd, 1) := by decide +kernel
theorem dX6_setting_7 : decode cX6_setting 7 = .ok (.laload, 1) := by decide +kernel
theorem dX6_setting_8 : decode cX6_setting 8 = .ok (.l2i, 1) := by decide +kernel
theorem dX6_setting_9 : decode cX6_setting 9 = .ok (.ireturn, 1) := by decide +kernel
theorem dX6_ofOp_0 : decode cX6_ofOp 0 = .ok (.aload_n 0, 1) := by decide +kernel
theorem dX6_ofOp_1 : decode cX6_ofOp 1 = .ok (.getfield 7, 3) := by decide +kernel
theorem dX6_ofOp_4 : decode cX6_ofOp 4 = .ok (.bipush 20, 2) := by decide +kernel
theorem dX6_ofOp_6 : decode cX6_ofOp 6 = .ok (.bipush 6, 2) := by decide +kernel
theorem dX6_ofOp_8 : decode cX6_ofOp 8 = .ok (.iload_n 1, 1) := by decide +kernel
theorem dX6_ofOp_9 : decode cX6_ofOp 9 = .ok (.imul, 1) := by decide +kernel
theorem dX6_ofOp_10 : decode cX6_ofOp 10 = .ok (.iadd, 1) := by decide +kernel
theorem dX6_ofOp_11 : decode cX6_ofOp 11 = .ok (.iload_n 2, 1) := by decide +kernel
theorem dX6_ofOp_12 : decode cX6_ofOp 12 = .ok (.iadd, 1) := by decide +kernel
theorem dX6_ofOp_13 : decode cX6_ofOp 13 = .ok (.laload, 1) := by decide +kernel
theorem dX6_ofOp_14 : decode cX6_ofOp 14 = .ok (.l2i, 1) := by decide +kernel
theorem dX6_ofOp_15 : decode cX6_ofOp 15 = .ok (.ireturn, 1) := by decide +kernel
set_option maxRecDepth 20000 in
theorem ggX6_isOp_X6_many : GoodIn wsX6_isOp wsX6_many := goodIn_r _ [5, 6, 10, 11, 12, 13, 14, 15, 16, 17, 18, 19, 20, 21, 22, 23, 24] (by decide +kernel) (by decide +kernel)
set_option maxRecDepth 20000 in
theorem gX6_isOp_X6_many : GoodIn wsX6_isOp (wsV RX6 52 RX6 yX6_many wsX6_many) := goodIn_app (goodIn_of _ (by decide +kernel)) ggX6_isOp_X6_many
set_option maxRecDepth 20000 in
theorem ggX6_isOp_X6_in : GoodIn wsX6_isOp wsX6_in := goodIn_r _ [9] (by decide +kernel) (by decide +kernel)
set_option maxRecDepth 20000 in
theorem gX6_isOp_X6_in : GoodIn wsX6_isOp (va_wsS RX6 56 yX6_in wsX6_in) := goodIn_app (goodIn_of _ (by decide +kernel)) ggX6_isOp_X6_in
theorem dX6_isOp_0 : decode cX6_isOp 0 = .ok (.iload_n 1, 1) := by decide +kernel
theorem dX6_isOp_1 : decode cX6_isOp 1 = .ok (.iconst 0, 1) := by decide +kernel
theorem dX6_isOp_2 : decode cX6_isOp 2 = .ok (.aload_n 0, 1) := by decide +kernel
theorem dX6_isOp_3 : decode cX6_isOp 3 = .ok (.bipush 8, 2) := by decide +kernel
theorem dX6_isOp_5 : decode cX6_isOp 5 = .ok (.invokevirtual 52, 3) := by decide +kernel
theorem dX6_isOp_8 : decode cX6_isOp 8 = .ok (.iconst 1, 1) := by decide +kernel
theorem dX6_isOp_9 : decode cX6_isOp 9 = .ok (.isub, 1) := by decide +kernel
theorem dX6_isOp_10 : decode cX6_isOp 10 = .ok (.invokestatic 56, 3) := by decide +kernel
theorem dX6_isOp_13 : decode cX6_isOp 13 = .ok (.ireturn, 1) := by decide +kernel
theorem dX6_ofPitch_0 : decode cX6_ofPitch 0 = .ok (.aload_n 0, 1) := by decide +kernel
theorem dX6_ofPitch_1 : decode cX6_ofPitch 1 = .ok (.getfield 7, 3) := by decide +kernel
theorem dX6_ofPitch_4 : decode cX6_ofPitch 4 = .ok (.bipush 60, 2) := by decide +kernel
theorem dX6_ofPitch_6 : decode cX6_ofPitch 6 = .ok (.iconst 5, 1) := by decide +kernel
theorem dX6_ofPitch_7 : decode cX6_ofPitch 7 = .ok (.iload_n 1, 1) := by decide +kernel
theorem dX6_ofPitch_8 : decode cX6_ofPitch 8 = .ok (.imul, 1) := by decide +kernel
theorem dX6_ofPitch_9 : decode cX6_ofPitch 9 = .ok (.iadd, 1) := by decide +kernel
theorem dX6_ofPitch_10 : decode cX6_ofPitch 10 = .ok (.iload_n 2, 1) := by decide +kernel
theorem dX6_ofPitch_11 : decode cX6_ofPitch 11 = .ok (.iadd, 1) := by decide +kernel
theorem dX6_ofPitch_12 : decode cX6_ofPitch 12 = .ok (.laload, 1) := by decide +kernel
theorem dX6_ofPitch_13 : decode cX6_ofPitch 13 = .ok (.lreturn, 1) := by decide +kernel
theorem dX6_ones_0 : decode cX6_ones 0 = .ok (.iconst 0, 1) := by decide +kernel
theorem dX6_ones_1 : decode cX6_ones 1 = .ok (.istore_n 2, 1) := by decide +kernel
theorem dX6_ones_2 : decode cX6_ones 2 = .ok (.iconst 0, 1) := by decide +kernel
theorem dX6_ones_3 : decode cX6_ones 3 = .ok (.istore_n 3, 1) := by decide +kernel
theorem dX6_ones_4 : decode cX6_ones 4 = .ok (.iload_n 3, 1) := by decide +kernel
theorem dX6_ones_5 : decode cX6_ones 5 = .ok (.bipush 60, 2) := by decide +kernel
theorem dX6_ones_7 : decode cX6_ones 7 = .ok (.if_icmp .ge 18, 3) := by decide +kernel
theorem dX6_ones_10 : decode cX6_ones 10 = .ok (.iload_n 2, 1) := by decide +kernel
theorem dX6_ones_11 : decode cX6_ones 11 = .ok (.lload_n 0, 1) := by decide +kernel
theorem dX6_ones_12 : decode cX6_ones 12 = .ok (.iload_n 3, 1) := by decide +kernel
theorem dX6_ones_13 : decode cX6_ones 13 = .ok (.lshr, 1) := by decide +kernel
theorem dX6_ones_14 : decode cX6_ones 14 = .ok (.lconst 1, 1) := by decide +kernel
theorem dX6_ones_15 : decode cX6_ones 15 = .ok (.land, 1) := by decide +kernel
theorem dX6_ones_16 : decode cX6_ones 16 = .ok (.l2i, 1) := by decide +kernel
theorem dX6_ones_17 : decode cX6_ones 17 = .ok (.iadd, 1) := by decide +kernel
theorem dX6_ones_18 : decode cX6_ones 18 = .ok (.istore_n 2, 1) := by decide +kernel
theorem dX6_ones_19 : decode cX6_ones 19 = .ok (.iinc 3 1, 3) := by decide +kernel
theorem dX6_ones_22 : decode cX6_ones 22 = .ok (.goto (-18), 3) := by decide +kernel
theorem dX6_ones_25 : decode cX6_ones 25 = .ok (.iload_n 2, 1) := by decide +kernel
theorem dX6_ones_26 : decode cX6_ones 26 = .ok (.ireturn, 1) := by decide +kernel
theorem dX6_save_0 : decode cX6_save 0 = .ok (.aload_n 0, 1) := by decide +kernel
theorem dX6_save_1 : decode cX6_save 1 = .ok (.getfield 60, 3) := by decide +kernel
theorem dX6_save_4 : decode cX6_save 4 = .ok (.ifCond .eq 4, 3) := by decide +kernel
theorem dX6_save_7 : decode cX6_save 7 = .ok (.return_, 1) := by decide +kernel
theorem dX6_save_8 : decode cX6_save 8 = .ok (.aload_n 0, 1) := by decide +kernel
theorem dX6_save_9 : decode cX6_save 9 = .ok (.getfield 64, 3) := by decide +kernel
theorem dX6_save_12 : decode cX6_save 12 = .ok (.iconst 4, 1) := by decide +kernel
theorem dX6_save_13 : decode cX6_save 13 = .ok (.if_icmp .ne 43, 3) := by decide +kernel
theorem dX6_save_16 : decode cX6_save 16 = .ok (.iconst 0, 1) := by decide +kernel
theorem dX6_save_17 : decode cX6_save 17 = .ok (.istore_n 1, 1) := by decide +kernel
theorem dX6_save_18 : decode cX6_save 18 = .ok (.iload_n 1, 1) := by decide +kernel
theorem dX6_save_19 : decode cX6_save 19 = .ok (.sipush 300, 3) := by decide +kernel
theorem dX6_save_22 : decode cX6_save 22 = .ok (.if_icmp .ge 24, 3) := by decide +kernel
theorem dX6_save_25 : decode cX6_save 25 = .ok (.aload_n 0, 1) := by decide +kernel
theorem dX6_save_26 : decode cX6_save 26 = .ok (.getfield 13, 3) := by decide +kernel
theorem dX6_save_29 : decode cX6_save 29 = .ok (.iload_n 1, 1) := by decide +kernel
theorem dX6_save_30 : decode cX6_save 30 = .ok (.aload_n 0, 1) := by decide +kernel
theorem dX6_save_31 : decode cX6_save 31 = .ok (.getfield 13, 3) := by decide +kernel
theorem dX6_save_34 : decode cX6_save 34 = .ok (.iload_n 1, 1) := by decide +kernel
theorem dX6_save_35 : decode cX6_save 35 = .ok (.bipush 100, 2) := by decide +kernel
theorem dX6_save_37 : decode cX6_save 37 = .ok (.iadd, 1) := by decide +kernel
theorem dX6_save_38 : decode cX6_save 38 = .ok (.laload, 1) := by decide +kernel
theorem dX6_save_39 : decode cX6_save 39 = .ok (.lastore, 1) := by decide +kernel
theorem dX6_save_40 : decode cX6_save 40 = .ok (.iinc 1 1, 3) := by decide +kernel
theorem dX6_save_43 : decode cX6_save 43 = .ok (.goto (-25), 3) := by decide +kernel
theorem dX6_save_46 : decode cX6_save 46 = .ok (.aload_n 0, 1) := by decide +kernel
theorem dX6_save_47 : decode cX6_save 47 = .ok (.dup, 1) := by decide +kernel
theorem dX6_save_48 : decode cX6_save 48 = .ok (.getfield 64, 3) := by decide +kernel
theorem dX6_save_51 : decode cX6_save 51 = .ok (.iconst 1, 1) := by decide +kernel
theorem dX6_save_52 : decode cX6_save 52 = .ok (.isub, 1) := by decide +kernel
theorem dX6_save_53 : decode cX6_save 53 = .ok (.putfield 64, 3) := by decide +kernel
theorem dX6_save_56 : decode cX6_save 56 = .ok (.iconst 0, 1) := by decide +kernel
theorem dX6_save_57 : decode cX6_save 57 = .ok (.istore_n 1, 1) := by decide +kernel
theorem dX6_save_58 : decode cX6_save 58 = .ok (.iload_n 1, 1) := by decide +kernel
theorem dX6_save_59 : decode cX6_save 59 = .ok (.bipush 100, 2) := by decide +kernel
theorem dX6_save_61 : decode cX6_save 61 = .ok (.if_icmp .ge 29, 3) := by decide +kernel
theorem dX6_save_64 : decode cX6_save 64 = .ok (.aload_n 0, 1) := by decide +kernel
theorem dX6_save_65 : decode cX6_save 65 = .ok (.getfield 13, 3) := by decide +kernel
theorem dX6_save_68 : decode cX6_save 68 = .ok (.bipush 100, 2) := by decide +kernel
theorem dX6_save_70 : decode cX6_save 70 = .ok (.aload_n 0, 1) := by decide +kernel
theorem dX6_save_71 : decode cX6_save 71 = .ok (.getfield 64, 3) := by decide +kernel
theorem dX6_save_74 : decode cX6_save 74 = .ok (.imul, 1) := by decide +kernel
theorem dX6_save_75 : decode cX6_save 75 = .ok (.iload_n 1, 1) := by decide +kernel
theorem dX6_save_76 : decode cX6_save 76 = .ok (.iadd, 1) := by decide +kernel
theorem dX6_save_77 : decode cX6_save 77 = .ok (.aload_n 0, 1) := by decide +kernel
theorem dX6_save_78 : decode cX6_save 78 = .ok (.getfield 7, 3) := by decide +kernel
theorem dX6_save_81 : decode cX6_save 81 = .ok (.iload_n 1, 1) := by decide +kernel
theorem dX6_save_82 : decode cX6_save 82 = .ok (.laload, 1) := by decide +kernel
theorem dX6_save_83 : decode cX6_save 83 = .ok (.lastore, 1) := by decide +kernel
theorem dX6_save_84 : decode cX6_save 84 = .ok (.iinc 1 1, 3) := by decide +kernel
theorem dX6_save_87 : decode cX6_save 87 = .ok (.goto (-29), 3) := by decide +kernel
theorem dX6_save_90 : decode cX6_save 90 = .ok (.aload_n 0, 1) := by decide +kernel
theorem dX6_save_91 : decode cX6_save 91 = .ok (.dup, 1) := by decide +kernel
theorem dX6_save_92 : decode cX6_save 92 = .ok (.getfield 64, 3) := by decide +kernel
theorem dX6_save_95 : decode cX6_save 95 = .ok (.iconst 1, 1) := by decide +kernel
theorem dX6_save_96 : decode cX6_save 96 = .ok (.iadd, 1) := by decide +kernel
theorem dX6_save_97 : decode cX6_save 97 = .ok (.putfield 64, 3) := by decide +kernel
theorem dX6_save_100 : decode cX6_save 100 = .ok (.return_, 1) := by decide +kernel
set_option maxRecDepth 20000 in
theorem ggX6_isRectangle_X6_many : GoodIn wsX6_isRectangle wsX6_many := goodIn_r _ [5, 6, 10, 11, 12, 13, 14, 15, 16, 17, 18, 19, 20, 21, 22, 23, 24] (by decide +kernel) (by decide +kernel)
set_option maxRecDepth 20000 in
theorem gX6_isRectangle_X6_many : GoodIn wsX6_isRectangle (wsV RX6 52 RX6 yX6_many wsX6_many) := goodIn_app (goodIn_of _ (by decide +kernel)) ggX6_isRectangle_X6_many
set_option maxRecDepth 20000 in
theorem ggX6_isRectangle_X6_in : GoodIn wsX6_isRectangle wsX6_in := goodIn_r _ [9] (by decide +kernel) (by decide +kernel)
set_option maxRecDepth 20000 in
theorem gX6_isRectangle_X6_in : GoodIn wsX6_isRectangle (va_wsS RX6 56 yX6_in wsX6_in) := goodIn_app (goodIn_of _ (by decide +kernel)) ggX6_isRectangle_X6_in
theorem dX6_isRectangle_0 : decode cX6_isRectangle 0 = .ok (.iload_n 1, 1) := by decide +kernel
theorem dX6_isRectangle_1 : decode cX6_isRectangle 1 = .ok (.iconst 0, 1) := by decide +kernel
theorem dX6_isRectangle_2 : decode cX6_isRectangle 2 = .ok (.aload_n 0, 1) := by decide +kernel
theorem dX6_isRectangle_3 : decode cX6_isRectangle 3 = .ok (.iconst 0, 1) := by decide +kernel
theorem dX6_isRectangle_4 : decode cX6_isRectangle 4 = .ok (.invokevirtual 52, 3) := by decide +kernel
theorem dX6_isRectangle_7 : decode cX6_isRectangle 7 = .ok (.iconst 1, 1) := by decide +kernel
theorem dX6_isRectangle_8 : decode cX6_isRectangle 8 = .ok (.isub, 1) := by decide +kernel
theorem dX6_isRectangle_9 : decode cX6_isRectangle 9 = .ok (.invokestatic 56, 3) := by decide +kernel
theorem dX6_isRectangle_12 : decode cX6_isRectangle 12 = .ok (.ifCond .eq 53, 3) := by decide +kernel
theorem dX6_isRectangle_15 : decode cX6_isRectangle 15 = .ok (.iload_n 2, 1) := by decide +kernel
theorem dX6_isRectangle_16 : decode cX6_isRectangle 16 = .ok (.iconst 0, 1) := by decide +kernel
theorem dX6_isRectangle_17 : decode cX6_isRectangle 17 = .ok (.aload_n 0, 1) := by decide +kernel
theorem dX6_isRectangle_18 : decode cX6_isRectangle 18 = .ok (.iconst 1, 1) := by decide +kernel
theorem dX6_isRectangle_19 : decode cX6_isRectangle 19 = .ok (.invokevirtual 52, 3) := by decide +kernel
theorem dX6_isRectangle_22 : decode cX6_isRectangle 22 = .ok (.iconst 1, 1) := by decide +kernel
theorem dX6_isRectangle_23 : decode cX6_isRectangle 23 = .ok (.isub, 1) := by decide +kernel
theorem dX6_isRectangle_24 : decode cX6_isRectangle 24 = .ok (.invokestatic 56, 3) := by decide +kernel
theorem dX6_isRectangle_27 : decode cX6_isRectangle 27 = .ok (.ifCond .eq 38, 3) := by decide +kernel
theorem dX6_isRectangle_30 : decode cX6_isRectangle 30 = .ok (.iload_n 3, 1) := by decide +kernel
theorem dX6_isRectangle_31 : decode cX6_isRectangle 31 = .ok (.iconst 1, 1) := by decide +kernel
theorem dX6_isRectangle_32 : decode cX6_isRectangle 32 = .ok (.aload_n 0, 1) := by decide +kernel
theorem dX6_isRectangle_33 : decode cX6_isRectangle 33 = .ok (.iconst 0, 1) := by decide +kernel
theorem dX6_isRectangle_34 : decode cX6_isRectangle 34 = .ok (.invokevirtual 52, 3) := by decide +kernel
theorem dX6_isRectangle_37 : decode cX6_isRectangle 37 = .ok (.iload_n 1, 1) := by decide +kernel
theorem dX6_isRectangle_38 : decode cX6_isRectangle 38 = .ok (.isub, 1) := by decide +kernel
theorem dX6_isRectangle_39 : decode cX6_isRectangle 39 = .ok (.invokestatic 56, 3) := by decide +kernel
theorem dX6_isRectangle_42 : decode cX6_isRectangle 42 = .ok (.ifCond .eq 23, 3) := by decide +kernel
theorem dX6_isRectangle_45 : decode cX6_isRectangle 45 = .ok (.iload 4, 2) := by decide +kernel
theorem dX6_isRectangle_47 : decode cX6_isRectangle 47 = .ok (.iconst 1, 1) := by decide +kernel
theorem dX6_isRectangle_48 : decode cX6_isRectangle 48 = .ok (.aload_n 0, 1) := by decide +kernel
theorem dX6_isRectangle_49 : decode cX6_isRectangle 49 = .ok (.iconst 1, 1) := by decide +kernel
theorem dX6_isRectangle_50 : decode cX6_isRectangle 50 = .ok (.invokevirtual 52, 3) := by decide +kernel
theorem dX6_isRectangle_53 : decode cX6_isRectangle 53 = .ok (.iload_n 2, 1) := by decide +kernel
theorem dX6_isRectangle_54 : decode cX6_isRectangle 54 = .ok (.isub, 1) := by decide +kernel
theorem dX6_isRectangle_55 : decode cX6_isRectangle 55 = .ok (.invokestatic 56, 3) := by decide +kernel
theorem dX6_isRectangle_58 : decode cX6_isRectangle 58 = .ok (.ifCond .eq 7, 3) := by decide +kernel
theorem dX6_isRectangle_61 : decode cX6_isRectangle 61 = .ok (.iconst 1, 1) := by decide +kernel
theorem dX6_isRectangle_62 : decode cX6_isRectangle 62 = .ok (.goto 4, 3) := by decide +kernel
theorem dX6_isRectangle_65 : decode cX6_isRectangle 65 = .ok (.iconst 0, 1) := by decide +kernel
theorem dX6_isRectangle_66 : decode cX6_isRectangle 66 = .ok (.ireturn, 1) := by decide +kernel
set_option maxRecDepth 20000 in
theorem ggX6_rectangle_X6_many : GoodIn wsX6_rectangle wsX6_many := goodIn_r _ [5, 6, 7, 8, 9, 10, 11, 12, 13, 14, 15, 16, 17, 18, 19, 20, 21] (by decide +kernel) (by decide +kernel)
set_option maxRecDepth 20000 in
theorem gX6_rectangle_X6_many : GoodIn wsX6_rectangle (wsV RX6 52 RX6 yX6_many wsX6_many) := goodIn_app (goodIn_of _ (by decide +kernel)) ggX6_rectangle_X6_many
theorem dX6_rectangle_0 : decode cX6_rectangle 0 = .ok (.lconst 0, 1) := by decide +kernel
theorem dX6_rectangle_1 : decode cX6_rectangle 1 = .ok (.lstore 5, 2) := by decide +kernel
theorem dX6_rectangle_3 : decode cX6_rectangle 3 = .ok (.iload_n 2, 1) := by decide +kernel
theorem dX6_rectangle_4 : decode cX6_rectangle 4 = .ok (.istore 7, 2) := by decide +kernel
theorem dX6_rectangle_6 : decode cX6_rectangle 6 = .ok (.iload 7, 2) := by decide +kernel
theorem dX6_rectangle_8 : decode cX6_rectangle 8 = .ok (.iload_n 2, 1) := by decide +kernel
theorem dX6_rectangle_9 : decode cX6_rectangle 9 = .ok (.iload 4, 2) := by decide +kernel
theorem dX6_rectangle_11 : decode cX6_rectangle 11 = .ok (.iadd, 1) := by decide +kernel
theorem dX6_rectangle_12 : decode cX6_rectangle 12 = .ok (.if_icmp .ge 44, 3) := by decide +kernel
theorem dX6_rectangle_15 : decode cX6_rectangle 15 = .ok (.iload_n 1, 1) := by decide +kernel
theorem dX6_rectangle_16 : decode cX6_rectangle 16 = .ok (.istore 8, 2) := by decide +kernel
theorem dX6_rectangle_18 : decode cX6_rectangle 18 = .ok (.iload 8, 2) := by decide +kernel
theorem dX6_rectangle_20 : decode cX6_rectangle 20 = .ok (.iload_n 1, 1) := by decide +kernel
theorem dX6_rectangle_21 : decode cX6_rectangle 21 = .ok (.iload_n 3, 1) := by decide +kernel
theorem dX6_rectangle_22 : decode cX6_rectangle 22 = .ok (.iadd, 1) := by decide +kernel
theorem dX6_rectangle_23 : decode cX6_rectangle 23 = .ok (.if_icmp .ge 27, 3) := by decide +kernel
theorem dX6_rectangle_26 : decode cX6_rectangle 26 = .ok (.lload 5, 2) := by decide +kernel
theorem dX6_rectangle_28 : decode cX6_rectangle 28 = .ok (.lconst 1, 1) := by decide +kernel
theorem dX6_rectangle_29 : decode cX6_rectangle 29 = .ok (.iload 7, 2) := by decide +kernel
theorem dX6_rectangle_31 : decode cX6_rectangle 31 = .ok (.aload_n 0, 1) := by decide +kernel
theorem dX6_rectangle_32 : decode cX6_rectangle 32 = .ok (.iconst 0, 1) := by decide +kernel
theorem dX6_rectangle_33 : decode cX6_rectangle 33 = .ok (.invokevirtual 52, 3) := by decide +kernel
theorem dX6_rectangle_36 : decode cX6_rectangle 36 = .ok (.imul, 1) := by decide +kernel
theorem dX6_rectangle_37 : decode cX6_rectangle 37 = .ok (.iload 8, 2) := by decide +kernel
theorem dX6_rectangle_39 : decode cX6_rectangle 39 = .ok (.iadd, 1) := by decide +kernel
theorem dX6_rectangle_40 : decode cX6_rectangle 40 = .ok (.lshl, 1) := by decide +kernel
theorem dX6_rectangle_41 : decode cX6_rectangle 41 = .ok (.lor, 1) := by decide +kernel
theorem dX6_rectangle_42 : decode cX6_rectangle 42 = .ok (.lstore 5, 2) := by decide +kernel
theorem dX6_rectangle_44 : decode cX6_rectangle 44 = .ok (.iinc 8 1, 3) := by decide +kernel
theorem dX6_rectangle_47 : decode cX6_rectangle 47 = .ok (.goto (-29), 3) := by decide +kernel
theorem dX6_rectangle_50 : decode cX6_rectangle 50 = .ok (.iinc 7 1, 3) := by decide +kernel
theorem dX6_rectangle_53 : decode cX6_rectangle 53 = .ok (.goto (-47), 3) := by decide +kernel
theorem dX6_rectangle_56 : decode cX6_rectangle 56 = .ok (.lload 5, 2) := by decide +kernel
theorem dX6_rectangle_58 : decode cX6_rectangle 58 = .ok (.lreturn, 1) := by decide +kernel
set_option maxRecDepth 20000 in
theorem ggX6_all_X6_many : GoodIn wsX6_all wsX6_many := goodIn_r _ [5, 6, 11, 12, 13, 14, 15, 16, 17, 18, 19, 20, 21, 22, 23, 24, 25] (by decide +kernel) (by decide +kernel)
set_option maxRecDepth 20000 in
theorem gX6_all_X6_many : GoodIn wsX6_all (wsV RX6 52 RX6 yX6_many wsX6_many) := goodIn_app (goodIn_of _ (by decide +kernel)) ggX6_all_X6_many
set_option maxRecDepth 20000 in
theorem ggX6_all_X6_rectangle : GoodIn wsX6_all wsX6_rectangle := goodIn_r _ [10, 1, 2, 3, 4, 5, 6, 11, 12, 13, 14, 15, 16, 17, 18, 19, 20, 21, 22, 23, 24, 25] (by decide +kernel) (by decide +kernel)
set_option maxRecDepth 20000 in
theorem gX6_all_X6_rectangle : GoodIn wsX6_all (wsV RX6 67 RX6 yX6_rectangle wsX6_rectangle) := goodIn_app (goodIn_of _ (by decide +kernel)) ggX6_all_X6_rectangle
theorem dX6_all_0 : decode cX6_all 0 = .ok (.aload_n 0, 1) := by decide +kernel
theorem dX6_all_1 : decode cX6_all 1 = .ok (.iconst 0, 1) := by decide +kernel
theorem dX6_all_2 : decode cX6_all 2 = .ok (.iconst 0, 1) := by decide +kernel
theorem dX6_all_3 : decode cX6_all 3 = .ok (.aload_n 0, 1) := by decide +kernel
theorem dX6_all_4 : decode cX6_all 4 = .ok (.iconst 0, 1) := by decide +kernel
theorem dX6_all_5 : decode cX6_all 5 = .ok (.invokevirtual 52, 3) := by decide +kernel
theorem dX6_all_8 : decode cX6_all 8 = .ok (.aload_n 0, 1) := by decide +kernel
theorem dX6_all_9 : decode cX6_all 9 = .ok (.iconst 1, 1) := by decide +kernel
theorem dX6_all_10 : decode cX6_all 10 = .ok (.invokevirtual 52, 3) := by decide +kernel
theorem dX6_all_13 : decode cX6_all 13 = .ok (.invokevirtual 67, 3) := by decide +kernel
theorem dX6_all_16 : decode cX6_all 16 = .ok (.lreturn, 1) := by decide +kernel
set_option maxRecDepth 20000 in
theorem ggX6_carrier_X6_many : GoodIn wsX6_carrier wsX6_many := goodIn_r _ [6, 1, 11, 12, 13, 14, 15, 16, 17, 18, 19, 20, 21, 22, 23, 24, 25] (by decide +kernel) (by decide +kernel)
set_option maxRecDepth 20000 in
theorem gX6_carrier_X6_many : GoodIn wsX6_carrier (wsV RX6 52 RX6 yX6_many wsX6_many) := goodIn_app (goodIn_of _ (by decide +kernel)) ggX6_carrier_X6_many
set_option maxRecDepth 20000 in
theorem ggX6_carrier_X6_rectangle : GoodIn wsX6_carrier wsX6_rectangle := goodIn_r _ [10, 2, 3, 4, 5, 6, 1, 11, 12, 13, 14, 15, 16, 17, 18, 19, 20, 21, 22, 23, 24, 25] (by decide +kernel) (by decide +kernel)
set_option maxRecDepth 20000 in
theorem gX6_carrier_X6_rectangle : GoodIn wsX6_carrier (wsV RX6 67 RX6 yX6_rectangle wsX6_rectangle) := goodIn_app (goodIn_of _ (by decide +kernel)) ggX6_carrier_X6_rectangle
theorem dX6_carrier_0 : decode cX6_carrier 0 = .ok (.aload_n 0, 1) := by decide +kernel
theorem dX6_carrier_1 : decode cX6_carrier 1 = .ok (.iconst 0, 1) := by decide +kernel
theorem dX6_carrier_2 : decode cX6_carrier 2 = .ok (.iconst 0, 1) := by decide +kernel
theorem dX6_carrier_3 : decode cX6_carrier 3 = .ok (.aload_n 0, 1) := by decide +kernel
theorem dX6_carrier_4 : decode cX6_carrier 4 = .ok (.iconst 0, 1) := by decide +kernel
theorem dX6_carrier_5 : decode cX6_carrier 5 = .ok (.invokevirtual 52, 3) := by decide +kernel
theorem dX6_carrier_8 : decode cX6_carrier 8 = .ok (.iconst 1, 1) := by decide +kernel
theorem dX6_carrier_9 : decode cX6_carrier 9 = .ok (.invokevirtual 67, 3) := by decide +kernel
theorem dX6_carrier_12 : decode cX6_carrier 12 = .ok (.lstore_n 1, 1) := by decide +kernel
theorem dX6_carrier_13 : decode cX6_carrier 13 = .ok (.aload_n 0, 1) := by decide +kernel
theorem dX6_carrier_14 : decode cX6_carrier 14 = .ok (.iconst 0, 1) := by decide +kernel
theorem dX6_carrier_15 : decode cX6_carrier 15 = .ok (.aload_n 0, 1) := by decide +kernel
theorem dX6_carrier_16 : decode cX6_carrier 16 = .ok (.iconst 1, 1) := by decide +kernel
theorem dX6_carrier_17 : decode cX6_carrier 17 = .ok (.invokevirtual 52, 3) := by decide +kernel
theorem dX6_carrier_20 : decode cX6_carrier 20 = .ok (.iconst 1, 1) := by decide +kernel
theorem dX6_carrier_21 : decode cX6_carrier 21 = .ok (.isub, 1) := by decide +kernel
theorem dX6_carrier_22 : decode cX6_carrier 22 = .ok (.aload_n 0, 1) := by decide +kernel
theorem dX6_carrier_23 : decode cX6_carrier 23 = .ok (.iconst 0, 1) := by decide +kernel
theorem dX6_carrier_24 : decode cX6_carrier 24 = .ok (.invokevirtual 52, 3) := by decide +kernel
theorem dX6_carrier_27 : decode cX6_carrier 27 = .ok (.iconst 1, 1) := by decide +kernel
theorem dX6_carrier_28 : decode cX6_carrier 28 = .ok (.invokevirtual 67, 3) := by decide +kernel
theorem dX6_carrier_31 : decode cX6_carrier 31 = .ok (.lstore_n 3, 1) := by decide +kernel
theorem dX6_carrier_32 : decode cX6_carrier 32 = .ok (.aload_n 0, 1) := by decide +kernel
theorem dX6_carrier_33 : decode cX6_carrier 33 = .ok (.getfield 7, 3) := by decide +kernel
theorem dX6_carrier_36 : decode cX6_carrier 36 = .ok (.iconst 2, 1) := by decide +kernel
theorem dX6_carrier_37 : decode cX6_carrier 37 = .ok (.laload, 1) := by decide +kernel
theorem dX6_carrier_38 : decode cX6_carrier 38 = .ok (.lconst 0, 1) := by decide +kernel
theorem dX6_carrier_39 : decode cX6_carrier 39 = .ok (.lcmp, 1) := by decide +kernel
theorem dX6_carrier_40 : decode cX6_carrier 40 = .ok (.ifCond .ne 7, 3) := by decide +kernel
theorem dX6_carrier_43 : decode cX6_carrier 43 = .ok (.lload_n 1, 1) := by decide +kernel
theorem dX6_carrier_44 : decode cX6_carrier 44 = .ok (.goto 21, 3) := by decide +kernel
theorem dX6_carrier_47 : decode cX6_carrier 47 = .ok (.aload_n 0, 1) := by decide +kernel
theorem dX6_carrier_48 : decode cX6_carrier 48 = .ok (.getfield 7, 3) := by decide +kernel
theorem dX6_carrier_51 : decode cX6_carrier 51 = .ok (.iconst 2, 1) := by decide +kernel
theorem dX6_carrier_52 : decode cX6_carrier 52 = .ok (.laload, 1) := by decide +kernel
theorem dX6_carrier_53 : decode cX6_carrier 53 = .ok (.lconst 1, 1) := by decide +kernel
theorem dX6_carrier_54 : decode cX6_carrier 54 = .ok (.lcmp, 1) := by decide +kernel
theorem dX6_carrier_55 : decode cX6_carrier 55 = .ok (.ifCond .ne 7, 3) := by decide +kernel
theorem dX6_carrier_58 : decode cX6_carrier 58 = .ok (.lload_n 3, 1) := by decide +kernel
theorem dX6_carrier_59 : decode cX6_carrier 59 = .ok (.goto 6, 3) := by decide +kernel
theorem dX6_carrier_62 : decode cX6_carrier 62 = .ok (.lload_n 1, 1) := by decide +kernel
theorem dX6_carrier_63 : decode cX6_carrier 63 = .ok (.lload_n 3, 1) := by decide +kernel
theorem dX6_carrier_64 : decode cX6_carrier 64 = .ok (.lor, 1) := by decide +kernel
theorem dX6_carrier_65 : decode cX6_carrier 65 = .ok (.lreturn, 1) := by decide +kernel
set_option maxRecDepth 20000 in
theorem ggX6_part_X6_carrier : GoodIn wsX6_part wsX6_carrier := goodIn_r _ [7, 1, 8, 9, 10, 6, 11, 12, 13, 14, 15, 16, 17, 18, 19, 20, 21, 22, 23, 24, 25, 26, 27, 28, 29, 30] (by decide +kernel) (by decide +kernel)
set_option maxRecDepth 20000 in
theorem gX6_part_X6_carrier : GoodIn wsX6_part (wsV RX6 71 RX6 yX6_carrier wsX6_carrier) := goodIn_app (goodIn_of _ (by decide +kernel)) ggX6_part_X6_carrier
theorem dX6_part_0 : decode cX6_part 0 = .ok (.aload_n 0, 1) := by decide +kernel
theorem dX6_part_1 : decode cX6_part 1 = .ok (.getfield 7, 3) := by decide +kernel
theorem dX6_part_4 : decode cX6_part 4 = .ok (.bipush 14, 2) := by decide +kernel
theorem dX6_part_6 : decode cX6_part 6 = .ok (.laload, 1) := by decide +kernel
theorem dX6_part_7 : decode cX6_part 7 = .ok (.aload_n 0, 1) := by decide +kernel
theorem dX6_part_8 : decode cX6_part 8 = .ok (.invokevirtual 71, 3) := by decide +kernel
theorem dX6_part_11 : decode cX6_part 11 = .ok (.ldc2_w 75, 3) := by decide +kernel
theorem dX6_part_14 : decode cX6_part 14 = .ok (.lxor, 1) := by decide +kernel
theorem dX6_part_15 : decode cX6_part 15 = .ok (.land, 1) := by decide +kernel
theorem dX6_part_16 : decode cX6_part 16 = .ok (.lreturn, 1) := by decide +kernel
set_option maxRecDepth 20000 in
theorem ggX6_links_X6_carrier : GoodIn wsX6_links wsX6_carrier := goodIn_r _ [7, 1, 8, 9, 10, 6, 11, 12, 13, 14, 15, 16, 17, 18, 19, 20, 21, 22, 23, 24, 25, 26, 27, 28, 29, 30] (by decide +kernel) (by decide +kernel)
set_option maxRecDepth 20000 in
theorem gX6_links_X6_carrier : GoodIn wsX6_links (wsV RX6 71 RX6 yX6_carrier wsX6_carrier) := goodIn_app (goodIn_of _ (by decide +kernel)) ggX6_links_X6_carrier
theorem dX6_links_0 : decode cX6_links 0 = .ok (.aload_n 0, 1) := by decide +kernel
theorem dX6_links_1 : decode cX6_links 1 = .ok (.getfield 7, 3) := by decide +kernel
theorem dX6_links_4 : decode cX6_links 4 = .ok (.bipush 15, 2) := by decide +kernel
theorem dX6_links_6 : decode cX6_links 6 = .ok (.laload, 1) := by decide +kernel
theorem dX6_links_7 : decode cX6_links 7 = .ok (.aload_n 0, 1) := by decide +kernel
theorem dX6_links_8 : decode cX6_links 8 = .ok (.invokevirtual 71, 3) := by decide +kernel
theorem dX6_links_11 : decode cX6_links 11 = .ok (.ldc2_w 75, 3) := by decide +kernel
theorem dX6_links_14 : decode cX6_links 14 = .ok (.lxor, 1) := by decide +kernel
theorem dX6_links_15 : decode cX6_links 15 = .ok (.land, 1) := by decide +kernel
theorem dX6_links_16 : decode cX6_links 16 = .ok (.lreturn, 1) := by decide +kernel
set_option maxRecDepth 20000 in
theorem ggX6_grown_X6_many : GoodIn wsX6_grown wsX6_many := goodIn_r _ [5, 6, 7, 8, 9, 10, 11, 12, 13, 14, 15, 16, 17, 18, 19, 20, 21] (by decide +kernel) (by decide +kernel)
set_option maxRecDepth 20000 in
theorem gX6_grown_X6_many : GoodIn wsX6_grown (wsV RX6 52 RX6 yX6_many wsX6_many) := goodIn_app (goodIn_of _ (by decide +kernel)) ggX6_grown_X6_many
theorem dX6_grown_0 : decode cX6_grown 0 = .ok (.lload_n 1, 1) := by decide +kernel
theorem dX6_grown_1 : decode cX6_grown 1 = .ok (.lstore_n 3, 1) := by decide +kernel
theorem dX6_grown_2 : decode cX6_grown 2 = .ok (.aload_n 0, 1) := by decide +kernel
theorem dX6_grown_3 : decode cX6_grown 3 = .ok (.iconst 0, 1) := by decide +kernel
theorem dX6_grown_4 : decode cX6_grown 4 = .ok (.invokevirtual 52, 3) := by decide +kernel
theorem dX6_grown_7 : decode cX6_grown 7 = .ok (.aload_n 0, 1) := by decide +kernel
theorem dX6_grown_8 : decode cX6_grown 8 = .ok (.iconst 1, 1) := by decide +kernel
theorem dX6_grown_9 : decode cX6_grown 9 = .ok (.invokevirtual 52, 3) := by decide +kernel
theorem dX6_grown_12 : decode cX6_grown 12 = .ok (.imul, 1) := by decide +kernel
theorem dX6_grown_13 : decode cX6_grown 13 = .ok (.istore 5, 2) := by decide +kernel
theorem dX6_grown_15 : decode cX6_grown 15 = .ok (.iconst 0, 1) := by decide +kernel
theorem dX6_grown_16 : decode cX6_grown 16 = .ok (.istore 6, 2) := by decide +kernel
theorem dX6_grown_18 : decode cX6_grown 18 = .ok (.iload 6, 2) := by decide +kernel
theorem dX6_grown_20 : decode cX6_grown 20 = .ok (.iload 5, 2) := by decide +kernel
theorem dX6_grown_22 : decode cX6_grown 22 = .ok (.if_icmp .ge 130, 3) := by decide +kernel
theorem dX6_grown_25 : decode cX6_grown 25 = .ok (.lload_n 1, 1) := by decide +kernel
theorem dX6_grown_26 : decode cX6_grown 26 = .ok (.iload 6, 2) := by decide +kernel
theorem dX6_grown_28 : decode cX6_grown 28 = .ok (.lshr, 1) := by decide +kernel
theorem dX6_grown_29 : decode cX6_grown 29 = .ok (.lconst 1, 1) := by decide +kernel
theorem dX6_grown_30 : decode cX6_grown 30 = .ok (.land, 1) := by decide +kernel
theorem dX6_grown_31 : decode cX6_grown 31 = .ok (.lconst 1, 1) := by decide +kernel
theorem dX6_grown_32 : decode cX6_grown 32 = .ok (.lcmp, 1) := by decide +kernel
theorem dX6_grown_33 : decode cX6_grown 33 = .ok (.ifCond .ne 113, 3) := by decide +kernel
theorem dX6_grown_36 : decode cX6_grown 36 = .ok (.iload 6, 2) := by decide +kernel
theorem dX6_grown_38 : decode cX6_grown 38 = .ok (.aload_n 0, 1) := by decide +kernel
theorem dX6_grown_39 : decode cX6_grown 39 = .ok (.iconst 0, 1) := by decide +kernel
theorem dX6_grown_40 : decode cX6_grown 40 = .ok (.invokevirtual 52, 3) := by decide +kernel
theorem dX6_grown_43 : decode cX6_grown 43 = .ok (.irem, 1) := by decide +kernel
theorem dX6_grown_44 : decode cX6_grown 44 = .ok (.istore 7, 2) := by decide +kernel
theorem dX6_grown_46 : decode cX6_grown 46 = .ok (.lload_n 3, 1) := by decide +kernel
theorem dX6_grown_47 : decode cX6_grown 47 = .ok (.iload 7, 2) := by decide +kernel
theorem dX6_grown_49 : decode cX6_grown 49 = .ok (.ifCond .le 12, 3) := by decide +kernel
theorem dX6_grown_52 : decode cX6_grown 52 = .ok (.lconst 1, 1) := by decide +kernel
theorem dX6_grown_53 : decode cX6_grown 53 = .ok (.iload 6, 2) := by decide +kernel
theorem dX6_grown_55 : decode cX6_grown 55 = .ok (.iconst 1, 1) := by decide +kernel
theorem dX6_grown_56 : decode cX6_grown 56 = .ok (.isub, 1) := by decide +kernel
theorem dX6_grown_57 : decode cX6_grown 57 = .ok (.lshl, 1) := by decide +kernel
theorem dX6_grown_58 : decode cX6_grown 58 = .ok (.goto 4, 3) := by decide +kernel
theorem dX6_grown_61 : decode cX6_grown 61 = .ok (.lconst 0, 1) := by decide +kernel
theorem dX6_grown_62 : decode cX6_grown 62 = .ok (.lor, 1) := by decide +kernel
theorem dX6_grown_63 : decode cX6_grown 63 = .ok (.lstore_n 3, 1) := by decide +kernel
theorem dX6_grown_64 : decode cX6_grown 64 = .ok (.lload_n 3, 1) := by decide +kernel
theorem dX6_grown_65 : decode cX6_grown 65 = .ok (.iload 7, 2) := by decide +kernel
theorem dX6_grown_67 : decode cX6_grown 67 = .ok (.aload_n 0, 1) := by decide +kernel
theorem dX6_grown_68 : decode cX6_grown 68 = .ok (.iconst 0, 1) := by decide +kernel
theorem dX6_grown_69 : decode cX6_grown 69 = .ok (.invokevirtual 52, 3) := by decide +kernel
theorem dX6_grown_72 : decode cX6_grown 72 = .ok (.iconst 1, 1) := by decide +kernel
theorem dX6_grown_73 : decode cX6_grown 73 = .ok (.isub, 1) := by decide +kernel
theorem dX6_grown_74 : decode cX6_grown 74 = .ok (.if_icmp .ge 12, 3) := by decide +kernel
theorem dX6_grown_77 : decode cX6_grown 77 = .ok (.lconst 1, 1) := by decide +kernel
theorem dX6_grown_78 : decode cX6_grown 78 = .ok (.iload 6, 2) := by decide +kernel
theorem dX6_grown_80 : decode cX6_grown 80 = .ok (.iconst 1, 1) := by decide +kernel
theorem dX6_grown_81 : decode cX6_grown 81 = .ok (.iadd, 1) := by decide +kernel
theorem dX6_grown_82 : decode cX6_grown 82 = .ok (.lshl, 1) := by decide +kernel
theorem dX6_grown_83 : decode cX6_grown 83 = .ok (.goto 4, 3) := by decide +kernel
theorem dX6_grown_86 : decode cX6_grown 86 = .ok (.lconst 0, 1) := by decide +kernel
theorem dX6_grown_87 : decode cX6_grown 87 = .ok (.lor, 1) := by decide +kernel
theorem dX6_grown_88 : decode cX6_grown 88 = .ok (.lstore_n 3, 1) := by decide +kernel
theorem dX6_grown_89 : decode cX6_grown 89 = .ok (.lload_n 3, 1) := by decide +kernel
theorem dX6_grown_90 : decode cX6_grown 90 = .ok (.iload 6, 2) := by decide +kernel
theorem dX6_grown_92 : decode cX6_grown 92 = .ok (.aload_n 0, 1) := by decide +kernel
theorem dX6_grown_93 : decode cX6_grown 93 = .ok (.iconst 0, 1) := by decide +kernel
theorem dX6_grown_94 : decode cX6_grown 94 = .ok (.invokevirtual 52, 3) := by decide +kernel
theorem dX6_grown_97 : decode cX6_grown 97 = .ok (.if_icmp .lt 16, 3) := by decide +kernel
theorem dX6_grown_100 : decode cX6_grown 100 = .ok (.lconst 1, 1) := by decide +kernel
theorem dX6_grown_101 : decode cX6_grown 101 = .ok (.iload 6, 2) := by decide +kernel
theorem dX6_grown_103 : decode cX6_grown 103 = .ok (.aload_n 0, 1) := by decide +kernel
theorem dX6_grown_104 : decode cX6_grown 104 = .ok (.iconst 0, 1) := by decide +kernel
theorem dX6_grown_105 : decode cX6_grown 105 = .ok (.invokevirtual 52, 3) := by decide +kernel
theorem dX6_grown_108 : decode cX6_grown 108 = .ok (.isub, 1) := by decide +kernel
theorem dX6_grown_109 : decode cX6_grown 109 = .ok (.lshl, 1) := by decide +kernel
theorem dX6_grown_110 : decode cX6_grown 110 = .ok (.goto 4, 3) := by decide +kernel
theorem dX6_grown_113 : decode cX6_grown 113 = .ok (.lconst 0, 1) := by decide +kernel
theorem dX6_grown_114 : decode cX6_grown 114 = .ok (.lor, 1) := by decide +kernel
theorem dX6_grown_115 : decode cX6_grown 115 = .ok (.lstore_n 3, 1) := by decide +kernel
theorem dX6_grown_116 : decode cX6_grown 116 = .ok (.lload_n 3, 1) := by decide +kernel
theorem dX6_grown_117 : decode cX6_grown 117 = .ok (.iload 6, 2) := by decide +kernel
theorem dX6_grown_119 : decode cX6_grown 119 = .ok (.aload_n 0, 1) := by decide +kernel
theorem dX6_grown_120 : decode cX6_grown 120 = .ok (.iconst 0, 1) := by decide +kernel
theorem dX6_grown_121 : decode cX6_grown 121 = .ok (.invokevirtual 52, 3) := by decide +kernel
theorem dX6_grown_124 : decode cX6_grown 124 = .ok (.iadd, 1) := by decide +kernel
theorem dX6_grown_125 : decode cX6_grown 125 = .ok (.iload 5, 2) := by decide +kernel
theorem dX6_grown_127 : decode cX6_grown 127 = .ok (.if_icmp .ge 16, 3) := by decide +kernel
theorem dX6_grown_130 : decode cX6_grown 130 = .ok (.lconst 1, 1) := by decide +kernel
theorem dX6_grown_131 : decode cX6_grown 131 = .ok (.iload 6, 2) := by decide +kernel
theorem dX6_grown_133 : decode cX6_grown 133 = .ok (.aload_n 0, 1) := by decide +kernel
theorem dX6_grown_134 : decode cX6_grown 134 = .ok (.iconst 0, 1) := by decide +kernel
theorem dX6_grown_135 : decode cX6_grown 135 = .ok (.invokevirtual 52, 3) := by decide +kernel
theorem dX6_grown_138 : decode cX6_grown 138 = .ok (.iadd, 1) := by decide +kernel
theorem dX6_grown_139 : decode cX6_grown 139 = .ok (.lshl, 1) := by decide +kernel
theorem dX6_grown_140 : decode cX6_grown 140 = .ok (.goto 4, 3) := by decide +kernel
theorem dX6_grown_143 : decode cX6_grown 143 = .ok (.lconst 0, 1) := by decide +kernel
theorem dX6_grown_144 : decode cX6_grown 144 = .ok (.lor, 1) := by decide +kernel
theorem dX6_grown_145 : decode cX6_grown 145 = .ok (.lstore_n 3, 1) := by decide +kernel
theorem dX6_grown_146 : decode cX6_grown 146 = .ok (.iinc 6 1, 3) := by decide +kernel
theorem dX6_grown_149 : decode cX6_grown 149 = .ok (.goto (-131), 3) := by decide +kernel
theorem dX6_grown_152 : decode cX6_grown 152 = .ok (.lload_n 3, 1) := by decide +kernel
theorem dX6_grown_153 : decode cX6_grown 153 = .ok (.lreturn, 1) := by decide +kernel
set_option maxRecDepth 20000 in
theorem ggX6_cellsOf_X6_ofOp : GoodIn wsX6_cellsOf wsX6_ofOp := goodIn_r _ [5, 6, 15, 16, 17, 18, 19, 20, 21, 22, 23, 24, 25, 26, 27, 28, 29] (by decide +kernel) (by decide +kernel)
set_option maxRecDepth 20000 in
theorem gX6_cellsOf_X6_ofOp : GoodIn wsX6_cellsOf (wsV RX6 77 RX6 yX6_ofOp wsX6_ofOp) := goodIn_app (goodIn_of _ (by decide +kernel)) ggX6_cellsOf_X6_ofOp
set_option maxRecDepth 20000 in
theorem ggX6_cellsOf_X6_rectangle : GoodIn wsX6_cellsOf wsX6_rectangle := goodIn_r _ [10, 11, 12, 13, 4, 14, 6, 15, 16, 17, 18, 19, 20, 21, 22, 23, 24, 25, 26, 27, 28, 29] (by decide +kernel) (by decide +kernel)
set_option maxRecDepth 20000 in
theorem gX6_cellsOf_X6_rectangle : GoodIn wsX6_cellsOf (wsV RX6 67 RX6 yX6_rectangle wsX6_rectangle) := goodIn_app (goodIn_of _ (by decide +kernel)) ggX6_cellsOf_X6_rectangle
theorem dX6_cellsOf_0 : decode cX6_cellsOf 0 = .ok (.aload_n 0, 1) := by decide +kernel
theorem dX6_cellsOf_1 : decode cX6_cellsOf 1 = .ok (.aload_n 0, 1) := by decide +kernel
theorem dX6_cellsOf_2 : decode cX6_cellsOf 2 = .ok (.iload_n 1, 1) := by decide +kernel
theorem dX6_cellsOf_3 : decode cX6_cellsOf 3 = .ok (.iconst 1, 1) := by decide +kernel
theorem dX6_cellsOf_4 : decode cX6_cellsOf 4 = .ok (.invokevirtual 77, 3) := by decide +kernel
theorem dX6_cellsOf_7 : decode cX6_cellsOf 7 = .ok (.aload_n 0, 1) := by decide +kernel
theorem dX6_cellsOf_8 : decode cX6_cellsOf 8 = .ok (.iload_n 1, 1) := by decide +kernel
theorem dX6_cellsOf_9 : decode cX6_cellsOf 9 = .ok (.iconst 2, 1) := by decide +kernel
theorem dX6_cellsOf_10 : decode cX6_cellsOf 10 = .ok (.invokevirtual 77, 3) := by decide +kernel
theorem dX6_cellsOf_13 : decode cX6_cellsOf 13 = .ok (.aload_n 0, 1) := by decide +kernel
theorem dX6_cellsOf_14 : decode cX6_cellsOf 14 = .ok (.iload_n 1, 1) := by decide +kernel
theorem dX6_cellsOf_15 : decode cX6_cellsOf 15 = .ok (.iconst 3, 1) := by decide +kernel
theorem dX6_cellsOf_16 : decode cX6_cellsOf 16 = .ok (.invokevirtual 77, 3) := by decide +kernel
theorem dX6_cellsOf_19 : decode cX6_cellsOf 19 = .ok (.aload_n 0, 1) := by decide +kernel
theorem dX6_cellsOf_20 : decode cX6_cellsOf 20 = .ok (.iload_n 1, 1) := by decide +kernel
theorem dX6_cellsOf_21 : decode cX6_cellsOf 21 = .ok (.iconst 4, 1) := by decide +kernel
theorem dX6_cellsOf_22 : decode cX6_cellsOf 22 = .ok (.invokevirtual 77, 3) := by decide +kernel
theorem dX6_cellsOf_25 : decode cX6_cellsOf 25 = .ok (.invokevirtual 67, 3) := by decide +kernel
theorem dX6_cellsOf_28 : decode cX6_cellsOf 28 = .ok (.lreturn, 1) := by decide +kernel
set_option maxRecDepth 20000 in
theorem ggX6_takenBy_X6_many : GoodIn wsX6_takenBy wsX6_many := goodIn_r _ [5, 6, 19, 20, 21, 22, 23, 24, 25, 26, 27, 28, 29, 30, 31, 32, 33] (by decide +kernel) (by decide +kernel)
set_option maxRecDepth 20000 in
theorem gX6_takenBy_X6_many : GoodIn wsX6_takenBy (wsV RX6 52 RX6 yX6_many wsX6_many) := goodIn_app (goodIn_of _ (by decide +kernel)) ggX6_takenBy_X6_many
set_option maxRecDepth 20000 in
theorem ggX6_takenBy_X6_ofOp : GoodIn wsX6_takenBy wsX6_ofOp := goodIn_r _ [10, 6, 19, 20, 21, 22, 23, 24, 25, 26, 27, 28, 29, 30, 31, 32, 33] (by decide +kernel) (by decide +kernel)
set_option maxRecDepth 20000 in
theorem gX6_takenBy_X6_ofOp : GoodIn wsX6_takenBy (wsV RX6 77 RX6 yX6_ofOp wsX6_ofOp) := goodIn_app (goodIn_of _ (by decide +kernel)) ggX6_takenBy_X6_ofOp
set_option maxRecDepth 20000 in
theorem ggX6_takenBy_X6_cellsOf : GoodIn wsX6_takenBy wsX6_cellsOf := goodIn_r _ [14, 7, 8, 9, 4, 10, 6, 15, 16, 17, 18, 1, 2, 3, 5, 19, 20, 21, 22, 23, 24, 25, 26, 27, 28, 29, 30, 31, 32, 33] (by decide +kernel) (by decide +kernel)
set_option maxRecDepth 20000 in
theorem gX6_takenBy_X6_cellsOf : GoodIn wsX6_takenBy (wsV RX6 81 RX6 yX6_cellsOf wsX6_cellsOf) := goodIn_app (goodIn_of _ (by decide +kernel)) ggX6_takenBy_X6_cellsOf
theorem dX6_takenBy_0 : decode cX6_takenBy 0 = .ok (.lconst 0, 1) := by decide +kernel
theorem dX6_takenBy_1 : decode cX6_takenBy 1 = .ok (.lstore_n 2, 1) := by decide +kernel
theorem dX6_takenBy_2 : decode cX6_takenBy 2 = .ok (.iconst 0, 1) := by decide +kernel
theorem dX6_takenBy_3 : decode cX6_takenBy 3 = .ok (.istore 4, 2) := by decide +kernel
theorem dX6_takenBy_5 : decode cX6_takenBy 5 = .ok (.iload 4, 2) := by decide +kernel
theorem dX6_takenBy_7 : decode cX6_takenBy 7 = .ok (.aload_n 0, 1) := by decide +kernel
theorem dX6_takenBy_8 : decode cX6_takenBy 8 = .ok (.bipush 8, 2) := by decide +kernel
theorem dX6_takenBy_10 : decode cX6_takenBy 10 = .ok (.invokevirtual 52, 3) := by decide +kernel
theorem dX6_takenBy_13 : decode cX6_takenBy 13 = .ok (.if_icmp .ge 33, 3) := by decide +kernel
theorem dX6_takenBy_16 : decode cX6_takenBy 16 = .ok (.lload_n 2, 1) := by decide +kernel
theorem dX6_takenBy_17 : decode cX6_takenBy 17 = .ok (.aload_n 0, 1) := by decide +kernel
theorem dX6_takenBy_18 : decode cX6_takenBy 18 = .ok (.iload 4, 2) := by decide +kernel
theorem dX6_takenBy_20 : decode cX6_takenBy 20 = .ok (.iconst 0, 1) := by decide +kernel
theorem dX6_takenBy_21 : decode cX6_takenBy 21 = .ok (.invokevirtual 77, 3) := by decide +kernel
theorem dX6_takenBy_24 : decode cX6_takenBy 24 = .ok (.iload_n 1, 1) := by decide +kernel
theorem dX6_takenBy_25 : decode cX6_takenBy 25 = .ok (.if_icmp .ne 12, 3) := by decide +kernel
theorem dX6_takenBy_28 : decode cX6_takenBy 28 = .ok (.aload_n 0, 1) := by decide +kernel
theorem dX6_takenBy_29 : decode cX6_takenBy 29 = .ok (.iload 4, 2) := by decide +kernel
theorem dX6_takenBy_31 : decode cX6_takenBy 31 = .ok (.invokevirtual 81, 3) := by decide +kernel
theorem dX6_takenBy_34 : decode cX6_takenBy 34 = .ok (.goto 4, 3) := by decide +kernel
theorem dX6_takenBy_37 : decode cX6_takenBy 37 = .ok (.lconst 0, 1) := by decide +kernel
theorem dX6_takenBy_38 : decode cX6_takenBy 38 = .ok (.lor, 1) := by decide +kernel
theorem dX6_takenBy_39 : decode cX6_takenBy 39 = .ok (.lstore_n 2, 1) := by decide +kernel
theorem dX6_takenBy_40 : decode cX6_takenBy 40 = .ok (.iinc 4 1, 3) := by decide +kernel
theorem dX6_takenBy_43 : decode cX6_takenBy 43 = .ok (.goto (-38), 3) := by decide +kernel
theorem dX6_takenBy_46 : decode cX6_takenBy 46 = .ok (.lload_n 2, 1) := by decide +kernel
theorem dX6_takenBy_47 : decode cX6_takenBy 47 = .ok (.lreturn, 1) := by decide +kernel
set_option maxRecDepth 20000 in
theorem ggX6_loose_X6_part : GoodIn wsX6_loose wsX6_part := goodIn_r _ [6, 7, 1, 8, 9, 10, 5, 11, 12, 13, 14, 15, 16, 17, 18, 19, 28, 29, 30, 31, 32, 33, 34, 35, 36, 37, 38, 39, 40, 41, 42] (by decide +kernel) (by decide +kernel)
set_option maxRecDepth 20000 in
theorem gX6_loose_X6_part : GoodIn wsX6_loose (wsV RX6 85 RX6 yX6_part wsX6_part) := goodIn_app (goodIn_of _ (by decide +kernel)) ggX6_loose_X6_part
set_option maxRecDepth 20000 in
theorem ggX6_loose_X6_links : GoodIn wsX6_loose wsX6_links := goodIn_r _ [23, 7, 1, 8, 9, 10, 5, 11, 12, 13, 14, 15, 16, 17, 18, 19, 28, 29, 30, 31, 32, 33, 34, 35, 36, 37, 38, 39, 40, 41, 42] (by decide +kernel) (by decide +kernel)
set_option maxRecDepth 20000 in
theorem gX6_loose_X6_links : GoodIn wsX6_loose (wsV RX6 88 RX6 yX6_links wsX6_links) := goodIn_app (goodIn_of _ (by decide +kernel)) ggX6_loose_X6_links
set_option maxRecDepth 20000 in
theorem ggX6_loose_X6_carrier : GoodIn wsX6_loose wsX6_carrier := goodIn_r _ [11, 7, 12, 13, 14, 5, 15, 16, 17, 18, 19, 28, 29, 30, 31, 32, 33, 34, 35, 36, 37, 38, 39, 40, 41, 42] (by decide +kernel) (by decide +kernel)
set_option maxRecDepth 20000 in
theorem gX6_loose_X6_carrier : GoodIn wsX6_loose (wsV RX6 71 RX6 yX6_carrier wsX6_carrier) := goodIn_app (goodIn_of _ (by decide +kernel)) ggX6_loose_X6_carrier
set_option maxRecDepth 20000 in
theorem ggX6_loose_X6_grown : GoodIn wsX6_loose wsX6_grown := goodIn_r _ [27, 12, 13, 14, 5, 15, 7, 28, 29, 30, 31, 32, 33, 34, 35, 36, 37, 38, 39, 40, 41, 42] (by decide +kernel) (by decide +kernel)
set_option maxRecDepth 20000 in
theorem gX6_loose_X6_grown : GoodIn wsX6_loose (wsV RX6 91 RX6 yX6_grown wsX6_grown) := goodIn_app (goodIn_of _ (by decide +kernel)) ggX6_loose_X6_grown
theorem dX6_loose_0 : decode cX6_loose 0 = .ok (.aload_n 0, 1) := by decide +kernel
theorem dX6_loose_1 : decode cX6_loose 1 = .ok (.invokevirtual 85, 3) := by decide +kernel
theorem dX6_loose_4 : decode cX6_loose 4 = .ok (.aload_n 0, 1) := by decide +kernel
theorem dX6_loose_5 : decode cX6_loose 5 = .ok (.invokevirtual 88, 3) := by decide +kernel
theorem dX6_loose_8 : decode cX6_loose 8 = .ok (.lor, 1) := by decide +kernel
theorem dX6_loose_9 : decode cX6_loose 9 = .ok (.aload_n 0, 1) := by decide +kernel
theorem dX6_loose_10 : decode cX6_loose 10 = .ok (.invokevirtual 71, 3) := by decide +kernel
theorem dX6_loose_13 : decode cX6_loose 13 = .ok (.lor, 1) := by decide +kernel
theorem dX6_loose_14 : decode cX6_loose 14 = .ok (.lstore_n 1, 1) := by decide +kernel
theorem dX6_loose_15 : decode cX6_loose 15 = .ok (.aload_n 0, 1) := by decide +kernel
theorem dX6_loose_16 : decode cX6_loose 16 = .ok (.invokevirtual 71, 3) := by decide +kernel
theorem dX6_loose_19 : decode cX6_loose 19 = .ok (.lstore_n 3, 1) := by decide +kernel
theorem dX6_loose_20 : decode cX6_loose 20 = .ok (.lconst 0, 1) := by decide +kernel
theorem dX6_loose_21 : decode cX6_loose 21 = .ok (.lstore 5, 2) := by decide +kernel
theorem dX6_loose_23 : decode cX6_loose 23 = .ok (.lload 5, 2) := by decide +kernel
theorem dX6_loose_25 : decode cX6_loose 25 = .ok (.lload_n 3, 1) := by decide +kernel
theorem dX6_loose_26 : decode cX6_loose 26 = .ok (.lcmp, 1) := by decide +kernel
theorem dX6_loose_27 : decode cX6_loose 27 = .ok (.ifCond .eq 17, 3) := by decide +kernel
theorem dX6_loose_30 : decode cX6_loose 30 = .ok (.lload_n 3, 1) := by decide +kernel
theorem dX6_loose_31 : decode cX6_loose 31 = .ok (.lstore 5, 2) := by decide +kernel
theorem dX6_loose_33 : decode cX6_loose 33 = .ok (.aload_n 0, 1) := by decide +kernel
theorem dX6_loose_34 : decode cX6_loose 34 = .ok (.lload_n 3, 1) := by decide +kernel
theorem dX6_loose_35 : decode cX6_loose 35 = .ok (.invokevirtual 91, 3) := by decide +kernel
theorem dX6_loose_38 : decode cX6_loose 38 = .ok (.lload_n 1, 1) := by decide +kernel
theorem dX6_loose_39 : decode cX6_loose 39 = .ok (.land, 1) := by decide +kernel
theorem dX6_loose_40 : decode cX6_loose 40 = .ok (.lstore_n 3, 1) := by decide +kernel
theorem dX6_loose_41 : decode cX6_loose 41 = .ok (.goto (-18), 3) := by decide +kernel
theorem dX6_loose_44 : decode cX6_loose 44 = .ok (.aload_n 0, 1) := by decide +kernel
theorem dX6_loose_45 : decode cX6_loose 45 = .ok (.invokevirtual 85, 3) := by decide +kernel
theorem dX6_loose_48 : decode cX6_loose 48 = .ok (.lload_n 3, 1) := by decide +kernel
theorem dX6_loose_49 : decode cX6_loose 49 = .ok (.ldc2_w 75, 3) := by decide +kernel
theorem dX6_loose_52 : decode cX6_loose 52 = .ok (.lxor, 1) := by decide +kernel
theorem dX6_loose_53 : decode cX6_loose 53 = .ok (.land, 1) := by decide +kernel
theorem dX6_loose_54 : decode cX6_loose 54 = .ok (.lreturn, 1) := by decide +kernel
set_option maxRecDepth 20000 in
theorem ggX6_standing_X6_all : GoodIn wsX6_standing wsX6_all := goodIn_r _ [6, 7, 8, 9, 5, 10, 11, 12, 13, 14, 15, 40, 41, 42, 43, 44, 45, 46, 47, 48, 49, 50, 51, 52, 53, 54] (by decide +kernel) (by decide +kernel)
set_option maxRecDepth 20000 in
theorem gX6_standing_X6_all : GoodIn wsX6_standing (wsV RX6 95 RX6 yX6_all wsX6_all) := goodIn_app (goodIn_of _ (by decide +kernel)) ggX6_standing_X6_all
set_option maxRecDepth 20000 in
theorem ggX6_standing_X6_part : GoodIn wsX6_standing wsX6_part := goodIn_r _ [19, 11, 1, 20, 21, 22, 5, 23, 7, 8, 9, 10, 12, 13, 14, 15, 40, 41, 42, 43, 44, 45, 46, 47, 48, 49, 50, 51, 52, 53, 54] (by decide +kernel) (by decide +kernel)
set_option maxRecDepth 20000 in
theorem gX6_standing_X6_part : GoodIn wsX6_standing (wsV RX6 85 RX6 yX6_part wsX6_part) := goodIn_app (goodIn_of _ (by decide +kernel)) ggX6_standing_X6_part
set_option maxRecDepth 20000 in
theorem ggX6_standing_X6_links : GoodIn wsX6_standing wsX6_links := goodIn_r _ [27, 11, 1, 20, 21, 22, 5, 23, 7, 8, 9, 10, 12, 13, 14, 15, 40, 41, 42, 43, 44, 45, 46, 47, 48, 49, 50, 51, 52, 53, 54] (by decide +kernel) (by decide +kernel)
set_option maxRecDepth 20000 in
theorem gX6_standing_X6_links : GoodIn wsX6_standing (wsV RX6 88 RX6 yX6_links wsX6_links) := goodIn_app (goodIn_of _ (by decide +kernel)) ggX6_standing_X6_links
set_option maxRecDepth 20000 in
theorem ggX6_standing_X6_carrier : GoodIn wsX6_standing wsX6_carrier := goodIn_r _ [23, 11, 7, 8, 9, 5, 10, 12, 13, 14, 15, 40, 41, 42, 43, 44, 45, 46, 47, 48, 49, 50, 51, 52, 53, 54] (by decide +kernel) (by decide +kernel)
set_option maxRecDepth 20000 in
theorem gX6_standing_X6_carrier : GoodIn wsX6_standing (wsV RX6 71 RX6 yX6_carrier wsX6_carrier) := goodIn_app (goodIn_of _ (by decide +kernel)) ggX6_standing_X6_carrier
set_option maxRecDepth 20000 in
theorem ggX6_standing_X6_takenBy : GoodIn wsX6_standing wsX6_takenBy := goodIn_r _ [31, 7, 8, 9, 5, 10, 11, 32, 33, 34, 35, 36, 37, 38, 39, 12, 13, 14, 15, 40, 41, 42, 43, 44, 45, 46, 47, 48, 49, 50, 51, 52, 53, 54] (by decide +kernel) (by decide +kernel)
set_option maxRecDepth 20000 in
theorem gX6_standing_X6_takenBy : GoodIn wsX6_standing (wsV RX6 98 RX6 yX6_takenBy wsX6_takenBy) := goodIn_app (goodIn_of _ (by decide +kernel)) ggX6_standing_X6_takenBy
theorem dX6_standing_0 : decode cX6_standing 0 = .ok (.aload_n 0, 1) := by decide +kernel
theorem dX6_standing_1 : decode cX6_standing 1 = .ok (.invokevirtual 95, 3) := by decide +kernel
theorem dX6_standing_4 : decode cX6_standing 4 = .ok (.aload_n 0, 1) := by decide +kernel
theorem dX6_standing_5 : decode cX6_standing 5 = .ok (.invokevirtual 85, 3) := by decide +kernel
theorem dX6_standing_8 : decode cX6_standing 8 = .ok (.ldc2_w 75, 3) := by decide +kernel
theorem dX6_standing_11 : decode cX6_standing 11 = .ok (.lxor, 1) := by decide +kernel
theorem dX6_standing_12 : decode cX6_standing 12 = .ok (.land, 1) := by decide +kernel
theorem dX6_standing_13 : decode cX6_standing 13 = .ok (.aload_n 0, 1) := by decide +kernel
theorem dX6_standing_14 : decode cX6_standing 14 = .ok (.invokevirtual 88, 3) := by decide +kernel
theorem dX6_standing_17 : decode cX6_standing 17 = .ok (.ldc2_w 75, 3) := by decide +kernel
theorem dX6_standing_20 : decode cX6_standing 20 = .ok (.lxor, 1) := by decide +kernel
theorem dX6_standing_21 : decode cX6_standing 21 = .ok (.land, 1) := by decide +kernel
theorem dX6_standing_22 : decode cX6_standing 22 = .ok (.aload_n 0, 1) := by decide +kernel
theorem dX6_standing_23 : decode cX6_standing 23 = .ok (.invokevirtual 71, 3) := by decide +kernel
theorem dX6_standing_26 : decode cX6_standing 26 = .ok (.ldc2_w 75, 3) := by decide +kernel
theorem dX6_standing_29 : decode cX6_standing 29 = .ok (.lxor, 1) := by decide +kernel
theorem dX6_standing_30 : decode cX6_standing 30 = .ok (.land, 1) := by decide +kernel
theorem dX6_standing_31 : decode cX6_standing 31 = .ok (.aload_n 0, 1) := by decide +kernel
theorem dX6_standing_32 : decode cX6_standing 32 = .ok (.iconst 0, 1) := by decide +kernel
theorem dX6_standing_33 : decode cX6_standing 33 = .ok (.invokevirtual 98, 3) := by decide +kernel
theorem dX6_standing_36 : decode cX6_standing 36 = .ok (.ldc2_w 75, 3) := by decide +kernel
theorem dX6_standing_39 : decode cX6_standing 39 = .ok (.lxor, 1) := by decide +kernel
theorem dX6_standing_40 : decode cX6_standing 40 = .ok (.land, 1) := by decide +kernel
theorem dX6_standing_41 : decode cX6_standing 41 = .ok (.lreturn, 1) := by decide +kernel
set_option maxRecDepth 20000 in
theorem ggX6_setOf_X6_part : GoodIn wsX6_setOf wsX6_part := goodIn_r _ [5, 6, 7, 8, 9, 10, 4, 11, 12, 13, 14, 15, 16, 17, 18, 19, 52, 53, 54, 55, 56, 57, 58, 59, 60, 61, 62, 63, 64, 65, 66] (by decide +kernel) (by decide +kernel)
set_option maxRecDepth 20000 in
theorem gX6_setOf_X6_part : GoodIn wsX6_setOf (wsV RX6 85 RX6 yX6_part wsX6_part) := goodIn_app (goodIn_of _ (by decide +kernel)) ggX6_setOf_X6_part
set_option maxRecDepth 20000 in
theorem ggX6_setOf_X6_links : GoodIn wsX6_setOf wsX6_links := goodIn_r _ [23, 6, 7, 8, 9, 10, 4, 11, 12, 13, 14, 15, 16, 17, 18, 19, 52, 53, 54, 55, 56, 57, 58, 59, 60, 61, 62, 63, 64, 65, 66] (by decide +kernel) (by decide +kernel)
set_option maxRecDepth 20000 in
theorem gX6_setOf_X6_links : GoodIn wsX6_setOf (wsV RX6 88 RX6 yX6_links wsX6_links) := goodIn_app (goodIn_of _ (by decide +kernel)) ggX6_setOf_X6_links
set_option maxRecDepth 20000 in
theorem ggX6_setOf_X6_carrier : GoodIn wsX6_setOf wsX6_carrier := goodIn_r _ [11, 6, 12, 13, 14, 4, 15, 16, 17, 18, 19, 52, 53, 54, 55, 56, 57, 58, 59, 60, 61, 62, 63, 64, 65, 66] (by decide +kernel) (by decide +kernel)
set_option maxRecDepth 20000 in
theorem gX6_setOf_X6_carrier : GoodIn wsX6_setOf (wsV RX6 71 RX6 yX6_carrier wsX6_carrier) := goodIn_app (goodIn_of _ (by decide +kernel)) ggX6_setOf_X6_carrier
set_option maxRecDepth 20000 in
theorem ggX6_setOf_X6_takenBy : GoodIn wsX6_setOf wsX6_takenBy := goodIn_r _ [27, 12, 13, 14, 4, 15, 6, 28, 29, 30, 31, 32, 33, 34, 35, 16, 17, 18, 19, 52, 53, 54, 55, 56, 57, 58, 59, 60, 61, 62, 63, 64, 65, 66] (by decide +kernel) (by decide +kernel)
set_option maxRecDepth 20000 in
theorem gX6_setOf_X6_takenBy : GoodIn wsX6_setOf (wsV RX6 98 RX6 yX6_takenBy wsX6_takenBy) := goodIn_app (goodIn_of _ (by decide +kernel)) ggX6_setOf_X6_takenBy
set_option maxRecDepth 20000 in
theorem ggX6_setOf_X6_standing : GoodIn wsX6_setOf wsX6_standing := goodIn_r _ [39, 7, 40, 41, 42, 4, 43, 12, 13, 14, 15, 6, 16, 17, 18, 19, 1, 2, 3, 5, 8, 9, 10, 11, 20, 21, 22, 23, 24, 25, 26, 27, 28, 29, 30, 31, 32, 33, 34, 35, 52, 53, 54, 55, 56, 57, 58, 59, 60, 61, 62, 63, 64, 65, 66] (by decide +kernel) (by decide +kernel)
set_option maxRecDepth 20000 in
theorem gX6_setOf_X6_standing : GoodIn wsX6_setOf (wsV RX6 101 RX6 yX6_standing wsX6_standing) := goodIn_app (goodIn_of _ (by decide +kernel)) ggX6_setOf_X6_standing
set_option maxRecDepth 20000 in
theorem ggX6_setOf_X6_loose : GoodIn wsX6_setOf wsX6_loose := goodIn_r _ [47, 7, 1, 2, 3, 4, 5, 6, 8, 9, 10, 11, 12, 13, 14, 15, 16, 17, 18, 19, 20, 21, 22, 23, 48, 49, 50, 51, 52, 53, 54, 55, 56, 57, 58, 59, 60, 61, 62, 63, 64, 65, 66] (by decide +kernel) (by decide +kernel)
set_option maxRecDepth 20000 in
theorem gX6_setOf_X6_loose : GoodIn wsX6_setOf (wsV RX6 104 RX6 yX6_loose wsX6_loose) := goodIn_app (goodIn_of _ (by decide +kernel)) ggX6_setOf_X6_loose
theorem dX6_setOf_0 : decode cX6_setOf 0 = .ok (.iload_n 1, 1) := by decide +kernel
theorem dX6_setOf_1 : decode cX6_setOf 1 = .ok (.iconst 3, 1) := by decide +kernel
theorem dX6_setOf_2 : decode cX6_setOf 2 = .ok (.if_icmp .ge 31, 3) := by decide +kernel
theorem dX6_setOf_5 : decode cX6_setOf 5 = .ok (.iload_n 1, 1) := by decide +kernel
theorem dX6_setOf_6 : decode cX6_setOf 6 = .ok (.ifCond .ne 10, 3) := by decide +kernel
theorem dX6_setOf_9 : decode cX6_setOf 9 = .ok (.aload_n 0, 1) := by decide +kernel
theorem dX6_setOf_10 : decode cX6_setOf 10 = .ok (.invokevirtual 85, 3) := by decide +kernel
theorem dX6_setOf_13 : decode cX6_setOf 13 = .ok (.goto 19, 3) := by decide +kernel
theorem dX6_setOf_16 : decode cX6_setOf 16 = .ok (.iload_n 1, 1) := by decide +kernel
theorem dX6_setOf_17 : decode cX6_setOf 17 = .ok (.iconst 1, 1) := by decide +kernel
theorem dX6_setOf_18 : decode cX6_setOf 18 = .ok (.if_icmp .ne 10, 3) := by decide +kernel
theorem dX6_setOf_21 : decode cX6_setOf 21 = .ok (.aload_n 0, 1) := by decide +kernel
theorem dX6_setOf_22 : decode cX6_setOf 22 = .ok (.invokevirtual 88, 3) := by decide +kernel
theorem dX6_setOf_25 : decode cX6_setOf 25 = .ok (.goto 7, 3) := by decide +kernel
theorem dX6_setOf_28 : decode cX6_setOf 28 = .ok (.aload_n 0, 1) := by decide +kernel
theorem dX6_setOf_29 : decode cX6_setOf 29 = .ok (.invokevirtual 71, 3) := by decide +kernel
theorem dX6_setOf_32 : decode cX6_setOf 32 = .ok (.lreturn, 1) := by decide +kernel
theorem dX6_setOf_33 : decode cX6_setOf 33 = .ok (.iload_n 1, 1) := by decide +kernel
theorem dX6_setOf_34 : decode cX6_setOf 34 = .ok (.iconst 3, 1) := by decide +kernel
theorem dX6_setOf_35 : decode cX6_setOf 35 = .ok (.if_icmp .ne 11, 3) := by decide +kernel
theorem dX6_setOf_38 : decode cX6_setOf 38 = .ok (.aload_n 0, 1) := by decide +kernel
theorem dX6_setOf_39 : decode cX6_setOf 39 = .ok (.iconst 0, 1) := by decide +kernel
theorem dX6_setOf_40 : decode cX6_setOf 40 = .ok (.invokevirtual 98, 3) := by decide +kernel
theorem dX6_setOf_43 : decode cX6_setOf 43 = .ok (.goto 19, 3) := by decide +kernel
theorem dX6_setOf_46 : decode cX6_setOf 46 = .ok (.iload_n 1, 1) := by decide +kernel
theorem dX6_setOf_47 : decode cX6_setOf 47 = .ok (.iconst 4, 1) := by decide +kernel
theorem dX6_setOf_48 : decode cX6_setOf 48 = .ok (.if_icmp .ne 10, 3) := by decide +kernel
theorem dX6_setOf_51 : decode cX6_setOf 51 = .ok (.aload_n 0, 1) := by decide +kernel
theorem dX6_setOf_52 : decode cX6_setOf 52 = .ok (.invokevirtual 101, 3) := by decide +kernel
theorem dX6_setOf_55 : decode cX6_setOf 55 = .ok (.goto 7, 3) := by decide +kernel
theorem dX6_setOf_58 : decode cX6_setOf 58 = .ok (.aload_n 0, 1) := by decide +kernel
theorem dX6_setOf_59 : decode cX6_setOf 59 = .ok (.invokevirtual 104, 3) := by decide +kernel
theorem dX6_setOf_62 : decode cX6_setOf 62 = .ok (.lreturn, 1) := by decide +kernel
set_option maxRecDepth 20000 in
theorem ggX6_cellSet_X6_in : GoodIn wsX6_cellSet wsX6_in := goodIn_r _ [5] (by decide +kernel) (by decide +kernel)
set_option maxRecDepth 20000 in
theorem gX6_cellSet_X6_in : GoodIn wsX6_cellSet (va_wsS RX6 56 yX6_in wsX6_in) := goodIn_app (goodIn_of _ (by decide +kernel)) ggX6_cellSet_X6_in
set_option maxRecDepth 20000 in
theorem ggX6_cellSet_X6_setOf : GoodIn wsX6_cellSet wsX6_setOf := goodIn_r _ [9, 10, 11, 12, 4, 13, 14, 15, 16, 17, 18, 19, 20, 21, 22, 23, 24, 25, 26, 27, 28, 29, 30, 31, 32, 33, 34, 35, 36, 37, 38, 39, 40, 41, 42, 43, 44, 45, 46, 47, 48, 49, 50, 51, 52, 53, 54, 55, 56, 57, 58, 59, 64, 65, 66, 67, 68, 69, 70, 71, 72, 73, 74, 75, 76, 77, 78] (by decide +kernel) (by decide +kernel)
set_option maxRecDepth 20000 in
theorem gX6_cellSet_X6_setOf : GoodIn wsX6_cellSet (wsV RX6 107 RX6 yX6_setOf wsX6_setOf) := goodIn_app (goodIn_of _ (by decide +kernel)) ggX6_cellSet_X6_setOf
set_option maxRecDepth 20000 in
theorem ggX6_cellSet_X6_fails : GoodIn wsX6_cellSet wsX6_fails := goodIn_r _ [63, 1, 64, 65, 66, 67, 68, 69, 70, 71, 72, 73, 74, 75, 76, 77, 78] (by decide +kernel) (by decide +kernel)
set_option maxRecDepth 20000 in
theorem gX6_cellSet_X6_fails : GoodIn wsX6_cellSet (wsV RX6 110 RX6 yX6_fails wsX6_fails) := goodIn_app (goodIn_of _ (by decide +kernel)) ggX6_cellSet_X6_fails
theorem dX6_cellSet_0 : decode cX6_cellSet 0 = .ok (.aload_n 0, 1) := by decide +kernel
theorem dX6_cellSet_1 : decode cX6_cellSet 1 = .ok (.iconst 0, 1) := by decide +kernel
theorem dX6_cellSet_2 : decode cX6_cellSet 2 = .ok (.putfield 48, 3) := by decide +kernel
theorem dX6_cellSet_5 : decode cX6_cellSet 5 = .ok (.iload_n 1, 1) := by decide +kernel
theorem dX6_cellSet_6 : decode cX6_cellSet 6 = .ok (.iconst 0, 1) := by decide +kernel
theorem dX6_cellSet_7 : decode cX6_cellSet 7 = .ok (.iconst 5, 1) := by decide +kernel
theorem dX6_cellSet_8 : decode cX6_cellSet 8 = .ok (.invokestatic 56, 3) := by decide +kernel
theorem dX6_cellSet_11 : decode cX6_cellSet 11 = .ok (.ifCond .eq 11, 3) := by decide +kernel
theorem dX6_cellSet_14 : decode cX6_cellSet 14 = .ok (.aload_n 0, 1) := by decide +kernel
theorem dX6_cellSet_15 : decode cX6_cellSet 15 = .ok (.iload_n 1, 1) := by decide +kernel
theorem dX6_cellSet_16 : decode cX6_cellSet 16 = .ok (.invokevirtual 107, 3) := by decide +kernel
theorem dX6_cellSet_19 : decode cX6_cellSet 19 = .ok (.goto 9, 3) := by decide +kernel
theorem dX6_cellSet_22 : decode cX6_cellSet 22 = .ok (.aload_n 0, 1) := by decide +kernel
theorem dX6_cellSet_23 : decode cX6_cellSet 23 = .ok (.iconst 1, 1) := by decide +kernel
theorem dX6_cellSet_24 : decode cX6_cellSet 24 = .ok (.invokevirtual 110, 3) := by decide +kernel
theorem dX6_cellSet_27 : decode cX6_cellSet 27 = .ok (.i2l, 1) := by decide +kernel
theorem dX6_cellSet_28 : decode cX6_cellSet 28 = .ok (.lreturn, 1) := by decide +kernel
set_option maxRecDepth 20000 in
theorem ggX6_begin_X6_in : GoodIn wsX6_begin wsX6_in := goodIn_r _ [6] (by decide +kernel) (by decide +kernel)
set_option maxRecDepth 20000 in
theorem gX6_begin_X6_in : GoodIn wsX6_begin (va_wsS RX6 56 yX6_in wsX6_in) := goodIn_app (goodIn_of _ (by decide +kernel)) ggX6_begin_X6_in
set_option maxRecDepth 20000 in
theorem ggX6_begin_X6_fails : GoodIn wsX6_begin wsX6_fails := goodIn_r _ [10, 1, 22, 23, 24, 25, 26, 27, 28, 29, 30, 31, 32, 33, 34, 35, 36] (by decide +kernel) (by decide +kernel)
set_option maxRecDepth 20000 in
theorem gX6_begin_X6_fails : GoodIn wsX6_begin (wsV RX6 110 RX6 yX6_fails wsX6_fails) := goodIn_app (goodIn_of _ (by decide +kernel)) ggX6_begin_X6_fails
set_option maxRecDepth 20000 in
theorem ggX6_begin_X6_save : GoodIn wsX6_begin wsX6_save := goodIn_r _ [14, 15, 16, 17, 2, 22, 23, 24, 25, 26, 27, 28, 29, 30, 31, 32, 33, 34, 35, 36] (by decide +kernel) (by decide +kernel)
set_option maxRecDepth 20000 in
theorem gX6_begin_X6_save : GoodIn wsX6_begin (wsV RX6 113 RX6 yX6_save wsX6_save) := goodIn_app (goodIn_of _ (by decide +kernel)) ggX6_begin_X6_save
set_option maxRecDepth 20000 in
theorem ggX6_begin_X6_many : GoodIn wsX6_begin wsX6_many := goodIn_r _ [21, 2, 22, 23, 24, 25, 26, 27, 28, 29, 30, 31, 32, 33, 34, 35, 36] (by decide +kernel) (by decide +kernel)
set_option maxRecDepth 20000 in
theorem gX6_begin_X6_many : GoodIn wsX6_begin (wsV RX6 52 RX6 yX6_many wsX6_many) := goodIn_app (goodIn_of _ (by decide +kernel)) ggX6_begin_X6_many
theorem dX6_begin_0 : decode cX6_begin 0 = .ok (.aload_n 0, 1) := by decide +kernel
theorem dX6_begin_1 : decode cX6_begin 1 = .ok (.iconst 0, 1) := by decide +kernel
theorem dX6_begin_2 : decode cX6_begin 2 = .ok (.putfield 48, 3) := by decide +kernel
theorem dX6_begin_5 : decode cX6_begin 5 = .ok (.iload_n 1, 1) := by decide +kernel
theorem dX6_begin_6 : decode cX6_begin 6 = .ok (.iconst 2, 1) := by decide +kernel
theorem dX6_begin_7 : decode cX6_begin 7 = .ok (.bipush 10, 2) := by decide +kernel
theorem dX6_begin_9 : decode cX6_begin 9 = .ok (.invokestatic 56, 3) := by decide +kernel
theorem dX6_begin_12 : decode cX6_begin 12 = .ok (.ifCond .eq 13, 3) := by decide +kernel
theorem dX6_begin_15 : decode cX6_begin 15 = .ok (.iload_n 2, 1) := by decide +kernel
theorem dX6_begin_16 : decode cX6_begin 16 = .ok (.iconst 2, 1) := by decide +kernel
theorem dX6_begin_17 : decode cX6_begin 17 = .ok (.bipush 6, 2) := by decide +kernel
theorem dX6_begin_19 : decode cX6_begin 19 = .ok (.invokestatic 56, 3) := by decide +kernel
theorem dX6_begin_22 : decode cX6_begin 22 = .ok (.ifCond .ne 9, 3) := by decide +kernel
theorem dX6_begin_25 : decode cX6_begin 25 = .ok (.aload_n 0, 1) := by decide +kernel
theorem dX6_begin_26 : decode cX6_begin 26 = .ok (.iconst 1, 1) := by decide +kernel
theorem dX6_begin_27 : decode cX6_begin 27 = .ok (.invokevirtual 110, 3) := by decide +kernel
theorem dX6_begin_30 : decode cX6_begin 30 = .ok (.ireturn, 1) := by decide +kernel
theorem dX6_begin_31 : decode cX6_begin 31 = .ok (.aload_n 0, 1) := by decide +kernel
theorem dX6_begin_32 : decode cX6_begin 32 = .ok (.invokevirtual 113, 3) := by decide +kernel
theorem dX6_begin_35 : decode cX6_begin 35 = .ok (.aload_n 0, 1) := by decide +kernel
theorem dX6_begin_36 : decode cX6_begin 36 = .ok (.bipush 8, 2) := by decide +kernel
theorem dX6_begin_38 : decode cX6_begin 38 = .ok (.invokevirtual 52, 3) := by decide +kernel
theorem dX6_begin_41 : decode cX6_begin 41 = .ok (.istore_n 3, 1) := by decide +kernel
theorem dX6_begin_42 : decode cX6_begin 42 = .ok (.aload_n 0, 1) := by decide +kernel
theorem dX6_begin_43 : decode cX6_begin 43 = .ok (.getfield 7, 3) := by decide +kernel
theorem dX6_begin_46 : decode cX6_begin 46 = .ok (.iconst 0, 1) := by decide +kernel
theorem dX6_begin_47 : decode cX6_begin 47 = .ok (.iload_n 1, 1) := by decide +kernel
theorem dX6_begin_48 : decode cX6_begin 48 = .ok (.i2l, 1) := by decide +kernel
theorem dX6_begin_49 : decode cX6_begin 49 = .ok (.lastore, 1) := by decide +kernel
theorem dX6_begin_50 : decode cX6_begin 50 = .ok (.aload_n 0, 1) := by decide +kernel
theorem dX6_begin_51 : decode cX6_begin 51 = .ok (.getfield 7, 3) := by decide +kernel
theorem dX6_begin_54 : decode cX6_begin 54 = .ok (.iconst 1, 1) := by decide +kernel
theorem dX6_begin_55 : decode cX6_begin 55 = .ok (.iload_n 2, 1) := by decide +kernel
theorem dX6_begin_56 : decode cX6_begin 56 = .ok (.i2l, 1) := by decide +kernel
theorem dX6_begin_57 : decode cX6_begin 57 = .ok (.lastore, 1) := by decide +kernel
theorem dX6_begin_58 : decode cX6_begin 58 = .ok (.bipush 8, 2) := by decide +kernel
theorem dX6_begin_60 : decode cX6_begin 60 = .ok (.istore 4, 2) := by decide +kernel
theorem dX6_begin_62 : decode cX6_begin 62 = .ok (.iload 4, 2) := by decide +kernel
theorem dX6_begin_64 : decode cX6_begin 64 = .ok (.bipush 100, 2) := by decide +kernel
theorem dX6_begin_66 : decode cX6_begin 66 = .ok (.if_icmp .ge 17, 3) := by decide +kernel
theorem dX6_begin_69 : decode cX6_begin 69 = .ok (.aload_n 0, 1) := by decide +kernel
theorem dX6_begin_70 : decode cX6_begin 70 = .ok (.getfield 7, 3) := by decide +kernel
theorem dX6_begin_73 : decode cX6_begin 73 = .ok (.iload 4, 2) := by decide +kernel
theorem dX6_begin_75 : decode cX6_begin 75 = .ok (.lconst 0, 1) := by decide +kernel
theorem dX6_begin_76 : decode cX6_begin 76 = .ok (.lastore, 1) := by decide +kernel
theorem dX6_begin_77 : decode cX6_begin 77 = .ok (.iinc 4 1, 3) := by decide +kernel
theorem dX6_begin_80 : decode cX6_begin 80 = .ok (.goto (-18), 3) := by decide +kernel
theorem dX6_begin_83 : decode cX6_begin 83 = .ok (.iload_n 3, 1) := by decide +kernel
theorem dX6_begin_84 : decode cX6_begin 84 = .ok (.ireturn, 1) := by decide +kernel
set_option maxRecDepth 20000 in
theorem ggX6_mark_X6_isRectangle : GoodIn wsX6_mark wsX6_isRectangle := goodIn_r _ [8, 9, 10, 11, 7, 12, 2, 13, 14, 15, 34, 35, 36, 37, 38, 39, 40, 41, 42, 43, 44, 45, 46, 47, 48] (by decide +kernel) (by decide +kernel)
set_option maxRecDepth 20000 in
theorem gX6_mark_X6_isRectangle : GoodIn wsX6_mark (wsV RX6 116 RX6 yX6_isRectangle wsX6_isRectangle) := goodIn_app (goodIn_of _ (by decide +kernel)) ggX6_mark_X6_isRectangle
set_option maxRecDepth 20000 in
theorem ggX6_mark_X6_in : GoodIn wsX6_mark wsX6_in := goodIn_r _ [15] (by decide +kernel) (by decide +kernel)
set_option maxRecDepth 20000 in
theorem gX6_mark_X6_in : GoodIn wsX6_mark (va_wsS RX6 56 yX6_in wsX6_in) := goodIn_app (goodIn_of _ (by decide +kernel)) ggX6_mark_X6_in
set_option maxRecDepth 20000 in
theorem ggX6_mark_X6_fails : GoodIn wsX6_mark wsX6_fails := goodIn_r _ [19, 1, 34, 35, 36, 37, 38, 39, 40, 41, 42, 43, 44, 45, 46, 47, 48] (by decide +kernel) (by decide +kernel)
set_option maxRecDepth 20000 in
theorem gX6_mark_X6_fails : GoodIn wsX6_mark (wsV RX6 110 RX6 yX6_fails wsX6_fails) := goodIn_app (goodIn_of _ (by decide +kernel)) ggX6_mark_X6_fails
set_option maxRecDepth 20000 in
theorem ggX6_mark_X6_save : GoodIn wsX6_mark wsX6_save := goodIn_r _ [23, 24, 25, 26, 2, 34, 35, 36, 37, 38, 39, 40, 41, 42, 43, 44, 45, 46, 47, 48] (by decide +kernel) (by decide +kernel)
set_option maxRecDepth 20000 in
theorem gX6_mark_X6_save : GoodIn wsX6_mark (wsV RX6 113 RX6 yX6_save wsX6_save) := goodIn_app (goodIn_of _ (by decide +kernel)) ggX6_mark_X6_save
set_option maxRecDepth 20000 in
theorem ggX6_mark_X6_rectangle : GoodIn wsX6_mark wsX6_rectangle := goodIn_r _ [30, 9, 10, 11, 7, 12, 2, 34, 35, 36, 37, 38, 39, 40, 41, 42, 43, 44, 45, 46, 47, 48] (by decide +kernel) (by decide +kernel)
set_option maxRecDepth 20000 in
theorem gX6_mark_X6_rectangle : GoodIn wsX6_mark (wsV RX6 67 RX6 yX6_rectangle wsX6_rectangle) := goodIn_app (goodIn_of _ (by decide +kernel)) ggX6_mark_X6_rectangle
set_option maxRecDepth 20000 in
theorem ggX6_mark_X6_ones : GoodIn wsX6_mark wsX6_ones := goodIn_r _ [33] (by decide +kernel) (by decide +kernel)
set_option maxRecDepth 20000 in
theorem gX6_mark_X6_ones : GoodIn wsX6_mark (va_wsS RX6 120 yX6_ones wsX6_ones) := goodIn_app (goodIn_of _ (by decide +kernel)) ggX6_mark_X6_ones
theorem dX6_mark_0 : decode cX6_mark 0 = .ok (.aload_n 0, 1) := by decide +kernel
theorem dX6_mark_1 : decode cX6_mark 1 = .ok (.iconst 0, 1) := by decide +kernel
theorem dX6_mark_2 : decode cX6_mark 2 = .ok (.putfield 48, 3) := by decide +kernel
theorem dX6_mark_5 : decode cX6_mark 5 = .ok (.aload_n 0, 1) := by decide +kernel
theorem dX6_mark_6 : decode cX6_mark 6 = .ok (.iload_n 1, 1) := by decide +kernel
theorem dX6_mark_7 : decode cX6_mark 7 = .ok (.iload_n 2, 1) := by decide +kernel
theorem dX6_mark_8 : decode cX6_mark 8 = .ok (.iload_n 3, 1) := by decide +kernel
theorem dX6_mark_9 : decode cX6_mark 9 = .ok (.iload 4, 2) := by decide +kernel
theorem dX6_mark_11 : decode cX6_mark 11 = .ok (.invokevirtual 116, 3) := by decide +kernel
theorem dX6_mark_14 : decode cX6_mark 14 = .ok (.ifCond .eq 13, 3) := by decide +kernel
theorem dX6_mark_17 : decode cX6_mark 17 = .ok (.iload 5, 2) := by decide +kernel
theorem dX6_mark_19 : decode cX6_mark 19 = .ok (.iconst 0, 1) := by decide +kernel
theorem dX6_mark_20 : decode cX6_mark 20 = .ok (.iconst 2, 1) := by decide +kernel
theorem dX6_mark_21 : decode cX6_mark 21 = .ok (.invokestatic 56, 3) := by decide +kernel
theorem dX6_mark_24 : decode cX6_mark 24 = .ok (.ifCond .ne 9, 3) := by decide +kernel
theorem dX6_mark_27 : decode cX6_mark 27 = .ok (.aload_n 0, 1) := by decide +kernel
theorem dX6_mark_28 : decode cX6_mark 28 = .ok (.iconst 1, 1) := by decide +kernel
theorem dX6_mark_29 : decode cX6_mark 29 = .ok (.invokevirtual 110, 3) := by decide +kernel
theorem dX6_mark_32 : decode cX6_mark 32 = .ok (.ireturn, 1) := by decide +kernel
theorem dX6_mark_33 : decode cX6_mark 33 = .ok (.aload_n 0, 1) := by decide +kernel
theorem dX6_mark_34 : decode cX6_mark 34 = .ok (.invokevirtual 113, 3) := by decide +kernel
theorem dX6_mark_37 : decode cX6_mark 37 = .ok (.aload_n 0, 1) := by decide +kernel
theorem dX6_mark_38 : decode cX6_mark 38 = .ok (.iload_n 1, 1) := by decide +kernel
theorem dX6_mark_39 : decode cX6_mark 39 = .ok (.iload_n 2, 1) := by decide +kernel
theorem dX6_mark_40 : decode cX6_mark 40 = .ok (.iload_n 3, 1) := by decide +kernel
theorem dX6_mark_41 : decode cX6_mark 41 = .ok (.iload 4, 2) := by decide +kernel
theorem dX6_mark_43 : decode cX6_mark 43 = .ok (.invokevirtual 67, 3) := by decide +kernel
theorem dX6_mark_46 : decode cX6_mark 46 = .ok (.lstore 6, 2) := by decide +kernel
theorem dX6_mark_48 : decode cX6_mark 48 = .ok (.iload 5, 2) := by decide +kernel
theorem dX6_mark_50 : decode cX6_mark 50 = .ok (.iconst 1, 1) := by decide +kernel
theorem dX6_mark_51 : decode cX6_mark 51 = .ok (.if_icmp .ne 13, 3) := by decide +kernel
theorem dX6_mark_54 : decode cX6_mark 54 = .ok (.aload_n 0, 1) := by decide +kernel
theorem dX6_mark_55 : decode cX6_mark 55 = .ok (.getfield 7, 3) := by decide +kernel
theorem dX6_mark_58 : decode cX6_mark 58 = .ok (.bipush 14, 2) := by decide +kernel
theorem dX6_mark_60 : decode cX6_mark 60 = .ok (.laload, 1) := by decide +kernel
theorem dX6_mark_61 : decode cX6_mark 61 = .ok (.goto 42, 3) := by decide +kernel
theorem dX6_mark_64 : decode cX6_mark 64 = .ok (.iload 5, 2) := by decide +kernel
theorem dX6_mark_66 : decode cX6_mark 66 = .ok (.iconst 2, 1) := by decide +kernel
theorem dX6_mark_67 : decode cX6_mark 67 = .ok (.if_icmp .ne 13, 3) := by decide +kernel
theorem dX6_mark_70 : decode cX6_mark 70 = .ok (.aload_n 0, 1) := by decide +kernel
theorem dX6_mark_71 : decode cX6_mark 71 = .ok (.getfield 7, 3) := by decide +kernel
theorem dX6_mark_74 : decode cX6_mark 74 = .ok (.bipush 15, 2) := by decide +kernel
theorem dX6_mark_76 : decode cX6_mark 76 = .ok (.laload, 1) := by decide +kernel
theorem dX6_mark_77 : decode cX6_mark 77 = .ok (.goto 26, 3) := by decide +kernel
theorem dX6_mark_80 : decode cX6_mark 80 = .ok (.aload_n 0, 1) := by decide +kernel
theorem dX6_mark_81 : decode cX6_mark 81 = .ok (.getfield 7, 3) := by decide +kernel
theorem dX6_mark_84 : decode cX6_mark 84 = .ok (.bipush 14, 2) := by decide +kernel
theorem dX6_mark_86 : decode cX6_mark 86 = .ok (.laload, 1) := by decide +kernel
theorem dX6_mark_87 : decode cX6_mark 87 = .ok (.ldc2_w 75, 3) := by decide +kernel
theorem dX6_mark_90 : decode cX6_mark 90 = .ok (.lxor, 1) := by decide +kernel
theorem dX6_mark_91 : decode cX6_mark 91 = .ok (.aload_n 0, 1) := by decide +kernel
theorem dX6_mark_92 : decode cX6_mark 92 = .ok (.getfield 7, 3) := by decide +kernel
theorem dX6_mark_95 : decode cX6_mark 95 = .ok (.bipush 15, 2) := by decide +kernel
theorem dX6_mark_97 : decode cX6_mark 97 = .ok (.laload, 1) := by decide +kernel
theorem dX6_mark_98 : decode cX6_mark 98 = .ok (.ldc2_w 75, 3) := by decide +kernel
theorem dX6_mark_101 : decode cX6_mark 101 = .ok (.lxor, 1) := by decide +kernel
theorem dX6_mark_102 : decode cX6_mark 102 = .ok (.land, 1) := by decide +kernel
theorem dX6_mark_103 : decode cX6_mark 103 = .ok (.lstore 8, 2) := by decide +kernel
theorem dX6_mark_105 : decode cX6_mark 105 = .ok (.aload_n 0, 1) := by decide +kernel
theorem dX6_mark_106 : decode cX6_mark 106 = .ok (.getfield 7, 3) := by decide +kernel
theorem dX6_mark_109 : decode cX6_mark 109 = .ok (.bipush 14, 2) := by decide +kernel
theorem dX6_mark_111 : decode cX6_mark 111 = .ok (.iload 5, 2) := by decide +kernel
theorem dX6_mark_113 : decode cX6_mark 113 = .ok (.iconst 1, 1) := by decide +kernel
theorem dX6_mark_114 : decode cX6_mark 114 = .ok (.if_icmp .ne 16, 3) := by decide +kernel
theorem dX6_mark_117 : decode cX6_mark 117 = .ok (.aload_n 0, 1) := by decide +kernel
theorem dX6_mark_118 : decode cX6_mark 118 = .ok (.getfield 7, 3) := by decide +kernel
theorem dX6_mark_121 : decode cX6_mark 121 = .ok (.bipush 14, 2) := by decide +kernel
theorem dX6_mark_123 : decode cX6_mark 123 = .ok (.laload, 1) := by decide +kernel
theorem dX6_mark_124 : decode cX6_mark 124 = .ok (.lload 6, 2) := by decide +kernel
theorem dX6_mark_126 : decode cX6_mark 126 = .ok (.lor, 1) := by decide +kernel
theorem dX6_mark_127 : decode cX6_mark 127 = .ok (.goto 17, 3) := by decide +kernel
theorem dX6_mark_130 : decode cX6_mark 130 = .ok (.aload_n 0, 1) := by decide +kernel
theorem dX6_mark_131 : decode cX6_mark 131 = .ok (.getfield 7, 3) := by decide +kernel
theorem dX6_mark_134 : decode cX6_mark 134 = .ok (.bipush 14, 2) := by decide +kernel
theorem dX6_mark_136 : decode cX6_mark 136 = .ok (.laload, 1) := by decide +kernel
theorem dX6_mark_137 : decode cX6_mark 137 = .ok (.lload 6, 2) := by decide +kernel
theorem dX6_mark_139 : decode cX6_mark 139 = .ok (.ldc2_w 75, 3) := by decide +kernel
theorem dX6_mark_142 : decode cX6_mark 142 = .ok (.lxor, 1) := by decide +kernel
theorem dX6_mark_143 : decode cX6_mark 143 = .ok (.land, 1) := by decide +kernel
theorem dX6_mark_144 : decode cX6_mark 144 = .ok (.lastore, 1) := by decide +kernel
theorem dX6_mark_145 : decode cX6_mark 145 = .ok (.aload_n 0, 1) := by decide +kernel
theorem dX6_mark_146 : decode cX6_mark 146 = .ok (.getfield 7, 3) := by decide +kernel
theorem dX6_mark_149 : decode cX6_mark 149 = .ok (.bipush 15, 2) := by decide +kernel
theorem dX6_mark_151 : decode cX6_mark 151 = .ok (.iload 5, 2) := by decide +kernel
theorem dX6_mark_153 : decode cX6_mark 153 = .ok (.iconst 2, 1) := by decide +kernel
theorem dX6_mark_154 : decode cX6_mark 154 = .ok (.if_icmp .ne 16, 3) := by decide +kernel
theorem dX6_mark_157 : decode cX6_mark 157 = .ok (.aload_n 0, 1) := by decide +kernel
theorem dX6_mark_158 : decode cX6_mark 158 = .ok (.getfield 7, 3) := by decide +kernel
theorem dX6_mark_161 : decode cX6_mark 161 = .ok (.bipush 15, 2) := by decide +kernel
theorem dX6_mark_163 : decode cX6_mark 163 = .ok (.laload, 1) := by decide +kernel
theorem dX6_mark_164 : decode cX6_mark 164 = .ok (.lload 6, 2) := by decide +kernel
theorem dX6_mark_166 : decode cX6_mark 166 = .ok (.lor, 1) := by decide +kernel
theorem dX6_mark_167 : decode cX6_mark 167 = .ok (.goto 17, 3) := by decide +kernel
theorem dX6_mark_170 : decode cX6_mark 170 = .ok (.aload_n 0, 1) := by decide +kernel
theorem dX6_mark_171 : decode cX6_mark 171 = .ok (.getfield 7, 3) := by decide +kernel
theorem dX6_mark_174 : decode cX6_mark 174 = .ok (.bipush 15, 2) := by decide +kernel
theorem dX6_mark_176 : decode cX6_mark 176 = .ok (.laload, 1) := by decide +kernel
theorem dX6_mark_177 : decode cX6_mark 177 = .ok (.lload 6, 2) := by decide +kernel
theorem dX6_mark_179 : decode cX6_mark 179 = .ok (.ldc2_w 75, 3) := by decide +kernel
theorem dX6_mark_182 : decode cX6_mark 182 = .ok (.lxor, 1) := by decide +kernel
theorem dX6_mark_183 : decode cX6_mark 183 = .ok (.land, 1) := by decide +kernel
theorem dX6_mark_184 : decode cX6_mark 184 = .ok (.lastore, 1) := by decide +kernel
theorem dX6_mark_185 : decode cX6_mark 185 = .ok (.lload 6, 2) := by decide +kernel
theorem dX6_mark_187 : decode cX6_mark 187 = .ok (.lload 8, 2) := by decide +kernel
theorem dX6_mark_189 : decode cX6_mark 189 = .ok (.ldc2_w 75, 3) := by decide +kernel
theorem dX6_mark_192 : decode cX6_mark 192 = .ok (.lxor, 1) := by decide +kernel
theorem dX6_mark_193 : decode cX6_mark 193 = .ok (.land, 1) := by decide +kernel
theorem dX6_mark_194 : decode cX6_mark 194 = .ok (.invokestatic 120, 3) := by decide +kernel
theorem dX6_mark_197 : decode cX6_mark 197 = .ok (.ireturn, 1) := by decide +kernel
set_option maxRecDepth 20000 in
theorem ggX6_setCarrier_X6_in : GoodIn wsX6_setCarrier wsX6_in := goodIn_r _ [6] (by decide +kernel) (by decide +kernel)
set_option maxRecDepth 20000 in
theorem gX6_setCarrier_X6_in : GoodIn wsX6_setCarrier (va_wsS RX6 56 yX6_in wsX6_in) := goodIn_app (goodIn_of _ (by decide +kernel)) ggX6_setCarrier_X6_in
set_option maxRecDepth 20000 in
theorem ggX6_setCarrier_X6_fails : GoodIn wsX6_setCarrier wsX6_fails := goodIn_r _ [10, 1, 22, 23, 24, 25, 26, 27, 28, 29, 30, 31, 32, 33, 34, 35, 36] (by decide +kernel) (by decide +kernel)
set_option maxRecDepth 20000 in
theorem gX6_setCarrier_X6_fails : GoodIn wsX6_setCarrier (wsV RX6 110 RX6 yX6_fails wsX6_fails) := goodIn_app (goodIn_of _ (by decide +kernel)) ggX6_setCarrier_X6_fails
set_option maxRecDepth 20000 in
theorem ggX6_setCarrier_X6_save : GoodIn wsX6_setCarrier wsX6_save := goodIn_r _ [14, 15, 16, 17, 2, 22, 23, 24, 25, 26, 27, 28, 29, 30, 31, 32, 33, 34, 35, 36] (by decide +kernel) (by decide +kernel)
set_option maxRecDepth 20000 in
theorem gX6_setCarrier_X6_save : GoodIn wsX6_setCarrier (wsV RX6 113 RX6 yX6_save wsX6_save) := goodIn_app (goodIn_of _ (by decide +kernel)) ggX6_setCarrier_X6_save
set_option maxRecDepth 20000 in
theorem ggX6_setCarrier_X6_many : GoodIn wsX6_setCarrier wsX6_many := goodIn_r _ [21, 2, 22, 23, 24, 25, 26, 27, 28, 29, 30, 31, 32, 33, 34, 35, 36] (by decide +kernel) (by decide +kernel)
set_option maxRecDepth 20000 in
theorem gX6_setCarrier_X6_many : GoodIn wsX6_setCarrier (wsV RX6 52 RX6 yX6_many wsX6_many) := goodIn_app (goodIn_of _ (by decide +kernel)) ggX6_setCarrier_X6_many
theorem dX6_setCarrier_0 : decode cX6_setCarrier 0 = .ok (.aload_n 0, 1) := by decide +kernel
theorem dX6_setCarrier_1 : decode cX6_setCarrier 1 = .ok (.iconst 0, 1) := by decide +kernel
theorem dX6_setCarrier_2 : decode cX6_setCarrier 2 = .ok (.putfield 48, 3) := by decide +kernel
theorem dX6_setCarrier_5 : decode cX6_setCarrier 5 = .ok (.iload_n 1, 1) := by decide +kernel
theorem dX6_setCarrier_6 : decode cX6_setCarrier 6 = .ok (.iconst 0, 1) := by decide +kernel
theorem dX6_setCarrier_7 : decode cX6_setCarrier 7 = .ok (.iconst 2, 1) := by decide +kernel
theorem dX6_setCarrier_8 : decode cX6_setCarrier 8 = .ok (.invokestatic 56, 3) := by decide +kernel
theorem dX6_setCarrier_11 : decode cX6_setCarrier 11 = .ok (.ifCond .ne 9, 3) := by decide +kernel
theorem dX6_setCarrier_14 : decode cX6_setCarrier 14 = .ok (.aload_n 0, 1) := by decide +kernel
theorem dX6_setCarrier_15 : decode cX6_setCarrier 15 = .ok (.iconst 1, 1) := by decide +kernel
theorem dX6_setCarrier_16 : decode cX6_setCarrier 16 = .ok (.invokevirtual 110, 3) := by decide +kernel
theorem dX6_setCarrier_19 : decode cX6_setCarrier 19 = .ok (.ireturn, 1) := by decide +kernel
theorem dX6_setCarrier_20 : decode cX6_setCarrier 20 = .ok (.aload_n 0, 1) := by decide +kernel
theorem dX6_setCarrier_21 : decode cX6_setCarrier 21 = .ok (.invokevirtual 113, 3) := by decide +kernel
theorem dX6_setCarrier_24 : decode cX6_setCarrier 24 = .ok (.aload_n 0, 1) := by decide +kernel
theorem dX6_setCarrier_25 : decode cX6_setCarrier 25 = .ok (.iconst 2, 1) := by decide +kernel
theorem dX6_setCarrier_26 : decode cX6_setCarrier 26 = .ok (.invokevirtual 52, 3) := by decide +kernel
theorem dX6_setCarrier_29 : decode cX6_setCarrier 29 = .ok (.istore_n 2, 1) := by decide +kernel
theorem dX6_setCarrier_30 : decode cX6_setCarrier 30 = .ok (.aload_n 0, 1) := by decide +kernel
theorem dX6_setCarrier_31 : decode cX6_setCarrier 31 = .ok (.getfield 7, 3) := by decide +kernel
theorem dX6_setCarrier_34 : decode cX6_setCarrier 34 = .ok (.iconst 2, 1) := by decide +kernel
theorem dX6_setCarrier_35 : decode cX6_setCarrier 35 = .ok (.iload_n 1, 1) := by decide +kernel
theorem dX6_setCarrier_36 : decode cX6_setCarrier 36 = .ok (.i2l, 1) := by decide +kernel
theorem dX6_setCarrier_37 : decode cX6_setCarrier 37 = .ok (.lastore, 1) := by decide +kernel
theorem dX6_setCarrier_38 : decode cX6_setCarrier 38 = .ok (.iload_n 2, 1) := by decide +kernel
theorem dX6_setCarrier_39 : decode cX6_setCarrier 39 = .ok (.ireturn, 1) := by decide +kernel
set_option maxRecDepth 20000 in
theorem ggX6_isSetting_X6_in : GoodIn wsX6_isSetting wsX6_in := goodIn_r _ [4] (by decide +kernel) (by decide +kernel)
set_option maxRecDepth 20000 in
theorem gX6_isSetting_X6_in : GoodIn wsX6_isSetting (va_wsS RX6 56 yX6_in wsX6_in) := goodIn_app (goodIn_of _ (by decide +kernel)) ggX6_isSetting_X6_in
theorem dX6_isSetting_0 : decode cX6_isSetting 0 = .ok (.iload_n 0, 1) := by decide +kernel
theorem dX6_isSetting_1 : decode cX6_isSetting 1 = .ok (.ifCond .ne 12, 3) := by decide +kernel
theorem dX6_isSetting_4 : decode cX6_isSetting 4 = .ok (.iload_n 1, 1) := by decide +kernel
theorem dX6_isSetting_5 : decode cX6_isSetting 5 = .ok (.iconst 1, 1) := by decide +kernel
theorem dX6_isSetting_6 : decode cX6_isSetting 6 = .ok (.sipush 999, 3) := by decide +kernel
theorem dX6_isSetting_9 : decode cX6_isSetting 9 = .ok (.invokestatic 56, 3) := by decide +kernel
theorem dX6_isSetting_12 : decode cX6_isSetting 12 = .ok (.ireturn, 1) := by decide +kernel
theorem dX6_isSetting_13 : decode cX6_isSetting 13 = .ok (.iload_n 0, 1) := by decide +kernel
theorem dX6_isSetting_14 : decode cX6_isSetting 14 = .ok (.iconst 1, 1) := by decide +kernel
theorem dX6_isSetting_15 : decode cX6_isSetting 15 = .ok (.iconst 4, 1) := by decide +kernel
theorem dX6_isSetting_16 : decode cX6_isSetting 16 = .ok (.invokestatic 56, 3) := by decide +kernel
theorem dX6_isSetting_19 : decode cX6_isSetting 19 = .ok (.ifCond .eq 36, 3) := by decide +kernel
theorem dX6_isSetting_22 : decode cX6_isSetting 22 = .ok (.iload_n 1, 1) := by decide +kernel
theorem dX6_isSetting_23 : decode cX6_isSetting 23 = .ok (.iconst 0, 1) := by decide +kernel
theorem dX6_isSetting_24 : decode cX6_isSetting 24 = .ok (.iload_n 0, 1) := by decide +kernel
theorem dX6_isSetting_25 : decode cX6_isSetting 25 = .ok (.iconst 1, 1) := by decide +kernel
theorem dX6_isSetting_26 : decode cX6_isSetting 26 = .ok (.if_icmp .ne 7, 3) := by decide +kernel
theorem dX6_isSetting_29 : decode cX6_isSetting 29 = .ok (.iconst 3, 1) := by decide +kernel
theorem dX6_isSetting_30 : decode cX6_isSetting 30 = .ok (.goto 15, 3) := by decide +kernel
theorem dX6_isSetting_33 : decode cX6_isSetting 33 = .ok (.iload_n 0, 1) := by decide +kernel
theorem dX6_isSetting_34 : decode cX6_isSetting 34 = .ok (.iconst 2, 1) := by decide +kernel
theorem dX6_isSetting_35 : decode cX6_isSetting 35 = .ok (.if_icmp .ne 8, 3) := by decide +kernel
theorem dX6_isSetting_38 : decode cX6_isSetting 38 = .ok (.bipush 9, 2) := by decide +kernel
theorem dX6_isSetting_40 : decode cX6_isSetting 40 = .ok (.goto 5, 3) := by decide +kernel
theorem dX6_isSetting_43 : decode cX6_isSetting 43 = .ok (.bipush 50, 2) := by decide +kernel
theorem dX6_isSetting_45 : decode cX6_isSetting 45 = .ok (.invokestatic 56, 3) := by decide +kernel
theorem dX6_isSetting_48 : decode cX6_isSetting 48 = .ok (.ifCond .eq 7, 3) := by decide +kernel
theorem dX6_isSetting_51 : decode cX6_isSetting 51 = .ok (.iconst 1, 1) := by decide +kernel
theorem dX6_isSetting_52 : decode cX6_isSetting 52 = .ok (.goto 4, 3) := by decide +kernel
theorem dX6_isSetting_55 : decode cX6_isSetting 55 = .ok (.iconst 0, 1) := by decide +kernel
theorem dX6_isSetting_56 : decode cX6_isSetting 56 = .ok (.ireturn, 1) := by decide +kernel
set_option maxRecDepth 20000 in
theorem ggX6_set_X6_isSetting : GoodIn wsX6_set wsX6_isSetting := goodIn_r _ [6, 7, 8, 5, 9] (by decide +kernel) (by decide +kernel)
set_option maxRecDepth 20000 in
theorem gX6_set_X6_isSetting : GoodIn wsX6_set (va_wsS RX6 124 yX6_isSetting wsX6_isSetting) := goodIn_app (goodIn_of _ (by decide +kernel)) ggX6_set_X6_isSetting
set_option maxRecDepth 20000 in
theorem ggX6_set_X6_fails : GoodIn wsX6_set wsX6_fails := goodIn_r _ [13, 1, 25, 26, 27, 28, 29, 30, 31, 32, 33, 34, 35, 36, 37, 38, 39] (by decide +kernel) (by decide +kernel)
set_option maxRecDepth 20000 in
theorem gX6_set_X6_fails : GoodIn wsX6_set (wsV RX6 110 RX6 yX6_fails wsX6_fails) := goodIn_app (goodIn_of _ (by decide +kernel)) ggX6_set_X6_fails
set_option maxRecDepth 20000 in
theorem ggX6_set_X6_save : GoodIn wsX6_set wsX6_save := goodIn_r _ [17, 18, 19, 20, 2, 25, 26, 27, 28, 29, 30, 31, 32, 33, 34, 35, 36, 37, 38, 39] (by decide +kernel) (by decide +kernel)
set_option maxRecDepth 20000 in
theorem gX6_set_X6_save : GoodIn wsX6_set (wsV RX6 113 RX6 yX6_save wsX6_save) := goodIn_app (goodIn_of _ (by decide +kernel)) ggX6_set_X6_save
set_option maxRecDepth 20000 in
theorem ggX6_set_X6_setting : GoodIn wsX6_set wsX6_setting := goodIn_r _ [24, 2, 25, 26, 27, 28, 29, 30, 31, 32, 33, 34, 35, 36, 37, 38, 39] (by decide +kernel) (by decide +kernel)
set_option maxRecDepth 20000 in
theorem gX6_set_X6_setting : GoodIn wsX6_set (wsV RX6 128 RX6 yX6_setting wsX6_setting) := goodIn_app (goodIn_of _ (by decide +kernel)) ggX6_set_X6_setting
theorem dX6_set_0 : decode cX6_set 0 = .ok (.aload_n 0, 1) := by decide +kernel
theorem dX6_set_1 : decode cX6_set 1 = .ok (.iconst 0, 1) := by decide +kernel
theorem dX6_set_2 : decode cX6_set 2 = .ok (.putfield 48, 3) := by decide +kernel
theorem dX6_set_5 : decode cX6_set 5 = .ok (.iload_n 1, 1) := by decide +kernel
theorem dX6_set_6 : decode cX6_set 6 = .ok (.iload_n 2, 1) := by decide +kernel
theorem dX6_set_7 : decode cX6_set 7 = .ok (.invokestatic 124, 3) := by decide +kernel
theorem dX6_set_10 : decode cX6_set 10 = .ok (.ifCond .ne 9, 3) := by decide +kernel
theorem dX6_set_13 : decode cX6_set 13 = .ok (.aload_n 0, 1) := by decide +kernel
theorem dX6_set_14 : decode cX6_set 14 = .ok (.iconst 1, 1) := by decide +kernel
theorem dX6_set_15 : decode cX6_set 15 = .ok (.invokevirtual 110, 3) := by decide +kernel
theorem dX6_set_18 : decode cX6_set 18 = .ok (.ireturn, 1) := by decide +kernel
theorem dX6_set_19 : decode cX6_set 19 = .ok (.aload_n 0, 1) := by decide +kernel
theorem dX6_set_20 : decode cX6_set 20 = .ok (.invokevirtual 113, 3) := by decide +kernel
theorem dX6_set_23 : decode cX6_set 23 = .ok (.aload_n 0, 1) := by decide +kernel
theorem dX6_set_24 : decode cX6_set 24 = .ok (.iload_n 1, 1) := by decide +kernel
theorem dX6_set_25 : decode cX6_set 25 = .ok (.invokevirtual 128, 3) := by decide +kernel
theorem dX6_set_28 : decode cX6_set 28 = .ok (.istore_n 3, 1) := by decide +kernel
theorem dX6_set_29 : decode cX6_set 29 = .ok (.aload_n 0, 1) := by decide +kernel
theorem dX6_set_30 : decode cX6_set 30 = .ok (.getfield 7, 3) := by decide +kernel
theorem dX6_set_33 : decode cX6_set 33 = .ok (.iconst 3, 1) := by decide +kernel
theorem dX6_set_34 : decode cX6_set 34 = .ok (.iload_n 1, 1) := by decide +kernel
theorem dX6_set_35 : decode cX6_set 35 = .ok (.iadd, 1) := by decide +kernel
theorem dX6_set_36 : decode cX6_set 36 = .ok (.iload_n 2, 1) := by decide +kernel
theorem dX6_set_37 : decode cX6_set 37 = .ok (.i2l, 1) := by decide +kernel
theorem dX6_set_38 : decode cX6_set 38 = .ok (.lastore, 1) := by decide +kernel
theorem dX6_set_39 : decode cX6_set 39 = .ok (.iload_n 3, 1) := by decide +kernel
theorem dX6_set_40 : decode cX6_set 40 = .ok (.ireturn, 1) := by decide +kernel
set_option maxRecDepth 20000 in
theorem ggX6_adds_X6_isRectangle : GoodIn wsX6_adds wsX6_isRectangle := goodIn_r _ [8, 9, 10, 11, 7, 12, 1, 13, 14, 15, 28, 29, 30, 31, 32, 33, 34, 35, 36, 37, 38, 39, 40, 41, 42] (by decide +kernel) (by decide +kernel)
set_option maxRecDepth 20000 in
theorem gX6_adds_X6_isRectangle : GoodIn wsX6_adds (wsV RX6 116 RX6 yX6_isRectangle wsX6_isRectangle) := goodIn_app (goodIn_of _ (by decide +kernel)) ggX6_adds_X6_isRectangle
set_option maxRecDepth 20000 in
theorem ggX6_adds_X6_fails : GoodIn wsX6_adds wsX6_fails := goodIn_r _ [19, 20, 28, 29, 30, 31, 32, 33, 34, 35, 36, 37, 38, 39, 40, 41, 42] (by decide +kernel) (by decide +kernel)
set_option maxRecDepth 20000 in
theorem gX6_adds_X6_fails : GoodIn wsX6_adds (wsV RX6 110 RX6 yX6_fails wsX6_fails) := goodIn_app (goodIn_of _ (by decide +kernel)) ggX6_adds_X6_fails
set_option maxRecDepth 20000 in
theorem ggX6_adds_X6_save : GoodIn wsX6_adds wsX6_save := goodIn_r _ [24, 25, 26, 27, 1, 28, 29, 30, 31, 32, 33, 34, 35, 36, 37, 38, 39, 40, 41, 42] (by decide +kernel) (by decide +kernel)
set_option maxRecDepth 20000 in
theorem gX6_adds_X6_save : GoodIn wsX6_adds (wsV RX6 113 RX6 yX6_save wsX6_save) := goodIn_app (goodIn_of _ (by decide +kernel)) ggX6_adds_X6_save
set_option maxRecDepth 20000 in
theorem ggX6_adds_X6_many : GoodIn wsX6_adds wsX6_many := goodIn_r _ [12, 1, 28, 29, 30, 31, 32, 33, 34, 35, 36, 37, 38, 39, 40, 41, 42] (by decide +kernel) (by decide +kernel)
set_option maxRecDepth 20000 in
theorem gX6_adds_X6_many : GoodIn wsX6_adds (wsV RX6 52 RX6 yX6_many wsX6_many) := goodIn_app (goodIn_of _ (by decide +kernel)) ggX6_adds_X6_many
theorem dX6_adds_0 : decode cX6_adds 0 = .ok (.aload_n 0, 1) := by decide +kernel
theorem dX6_adds_1 : decode cX6_adds 1 = .ok (.iload_n 2, 1) := by decide +kernel
theorem dX6_adds_2 : decode cX6_adds 2 = .ok (.iload_n 3, 1) := by decide +kernel
theorem dX6_adds_3 : decode cX6_adds 3 = .ok (.iload 4, 2) := by decide +kernel
theorem dX6_adds_5 : decode cX6_adds 5 = .ok (.iload 5, 2) := by decide +kernel
theorem dX6_adds_7 : decode cX6_adds 7 = .ok (.invokevirtual 116, 3) := by decide +kernel
theorem dX6_adds_10 : decode cX6_adds 10 = .ok (.ifCond .ne 9, 3) := by decide +kernel
theorem dX6_adds_13 : decode cX6_adds 13 = .ok (.aload_n 0, 1) := by decide +kernel
theorem dX6_adds_14 : decode cX6_adds 14 = .ok (.iconst 1, 1) := by decide +kernel
theorem dX6_adds_15 : decode cX6_adds 15 = .ok (.invokevirtual 110, 3) := by decide +kernel
theorem dX6_adds_18 : decode cX6_adds 18 = .ok (.ireturn, 1) := by decide +kernel
theorem dX6_adds_19 : decode cX6_adds 19 = .ok (.aload_n 0, 1) := by decide +kernel
theorem dX6_adds_20 : decode cX6_adds 20 = .ok (.getfield 7, 3) := by decide +kernel
theorem dX6_adds_23 : decode cX6_adds 23 = .ok (.bipush 8, 2) := by decide +kernel
theorem dX6_adds_25 : decode cX6_adds 25 = .ok (.laload, 1) := by decide +kernel
theorem dX6_adds_26 : decode cX6_adds 26 = .ok (.ldc2_w 38, 3) := by decide +kernel
theorem dX6_adds_29 : decode cX6_adds 29 = .ok (.lcmp, 1) := by decide +kernel
theorem dX6_adds_30 : decode cX6_adds 30 = .ok (.ifCond .ne 9, 3) := by decide +kernel
theorem dX6_adds_33 : decode cX6_adds 33 = .ok (.aload_n 0, 1) := by decide +kernel
theorem dX6_adds_34 : decode cX6_adds 34 = .ok (.iconst 2, 1) := by decide +kernel
theorem dX6_adds_35 : decode cX6_adds 35 = .ok (.invokevirtual 110, 3) := by decide +kernel
theorem dX6_adds_38 : decode cX6_adds 38 = .ok (.ireturn, 1) := by decide +kernel
theorem dX6_adds_39 : decode cX6_adds 39 = .ok (.aload_n 0, 1) := by decide +kernel
theorem dX6_adds_40 : decode cX6_adds 40 = .ok (.invokevirtual 113, 3) := by decide +kernel
theorem dX6_adds_43 : decode cX6_adds 43 = .ok (.bipush 20, 2) := by decide +kernel
theorem dX6_adds_45 : decode cX6_adds 45 = .ok (.bipush 6, 2) := by decide +kernel
theorem dX6_adds_47 : decode cX6_adds 47 = .ok (.aload_n 0, 1) := by decide +kernel
theorem dX6_adds_48 : decode cX6_adds 48 = .ok (.bipush 8, 2) := by decide +kernel
theorem dX6_adds_50 : decode cX6_adds 50 = .ok (.invokevirtual 52, 3) := by decide +kernel
theorem dX6_adds_53 : decode cX6_adds 53 = .ok (.imul, 1) := by decide +kernel
theorem dX6_adds_54 : decode cX6_adds 54 = .ok (.iadd, 1) := by decide +kernel
theorem dX6_adds_55 : decode cX6_adds 55 = .ok (.istore 6, 2) := by decide +kernel
theorem dX6_adds_57 : decode cX6_adds 57 = .ok (.aload_n 0, 1) := by decide +kernel
theorem dX6_adds_58 : decode cX6_adds 58 = .ok (.getfield 7, 3) := by decide +kernel
theorem dX6_adds_61 : decode cX6_adds 61 = .ok (.iload 6, 2) := by decide +kernel
theorem dX6_adds_63 : decode cX6_adds 63 = .ok (.iconst 0, 1) := by decide +kernel
theorem dX6_adds_64 : decode cX6_adds 64 = .ok (.iadd, 1) := by decide +kernel
theorem dX6_adds_65 : decode cX6_adds 65 = .ok (.iload_n 1, 1) := by decide +kernel
theorem dX6_adds_66 : decode cX6_adds 66 = .ok (.i2l, 1) := by decide +kernel
theorem dX6_adds_67 : decode cX6_adds 67 = .ok (.lastore, 1) := by decide +kernel
theorem dX6_adds_68 : decode cX6_adds 68 = .ok (.aload_n 0, 1) := by decide +kernel
theorem dX6_adds_69 : decode cX6_adds 69 = .ok (.getfield 7, 3) := by decide +kernel
theorem dX6_adds_72 : decode cX6_adds 72 = .ok (.iload 6, 2) := by decide +kernel
theorem dX6_adds_74 : decode cX6_adds 74 = .ok (.iconst 1, 1) := by decide +kernel
theorem dX6_adds_75 : decode cX6_adds 75 = .ok (.iadd, 1) := by decide +kernel
theorem dX6_adds_76 : decode cX6_adds 76 = .ok (.iload_n 2, 1) := by decide +kernel
theorem dX6_adds_77 : decode cX6_adds 77 = .ok (.i2l, 1) := by decide +kernel
theorem dX6_adds_78 : decode cX6_adds 78 = .ok (.lastore, 1) := by decide +kernel
theorem dX6_adds_79 : decode cX6_adds 79 = .ok (.aload_n 0, 1) := by decide +kernel
theorem dX6_adds_80 : decode cX6_adds 80 = .ok (.getfield 7, 3) := by decide +kernel
theorem dX6_adds_83 : decode cX6_adds 83 = .ok (.iload 6, 2) := by decide +kernel
theorem dX6_adds_85 : decode cX6_adds 85 = .ok (.iconst 2, 1) := by decide +kernel
theorem dX6_adds_86 : decode cX6_adds 86 = .ok (.iadd, 1) := by decide +kernel
theorem dX6_adds_87 : decode cX6_adds 87 = .ok (.iload_n 3, 1) := by decide +kernel
theorem dX6_adds_88 : decode cX6_adds 88 = .ok (.i2l, 1) := by decide +kernel
theorem dX6_adds_89 : decode cX6_adds 89 = .ok (.lastore, 1) := by decide +kernel
theorem dX6_adds_90 : decode cX6_adds 90 = .ok (.aload_n 0, 1) := by decide +kernel
theorem dX6_adds_91 : decode cX6_adds 91 = .ok (.getfield 7, 3) := by decide +kernel
theorem dX6_adds_94 : decode cX6_adds 94 = .ok (.iload 6, 2) := by decide +kernel
theorem dX6_adds_96 : decode cX6_adds 96 = .ok (.iconst 3, 1) := by decide +kernel
theorem dX6_adds_97 : decode cX6_adds 97 = .ok (.iadd, 1) := by decide +kernel
theorem dX6_adds_98 : decode cX6_adds 98 = .ok (.iload 4, 2) := by decide +kernel
theorem dX6_adds_100 : decode cX6_adds 100 = .ok (.i2l, 1) := by decide +kernel
theorem dX6_adds_101 : decode cX6_adds 101 = .ok (.lastore, 1) := by decide +kernel
theorem dX6_adds_102 : decode cX6_adds 102 = .ok (.aload_n 0, 1) := by decide +kernel
theorem dX6_adds_103 : decode cX6_adds 103 = .ok (.getfield 7, 3) := by decide +kernel
theorem dX6_adds_106 : decode cX6_adds 106 = .ok (.iload 6, 2) := by decide +kernel
theorem dX6_adds_108 : decode cX6_adds 108 = .ok (.iconst 4, 1) := by decide +kernel
theorem dX6_adds_109 : decode cX6_adds 109 = .ok (.iadd, 1) := by decide +kernel
theorem dX6_adds_110 : decode cX6_adds 110 = .ok (.iload 5, 2) := by decide +kernel
theorem dX6_adds_112 : decode cX6_adds 112 = .ok (.i2l, 1) := by decide +kernel
theorem dX6_adds_113 : decode cX6_adds 113 = .ok (.lastore, 1) := by decide +kernel
theorem dX6_adds_114 : decode cX6_adds 114 = .ok (.aload_n 0, 1) := by decide +kernel
theorem dX6_adds_115 : decode cX6_adds 115 = .ok (.getfield 7, 3) := by decide +kernel
theorem dX6_adds_118 : decode cX6_adds 118 = .ok (.iload 6, 2) := by decide +kernel
theorem dX6_adds_120 : decode cX6_adds 120 = .ok (.iconst 5, 1) := by decide +kernel
theorem dX6_adds_121 : decode cX6_adds 121 = .ok (.iadd, 1) := by decide +kernel
theorem dX6_adds_122 : decode cX6_adds 122 = .ok (.ldc2_w 75, 3) := by decide +kernel
theorem dX6_adds_125 : decode cX6_adds 125 = .ok (.lastore, 1) := by decide +kernel
theorem dX6_adds_126 : decode cX6_adds 126 = .ok (.aload_n 0, 1) := by decide +kernel
theorem dX6_adds_127 : decode cX6_adds 127 = .ok (.getfield 7, 3) := by decide +kernel
theorem dX6_adds_130 : decode cX6_adds 130 = .ok (.bipush 8, 2) := by decide +kernel
theorem dX6_adds_132 : decode cX6_adds 132 = .ok (.dup2, 1) := by decide +kernel
theorem dX6_adds_133 : decode cX6_adds 133 = .ok (.laload, 1) := by decide +kernel
theorem dX6_adds_134 : decode cX6_adds 134 = .ok (.lconst 1, 1) := by decide +kernel
theorem dX6_adds_135 : decode cX6_adds 135 = .ok (.ladd, 1) := by decide +kernel
theorem dX6_adds_136 : decode cX6_adds 136 = .ok (.lastore, 1) := by decide +kernel
theorem dX6_adds_137 : decode cX6_adds 137 = .ok (.aload_n 0, 1) := by decide +kernel
theorem dX6_adds_138 : decode cX6_adds 138 = .ok (.bipush 8, 2) := by decide +kernel
theorem dX6_adds_140 : decode cX6_adds 140 = .ok (.invokevirtual 52, 3) := by decide +kernel
theorem dX6_adds_143 : decode cX6_adds 143 = .ok (.iconst 1, 1) := by decide +kernel
theorem dX6_adds_144 : decode cX6_adds 144 = .ok (.isub, 1) := by decide +kernel
theorem dX6_adds_145 : decode cX6_adds 145 = .ok (.ireturn, 1) := by decide +kernel
set_option maxRecDepth 20000 in
theorem ggX6_addPunch_X6_adds : GoodIn wsX6_addPunch wsX6_adds := goodIn_r _ [6, 7, 8, 9, 10, 11, 12, 5, 13, 14, 15, 16, 17, 18, 19, 20, 21, 22, 23, 24, 1, 25, 26, 27, 28, 29, 30, 31, 32, 33, 34, 35, 36, 37, 38, 39, 40, 41, 42, 43, 44, 45, 46] (by decide +kernel) (by decide +kernel)
set_option maxRecDepth 20000 in
theorem gX6_addPunch_X6_adds : GoodIn wsX6_addPunch (wsV RX6 131 RX6 yX6_adds wsX6_adds) := goodIn_app (goodIn_of _ (by decide +kernel)) ggX6_addPunch_X6_adds
theorem dX6_addPunch_0 : decode cX6_addPunch 0 = .ok (.aload_n 0, 1) := by decide +kernel
theorem dX6_addPunch_1 : decode cX6_addPunch 1 = .ok (.iconst 0, 1) := by decide +kernel
theorem dX6_addPunch_2 : decode cX6_addPunch 2 = .ok (.putfield 48, 3) := by decide +kernel
theorem dX6_addPunch_5 : decode cX6_addPunch 5 = .ok (.aload_n 0, 1) := by decide +kernel
theorem dX6_addPunch_6 : decode cX6_addPunch 6 = .ok (.iconst 0, 1) := by decide +kernel
theorem dX6_addPunch_7 : decode cX6_addPunch 7 = .ok (.iload_n 1, 1) := by decide +kernel
theorem dX6_addPunch_8 : decode cX6_addPunch 8 = .ok (.iload_n 2, 1) := by decide +kernel
theorem dX6_addPunch_9 : decode cX6_addPunch 9 = .ok (.iload_n 3, 1) := by decide +kernel
theorem dX6_addPunch_10 : decode cX6_addPunch 10 = .ok (.iload 4, 2) := by decide +kernel
theorem dX6_addPunch_12 : decode cX6_addPunch 12 = .ok (.invokevirtual 131, 3) := by decide +kernel
theorem dX6_addPunch_15 : decode cX6_addPunch 15 = .ok (.ireturn, 1) := by decide +kernel
set_option maxRecDepth 20000 in
theorem ggX6_addBend_X6_adds : GoodIn wsX6_addBend wsX6_adds := goodIn_r _ [6, 7, 8, 9, 10, 11, 12, 5, 13, 14, 15, 16, 17, 18, 19, 20, 21, 22, 23, 24, 1, 25, 26, 27, 28, 29, 30, 31, 32, 33, 34, 35, 36, 37, 38, 39, 40, 41, 42, 43, 44, 45, 46] (by decide +kernel) (by decide +kernel)
set_option maxRecDepth 20000 in
theorem gX6_addBend_X6_adds : GoodIn wsX6_addBend (wsV RX6 131 RX6 yX6_adds wsX6_adds) := goodIn_app (goodIn_of _ (by decide +kernel)) ggX6_addBend_X6_adds
theorem dX6_addBend_0 : decode cX6_addBend 0 = .ok (.aload_n 0, 1) := by decide +kernel
theorem dX6_addBend_1 : decode cX6_addBend 1 = .ok (.iconst 0, 1) := by decide +kernel
theorem dX6_addBend_2 : decode cX6_addBend 2 = .ok (.putfield 48, 3) := by decide +kernel
theorem dX6_addBend_5 : decode cX6_addBend 5 = .ok (.aload_n 0, 1) := by decide +kernel
theorem dX6_addBend_6 : decode cX6_addBend 6 = .ok (.iconst 1, 1) := by decide +kernel
theorem dX6_addBend_7 : decode cX6_addBend 7 = .ok (.iload_n 1, 1) := by decide +kernel
theorem dX6_addBend_8 : decode cX6_addBend 8 = .ok (.iload_n 2, 1) := by decide +kernel
theorem dX6_addBend_9 : decode cX6_addBend 9 = .ok (.iload_n 3, 1) := by decide +kernel
theorem dX6_addBend_10 : decode cX6_addBend 10 = .ok (.iconst 1, 1) := by decide +kernel
theorem dX6_addBend_11 : decode cX6_addBend 11 = .ok (.invokevirtual 131, 3) := by decide +kernel
theorem dX6_addBend_14 : decode cX6_addBend 14 = .ok (.ireturn, 1) := by decide +kernel
set_option maxRecDepth 20000 in
theorem ggX6_dropOperation_X6_isOp : GoodIn wsX6_dropOperation wsX6_isOp := goodIn_r _ [7, 8, 9, 10, 6, 11, 2, 12, 13, 14, 30, 31, 32, 33, 34, 35, 36, 37, 38, 39, 40, 41, 42, 43, 44] (by decide +kernel) (by decide +kernel)
set_option maxRecDepth 20000 in
theorem gX6_dropOperation_X6_isOp : GoodIn wsX6_dropOperation (wsV RX6 135 RX6 yX6_isOp wsX6_isOp) := goodIn_app (goodIn_of _ (by decide +kernel)) ggX6_dropOperation_X6_isOp
set_option maxRecDepth 20000 in
theorem ggX6_dropOperation_X6_fails : GoodIn wsX6_dropOperation wsX6_fails := goodIn_r _ [18, 1, 30, 31, 32, 33, 34, 35, 36, 37, 38, 39, 40, 41, 42, 43, 44] (by decide +kernel) (by decide +kernel)
set_option maxRecDepth 20000 in
theorem gX6_dropOperation_X6_fails : GoodIn wsX6_dropOperation (wsV RX6 110 RX6 yX6_fails wsX6_fails) := goodIn_app (goodIn_of _ (by decide +kernel)) ggX6_dropOperation_X6_fails
set_option maxRecDepth 20000 in
theorem ggX6_dropOperation_X6_save : GoodIn wsX6_dropOperation wsX6_save := goodIn_r _ [22, 23, 24, 25, 2, 30, 31, 32, 33, 34, 35, 36, 37, 38, 39, 40, 41, 42, 43, 44] (by decide +kernel) (by decide +kernel)
set_option maxRecDepth 20000 in
theorem gX6_dropOperation_X6_save : GoodIn wsX6_dropOperation (wsV RX6 113 RX6 yX6_save wsX6_save) := goodIn_app (goodIn_of _ (by decide +kernel)) ggX6_dropOperation_X6_save
set_option maxRecDepth 20000 in
theorem ggX6_dropOperation_X6_ofPitch : GoodIn wsX6_dropOperation wsX6_ofPitch := goodIn_r _ [29, 2, 30, 31, 32, 33, 34, 35, 36, 37, 38, 39, 40, 41, 42, 43, 44] (by decide +kernel) (by decide +kernel)
set_option maxRecDepth 20000 in
theorem gX6_dropOperation_X6_ofPitch : GoodIn wsX6_dropOperation (wsV RX6 139 RX6 yX6_ofPitch wsX6_ofPitch) := goodIn_app (goodIn_of _ (by decide +kernel)) ggX6_dropOperation_X6_ofPitch
set_option maxRecDepth 20000 in
theorem ggX6_dropOperation_X6_many : GoodIn wsX6_dropOperation wsX6_many := goodIn_r _ [11, 2, 30, 31, 32, 33, 34, 35, 36, 37, 38, 39, 40, 41, 42, 43, 44] (by decide +kernel) (by decide +kernel)
set_option maxRecDepth 20000 in
theorem gX6_dropOperation_X6_many : GoodIn wsX6_dropOperation (wsV RX6 52 RX6 yX6_many wsX6_many) := goodIn_app (goodIn_of _ (by decide +kernel)) ggX6_dropOperation_X6_many
theorem dX6_dropOperation_0 : decode cX6_dropOperation 0 = .ok (.aload_n 0, 1) := by decide +kernel
theorem dX6_dropOperation_1 : decode cX6_dropOperation 1 = .ok (.iconst 0, 1) := by decide +kernel
theorem dX6_dropOperation_2 : decode cX6_dropOperation 2 = .ok (.putfield 48, 3) := by decide +kernel
theorem dX6_dropOperation_5 : decode cX6_dropOperation 5 = .ok (.aload_n 0, 1) := by decide +kernel
theorem dX6_dropOperation_6 : decode cX6_dropOperation 6 = .ok (.iload_n 1, 1) := by decide +kernel
theorem dX6_dropOperation_7 : decode cX6_dropOperation 7 = .ok (.invokevirtual 135, 3) := by decide +kernel
theorem dX6_dropOperation_10 : decode cX6_dropOperation 10 = .ok (.ifCond .ne 9, 3) := by decide +kernel
theorem dX6_dropOperation_13 : decode cX6_dropOperation 13 = .ok (.aload_n 0, 1) := by decide +kernel
theorem dX6_dropOperation_14 : decode cX6_dropOperation 14 = .ok (.iconst 1, 1) := by decide +kernel
theorem dX6_dropOperation_15 : decode cX6_dropOperation 15 = .ok (.invokevirtual 110, 3) := by decide +kernel
theorem dX6_dropOperation_18 : decode cX6_dropOperation 18 = .ok (.ireturn, 1) := by decide +kernel
theorem dX6_dropOperation_19 : decode cX6_dropOperation 19 = .ok (.aload_n 0, 1) := by decide +kernel
theorem dX6_dropOperation_20 : decode cX6_dropOperation 20 = .ok (.invokevirtual 113, 3) := by decide +kernel
theorem dX6_dropOperation_23 : decode cX6_dropOperation 23 = .ok (.bipush 20, 2) := by decide +kernel
theorem dX6_dropOperation_25 : decode cX6_dropOperation 25 = .ok (.bipush 6, 2) := by decide +kernel
theorem dX6_dropOperation_27 : decode cX6_dropOperation 27 = .ok (.iload_n 1, 1) := by decide +kernel
theorem dX6_dropOperation_28 : decode cX6_dropOperation 28 = .ok (.imul, 1) := by decide +kernel
theorem dX6_dropOperation_29 : decode cX6_dropOperation 29 = .ok (.iadd, 1) := by decide +kernel
theorem dX6_dropOperation_30 : decode cX6_dropOperation 30 = .ok (.istore_n 2, 1) := by decide +kernel
theorem dX6_dropOperation_31 : decode cX6_dropOperation 31 = .ok (.iload_n 2, 1) := by decide +kernel
theorem dX6_dropOperation_32 : decode cX6_dropOperation 32 = .ok (.bipush 50, 2) := by decide +kernel
theorem dX6_dropOperation_34 : decode cX6_dropOperation 34 = .ok (.if_icmp .ge 24, 3) := by decide +kernel
theorem dX6_dropOperation_37 : decode cX6_dropOperation 37 = .ok (.aload_n 0, 1) := by decide +kernel
theorem dX6_dropOperation_38 : decode cX6_dropOperation 38 = .ok (.getfield 7, 3) := by decide +kernel
theorem dX6_dropOperation_41 : decode cX6_dropOperation 41 = .ok (.iload_n 2, 1) := by decide +kernel
theorem dX6_dropOperation_42 : decode cX6_dropOperation 42 = .ok (.aload_n 0, 1) := by decide +kernel
theorem dX6_dropOperation_43 : decode cX6_dropOperation 43 = .ok (.getfield 7, 3) := by decide +kernel
theorem dX6_dropOperation_46 : decode cX6_dropOperation 46 = .ok (.iload_n 2, 1) := by decide +kernel
theorem dX6_dropOperation_47 : decode cX6_dropOperation 47 = .ok (.bipush 6, 2) := by decide +kernel
theorem dX6_dropOperation_49 : decode cX6_dropOperation 49 = .ok (.iadd, 1) := by decide +kernel
theorem dX6_dropOperation_50 : decode cX6_dropOperation 50 = .ok (.laload, 1) := by decide +kernel
theorem dX6_dropOperation_51 : decode cX6_dropOperation 51 = .ok (.lastore, 1) := by decide +kernel
theorem dX6_dropOperation_52 : decode cX6_dropOperation 52 = .ok (.iinc 2 1, 3) := by decide +kernel
theorem dX6_dropOperation_55 : decode cX6_dropOperation 55 = .ok (.goto (-24), 3) := by decide +kernel
theorem dX6_dropOperation_58 : decode cX6_dropOperation 58 = .ok (.iconst 0, 1) := by decide +kernel
theorem dX6_dropOperation_59 : decode cX6_dropOperation 59 = .ok (.istore_n 2, 1) := by decide +kernel
theorem dX6_dropOperation_60 : decode cX6_dropOperation 60 = .ok (.iload_n 2, 1) := by decide +kernel
theorem dX6_dropOperation_61 : decode cX6_dropOperation 61 = .ok (.bipush 8, 2) := by decide +kernel
theorem dX6_dropOperation_63 : decode cX6_dropOperation 63 = .ok (.if_icmp .ge 48, 3) := by decide +kernel
theorem dX6_dropOperation_66 : decode cX6_dropOperation 66 = .ok (.aload_n 0, 1) := by decide +kernel
theorem dX6_dropOperation_67 : decode cX6_dropOperation 67 = .ok (.iload_n 2, 1) := by decide +kernel
theorem dX6_dropOperation_68 : decode cX6_dropOperation 68 = .ok (.iconst 2, 1) := by decide +kernel
theorem dX6_dropOperation_69 : decode cX6_dropOperation 69 = .ok (.invokevirtual 139, 3) := by decide +kernel
theorem dX6_dropOperation_72 : decode cX6_dropOperation 72 = .ok (.lstore_n 3, 1) := by decide +kernel
theorem dX6_dropOperation_73 : decode cX6_dropOperation 73 = .ok (.lload_n 3, 1) := by decide +kernel
theorem dX6_dropOperation_74 : decode cX6_dropOperation 74 = .ok (.lconst 1, 1) := by decide +kernel
theorem dX6_dropOperation_75 : decode cX6_dropOperation 75 = .ok (.iload_n 1, 1) := by decide +kernel
theorem dX6_dropOperation_76 : decode cX6_dropOperation 76 = .ok (.lshl, 1) := by decide +kernel
theorem dX6_dropOperation_77 : decode cX6_dropOperation 77 = .ok (.lconst 1, 1) := by decide +kernel
theorem dX6_dropOperation_78 : decode cX6_dropOperation 78 = .ok (.lsub, 1) := by decide +kernel
theorem dX6_dropOperation_79 : decode cX6_dropOperation 79 = .ok (.land, 1) := by decide +kernel
theorem dX6_dropOperation_80 : decode cX6_dropOperation 80 = .ok (.lstore 5, 2) := by decide +kernel
theorem dX6_dropOperation_82 : decode cX6_dropOperation 82 = .ok (.aload_n 0, 1) := by decide +kernel
theorem dX6_dropOperation_83 : decode cX6_dropOperation 83 = .ok (.getfield 7, 3) := by decide +kernel
theorem dX6_dropOperation_86 : decode cX6_dropOperation 86 = .ok (.bipush 60, 2) := by decide +kernel
theorem dX6_dropOperation_88 : decode cX6_dropOperation 88 = .ok (.iconst 5, 1) := by decide +kernel
theorem dX6_dropOperation_89 : decode cX6_dropOperation 89 = .ok (.iload_n 2, 1) := by decide +kernel
theorem dX6_dropOperation_90 : decode cX6_dropOperation 90 = .ok (.imul, 1) := by decide +kernel
theorem dX6_dropOperation_91 : decode cX6_dropOperation 91 = .ok (.iadd, 1) := by decide +kernel
theorem dX6_dropOperation_92 : decode cX6_dropOperation 92 = .ok (.iconst 2, 1) := by decide +kernel
theorem dX6_dropOperation_93 : decode cX6_dropOperation 93 = .ok (.iadd, 1) := by decide +kernel
theorem dX6_dropOperation_94 : decode cX6_dropOperation 94 = .ok (.lload 5, 2) := by decide +kernel
theorem dX6_dropOperation_96 : decode cX6_dropOperation 96 = .ok (.lload_n 3, 1) := by decide +kernel
theorem dX6_dropOperation_97 : decode cX6_dropOperation 97 = .ok (.iload_n 1, 1) := by decide +kernel
theorem dX6_dropOperation_98 : decode cX6_dropOperation 98 = .ok (.iconst 1, 1) := by decide +kernel
theorem dX6_dropOperation_99 : decode cX6_dropOperation 99 = .ok (.iadd, 1) := by decide +kernel
theorem dX6_dropOperation_100 : decode cX6_dropOperation 100 = .ok (.lshr, 1) := by decide +kernel
theorem dX6_dropOperation_101 : decode cX6_dropOperation 101 = .ok (.iload_n 1, 1) := by decide +kernel
theorem dX6_dropOperation_102 : decode cX6_dropOperation 102 = .ok (.lshl, 1) := by decide +kernel
theorem dX6_dropOperation_103 : decode cX6_dropOperation 103 = .ok (.lor, 1) := by decide +kernel
theorem dX6_dropOperation_104 : decode cX6_dropOperation 104 = .ok (.lastore, 1) := by decide +kernel
theorem dX6_dropOperation_105 : decode cX6_dropOperation 105 = .ok (.iinc 2 1, 3) := by decide +kernel
theorem dX6_dropOperation_108 : decode cX6_dropOperation 108 = .ok (.goto (-48), 3) := by decide +kernel
theorem dX6_dropOperation_111 : decode cX6_dropOperation 111 = .ok (.aload_n 0, 1) := by decide +kernel
theorem dX6_dropOperation_112 : decode cX6_dropOperation 112 = .ok (.getfield 7, 3) := by decide +kernel
theorem dX6_dropOperation_115 : decode cX6_dropOperation 115 = .ok (.bipush 8, 2) := by decide +kernel
theorem dX6_dropOperation_117 : decode cX6_dropOperation 117 = .ok (.dup2, 1) := by decide +kernel
theorem dX6_dropOperation_118 : decode cX6_dropOperation 118 = .ok (.laload, 1) := by decide +kernel
theorem dX6_dropOperation_119 : decode cX6_dropOperation 119 = .ok (.lconst 1, 1) := by decide +kernel
theorem dX6_dropOperation_120 : decode cX6_dropOperation 120 = .ok (.lsub, 1) := by decide +kernel
theorem dX6_dropOperation_121 : decode cX6_dropOperation 121 = .ok (.lastore, 1) := by decide +kernel
theorem dX6_dropOperation_122 : decode cX6_dropOperation 122 = .ok (.aload_n 0, 1) := by decide +kernel
theorem dX6_dropOperation_123 : decode cX6_dropOperation 123 = .ok (.bipush 8, 2) := by decide +kernel
theorem dX6_dropOperation_125 : decode cX6_dropOperation 125 = .ok (.invokevirtual 52, 3) := by decide +kernel
theorem dX6_dropOperation_128 : decode cX6_dropOperation 128 = .ok (.ireturn, 1) := by decide +kernel
set_option maxRecDepth 20000 in
theorem ggX6_force_X6_ofOp : GoodIn wsX6_force wsX6_ofOp := goodIn_r _ [5, 6, 7, 8, 9, 10, 11, 12, 13, 14, 15, 16, 17, 18, 19, 20, 21] (by decide +kernel) (by decide +kernel)
set_option maxRecDepth 20000 in
theorem gX6_force_X6_ofOp : GoodIn wsX6_force (wsV RX6 77 RX6 yX6_ofOp wsX6_ofOp) := goodIn_app (goodIn_of _ (by decide +kernel)) ggX6_force_X6_ofOp
theorem dX6_force_0 : decode cX6_force 0 = .ok (.aload_n 0, 1) := by decide +kernel
theorem dX6_force_1 : decode cX6_force 1 = .ok (.iload_n 1, 1) := by decide +kernel
theorem dX6_force_2 : decode cX6_force 2 = .ok (.iconst 0, 1) := by decide +kernel
theorem dX6_force_3 : decode cX6_force 3 = .ok (.invokevirtual 77, 3) := by decide +kernel
theorem dX6_force_6 : decode cX6_force 6 = .ok (.ifCond .ne 21, 3) := by decide +kernel
theorem dX6_force_9 : decode cX6_force 9 = .ok (.iconst 2, 1) := by decide +kernel
theorem dX6_force_10 : decode cX6_force 10 = .ok (.aload_n 0, 1) := by decide +kernel
theorem dX6_force_11 : decode cX6_force 11 = .ok (.iload_n 1, 1) := by decide +kernel
theorem dX6_force_12 : decode cX6_force 12 = .ok (.iconst 3, 1) := by decide +kernel
theorem dX6_force_13 : decode cX6_force 13 = .ok (.invokevirtual 77, 3) := by decide +kernel
theorem dX6_force_16 : decode cX6_force 16 = .ok (.aload_n 0, 1) := by decide +kernel
theorem dX6_force_17 : decode cX6_force 17 = .ok (.iload_n 1, 1) := by decide +kernel
theorem dX6_force_18 : decode cX6_force 18 = .ok (.iconst 4, 1) := by decide +kernel
theorem dX6_force_19 : decode cX6_force 19 = .ok (.invokevirtual 77, 3) := by decide +kernel
theorem dX6_force_22 : decode cX6_force 22 = .ok (.iadd, 1) := by decide +kernel
theorem dX6_force_23 : decode cX6_force 23 = .ok (.imul, 1) := by decide +kernel
theorem dX6_force_24 : decode cX6_force 24 = .ok (.goto 9, 3) := by decide +kernel
theorem dX6_force_27 : decode cX6_force 27 = .ok (.aload_n 0, 1) := by decide +kernel
theorem dX6_force_28 : decode cX6_force 28 = .ok (.iload_n 1, 1) := by decide +kernel
theorem dX6_force_29 : decode cX6_force 29 = .ok (.iconst 3, 1) := by decide +kernel
theorem dX6_force_30 : decode cX6_force 30 = .ok (.invokevirtual 77, 3) := by decide +kernel
theorem dX6_force_33 : decode cX6_force 33 = .ok (.ireturn, 1) := by decide +kernel
set_option maxRecDepth 20000 in
theorem ggX6_touches_X6_cellsOf : GoodIn wsX6_touches wsX6_cellsOf := goodIn_r _ [5, 6, 7, 8, 4, 9, 10, 11, 12, 13, 14, 15, 16, 17, 18, 23, 24, 25, 26, 27, 28, 29, 30, 31, 32, 33, 34, 35, 36, 37] (by decide +kernel) (by decide +kernel)
set_option maxRecDepth 20000 in
theorem gX6_touches_X6_cellsOf : GoodIn wsX6_touches (wsV RX6 81 RX6 yX6_cellsOf wsX6_cellsOf) := goodIn_app (goodIn_of _ (by decide +kernel)) ggX6_touches_X6_cellsOf
set_option maxRecDepth 20000 in
theorem ggX6_touches_X6_grown : GoodIn wsX6_touches wsX6_grown := goodIn_r _ [22, 15, 16, 17, 4, 18, 10, 23, 24, 25, 26, 27, 28, 29, 30, 31, 32, 33, 34, 35, 36, 37] (by decide +kernel) (by decide +kernel)
set_option maxRecDepth 20000 in
theorem gX6_touches_X6_grown : GoodIn wsX6_touches (wsV RX6 91 RX6 yX6_grown wsX6_grown) := goodIn_app (goodIn_of _ (by decide +kernel)) ggX6_touches_X6_grown
set_option maxRecDepth 20000 in
theorem ggX6_touches_X6_many : GoodIn wsX6_touches wsX6_many := goodIn_r _ [18, 10, 23, 24, 25, 26, 27, 28, 29, 30, 31, 32, 33, 34, 35, 36, 37] (by decide +kernel) (by decide +kernel)
set_option maxRecDepth 20000 in
theorem gX6_touches_X6_many : GoodIn wsX6_touches (wsV RX6 52 RX6 yX6_many wsX6_many) := goodIn_app (goodIn_of _ (by decide +kernel)) ggX6_touches_X6_many
theorem dX6_touches_0 : decode cX6_touches 0 = .ok (.aload_n 0, 1) := by decide +kernel
theorem dX6_touches_1 : decode cX6_touches 1 = .ok (.aload_n 0, 1) := by decide +kernel
theorem dX6_touches_2 : decode cX6_touches 2 = .ok (.iload_n 1, 1) := by decide +kernel
theorem dX6_touches_3 : decode cX6_touches 3 = .ok (.invokevirtual 81, 3) := by decide +kernel
theorem dX6_touches_6 : decode cX6_touches 6 = .ok (.invokevirtual 91, 3) := by decide +kernel
theorem dX6_touches_9 : decode cX6_touches 9 = .ok (.lstore_n 2, 1) := by decide +kernel
theorem dX6_touches_10 : decode cX6_touches 10 = .ok (.iconst 0, 1) := by decide +kernel
theorem dX6_touches_11 : decode cX6_touches 11 = .ok (.istore 4, 2) := by decide +kernel
theorem dX6_touches_13 : decode cX6_touches 13 = .ok (.iconst 0, 1) := by decide +kernel
theorem dX6_touches_14 : decode cX6_touches 14 = .ok (.istore 5, 2) := by decide +kernel
theorem dX6_touches_16 : decode cX6_touches 16 = .ok (.iload 5, 2) := by decide +kernel
theorem dX6_touches_18 : decode cX6_touches 18 = .ok (.aload_n 0, 1) := by decide +kernel
theorem dX6_touches_19 : decode cX6_touches 19 = .ok (.bipush 8, 2) := by decide +kernel
theorem dX6_touches_21 : decode cX6_touches 21 = .ok (.invokevirtual 52, 3) := by decide +kernel
theorem dX6_touches_24 : decode cX6_touches 24 = .ok (.if_icmp .ge 41, 3) := by decide +kernel
theorem dX6_touches_27 : decode cX6_touches 27 = .ok (.iload 4, 2) := by decide +kernel
theorem dX6_touches_29 : decode cX6_touches 29 = .ok (.iload 5, 2) := by decide +kernel
theorem dX6_touches_31 : decode cX6_touches 31 = .ok (.iload_n 1, 1) := by decide +kernel
theorem dX6_touches_32 : decode cX6_touches 32 = .ok (.if_icmp .eq 23, 3) := by decide +kernel
theorem dX6_touches_35 : decode cX6_touches 35 = .ok (.lload_n 2, 1) := by decide +kernel
theorem dX6_touches_36 : decode cX6_touches 36 = .ok (.aload_n 0, 1) := by decide +kernel
theorem dX6_touches_37 : decode cX6_touches 37 = .ok (.iload 5, 2) := by decide +kernel
theorem dX6_touches_39 : decode cX6_touches 39 = .ok (.invokevirtual 81, 3) := by decide +kernel
theorem dX6_touches_42 : decode cX6_touches 42 = .ok (.land, 1) := by decide +kernel
theorem dX6_touches_43 : decode cX6_touches 43 = .ok (.lconst 0, 1) := by decide +kernel
theorem dX6_touches_44 : decode cX6_touches 44 = .ok (.lcmp, 1) := by decide +kernel
theorem dX6_touches_45 : decode cX6_touches 45 = .ok (.ifCond .eq 10, 3) := by decide +kernel
theorem dX6_touches_48 : decode cX6_touches 48 = .ok (.iconst 1, 1) := by decide +kernel
theorem dX6_touches_49 : decode cX6_touches 49 = .ok (.iload 5, 2) := by decide +kernel
theorem dX6_touches_51 : decode cX6_touches 51 = .ok (.ishl, 1) := by decide +kernel
theorem dX6_touches_52 : decode cX6_touches 52 = .ok (.goto 4, 3) := by decide +kernel
theorem dX6_touches_55 : decode cX6_touches 55 = .ok (.iconst 0, 1) := by decide +kernel
theorem dX6_touches_56 : decode cX6_touches 56 = .ok (.ior, 1) := by decide +kernel
theorem dX6_touches_57 : decode cX6_touches 57 = .ok (.istore 4, 2) := by decide +kernel
theorem dX6_touches_59 : decode cX6_touches 59 = .ok (.iinc 5 1, 3) := by decide +kernel
theorem dX6_touches_62 : decode cX6_touches 62 = .ok (.goto (-46), 3) := by decide +kernel
theorem dX6_touches_65 : decode cX6_touches 65 = .ok (.iload 4, 2) := by decide +kernel
theorem dX6_touches_67 : decode cX6_touches 67 = .ok (.ireturn, 1) := by decide +kernel
set_option maxRecDepth 20000 in
theorem ggX6_opsAt_X6_many : GoodIn wsX6_opsAt wsX6_many := goodIn_r _ [5, 6, 11, 12, 13, 14, 15, 16, 17, 18, 19, 20, 21, 22, 23, 24, 25] (by decide +kernel) (by decide +kernel)
set_option maxRecDepth 20000 in
theorem gX6_opsAt_X6_many : GoodIn wsX6_opsAt (wsV RX6 52 RX6 yX6_many wsX6_many) := goodIn_app (goodIn_of _ (by decide +kernel)) ggX6_opsAt_X6_many
set_option maxRecDepth 20000 in
theorem ggX6_opsAt_X6_ofOp : GoodIn wsX6_opsAt wsX6_ofOp := goodIn_r _ [10, 6, 11, 12, 13, 14, 15, 16, 17, 18, 19, 20, 21, 22, 23, 24, 25] (by decide +kernel) (by decide +kernel)
set_option maxRecDepth 20000 in
theorem gX6_opsAt_X6_ofOp : GoodIn wsX6_opsAt (wsV RX6 77 RX6 yX6_ofOp wsX6_ofOp) := goodIn_app (goodIn_of _ (by decide +kernel)) ggX6_opsAt_X6_ofOp
theorem dX6_opsAt_0 : decode cX6_opsAt 0 = .ok (.iconst 0, 1) := by decide +kernel
theorem dX6_opsAt_1 : decode cX6_opsAt 1 = .ok (.istore_n 2, 1) := by decide +kernel
theorem dX6_opsAt_2 : decode cX6_opsAt 2 = .ok (.iconst 0, 1) := by decide +kernel
theorem dX6_opsAt_3 : decode cX6_opsAt 3 = .ok (.istore_n 3, 1) := by decide +kernel
theorem dX6_opsAt_4 : decode cX6_opsAt 4 = .ok (.iload_n 3, 1) := by decide +kernel
theorem dX6_opsAt_5 : decode cX6_opsAt 5 = .ok (.aload_n 0, 1) := by decide +kernel
theorem dX6_opsAt_6 : decode cX6_opsAt 6 = .ok (.bipush 8, 2) := by decide +kernel
theorem dX6_opsAt_8 : decode cX6_opsAt 8 = .ok (.invokevirtual 52, 3) := by decide +kernel
theorem dX6_opsAt_11 : decode cX6_opsAt 11 = .ok (.if_icmp .ge 29, 3) := by decide +kernel
theorem dX6_opsAt_14 : decode cX6_opsAt 14 = .ok (.iload_n 2, 1) := by decide +kernel
theorem dX6_opsAt_15 : decode cX6_opsAt 15 = .ok (.aload_n 0, 1) := by decide +kernel
theorem dX6_opsAt_16 : decode cX6_opsAt 16 = .ok (.iload_n 3, 1) := by decide +kernel
theorem dX6_opsAt_17 : decode cX6_opsAt 17 = .ok (.iconst 5, 1) := by decide +kernel
theorem dX6_opsAt_18 : decode cX6_opsAt 18 = .ok (.invokevirtual 77, 3) := by decide +kernel
theorem dX6_opsAt_21 : decode cX6_opsAt 21 = .ok (.iload_n 1, 1) := by decide +kernel
theorem dX6_opsAt_22 : decode cX6_opsAt 22 = .ok (.if_icmp .ne 9, 3) := by decide +kernel
theorem dX6_opsAt_25 : decode cX6_opsAt 25 = .ok (.iconst 1, 1) := by decide +kernel
theorem dX6_opsAt_26 : decode cX6_opsAt 26 = .ok (.iload_n 3, 1) := by decide +kernel
theorem dX6_opsAt_27 : decode cX6_opsAt 27 = .ok (.ishl, 1) := by decide +kernel
theorem dX6_opsAt_28 : decode cX6_opsAt 28 = .ok (.goto 4, 3) := by decide +kernel
theorem dX6_opsAt_31 : decode cX6_opsAt 31 = .ok (.iconst 0, 1) := by decide +kernel
theorem dX6_opsAt_32 : decode cX6_opsAt 32 = .ok (.ior, 1) := by decide +kernel
theorem dX6_opsAt_33 : decode cX6_opsAt 33 = .ok (.istore_n 2, 1) := by decide +kernel
theorem dX6_opsAt_34 : decode cX6_opsAt 34 = .ok (.iinc 3 1, 3) := by decide +kernel
theorem dX6_opsAt_37 : decode cX6_opsAt 37 = .ok (.goto (-33), 3) := by decide +kernel
theorem dX6_opsAt_40 : decode cX6_opsAt 40 = .ok (.iload_n 2, 1) := by decide +kernel
theorem dX6_opsAt_41 : decode cX6_opsAt 41 = .ok (.ireturn, 1) := by decide +kernel
set_option maxRecDepth 20000 in
theorem ggX6_forces_X6_many : GoodIn wsX6_forces wsX6_many := goodIn_r _ [5, 6, 15, 16, 17, 18, 19, 20, 21, 22, 23, 24, 25, 26, 27, 28, 29] (by decide +kernel) (by decide +kernel)
set_option maxRecDepth 20000 in
theorem gX6_forces_X6_many : GoodIn wsX6_forces (wsV RX6 52 RX6 yX6_many wsX6_many) := goodIn_app (goodIn_of _ (by decide +kernel)) ggX6_forces_X6_many
set_option maxRecDepth 20000 in
theorem ggX6_forces_X6_force : GoodIn wsX6_forces wsX6_force := goodIn_r _ [10, 11, 12, 13, 4, 14, 6, 15, 16, 17, 18, 19, 20, 21, 22, 23, 24, 25, 26, 27, 28, 29] (by decide +kernel) (by decide +kernel)
set_option maxRecDepth 20000 in
theorem gX6_forces_X6_force : GoodIn wsX6_forces (wsV RX6 143 RX6 yX6_force wsX6_force) := goodIn_app (goodIn_of _ (by decide +kernel)) ggX6_forces_X6_force
theorem dX6_forces_0 : decode cX6_forces 0 = .ok (.iconst 0, 1) := by decide +kernel
theorem dX6_forces_1 : decode cX6_forces 1 = .ok (.istore_n 2, 1) := by decide +kernel
theorem dX6_forces_2 : decode cX6_forces 2 = .ok (.iconst 0, 1) := by decide +kernel
theorem dX6_forces_3 : decode cX6_forces 3 = .ok (.istore_n 3, 1) := by decide +kernel
theorem dX6_forces_4 : decode cX6_forces 4 = .ok (.iload_n 3, 1) := by decide +kernel
theorem dX6_forces_5 : decode cX6_forces 5 = .ok (.aload_n 0, 1) := by decide +kernel
theorem dX6_forces_6 : decode cX6_forces 6 = .ok (.bipush 8, 2) := by decide +kernel
theorem dX6_forces_8 : decode cX6_forces 8 = .ok (.invokevirtual 52, 3) := by decide +kernel
theorem dX6_forces_11 : decode cX6_forces 11 = .ok (.if_icmp .ge 30, 3) := by decide +kernel
theorem dX6_forces_14 : decode cX6_forces 14 = .ok (.iload_n 2, 1) := by decide +kernel
theorem dX6_forces_15 : decode cX6_forces 15 = .ok (.iload_n 1, 1) := by decide +kernel
theorem dX6_forces_16 : decode cX6_forces 16 = .ok (.iload_n 3, 1) := by decide +kernel
theorem dX6_forces_17 : decode cX6_forces 17 = .ok (.ishr, 1) := by decide +kernel
theorem dX6_forces_18 : decode cX6_forces 18 = .ok (.iconst 1, 1) := by decide +kernel
theorem dX6_forces_19 : decode cX6_forces 19 = .ok (.iand, 1) := by decide +kernel
theorem dX6_forces_20 : decode cX6_forces 20 = .ok (.iconst 1, 1) := by decide +kernel
theorem dX6_forces_21 : decode cX6_forces 21 = .ok (.if_icmp .ne 11, 3) := by decide +kernel
theorem dX6_forces_24 : decode cX6_forces 24 = .ok (.aload_n 0, 1) := by decide +kernel
theorem dX6_forces_25 : decode cX6_forces 25 = .ok (.iload_n 3, 1) := by decide +kernel
theorem dX6_forces_26 : decode cX6_forces 26 = .ok (.invokevirtual 143, 3) := by decide +kernel
theorem dX6_forces_29 : decode cX6_forces 29 = .ok (.goto 4, 3) := by decide +kernel
theorem dX6_forces_32 : decode cX6_forces 32 = .ok (.iconst 0, 1) := by decide +kernel
theorem dX6_forces_33 : decode cX6_forces 33 = .ok (.iadd, 1) := by decide +kernel
theorem dX6_forces_34 : decode cX6_forces 34 = .ok (.istore_n 2, 1) := by decide +kernel
theorem dX6_forces_35 : decode cX6_forces 35 = .ok (.iinc 3 1, 3) := by decide +kernel
theorem dX6_forces_38 : decode cX6_forces 38 = .ok (.goto (-34), 3) := by decide +kernel
theorem dX6_forces_41 : decode cX6_forces 41 = .ok (.iload_n 2, 1) := by decide +kernel
theorem dX6_forces_42 : decode cX6_forces 42 = .ok (.ireturn, 1) := by decide +kernel
set_option maxRecDepth 20000 in
theorem ggX6_stations_X6_many : GoodIn wsX6_stations wsX6_many := goodIn_r _ [5, 6, 11, 12, 13, 14, 15, 16, 17, 18, 19, 20, 21, 22, 23, 24, 25] (by decide +kernel) (by decide +kernel)
set_option maxRecDepth 20000 in
theorem gX6_stations_X6_many : GoodIn wsX6_stations (wsV RX6 52 RX6 yX6_many wsX6_many) := goodIn_app (goodIn_of _ (by decide +kernel)) ggX6_stations_X6_many
set_option maxRecDepth 20000 in
theorem ggX6_stations_X6_ofOp : GoodIn wsX6_stations wsX6_ofOp := goodIn_r _ [10, 6, 11, 12, 13, 14, 15, 16, 17, 18, 19, 20, 21, 22, 23, 24, 25] (by decide +kernel) (by decide +kernel)
set_option maxRecDepth 20000 in
theorem gX6_stations_X6_ofOp : GoodIn wsX6_stations (wsV RX6 77 RX6 yX6_ofOp wsX6_ofOp) := goodIn_app (goodIn_of _ (by decide +kernel)) ggX6_stations_X6_ofOp
theorem dX6_stations_0 : decode cX6_stations 0 = .ok (.iconst (-1), 1) := by decide +kernel
theorem dX6_stations_1 : decode cX6_stations 1 = .ok (.istore_n 1, 1) := by decide +kernel
theorem dX6_stations_2 : decode cX6_stations 2 = .ok (.iconst 0, 1) := by decide +kernel
theorem dX6_stations_3 : decode cX6_stations 3 = .ok (.istore_n 2, 1) := by decide +kernel
theorem dX6_stations_4 : decode cX6_stations 4 = .ok (.iload_n 2, 1) := by decide +kernel
theorem dX6_stations_5 : decode cX6_stations 5 = .ok (.aload_n 0, 1) := by decide +kernel
theorem dX6_stations_6 : decode cX6_stations 6 = .ok (.bipush 8, 2) := by decide +kernel
theorem dX6_stations_8 : decode cX6_stations 8 = .ok (.invokevirtual 52, 3) := by decide +kernel
theorem dX6_stations_11 : decode cX6_stations 11 = .ok (.if_icmp .ge 30, 3) := by decide +kernel
theorem dX6_stations_14 : decode cX6_stations 14 = .ok (.aload_n 0, 1) := by decide +kernel
theorem dX6_stations_15 : decode cX6_stations 15 = .ok (.iload_n 2, 1) := by decide +kernel
theorem dX6_stations_16 : decode cX6_stations 16 = .ok (.iconst 5, 1) := by decide +kernel
theorem dX6_stations_17 : decode cX6_stations 17 = .ok (.invokevirtual 77, 3) := by decide +kernel
theorem dX6_stations_20 : decode cX6_stations 20 = .ok (.iload_n 1, 1) := by decide +kernel
theorem dX6_stations_21 : decode cX6_stations 21 = .ok (.if_icmp .le 12, 3) := by decide +kernel
theorem dX6_stations_24 : decode cX6_stations 24 = .ok (.aload_n 0, 1) := by decide +kernel
theorem dX6_stations_25 : decode cX6_stations 25 = .ok (.iload_n 2, 1) := by decide +kernel
theorem dX6_stations_26 : decode cX6_stations 26 = .ok (.iconst 5, 1) := by decide +kernel
theorem dX6_stations_27 : decode cX6_stations 27 = .ok (.invokevirtual 77, 3) := by decide +kernel
theorem dX6_stations_30 : decode cX6_stations 30 = .ok (.goto 4, 3) := by decide +kernel
theorem dX6_stations_33 : decode cX6_stations 33 = .ok (.iload_n 1, 1) := by decide +kernel
theorem dX6_stations_34 : decode cX6_stations 34 = .ok (.istore_n 1, 1) := by decide +kernel
theorem dX6_stations_35 : decode cX6_stations 35 = .ok (.iinc 2 1, 3) := by decide +kernel
theorem dX6_stations_38 : decode cX6_stations 38 = .ok (.goto (-34), 3) := by decide +kernel
theorem dX6_stations_41 : decode cX6_stations 41 = .ok (.iload_n 1, 1) := by decide +kernel
theorem dX6_stations_42 : decode cX6_stations 42 = .ok (.iconst 1, 1) := by decide +kernel
theorem dX6_stations_43 : decode cX6_stations 43 = .ok (.iadd, 1) := by decide +kernel
theorem dX6_stations_44 : decode cX6_stations 44 = .ok (.ireturn, 1) := by decide +kernel
set_option maxRecDepth 20000 in
theorem ggX6_isEarly_X6_ofOp : GoodIn wsX6_isEarly wsX6_ofOp := goodIn_r _ [5, 6, 11, 12, 13, 14, 15, 16, 17, 18, 19, 20, 21, 22, 23, 24, 25] (by decide +kernel) (by decide +kernel)
set_option maxRecDepth 20000 in
theorem gX6_isEarly_X6_ofOp : GoodIn wsX6_isEarly (wsV RX6 77 RX6 yX6_ofOp wsX6_ofOp) := goodIn_app (goodIn_of _ (by decide +kernel)) ggX6_isEarly_X6_ofOp
set_option maxRecDepth 20000 in
theorem ggX6_isEarly_X6_setting : GoodIn wsX6_isEarly wsX6_setting := goodIn_r _ [10, 6, 11, 12, 13, 14, 15, 16, 17, 18, 19, 20, 21, 22, 23, 24, 25] (by decide +kernel) (by decide +kernel)
set_option maxRecDepth 20000 in
theorem gX6_isEarly_X6_setting : GoodIn wsX6_isEarly (wsV RX6 128 RX6 yX6_setting wsX6_setting) := goodIn_app (goodIn_of _ (by decide +kernel)) ggX6_isEarly_X6_setting
theorem dX6_isEarly_0 : decode cX6_isEarly 0 = .ok (.aload_n 0, 1) := by decide +kernel
theorem dX6_isEarly_1 : decode cX6_isEarly 1 = .ok (.iload_n 1, 1) := by decide +kernel
theorem dX6_isEarly_2 : decode cX6_isEarly 2 = .ok (.iconst 0, 1) := by decide +kernel
theorem dX6_isEarly_3 : decode cX6_isEarly 3 = .ok (.invokevirtual 77, 3) := by decide +kernel
theorem dX6_isEarly_6 : decode cX6_isEarly 6 = .ok (.aload_n 0, 1) := by decide +kernel
theorem dX6_isEarly_7 : decode cX6_isEarly 7 = .ok (.iload_n 3, 1) := by decide +kernel
theorem dX6_isEarly_8 : decode cX6_isEarly 8 = .ok (.iconst 0, 1) := by decide +kernel
theorem dX6_isEarly_9 : decode cX6_isEarly 9 = .ok (.invokevirtual 77, 3) := by decide +kernel
theorem dX6_isEarly_12 : decode cX6_isEarly 12 = .ok (.if_icmp .ne 5, 3) := by decide +kernel
theorem dX6_isEarly_15 : decode cX6_isEarly 15 = .ok (.iconst 0, 1) := by decide +kernel
theorem dX6_isEarly_16 : decode cX6_isEarly 16 = .ok (.ireturn, 1) := by decide +kernel
theorem dX6_isEarly_17 : decode cX6_isEarly 17 = .ok (.aload_n 0, 1) := by decide +kernel
theorem dX6_isEarly_18 : decode cX6_isEarly 18 = .ok (.iload_n 1, 1) := by decide +kernel
theorem dX6_isEarly_19 : decode cX6_isEarly 19 = .ok (.iconst 0, 1) := by decide +kernel
theorem dX6_isEarly_20 : decode cX6_isEarly 20 = .ok (.invokevirtual 77, 3) := by decide +kernel
theorem dX6_isEarly_23 : decode cX6_isEarly 23 = .ok (.iconst 1, 1) := by decide +kernel
theorem dX6_isEarly_24 : decode cX6_isEarly 24 = .ok (.if_icmp .ne 10, 3) := by decide +kernel
theorem dX6_isEarly_27 : decode cX6_isEarly 27 = .ok (.iload_n 2, 1) := by decide +kernel
theorem dX6_isEarly_28 : decode cX6_isEarly 28 = .ok (.iload 4, 2) := by decide +kernel
theorem dX6_isEarly_30 : decode cX6_isEarly 30 = .ok (.isub, 1) := by decide +kernel
theorem dX6_isEarly_31 : decode cX6_isEarly 31 = .ok (.goto 7, 3) := by decide +kernel
theorem dX6_isEarly_34 : decode cX6_isEarly 34 = .ok (.iload 4, 2) := by decide +kernel
theorem dX6_isEarly_36 : decode cX6_isEarly 36 = .ok (.iload_n 2, 1) := by decide +kernel
theorem dX6_isEarly_37 : decode cX6_isEarly 37 = .ok (.isub, 1) := by decide +kernel
theorem dX6_isEarly_38 : decode cX6_isEarly 38 = .ok (.istore 5, 2) := by decide +kernel
theorem dX6_isEarly_40 : decode cX6_isEarly 40 = .ok (.iload 5, 2) := by decide +kernel
theorem dX6_isEarly_42 : decode cX6_isEarly 42 = .ok (.iconst 1, 1) := by decide +kernel
theorem dX6_isEarly_43 : decode cX6_isEarly 43 = .ok (.aload_n 0, 1) := by decide +kernel
theorem dX6_isEarly_44 : decode cX6_isEarly 44 = .ok (.iconst 1, 1) := by decide +kernel
theorem dX6_isEarly_45 : decode cX6_isEarly 45 = .ok (.invokevirtual 128, 3) := by decide +kernel
theorem dX6_isEarly_48 : decode cX6_isEarly 48 = .ok (.iadd, 1) := by decide +kernel
theorem dX6_isEarly_49 : decode cX6_isEarly 49 = .ok (.if_icmp .ge 7, 3) := by decide +kernel
theorem dX6_isEarly_52 : decode cX6_isEarly 52 = .ok (.iconst 1, 1) := by decide +kernel
theorem dX6_isEarly_53 : decode cX6_isEarly 53 = .ok (.goto 4, 3) := by decide +kernel
theorem dX6_isEarly_56 : decode cX6_isEarly 56 = .ok (.iconst 0, 1) := by decide +kernel
theorem dX6_isEarly_57 : decode cX6_isEarly 57 = .ok (.ireturn, 1) := by decide +kernel
set_option maxRecDepth 20000 in
theorem ggX6_faultOfPlan_X6_many : GoodIn wsX6_faultOfPlan wsX6_many := goodIn_r _ [5, 6, 47, 48, 49, 50, 51, 52, 53, 54, 55, 56, 57, 58, 59, 60, 61] (by decide +kernel) (by decide +kernel)
set_option maxRecDepth 20000 in
theorem gX6_faultOfPlan_X6_many : GoodIn wsX6_faultOfPlan (wsV RX6 52 RX6 yX6_many wsX6_many) := goodIn_app (goodIn_of _ (by decide +kernel)) ggX6_faultOfPlan_X6_many
set_option maxRecDepth 20000 in
theorem ggX6_faultOfPlan_X6_ofOp : GoodIn wsX6_faultOfPlan wsX6_ofOp := goodIn_r _ [10, 6, 47, 48, 49, 50, 51, 52, 53, 54, 55, 56, 57, 58, 59, 60, 61] (by decide +kernel) (by decide +kernel)
set_option maxRecDepth 20000 in
theorem gX6_faultOfPlan_X6_ofOp : GoodIn wsX6_faultOfPlan (wsV RX6 77 RX6 yX6_ofOp wsX6_ofOp) := goodIn_app (goodIn_of _ (by decide +kernel)) ggX6_faultOfPlan_X6_ofOp
set_option maxRecDepth 20000 in
theorem ggX6_faultOfPlan_X6_touches : GoodIn wsX6_faultOfPlan wsX6_touches := goodIn_r _ [14, 15, 16, 17, 4, 18, 7, 8, 9, 10, 6, 19, 20, 21, 22, 1, 2, 3, 5, 23, 24, 25, 26, 47, 48, 49, 50, 51, 52, 53, 54, 55, 56, 57, 58, 59, 60, 61] (by decide +kernel) (by decide +kernel)
set_option maxRecDepth 20000 in
theorem gX6_faultOfPlan_X6_touches : GoodIn wsX6_faultOfPlan (wsV RX6 146 RX6 yX6_touches wsX6_touches) := goodIn_app (goodIn_of _ (by decide +kernel)) ggX6_faultOfPlan_X6_touches
set_option maxRecDepth 20000 in
theorem ggX6_faultOfPlan_X6_opsAt : GoodIn wsX6_faultOfPlan wsX6_opsAt := goodIn_r _ [30, 1, 2, 3, 4, 5, 6, 7, 8, 9, 10, 47, 48, 49, 50, 51, 52, 53, 54, 55, 56, 57, 58, 59, 60, 61] (by decide +kernel) (by decide +kernel)
set_option maxRecDepth 20000 in
theorem gX6_faultOfPlan_X6_opsAt : GoodIn wsX6_faultOfPlan (wsV RX6 149 RX6 yX6_opsAt wsX6_opsAt) := goodIn_app (goodIn_of _ (by decide +kernel)) ggX6_faultOfPlan_X6_opsAt
set_option maxRecDepth 20000 in
theorem ggX6_faultOfPlan_X6_forces : GoodIn wsX6_faultOfPlan wsX6_forces := goodIn_r _ [34, 1, 2, 3, 4, 5, 6, 35, 36, 37, 38, 7, 8, 9, 10, 47, 48, 49, 50, 51, 52, 53, 54, 55, 56, 57, 58, 59, 60, 61] (by decide +kernel) (by decide +kernel)
set_option maxRecDepth 20000 in
theorem gX6_faultOfPlan_X6_forces : GoodIn wsX6_faultOfPlan (wsV RX6 152 RX6 yX6_forces wsX6_forces) := goodIn_app (goodIn_of _ (by decide +kernel)) ggX6_faultOfPlan_X6_forces
set_option maxRecDepth 20000 in
theorem ggX6_faultOfPlan_X6_setting : GoodIn wsX6_faultOfPlan wsX6_setting := goodIn_r _ [42, 6, 47, 48, 49, 50, 51, 52, 53, 54, 55, 56, 57, 58, 59, 60, 61] (by decide +kernel) (by decide +kernel)
set_option maxRecDepth 20000 in
theorem gX6_faultOfPlan_X6_setting : GoodIn wsX6_faultOfPlan (wsV RX6 128 RX6 yX6_setting wsX6_setting) := goodIn_app (goodIn_of _ (by decide +kernel)) ggX6_faultOfPlan_X6_setting
set_option maxRecDepth 20000 in
theorem ggX6_faultOfPlan_X6_isEarly : GoodIn wsX6_faultOfPlan wsX6_isEarly := goodIn_r _ [46, 7, 8, 9, 4, 10, 6, 39, 40, 41, 42, 47, 48, 49, 50, 51, 52, 53, 54, 55, 56, 57, 58, 59, 60, 61] (by decide +kernel) (by decide +kernel)
set_option maxRecDepth 20000 in
theorem gX6_faultOfPlan_X6_isEarly : GoodIn wsX6_faultOfPlan (wsV RX6 155 RX6 yX6_isEarly wsX6_isEarly) := goodIn_app (goodIn_of _ (by decide +kernel)) ggX6_faultOfPlan_X6_isEarly
theorem dX6_faultOfPlan_0 : decode cX6_faultOfPlan 0 = .ok (.iconst 0, 1) := by decide +kernel
theorem dX6_faultOfPlan_1 : decode cX6_faultOfPlan 1 = .ok (.istore_n 1, 1) := by decide +kernel
theorem dX6_faultOfPlan_2 : decode cX6_faultOfPlan 2 = .ok (.iconst 0, 1) := by decide +kernel
theorem dX6_faultOfPlan_3 : decode cX6_faultOfPlan 3 = .ok (.istore_n 2, 1) := by decide +kernel
theorem dX6_faultOfPlan_4 : decode cX6_faultOfPlan 4 = .ok (.iconst 0, 1) := by decide +kernel
theorem dX6_faultOfPlan_5 : decode cX6_faultOfPlan 5 = .ok (.istore_n 3, 1) := by decide +kernel
theorem dX6_faultOfPlan_6 : decode cX6_faultOfPlan 6 = .ok (.iconst 0, 1) := by decide +kernel
theorem dX6_faultOfPlan_7 : decode cX6_faultOfPlan 7 = .ok (.istore 4, 2) := by decide +kernel
theorem dX6_faultOfPlan_9 : decode cX6_faultOfPlan 9 = .ok (.iconst 0, 1) := by decide +kernel
theorem dX6_faultOfPlan_10 : decode cX6_faultOfPlan 10 = .ok (.istore 5, 2) := by decide +kernel
theorem dX6_faultOfPlan_12 : decode cX6_faultOfPlan 12 = .ok (.iload 5, 2) := by decide +kernel
theorem dX6_faultOfPlan_14 : decode cX6_faultOfPlan 14 = .ok (.aload_n 0, 1) := by decide +kernel
theorem dX6_faultOfPlan_15 : decode cX6_faultOfPlan 15 = .ok (.bipush 8, 2) := by decide +kernel
theorem dX6_faultOfPlan_17 : decode cX6_faultOfPlan 17 = .ok (.invokevirtual 52, 3) := by decide +kernel
theorem dX6_faultOfPlan_20 : decode cX6_faultOfPlan 20 = .ok (.if_icmp .ge 178, 3) := by decide +kernel
theorem dX6_faultOfPlan_23 : decode cX6_faultOfPlan 23 = .ok (.aload_n 0, 1) := by decide +kernel
theorem dX6_faultOfPlan_24 : decode cX6_faultOfPlan 24 = .ok (.iload 5, 2) := by decide +kernel
theorem dX6_faultOfPlan_26 : decode cX6_faultOfPlan 26 = .ok (.iconst 5, 1) := by decide +kernel
theorem dX6_faultOfPlan_27 : decode cX6_faultOfPlan 27 = .ok (.invokevirtual 77, 3) := by decide +kernel
theorem dX6_faultOfPlan_30 : decode cX6_faultOfPlan 30 = .ok (.istore 6, 2) := by decide +kernel
theorem dX6_faultOfPlan_32 : decode cX6_faultOfPlan 32 = .ok (.aload_n 0, 1) := by decide +kernel
theorem dX6_faultOfPlan_33 : decode cX6_faultOfPlan 33 = .ok (.iload 5, 2) := by decide +kernel
theorem dX6_faultOfPlan_35 : decode cX6_faultOfPlan 35 = .ok (.invokevirtual 146, 3) := by decide +kernel
theorem dX6_faultOfPlan_38 : decode cX6_faultOfPlan 38 = .ok (.istore 7, 2) := by decide +kernel
theorem dX6_faultOfPlan_40 : decode cX6_faultOfPlan 40 = .ok (.iload_n 1, 1) := by decide +kernel
theorem dX6_faultOfPlan_41 : decode cX6_faultOfPlan 41 = .ok (.ifCond .ne 9, 3) := by decide +kernel
theorem dX6_faultOfPlan_44 : decode cX6_faultOfPlan 44 = .ok (.iload 6, 2) := by decide +kernel
theorem dX6_faultOfPlan_46 : decode cX6_faultOfPlan 46 = .ok (.iconst (-1), 1) := by decide +kernel
theorem dX6_faultOfPlan_47 : decode cX6_faultOfPlan 47 = .ok (.if_icmp .ne 7, 3) := by decide +kernel
theorem dX6_faultOfPlan_50 : decode cX6_faultOfPlan 50 = .ok (.iconst 1, 1) := by decide +kernel
theorem dX6_faultOfPlan_51 : decode cX6_faultOfPlan 51 = .ok (.goto 4, 3) := by decide +kernel
theorem dX6_faultOfPlan_54 : decode cX6_faultOfPlan 54 = .ok (.iconst 0, 1) := by decide +kernel
theorem dX6_faultOfPlan_55 : decode cX6_faultOfPlan 55 = .ok (.istore_n 1, 1) := by decide +kernel
theorem dX6_faultOfPlan_56 : decode cX6_faultOfPlan 56 = .ok (.iload_n 2, 1) := by decide +kernel
theorem dX6_faultOfPlan_57 : decode cX6_faultOfPlan 57 = .ok (.ifCond .ne 27, 3) := by decide +kernel
theorem dX6_faultOfPlan_60 : decode cX6_faultOfPlan 60 = .ok (.iload 6, 2) := by decide +kernel
theorem dX6_faultOfPlan_62 : decode cX6_faultOfPlan 62 = .ok (.iconst (-1), 1) := by decide +kernel
theorem dX6_faultOfPlan_63 : decode cX6_faultOfPlan 63 = .ok (.if_icmp .eq 25, 3) := by decide +kernel
theorem dX6_faultOfPlan_66 : decode cX6_faultOfPlan 66 = .ok (.aload_n 0, 1) := by decide +kernel
theorem dX6_faultOfPlan_67 : decode cX6_faultOfPlan 67 = .ok (.aload_n 0, 1) := by decide +kernel
theorem dX6_faultOfPlan_68 : decode cX6_faultOfPlan 68 = .ok (.iload 6, 2) := by decide +kernel
theorem dX6_faultOfPlan_70 : decode cX6_faultOfPlan 70 = .ok (.invokevirtual 149, 3) := by decide +kernel
theorem dX6_faultOfPlan_73 : decode cX6_faultOfPlan 73 = .ok (.invokevirtual 152, 3) := by decide +kernel
theorem dX6_faultOfPlan_76 : decode cX6_faultOfPlan 76 = .ok (.aload_n 0, 1) := by decide +kernel
theorem dX6_faultOfPlan_77 : decode cX6_faultOfPlan 77 = .ok (.iconst 0, 1) := by decide +kernel
theorem dX6_faultOfPlan_78 : decode cX6_faultOfPlan 78 = .ok (.invokevirtual 128, 3) := by decide +kernel
theorem dX6_faultOfPlan_81 : decode cX6_faultOfPlan 81 = .ok (.if_icmp .le 7, 3) := by decide +kernel
theorem dX6_faultOfPlan_84 : decode cX6_faultOfPlan 84 = .ok (.iconst 1, 1) := by decide +kernel
theorem dX6_faultOfPlan_85 : decode cX6_faultOfPlan 85 = .ok (.goto 4, 3) := by decide +kernel
theorem dX6_faultOfPlan_88 : decode cX6_faultOfPlan 88 = .ok (.iconst 0, 1) := by decide +kernel
theorem dX6_faultOfPlan_89 : decode cX6_faultOfPlan 89 = .ok (.istore_n 2, 1) := by decide +kernel
theorem dX6_faultOfPlan_90 : decode cX6_faultOfPlan 90 = .ok (.iconst 0, 1) := by decide +kernel
theorem dX6_faultOfPlan_91 : decode cX6_faultOfPlan 91 = .ok (.istore 8, 2) := by decide +kernel
theorem dX6_faultOfPlan_93 : decode cX6_faultOfPlan 93 = .ok (.iload 8, 2) := by decide +kernel
theorem dX6_faultOfPlan_95 : decode cX6_faultOfPlan 95 = .ok (.aload_n 0, 1) := by decide +kernel
theorem dX6_faultOfPlan_96 : decode cX6_faultOfPlan 96 = .ok (.bipush 8, 2) := by decide +kernel
theorem dX6_faultOfPlan_98 : decode cX6_faultOfPlan 98 = .ok (.invokevirtual 52, 3) := by decide +kernel
theorem dX6_faultOfPlan_101 : decode cX6_faultOfPlan 101 = .ok (.if_icmp .ge 91, 3) := by decide +kernel
theorem dX6_faultOfPlan_104 : decode cX6_faultOfPlan 104 = .ok (.iload 7, 2) := by decide +kernel
theorem dX6_faultOfPlan_106 : decode cX6_faultOfPlan 106 = .ok (.iload 8, 2) := by decide +kernel
theorem dX6_faultOfPlan_108 : decode cX6_faultOfPlan 108 = .ok (.ishr, 1) := by decide +kernel
theorem dX6_faultOfPlan_109 : decode cX6_faultOfPlan 109 = .ok (.iconst 1, 1) := by decide +kernel
theorem dX6_faultOfPlan_110 : decode cX6_faultOfPlan 110 = .ok (.iand, 1) := by decide +kernel
theorem dX6_faultOfPlan_111 : decode cX6_faultOfPlan 111 = .ok (.iconst 1, 1) := by decide +kernel
theorem dX6_faultOfPlan_112 : decode cX6_faultOfPlan 112 = .ok (.if_icmp .ne 7, 3) := by decide +kernel
theorem dX6_faultOfPlan_115 : decode cX6_faultOfPlan 115 = .ok (.iconst 1, 1) := by decide +kernel
theorem dX6_faultOfPlan_116 : decode cX6_faultOfPlan 116 = .ok (.goto 4, 3) := by decide +kernel
theorem dX6_faultOfPlan_119 : decode cX6_faultOfPlan 119 = .ok (.iconst 0, 1) := by decide +kernel
theorem dX6_faultOfPlan_120 : decode cX6_faultOfPlan 120 = .ok (.istore 9, 2) := by decide +kernel
theorem dX6_faultOfPlan_122 : decode cX6_faultOfPlan 122 = .ok (.iload_n 3, 1) := by decide +kernel
theorem dX6_faultOfPlan_123 : decode cX6_faultOfPlan 123 = .ok (.ifCond .ne 20, 3) := by decide +kernel
theorem dX6_faultOfPlan_126 : decode cX6_faultOfPlan 126 = .ok (.iload 9, 2) := by decide +kernel
theorem dX6_faultOfPlan_128 : decode cX6_faultOfPlan 128 = .ok (.ifCond .eq 19, 3) := by decide +kernel
theorem dX6_faultOfPlan_131 : decode cX6_faultOfPlan 131 = .ok (.aload_n 0, 1) := by decide +kernel
theorem dX6_faultOfPlan_132 : decode cX6_faultOfPlan 132 = .ok (.iload 8, 2) := by decide +kernel
theorem dX6_faultOfPlan_134 : decode cX6_faultOfPlan 134 = .ok (.iconst 5, 1) := by decide +kernel
theorem dX6_faultOfPlan_135 : decode cX6_faultOfPlan 135 = .ok (.invokevirtual 77, 3) := by decide +kernel
theorem dX6_faultOfPlan_138 : decode cX6_faultOfPlan 138 = .ok (.iload 6, 2) := by decide +kernel
theorem dX6_faultOfPlan_140 : decode cX6_faultOfPlan 140 = .ok (.if_icmp .ne 7, 3) := by decide +kernel
theorem dX6_faultOfPlan_143 : decode cX6_faultOfPlan 143 = .ok (.iconst 1, 1) := by decide +kernel
theorem dX6_faultOfPlan_144 : decode cX6_faultOfPlan 144 = .ok (.goto 4, 3) := by decide +kernel
theorem dX6_faultOfPlan_147 : decode cX6_faultOfPlan 147 = .ok (.iconst 0, 1) := by decide +kernel
theorem dX6_faultOfPlan_148 : decode cX6_faultOfPlan 148 = .ok (.istore_n 3, 1) := by decide +kernel
theorem dX6_faultOfPlan_149 : decode cX6_faultOfPlan 149 = .ok (.iload 4, 2) := by decide +kernel
theorem dX6_faultOfPlan_151 : decode cX6_faultOfPlan 151 = .ok (.ifCond .ne 28, 3) := by decide +kernel
theorem dX6_faultOfPlan_154 : decode cX6_faultOfPlan 154 = .ok (.iload 9, 2) := by decide +kernel
theorem dX6_faultOfPlan_156 : decode cX6_faultOfPlan 156 = .ok (.ifCond .eq 27, 3) := by decide +kernel
theorem dX6_faultOfPlan_159 : decode cX6_faultOfPlan 159 = .ok (.aload_n 0, 1) := by decide +kernel
theorem dX6_faultOfPlan_160 : decode cX6_faultOfPlan 160 = .ok (.iload 5, 2) := by decide +kernel
theorem dX6_faultOfPlan_162 : decode cX6_faultOfPlan 162 = .ok (.iload 6, 2) := by decide +kernel
theorem dX6_faultOfPlan_164 : decode cX6_faultOfPlan 164 = .ok (.iload 8, 2) := by decide +kernel
theorem dX6_faultOfPlan_166 : decode cX6_faultOfPlan 166 = .ok (.aload_n 0, 1) := by decide +kernel
theorem dX6_faultOfPlan_167 : decode cX6_faultOfPlan 167 = .ok (.iload 8, 2) := by decide +kernel
theorem dX6_faultOfPlan_169 : decode cX6_faultOfPlan 169 = .ok (.iconst 5, 1) := by decide +kernel
theorem dX6_faultOfPlan_170 : decode cX6_faultOfPlan 170 = .ok (.invokevirtual 77, 3) := by decide +kernel
theorem dX6_faultOfPlan_173 : decode cX6_faultOfPlan 173 = .ok (.invokevirtual 155, 3) := by decide +kernel
theorem dX6_faultOfPlan_176 : decode cX6_faultOfPlan 176 = .ok (.ifCond .eq 7, 3) := by decide +kernel
theorem dX6_faultOfPlan_179 : decode cX6_faultOfPlan 179 = .ok (.iconst 1, 1) := by decide +kernel
theorem dX6_faultOfPlan_180 : decode cX6_faultOfPlan 180 = .ok (.goto 4, 3) := by decide +kernel
theorem dX6_faultOfPlan_183 : decode cX6_faultOfPlan 183 = .ok (.iconst 0, 1) := by decide +kernel
theorem dX6_faultOfPlan_184 : decode cX6_faultOfPlan 184 = .ok (.istore 4, 2) := by decide +kernel
theorem dX6_faultOfPlan_186 : decode cX6_faultOfPlan 186 = .ok (.iinc 8 1, 3) := by decide +kernel
theorem dX6_faultOfPlan_189 : decode cX6_faultOfPlan 189 = .ok (.goto (-96), 3) := by decide +kernel
theorem dX6_faultOfPlan_192 : decode cX6_faultOfPlan 192 = .ok (.iinc 5 1, 3) := by decide +kernel
theorem dX6_faultOfPlan_195 : decode cX6_faultOfPlan 195 = .ok (.goto (-183), 3) := by decide +kernel
theorem dX6_faultOfPlan_198 : decode cX6_faultOfPlan 198 = .ok (.iload_n 1, 1) := by decide +kernel
theorem dX6_faultOfPlan_199 : decode cX6_faultOfPlan 199 = .ok (.ifCond .eq 7, 3) := by decide +kernel
theorem dX6_faultOfPlan_202 : decode cX6_faultOfPlan 202 = .ok (.iconst 1, 1) := by decide +kernel
theorem dX6_faultOfPlan_203 : decode cX6_faultOfPlan 203 = .ok (.goto 29, 3) := by decide +kernel
theorem dX6_faultOfPlan_206 : decode cX6_faultOfPlan 206 = .ok (.iload_n 2, 1) := by decide +kernel
theorem dX6_faultOfPlan_207 : decode cX6_faultOfPlan 207 = .ok (.ifCond .eq 7, 3) := by decide +kernel
theorem dX6_faultOfPlan_210 : decode cX6_faultOfPlan 210 = .ok (.iconst 2, 1) := by decide +kernel
theorem dX6_faultOfPlan_211 : decode cX6_faultOfPlan 211 = .ok (.goto 21, 3) := by decide +kernel
theorem dX6_faultOfPlan_214 : decode cX6_faultOfPlan 214 = .ok (.iload_n 3, 1) := by decide +kernel
theorem dX6_faultOfPlan_215 : decode cX6_faultOfPlan 215 = .ok (.ifCond .eq 7, 3) := by decide +kernel
theorem dX6_faultOfPlan_218 : decode cX6_faultOfPlan 218 = .ok (.iconst 3, 1) := by decide +kernel
theorem dX6_faultOfPlan_219 : decode cX6_faultOfPlan 219 = .ok (.goto 13, 3) := by decide +kernel
theorem dX6_faultOfPlan_222 : decode cX6_faultOfPlan 222 = .ok (.iload 4, 2) := by decide +kernel
theorem dX6_faultOfPlan_224 : decode cX6_faultOfPlan 224 = .ok (.ifCond .eq 7, 3) := by decide +kernel
theorem dX6_faultOfPlan_227 : decode cX6_faultOfPlan 227 = .ok (.iconst 4, 1) := by decide +kernel
theorem dX6_faultOfPlan_228 : decode cX6_faultOfPlan 228 = .ok (.goto 4, 3) := by decide +kernel
theorem dX6_faultOfPlan_231 : decode cX6_faultOfPlan 231 = .ok (.iconst 0, 1) := by decide +kernel
theorem dX6_faultOfPlan_232 : decode cX6_faultOfPlan 232 = .ok (.ireturn, 1) := by decide +kernel
set_option maxRecDepth 20000 in
theorem ggX6_may_X6_force : GoodIn wsX6_may wsX6_force := goodIn_r _ [7, 8, 9, 10, 6, 11, 12, 21, 22, 23, 24, 25, 26, 27, 28, 29, 30, 31, 32, 33, 34, 35] (by decide +kernel) (by decide +kernel)
set_option maxRecDepth 20000 in
theorem gX6_may_X6_force : GoodIn wsX6_may (wsV RX6 143 RX6 yX6_force wsX6_force) := goodIn_app (goodIn_of _ (by decide +kernel)) ggX6_may_X6_force
set_option maxRecDepth 20000 in
theorem ggX6_may_X6_isEarly : GoodIn wsX6_may wsX6_isEarly := goodIn_r _ [16, 8, 9, 10, 6, 11, 12, 17, 18, 19, 20, 21, 22, 23, 24, 25, 26, 27, 28, 29, 30, 31, 32, 33, 34, 35] (by decide +kernel) (by decide +kernel)
set_option maxRecDepth 20000 in
theorem gX6_may_X6_isEarly : GoodIn wsX6_may (wsV RX6 155 RX6 yX6_isEarly wsX6_isEarly) := goodIn_app (goodIn_of _ (by decide +kernel)) ggX6_may_X6_isEarly
theorem dX6_may_0 : decode cX6_may 0 = .ok (.aload_n 0, 1) := by decide +kernel
theorem dX6_may_1 : decode cX6_may 1 = .ok (.iload_n 1, 1) := by decide +kernel
theorem dX6_may_2 : decode cX6_may 2 = .ok (.invokevirtual 143, 3) := by decide +kernel
theorem dX6_may_5 : decode cX6_may 5 = .ok (.istore_n 3, 1) := by decide +kernel
theorem dX6_may_6 : decode cX6_may 6 = .ok (.iconst 1, 1) := by decide +kernel
theorem dX6_may_7 : decode cX6_may 7 = .ok (.istore 4, 2) := by decide +kernel
theorem dX6_may_9 : decode cX6_may 9 = .ok (.iconst 0, 1) := by decide +kernel
theorem dX6_may_10 : decode cX6_may 10 = .ok (.istore 5, 2) := by decide +kernel
theorem dX6_may_12 : decode cX6_may 12 = .ok (.iload 5, 2) := by decide +kernel
theorem dX6_may_14 : decode cX6_may 14 = .ok (.iload_n 1, 1) := by decide +kernel
theorem dX6_may_15 : decode cX6_may 15 = .ok (.if_icmp .ge 116, 3) := by decide +kernel
theorem dX6_may_18 : decode cX6_may 18 = .ok (.aload_n 0, 1) := by decide +kernel
theorem dX6_may_19 : decode cX6_may 19 = .ok (.getfield 26, 3) := by decide +kernel
theorem dX6_may_22 : decode cX6_may 22 = .ok (.iload_n 1, 1) := by decide +kernel
theorem dX6_may_23 : decode cX6_may 23 = .ok (.iaload, 1) := by decide +kernel
theorem dX6_may_24 : decode cX6_may 24 = .ok (.iload 5, 2) := by decide +kernel
theorem dX6_may_26 : decode cX6_may 26 = .ok (.ishr, 1) := by decide +kernel
theorem dX6_may_27 : decode cX6_may 27 = .ok (.iconst 1, 1) := by decide +kernel
theorem dX6_may_28 : decode cX6_may 28 = .ok (.iand, 1) := by decide +kernel
theorem dX6_may_29 : decode cX6_may 29 = .ok (.iconst 1, 1) := by decide +kernel
theorem dX6_may_30 : decode cX6_may 30 = .ok (.if_icmp .ne 7, 3) := by decide +kernel
theorem dX6_may_33 : decode cX6_may 33 = .ok (.iconst 1, 1) := by decide +kernel
theorem dX6_may_34 : decode cX6_may 34 = .ok (.goto 4, 3) := by decide +kernel
theorem dX6_may_37 : decode cX6_may 37 = .ok (.iconst 0, 1) := by decide +kernel
theorem dX6_may_38 : decode cX6_may 38 = .ok (.istore 6, 2) := by decide +kernel
theorem dX6_may_40 : decode cX6_may 40 = .ok (.iload_n 3, 1) := by decide +kernel
theorem dX6_may_41 : decode cX6_may 41 = .ok (.aload_n 0, 1) := by decide +kernel
theorem dX6_may_42 : decode cX6_may 42 = .ok (.getfield 19, 3) := by decide +kernel
theorem dX6_may_45 : decode cX6_may 45 = .ok (.iload 5, 2) := by decide +kernel
theorem dX6_may_47 : decode cX6_may 47 = .ok (.iaload, 1) := by decide +kernel
theorem dX6_may_48 : decode cX6_may 48 = .ok (.aload_n 0, 1) := by decide +kernel
theorem dX6_may_49 : decode cX6_may 49 = .ok (.getfield 19, 3) := by decide +kernel
theorem dX6_may_52 : decode cX6_may 52 = .ok (.iload_n 1, 1) := by decide +kernel
theorem dX6_may_53 : decode cX6_may 53 = .ok (.iaload, 1) := by decide +kernel
theorem dX6_may_54 : decode cX6_may 54 = .ok (.if_icmp .ne 12, 3) := by decide +kernel
theorem dX6_may_57 : decode cX6_may 57 = .ok (.aload_n 0, 1) := by decide +kernel
theorem dX6_may_58 : decode cX6_may 58 = .ok (.iload 5, 2) := by decide +kernel
theorem dX6_may_60 : decode cX6_may 60 = .ok (.invokevirtual 143, 3) := by decide +kernel
theorem dX6_may_63 : decode cX6_may 63 = .ok (.goto 4, 3) := by decide +kernel
theorem dX6_may_66 : decode cX6_may 66 = .ok (.iconst 0, 1) := by decide +kernel
theorem dX6_may_67 : decode cX6_may 67 = .ok (.iadd, 1) := by decide +kernel
theorem dX6_may_68 : decode cX6_may 68 = .ok (.istore_n 3, 1) := by decide +kernel
theorem dX6_may_69 : decode cX6_may 69 = .ok (.iload 4, 2) := by decide +kernel
theorem dX6_may_71 : decode cX6_may 71 = .ok (.ifCond .eq 51, 3) := by decide +kernel
theorem dX6_may_74 : decode cX6_may 74 = .ok (.iload 6, 2) := by decide +kernel
theorem dX6_may_76 : decode cX6_may 76 = .ok (.ifCond .eq 42, 3) := by decide +kernel
theorem dX6_may_79 : decode cX6_may 79 = .ok (.aload_n 0, 1) := by decide +kernel
theorem dX6_may_80 : decode cX6_may 80 = .ok (.getfield 19, 3) := by decide +kernel
theorem dX6_may_83 : decode cX6_may 83 = .ok (.iload 5, 2) := by decide +kernel
theorem dX6_may_85 : decode cX6_may 85 = .ok (.iaload, 1) := by decide +kernel
theorem dX6_may_86 : decode cX6_may 86 = .ok (.aload_n 0, 1) := by decide +kernel
theorem dX6_may_87 : decode cX6_may 87 = .ok (.getfield 19, 3) := by decide +kernel
theorem dX6_may_90 : decode cX6_may 90 = .ok (.iload_n 1, 1) := by decide +kernel
theorem dX6_may_91 : decode cX6_may 91 = .ok (.iaload, 1) := by decide +kernel
theorem dX6_may_92 : decode cX6_may 92 = .ok (.if_icmp .eq 30, 3) := by decide +kernel
theorem dX6_may_95 : decode cX6_may 95 = .ok (.aload_n 0, 1) := by decide +kernel
theorem dX6_may_96 : decode cX6_may 96 = .ok (.iload 5, 2) := by decide +kernel
theorem dX6_may_98 : decode cX6_may 98 = .ok (.aload_n 0, 1) := by decide +kernel
theorem dX6_may_99 : decode cX6_may 99 = .ok (.getfield 19, 3) := by decide +kernel
theorem dX6_may_102 : decode cX6_may 102 = .ok (.iload 5, 2) := by decide +kernel
theorem dX6_may_104 : decode cX6_may 104 = .ok (.iaload, 1) := by decide +kernel
theorem dX6_may_105 : decode cX6_may 105 = .ok (.iload_n 1, 1) := by decide +kernel
theorem dX6_may_106 : decode cX6_may 106 = .ok (.aload_n 0, 1) := by decide +kernel
theorem dX6_may_107 : decode cX6_may 107 = .ok (.getfield 19, 3) := by decide +kernel
theorem dX6_may_110 : decode cX6_may 110 = .ok (.iload_n 1, 1) := by decide +kernel
theorem dX6_may_111 : decode cX6_may 111 = .ok (.iaload, 1) := by decide +kernel
theorem dX6_may_112 : decode cX6_may 112 = .ok (.invokevirtual 155, 3) := by decide +kernel
theorem dX6_may_115 : decode cX6_may 115 = .ok (.ifCond .ne 7, 3) := by decide +kernel
theorem dX6_may_118 : decode cX6_may 118 = .ok (.iconst 1, 1) := by decide +kernel
theorem dX6_may_119 : decode cX6_may 119 = .ok (.goto 4, 3) := by decide +kernel
theorem dX6_may_122 : decode cX6_may 122 = .ok (.iconst 0, 1) := by decide +kernel
theorem dX6_may_123 : decode cX6_may 123 = .ok (.istore 4, 2) := by decide +kernel
theorem dX6_may_125 : decode cX6_may 125 = .ok (.iinc 5 1, 3) := by decide +kernel
theorem dX6_may_128 : decode cX6_may 128 = .ok (.goto (-116), 3) := by decide +kernel
theorem dX6_may_131 : decode cX6_may 131 = .ok (.iload 4, 2) := by decide +kernel
theorem dX6_may_133 : decode cX6_may 133 = .ok (.ifCond .eq 12, 3) := by decide +kernel
theorem dX6_may_136 : decode cX6_may 136 = .ok (.iload_n 3, 1) := by decide +kernel
theorem dX6_may_137 : decode cX6_may 137 = .ok (.iload_n 2, 1) := by decide +kernel
theorem dX6_may_138 : decode cX6_may 138 = .ok (.if_icmp .gt 7, 3) := by decide +kernel
theorem dX6_may_141 : decode cX6_may 141 = .ok (.iconst 1, 1) := by decide +kernel
theorem dX6_may_142 : decode cX6_may 142 = .ok (.goto 4, 3) := by decide +kernel
theorem dX6_may_145 : decode cX6_may 145 = .ok (.iconst 0, 1) := by decide +kernel
theorem dX6_may_146 : decode cX6_may 146 = .ok (.ireturn, 1) := by decide +kernel
set_option maxRecDepth 20000 in
theorem ggX6_seeks_X6_many : GoodIn wsX6_seeks wsX6_many := goodIn_r _ [7, 8, 30, 31, 32, 33, 34, 35, 36, 37, 38, 39, 40, 41, 42, 43, 44] (by decide +kernel) (by decide +kernel)
set_option maxRecDepth 20000 in
theorem gX6_seeks_X6_many : GoodIn wsX6_seeks (wsV RX6 52 RX6 yX6_many wsX6_many) := goodIn_app (goodIn_of _ (by decide +kernel)) ggX6_seeks_X6_many
set_option maxRecDepth 20000 in
theorem ggX6_seeks_X6_may : GoodIn wsX6_seeks wsX6_may := goodIn_r _ [12, 13, 1, 14, 15, 16, 6, 17, 18, 19, 20, 21, 8, 22, 23, 24, 25, 26, 27, 28, 29, 30, 31, 32, 33, 34, 35, 36, 37, 38, 39, 40, 41, 42, 43, 44] (by decide +kernel) (by decide +kernel)
set_option maxRecDepth 20000 in
theorem gX6_seeks_X6_may : GoodIn wsX6_seeks (wsV RX6 158 RX6 yX6_may wsX6_may) := goodIn_app (goodIn_of _ (by decide +kernel)) ggX6_seeks_X6_may
theorem dX6_seeks_0 : decode cX6_seeks 0 = .ok (.aload_n 0, 1) := by decide +kernel
theorem dX6_seeks_1 : decode cX6_seeks 1 = .ok (.bipush 8, 2) := by decide +kernel
theorem dX6_seeks_3 : decode cX6_seeks 3 = .ok (.invokevirtual 52, 3) := by decide +kernel
theorem dX6_seeks_6 : decode cX6_seeks 6 = .ok (.istore_n 3, 1) := by decide +kernel
theorem dX6_seeks_7 : decode cX6_seeks 7 = .ok (.iconst 0, 1) := by decide +kernel
theorem dX6_seeks_8 : decode cX6_seeks 8 = .ok (.istore 4, 2) := by decide +kernel
theorem dX6_seeks_10 : decode cX6_seeks 10 = .ok (.aload_n 0, 1) := by decide +kernel
theorem dX6_seeks_11 : decode cX6_seeks 11 = .ok (.getfield 19, 3) := by decide +kernel
theorem dX6_seeks_14 : decode cX6_seeks 14 = .ok (.iconst 0, 1) := by decide +kernel
theorem dX6_seeks_15 : decode cX6_seeks 15 = .ok (.iconst (-1), 1) := by decide +kernel
theorem dX6_seeks_16 : decode cX6_seeks 16 = .ok (.iastore, 1) := by decide +kernel
theorem dX6_seeks_17 : decode cX6_seeks 17 = .ok (.iload 4, 2) := by decide +kernel
theorem dX6_seeks_19 : decode cX6_seeks 19 = .ok (.ifCond .lt 67, 3) := by decide +kernel
theorem dX6_seeks_22 : decode cX6_seeks 22 = .ok (.iload 4, 2) := by decide +kernel
theorem dX6_seeks_24 : decode cX6_seeks 24 = .ok (.iload_n 3, 1) := by decide +kernel
theorem dX6_seeks_25 : decode cX6_seeks 25 = .ok (.if_icmp .ge 61, 3) := by decide +kernel
theorem dX6_seeks_28 : decode cX6_seeks 28 = .ok (.aload_n 0, 1) := by decide +kernel
theorem dX6_seeks_29 : decode cX6_seeks 29 = .ok (.getfield 19, 3) := by decide +kernel
theorem dX6_seeks_32 : decode cX6_seeks 32 = .ok (.iload 4, 2) := by decide +kernel
theorem dX6_seeks_34 : decode cX6_seeks 34 = .ok (.dup2, 1) := by decide +kernel
theorem dX6_seeks_35 : decode cX6_seeks 35 = .ok (.iaload, 1) := by decide +kernel
theorem dX6_seeks_36 : decode cX6_seeks 36 = .ok (.iconst 1, 1) := by decide +kernel
theorem dX6_seeks_37 : decode cX6_seeks 37 = .ok (.iadd, 1) := by decide +kernel
theorem dX6_seeks_38 : decode cX6_seeks 38 = .ok (.iastore, 1) := by decide +kernel
theorem dX6_seeks_39 : decode cX6_seeks 39 = .ok (.aload_n 0, 1) := by decide +kernel
theorem dX6_seeks_40 : decode cX6_seeks 40 = .ok (.getfield 19, 3) := by decide +kernel
theorem dX6_seeks_43 : decode cX6_seeks 43 = .ok (.iload 4, 2) := by decide +kernel
theorem dX6_seeks_45 : decode cX6_seeks 45 = .ok (.iaload, 1) := by decide +kernel
theorem dX6_seeks_46 : decode cX6_seeks 46 = .ok (.iload_n 1, 1) := by decide +kernel
theorem dX6_seeks_47 : decode cX6_seeks 47 = .ok (.if_icmp .lt 9, 3) := by decide +kernel
theorem dX6_seeks_50 : decode cX6_seeks 50 = .ok (.iinc 4 (-1), 3) := by decide +kernel
theorem dX6_seeks_53 : decode cX6_seeks 53 = .ok (.goto (-36), 3) := by decide +kernel
theorem dX6_seeks_56 : decode cX6_seeks 56 = .ok (.aload_n 0, 1) := by decide +kernel
theorem dX6_seeks_57 : decode cX6_seeks 57 = .ok (.iload 4, 2) := by decide +kernel
theorem dX6_seeks_59 : decode cX6_seeks 59 = .ok (.iload_n 2, 1) := by decide +kernel
theorem dX6_seeks_60 : decode cX6_seeks 60 = .ok (.invokevirtual 158, 3) := by decide +kernel
theorem dX6_seeks_63 : decode cX6_seeks 63 = .ok (.ifCond .eq (-46), 3) := by decide +kernel
theorem dX6_seeks_66 : decode cX6_seeks 66 = .ok (.iinc 4 1, 3) := by decide +kernel
theorem dX6_seeks_69 : decode cX6_seeks 69 = .ok (.iload 4, 2) := by decide +kernel
theorem dX6_seeks_71 : decode cX6_seeks 71 = .ok (.iload_n 3, 1) := by decide +kernel
theorem dX6_seeks_72 : decode cX6_seeks 72 = .ok (.if_icmp .ge (-55), 3) := by decide +kernel
theorem dX6_seeks_75 : decode cX6_seeks 75 = .ok (.aload_n 0, 1) := by decide +kernel
theorem dX6_seeks_76 : decode cX6_seeks 76 = .ok (.getfield 19, 3) := by decide +kernel
theorem dX6_seeks_79 : decode cX6_seeks 79 = .ok (.iload 4, 2) := by decide +kernel
theorem dX6_seeks_81 : decode cX6_seeks 81 = .ok (.iconst (-1), 1) := by decide +kernel
theorem dX6_seeks_82 : decode cX6_seeks 82 = .ok (.iastore, 1) := by decide +kernel
theorem dX6_seeks_83 : decode cX6_seeks 83 = .ok (.goto (-66), 3) := by decide +kernel
theorem dX6_seeks_86 : decode cX6_seeks 86 = .ok (.iconst 0, 1) := by decide +kernel
theorem dX6_seeks_87 : decode cX6_seeks 87 = .ok (.istore 5, 2) := by decide +kernel
theorem dX6_seeks_89 : decode cX6_seeks 89 = .ok (.iload 5, 2) := by decide +kernel
theorem dX6_seeks_91 : decode cX6_seeks 91 = .ok (.iload_n 3, 1) := by decide +kernel
theorem dX6_seeks_92 : decode cX6_seeks 92 = .ok (.if_icmp .ge 23, 3) := by decide +kernel
theorem dX6_seeks_95 : decode cX6_seeks 95 = .ok (.aload_n 0, 1) := by decide +kernel
theorem dX6_seeks_96 : decode cX6_seeks 96 = .ok (.getfield 23, 3) := by decide +kernel
theorem dX6_seeks_99 : decode cX6_seeks 99 = .ok (.iload 5, 2) := by decide +kernel
theorem dX6_seeks_101 : decode cX6_seeks 101 = .ok (.aload_n 0, 1) := by decide +kernel
theorem dX6_seeks_102 : decode cX6_seeks 102 = .ok (.getfield 19, 3) := by decide +kernel
theorem dX6_seeks_105 : decode cX6_seeks 105 = .ok (.iload 5, 2) := by decide +kernel
theorem dX6_seeks_107 : decode cX6_seeks 107 = .ok (.iaload, 1) := by decide +kernel
theorem dX6_seeks_108 : decode cX6_seeks 108 = .ok (.iastore, 1) := by decide +kernel
theorem dX6_seeks_109 : decode cX6_seeks 109 = .ok (.iinc 5 1, 3) := by decide +kernel
theorem dX6_seeks_112 : decode cX6_seeks 112 = .ok (.goto (-23), 3) := by decide +kernel
theorem dX6_seeks_115 : decode cX6_seeks 115 = .ok (.iload 4, 2) := by decide +kernel
theorem dX6_seeks_117 : decode cX6_seeks 117 = .ok (.iload_n 3, 1) := by decide +kernel
theorem dX6_seeks_118 : decode cX6_seeks 118 = .ok (.if_icmp .ne 7, 3) := by decide +kernel
theorem dX6_seeks_121 : decode cX6_seeks 121 = .ok (.iconst 1, 1) := by decide +kernel
theorem dX6_seeks_122 : decode cX6_seeks 122 = .ok (.goto 4, 3) := by decide +kernel
theorem dX6_seeks_125 : decode cX6_seeks 125 = .ok (.iconst 0, 1) := by decide +kernel
theorem dX6_seeks_126 : decode cX6_seeks 126 = .ok (.ireturn, 1) := by decide +kernel
set_option maxRecDepth 20000 in
theorem ggX6_plans_X6_many : GoodIn wsX6_plans wsX6_many := goodIn_r _ [6, 7, 50, 51, 52, 53, 54, 55, 56, 57, 58, 59, 60, 61, 62, 63, 64] (by decide +kernel) (by decide +kernel)
set_option maxRecDepth 20000 in
theorem gX6_plans_X6_many : GoodIn wsX6_plans (wsV RX6 52 RX6 yX6_many wsX6_many) := goodIn_app (goodIn_of _ (by decide +kernel)) ggX6_plans_X6_many
set_option maxRecDepth 20000 in
theorem ggX6_plans_X6_touches : GoodIn wsX6_plans wsX6_touches := goodIn_r _ [11, 12, 13, 14, 5, 15, 16, 17, 18, 19, 7, 20, 21, 22, 23, 2, 3, 4, 6, 24, 25, 26, 27, 50, 51, 52, 53, 54, 55, 56, 57, 58, 59, 60, 61, 62, 63, 64] (by decide +kernel) (by decide +kernel)
set_option maxRecDepth 20000 in
theorem gX6_plans_X6_touches : GoodIn wsX6_plans (wsV RX6 146 RX6 yX6_touches wsX6_touches) := goodIn_app (goodIn_of _ (by decide +kernel)) ggX6_plans_X6_touches
set_option maxRecDepth 20000 in
theorem ggX6_plans_X6_seeks : GoodIn wsX6_plans wsX6_seeks := goodIn_r _ [31, 32, 33, 2, 3, 4, 5, 6, 7, 34, 35, 36, 37, 1, 38, 39, 40, 41, 16, 17, 18, 19, 42, 43, 44, 45, 46, 47, 48, 49, 50, 51, 52, 53, 54, 55, 56, 57, 58, 59, 60, 61, 62, 63, 64] (by decide +kernel) (by decide +kernel)
set_option maxRecDepth 20000 in
theorem gX6_plans_X6_seeks : GoodIn wsX6_plans (wsV RX6 161 RX6 yX6_seeks wsX6_seeks) := goodIn_app (goodIn_of _ (by decide +kernel)) ggX6_plans_X6_seeks
theorem dX6_plans_0 : decode cX6_plans 0 = .ok (.iconst 0, 1) := by decide +kernel
theorem dX6_plans_1 : decode cX6_plans 1 = .ok (.istore_n 2, 1) := by decide +kernel
theorem dX6_plans_2 : decode cX6_plans 2 = .ok (.iload_n 2, 1) := by decide +kernel
theorem dX6_plans_3 : decode cX6_plans 3 = .ok (.aload_n 0, 1) := by decide +kernel
theorem dX6_plans_4 : decode cX6_plans 4 = .ok (.bipush 8, 2) := by decide +kernel
theorem dX6_plans_6 : decode cX6_plans 6 = .ok (.invokevirtual 52, 3) := by decide +kernel
theorem dX6_plans_9 : decode cX6_plans 9 = .ok (.if_icmp .ge 20, 3) := by decide +kernel
theorem dX6_plans_12 : decode cX6_plans 12 = .ok (.aload_n 0, 1) := by decide +kernel
theorem dX6_plans_13 : decode cX6_plans 13 = .ok (.getfield 26, 3) := by decide +kernel
theorem dX6_plans_16 : decode cX6_plans 16 = .ok (.iload_n 2, 1) := by decide +kernel
theorem dX6_plans_17 : decode cX6_plans 17 = .ok (.aload_n 0, 1) := by decide +kernel
theorem dX6_plans_18 : decode cX6_plans 18 = .ok (.iload_n 2, 1) := by decide +kernel
theorem dX6_plans_19 : decode cX6_plans 19 = .ok (.invokevirtual 146, 3) := by decide +kernel
theorem dX6_plans_22 : decode cX6_plans 22 = .ok (.iastore, 1) := by decide +kernel
theorem dX6_plans_23 : decode cX6_plans 23 = .ok (.iinc 2 1, 3) := by decide +kernel
theorem dX6_plans_26 : decode cX6_plans 26 = .ok (.goto (-24), 3) := by decide +kernel
theorem dX6_plans_29 : decode cX6_plans 29 = .ok (.iconst 0, 1) := by decide +kernel
theorem dX6_plans_30 : decode cX6_plans 30 = .ok (.istore_n 2, 1) := by decide +kernel
theorem dX6_plans_31 : decode cX6_plans 31 = .ok (.iload_n 2, 1) := by decide +kernel
theorem dX6_plans_32 : decode cX6_plans 32 = .ok (.bipush 8, 2) := by decide +kernel
theorem dX6_plans_34 : decode cX6_plans 34 = .ok (.if_icmp .gt 20, 3) := by decide +kernel
theorem dX6_plans_37 : decode cX6_plans 37 = .ok (.aload_n 0, 1) := by decide +kernel
theorem dX6_plans_38 : decode cX6_plans 38 = .ok (.iload_n 2, 1) := by decide +kernel
theorem dX6_plans_39 : decode cX6_plans 39 = .ok (.iload_n 1, 1) := by decide +kernel
theorem dX6_plans_40 : decode cX6_plans 40 = .ok (.invokevirtual 161, 3) := by decide +kernel
theorem dX6_plans_43 : decode cX6_plans 43 = .ok (.ifCond .eq 5, 3) := by decide +kernel
theorem dX6_plans_46 : decode cX6_plans 46 = .ok (.iload_n 2, 1) := by decide +kernel
theorem dX6_plans_47 : decode cX6_plans 47 = .ok (.ireturn, 1) := by decide +kernel
theorem dX6_plans_48 : decode cX6_plans 48 = .ok (.iinc 2 1, 3) := by decide +kernel
theorem dX6_plans_51 : decode cX6_plans 51 = .ok (.goto (-20), 3) := by decide +kernel
theorem dX6_plans_54 : decode cX6_plans 54 = .ok (.iconst (-1), 1) := by decide +kernel
theorem dX6_plans_55 : decode cX6_plans 55 = .ok (.ireturn, 1) := by decide +kernel
set_option maxRecDepth 20000 in
theorem ggX6_setStation_X6_isOp : GoodIn wsX6_setStation wsX6_isOp := goodIn_r _ [7, 8, 9, 10, 6, 11, 2, 12, 13, 14, 30, 31, 32, 33, 34, 35, 36, 37, 38, 39, 40, 41, 42, 43, 44] (by decide +kernel) (by decide +kernel)
set_option maxRecDepth 20000 in
theorem gX6_setStation_X6_isOp : GoodIn wsX6_setStation (wsV RX6 135 RX6 yX6_isOp wsX6_isOp) := goodIn_app (goodIn_of _ (by decide +kernel)) ggX6_setStation_X6_isOp
set_option maxRecDepth 20000 in
theorem ggX6_setStation_X6_fails : GoodIn wsX6_setStation wsX6_fails := goodIn_r _ [18, 1, 30, 31, 32, 33, 34, 35, 36, 37, 38, 39, 40, 41, 42, 43, 44] (by decide +kernel) (by decide +kernel)
set_option maxRecDepth 20000 in
theorem gX6_setStation_X6_fails : GoodIn wsX6_setStation (wsV RX6 110 RX6 yX6_fails wsX6_fails) := goodIn_app (goodIn_of _ (by decide +kernel)) ggX6_setStation_X6_fails
set_option maxRecDepth 20000 in
theorem ggX6_setStation_X6_in : GoodIn wsX6_setStation wsX6_in := goodIn_r _ [14] (by decide +kernel) (by decide +kernel)
set_option maxRecDepth 20000 in
theorem gX6_setStation_X6_in : GoodIn wsX6_setStation (va_wsS RX6 56 yX6_in wsX6_in) := goodIn_app (goodIn_of _ (by decide +kernel)) ggX6_setStation_X6_in
set_option maxRecDepth 20000 in
theorem ggX6_setStation_X6_save : GoodIn wsX6_setStation wsX6_save := goodIn_r _ [22, 23, 24, 25, 2, 30, 31, 32, 33, 34, 35, 36, 37, 38, 39, 40, 41, 42, 43, 44] (by decide +kernel) (by decide +kernel)
set_option maxRecDepth 20000 in
theorem gX6_setStation_X6_save : GoodIn wsX6_setStation (wsV RX6 113 RX6 yX6_save wsX6_save) := goodIn_app (goodIn_of _ (by decide +kernel)) ggX6_setStation_X6_save
set_option maxRecDepth 20000 in
theorem ggX6_setStation_X6_ofOp : GoodIn wsX6_setStation wsX6_ofOp := goodIn_r _ [29, 2, 30, 31, 32, 33, 34, 35, 36, 37, 38, 39, 40, 41, 42, 43, 44] (by decide +kernel) (by decide +kernel)
set_option maxRecDepth 20000 in
theorem gX6_setStation_X6_ofOp : GoodIn wsX6_setStation (wsV RX6 77 RX6 yX6_ofOp wsX6_ofOp) := goodIn_app (goodIn_of _ (by decide +kernel)) ggX6_setStation_X6_ofOp
theorem dX6_setStation_0 : decode cX6_setStation 0 = .ok (.aload_n 0, 1) := by decide +kernel
theorem dX6_setStation_1 : decode cX6_setStation 1 = .ok (.iconst 0, 1) := by decide +kernel
theorem dX6_setStation_2 : decode cX6_setStation 2 = .ok (.putfield 48, 3) := by decide +kernel
theorem dX6_setStation_5 : decode cX6_setStation 5 = .ok (.aload_n 0, 1) := by decide +kernel
theorem dX6_setStation_6 : decode cX6_setStation 6 = .ok (.iload_n 1, 1) := by decide +kernel
theorem dX6_setStation_7 : decode cX6_setStation 7 = .ok (.invokevirtual 135, 3) := by decide +kernel
theorem dX6_setStation_10 : decode cX6_setStation 10 = .ok (.ifCond .ne 9, 3) := by decide +kernel
theorem dX6_setStation_13 : decode cX6_setStation 13 = .ok (.aload_n 0, 1) := by decide +kernel
theorem dX6_setStation_14 : decode cX6_setStation 14 = .ok (.iconst 1, 1) := by decide +kernel
theorem dX6_setStation_15 : decode cX6_setStation 15 = .ok (.invokevirtual 110, 3) := by decide +kernel
theorem dX6_setStation_18 : decode cX6_setStation 18 = .ok (.ireturn, 1) := by decide +kernel
theorem dX6_setStation_19 : decode cX6_setStation 19 = .ok (.iload_n 2, 1) := by decide +kernel
theorem dX6_setStation_20 : decode cX6_setStation 20 = .ok (.iconst (-1), 1) := by decide +kernel
theorem dX6_setStation_21 : decode cX6_setStation 21 = .ok (.bipush 7, 2) := by decide +kernel
theorem dX6_setStation_23 : decode cX6_setStation 23 = .ok (.invokestatic 56, 3) := by decide +kernel
theorem dX6_setStation_26 : decode cX6_setStation 26 = .ok (.ifCond .ne 9, 3) := by decide +kernel
theorem dX6_setStation_29 : decode cX6_setStation 29 = .ok (.aload_n 0, 1) := by decide +kernel
theorem dX6_setStation_30 : decode cX6_setStation 30 = .ok (.iconst 2, 1) := by decide +kernel
theorem dX6_setStation_31 : decode cX6_setStation 31 = .ok (.invokevirtual 110, 3) := by decide +kernel
theorem dX6_setStation_34 : decode cX6_setStation 34 = .ok (.ireturn, 1) := by decide +kernel
theorem dX6_setStation_35 : decode cX6_setStation 35 = .ok (.aload_n 0, 1) := by decide +kernel
theorem dX6_setStation_36 : decode cX6_setStation 36 = .ok (.invokevirtual 113, 3) := by decide +kernel
theorem dX6_setStation_39 : decode cX6_setStation 39 = .ok (.aload_n 0, 1) := by decide +kernel
theorem dX6_setStation_40 : decode cX6_setStation 40 = .ok (.iload_n 1, 1) := by decide +kernel
theorem dX6_setStation_41 : decode cX6_setStation 41 = .ok (.iconst 5, 1) := by decide +kernel
theorem dX6_setStation_42 : decode cX6_setStation 42 = .ok (.invokevirtual 77, 3) := by decide +kernel
theorem dX6_setStation_45 : decode cX6_setStation 45 = .ok (.istore_n 3, 1) := by decide +kernel
theorem dX6_setStation_46 : decode cX6_setStation 46 = .ok (.aload_n 0, 1) := by decide +kernel
theorem dX6_setStation_47 : decode cX6_setStation 47 = .ok (.getfield 7, 3) := by decide +kernel
theorem dX6_setStation_50 : decode cX6_setStation 50 = .ok (.bipush 20, 2) := by decide +kernel
theorem dX6_setStation_52 : decode cX6_setStation 52 = .ok (.bipush 6, 2) := by decide +kernel
theorem dX6_setStation_54 : decode cX6_setStation 54 = .ok (.iload_n 1, 1) := by decide +kernel
theorem dX6_setStation_55 : decode cX6_setStation 55 = .ok (.imul, 1) := by decide +kernel
theorem dX6_setStation_56 : decode cX6_setStation 56 = .ok (.iadd, 1) := by decide +kernel
theorem dX6_setStation_57 : decode cX6_setStation 57 = .ok (.iconst 5, 1) := by decide +kernel
theorem dX6_setStation_58 : decode cX6_setStation 58 = .ok (.iadd, 1) := by decide +kernel
theorem dX6_setStation_59 : decode cX6_setStation 59 = .ok (.iload_n 2, 1) := by decide +kernel
theorem dX6_setStation_60 : decode cX6_setStation 60 = .ok (.i2l, 1) := by decide +kernel
theorem dX6_setStation_61 : decode cX6_setStation 61 = .ok (.lastore, 1) := by decide +kernel
theorem dX6_setStation_62 : decode cX6_setStation 62 = .ok (.iload_n 3, 1) := by decide +kernel
theorem dX6_setStation_63 : decode cX6_setStation 63 = .ok (.ireturn, 1) := by decide +kernel
set_option maxRecDepth 20000 in
theorem ggX6_usePlan_X6_setting : GoodIn wsX6_usePlan wsX6_setting := goodIn_r _ [8, 2, 66, 67, 68, 69, 70, 71, 72, 73, 74, 75, 76, 77, 78, 79, 80] (by decide +kernel) (by decide +kernel)
set_option maxRecDepth 20000 in
theorem gX6_usePlan_X6_setting : GoodIn wsX6_usePlan (wsV RX6 128 RX6 yX6_setting wsX6_setting) := goodIn_app (goodIn_of _ (by decide +kernel)) ggX6_usePlan_X6_setting
set_option maxRecDepth 20000 in
theorem ggX6_usePlan_X6_plans : GoodIn wsX6_usePlan wsX6_plans := goodIn_r _ [12, 13, 14, 15, 16, 7, 17, 2, 18, 19, 20, 21, 22, 23, 24, 25, 26, 27, 28, 29, 30, 31, 32, 33, 34, 35, 36, 37, 38, 39, 40, 41, 42, 3, 43, 44, 45, 46, 47, 48, 49, 50, 51, 52, 53, 54, 4, 5, 6, 8, 66, 67, 68, 69, 70, 71, 72, 73, 74, 75, 76, 77, 78, 79, 80] (by decide +kernel) (by decide +kernel)
set_option maxRecDepth 20000 in
theorem gX6_usePlan_X6_plans : GoodIn wsX6_usePlan (wsV RX6 164 RX6 yX6_plans wsX6_plans) := goodIn_app (goodIn_of _ (by decide +kernel)) ggX6_usePlan_X6_plans
set_option maxRecDepth 20000 in
theorem ggX6_usePlan_X6_fails : GoodIn wsX6_usePlan wsX6_fails := goodIn_r _ [58, 1, 66, 67, 68, 69, 70, 71, 72, 73, 74, 75, 76, 77, 78, 79, 80] (by decide +kernel) (by decide +kernel)
set_option maxRecDepth 20000 in
theorem gX6_usePlan_X6_fails : GoodIn wsX6_usePlan (wsV RX6 110 RX6 yX6_fails wsX6_fails) := goodIn_app (goodIn_of _ (by decide +kernel)) ggX6_usePlan_X6_fails
set_option maxRecDepth 20000 in
theorem ggX6_usePlan_X6_save : GoodIn wsX6_usePlan wsX6_save := goodIn_r _ [62, 63, 64, 65, 2, 66, 67, 68, 69, 70, 71, 72, 73, 74, 75, 76, 77, 78, 79, 80] (by decide +kernel) (by decide +kernel)
set_option maxRecDepth 20000 in
theorem gX6_usePlan_X6_save : GoodIn wsX6_usePlan (wsV RX6 113 RX6 yX6_save wsX6_save) := goodIn_app (goodIn_of _ (by decide +kernel)) ggX6_usePlan_X6_save
set_option maxRecDepth 20000 in
theorem ggX6_usePlan_X6_many : GoodIn wsX6_usePlan wsX6_many := goodIn_r _ [17, 2, 66, 67, 68, 69, 70, 71, 72, 73, 74, 75, 76, 77, 78, 79, 80] (by decide +kernel) (by decide +kernel)
set_option maxRecDepth 20000 in
theorem gX6_usePlan_X6_many : GoodIn wsX6_usePlan (wsV RX6 52 RX6 yX6_many wsX6_many) := goodIn_app (goodIn_of _ (by decide +kernel)) ggX6_usePlan_X6_many
theorem dX6_usePlan_0 : decode cX6_usePlan 0 = .ok (.aload_n 0, 1) := by decide +kernel
theorem dX6_usePlan_1 : decode cX6_usePlan 1 = .ok (.iconst 0, 1) := by decide +kernel
theorem dX6_usePlan_2 : decode cX6_usePlan 2 = .ok (.putfield 48, 3) := by decide +kernel
theorem dX6_usePlan_5 : decode cX6_usePlan 5 = .ok (.aload_n 0, 1) := by decide +kernel
theorem dX6_usePlan_6 : decode cX6_usePlan 6 = .ok (.aload_n 0, 1) := by decide +kernel
theorem dX6_usePlan_7 : decode cX6_usePlan 7 = .ok (.iconst 0, 1) := by decide +kernel
theorem dX6_usePlan_8 : decode cX6_usePlan 8 = .ok (.invokevirtual 128, 3) := by decide +kernel
theorem dX6_usePlan_11 : decode cX6_usePlan 11 = .ok (.invokevirtual 164, 3) := by decide +kernel
theorem dX6_usePlan_14 : decode cX6_usePlan 14 = .ok (.istore_n 1, 1) := by decide +kernel
theorem dX6_usePlan_15 : decode cX6_usePlan 15 = .ok (.iload_n 1, 1) := by decide +kernel
theorem dX6_usePlan_16 : decode cX6_usePlan 16 = .ok (.iconst (-1), 1) := by decide +kernel
theorem dX6_usePlan_17 : decode cX6_usePlan 17 = .ok (.if_icmp .ne 9, 3) := by decide +kernel
theorem dX6_usePlan_20 : decode cX6_usePlan 20 = .ok (.aload_n 0, 1) := by decide +kernel
theorem dX6_usePlan_21 : decode cX6_usePlan 21 = .ok (.iconst 1, 1) := by decide +kernel
theorem dX6_usePlan_22 : decode cX6_usePlan 22 = .ok (.invokevirtual 110, 3) := by decide +kernel
theorem dX6_usePlan_25 : decode cX6_usePlan 25 = .ok (.ireturn, 1) := by decide +kernel
theorem dX6_usePlan_26 : decode cX6_usePlan 26 = .ok (.aload_n 0, 1) := by decide +kernel
theorem dX6_usePlan_27 : decode cX6_usePlan 27 = .ok (.invokevirtual 113, 3) := by decide +kernel
theorem dX6_usePlan_30 : decode cX6_usePlan 30 = .ok (.iconst 0, 1) := by decide +kernel
theorem dX6_usePlan_31 : decode cX6_usePlan 31 = .ok (.istore_n 2, 1) := by decide +kernel
theorem dX6_usePlan_32 : decode cX6_usePlan 32 = .ok (.iload_n 2, 1) := by decide +kernel
theorem dX6_usePlan_33 : decode cX6_usePlan 33 = .ok (.aload_n 0, 1) := by decide +kernel
theorem dX6_usePlan_34 : decode cX6_usePlan 34 = .ok (.bipush 8, 2) := by decide +kernel
theorem dX6_usePlan_36 : decode cX6_usePlan 36 = .ok (.invokevirtual 52, 3) := by decide +kernel
theorem dX6_usePlan_39 : decode cX6_usePlan 39 = .ok (.if_icmp .ge 30, 3) := by decide +kernel
theorem dX6_usePlan_42 : decode cX6_usePlan 42 = .ok (.aload_n 0, 1) := by decide +kernel
theorem dX6_usePlan_43 : decode cX6_usePlan 43 = .ok (.getfield 7, 3) := by decide +kernel
theorem dX6_usePlan_46 : decode cX6_usePlan 46 = .ok (.bipush 20, 2) := by decide +kernel
theorem dX6_usePlan_48 : decode cX6_usePlan 48 = .ok (.bipush 6, 2) := by decide +kernel
theorem dX6_usePlan_50 : decode cX6_usePlan 50 = .ok (.iload_n 2, 1) := by decide +kernel
theorem dX6_usePlan_51 : decode cX6_usePlan 51 = .ok (.imul, 1) := by decide +kernel
theorem dX6_usePlan_52 : decode cX6_usePlan 52 = .ok (.iadd, 1) := by decide +kernel
theorem dX6_usePlan_53 : decode cX6_usePlan 53 = .ok (.iconst 5, 1) := by decide +kernel
theorem dX6_usePlan_54 : decode cX6_usePlan 54 = .ok (.iadd, 1) := by decide +kernel
theorem dX6_usePlan_55 : decode cX6_usePlan 55 = .ok (.aload_n 0, 1) := by decide +kernel
theorem dX6_usePlan_56 : decode cX6_usePlan 56 = .ok (.getfield 23, 3) := by decide +kernel
theorem dX6_usePlan_59 : decode cX6_usePlan 59 = .ok (.iload_n 2, 1) := by decide +kernel
theorem dX6_usePlan_60 : decode cX6_usePlan 60 = .ok (.iaload, 1) := by decide +kernel
theorem dX6_usePlan_61 : decode cX6_usePlan 61 = .ok (.i2l, 1) := by decide +kernel
theorem dX6_usePlan_62 : decode cX6_usePlan 62 = .ok (.lastore, 1) := by decide +kernel
theorem dX6_usePlan_63 : decode cX6_usePlan 63 = .ok (.iinc 2 1, 3) := by decide +kernel
theorem dX6_usePlan_66 : decode cX6_usePlan 66 = .ok (.goto (-34), 3) := by decide +kernel
theorem dX6_usePlan_69 : decode cX6_usePlan 69 = .ok (.iload_n 1, 1) := by decide +kernel
theorem dX6_usePlan_70 : decode cX6_usePlan 70 = .ok (.ireturn, 1) := by decide +kernel
set_option maxRecDepth 20000 in
theorem ggX6_setPilot_X6_in : GoodIn wsX6_setPilot wsX6_in := goodIn_r _ [7] (by decide +kernel) (by decide +kernel)
set_option maxRecDepth 20000 in
theorem gX6_setPilot_X6_in : GoodIn wsX6_setPilot (va_wsS RX6 56 yX6_in wsX6_in) := goodIn_app (goodIn_of _ (by decide +kernel)) ggX6_setPilot_X6_in
set_option maxRecDepth 20000 in
theorem ggX6_setPilot_X6_fails : GoodIn wsX6_setPilot wsX6_fails := goodIn_r _ [11, 1, 22, 23, 24, 25, 26, 27, 28, 29, 30, 31, 32, 33, 34, 35, 36] (by decide +kernel) (by decide +kernel)
set_option maxRecDepth 20000 in
theorem gX6_setPilot_X6_fails : GoodIn wsX6_setPilot (wsV RX6 110 RX6 yX6_fails wsX6_fails) := goodIn_app (goodIn_of _ (by decide +kernel)) ggX6_setPilot_X6_fails
set_option maxRecDepth 20000 in
theorem ggX6_setPilot_X6_save : GoodIn wsX6_setPilot wsX6_save := goodIn_r _ [15, 16, 17, 18, 2, 22, 23, 24, 25, 26, 27, 28, 29, 30, 31, 32, 33, 34, 35, 36] (by decide +kernel) (by decide +kernel)
set_option maxRecDepth 20000 in
theorem gX6_setPilot_X6_save : GoodIn wsX6_setPilot (wsV RX6 113 RX6 yX6_save wsX6_save) := goodIn_app (goodIn_of _ (by decide +kernel)) ggX6_setPilot_X6_save
set_option maxRecDepth 20000 in
theorem ggX6_setPilot_X6_ones : GoodIn wsX6_setPilot wsX6_ones := goodIn_r _ [21] (by decide +kernel) (by decide +kernel)
set_option maxRecDepth 20000 in
theorem gX6_setPilot_X6_ones : GoodIn wsX6_setPilot (va_wsS RX6 120 yX6_ones wsX6_ones) := goodIn_app (goodIn_of _ (by decide +kernel)) ggX6_setPilot_X6_ones
theorem dX6_setPilot_0 : decode cX6_setPilot 0 = .ok (.aload_n 0, 1) := by decide +kernel
theorem dX6_setPilot_1 : decode cX6_setPilot 1 = .ok (.iconst 0, 1) := by decide +kernel
theorem dX6_setPilot_2 : decode cX6_setPilot 2 = .ok (.putfield 48, 3) := by decide +kernel
theorem dX6_setPilot_5 : decode cX6_setPilot 5 = .ok (.iload_n 1, 1) := by decide +kernel
theorem dX6_setPilot_6 : decode cX6_setPilot 6 = .ok (.iconst 0, 1) := by decide +kernel
theorem dX6_setPilot_7 : decode cX6_setPilot 7 = .ok (.bipush 7, 2) := by decide +kernel
theorem dX6_setPilot_9 : decode cX6_setPilot 9 = .ok (.invokestatic 56, 3) := by decide +kernel
theorem dX6_setPilot_12 : decode cX6_setPilot 12 = .ok (.ifCond .ne 9, 3) := by decide +kernel
theorem dX6_setPilot_15 : decode cX6_setPilot 15 = .ok (.aload_n 0, 1) := by decide +kernel
theorem dX6_setPilot_16 : decode cX6_setPilot 16 = .ok (.iconst 1, 1) := by decide +kernel
theorem dX6_setPilot_17 : decode cX6_setPilot 17 = .ok (.invokevirtual 110, 3) := by decide +kernel
theorem dX6_setPilot_20 : decode cX6_setPilot 20 = .ok (.ireturn, 1) := by decide +kernel
theorem dX6_setPilot_21 : decode cX6_setPilot 21 = .ok (.aload_n 0, 1) := by decide +kernel
theorem dX6_setPilot_22 : decode cX6_setPilot 22 = .ok (.invokevirtual 113, 3) := by decide +kernel
theorem dX6_setPilot_25 : decode cX6_setPilot 25 = .ok (.aload_n 0, 1) := by decide +kernel
theorem dX6_setPilot_26 : decode cX6_setPilot 26 = .ok (.getfield 7, 3) := by decide +kernel
theorem dX6_setPilot_29 : decode cX6_setPilot 29 = .ok (.bipush 13, 2) := by decide +kernel
theorem dX6_setPilot_31 : decode cX6_setPilot 31 = .ok (.iload_n 2, 1) := by decide +kernel
theorem dX6_setPilot_32 : decode cX6_setPilot 32 = .ok (.ifCond .eq 17, 3) := by decide +kernel
theorem dX6_setPilot_35 : decode cX6_setPilot 35 = .ok (.aload_n 0, 1) := by decide +kernel
theorem dX6_setPilot_36 : decode cX6_setPilot 36 = .ok (.getfield 7, 3) := by decide +kernel
theorem dX6_setPilot_39 : decode cX6_setPilot 39 = .ok (.bipush 13, 2) := by decide +kernel
theorem dX6_setPilot_41 : decode cX6_setPilot 41 = .ok (.laload, 1) := by decide +kernel
theorem dX6_setPilot_42 : decode cX6_setPilot 42 = .ok (.lconst 1, 1) := by decide +kernel
theorem dX6_setPilot_43 : decode cX6_setPilot 43 = .ok (.iload_n 1, 1) := by decide +kernel
theorem dX6_setPilot_44 : decode cX6_setPilot 44 = .ok (.lshl, 1) := by decide +kernel
theorem dX6_setPilot_45 : decode cX6_setPilot 45 = .ok (.lor, 1) := by decide +kernel
theorem dX6_setPilot_46 : decode cX6_setPilot 46 = .ok (.goto 18, 3) := by decide +kernel
theorem dX6_setPilot_49 : decode cX6_setPilot 49 = .ok (.aload_n 0, 1) := by decide +kernel
theorem dX6_setPilot_50 : decode cX6_setPilot 50 = .ok (.getfield 7, 3) := by decide +kernel
theorem dX6_setPilot_53 : decode cX6_setPilot 53 = .ok (.bipush 13, 2) := by decide +kernel
theorem dX6_setPilot_55 : decode cX6_setPilot 55 = .ok (.laload, 1) := by decide +kernel
theorem dX6_setPilot_56 : decode cX6_setPilot 56 = .ok (.lconst 1, 1) := by decide +kernel
theorem dX6_setPilot_57 : decode cX6_setPilot 57 = .ok (.iload_n 1, 1) := by decide +kernel
theorem dX6_setPilot_58 : decode cX6_setPilot 58 = .ok (.lshl, 1) := by decide +kernel
theorem dX6_setPilot_59 : decode cX6_setPilot 59 = .ok (.ldc2_w 75, 3) := by decide +kernel
theorem dX6_setPilot_62 : decode cX6_setPilot 62 = .ok (.lxor, 1) := by decide +kernel
theorem dX6_setPilot_63 : decode cX6_setPilot 63 = .ok (.land, 1) := by decide +kernel
theorem dX6_setPilot_64 : decode cX6_setPilot 64 = .ok (.lastore, 1) := by decide +kernel
theorem dX6_setPilot_65 : decode cX6_setPilot 65 = .ok (.aload_n 0, 1) := by decide +kernel
theorem dX6_setPilot_66 : decode cX6_setPilot 66 = .ok (.getfield 7, 3) := by decide +kernel
theorem dX6_setPilot_69 : decode cX6_setPilot 69 = .ok (.bipush 13, 2) := by decide +kernel
theorem dX6_setPilot_71 : decode cX6_setPilot 71 = .ok (.laload, 1) := by decide +kernel
theorem dX6_setPilot_72 : decode cX6_setPilot 72 = .ok (.invokestatic 120, 3) := by decide +kernel
theorem dX6_setPilot_75 : decode cX6_setPilot 75 = .ok (.ireturn, 1) := by decide +kernel
set_option maxRecDepth 20000 in
theorem ggX6_pitches_X6_ofPitch : GoodIn wsX6_pitches wsX6_ofPitch := goodIn_r _ [5, 6, 7, 8, 9, 10, 11, 12, 13, 14, 15, 16, 17, 18, 19, 20, 21] (by decide +kernel) (by decide +kernel)
set_option maxRecDepth 20000 in
theorem gX6_pitches_X6_ofPitch : GoodIn wsX6_pitches (wsV RX6 139 RX6 yX6_ofPitch wsX6_ofPitch) := goodIn_app (goodIn_of _ (by decide +kernel)) ggX6_pitches_X6_ofPitch
theorem dX6_pitches_0 : decode cX6_pitches 0 = .ok (.iconst 0, 1) := by decide +kernel
theorem dX6_pitches_1 : decode cX6_pitches 1 = .ok (.istore_n 1, 1) := by decide +kernel
theorem dX6_pitches_2 : decode cX6_pitches 2 = .ok (.iconst 0, 1) := by decide +kernel
theorem dX6_pitches_3 : decode cX6_pitches 3 = .ok (.istore_n 2, 1) := by decide +kernel
theorem dX6_pitches_4 : decode cX6_pitches 4 = .ok (.iload_n 2, 1) := by decide +kernel
theorem dX6_pitches_5 : decode cX6_pitches 5 = .ok (.bipush 8, 2) := by decide +kernel
theorem dX6_pitches_7 : decode cX6_pitches 7 = .ok (.if_icmp .ge 19, 3) := by decide +kernel
theorem dX6_pitches_10 : decode cX6_pitches 10 = .ok (.iload_n 1, 1) := by decide +kernel
theorem dX6_pitches_11 : decode cX6_pitches 11 = .ok (.aload_n 0, 1) := by decide +kernel
theorem dX6_pitches_12 : decode cX6_pitches 12 = .ok (.iload_n 2, 1) := by decide +kernel
theorem dX6_pitches_13 : decode cX6_pitches 13 = .ok (.iconst 0, 1) := by decide +kernel
theorem dX6_pitches_14 : decode cX6_pitches 14 = .ok (.invokevirtual 139, 3) := by decide +kernel
theorem dX6_pitches_17 : decode cX6_pitches 17 = .ok (.l2i, 1) := by decide +kernel
theorem dX6_pitches_18 : decode cX6_pitches 18 = .ok (.iadd, 1) := by decide +kernel
theorem dX6_pitches_19 : decode cX6_pitches 19 = .ok (.istore_n 1, 1) := by decide +kernel
theorem dX6_pitches_20 : decode cX6_pitches 20 = .ok (.iinc 2 1, 3) := by decide +kernel
theorem dX6_pitches_23 : decode cX6_pitches 23 = .ok (.goto (-19), 3) := by decide +kernel
theorem dX6_pitches_26 : decode cX6_pitches 26 = .ok (.iload_n 1, 1) := by decide +kernel
theorem dX6_pitches_27 : decode cX6_pitches 27 = .ok (.ireturn, 1) := by decide +kernel
set_option maxRecDepth 20000 in
theorem ggX6_isGood_X6_part : GoodIn wsX6_isGood wsX6_part := goodIn_r _ [7, 2, 1, 8, 9, 10, 6, 11, 12, 13, 14, 15, 16, 17, 18, 19, 32, 33, 34, 35, 36, 37, 38, 39, 40, 41, 42, 43, 44, 45, 46] (by decide +kernel) (by decide +kernel)
set_option maxRecDepth 20000 in
theorem gX6_isGood_X6_part : GoodIn wsX6_isGood (wsV RX6 85 RX6 yX6_part wsX6_part) := goodIn_app (goodIn_of _ (by decide +kernel)) ggX6_isGood_X6_part
set_option maxRecDepth 20000 in
theorem ggX6_isGood_X6_all : GoodIn wsX6_isGood wsX6_all := goodIn_r _ [23, 12, 13, 14, 6, 15, 2, 16, 17, 18, 19, 32, 33, 34, 35, 36, 37, 38, 39, 40, 41, 42, 43, 44, 45, 46] (by decide +kernel) (by decide +kernel)
set_option maxRecDepth 20000 in
theorem gX6_isGood_X6_all : GoodIn wsX6_isGood (wsV RX6 95 RX6 yX6_all wsX6_all) := goodIn_app (goodIn_of _ (by decide +kernel)) ggX6_isGood_X6_all
set_option maxRecDepth 20000 in
theorem ggX6_isGood_X6_links : GoodIn wsX6_isGood wsX6_links := goodIn_r _ [27, 2, 1, 8, 9, 10, 6, 11, 12, 13, 14, 15, 16, 17, 18, 19, 32, 33, 34, 35, 36, 37, 38, 39, 40, 41, 42, 43, 44, 45, 46] (by decide +kernel) (by decide +kernel)
set_option maxRecDepth 20000 in
theorem gX6_isGood_X6_links : GoodIn wsX6_isGood (wsV RX6 88 RX6 yX6_links wsX6_links) := goodIn_app (goodIn_of _ (by decide +kernel)) ggX6_isGood_X6_links
set_option maxRecDepth 20000 in
theorem ggX6_isGood_X6_carrier : GoodIn wsX6_isGood wsX6_carrier := goodIn_r _ [11, 2, 12, 13, 14, 6, 15, 16, 17, 18, 19, 32, 33, 34, 35, 36, 37, 38, 39, 40, 41, 42, 43, 44, 45, 46] (by decide +kernel) (by decide +kernel)
set_option maxRecDepth 20000 in
theorem gX6_isGood_X6_carrier : GoodIn wsX6_isGood (wsV RX6 71 RX6 yX6_carrier wsX6_carrier) := goodIn_app (goodIn_of _ (by decide +kernel)) ggX6_isGood_X6_carrier
set_option maxRecDepth 20000 in
theorem ggX6_isGood_X6_many : GoodIn wsX6_isGood wsX6_many := goodIn_r _ [15, 2, 32, 33, 34, 35, 36, 37, 38, 39, 40, 41, 42, 43, 44, 45, 46] (by decide +kernel) (by decide +kernel)
set_option maxRecDepth 20000 in
theorem gX6_isGood_X6_many : GoodIn wsX6_isGood (wsV RX6 52 RX6 yX6_many wsX6_many) := goodIn_app (goodIn_of _ (by decide +kernel)) ggX6_isGood_X6_many
set_option maxRecDepth 20000 in
theorem ggX6_isGood_X6_ofOp : GoodIn wsX6_isGood wsX6_ofOp := goodIn_r _ [31, 2, 32, 33, 34, 35, 36, 37, 38, 39, 40, 41, 42, 43, 44, 45, 46] (by decide +kernel) (by decide +kernel)
set_option maxRecDepth 20000 in
theorem gX6_isGood_X6_ofOp : GoodIn wsX6_isGood (wsV RX6 77 RX6 yX6_ofOp wsX6_ofOp) := goodIn_app (goodIn_of _ (by decide +kernel)) ggX6_isGood_X6_ofOp
theorem dX6_isGood_0 : decode cX6_isGood 0 = .ok (.aload_n 0, 1) := by decide +kernel
theorem dX6_isGood_1 : decode cX6_isGood 1 = .ok (.invokevirtual 85, 3) := by decide +kernel
theorem dX6_isGood_4 : decode cX6_isGood 4 = .ok (.lstore_n 2, 1) := by decide +kernel
theorem dX6_isGood_5 : decode cX6_isGood 5 = .ok (.aload_n 0, 1) := by decide +kernel
theorem dX6_isGood_6 : decode cX6_isGood 6 = .ok (.invokevirtual 95, 3) := by decide +kernel
theorem dX6_isGood_9 : decode cX6_isGood 9 = .ok (.lload_n 2, 1) := by decide +kernel
theorem dX6_isGood_10 : decode cX6_isGood 10 = .ok (.ldc2_w 75, 3) := by decide +kernel
theorem dX6_isGood_13 : decode cX6_isGood 13 = .ok (.lxor, 1) := by decide +kernel
theorem dX6_isGood_14 : decode cX6_isGood 14 = .ok (.land, 1) := by decide +kernel
theorem dX6_isGood_15 : decode cX6_isGood 15 = .ok (.aload_n 0, 1) := by decide +kernel
theorem dX6_isGood_16 : decode cX6_isGood 16 = .ok (.invokevirtual 88, 3) := by decide +kernel
theorem dX6_isGood_19 : decode cX6_isGood 19 = .ok (.ldc2_w 75, 3) := by decide +kernel
theorem dX6_isGood_22 : decode cX6_isGood 22 = .ok (.lxor, 1) := by decide +kernel
theorem dX6_isGood_23 : decode cX6_isGood 23 = .ok (.land, 1) := by decide +kernel
theorem dX6_isGood_24 : decode cX6_isGood 24 = .ok (.aload_n 0, 1) := by decide +kernel
theorem dX6_isGood_25 : decode cX6_isGood 25 = .ok (.invokevirtual 71, 3) := by decide +kernel
theorem dX6_isGood_28 : decode cX6_isGood 28 = .ok (.ldc2_w 75, 3) := by decide +kernel
theorem dX6_isGood_31 : decode cX6_isGood 31 = .ok (.lxor, 1) := by decide +kernel
theorem dX6_isGood_32 : decode cX6_isGood 32 = .ok (.land, 1) := by decide +kernel
theorem dX6_isGood_33 : decode cX6_isGood 33 = .ok (.lstore 4, 2) := by decide +kernel
theorem dX6_isGood_35 : decode cX6_isGood 35 = .ok (.iconst 0, 1) := by decide +kernel
theorem dX6_isGood_36 : decode cX6_isGood 36 = .ok (.istore 6, 2) := by decide +kernel
theorem dX6_isGood_38 : decode cX6_isGood 38 = .ok (.iconst 0, 1) := by decide +kernel
theorem dX6_isGood_39 : decode cX6_isGood 39 = .ok (.istore 7, 2) := by decide +kernel
theorem dX6_isGood_41 : decode cX6_isGood 41 = .ok (.iload 7, 2) := by decide +kernel
theorem dX6_isGood_43 : decode cX6_isGood 43 = .ok (.aload_n 0, 1) := by decide +kernel
theorem dX6_isGood_44 : decode cX6_isGood 44 = .ok (.bipush 8, 2) := by decide +kernel
theorem dX6_isGood_46 : decode cX6_isGood 46 = .ok (.invokevirtual 52, 3) := by decide +kernel
theorem dX6_isGood_49 : decode cX6_isGood 49 = .ok (.if_icmp .ge 33, 3) := by decide +kernel
theorem dX6_isGood_52 : decode cX6_isGood 52 = .ok (.iload 6, 2) := by decide +kernel
theorem dX6_isGood_54 : decode cX6_isGood 54 = .ok (.aload_n 0, 1) := by decide +kernel
theorem dX6_isGood_55 : decode cX6_isGood 55 = .ok (.iload 7, 2) := by decide +kernel
theorem dX6_isGood_57 : decode cX6_isGood 57 = .ok (.iconst 0, 1) := by decide +kernel
theorem dX6_isGood_58 : decode cX6_isGood 58 = .ok (.invokevirtual 77, 3) := by decide +kernel
theorem dX6_isGood_61 : decode cX6_isGood 61 = .ok (.iconst 1, 1) := by decide +kernel
theorem dX6_isGood_62 : decode cX6_isGood 62 = .ok (.if_icmp .ne 10, 3) := by decide +kernel
theorem dX6_isGood_65 : decode cX6_isGood 65 = .ok (.iconst 1, 1) := by decide +kernel
theorem dX6_isGood_66 : decode cX6_isGood 66 = .ok (.iload 7, 2) := by decide +kernel
theorem dX6_isGood_68 : decode cX6_isGood 68 = .ok (.ishl, 1) := by decide +kernel
theorem dX6_isGood_69 : decode cX6_isGood 69 = .ok (.goto 4, 3) := by decide +kernel
theorem dX6_isGood_72 : decode cX6_isGood 72 = .ok (.iconst 0, 1) := by decide +kernel
theorem dX6_isGood_73 : decode cX6_isGood 73 = .ok (.ior, 1) := by decide +kernel
theorem dX6_isGood_74 : decode cX6_isGood 74 = .ok (.istore 6, 2) := by decide +kernel
theorem dX6_isGood_76 : decode cX6_isGood 76 = .ok (.iinc 7 1, 3) := by decide +kernel
theorem dX6_isGood_79 : decode cX6_isGood 79 = .ok (.goto (-38), 3) := by decide +kernel
theorem dX6_isGood_82 : decode cX6_isGood 82 = .ok (.lload_n 2, 1) := by decide +kernel
theorem dX6_isGood_83 : decode cX6_isGood 83 = .ok (.aload_n 0, 1) := by decide +kernel
theorem dX6_isGood_84 : decode cX6_isGood 84 = .ok (.getfield 7, 3) := by decide +kernel
theorem dX6_isGood_87 : decode cX6_isGood 87 = .ok (.iload_n 1, 1) := by decide +kernel
theorem dX6_isGood_88 : decode cX6_isGood 88 = .ok (.iconst 1, 1) := by decide +kernel
theorem dX6_isGood_89 : decode cX6_isGood 89 = .ok (.iadd, 1) := by decide +kernel
theorem dX6_isGood_90 : decode cX6_isGood 90 = .ok (.laload, 1) := by decide +kernel
theorem dX6_isGood_91 : decode cX6_isGood 91 = .ok (.ldc2_w 75, 3) := by decide +kernel
theorem dX6_isGood_94 : decode cX6_isGood 94 = .ok (.lxor, 1) := by decide +kernel
theorem dX6_isGood_95 : decode cX6_isGood 95 = .ok (.land, 1) := by decide +kernel
theorem dX6_isGood_96 : decode cX6_isGood 96 = .ok (.lconst 0, 1) := by decide +kernel
theorem dX6_isGood_97 : decode cX6_isGood 97 = .ok (.lcmp, 1) := by decide +kernel
theorem dX6_isGood_98 : decode cX6_isGood 98 = .ok (.ifCond .ne 23, 3) := by decide +kernel
theorem dX6_isGood_101 : decode cX6_isGood 101 = .ok (.lload 4, 2) := by decide +kernel
theorem dX6_isGood_103 : decode cX6_isGood 103 = .ok (.aload_n 0, 1) := by decide +kernel
theorem dX6_isGood_104 : decode cX6_isGood 104 = .ok (.getfield 7, 3) := by decide +kernel
theorem dX6_isGood_107 : decode cX6_isGood 107 = .ok (.iload_n 1, 1) := by decide +kernel
theorem dX6_isGood_108 : decode cX6_isGood 108 = .ok (.iconst 1, 1) := by decide +kernel
theorem dX6_isGood_109 : decode cX6_isGood 109 = .ok (.iadd, 1) := by decide +kernel
theorem dX6_isGood_110 : decode cX6_isGood 110 = .ok (.laload, 1) := by decide +kernel
theorem dX6_isGood_111 : decode cX6_isGood 111 = .ok (.land, 1) := by decide +kernel
theorem dX6_isGood_112 : decode cX6_isGood 112 = .ok (.lconst 0, 1) := by decide +kernel
theorem dX6_isGood_113 : decode cX6_isGood 113 = .ok (.lcmp, 1) := by decide +kernel
theorem dX6_isGood_114 : decode cX6_isGood 114 = .ok (.ifCond .ne 7, 3) := by decide +kernel
theorem dX6_isGood_117 : decode cX6_isGood 117 = .ok (.iconst 1, 1) := by decide +kernel
theorem dX6_isGood_118 : decode cX6_isGood 118 = .ok (.goto 4, 3) := by decide +kernel
theorem dX6_isGood_121 : decode cX6_isGood 121 = .ok (.iconst 0, 1) := by decide +kernel
theorem dX6_isGood_122 : decode cX6_isGood 122 = .ok (.istore 7, 2) := by decide +kernel
theorem dX6_isGood_124 : decode cX6_isGood 124 = .ok (.aload_n 0, 1) := by decide +kernel
theorem dX6_isGood_125 : decode cX6_isGood 125 = .ok (.getfield 7, 3) := by decide +kernel
theorem dX6_isGood_128 : decode cX6_isGood 128 = .ok (.iload_n 1, 1) := by decide +kernel
theorem dX6_isGood_129 : decode cX6_isGood 129 = .ok (.iconst 4, 1) := by decide +kernel
theorem dX6_isGood_130 : decode cX6_isGood 130 = .ok (.iadd, 1) := by decide +kernel
theorem dX6_isGood_131 : decode cX6_isGood 131 = .ok (.laload, 1) := by decide +kernel
theorem dX6_isGood_132 : decode cX6_isGood 132 = .ok (.lconst 0, 1) := by decide +kernel
theorem dX6_isGood_133 : decode cX6_isGood 133 = .ok (.lcmp, 1) := by decide +kernel
theorem dX6_isGood_134 : decode cX6_isGood 134 = .ok (.ifCond .ne 33, 3) := by decide +kernel
theorem dX6_isGood_137 : decode cX6_isGood 137 = .ok (.iload 7, 2) := by decide +kernel
theorem dX6_isGood_139 : decode cX6_isGood 139 = .ok (.ifCond .eq 28, 3) := by decide +kernel
theorem dX6_isGood_142 : decode cX6_isGood 142 = .ok (.iload 6, 2) := by decide +kernel
theorem dX6_isGood_144 : decode cX6_isGood 144 = .ok (.i2l, 1) := by decide +kernel
theorem dX6_isGood_145 : decode cX6_isGood 145 = .ok (.aload_n 0, 1) := by decide +kernel
theorem dX6_isGood_146 : decode cX6_isGood 146 = .ok (.getfield 7, 3) := by decide +kernel
theorem dX6_isGood_149 : decode cX6_isGood 149 = .ok (.iload_n 1, 1) := by decide +kernel
theorem dX6_isGood_150 : decode cX6_isGood 150 = .ok (.iconst 2, 1) := by decide +kernel
theorem dX6_isGood_151 : decode cX6_isGood 151 = .ok (.iadd, 1) := by decide +kernel
theorem dX6_isGood_152 : decode cX6_isGood 152 = .ok (.laload, 1) := by decide +kernel
theorem dX6_isGood_153 : decode cX6_isGood 153 = .ok (.ldc2_w 75, 3) := by decide +kernel
theorem dX6_isGood_156 : decode cX6_isGood 156 = .ok (.lxor, 1) := by decide +kernel
theorem dX6_isGood_157 : decode cX6_isGood 157 = .ok (.land, 1) := by decide +kernel
theorem dX6_isGood_158 : decode cX6_isGood 158 = .ok (.lconst 0, 1) := by decide +kernel
theorem dX6_isGood_159 : decode cX6_isGood 159 = .ok (.lcmp, 1) := by decide +kernel
theorem dX6_isGood_160 : decode cX6_isGood 160 = .ok (.ifCond .ne 7, 3) := by decide +kernel
theorem dX6_isGood_163 : decode cX6_isGood 163 = .ok (.iconst 1, 1) := by decide +kernel
theorem dX6_isGood_164 : decode cX6_isGood 164 = .ok (.goto 4, 3) := by decide +kernel
theorem dX6_isGood_167 : decode cX6_isGood 167 = .ok (.iconst 0, 1) := by decide +kernel
theorem dX6_isGood_168 : decode cX6_isGood 168 = .ok (.ireturn, 1) := by decide +kernel
theorem dX6_empties_0 : decode cX6_empties 0 = .ok (.iconst 0, 1) := by decide +kernel
theorem dX6_empties_1 : decode cX6_empties 1 = .ok (.istore_n 2, 1) := by decide +kernel
theorem dX6_empties_2 : decode cX6_empties 2 = .ok (.iload_n 2, 1) := by decide +kernel
theorem dX6_empties_3 : decode cX6_empties 3 = .ok (.iconst 5, 1) := by decide +kernel
theorem dX6_empties_4 : decode cX6_empties 4 = .ok (.if_icmp .ge 18, 3) := by decide +kernel
theorem dX6_empties_7 : decode cX6_empties 7 = .ok (.aload_n 0, 1) := by decide +kernel
theorem dX6_empties_8 : decode cX6_empties 8 = .ok (.getfield 7, 3) := by decide +kernel
theorem dX6_empties_11 : decode cX6_empties 11 = .ok (.iload_n 1, 1) := by decide +kernel
theorem dX6_empties_12 : decode cX6_empties 12 = .ok (.iload_n 2, 1) := by decide +kernel
theorem dX6_empties_13 : decode cX6_empties 13 = .ok (.iadd, 1) := by decide +kernel
theorem dX6_empties_14 : decode cX6_empties 14 = .ok (.lconst 0, 1) := by decide +kernel
theorem dX6_empties_15 : decode cX6_empties 15 = .ok (.lastore, 1) := by decide +kernel
theorem dX6_empties_16 : decode cX6_empties 16 = .ok (.iinc 2 1, 3) := by decide +kernel
theorem dX6_empties_19 : decode cX6_empties 19 = .ok (.goto (-17), 3) := by decide +kernel
theorem dX6_empties_22 : decode cX6_empties 22 = .ok (.return_, 1) := by decide +kernel
set_option maxRecDepth 20000 in
theorem ggX6_leaves_X6_isGood : GoodIn wsX6_leaves wsX6_isGood := goodIn_r _ [6, 7, 1, 8, 9, 10, 5, 11, 12, 13, 14, 15, 16, 17, 18, 19, 20, 21, 22, 23, 24, 25, 26, 27, 28, 29, 30, 31, 32, 33, 34, 35, 40, 41, 42, 43, 44, 45, 46, 47, 48, 49, 50, 51, 52, 53, 54] (by decide +kernel) (by decide +kernel)
set_option maxRecDepth 20000 in
theorem gX6_leaves_X6_isGood : GoodIn wsX6_leaves (wsV RX6 167 RX6 yX6_isGood wsX6_isGood) := goodIn_app (goodIn_of _ (by decide +kernel)) ggX6_leaves_X6_isGood
set_option maxRecDepth 20000 in
theorem ggX6_leaves_X6_empties : GoodIn wsX6_leaves wsX6_empties := goodIn_r _ [39, 1, 40, 41, 42, 43, 44, 45, 46, 47, 48, 49, 50, 51, 52, 53, 54] (by decide +kernel) (by decide +kernel)
set_option maxRecDepth 20000 in
theorem gX6_leaves_X6_empties : GoodIn wsX6_leaves (wsV RX6 170 RX6 yX6_empties wsX6_empties) := goodIn_app (goodIn_of _ (by decide +kernel)) ggX6_leaves_X6_empties
theorem dX6_leaves_0 : decode cX6_leaves 0 = .ok (.aload_n 0, 1) := by decide +kernel
theorem dX6_leaves_1 : decode cX6_leaves 1 = .ok (.iload_n 1, 1) := by decide +kernel
theorem dX6_leaves_2 : decode cX6_leaves 2 = .ok (.invokevirtual 167, 3) := by decide +kernel
theorem dX6_leaves_5 : decode cX6_leaves 5 = .ok (.istore_n 2, 1) := by decide +kernel
theorem dX6_leaves_6 : decode cX6_leaves 6 = .ok (.aload_n 0, 1) := by decide +kernel
theorem dX6_leaves_7 : decode cX6_leaves 7 = .ok (.getfield 7, 3) := by decide +kernel
theorem dX6_leaves_10 : decode cX6_leaves 10 = .ok (.iload_n 2, 1) := by decide +kernel
theorem dX6_leaves_11 : decode cX6_leaves 11 = .ok (.ifCond .eq 8, 3) := by decide +kernel
theorem dX6_leaves_14 : decode cX6_leaves 14 = .ok (.bipush 10, 2) := by decide +kernel
theorem dX6_leaves_16 : decode cX6_leaves 16 = .ok (.goto 5, 3) := by decide +kernel
theorem dX6_leaves_19 : decode cX6_leaves 19 = .ok (.bipush 11, 2) := by decide +kernel
theorem dX6_leaves_21 : decode cX6_leaves 21 = .ok (.dup2, 1) := by decide +kernel
theorem dX6_leaves_22 : decode cX6_leaves 22 = .ok (.laload, 1) := by decide +kernel
theorem dX6_leaves_23 : decode cX6_leaves 23 = .ok (.lconst 1, 1) := by decide +kernel
theorem dX6_leaves_24 : decode cX6_leaves 24 = .ok (.ladd, 1) := by decide +kernel
theorem dX6_leaves_25 : decode cX6_leaves 25 = .ok (.lastore, 1) := by decide +kernel
theorem dX6_leaves_26 : decode cX6_leaves 26 = .ok (.aload_n 0, 1) := by decide +kernel
theorem dX6_leaves_27 : decode cX6_leaves 27 = .ok (.iload_n 1, 1) := by decide +kernel
theorem dX6_leaves_28 : decode cX6_leaves 28 = .ok (.invokevirtual 170, 3) := by decide +kernel
theorem dX6_leaves_31 : decode cX6_leaves 31 = .ok (.iload_n 2, 1) := by decide +kernel
theorem dX6_leaves_32 : decode cX6_leaves 32 = .ok (.ireturn, 1) := by decide +kernel
set_option maxRecDepth 20000 in
theorem ggX6_works_X6_opsAt : GoodIn wsX6_works wsX6_opsAt := goodIn_r _ [7, 8, 9, 10, 6, 11, 1, 12, 13, 14, 15, 27, 28, 29, 30, 31, 32, 33, 34, 35, 36, 37, 38, 39, 40, 41] (by decide +kernel) (by decide +kernel)
set_option maxRecDepth 20000 in
theorem gX6_works_X6_opsAt : GoodIn wsX6_works (wsV RX6 149 RX6 yX6_opsAt wsX6_opsAt) := goodIn_app (goodIn_of _ (by decide +kernel)) ggX6_works_X6_opsAt
