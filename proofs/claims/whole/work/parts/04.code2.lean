theorem dX6_cellSet_8 : decode cX6_cellSet 8 = .ok (.invokestatic 56, 3) := by decide +kernel
theorem dX6_cellSet_11 : decode cX6_cellSet 11 = .ok (.ifCond .eq 11, 3) := by decide +kernel
theorem dX6_cellSet_14 : decode cX6_cellSet 14 = .ok (.aload_n 0, 1) := by decide +kernel
theorem dX6_cellSet_15 : decode cX6_cellSet 15 = .ok (.iload_n 1, 1) := by decide +kernel
theorem dX6_cellSet_16 : decode cX6_cellSet 16 = .ok (.invokevirtual 107, 3) := by decide +kernel
theorem dX6_cellSet_19 : decode cX6_cellSet 19 = .ok (.goto 9, 3) := by decide +kernel
theorem dX6_cellSet_22 : decode cX6_cellSet 22 = .ok (.aload_n 0, 1) := by decide +kernel
theorem dX6_cellSet_23 : decode cX6_cellSet 23 = .ok (.iconst 1, 1) := by decide +kernel
theorem dX6_cellSet_24 : decode cX6_cellSet 24 = .ok (.invokevirtual 110, 3) := by decide +kernel
theorem dX6_cellSet_27 : decode cX6_cellSet 27 = .ok (.i2l, 1) := by decide +kernel
theorem dX6_cellSet_28 : decode cX6_cellSet 28 = .ok (.lreturn, 1) := by decide +kernel
theorem dX6_begin_0 : decode cX6_begin 0 = .ok (.aload_n 0, 1) := by decide +kernel
theorem dX6_begin_1 : decode cX6_begin 1 = .ok (.iconst 0, 1) := by decide +kernel
theorem dX6_begin_2 : decode cX6_begin 2 = .ok (.putfield 48, 3) := by decide +kernel
theorem dX6_begin_5 : decode cX6_begin 5 = .ok (.iload_n 1, 1) := by decide +kernel
theorem dX6_begin_6 : decode cX6_begin 6 = .ok (.iconst 2, 1) := by decide +kernel
theorem dX6_begin_7 : decode cX6_begin 7 = .ok (.bipush 10, 2) := by decide +kernel
theorem dX6_begin_9 : decode cX6_begin 9 = .ok (.invokestatic 56, 3) := by decide +kernel
theorem dX6_begin_12 : decode cX6_begin 12 = .ok (.ifCond .eq 13, 3) := by decide +kernel
theorem dX6_begin_15 : decode cX6_begin 15 = .ok (.iload_n 2, 1) := by decide +kernel
theorem dX6_begin_16 : decode cX6_begin 16 = .ok (.iconst 2, 1) := by decide +kernel
theorem dX6_begin_17 : decode cX6_begin 17 = .ok (.bipush 6, 2) := by decide +kernel
theorem dX6_begin_19 : decode cX6_begin 19 = .ok (.invokestatic 56, 3) := by decide +kernel
theorem dX6_begin_22 : decode cX6_begin 22 = .ok (.ifCond .ne 9, 3) := by decide +kernel
theorem dX6_begin_25 : decode cX6_begin 25 = .ok (.aload_n 0, 1) := by decide +kernel
theorem dX6_begin_26 : decode cX6_begin 26 = .ok (.iconst 1, 1) := by decide +kernel
theorem dX6_begin_27 : decode cX6_begin 27 = .ok (.invokevirtual 110, 3) := by decide +kernel
theorem dX6_begin_30 : decode cX6_begin 30 = .ok (.ireturn, 1) := by decide +kernel
theorem dX6_begin_31 : decode cX6_begin 31 = .ok (.aload_n 0, 1) := by decide +kernel
theorem dX6_begin_32 : decode cX6_begin 32 = .ok (.invokevirtual 113, 3) := by decide +kernel
theorem dX6_begin_35 : decode cX6_begin 35 = .ok (.aload_n 0, 1) := by decide +kernel
theorem dX6_begin_36 : decode cX6_begin 36 = .ok (.bipush 8, 2) := by decide +kernel
theorem dX6_begin_38 : decode cX6_begin 38 = .ok (.invokevirtual 52, 3) := by decide +kernel
theorem dX6_begin_41 : decode cX6_begin 41 = .ok (.istore_n 3, 1) := by decide +kernel
theorem dX6_begin_42 : decode cX6_begin 42 = .ok (.aload_n 0, 1) := by decide +kernel
theorem dX6_begin_43 : decode cX6_begin 43 = .ok (.getfield 7, 3) := by decide +kernel
theorem dX6_begin_46 : decode cX6_begin 46 = .ok (.iconst 0, 1) := by decide +kernel
theorem dX6_begin_47 : decode cX6_begin 47 = .ok (.iload_n 1, 1) := by decide +kernel
theorem dX6_begin_48 : decode cX6_begin 48 = .ok (.i2l, 1) := by decide +kernel
theorem dX6_begin_49 : decode cX6_begin 49 = .ok (.lastore, 1) := by decide +kernel
theorem dX6_begin_50 : decode cX6_begin 50 = .ok (.aload_n 0, 1) := by decide +kernel
theorem dX6_begin_51 : decode cX6_begin 51 = .ok (.getfield 7, 3) := by decide +kernel
theorem dX6_begin_54 : decode cX6_begin 54 = .ok (.iconst 1, 1) := by decide +kernel
theorem dX6_begin_55 : decode cX6_begin 55 = .ok (.iload_n 2, 1) := by decide +kernel
theorem dX6_begin_56 : decode cX6_begin 56 = .ok (.i2l, 1) := by decide +kernel
theorem dX6_begin_57 : decode cX6_begin 57 = .ok (.lastore, 1) := by decide +kernel
theorem dX6_begin_58 : decode cX6_begin 58 = .ok (.bipush 8, 2) := by decide +kernel
theorem dX6_begin_60 : decode cX6_begin 60 = .ok (.istore 4, 2) := by decide +kernel
theorem dX6_begin_62 : decode cX6_begin 62 = .ok (.iload 4, 2) := by decide +kernel
theorem dX6_begin_64 : decode cX6_begin 64 = .ok (.bipush 100, 2) := by decide +kernel
theorem dX6_begin_66 : decode cX6_begin 66 = .ok (.if_icmp .ge 17, 3) := by decide +kernel
theorem dX6_begin_69 : decode cX6_begin 69 = .ok (.aload_n 0, 1) := by decide +kernel
theorem dX6_begin_70 : decode cX6_begin 70 = .ok (.getfield 7, 3) := by decide +kernel
theorem dX6_begin_73 : decode cX6_begin 73 = .ok (.iload 4, 2) := by decide +kernel
theorem dX6_begin_75 : decode cX6_begin 75 = .ok (.lconst 0, 1) := by decide +kernel
theorem dX6_begin_76 : decode cX6_begin 76 = .ok (.lastore, 1) := by decide +kernel
theorem dX6_begin_77 : decode cX6_begin 77 = .ok (.iinc 4 1, 3) := by decide +kernel
theorem dX6_begin_80 : decode cX6_begin 80 = .ok (.goto (-18), 3) := by decide +kernel
theorem dX6_begin_83 : decode cX6_begin 83 = .ok (.iload_n 3, 1) := by decide +kernel
theorem dX6_begin_84 : decode cX6_begin 84 = .ok (.ireturn, 1) := by decide +kernel
theorem dX6_mark_0 : decode cX6_mark 0 = .ok (.aload_n 0, 1) := by decide +kernel
theorem dX6_mark_1 : decode cX6_mark 1 = .ok (.iconst 0, 1) := by decide +kernel
theorem dX6_mark_2 : decode cX6_mark 2 = .ok (.putfield 48, 3) := by decide +kernel
theorem dX6_mark_5 : decode cX6_mark 5 = .ok (.aload_n 0, 1) := by decide +kernel
theorem dX6_mark_6 : decode cX6_mark 6 = .ok (.iload_n 1, 1) := by decide +kernel
theorem dX6_mark_7 : decode cX6_mark 7 = .ok (.iload_n 2, 1) := by decide +kernel
theorem dX6_mark_8 : decode cX6_mark 8 = .ok (.iload_n 3, 1) := by decide +kernel
theorem dX6_mark_9 : decode cX6_mark 9 = .ok (.iload 4, 2) := by decide +kernel
theorem dX6_mark_11 : decode cX6_mark 11 = .ok (.invokevirtual 116, 3) := by decide +kernel
theorem dX6_mark_14 : decode cX6_mark 14 = .ok (.ifCond .eq 13, 3) := by decide +kernel
theorem dX6_mark_17 : decode cX6_mark 17 = .ok (.iload 5, 2) := by decide +kernel
theorem dX6_mark_19 : decode cX6_mark 19 = .ok (.iconst 0, 1) := by decide +kernel
theorem dX6_mark_20 : decode cX6_mark 20 = .ok (.iconst 2, 1) := by decide +kernel
theorem dX6_mark_21 : decode cX6_mark 21 = .ok (.invokestatic 56, 3) := by decide +kernel
theorem dX6_mark_24 : decode cX6_mark 24 = .ok (.ifCond .ne 9, 3) := by decide +kernel
theorem dX6_mark_27 : decode cX6_mark 27 = .ok (.aload_n 0, 1) := by decide +kernel
theorem dX6_mark_28 : decode cX6_mark 28 = .ok (.iconst 1, 1) := by decide +kernel
theorem dX6_mark_29 : decode cX6_mark 29 = .ok (.invokevirtual 110, 3) := by decide +kernel
theorem dX6_mark_32 : decode cX6_mark 32 = .ok (.ireturn, 1) := by decide +kernel
theorem dX6_mark_33 : decode cX6_mark 33 = .ok (.aload_n 0, 1) := by decide +kernel
theorem dX6_mark_34 : decode cX6_mark 34 = .ok (.invokevirtual 113, 3) := by decide +kernel
theorem dX6_mark_37 : decode cX6_mark 37 = .ok (.aload_n 0, 1) := by decide +kernel
theorem dX6_mark_38 : decode cX6_mark 38 = .ok (.iload_n 1, 1) := by decide +kernel
theorem dX6_mark_39 : decode cX6_mark 39 = .ok (.iload_n 2, 1) := by decide +kernel
theorem dX6_mark_40 : decode cX6_mark 40 = .ok (.iload_n 3, 1) := by decide +kernel
theorem dX6_mark_41 : decode cX6_mark 41 = .ok (.iload 4, 2) := by decide +kernel
theorem dX6_mark_43 : decode cX6_mark 43 = .ok (.invokevirtual 67, 3) := by decide +kernel
theorem dX6_mark_46 : decode cX6_mark 46 = .ok (.lstore 6, 2) := by decide +kernel
theorem dX6_mark_48 : decode cX6_mark 48 = .ok (.iload 5, 2) := by decide +kernel
theorem dX6_mark_50 : decode cX6_mark 50 = .ok (.iconst 1, 1) := by decide +kernel
theorem dX6_mark_51 : decode cX6_mark 51 = .ok (.if_icmp .ne 13, 3) := by decide +kernel
theorem dX6_mark_54 : decode cX6_mark 54 = .ok (.aload_n 0, 1) := by decide +kernel
theorem dX6_mark_55 : decode cX6_mark 55 = .ok (.getfield 7, 3) := by decide +kernel
theorem dX6_mark_58 : decode cX6_mark 58 = .ok (.bipush 14, 2) := by decide +kernel
theorem dX6_mark_60 : decode cX6_mark 60 = .ok (.laload, 1) := by decide +kernel
theorem dX6_mark_61 : decode cX6_mark 61 = .ok (.goto 42, 3) := by decide +kernel
theorem dX6_mark_64 : decode cX6_mark 64 = .ok (.iload 5, 2) := by decide +kernel
theorem dX6_mark_66 : decode cX6_mark 66 = .ok (.iconst 2, 1) := by decide +kernel
theorem dX6_mark_67 : decode cX6_mark 67 = .ok (.if_icmp .ne 13, 3) := by decide +kernel
theorem dX6_mark_70 : decode cX6_mark 70 = .ok (.aload_n 0, 1) := by decide +kernel
theorem dX6_mark_71 : decode cX6_mark 71 = .ok (.getfield 7, 3) := by decide +kernel
theorem dX6_mark_74 : decode cX6_mark 74 = .ok (.bipush 15, 2) := by decide +kernel
theorem dX6_mark_76 : decode cX6_mark 76 = .ok (.laload, 1) := by decide +kernel
theorem dX6_mark_77 : decode cX6_mark 77 = .ok (.goto 26, 3) := by decide +kernel
theorem dX6_mark_80 : decode cX6_mark 80 = .ok (.aload_n 0, 1) := by decide +kernel
theorem dX6_mark_81 : decode cX6_mark 81 = .ok (.getfield 7, 3) := by decide +kernel
theorem dX6_mark_84 : decode cX6_mark 84 = .ok (.bipush 14, 2) := by decide +kernel
theorem dX6_mark_86 : decode cX6_mark 86 = .ok (.laload, 1) := by decide +kernel
theorem dX6_mark_87 : decode cX6_mark 87 = .ok (.ldc2_w 75, 3) := by decide +kernel
theorem dX6_mark_90 : decode cX6_mark 90 = .ok (.lxor, 1) := by decide +kernel
theorem dX6_mark_91 : decode cX6_mark 91 = .ok (.aload_n 0, 1) := by decide +kernel
theorem dX6_mark_92 : decode cX6_mark 92 = .ok (.getfield 7, 3) := by decide +kernel
theorem dX6_mark_95 : decode cX6_mark 95 = .ok (.bipush 15, 2) := by decide +kernel
theorem dX6_mark_97 : decode cX6_mark 97 = .ok (.laload, 1) := by decide +kernel
theorem dX6_mark_98 : decode cX6_mark 98 = .ok (.ldc2_w 75, 3) := by decide +kernel
theorem dX6_mark_101 : decode cX6_mark 101 = .ok (.lxor, 1) := by decide +kernel
theorem dX6_mark_102 : decode cX6_mark 102 = .ok (.land, 1) := by decide +kernel
theorem dX6_mark_103 : decode cX6_mark 103 = .ok (.lstore 8, 2) := by decide +kernel
theorem dX6_mark_105 : decode cX6_mark 105 = .ok (.aload_n 0, 1) := by decide +kernel
theorem dX6_mark_106 : decode cX6_mark 106 = .ok (.getfield 7, 3) := by decide +kernel
theorem dX6_mark_109 : decode cX6_mark 109 = .ok (.bipush 14, 2) := by decide +kernel
theorem dX6_mark_111 : decode cX6_mark 111 = .ok (.iload 5, 2) := by decide +kernel
theorem dX6_mark_113 : decode cX6_mark 113 = .ok (.iconst 1, 1) := by decide +kernel
theorem dX6_mark_114 : decode cX6_mark 114 = .ok (.if_icmp .ne 16, 3) := by decide +kernel
theorem dX6_mark_117 : decode cX6_mark 117 = .ok (.aload_n 0, 1) := by decide +kernel
theorem dX6_mark_118 : decode cX6_mark 118 = .ok (.getfield 7, 3) := by decide +kernel
theorem dX6_mark_121 : decode cX6_mark 121 = .ok (.bipush 14, 2) := by decide +kernel
theorem dX6_mark_123 : decode cX6_mark 123 = .ok (.laload, 1) := by decide +kernel
theorem dX6_mark_124 : decode cX6_mark 124 = .ok (.lload 6, 2) := by decide +kernel
theorem dX6_mark_126 : decode cX6_mark 126 = .ok (.lor, 1) := by decide +kernel
theorem dX6_mark_127 : decode cX6_mark 127 = .ok (.goto 17, 3) := by decide +kernel
theorem dX6_mark_130 : decode cX6_mark 130 = .ok (.aload_n 0, 1) := by decide +kernel
theorem dX6_mark_131 : decode cX6_mark 131 = .ok (.getfield 7, 3) := by decide +kernel
theorem dX6_mark_134 : decode cX6_mark 134 = .ok (.bipush 14, 2) := by decide +kernel
theorem dX6_mark_136 : decode cX6_mark 136 = .ok (.laload, 1) := by decide +kernel
theorem dX6_mark_137 : decode cX6_mark 137 = .ok (.lload 6, 2) := by decide +kernel
theorem dX6_mark_139 : decode cX6_mark 139 = .ok (.ldc2_w 75, 3) := by decide +kernel
theorem dX6_mark_142 : decode cX6_mark 142 = .ok (.lxor, 1) := by decide +kernel
theorem dX6_mark_143 : decode cX6_mark 143 = .ok (.land, 1) := by decide +kernel
theorem dX6_mark_144 : decode cX6_mark 144 = .ok (.lastore, 1) := by decide +kernel
theorem dX6_mark_145 : decode cX6_mark 145 = .ok (.aload_n 0, 1) := by decide +kernel
theorem dX6_mark_146 : decode cX6_mark 146 = .ok (.getfield 7, 3) := by decide +kernel
theorem dX6_mark_149 : decode cX6_mark 149 = .ok (.bipush 15, 2) := by decide +kernel
theorem dX6_mark_151 : decode cX6_mark 151 = .ok (.iload 5, 2) := by decide +kernel
theorem dX6_mark_153 : decode cX6_mark 153 = .ok (.iconst 2, 1) := by decide +kernel
theorem dX6_mark_154 : decode cX6_mark 154 = .ok (.if_icmp .ne 16, 3) := by decide +kernel
theorem dX6_mark_157 : decode cX6_mark 157 = .ok (.aload_n 0, 1) := by decide +kernel
theorem dX6_mark_158 : decode cX6_mark 158 = .ok (.getfield 7, 3) := by decide +kernel
theorem dX6_mark_161 : decode cX6_mark 161 = .ok (.bipush 15, 2) := by decide +kernel
theorem dX6_mark_163 : decode cX6_mark 163 = .ok (.laload, 1) := by decide +kernel
theorem dX6_mark_164 : decode cX6_mark 164 = .ok (.lload 6, 2) := by decide +kernel
theorem dX6_mark_166 : decode cX6_mark 166 = .ok (.lor, 1) := by decide +kernel
theorem dX6_mark_167 : decode cX6_mark 167 = .ok (.goto 17, 3) := by decide +kernel
theorem dX6_mark_170 : decode cX6_mark 170 = .ok (.aload_n 0, 1) := by decide +kernel
theorem dX6_mark_171 : decode cX6_mark 171 = .ok (.getfield 7, 3) := by decide +kernel
theorem dX6_mark_174 : decode cX6_mark 174 = .ok (.bipush 15, 2) := by decide +kernel
theorem dX6_mark_176 : decode cX6_mark 176 = .ok (.laload, 1) := by decide +kernel
theorem dX6_mark_177 : decode cX6_mark 177 = .ok (.lload 6, 2) := by decide +kernel
theorem dX6_mark_179 : decode cX6_mark 179 = .ok (.ldc2_w 75, 3) := by decide +kernel
theorem dX6_mark_182 : decode cX6_mark 182 = .ok (.lxor, 1) := by decide +kernel
theorem dX6_mark_183 : decode cX6_mark 183 = .ok (.land, 1) := by decide +kernel
theorem dX6_mark_184 : decode cX6_mark 184 = .ok (.lastore, 1) := by decide +kernel
theorem dX6_mark_185 : decode cX6_mark 185 = .ok (.lload 6, 2) := by decide +kernel
theorem dX6_mark_187 : decode cX6_mark 187 = .ok (.lload 8, 2) := by decide +kernel
theorem dX6_mark_189 : decode cX6_mark 189 = .ok (.ldc2_w 75, 3) := by decide +kernel
theorem dX6_mark_192 : decode cX6_mark 192 = .ok (.lxor, 1) := by decide +kernel
theorem dX6_mark_193 : decode cX6_mark 193 = .ok (.land, 1) := by decide +kernel
theorem dX6_mark_194 : decode cX6_mark 194 = .ok (.invokestatic 120, 3) := by decide +kernel
theorem dX6_mark_197 : decode cX6_mark 197 = .ok (.ireturn, 1) := by decide +kernel
theorem dX6_setCarrier_0 : decode cX6_setCarrier 0 = .ok (.aload_n 0, 1) := by decide +kernel
theorem dX6_setCarrier_1 : decode cX6_setCarrier 1 = .ok (.iconst 0, 1) := by decide +kernel
theorem dX6_setCarrier_2 : decode cX6_setCarrier 2 = .ok (.putfield 48, 3) := by decide +kernel
theorem dX6_setCarrier_5 : decode cX6_setCarrier 5 = .ok (.iload_n 1, 1) := by decide +kernel
theorem dX6_setCarrier_6 : decode cX6_setCarrier 6 = .ok (.iconst 0, 1) := by decide +kernel
theorem dX6_setCarrier_7 : decode cX6_setCarrier 7 = .ok (.iconst 2, 1) := by decide +kernel
theorem dX6_setCarrier_8 : decode cX6_setCarrier 8 = .ok (.invokestatic 56, 3) := by decide +kernel
theorem dX6_setCarrier_11 : decode cX6_setCarrier 11 = .ok (.ifCond .ne 9, 3) := by decide +kernel
theorem dX6_setCarrier_14 : decode cX6_setCarrier 14 = .ok (.aload_n 0, 1) := by decide +kernel
theorem dX6_setCarrier_15 : decode cX6_setCarrier 15 = .ok (.iconst 1, 1) := by decide +kernel
theorem dX6_setCarrier_16 : decode cX6_setCarrier 16 = .ok (.invokevirtual 110, 3) := by decide +kernel
theorem dX6_setCarrier_19 : decode cX6_setCarrier 19 = .ok (.ireturn, 1) := by decide +kernel
theorem dX6_setCarrier_20 : decode cX6_setCarrier 20 = .ok (.aload_n 0, 1) := by decide +kernel
theorem dX6_setCarrier_21 : decode cX6_setCarrier 21 = .ok (.invokevirtual 113, 3) := by decide +kernel
theorem dX6_setCarrier_24 : decode cX6_setCarrier 24 = .ok (.aload_n 0, 1) := by decide +kernel
theorem dX6_setCarrier_25 : decode cX6_setCarrier 25 = .ok (.iconst 2, 1) := by decide +kernel
theorem dX6_setCarrier_26 : decode cX6_setCarrier 26 = .ok (.invokevirtual 52, 3) := by decide +kernel
theorem dX6_setCarrier_29 : decode cX6_setCarrier 29 = .ok (.istore_n 2, 1) := by decide +kernel
theorem dX6_setCarrier_30 : decode cX6_setCarrier 30 = .ok (.aload_n 0, 1) := by decide +kernel
theorem dX6_setCarrier_31 : decode cX6_setCarrier 31 = .ok (.getfield 7, 3) := by decide +kernel
theorem dX6_setCarrier_34 : decode cX6_setCarrier 34 = .ok (.iconst 2, 1) := by decide +kernel
theorem dX6_setCarrier_35 : decode cX6_setCarrier 35 = .ok (.iload_n 1, 1) := by decide +kernel
theorem dX6_setCarrier_36 : decode cX6_setCarrier 36 = .ok (.i2l, 1) := by decide +kernel
theorem dX6_setCarrier_37 : decode cX6_setCarrier 37 = .ok (.lastore, 1) := by decide +kernel
theorem dX6_setCarrier_38 : decode cX6_setCarrier 38 = .ok (.iload_n 2, 1) := by decide +kernel
theorem dX6_setCarrier_39 : decode cX6_setCarrier 39 = .ok (.ireturn, 1) := by decide +kernel
theorem dX6_isSetting_0 : decode cX6_isSetting 0 = .ok (.iload_n 0, 1) := by decide +kernel
theorem dX6_isSetting_1 : decode cX6_isSetting 1 = .ok (.ifCond .ne 12, 3) := by decide +kernel
theorem dX6_isSetting_4 : decode cX6_isSetting 4 = .ok (.iload_n 1, 1) := by decide +kernel
theorem dX6_isSetting_5 : decode cX6_isSetting 5 = .ok (.iconst 1, 1) := by decide +kernel
theorem dX6_isSetting_6 : decode cX6_isSetting 6 = .ok (.sipush 999, 3) := by decide +kernel
theorem dX6_isSetting_9 : decode cX6_isSetting 9 = .ok (.invokestatic 56, 3) := by decide +kernel
theorem dX6_isSetting_12 : decode cX6_isSetting 12 = .ok (.ireturn, 1) := by decide +kernel
theorem dX6_isSetting_13 : decode cX6_isSetting 13 = .ok (.iload_n 0, 1) := by decide +kernel
theorem dX6_isSetting_14 : decode cX6_isSetting 14 = .ok (.iconst 1, 1) := by decide +kernel
theorem dX6_isSetting_15 : decode cX6_isSetting 15 = .ok (.iconst 4, 1) := by decide +kernel
theorem dX6_isSetting_16 : decode cX6_isSetting 16 = .ok (.invokestatic 56, 3) := by decide +kernel
theorem dX6_isSetting_19 : decode cX6_isSetting 19 = .ok (.ifCond .eq 36, 3) := by decide +kernel
theorem dX6_isSetting_22 : decode cX6_isSetting 22 = .ok (.iload_n 1, 1) := by decide +kernel
theorem dX6_isSetting_23 : decode cX6_isSetting 23 = .ok (.iconst 0, 1) := by decide +kernel
theorem dX6_isSetting_24 : decode cX6_isSetting 24 = .ok (.iload_n 0, 1) := by decide +kernel
theorem dX6_isSetting_25 : decode cX6_isSetting 25 = .ok (.iconst 1, 1) := by decide +kernel
theorem dX6_isSetting_26 : decode cX6_isSetting 26 = .ok (.if_icmp .ne 7, 3) := by decide +kernel
theorem dX6_isSetting_29 : decode cX6_isSetting 29 = .ok (.iconst 3, 1) := by decide +kernel
theorem dX6_isSetting_30 : decode cX6_isSetting 30 = .ok (.goto 15, 3) := by decide +kernel
theorem dX6_isSetting_33 : decode cX6_isSetting 33 = .ok (.iload_n 0, 1) := by decide +kernel
theorem dX6_isSetting_34 : decode cX6_isSetting 34 = .ok (.iconst 2, 1) := by decide +kernel
theorem dX6_isSetting_35 : decode cX6_isSetting 35 = .ok (.if_icmp .ne 8, 3) := by decide +kernel
theorem dX6_isSetting_38 : decode cX6_isSetting 38 = .ok (.bipush 9, 2) := by decide +kernel
theorem dX6_isSetting_40 : decode cX6_isSetting 40 = .ok (.goto 5, 3) := by decide +kernel
theorem dX6_isSetting_43 : decode cX6_isSetting 43 = .ok (.bipush 50, 2) := by decide +kernel
theorem dX6_isSetting_45 : decode cX6_isSetting 45 = .ok (.invokestatic 56, 3) := by decide +kernel
theorem dX6_isSetting_48 : decode cX6_isSetting 48 = .ok (.ifCond .eq 7, 3) := by decide +kernel
theorem dX6_isSetting_51 : decode cX6_isSetting 51 = .ok (.iconst 1, 1) := by decide +kernel
theorem dX6_isSetting_52 : decode cX6_isSetting 52 = .ok (.goto 4, 3) := by decide +kernel
theorem dX6_isSetting_55 : decode cX6_isSetting 55 = .ok (.iconst 0, 1) := by decide +kernel
theorem dX6_isSetting_56 : decode cX6_isSetting 56 = .ok (.ireturn, 1) := by decide +kernel
theorem dX6_set_0 : decode cX6_set 0 = .ok (.aload_n 0, 1) := by decide +kernel
theorem dX6_set_1 : decode cX6_set 1 = .ok (.iconst 0, 1) := by decide +kernel
theorem dX6_set_2 : decode cX6_set 2 = .ok (.putfield 48, 3) := by decide +kernel
theorem dX6_set_5 : decode cX6_set 5 = .ok (.iload_n 1, 1) := by decide +kernel
theorem dX6_set_6 : decode cX6_set 6 = .ok (.iload_n 2, 1) := by decide +kernel
theorem dX6_set_7 : decode cX6_set 7 = .ok (.invokestatic 124, 3) := by decide +kernel
theorem dX6_set_10 : decode cX6_set 10 = .ok (.ifCond .ne 9, 3) := by decide +kernel
theorem dX6_set_13 : decode cX6_set 13 = .ok (.aload_n 0, 1) := by decide +kernel
theorem dX6_set_14 : decode cX6_set 14 = .ok (.iconst 1, 1) := by decide +kernel
theorem dX6_set_15 : decode cX6_set 15 = .ok (.invokevirtual 110, 3) := by decide +kernel
theorem dX6_set_18 : decode cX6_set 18 = .ok (.ireturn, 1) := by decide +kernel
theorem dX6_set_19 : decode cX6_set 19 = .ok (.aload_n 0, 1) := by decide +kernel
theorem dX6_set_20 : decode cX6_set 20 = .ok (.invokevirtual 113, 3) := by decide +kernel
theorem dX6_set_23 : decode cX6_set 23 = .ok (.aload_n 0, 1) := by decide +kernel
theorem dX6_set_24 : decode cX6_set 24 = .ok (.iload_n 1, 1) := by decide +kernel
theorem dX6_set_25 : decode cX6_set 25 = .ok (.invokevirtual 128, 3) := by decide +kernel
theorem dX6_set_28 : decode cX6_set 28 = .ok (.istore_n 3, 1) := by decide +kernel
theorem dX6_set_29 : decode cX6_set 29 = .ok (.aload_n 0, 1) := by decide +kernel
theorem dX6_set_30 : decode cX6_set 30 = .ok (.getfield 7, 3) := by decide +kernel
theorem dX6_set_33 : decode cX6_set 33 = .ok (.iconst 3, 1) := by decide +kernel
theorem dX6_set_34 : decode cX6_set 34 = .ok (.iload_n 1, 1) := by decide +kernel
theorem dX6_set_35 : decode cX6_set 35 = .ok (.iadd, 1) := by decide +kernel
theorem dX6_set_36 : decode cX6_set 36 = .ok (.iload_n 2, 1) := by decide +kernel
theorem dX6_set_37 : decode cX6_set 37 = .ok (.i2l, 1) := by decide +kernel
theorem dX6_set_38 : decode cX6_set 38 = .ok (.lastore, 1) := by decide +kernel
theorem dX6_set_39 : decode cX6_set 39 = .ok (.iload_n 3, 1) := by decide +kernel
theorem dX6_set_40 : decode cX6_set 40 = .ok (.ireturn, 1) := by decide +kernel
theorem dX6_adds_0 : decode cX6_adds 0 = .ok (.aload_n 0, 1) := by decide +kernel
theorem dX6_adds_1 : decode cX6_adds 1 = .ok (.iload_n 2, 1) := by decide +kernel
theorem dX6_adds_2 : decode cX6_adds 2 = .ok (.iload_n 3, 1) := by decide +kernel
theorem dX6_adds_3 : decode cX6_adds 3 = .ok (.iload 4, 2) := by decide +kernel
theorem dX6_adds_5 : decode cX6_adds 5 = .ok (.iload 5, 2) := by decide +kernel
theorem dX6_adds_7 : decode cX6_adds 7 = .ok (.invokevirtual 116, 3) := by decide +kernel
theorem dX6_adds_10 : decode cX6_adds 10 = .ok (.ifCond .ne 9, 3) := by decide +kernel
theorem dX6_adds_13 : decode cX6_adds 13 = .ok (.aload_n 0, 1) := by decide +kernel
theorem dX6_adds_14 : decode cX6_adds 14 = .ok (.iconst 1, 1) := by decide +kernel
theorem dX6_adds_15 : decode cX6_adds 15 = .ok (.invokevirtual 110, 3) := by decide +kernel
theorem dX6_adds_18 : decode cX6_adds 18 = .ok (.ireturn, 1) := by decide +kernel
theorem dX6_adds_19 : decode cX6_adds 19 = .ok (.aload_n 0, 1) := by decide +kernel
theorem dX6_adds_20 : decode cX6_adds 20 = .ok (.getfield 7, 3) := by decide +kernel
theorem dX6_adds_23 : decode cX6_adds 23 = .ok (.bipush 8, 2) := by decide +kernel
theorem dX6_adds_25 : decode cX6_adds 25 = .ok (.laload, 1) := by decide +kernel
theorem dX6_adds_26 : decode cX6_adds 26 = .ok (.ldc2_w 38, 3) := by decide +kernel
theorem dX6_adds_29 : decode cX6_adds 29 = .ok (.lcmp, 1) := by decide +kernel
theorem dX6_adds_30 : decode cX6_adds 30 = .ok (.ifCond .ne 9, 3) := by decide +kernel
theorem dX6_adds_33 : decode cX6_adds 33 = .ok (.aload_n 0, 1) := by decide +kernel
theorem dX6_adds_34 : decode cX6_adds 34 = .ok (.iconst 2, 1) := by decide +kernel
theorem dX6_adds_35 : decode cX6_adds 35 = .ok (.invokevirtual 110, 3) := by decide +kernel
theorem dX6_adds_38 : decode cX6_adds 38 = .ok (.ireturn, 1) := by decide +kernel
theorem dX6_adds_39 : decode cX6_adds 39 = .ok (.aload_n 0, 1) := by decide +kernel
theorem dX6_adds_40 : decode cX6_adds 40 = .ok (.invokevirtual 113, 3) := by decide +kernel
theorem dX6_adds_43 : decode cX6_adds 43 = .ok (.bipush 20, 2) := by decide +kernel
theorem dX6_adds_45 : decode cX6_adds 45 = .ok (.bipush 6, 2) := by decide +kernel
theorem dX6_adds_47 : decode cX6_adds 47 = .ok (.aload_n 0, 1) := by decide +kernel
theorem dX6_adds_48 : decode cX6_adds 48 = .ok (.bipush 8, 2) := by decide +kernel
theorem dX6_adds_50 : decode cX6_adds 50 = .ok (.invokevirtual 52, 3) := by decide +kernel
theorem dX6_adds_53 : decode cX6_adds 53 = .ok (.imul, 1) := by decide +kernel
theorem dX6_adds_54 : decode cX6_adds 54 = .ok (.iadd, 1) := by decide +kernel
theorem dX6_adds_55 : decode cX6_adds 55 = .ok (.istore 6, 2) := by decide +kernel
theorem dX6_adds_57 : decode cX6_adds 57 = .ok (.aload_n 0, 1) := by decide +kernel
theorem dX6_adds_58 : decode cX6_adds 58 = .ok (.getfield 7, 3) := by decide +kernel
theorem dX6_adds_61 : decode cX6_adds 61 = .ok (.iload 6, 2) := by decide +kernel
theorem dX6_adds_63 : decode cX6_adds 63 = .ok (.iconst 0, 1) := by decide +kernel
theorem dX6_adds_64 : decode cX6_adds 64 = .ok (.iadd, 1) := by decide +kernel
theorem dX6_adds_65 : decode cX6_adds 65 = .ok (.iload_n 1, 1) := by decide +kernel
theorem dX6_adds_66 : decode cX6_adds 66 = .ok (.i2l, 1) := by decide +kernel
theorem dX6_adds_67 : decode cX6_adds 67 = .ok (.lastore, 1) := by decide +kernel
theorem dX6_adds_68 : decode cX6_adds 68 = .ok (.aload_n 0, 1) := by decide +kernel
theorem dX6_adds_69 : decode cX6_adds 69 = .ok (.getfield 7, 3) := by decide +kernel
theorem dX6_adds_72 : decode cX6_adds 72 = .ok (.iload 6, 2) := by decide +kernel
theorem dX6_adds_74 : decode cX6_adds 74 = .ok (.iconst 1, 1) := by decide +kernel
theorem dX6_adds_75 : decode cX6_adds 75 = .ok (.iadd, 1) := by decide +kernel
theorem dX6_adds_76 : decode cX6_adds 76 = .ok (.iload_n 2, 1) := by decide +kernel
theorem dX6_adds_77 : decode cX6_adds 77 = .ok (.i2l, 1) := by decide +kernel
theorem dX6_adds_78 : decode cX6_adds 78 = .ok (.lastore, 1) := by decide +kernel
theorem dX6_adds_79 : decode cX6_adds 79 = .ok (.aload_n 0, 1) := by decide +kernel
theorem dX6_adds_80 : decode cX6_adds 80 = .ok (.getfield 7, 3) := by decide +kernel
theorem dX6_adds_83 : decode cX6_adds 83 = .ok (.iload 6, 2) := by decide +kernel
theorem dX6_adds_85 : decode cX6_adds 85 = .ok (.iconst 2, 1) := by decide +kernel
theorem dX6_adds_86 : decode cX6_adds 86 = .ok (.iadd, 1) := by decide +kernel
theorem dX6_adds_87 : decode cX6_adds 87 = .ok (.iload_n 3, 1) := by decide +kernel
theorem dX6_adds_88 : decode cX6_adds 88 = .ok (.i2l, 1) := by decide +kernel
theorem dX6_adds_89 : decode cX6_adds 89 = .ok (.lastore, 1) := by decide +kernel
theorem dX6_adds_90 : decode cX6_adds 90 = .ok (.aload_n 0, 1) := by decide +kernel
theorem dX6_adds_91 : decode cX6_adds 91 = .ok (.getfield 7, 3) := by decide +kernel
theorem dX6_adds_94 : decode cX6_adds 94 = .ok (.iload 6, 2) := by decide +kernel
theorem dX6_adds_96 : decode cX6_adds 96 = .ok (.iconst 3, 1) := by decide +kernel
theorem dX6_adds_97 : decode cX6_adds 97 = .ok (.iadd, 1) := by decide +kernel
theorem dX6_adds_98 : decode cX6_adds 98 = .ok (.iload 4, 2) := by decide +kernel
theorem dX6_adds_100 : decode cX6_adds 100 = .ok (.i2l, 1) := by decide +kernel
theorem dX6_adds_101 : decode cX6_adds 101 = .ok (.lastore, 1) := by decide +kernel
theorem dX6_adds_102 : decode cX6_adds 102 = .ok (.aload_n 0, 1) := by decide +kernel
theorem dX6_adds_103 : decode cX6_adds 103 = .ok (.getfield 7, 3) := by decide +kernel
theorem dX6_adds_106 : decode cX6_adds 106 = .ok (.iload 6, 2) := by decide +kernel
theorem dX6_adds_108 : decode cX6_adds 108 = .ok (.iconst 4, 1) := by decide +kernel
theorem dX6_adds_109 : decode cX6_adds 109 = .ok (.iadd, 1) := by decide +kernel
theorem dX6_adds_110 : decode cX6_adds 110 = .ok (.iload 5, 2) := by decide +kernel
theorem dX6_adds_112 : decode cX6_adds 112 = .ok (.i2l, 1) := by decide +kernel
theorem dX6_adds_113 : decode cX6_adds 113 = .ok (.lastore, 1) := by decide +kernel
theorem dX6_adds_114 : decode cX6_adds 114 = .ok (.aload_n 0, 1) := by decide +kernel
theorem dX6_adds_115 : decode cX6_adds 115 = .ok (.getfield 7, 3) := by decide +kernel
theorem dX6_adds_118 : decode cX6_adds 118 = .ok (.iload 6, 2) := by decide +kernel
theorem dX6_adds_120 : decode cX6_adds 120 = .ok (.iconst 5, 1) := by decide +kernel
theorem dX6_adds_121 : decode cX6_adds 121 = .ok (.iadd, 1) := by decide +kernel
theorem dX6_adds_122 : decode cX6_adds 122 = .ok (.ldc2_w 75, 3) := by decide +kernel
theorem dX6_adds_125 : decode cX6_adds 125 = .ok (.lastore, 1) := by decide +kernel
theorem dX6_adds_126 : decode cX6_adds 126 = .ok (.aload_n 0, 1) := by decide +kernel
theorem dX6_adds_127 : decode cX6_adds 127 = .ok (.getfield 7, 3) := by decide +kernel
theorem dX6_adds_130 : decode cX6_adds 130 = .ok (.bipush 8, 2) := by decide +kernel
theorem dX6_adds_132 : decode cX6_adds 132 = .ok (.dup2, 1) := by decide +kernel
theorem dX6_adds_133 : decode cX6_adds 133 = .ok (.laload, 1) := by decide +kernel
theorem dX6_adds_134 : decode cX6_adds 134 = .ok (.lconst 1, 1) := by decide +kernel
theorem dX6_adds_135 : decode cX6_adds 135 = .ok (.ladd, 1) := by decide +kernel
theorem dX6_adds_136 : decode cX6_adds 136 = .ok (.lastore, 1) := by decide +kernel
theorem dX6_adds_137 : decode cX6_adds 137 = .ok (.aload_n 0, 1) := by decide +kernel
theorem dX6_adds_138 : decode cX6_adds 138 = .ok (.bipush 8, 2) := by decide +kernel
theorem dX6_adds_140 : decode cX6_adds 140 = .ok (.invokevirtual 52, 3) := by decide +kernel
theorem dX6_adds_143 : decode cX6_adds 143 = .ok (.iconst 1, 1) := by decide +kernel
theorem dX6_adds_144 : decode cX6_adds 144 = .ok (.isub, 1) := by decide +kernel
theorem dX6_adds_145 : decode cX6_adds 145 = .ok (.ireturn, 1) := by decide +kernel
theorem dX6_addPunch_0 : decode cX6_addPunch 0 = .ok (.aload_n 0, 1) := by decide +kernel
theorem dX6_addPunch_1 : decode cX6_addPunch 1 = .ok (.iconst 0, 1) := by decide +kernel
theorem dX6_addPunch_2 : decode cX6_addPunch 2 = .ok (.putfield 48, 3) := by decide +kernel
theorem dX6_addPunch_5 : decode cX6_addPunch 5 = .ok (.aload_n 0, 1) := by decide +kernel
theorem dX6_addPunch_6 : decode cX6_addPunch 6 = .ok (.iconst 0, 1) := by decide +kernel
theorem dX6_addPunch_7 : decode cX6_addPunch 7 = .ok (.iload_n 1, 1) := by decide +kernel
theorem dX6_addPunch_8 : decode cX6_addPunch 8 = .ok (.iload_n 2, 1) := by decide +kernel
theorem dX6_addPunch_9 : decode cX6_addPunch 9 = .ok (.iload_n 3, 1) := by decide +kernel
theorem dX6_addPunch_10 : decode cX6_addPunch 10 = .ok (.iload 4, 2) := by decide +kernel
theorem dX6_addPunch_12 : decode cX6_addPunch 12 = .ok (.invokevirtual 131, 3) := by decide +kernel
theorem dX6_addPunch_15 : decode cX6_addPunch 15 = .ok (.ireturn, 1) := by decide +kernel
theorem dX6_addBend_0 : decode cX6_addBend 0 = .ok (.aload_n 0, 1) := by decide +kernel
theorem dX6_addBend_1 : decode cX6_addBend 1 = .ok (.iconst 0, 1) := by decide +kernel
theorem dX6_addBend_2 : decode cX6_addBend 2 = .ok (.putfield 48, 3) := by decide +kernel
theorem dX6_addBend_5 : decode cX6_addBend 5 = .ok (.aload_n 0, 1) := by decide +kernel
theorem dX6_addBend_6 : decode cX6_addBend 6 = .ok (.iconst 1, 1) := by decide +kernel
theorem dX6_addBend_7 : decode cX6_addBend 7 = .ok (.iload_n 1, 1) := by decide +kernel
theorem dX6_addBend_8 : decode cX6_addBend 8 = .ok (.iload_n 2, 1) := by decide +kernel
theorem dX6_addBend_9 : decode cX6_addBend 9 = .ok (.iload_n 3, 1) := by decide +kernel
theorem dX6_addBend_10 : decode cX6_addBend 10 = .ok (.iconst 1, 1) := by decide +kernel
theorem dX6_addBend_11 : decode cX6_addBend 11 = .ok (.invokevirtual 131, 3) := by decide +kernel
theorem dX6_addBend_14 : decode cX6_addBend 14 = .ok (.ireturn, 1) := by decide +kernel
theorem dX6_dropOperation_0 : decode cX6_dropOperation 0 = .ok (.aload_n 0, 1) := by decide +kernel
theorem dX6_dropOperation_1 : decode cX6_dropOperation 1 = .ok (.iconst 0, 1) := by decide +kernel
theorem dX6_dropOperation_2 : decode cX6_dropOperation 2 = .ok (.putfield 48, 3) := by decide +kernel
theorem dX6_dropOperation_5 : decode cX6_dropOperation 5 = .ok (.aload_n 0, 1) := by decide +kernel
theorem dX6_dropOperation_6 : decode cX6_dropOperation 6 = .ok (.iload_n 1, 1) := by decide +kernel
theorem dX6_dropOperation_7 : decode cX6_dropOperation 7 = .ok (.invokevirtual 135, 3) := by decide +kernel
theorem dX6_dropOperation_10 : decode cX6_dropOperation 10 = .ok (.ifCond .ne 9, 3) := by decide +kernel
theorem dX6_dropOperation_13 : decode cX6_dropOperation 13 = .ok (.aload_n 0, 1) := by decide +kernel
theorem dX6_dropOperation_14 : decode cX6_dropOperation 14 = .ok (.iconst 1, 1) := by decide +kernel
theorem dX6_dropOperation_15 : decode cX6_dropOperation 15 = .ok (.invokevirtual 110, 3) := by decide +kernel
theorem dX6_dropOperation_18 : decode cX6_dropOperation 18 = .ok (.ireturn, 1) := by decide +kernel
theorem dX6_dropOperation_19 : decode cX6_dropOperation 19 = .ok (.aload_n 0, 1) := by decide +kernel
theorem dX6_dropOperation_20 : decode cX6_dropOperation 20 = .ok (.invokevirtual 113, 3) := by decide +kernel
theorem dX6_dropOperation_23 : decode cX6_dropOperation 23 = .ok (.bipush 20, 2) := by decide +kernel
theorem dX6_dropOperation_25 : decode cX6_dropOperation 25 = .ok (.bipush 6, 2) := by decide +kernel
theorem dX6_dropOperation_27 : decode cX6_dropOperation 27 = .ok (.iload_n 1, 1) := by decide +kernel
theorem dX6_dropOperation_28 : decode cX6_dropOperation 28 = .ok (.imul, 1) := by decide +kernel
theorem dX6_dropOperation_29 : decode cX6_dropOperation 29 = .ok (.iadd, 1) := by decide +kernel
theorem dX6_dropOperation_30 : decode cX6_dropOperation 30 = .ok (.istore_n 2, 1) := by decide +kernel
theorem dX6_dropOperation_31 : decode cX6_dropOperation 31 = .ok (.iload_n 2, 1) := by decide +kernel
theorem dX6_dropOperation_32 : decode cX6_dropOperation 32 = .ok (.bipush 50, 2) := by decide +kernel
theorem dX6_dropOperation_34 : decode cX6_dropOperation 34 = .ok (.if_icmp .ge 24, 3) := by decide +kernel
theorem dX6_dropOperation_37 : decode cX6_dropOperation 37 = .ok (.aload_n 0, 1) := by decide +kernel
theorem dX6_dropOperation_38 : decode cX6_dropOperation 38 = .ok (.getfield 7, 3) := by decide +kernel
theorem dX6_dropOperation_41 : decode cX6_dropOperation 41 = .ok (.iload_n 2, 1) := by decide +kernel
theorem dX6_dropOperation_42 : decode cX6_dropOperation 42 = .ok (.aload_n 0, 1) := by decide +kernel
theorem dX6_dropOperation_43 : decode cX6_dropOperation 43 = .ok (.getfield 7, 3) := by decide +kernel
theorem dX6_dropOperation_46 : decode cX6_dropOperation 46 = .ok (.iload_n 2, 1) := by decide +kernel
theorem dX6_dropOperation_47 : decode cX6_dropOperation 47 = .ok (.bipush 6, 2) := by decide +kernel
theorem dX6_dropOperation_49 : decode cX6_dropOperation 49 = .ok (.iadd, 1) := by decide +kernel
theorem dX6_dropOperation_50 : decode cX6_dropOperation 50 = .ok (.laload, 1) := by decide +kernel
theorem dX6_dropOperation_51 : decode cX6_dropOperation 51 = .ok (.lastore, 1) := by decide +kernel
theorem dX6_dropOperation_52 : decode cX6_dropOperation 52 = .ok (.iinc 2 1, 3) := by decide +kernel
theorem dX6_dropOperation_55 : decode cX6_dropOperation 55 = .ok (.goto (-24), 3) := by decide +kernel
theorem dX6_dropOperation_58 : decode cX6_dropOperation 58 = .ok (.iconst 0, 1) := by decide +kernel
theorem dX6_dropOperation_59 : decode cX6_dropOperation 59 = .ok (.istore_n 2, 1) := by decide +kernel
theorem dX6_dropOperation_60 : decode cX6_dropOperation 60 = .ok (.iload_n 2, 1) := by decide +kernel
theorem dX6_dropOperation_61 : decode cX6_dropOperation 61 = .ok (.bipush 8, 2) := by decide +kernel
theorem dX6_dropOperation_63 : decode cX6_dropOperation 63 = .ok (.if_icmp .ge 48, 3) := by decide +kernel
theorem dX6_dropOperation_66 : decode cX6_dropOperation 66 = .ok (.aload_n 0, 1) := by decide +kernel
theorem dX6_dropOperation_67 : decode cX6_dropOperation 67 = .ok (.iload_n 2, 1) := by decide +kernel
theorem dX6_dropOperation_68 : decode cX6_dropOperation 68 = .ok (.iconst 2, 1) := by decide +kernel
theorem dX6_dropOperation_69 : decode cX6_dropOperation 69 = .ok (.invokevirtual 139, 3) := by decide +kernel
theorem dX6_dropOperation_72 : decode cX6_dropOperation 72 = .ok (.lstore_n 3, 1) := by decide +kernel
theorem dX6_dropOperation_73 : decode cX6_dropOperation 73 = .ok (.lload_n 3, 1) := by decide +kernel
theorem dX6_dropOperation_74 : decode cX6_dropOperation 74 = .ok (.lconst 1, 1) := by decide +kernel
theorem dX6_dropOperation_75 : decode cX6_dropOperation 75 = .ok (.iload_n 1, 1) := by decide +kernel
theorem dX6_dropOperation_76 : decode cX6_dropOperation 76 = .ok (.lshl, 1) := by decide +kernel
theorem dX6_dropOperation_77 : decode cX6_dropOperation 77 = .ok (.lconst 1, 1) := by decide +kernel
theorem dX6_dropOperation_78 : decode cX6_dropOperation 78 = .ok (.lsub, 1) := by decide +kernel
theorem dX6_dropOperation_79 : decode cX6_dropOperation 79 = .ok (.land, 1) := by decide +kernel
theorem dX6_dropOperation_80 : decode cX6_dropOperation 80 = .ok (.lstore 5, 2) := by decide +kernel
theorem dX6_dropOperation_82 : decode cX6_dropOperation 82 = .ok (.aload_n 0, 1) := by decide +kernel
theorem dX6_dropOperation_83 : decode cX6_dropOperation 83 = .ok (.getfield 7, 3) := by decide +kernel
theorem dX6_dropOperation_86 : decode cX6_dropOperation 86 = .ok (.bipush 60, 2) := by decide +kernel
theorem dX6_dropOperation_88 : decode cX6_dropOperation 88 = .ok (.iconst 5, 1) := by decide +kernel
theorem dX6_dropOperation_89 : decode cX6_dropOperation 89 = .ok (.iload_n 2, 1) := by decide +kernel
theorem dX6_dropOperation_90 : decode cX6_dropOperation 90 = .ok (.imul, 1) := by decide +kernel
theorem dX6_dropOperation_91 : decode cX6_dropOperation 91 = .ok (.iadd, 1) := by decide +kernel
theorem dX6_dropOperation_92 : decode cX6_dropOperation 92 = .ok (.iconst 2, 1) := by decide +kernel
theorem dX6_dropOperation_93 : decode cX6_dropOperation 93 = .ok (.iadd, 1) := by decide +kernel
theorem dX6_dropOperation_94 : decode cX6_dropOperation 94 = .ok (.lload 5, 2) := by decide +kernel
theorem dX6_dropOperation_96 : decode cX6_dropOperation 96 = .ok (.lload_n 3, 1) := by decide +kernel
theorem dX6_dropOperation_97 : decode cX6_dropOperation 97 = .ok (.iload_n 1, 1) := by decide +kernel
theorem dX6_dropOperation_98 : decode cX6_dropOperation 98 = .ok (.iconst 1, 1) := by decide +kernel
theorem dX6_dropOperation_99 : decode cX6_dropOperation 99 = .ok (.iadd, 1) := by decide +kernel
theorem dX6_dropOperation_100 : decode cX6_dropOperation 100 = .ok (.lshr, 1) := by decide +kernel
theorem dX6_dropOperation_101 : decode cX6_dropOperation 101 = .ok (.iload_n 1, 1) := by decide +kernel
theorem dX6_dropOperation_102 : decode cX6_dropOperation 102 = .ok (.lshl, 1) := by decide +kernel
theorem dX6_dropOperation_103 : decode cX6_dropOperation 103 = .ok (.lor, 1) := by decide +kernel
theorem dX6_dropOperation_104 : decode cX6_dropOperation 104 = .ok (.lastore, 1) := by decide +kernel
theorem dX6_dropOperation_105 : decode cX6_dropOperation 105 = .ok (.iinc 2 1, 3) := by decide +kernel
theorem dX6_dropOperation_108 : decode cX6_dropOperation 108 = .ok (.goto (-48), 3) := by decide +kernel
theorem dX6_dropOperation_111 : decode cX6_dropOperation 111 = .ok (.aload_n 0, 1) := by decide +kernel
theorem dX6_dropOperation_112 : decode cX6_dropOperation 112 = .ok (.getfield 7, 3) := by decide +kernel
theorem dX6_dropOperation_115 : decode cX6_dropOperation 115 = .ok (.bipush 8, 2) := by decide +kernel
theorem dX6_dropOperation_117 : decode cX6_dropOperation 117 = .ok (.dup2, 1) := by decide +kernel
theorem dX6_dropOperation_118 : decode cX6_dropOperation 118 = .ok (.laload, 1) := by decide +kernel
theorem dX6_dropOperation_119 : decode cX6_dropOperation 119 = .ok (.lconst 1, 1) := by decide +kernel
theorem dX6_dropOperation_120 : decode cX6_dropOperation 120 = .ok (.lsub, 1) := by decide +kernel
theorem dX6_dropOperation_121 : decode cX6_dropOperation 121 = .ok (.lastore, 1) := by decide +kernel
theorem dX6_dropOperation_122 : decode cX6_dropOperation 122 = .ok (.aload_n 0, 1) := by decide +kernel
theorem dX6_dropOperation_123 : decode cX6_dropOperation 123 = .ok (.bipush 8, 2) := by decide +kernel
theorem dX6_dropOperation_125 : decode cX6_dropOperation 125 = .ok (.invokevirtual 52, 3) := by decide +kernel
theorem dX6_dropOperation_128 : decode cX6_dropOperation 128 = .ok (.ireturn, 1) := by decide +kernel
theorem dX6_force_0 : decode cX6_force 0 = .ok (.aload_n 0, 1) := by decide +kernel
theorem dX6_force_1 : decode cX6_force 1 = .ok (.iload_n 1, 1) := by decide +kernel
theorem dX6_force_2 : decode cX6_force 2 = .ok (.iconst 0, 1) := by decide +kernel
theorem dX6_force_3 : decode cX6_force 3 = .ok (.invokevirtual 77, 3) := by decide +kernel
theorem dX6_force_6 : decode cX6_force 6 = .ok (.ifCond .ne 21, 3) := by decide +kernel
theorem dX6_force_9 : decode cX6_force 9 = .ok (.iconst 2, 1) := by decide +kernel
theorem dX6_force_10 : decode cX6_force 10 = .ok (.aload_n 0, 1) := by decide +kernel
theorem dX6_force_11 : decode cX6_force 11 = .ok (.iload_n 1, 1) := by decide +kernel
theorem dX6_force_12 : decode cX6_force 12 = .ok (.iconst 3, 1) := by decide +kernel
theorem dX6_force_13 : decode cX6_force 13 = .ok (.invokevirtual 77, 3) := by decide +kernel
theorem dX6_force_16 : decode cX6_force 16 = .ok (.aload_n 0, 1) := by decide +kernel
theorem dX6_force_17 : decode cX6_force 17 = .ok (.iload_n 1, 1) := by decide +kernel
theorem dX6_force_18 : decode cX6_force 18 = .ok (.iconst 4, 1) := by decide +kernel
theorem dX6_force_19 : decode cX6_force 19 = .ok (.invokevirtual 77, 3) := by decide +kernel
theorem dX6_force_22 : decode cX6_force 22 = .ok (.iadd, 1) := by decide +kernel
theorem dX6_force_23 : decode cX6_force 23 = .ok (.imul, 1) := by decide +kernel
theorem dX6_force_24 : decode cX6_force 24 = .ok (.goto 9, 3) := by decide +kernel
theorem dX6_force_27 : decode cX6_force 27 = .ok (.aload_n 0, 1) := by decide +kernel
theorem dX6_force_28 : decode cX6_force 28 = .ok (.iload_n 1, 1) := by decide +kernel
theorem dX6_force_29 : decode cX6_force 29 = .ok (.iconst 3, 1) := by decide +kernel
theorem dX6_force_30 : decode cX6_force 30 = .ok (.invokevirtual 77, 3) := by decide +kernel
theorem dX6_force_33 : decode cX6_force 33 = .ok (.ireturn, 1) := by decide +kernel
theorem dX6_touches_0 : decode cX6_touches 0 = .ok (.aload_n 0, 1) := by decide +kernel
theorem dX6_touches_1 : decode cX6_touches 1 = .ok (.aload_n 0, 1) := by decide +kernel
theorem dX6_touches_2 : decode cX6_touches 2 = .ok (.iload_n 1, 1) := by decide +kernel
theorem dX6_touches_3 : decode cX6_touches 3 = .ok (.invokevirtual 81, 3) := by decide +kernel
theorem dX6_touches_6 : decode cX6_touches 6 = .ok (.invokevirtual 91, 3) := by decide +kernel
theorem dX6_touches_9 : decode cX6_touches 9 = .ok (.lstore_n 2, 1) := by decide +kernel
theorem dX6_touches_10 : decode cX6_touches 10 = .ok (.iconst 0, 1) := by decide +kernel
theorem dX6_touches_11 : decode cX6_touches 11 = .ok (.istore 4, 2) := by decide +kernel
theorem dX6_touches_13 : decode cX6_touches 13 = .ok (.iconst 0, 1) := by decide +kernel
theorem dX6_touches_14 : decode cX6_touches 14 = .ok (.istore 5, 2) := by decide +kernel
theorem dX6_touches_16 : decode cX6_touches 16 = .ok (.iload 5, 2) := by decide +kernel
theorem dX6_touches_18 : decode cX6_touches 18 = .ok (.aload_n 0, 1) := by decide +kernel
theorem dX6_touches_19 : decode cX6_touches 19 = .ok (.bipush 8, 2) := by decide +kernel
theorem dX6_touches_21 : decode cX6_touches 21 = .ok (.invokevirtual 52, 3) := by decide +kernel
theorem dX6_touches_24 : decode cX6_touches 24 = .ok (.if_icmp .ge 41, 3) := by decide +kernel
theorem dX6_touches_27 : decode cX6_touches 27 = .ok (.iload 4, 2) := by decide +kernel
theorem dX6_touches_29 : decode cX6_touches 29 = .ok (.iload 5, 2) := by decide +kernel
theorem dX6_touches_31 : decode cX6_touches 31 = .ok (.iload_n 1, 1) := by decide +kernel
theorem dX6_touches_32 : decode cX6_touches 32 = .ok (.if_icmp .eq 23, 3) := by decide +kernel
theorem dX6_touches_35 : decode cX6_touches 35 = .ok (.lload_n 2, 1) := by decide +kernel
theorem dX6_touches_36 : decode cX6_touches 36 = .ok (.aload_n 0, 1) := by decide +kernel
theorem dX6_touches_37 : decode cX6_touches 37 = .ok (.iload 5, 2) := by decide +kernel
theorem dX6_touches_39 : decode cX6_touches 39 = .ok (.invokevirtual 81, 3) := by decide +kernel
theorem dX6_touches_42 : decode cX6_touches 42 = .ok (.land, 1) := by decide +kernel
theorem dX6_touches_43 : decode cX6_touches 43 = .ok (.lconst 0, 1) := by decide +kernel
theorem dX6_touches_44 : decode cX6_touches 44 = .ok (.lcmp, 1) := by decide +kernel
theorem dX6_touches_45 : decode cX6_touches 45 = .ok (.ifCond .eq 10, 3) := by decide +kernel
theorem dX6_touches_48 : decode cX6_touches 48 = .ok (.iconst 1, 1) := by decide +kernel
theorem dX6_touches_49 : decode cX6_touches 49 = .ok (.iload 5, 2) := by decide +kernel
theorem dX6_touches_51 : decode cX6_touches 51 = .ok (.ishl, 1) := by decide +kernel
theorem dX6_touches_52 : decode cX6_touches 52 = .ok (.goto 4, 3) := by decide +kernel
theorem dX6_touches_55 : decode cX6_touches 55 = .ok (.iconst 0, 1) := by decide +kernel
theorem dX6_touches_56 : decode cX6_touches 56 = .ok (.ior, 1) := by decide +kernel
theorem dX6_touches_57 : decode cX6_touches 57 = .ok (.istore 4, 2) := by decide +kernel
theorem dX6_touches_59 : decode cX6_touches 59 = .ok (.iinc 5 1, 3) := by decide +kernel
theorem dX6_touches_62 : decode cX6_touches 62 = .ok (.goto (-46), 3) := by decide +kernel
theorem dX6_touches_65 : decode cX6_touches 65 = .ok (.iload 4, 2) := by decide +kernel
theorem dX6_touches_67 : decode cX6_touches 67 = .ok (.ireturn, 1) := by decide +kernel
theorem dX6_opsAt_0 : decode cX6_opsAt 0 = .ok (.iconst 0, 1) := by decide +kernel
theorem dX6_opsAt_1 : decode cX6_opsAt 1 = .ok (.istore_n 2, 1) := by decide +kernel
theorem dX6_opsAt_2 : decode cX6_opsAt 2 = .ok (.iconst 0, 1) := by decide +kernel
theorem dX6_opsAt_3 : decode cX6_opsAt 3 = .ok (.istore_n 3, 1) := by decide +kernel
theorem dX6_opsAt_4 : decode cX6_opsAt 4 = .ok (.iload_n 3, 1) := by decide +kernel
theorem dX6_opsAt_5 : decode cX6_opsAt 5 = .ok (.aload_n 0, 1) := by decide +kernel
theorem dX6_opsAt_6 : decode cX6_opsAt 6 = .ok (.bipush 8, 2) := by decide +kernel
theorem dX6_opsAt_8 : decode cX6_opsAt 8 = .ok (.invokevirtual 52, 3) := by decide +kernel
theorem dX6_opsAt_11 : decode cX6_opsAt 11 = .ok (.if_icmp .ge 29, 3) := by decide +kernel
theorem dX6_opsAt_14 : decode cX6_opsAt 14 = .ok (.iload_n 2, 1) := by decide +kernel
theorem dX6_opsAt_15 : decode cX6_opsAt 15 = .ok (.aload_n 0, 1) := by decide +kernel
theorem dX6_opsAt_16 : decode cX6_opsAt 16 = .ok (.iload_n 3, 1) := by decide +kernel
theorem dX6_opsAt_17 : decode cX6_opsAt 17 = .ok (.iconst 5, 1) := by decide +kernel
theorem dX6_opsAt_18 : decode cX6_opsAt 18 = .ok (.invokevirtual 77, 3) := by decide +kernel
theorem dX6_opsAt_21 : decode cX6_opsAt 21 = .ok (.iload_n 1, 1) := by decide +kernel
theorem dX6_opsAt_22 : decode cX6_opsAt 22 = .ok (.if_icmp .ne 9, 3) := by decide +kernel
theorem dX6_opsAt_25 : decode cX6_opsAt 25 = .ok (.iconst 1, 1) := by decide +kernel
theorem dX6_opsAt_26 : decode cX6_opsAt 26 = .ok (.iload_n 3, 1) := by decide +kernel
theorem dX6_opsAt_27 : decode cX6_opsAt 27 = .ok (.ishl, 1) := by decide +kernel
theorem dX6_opsAt_28 : decode cX6_opsAt 28 = .ok (.goto 4, 3) := by decide +kernel
theorem dX6_opsAt_31 : decode cX6_opsAt 31 = .ok (.iconst 0, 1) := by decide +kernel
theorem dX6_opsAt_32 : decode cX6_opsAt 32 = .ok (.ior, 1) := by decide +kernel
theorem dX6_opsAt_33 : decode cX6_opsAt 33 = .ok (.istore_n 2, 1) := by decide +kernel
theorem dX6_opsAt_34 : decode cX6_opsAt 34 = .ok (.iinc 3 1, 3) := by decide +kernel
theorem dX6_opsAt_37 : decode cX6_opsAt 37 = .ok (.goto (-33), 3) := by decide +kernel
theorem dX6_opsAt_40 : decode cX6_opsAt 40 = .ok (.iload_n 2, 1) := by decide +kernel
theorem dX6_opsAt_41 : decode cX6_opsAt 41 = .ok (.ireturn, 1) := by decide +kernel
theorem dX6_forces_0 : decode cX6_forces 0 = .ok (.iconst 0, 1) := by decide +kernel
theorem dX6_forces_1 : decode cX6_forces 1 = .ok (.istore_n 2, 1) := by decide +kernel
theorem dX6_forces_2 : decode cX6_forces 2 = .ok (.iconst 0, 1) := by decide +kernel
theorem dX6_forces_3 : decode cX6_forces 3 = .ok (.istore_n 3, 1) := by decide +kernel
theorem dX6_forces_4 : decode cX6_forces 4 = .ok (.iload_n 3, 1) := by decide +kernel
theorem dX6_forces_5 : decode cX6_forces 5 = .ok (.aload_n 0, 1) := by decide +kernel
theorem dX6_forces_6 : decode cX6_forces 6 = .ok (.bipush 8, 2) := by decide +kernel
theorem dX6_forces_8 : decode cX6_forces 8 = .ok (.invokevirtual 52, 3) := by decide +kernel
theorem dX6_forces_11 : decode cX6_forces 11 = .ok (.if_icmp .ge 30, 3) := by decide +kernel
theorem dX6_forces_14 : decode cX6_forces 14 = .ok (.iload_n 2, 1) := by decide +kernel
theorem dX6_forces_15 : decode cX6_forces 15 = .ok (.iload_n 1, 1) := by decide +kernel
theorem dX6_forces_16 : decode cX6_forces 16 = .ok (.iload_n 3, 1) := by decide +kernel
theorem dX6_forces_17 : decode cX6_forces 17 = .ok (.ishr, 1) := by decide +kernel
theorem dX6_forces_18 : decode cX6_forces 18 = .ok (.iconst 1, 1) := by decide +kernel
theorem dX6_forces_19 : decode cX6_forces 19 = .ok (.iand, 1) := by decide +kernel
theorem dX6_forces_20 : decode cX6_forces 20 = .ok (.iconst 1, 1) := by decide +kernel
theorem dX6_forces_21 : decode cX6_forces 21 = .ok (.if_icmp .ne 11, 3) := by decide +kernel
theorem dX6_forces_24 : decode cX6_forces 24 = .ok (.aload_n 0, 1) := by decide +kernel
theorem dX6_forces_25 : decode cX6_forces 25 = .ok (.iload_n 3, 1) := by decide +kernel
theorem dX6_forces_26 : decode cX6_forces 26 = .ok (.invokevirtual 143, 3) := by decide +kernel
theorem dX6_forces_29 : decode cX6_forces 29 = .ok (.goto 4, 3) := by decide +kernel
theorem dX6_forces_32 : decode cX6_forces 32 = .ok (.iconst 0, 1) := by decide +kernel
theorem dX6_forces_33 : decode cX6_forces 33 = .ok (.iadd, 1) := by decide +kernel
theorem dX6_forces_34 : decode cX6_forces 34 = .ok (.istore_n 2, 1) := by decide +kernel
theorem dX6_forces_35 : decode cX6_forces 35 = .ok (.iinc 3 1, 3) := by decide +kernel
theorem dX6_forces_38 : decode cX6_forces 38 = .ok (.goto (-34), 3) := by decide +kernel
theorem dX6_forces_41 : decode cX6_forces 41 = .ok (.iload_n 2, 1) := by decide +kernel
theorem dX6_forces_42 : decode cX6_forces 42 = .ok (.ireturn, 1) := by decide +kernel
theorem dX6_stations_0 : decode cX6_stations 0 = .ok (.iconst (-1), 1) := by decide +kernel
theorem dX6_stations_1 : decode cX6_stations 1 = .ok (.istore_n 1, 1) := by decide +kernel
theorem dX6_stations_2 : decode cX6_stations 2 = .ok (.iconst 0, 1) := by decide +kernel
theorem dX6_stations_3 : decode cX6_stations 3 = .ok (.istore_n 2, 1) := by decide +kernel
theorem dX6_stations_4 : decode cX6_stations 4 = .ok (.iload_n 2, 1) := by decide +kernel
theorem dX6_stations_5 : decode cX6_stations 5 = .ok (.aload_n 0, 1) := by decide +kernel
theorem dX6_stations_6 : decode cX6_stations 6 = .ok (.bipush 8, 2) := by decide +kernel
theorem dX6_stations_8 : decode cX6_stations 8 = .ok (.invokevirtual 52, 3) := by decide +kernel
theorem dX6_stations_11 : decode cX6_stations 11 = .ok (.if_icmp .ge 30, 3) := by decide +kernel
theorem dX6_stations_14 : decode cX6_stations 14 = .ok (.aload_n 0, 1) := by decide +kernel
theorem dX6_stations_15 : decode cX6_stations 15 = .ok (.iload_n 2, 1) := by decide +kernel
theorem dX6_stations_16 : decode cX6_stations 16 = .ok (.iconst 5, 1) := by decide +kernel
theorem dX6_stations_17 : decode cX6_stations 17 = .ok (.invokevirtual 77, 3) := by decide +kernel
theorem dX6_stations_20 : decode cX6_stations 20 = .ok (.iload_n 1, 1) := by decide +kernel
theorem dX6_stations_21 : decode cX6_stations 21 = .ok (.if_icmp .le 12, 3) := by decide +kernel
theorem dX6_stations_24 : decode cX6_stations 24 = .ok (.aload_n 0, 1) := by decide +kernel
theorem dX6_stations_25 : decode cX6_stations 25 = .ok (.iload_n 2, 1) := by decide +kernel
theorem dX6_stations_26 : decode cX6_stations 26 = .ok (.iconst 5, 1) := by decide +kernel
theorem dX6_stations_27 : decode cX6_stations 27 = .ok (.invokevirtual 77, 3) := by decide +kernel
theorem dX6_stations_30 : decode cX6_stations 30 = .ok (.goto 4, 3) := by decide +kernel
theorem dX6_stations_33 : decode cX6_stations 33 = .ok (.iload_n 1, 1) := by decide +kernel
theorem dX6_stations_34 : decode cX6_stations 34 = .ok (.istore_n 1, 1) := by decide +kernel
theorem dX6_stations_35 : decode cX6_stations 35 = .ok (.iinc 2 1, 3) := by decide +kernel
theorem dX6_stations_38 : decode cX6_stations 38 = .ok (.goto (-34), 3) := by decide +kernel
theorem dX6_stations_41 : decode cX6_stations 41 = .ok (.iload_n 1, 1) := by decide +kernel
theorem dX6_stations_42 : decode cX6_stations 42 = .ok (.iconst 1, 1) := by decide +kernel
theorem dX6_stations_43 : decode cX6_stations 43 = .ok (.iadd, 1) := by decide +kernel
theorem dX6_stations_44 : decode cX6_stations 44 = .ok (.ireturn, 1) := by decide +kernel
theorem dX6_isEarly_0 : decode cX6_isEarly 0 = .ok (.aload_n 0, 1) := by decide +kernel
theorem dX6_isEarly_1 : decode cX6_isEarly 1 = .ok (.iload_n 1, 1) := by decide +kernel
theorem dX6_isEarly_2 : decode cX6_isEarly 2 = .ok (.iconst 0, 1) := by decide +kernel
theorem dX6_isEarly_3 : decode cX6_isEarly 3 = .ok (.invokevirtual 77, 3) := by decide +kernel
theorem dX6_isEarly_6 : decode cX6_isEarly 6 = .ok (.aload_n 0, 1) := by decide +kernel
theorem dX6_isEarly_7 : decode cX6_isEarly 7 = .ok (.iload_n 3, 1) := by decide +kernel
theorem dX6_isEarly_8 : decode cX6_isEarly 8 = .ok (.iconst 0, 1) := by decide +kernel
theorem dX6_isEarly_9 : decode cX6_isEarly 9 = .ok (.invokevirtual 77, 3) := by decide +kernel
theorem dX6_isEarly_12 : decode cX6_isEarly 12 = .ok (.if_icmp .ne 5, 3) := by decide +kernel
theorem dX6_isEarly_15 : decode cX6_isEarly 15 = .ok (.iconst 0, 1) := by decide +kernel
theorem dX6_isEarly_16 : decode cX6_isEarly 16 = .ok (.ireturn, 1) := by decide +kernel
theorem dX6_isEarly_17 : decode cX6_isEarly 17 = .ok (.aload_n 0, 1) := by decide +kernel
theorem dX6_isEarly_18 : decode cX6_isEarly 18 = .ok (.iload_n 1, 1) := by decide +kernel
theorem dX6_isEarly_19 : decode cX6_isEarly 19 = .ok (.iconst 0, 1) := by decide +kernel
theorem dX6_isEarly_20 : decode cX6_isEarly 20 = .ok (.invokevirtual 77, 3) := by decide +kernel
theorem dX6_isEarly_23 : decode cX6_isEarly 23 = .ok (.iconst 1, 1) := by decide +kernel
theorem dX6_isEarly_24 : decode cX6_isEarly 24 = .ok (.if_icmp .ne 10, 3) := by decide +kernel
theorem dX6_isEarly_27 : decode cX6_isEarly 27 = .ok (.iload_n 2, 1) := by decide +kernel
theorem dX6_isEarly_28 : decode cX6_isEarly 28 = .ok (.iload 4, 2) := by decide +kernel
theorem dX6_isEarly_30 : decode cX6_isEarly 30 = .ok (.isub, 1) := by decide +kernel
theorem dX6_isEarly_31 : decode cX6_isEarly 31 = .ok (.goto 7, 3) := by decide +kernel
theorem dX6_isEarly_34 : decode cX6_isEarly 34 = .ok (.iload 4, 2) := by decide +kernel
theorem dX6_isEarly_36 : decode cX6_isEarly 36 = .ok (.iload_n 2, 1) := by decide +kernel
theorem dX6_isEarly_37 : decode cX6_isEarly 37 = .ok (.isub, 1) := by decide +kernel
theorem dX6_isEarly_38 : decode cX6_isEarly 38 = .ok (.istore 5, 2) := by decide +kernel
theorem dX6_isEarly_40 : decode cX6_isEarly 40 = .ok (.iload 5, 2) := by decide +kernel
theorem dX6_isEarly_42 : decode cX6_isEarly 42 = .ok (.iconst 1, 1) := by decide +kernel
theorem dX6_isEarly_43 : decode cX6_isEarly 43 = .ok (.aload_n 0, 1) := by decide +kernel
theorem dX6_isEarly_44 : decode cX6_isEarly 44 = .ok (.iconst 1, 1) := by decide +kernel
theorem dX6_isEarly_45 : decode cX6_isEarly 45 = .ok (.invokevirtual 128, 3) := by decide +kernel
theorem dX6_isEarly_48 : decode cX6_isEarly 48 = .ok (.iadd, 1) := by decide +kernel
theorem dX6_isEarly_49 : decode cX6_isEarly 49 = .ok (.if_icmp .ge 7, 3) := by decide +kernel
theorem dX6_isEarly_52 : decode cX6_isEarly 52 = .ok (.iconst 1, 1) := by decide +kernel
theorem dX6_isEarly_53 : decode cX6_isEarly 53 = .ok (.goto 4, 3) := by decide +kernel
theorem dX6_isEarly_56 : decode cX6_isEarly 56 = .ok (.iconst 0, 1) := by decide +kernel
theorem dX6_isEarly_57 : decode cX6_isEarly 57 = .ok (.ireturn, 1) := by decide +kernel
theorem dX6_faultOfPlan_0 : decode cX6_faultOfPlan 0 = .ok (.iconst 0, 1) := by decide +kernel
theorem dX6_faultOfPlan_1 : decode cX6_faultOfPlan 1 = .ok (.istore_n 1, 1) := by decide +kernel
theorem dX6_faultOfPlan_2 : decode cX6_faultOfPlan 2 = .ok (.iconst 0, 1) := by decide +kernel
theorem dX6_faultOfPlan_3 : decode cX6_faultOfPlan 3 = .ok (.istore_n 2, 1) := by decide +kernel
theorem dX6_faultOfPlan_4 : decode cX6_faultOfPlan 4 = .ok (.iconst 0, 1) := by decide +kernel
theorem dX6_faultOfPlan_5 : decode cX6_faultOfPlan 5 = .ok (.istore_n 3, 1) := by decide +kernel
theorem dX6_faultOfPlan_6 : decode cX6_faultOfPlan 6 = .ok (.iconst 0, 1) := by decide +kernel
theorem dX6_faultOfPlan_7 : decode cX6_faultOfPlan 7 = .ok (.istore 4, 2) := by decide +kernel
theorem dX6_faultOfPlan_9 : decode cX6_faultOfPlan 9 = .ok (.iconst 0, 1) := by decide +kernel
theorem dX6_faultOfPlan_10 : decode cX6_faultOfPlan 10 = .ok (.istore 5, 2) := by decide +kernel
theorem dX6_faultOfPlan_12 : decode cX6_faultOfPlan 12 = .ok (.iload 5, 2) := by decide +kernel
theorem dX6_faultOfPlan_14 : decode cX6_faultOfPlan 14 = .ok (.aload_n 0, 1) := by decide +kernel
theorem dX6_faultOfPlan_15 : decode cX6_faultOfPlan 15 = .ok (.bipush 8, 2) := by decide +kernel
theorem dX6_faultOfPlan_17 : decode cX6_faultOfPlan 17 = .ok (.invokevirtual 52, 3) := by decide +kernel
theorem dX6_faultOfPlan_20 : decode cX6_faultOfPlan 20 = .ok (.if_icmp .ge 178, 3) := by decide +kernel
theorem dX6_faultOfPlan_23 : decode cX6_faultOfPlan 23 = .ok (.aload_n 0, 1) := by decide +kernel
theorem dX6_faultOfPlan_24 : decode cX6_faultOfPlan 24 = .ok (.iload 5, 2) := by decide +kernel
theorem dX6_faultOfPlan_26 : decode cX6_faultOfPlan 26 = .ok (.iconst 5, 1) := by decide +kernel
theorem dX6_faultOfPlan_27 : decode cX6_faultOfPlan 27 = .ok (.invokevirtual 77, 3) := by decide +kernel
theorem dX6_faultOfPlan_30 : decode cX6_faultOfPlan 30 = .ok (.istore 6, 2) := by decide +kernel
theorem dX6_faultOfPlan_32 : decode cX6_faultOfPlan 32 = .ok (.aload_n 0, 1) := by decide +kernel
theorem dX6_faultOfPlan_33 : decode cX6_faultOfPlan 33 = .ok (.iload 5, 2) := by decide +kernel
theorem dX6_faultOfPlan_35 : decode cX6_faultOfPlan 35 = .ok (.invokevirtual 146, 3) := by decide +kernel
theorem dX6_faultOfPlan_38 : decode cX6_faultOfPlan 38 = .ok (.istore 7, 2) := by decide +kernel
theorem dX6_faultOfPlan_40 : decode cX6_faultOfPlan 40 = .ok (.iload_n 1, 1) := by decide +kernel
theorem dX6_faultOfPlan_41 : decode cX6_faultOfPlan 41 = .ok (.ifCond .ne 9, 3) := by decide +kernel
theorem dX6_faultOfPlan_44 : decode cX6_faultOfPlan 44 = .ok (.iload 6, 2) := by decide +kernel
theorem dX6_faultOfPlan_46 : decode cX6_faultOfPlan 46 = .ok (.iconst (-1), 1) := by decide +kernel
theorem dX6_faultOfPlan_47 : decode cX6_faultOfPlan 47 = .ok (.if_icmp .ne 7, 3) := by decide +kernel
theorem dX6_faultOfPlan_50 : decode cX6_faultOfPlan 50 = .ok (.iconst 1, 1) := by decide +kernel
theorem dX6_faultOfPlan_51 : decode cX6_faultOfPlan 51 = .ok (.goto 4, 3) := by decide +kernel
theorem dX6_faultOfPlan_54 : decode cX6_faultOfPlan 54 = .ok (.iconst 0, 1) := by decide +kernel
theorem dX6_faultOfPlan_55 : decode cX6_faultOfPlan 55 = .ok (.istore_n 1, 1) := by decide +kernel
theorem dX6_faultOfPlan_56 : decode cX6_faultOfPlan 56 = .ok (.iload_n 2, 1) := by decide +kernel
theorem dX6_faultOfPlan_57 : decode cX6_faultOfPlan 57 = .ok (.ifCond .ne 27, 3) := by decide +kernel
theorem dX6_faultOfPlan_60 : decode cX6_faultOfPlan 60 = .ok (.iload 6, 2) := by decide +kernel
theorem dX6_faultOfPlan_62 : decode cX6_faultOfPlan 62 = .ok (.iconst (-1), 1) := by decide +kernel
theorem dX6_faultOfPlan_63 : decode cX6_faultOfPlan 63 = .ok (.if_icmp .eq 25, 3) := by decide +kernel
theorem dX6_faultOfPlan_66 : decode cX6_faultOfPlan 66 = .ok (.aload_n 0, 1) := by decide +kernel
theorem dX6_faultOfPlan_67 : decode cX6_faultOfPlan 67 = .ok (.aload_n 0, 1) := by decide +kernel
theorem dX6_faultOfPlan_68 : decode cX6_faultOfPlan 68 = .ok (.iload 6, 2) := by decide +kernel
theorem dX6_faultOfPlan_70 : decode cX6_faultOfPlan 70 = .ok (.invokevirtual 149, 3) := by decide +kernel
theorem dX6_faultOfPlan_73 : decode cX6_faultOfPlan 73 = .ok (.invokevirtual 152, 3) := by decide +kernel
theorem dX6_faultOfPlan_76 : decode cX6_faultOfPlan 76 = .ok (.aload_n 0, 1) := by decide +kernel
theorem dX6_faultOfPlan_77 : decode cX6_faultOfPlan 77 = .ok (.iconst 0, 1) := by decide +kernel
theorem dX6_faultOfPlan_78 : decode cX6_faultOfPlan 78 = .ok (.invokevirtual 128, 3) := by decide +kernel
theorem dX6_faultOfPlan_81 : decode cX6_faultOfPlan 81 = .ok (.if_icmp .le 7, 3) := by decide +kernel
theorem dX6_faultOfPlan_84 : decode cX6_faultOfPlan 84 = .ok (.iconst 1, 1) := by decide +kernel
theorem dX6_faultOfPlan_85 : decode cX6_faultOfPlan 85 = .ok (.goto 4, 3) := by decide +kernel
theorem dX6_faultOfPlan_88 : decode cX6_faultOfPlan 88 = .ok (.iconst 0, 1) := by decide +kernel
theorem dX6_faultOfPlan_89 : decode cX6_faultOfPlan 89 = .ok (.istore_n 2, 1) := by decide +kernel
theorem dX6_faultOfPlan_90 : decode cX6_faultOfPlan 90 = .ok (.iconst 0, 1) := by decide +kernel
theorem dX6_faultOfPlan_91 : decode cX6_faultOfPlan 91 = .ok (.istore 8, 2) := by decide +kernel
theorem dX6_faultOfPlan_93 : decode cX6_faultOfPlan 93 = .ok (.iload 8, 2) := by decide +kernel
theorem dX6_faultOfPlan_95 : decode cX6_faultOfPlan 95 = .ok (.aload_n 0, 1) := by decide +kernel
theorem dX6_faultOfPlan_96 : decode cX6_faultOfPlan 96 = .ok (.bipush 8, 2) := by decide +kernel
theorem dX6_faultOfPlan_98 : decode cX6_faultOfPlan 98 = .ok (.invokevirtual 52, 3) := by decide +kernel
theorem dX6_faultOfPlan_101 : decode cX6_faultOfPlan 101 = .ok (.if_icmp .ge 91, 3) := by decide +kernel
theorem dX6_faultOfPlan_104 : decode cX6_faultOfPlan 104 = .ok (.iload 7, 2) := by decide +kernel
theorem dX6_faultOfPlan_106 : decode cX6_faultOfPlan 106 = .ok (.iload 8, 2) := by decide +kernel
theorem dX6_faultOfPlan_108 : decode cX6_faultOfPlan 108 = .ok (.ishr, 1) := by decide +kernel
theorem dX6_faultOfPlan_109 : decode cX6_faultOfPlan 109 = .ok (.iconst 1, 1) := by decide +kernel
theorem dX6_faultOfPlan_110 : decode cX6_faultOfPlan 110 = .ok (.iand, 1) := by decide +kernel
theorem dX6_faultOfPlan_111 : decode cX6_faultOfPlan 111 = .ok (.iconst 1, 1) := by decide +kernel
theorem dX6_faultOfPlan_112 : decode cX6_faultOfPlan 112 = .ok (.if_icmp .ne 7, 3) := by decide +kernel
theorem dX6_faultOfPlan_115 : decode cX6_faultOfPlan 115 = .ok (.iconst 1, 1) := by decide +kernel
theorem dX6_faultOfPlan_116 : decode cX6_faultOfPlan 116 = .ok (.goto 4, 3) := by decide +kernel
theorem dX6_faultOfPlan_119 : decode cX6_faultOfPlan 119 = .ok (.iconst 0, 1) := by decide +kernel
theorem dX6_faultOfPlan_120 : decode cX6_faultOfPlan 120 = .ok (.istore 9, 2) := by decide +kernel
theorem dX6_faultOfPlan_122 : decode cX6_faultOfPlan 122 = .ok (.iload_n 3, 1) := by decide +kernel
theorem dX6_faultOfPlan_123 : decode cX6_faultOfPlan 123 = .ok (.ifCond .ne 20, 3) := by decide +kernel
theorem dX6_faultOfPlan_126 : decode cX6_faultOfPlan 126 = .ok (.iload 9, 2) := by decide +kernel
theorem dX6_faultOfPlan_128 : decode cX6_faultOfPlan 128 = .ok (.ifCond .eq 19, 3) := by decide +kernel
theorem dX6_faultOfPlan_131 : decode cX6_faultOfPlan 131 = .ok (.aload_n 0, 1) := by decide +kernel
theorem dX6_faultOfPlan_132 : decode cX6_faultOfPlan 132 = .ok (.iload 8, 2) := by decide +kernel
theorem dX6_faultOfPlan_134 : decode cX6_faultOfPlan 134 = .ok (.iconst 5, 1) := by decide +kernel
theorem dX6_faultOfPlan_135 : decode cX6_faultOfPlan 135 = .ok (.invokevirtual 77, 3) := by decide +kernel
theorem dX6_faultOfPlan_138 : decode cX6_faultOfPlan 138 = .ok (.iload 6, 2) := by decide +kernel
theorem dX6_faultOfPlan_140 : decode cX6_faultOfPlan 140 = .ok (.if_icmp .ne 7, 3) := by decide +kernel
theorem dX6_faultOfPlan_143 : decode cX6_faultOfPlan 143 = .ok (.iconst 1, 1) := by decide +kernel
theorem dX6_faultOfPlan_144 : decode cX6_faultOfPlan 144 = .ok (.goto 4, 3) := by decide +kernel
theorem dX6_faultOfPlan_147 : decode cX6_faultOfPlan 147 = .ok (.iconst 0, 1) := by decide +kernel
theorem dX6_faultOfPlan_148 : decode cX6_faultOfPlan 148 = .ok (.istore_n 3, 1) := by decide +kernel
theorem dX6_faultOfPlan_149 : decode cX6_faultOfPlan 149 = .ok (.iload 4, 2) := by decide +kernel
theorem dX6_faultOfPlan_151 : decode cX6_faultOfPlan 151 = .ok (.ifCond .ne 28, 3) := by decide +kernel
theorem dX6_faultOfPlan_154 : decode cX6_faultOfPlan 154 = .ok (.iload 9, 2) := by decide +kernel
theorem dX6_faultOfPlan_156 : decode cX6_faultOfPlan 156 = .ok (.ifCond .eq 27, 3) := by decide +kernel
theorem dX6_faultOfPlan_159 : decode cX6_faultOfPlan 159 = .ok (.aload_n 0, 1) := by decide +kernel
theorem dX6_faultOfPlan_160 : decode cX6_faultOfPlan 160 = .ok (.iload 5, 2) := by decide +kernel
theorem dX6_faultOfPlan_162 : decode cX6_faultOfPlan 162 = .ok (.iload 6, 2) := by decide +kernel
theorem dX6_faultOfPlan_164 : decode cX6_faultOfPlan 164 = .ok (.iload 8, 2) := by decide +kernel
theorem dX6_faultOfPlan_166 : decode cX6_faultOfPlan 166 = .ok (.aload_n 0, 1) := by decide +kernel
theorem dX6_faultOfPlan_167 : decode cX6_faultOfPlan 167 = .ok (.iload 8, 2) := by decide +kernel
theorem dX6_faultOfPlan_169 : decode cX6_faultOfPlan 169 = .ok (.iconst 5, 1) := by decide +kernel
theorem dX6_faultOfPlan_170 : decode cX6_faultOfPlan 170 = .ok (.invokevirtual 77, 3) := by decide +kernel
theorem dX6_faultOfPlan_173 : decode cX6_faultOfPlan 173 = .ok (.invokevirtual 155, 3) := by decide +kernel
theorem dX6_faultOfPlan_176 : decode cX6_faultOfPlan 176 = .ok (.ifCond .eq 7, 3) := by decide +kernel
theorem dX6_faultOfPlan_179 : decode cX6_faultOfPlan 179 = .ok (.iconst 1, 1) := by decide +kernel
theorem dX6_faultOfPlan_180 : decode cX6_faultOfPlan 180 = .ok (.goto 4, 3) := by decide +kernel
theorem dX6_faultOfPlan_183 : decode cX6_faultOfPlan 183 = .ok (.iconst 0, 1) := by decide +kernel
theorem dX6_faultOfPlan_184 : decode cX6_faultOfPlan 184 = .ok (.istore 4, 2) := by decide +kernel
theorem dX6_faultOfPlan_186 : decode cX6_faultOfPlan 186 = .ok (.iinc 8 1, 3) := by decide +kernel
theorem dX6_faultOfPlan_189 : decode cX6_faultOfPlan 189 = .ok (.goto (-96), 3) := by decide +kernel
theorem dX6_faultOfPlan_192 : decode cX6_faultOfPlan 192 = .ok (.iinc 5 1, 3) := by decide +kernel
theorem dX6_faultOfPlan_195 : decode cX6_faultOfPlan 195 = .ok (.goto (-183), 3) := by decide +kernel
theorem dX6_faultOfPlan_198 : decode cX6_faultOfPlan 198 = .ok (.iload_n 1, 1) := by decide +kernel
theorem dX6_faultOfPlan_199 : decode cX6_faultOfPlan 199 = .ok (.ifCond .eq 7, 3) := by decide +kernel
theorem dX6_faultOfPlan_202 : decode cX6_faultOfPlan 202 = .ok (.iconst 1, 1) := by decide +kernel
theorem dX6_faultOfPlan_203 : decode cX6_faultOfPlan 203 = .ok (.goto 29, 3) := by decide +kernel
theorem dX6_faultOfPlan_206 : decode cX6_faultOfPlan 206 = .ok (.iload_n 2, 1) := by decide +kernel
theorem dX6_faultOfPlan_207 : decode cX6_faultOfPlan 207 = .ok (.ifCond .eq 7, 3) := by decide +kernel
theorem dX6_faultOfPlan_210 : decode cX6_faultOfPlan 210 = .ok (.iconst 2, 1) := by decide +kernel
theorem dX6_faultOfPlan_211 : decode cX6_faultOfPlan 211 = .ok (.goto 21, 3) := by decide +kernel
theorem dX6_faultOfPlan_214 : decode cX6_faultOfPlan 214 = .ok (.iload_n 3, 1) := by decide +kernel
theorem dX6_faultOfPlan_215 : decode cX6_faultOfPlan 215 = .ok (.ifCond .eq 7, 3) := by decide +kernel
theorem dX6_faultOfPlan_218 : decode cX6_faultOfPlan 218 = .ok (.iconst 3, 1) := by decide +kernel
theorem dX6_faultOfPlan_219 : decode cX6_faultOfPlan 219 = .ok (.goto 13, 3) := by decide +kernel
theorem dX6_faultOfPlan_222 : decode cX6_faultOfPlan 222 = .ok (.iload 4, 2) := by decide +kernel
theorem dX6_faultOfPlan_224 : decode cX6_faultOfPlan 224 = .ok (.ifCond .eq 7, 3) := by decide +kernel
theorem dX6_faultOfPlan_227 : decode cX6_faultOfPlan 227 = .ok (.iconst 4, 1) := by decide +kernel
theorem dX6_faultOfPlan_228 : decode cX6_faultOfPlan 228 = .ok (.goto 4, 3) := by decide +kernel
theorem dX6_faultOfPlan_231 : decode cX6_faultOfPlan 231 = .ok (.iconst 0, 1) := by decide +kernel
theorem dX6_faultOfPlan_232 : decode cX6_faultOfPlan 232 = .ok (.ireturn, 1) := by decide +kernel
theorem dX6_may_0 : decode cX6_may 0 = .ok (.aload_n 0, 1) := by decide +kernel
theorem dX6_may_1 : decode cX6_may 1 = .ok (.iload_n 1, 1) := by decide +kernel
theorem dX6_may_2 : decode cX6_may 2 = .ok (.invokevirtual 143, 3) := by decide +kernel
theorem dX6_may_5 : decode cX6_may 5 = .ok (.istore_n 3, 1) := by decide +kernel
theorem dX6_may_6 : decode cX6_may 6 = .ok (.iconst 1, 1) := by decide +kernel
theorem dX6_may_7 : decode cX6_may 7 = .ok (.istore 4, 2) := by decide +kernel
theorem dX6_may_9 : decode cX6_may 9 = .ok (.iconst 0, 1) := by decide +kernel
theorem dX6_may_10 : decode cX6_may 10 = .ok (.istore 5, 2) := by decide +kernel
theorem dX6_may_12 : decode cX6_may 12 = .ok (.iload 5, 2) := by decide +kernel
theorem dX6_may_14 : decode cX6_may 14 = .ok (.iload_n 1, 1) := by decide +kernel
theorem dX6_may_15 : decode cX6_may 15 = .ok (.if_icmp .ge 116, 3) := by decide +kernel
theorem dX6_may_18 : decode cX6_may 18 = .ok (.aload_n 0, 1) := by decide +kernel
theorem dX6_may_19 : decode cX6_may 19 = .ok (.getfield 26, 3) := by decide +kernel
theorem dX6_may_22 : decode cX6_may 22 = .ok (.iload_n 1, 1) := by decide +kernel
theorem dX6_may_23 : decode cX6_may 23 = .ok (.iaload, 1) := by decide +kernel
theorem dX6_may_24 : decode cX6_may 24 = .ok (.iload 5, 2) := by decide +kernel
theorem dX6_may_26 : decode cX6_may 26 = .ok (.ishr, 1) := by decide +kernel
theorem dX6_may_27 : decode cX6_may 27 = .ok (.iconst 1, 1) := by decide +kernel
theorem dX6_may_28 : decode cX6_may 28 = .ok (.iand, 1) := by decide +kernel
theorem dX6_may_29 : decode cX6_may 29 = .ok (.iconst 1, 1) := by decide +kernel
theorem dX6_may_30 : decode cX6_may 30 = .ok (.if_icmp .ne 7, 3) := by decide +kernel
theorem dX6_may_33 : decode cX6_may 33 = .ok (.iconst 1, 1) := by decide +kernel
theorem dX6_may_34 : decode cX6_may 34 = .ok (.goto 4, 3) := by decide +kernel
theorem dX6_may_37 : decode cX6_may 37 = .ok (.iconst 0, 1) := by decide +kernel
theorem dX6_may_38 : decode cX6_may 38 = .ok (.istore 6, 2) := by decide +kernel
theorem dX6_may_40 : decode cX6_may 40 = .ok (.iload_n 3, 1) := by decide +kernel
theorem dX6_may_41 : decode cX6_may 41 = .ok (.aload_n 0, 1) := by decide +kernel
theorem dX6_may_42 : decode cX6_may 42 = .ok (.getfield 19, 3) := by decide +kernel
theorem dX6_may_45 : decode cX6_may 45 = .ok (.iload 5, 2) := by decide +kernel
theorem dX6_may_47 : decode cX6_may 47 = .ok (.iaload, 1) := by decide +kernel
theorem dX6_may_48 : decode cX6_may 48 = .ok (.aload_n 0, 1) := by decide +kernel
theorem dX6_may_49 : decode cX6_may 49 = .ok (.getfield 19, 3) := by decide +kernel
theorem dX6_may_52 : decode cX6_may 52 = .ok (.iload_n 1, 1) := by decide +kernel
theorem dX6_may_53 : decode cX6_may 53 = .ok (.iaload, 1) := by decide +kernel
theorem dX6_may_54 : decode cX6_may 54 = .ok (.if_icmp .ne 12, 3) := by decide +kernel
theorem dX6_may_57 : decode cX6_may 57 = .ok (.aload_n 0, 1) := by decide +kernel
theorem dX6_may_58 : decode cX6_may 58 = .ok (.iload 5, 2) := by decide +kernel
theorem dX6_may_60 : decode cX6_may 60 = .ok (.invokevirtual 143, 3) := by decide +kernel
theorem dX6_may_63 : decode cX6_may 63 = .ok (.goto 4, 3) := by decide +kernel
theorem dX6_may_66 : decode cX6_may 66 = .ok (.iconst 0, 1) := by decide +kernel
theorem dX6_may_67 : decode cX6_may 67 = .ok (.iadd, 1) := by decide +kernel
theorem dX6_may_68 : decode cX6_may 68 = .ok (.istore_n 3, 1) := by decide +kernel
theorem dX6_may_69 : decode cX6_may 69 = .ok (.iload 4, 2) := by decide +kernel
theorem dX6_may_71 : decode cX6_may 71 = .ok (.ifCond .eq 51, 3) := by decide +kernel
theorem dX6_may_74 : decode cX6_may 74 = .ok (.iload 6, 2) := by decide +kernel
theorem dX6_may_76 : decode cX6_may 76 = .ok (.ifCond .eq 42, 3) := by decide +kernel
theorem dX6_may_79 : decode cX6_may 79 = .ok (.aload_n 0, 1) := by decide +kernel
theorem dX6_may_80 : decode cX6_may 80 = .ok (.getfield 19, 3) := by decide +kernel
theorem dX6_may_83 : decode cX6_may 83 = .ok (.iload 5, 2) := by decide +kernel
theorem dX6_may_85 : decode cX6_may 85 = .ok (.iaload, 1) := by decide +kernel
theorem dX6_may_86 : decode cX6_may 86 = .ok (.aload_n 0, 1) := by decide +kernel
theorem dX6_may_87 : decode cX6_may 87 = .ok (.getfield 19, 3) := by decide +kernel
theorem dX6_may_90 : decode cX6_may 90 = .ok (.iload_n 1, 1) := by decide +kernel
theorem dX6_may_91 : decode cX6_may 91 = .ok (.iaload, 1) := by decide +kernel
theorem dX6_may_92 : decode cX6_may 92 = .ok (.if_icmp .eq 30, 3) := by decide +kernel
theorem dX6_may_95 : decode cX6_may 95 = .ok (.aload_n 0, 1) := by decide +kernel
theorem dX6_may_96 : decode cX6_may 96 = .ok (.iload 5, 2) := by decide +kernel
theorem dX6_may_98 : decode cX6_may 98 = .ok (.aload_n 0, 1) := by decide +kernel
theorem dX6_may_99 : decode cX6_may 99 = .ok (.getfield 19, 3) := by decide +kernel
theorem dX6_may_102 : decode cX6_may 102 = .ok (.iload 5, 2) := by decide +kernel
theorem dX6_may_104 : decode cX6_may 104 = .ok (.iaload, 1) := by decide +kernel
theorem dX6_may_105 : decode cX6_may 105 = .ok (.iload_n 1, 1) := by decide +kernel
theorem dX6_may_106 : decode cX6_may 106 = .ok (.aload_n 0, 1) := by decide +kernel
theorem dX6_may_107 : decode cX6_may 107 = .ok (.getfield 19, 3) := by decide +kernel
theorem dX6_may_110 : decode cX6_may 110 = .ok (.iload_n 1, 1) := by decide +kernel
theorem dX6_may_111 : decode cX6_may 111 = .ok (.iaload, 1) := by decide +kernel
theorem dX6_may_112 : decode cX6_may 112 = .ok (.invokevirtual 155, 3) := by decide +kernel
theorem dX6_may_115 : decode cX6_may 115 = .ok (.ifCond .ne 7, 3) := by decide +kernel
theorem dX6_may_118 : decode cX6_may 118 = .ok (.iconst 1, 1) := by decide +kernel
theorem dX6_may_119 : decode cX6_may 119 = .ok (.goto 4, 3) := by decide +kernel
theorem dX6_may_122 : decode cX6_may 122 = .ok (.iconst 0, 1) := by decide +kernel
theorem dX6_may_123 : decode cX6_may 123 = .ok (.istore 4, 2) := by decide +kernel
theorem dX6_may_125 : decode cX6_may 125 = .ok (.iinc 5 1, 3) := by decide +kernel
theorem dX6_may_128 : decode cX6_may 128 = .ok (.goto (-116), 3) := by decide +kernel
theorem dX6_may_131 : decode cX6_may 131 = .ok (.iload 4, 2) := by decide +kernel
theorem dX6_may_133 : decode cX6_may 133 = .ok (.ifCond .eq 12, 3) := by decide +kernel
theorem dX6_may_136 : decode cX6_may 136 = .ok (.iload_n 3, 1) := by decide +kernel
theorem dX6_may_137 : decode cX6_may 137 = .ok (.iload_n 2, 1) := by decide +kernel
theorem dX6_may_138 : decode cX6_may 138 = .ok (.if_icmp .gt 7, 3) := by decide +kernel
theorem dX6_may_141 : decode cX6_may 141 = .ok (.iconst 1, 1) := by decide +kernel
theorem dX6_may_142 : decode cX6_may 142 = .ok (.goto 4, 3) := by decide +kernel
theorem dX6_may_145 : decode cX6_may 145 = .ok (.iconst 0, 1) := by decide +kernel
theorem dX6_may_146 : decode cX6_may 146 = .ok (.ireturn, 1) := by decide +kernel
theorem dX6_seeks_0 : decode cX6_seeks 0 = .ok (.aload_n 0, 1) := by decide +kernel
theorem dX6_seeks_1 : decode cX6_seeks 1 = .ok (.bipush 8, 2) := by decide +kernel
theorem dX6_seeks_3 : decode cX6_seeks 3 = .ok (.invokevirtual 52, 3) := by decide +kernel
theorem dX6_seeks_6 : decode cX6_seeks 6 = .ok (.istore_n 3, 1) := by decide +kernel
theorem dX6_seeks_7 : decode cX6_seeks 7 = .ok (.iconst 0, 1) := by decide +kernel
theorem dX6_seeks_8 : decode cX6_seeks 8 = .ok (.istore 4, 2) := by decide +kernel
theorem dX6_seeks_10 : decode cX6_seeks 10 = .ok (.aload_n 0, 1) := by decide +kernel
theorem dX6_seeks_11 : decode cX6_seeks 11 = .ok (.getfield 19, 3) := by decide +kernel
theorem dX6_seeks_14 : decode cX6_seeks 14 = .ok (.iconst 0, 1) := by decide +kernel
theorem dX6_seeks_15 : decode cX6_seeks 15 = .ok (.iconst (-1), 1) := by decide +kernel
theorem dX6_seeks_16 : decode cX6_seeks 16 = .ok (.iastore, 1) := by decide +kernel
theorem dX6_seeks_17 : decode cX6_seeks 17 = .ok (.iload 4, 2) := by decide +kernel
theorem dX6_seeks_19 : decode cX6_seeks 19 = .ok (.ifCond .lt 67, 3) := by decide +kernel
theorem dX6_seeks_22 : decode cX6_seeks 22 = .ok (.iload 4, 2) := by decide +kernel
theorem dX6_seeks_24 : decode cX6_seeks 24 = .ok (.iload_n 3, 1) := by decide +kernel
theorem dX6_seeks_25 : decode cX6_seeks 25 = .ok (.if_icmp .ge 61, 3) := by decide +kernel
theorem dX6_seeks_28 : decode cX6_seeks 28 = .ok (.aload_n 0, 1) := by decide +kernel
theorem dX6_seeks_29 : decode cX6_seeks 29 = .ok (.getfield 19, 3) := by decide +kernel
theorem dX6_seeks_32 : decode cX6_seeks 32 = .ok (.iload 4, 2) := by decide +kernel
theorem dX6_seeks_34 : decode cX6_seeks 34 = .ok (.dup2, 1) := by decide +kernel
theorem dX6_seeks_35 : decode cX6_seeks 35 = .ok (.iaload, 1) := by decide +kernel
theorem dX6_seeks_36 : decode cX6_seeks 36 = .ok (.iconst 1, 1) := by decide +kernel
theorem dX6_seeks_37 : decode cX6_seeks 37 = .ok (.iadd, 1) := by decide +kernel
theorem dX6_seeks_38 : decode cX6_seeks 38 = .ok (.iastore, 1) := by decide +kernel
theorem dX6_seeks_39 : decode cX6_seeks 39 = .ok (.aload_n 0, 1) := by decide +kernel
theorem dX6_seeks_40 : decode cX6_seeks 40 = .ok (.getfield 19, 3) := by decide +kernel
theorem dX6_seeks_43 : decode cX6_seeks 43 = .ok (.iload 4, 2) := by decide +kernel
theorem dX6_seeks_45 : decode cX6_seeks 45 = .ok (.iaload, 1) := by decide +kernel
theorem dX6_seeks_46 : decode cX6_seeks 46 = .ok (.iload_n 1, 1) := by decide +kernel
theorem dX6_seeks_47 : decode cX6_seeks 47 = .ok (.if_icmp .lt 9, 3) := by decide +kernel
theorem dX6_seeks_50 : decode cX6_seeks 50 = .ok (.iinc 4 (-1), 3) := by decide +kernel
theorem dX6_seeks_53 : decode cX6_seeks 53 = .ok (.goto (-36), 3) := by decide +kernel
theorem dX6_seeks_56 : decode cX6_seeks 56 = .ok (.aload_n 0, 1) := by decide +kernel
theorem dX6_seeks_57 : decode cX6_seeks 57 = .ok (.iload 4, 2) := by decide +kernel
theorem dX6_seeks_59 : decode cX6_seeks 59 = .ok (.iload_n 2, 1) := by decide +kernel
theorem dX6_seeks_60 : decode cX6_seeks 60 = .ok (.invokevirtual 158, 3) := by decide +kernel
theorem dX6_seeks_63 : decode cX6_seeks 63 = .ok (.ifCond .eq (-46), 3) := by decide +kernel
theorem dX6_seeks_66 : decode cX6_seeks 66 = .ok (.iinc 4 1, 3) := by decide +kernel
theorem dX6_seeks_69 : decode cX6_seeks 69 = .ok (.iload 4, 2) := by decide +kernel
theorem dX6_seeks_71 : decode cX6_seeks 71 = .ok (.iload_n 3, 1) := by decide +kernel
theorem dX6_seeks_72 : decode cX6_seeks 72 = .ok (.if_icmp .ge (-55), 3) := by decide +kernel
theorem dX6_seeks_75 : decode cX6_seeks 75 = .ok (.aload_n 0, 1) := by decide +kernel
theorem dX6_seeks_76 : decode cX6_seeks 76 = .ok (.getfield 19, 3) := by decide +kernel
theorem dX6_seeks_79 : decode cX6_seeks 79 = .ok (.iload 4, 2) := by decide +kernel
theorem dX6_seeks_81 : decode cX6_seeks 81 = .ok (.iconst (-1), 1) := by decide +kernel
theorem dX6_seeks_82 : decode cX6_seeks 82 = .ok (.iastore, 1) := by decide +kernel
theorem dX6_seeks_83 : decode cX6_seeks 83 = .ok (.goto (-66), 3) := by decide +kernel
theorem dX6_seeks_86 : decode cX6_seeks 86 = .ok (.iconst 0, 1) := by decide +kernel
theorem dX6_seeks_87 : decode cX6_seeks 87 = .ok (.istore 5, 2) := by decide +kernel
theorem dX6_seeks_89 : decode cX6_seeks 89 = .ok (.iload 5, 2) := by decide +kernel
theorem dX6_seeks_91 : decode cX6_seeks 91 = .ok (.iload_n 3, 1) := by decide +kernel
theorem dX6_seeks_92 : decode cX6_seeks 92 = .ok (.if_icmp .ge 23, 3) := by decide +kernel
theorem dX6_seeks_95 : decode cX6_seeks 95 = .ok (.aload_n 0, 1) := by decide +kernel
theorem dX6_seeks_96 : decode cX6_seeks 96 = .ok (.getfield 23, 3) := by decide +kernel
theorem dX6_seeks_99 : decode cX6_seeks 99 = .ok (.iload 5, 2) := by decide +kernel
theorem dX6_seeks_101 : decode cX6_seeks 101 = .ok (.aload_n 0, 1) := by decide +kernel
theorem dX6_seeks_102 : decode cX6_seeks 102 = .ok (.getfield 19, 3) := by decide +kernel
theorem dX6_seeks_105 : decode cX6_seeks 105 = .ok (.iload 5, 2) := by decide +kernel
theorem dX6_seeks_107 : decode cX6_seeks 107 = .ok (.iaload, 1) := by decide +kernel
theorem dX6_seeks_108 : decode cX6_seeks 108 = .ok (.iastore, 1) := by decide +kernel
theorem dX6_seeks_109 : decode cX6_seeks 109 = .ok (.iinc 5 1, 3) := by decide +kernel
theorem dX6_seeks_112 : decode cX6_seeks 112 = .ok (.goto (-23), 3) := by decide +kernel
theorem dX6_seeks_115 : decode cX6_seeks 115 = .ok (.iload 4, 2) := by decide +kernel
theorem dX6_seeks_117 : decode cX6_seeks 117 = .ok (.iload_n 3, 1) := by decide +kernel
theorem dX6_seeks_118 : decode cX6_seeks 118 = .ok (.if_icmp .ne 7, 3) := by decide +kernel
theorem dX6_seeks_121 : decode cX6_seeks 121 = .ok (.iconst 1, 1) := by decide +kernel
theorem dX6_seeks_122 : decode cX6_seeks 122 = .ok (.goto 4, 3) := by decide +kernel
theorem dX6_seeks_125 : decode cX6_seeks 125 = .ok (.iconst 0, 1) := by decide +kernel
theorem dX6_seeks_126 : decode cX6_seeks 126 = .ok (.ireturn, 1) := by decide +kernel
theorem dX6_plans_0 : decode cX6_plans 0 = .ok (.iconst 0, 1) := by decide +kernel
theorem dX6_plans_1 : decode cX6_plans 1 = .ok (.istore_n 2, 1) := by decide +kernel
theorem dX6_plans_2 : decode cX6_plans 2 = .ok (.iload_n 2, 1) := by decide +kernel
theorem dX6_plans_3 : decode cX6_plans 3 = .ok (.aload_n 0, 1) := by decide +kernel
theorem dX6_plans_4 : decode cX6_plans 4 = .ok (.bipush 8, 2) := by decide +kernel
theorem dX6_plans_6 : decode cX6_plans 6 = .ok (.invokevirtual 52, 3) := by decide +kernel
theorem dX6_plans_9 : decode cX6_plans 9 = .ok (.if_icmp .ge 20, 3) := by decide +kernel
theorem dX6_plans_12 : decode cX6_plans 12 = .ok (.aload_n 0, 1) := by decide +kernel
theorem dX6_plans_13 : decode cX6_plans 13 = .ok (.getfield 26, 3) := by decide +kernel
theorem dX6_plans_16 : decode cX6_plans 16 = .ok (.iload_n 2, 1) := by decide +kernel
theorem dX6_plans_17 : decode cX6_plans 17 = .ok (.aload_n 0, 1) := by decide +kernel
theorem dX6_plans_18 : decode cX6_plans 18 = .ok (.iload_n 2, 1) := by decide +kernel
theorem dX6_plans_19 : decode cX6_plans 19 = .ok (.invokevirtual 146, 3) := by decide +kernel
theorem dX6_plans_22 : decode cX6_plans 22 = .ok (.iastore, 1) := by decide +kernel
theorem dX6_plans_23 : decode cX6_plans 23 = .ok (.iinc 2 1, 3) := by decide +kernel
theorem dX6_plans_26 : decode cX6_plans 26 = .ok (.goto (-24), 3) := by decide +kernel
theorem dX6_plans_29 : decode cX6_plans 29 = .ok (.iconst 0, 1) := by decide +kernel
theorem dX6_plans_30 : decode cX6_plans 30 = .ok (.istore_n 2, 1) := by decide +kernel
theorem dX6_plans_31 : decode cX6_plans 31 = .ok (.iload_n 2, 1) := by decide +kernel
theorem dX6_plans_32 : decode cX6_plans 32 = .ok (.bipush 8, 2) := by decide +kernel
theorem dX6_plans_34 : decode cX6_plans 34 = .ok (.if_icmp .gt 20, 3) := by decide +kernel
theorem dX6_plans_37 : decode cX6_plans 37 = .ok (.aload_n 0, 1) := by decide +kernel
theorem dX6_plans_38 : decode cX6_plans 38 = .ok (.iload_n 2, 1) := by decide +kernel
theorem dX6_plans_39 : decode cX6_plans 39 = .ok (.iload_n 1, 1) := by decide +kernel
theorem dX6_plans_40 : decode cX6_plans 40 = .ok (.invokevirtual 161, 3) := by decide +kernel
theorem dX6_plans_43 : decode cX6_plans 43 = .ok (.ifCond .eq 5, 3) := by decide +kernel
theorem dX6_plans_46 : decode cX6_plans 46 = .ok (.iload_n 2, 1) := by decide +kernel
theorem dX6_plans_47 : decode cX6_plans 47 = .ok (.ireturn, 1) := by decide +kernel
theorem dX6_plans_48 : decode cX6_plans 48 = .ok (.iinc 2 1, 3) := by decide +kernel
theorem dX6_plans_51 : decode cX6_plans 51 = .ok (.goto (-20), 3) := by decide +kernel
theorem dX6_plans_54 : decode cX6_plans 54 = .ok (.iconst (-1), 1) := by decide +kernel
theorem dX6_plans_55 : decode cX6_plans 55 = .ok (.ireturn, 1) := by decide +kernel
theorem dX6_setStation_0 : decode cX6_setStation 0 = .ok (.aload_n 0, 1) := by decide +kernel
theorem dX6_setStation_1 : decode cX6_setStation 1 = .ok (.iconst 0, 1) := by decide +kernel
theorem dX6_setStation_2 : decode cX6_setStation 2 = .ok (.putfield 48, 3) := by decide +kernel
theorem dX6_setStation_5 : decode cX6_setStation 5 = .ok (.aload_n 0, 1) := by decide +kernel
theorem dX6_setStation_6 : decode cX6_setStation 6 = .ok (.iload_n 1, 1) := by decide +kernel
theorem dX6_setStation_7 : decode cX6_setStation 7 = .ok (.invokevirtual 135, 3) := by decide +kernel
theorem dX6_setStation_10 : decode cX6_setStation 10 = .ok (.ifCond .ne 9, 3) := by decide +kernel
theorem dX6_setStation_13 : decode cX6_setStation 13 = .ok (.aload_n 0, 1) := by decide +kernel
theorem dX6_setStation_14 : decode cX6_setStation 14 = .ok (.iconst 1, 1) := by decide +kernel
theorem dX6_setStation_15 : decode cX6_setStation 15 = .ok (.invokevirtual 110, 3) := by decide +kernel
theorem dX6_setStation_18 : decode cX6_setStation 18 = .ok (.ireturn, 1) := by decide +kernel
theorem dX6_setStation_19 : decode cX6_setStation 19 = .ok (.iload_n 2, 1) := by decide +kernel
theorem dX6_setStation_20 : decode cX6_setStation 20 = .ok (.iconst (-1), 1) := by decide +kernel
theorem dX6_setStation_21 : decode cX6_setStation 21 = .ok (.bipush 7, 2) := by decide +kernel
theorem dX6_setStation_23 : decode cX6_setStation 23 = .ok (.invokestatic 56, 3) := by decide +kernel
theorem dX6_setStation_26 : decode cX6_setStation 26 = .ok (.ifCond .ne 9, 3) := by decide +kernel
theorem dX6_setStation_29 : decode cX6_setStation 29 = .ok (.aload_n 0, 1) := by decide +kernel
theorem dX6_setStation_30 : decode cX6_setStation 30 = .ok (.iconst 2, 1) := by decide +kernel
theorem dX6_setStation_31 : decode cX6_setStation 31 = .ok (.invokevirtual 110, 3) := by decide +kernel
theorem dX6_setStation_34 : decode cX6_setStation 34 = .ok (.ireturn, 1) := by decide +kernel
theorem dX6_setStation_35 : decode cX6_setStation 35 = .ok (.aload_n 0, 1) := by decide +kernel
theorem dX6_setStation_36 : decode cX6_setStation 36 = .ok (.invokevirtual 113, 3) := by decide +kernel
theorem dX6_setStation_39 : decode cX6_setStation 39 = .ok (.aload_n 0, 1) := by decide +kernel
theorem dX6_setStation_40 : decode cX6_setStation 40 = .ok (.iload_n 1, 1) := by decide +kernel
theorem dX6_setStation_41 : decode cX6_setStation 41 = .ok (.iconst 5, 1) := by decide +kernel
theorem dX6_setStation_42 : decode cX6_setStation 42 = .ok (.invokevirtual 77, 3) := by decide +kernel
theorem dX6_setStation_45 : decode cX6_setStation 45 = .ok (.istore_n 3, 1) := by decide +kernel
theorem dX6_setStation_46 : decode cX6_setStation 46 = .ok (.aload_n 0, 1) := by decide +kernel
theorem dX6_setStation_47 : decode cX6_setStation 47 = .ok (.getfield 7, 3) := by decide +kernel
theorem dX6_setStation_50 : decode cX6_setStation 50 = .ok (.bipush 20, 2) := by decide +kernel
theorem dX6_setStation_52 : decode cX6_setStation 52 = .ok (.bipush 6, 2) := by decide +kernel
theorem dX6_setStation_54 : decode cX6_setStation 54 = .ok (.iload_n 1, 1) := by decide +kernel
theorem dX6_setStation_55 : decode cX6_setStation 55 = .ok (.imul, 1) := by decide +kernel
theorem dX6_setStation_56 : decode cX6_setStation 56 = .ok (.iadd, 1) := by decide +kernel
theorem dX6_setStation_57 : decode cX6_setStation 57 = .ok (.iconst 5, 1) := by decide +kernel
theorem dX6_setStation_58 : decode cX6_setStation 58 = .ok (.iadd, 1) := by decide +kernel
theorem dX6_setStation_59 : decode cX6_setStation 59 = .ok (.iload_n 2, 1) := by decide +kernel
theorem dX6_setStation_60 : decode cX6_setStation 60 = .ok (.i2l, 1) := by decide +kernel
theorem dX6_setStation_61 : decode cX6_setStation 61 = .ok (.lastore, 1) := by decide +kernel
theorem dX6_setStation_62 : decode cX6_setStation 62 = .ok (.iload_n 3, 1) := by decide +kernel
theorem dX6_setStation_63 : decode cX6_setStation 63 = .ok (.ireturn, 1) := by decide +kernel
theorem dX6_usePlan_0 : decode cX6_usePlan 0 = .ok (.aload_n 0, 1) := by decide +kernel
theorem dX6_usePlan_1 : decode cX6_usePlan 1 = .ok (.iconst 0, 1) := by decide +kernel
theorem dX6_usePlan_2 : decode cX6_usePlan 2 = .ok (.putfield 48, 3) := by decide +kernel
theorem dX6_usePlan_5 : decode cX6_usePlan 5 = .ok (.aload_n 0, 1) := by decide +kernel
theorem dX6_usePlan_6 : decode cX6_usePlan 6 = .ok (.aload_n 0, 1) := by decide +kernel
theorem dX6_usePlan_7 : decode cX6_usePlan 7 = .ok (.iconst 0, 1) := by decide +kernel
theorem dX6_usePlan_8 : decode cX6_usePlan 8 = .ok (.invokevirtual 128, 3) := by decide +kernel
theorem dX6_usePlan_11 : decode cX6_usePlan 11 = .ok (.invokevirtual 164, 3) := by decide +kernel
theorem dX6_usePlan_14 : decode cX6_usePlan 14 = .ok (.istore_n 1, 1) := by decide +kernel
theorem dX6_usePlan_15 : decode cX6_usePlan 15 = .ok (.iload_n 1, 1) := by decide +kernel
theorem dX6_usePlan_16 : decode cX6_usePlan 16 = .ok (.iconst (-1), 1) := by decide +kernel
theorem dX6_usePlan_17 : decode cX6_usePlan 17 = .ok (.if_icmp .ne 9, 3) := by decide +kernel
theorem dX6_usePlan_20 : decode cX6_usePlan 20 = .ok (.aload_n 0, 1) := by decide +kernel
theorem dX6_usePlan_21 : decode cX6_usePlan 21 = .ok (.iconst 1, 1) := by decide +kernel
theorem dX6_usePlan_22 : decode cX6_usePlan 22 = .ok (.invokevirtual 110, 3) := by decide +kernel
theorem dX6_usePlan_25 : decode cX6_usePlan 25 = .ok (.ireturn, 1) := by decide +kernel
theorem dX6_usePlan_26 : decode cX6_usePlan 26 = .ok (.aload_n 0, 1) := by decide +kernel
theorem dX6_usePlan_27 : decode cX6_usePlan 27 = .ok (.invokevirtual 113, 3) := by decide +kernel
theorem dX6_usePlan_30 : decode cX6_usePlan 30 = .ok (.iconst 0, 1) := by decide +kernel
theorem dX6_usePlan_31 : decode cX6_usePlan 31 = .ok (.istore_n 2, 1) := by decide +kernel
theorem dX6_usePlan_32 : decode cX6_usePlan 32 = .ok (.iload_n 2, 1) := by decide +kernel
theorem dX6_usePlan_33 : decode cX6_usePlan 33 = .ok (.aload_n 0, 1) := by decide +kernel
theorem dX6_usePlan_34 : decode cX6_usePlan 34 = .ok (.bipush 8, 2) := by decide +kernel
theorem dX6_usePlan_36 : decode cX6_usePlan 36 = .ok (.invokevirtual 52, 3) := by decide +kernel
theorem dX6_usePlan_39 : decode cX6_usePlan 39 = .ok (.if_icmp .ge 30, 3) := by decide +kernel
theorem dX6_usePlan_42 : decode cX6_usePlan 42 = .ok (.aload_n 0, 1) := by decide +kernel
theorem dX6_usePlan_43 : decode cX6_usePlan 43 = .ok (.getfield 7, 3) := by decide +kernel
theorem dX6_usePlan_46 : decode cX6_usePlan 46 = .ok (.bipush 20, 2) := by decide +kernel
theorem dX6_usePlan_48 : decode cX6_usePlan 48 = .ok (.bipush 6, 2) := by decide +kernel
theorem dX6_usePlan_50 : decode cX6_usePlan 50 = .ok (.iload_n 2, 1) := by decide +kernel
theorem dX6_usePlan_51 : decode cX6_usePlan 51 = .ok (.imul, 1) := by decide +kernel
theorem dX6_usePlan_52 : decode cX6_usePlan 52 = .ok (.iadd, 1) := by decide +kernel
theorem dX6_usePlan_53 : decode cX6_usePlan 53 = .ok (.iconst 5, 1) := by decide +kernel
theorem dX6_usePlan_54 : decode cX6_usePlan 54 = .ok (.iadd, 1) := by decide +kernel
theorem dX6_usePlan_55 : decode cX6_usePlan 55 = .ok (.aload_n 0, 1) := by decide +kernel
theorem dX6_usePlan_56 : decode cX6_usePlan 56 = .ok (.getfield 23, 3) := by decide +kernel
theorem dX6_usePlan_59 : decode cX6_usePlan 59 = .ok (.iload_n 2, 1) := by decide +kernel
theorem dX6_usePlan_60 : decode cX6_usePlan 60 = .ok (.iaload, 1) := by decide +kernel
theorem dX6_usePlan_61 : decode cX6_usePlan 61 = .ok (.i2l, 1) := by decide +kernel
theorem dX6_usePlan_62 : decode cX6_usePlan 62 = .ok (.lastore, 1) := by decide +kernel
theorem dX6_usePlan_63 : decode cX6_usePlan 63 = .ok (.iinc 2 1, 3) := by decide +kernel
theorem dX6_usePlan_66 : decode cX6_usePlan 66 = .ok (.goto (-34), 3) := by decide +kernel
theorem dX6_usePlan_69 : decode cX6_usePlan 69 = .ok (.iload_n 1, 1) := by decide +kernel
theorem dX6_usePlan_70 : decode cX6_usePlan 70 = .ok (.ireturn, 1) := by decide +kernel
theorem dX6_setPilot_0 : decode cX6_setPilot 0 = .ok (.aload_n 0, 1) := by decide +kernel
theorem dX6_setPilot_1 : decode cX6_setPilot 1 = .ok (.iconst 0, 1) := by decide +kernel
theorem dX6_setPilot_2 : decode cX6_setPilot 2 = .ok (.putfield 48, 3) := by decide +kernel
theorem dX6_setPilot_5 : decode cX6_setPilot 5 = .ok (.iload_n 1, 1) := by decide +kernel
theorem dX6_setPilot_6 : decode cX6_setPilot 6 = .ok (.iconst 0, 1) := by decide +kernel
theorem dX6_setPilot_7 : decode cX6_setPilot 7 = .ok (.bipush 7, 2) := by decide +kernel
theorem dX6_setPilot_9 : decode cX6_setPilot 9 = .ok (.invokestatic 56, 3) := by decide +kernel
theorem dX6_setPilot_12 : decode cX6_setPilot 12 = .ok (.ifCond .ne 9, 3) := by decide +kernel
theorem dX6_setPilot_15 : decode cX6_setPilot 15 = .ok (.aload_n 0, 1) := by decide +kernel
theorem dX6_setPilot_16 : decode cX6_setPilot 16 = .ok (.iconst 1, 1) := by decide +kernel
theorem dX6_setPilot_17 : decode cX6_setPilot 17 = .ok (.invokevirtual 110, 3) := by decide +kernel
theorem dX6_setPilot_20 : decode cX6_setPilot 20 = .ok (.ireturn, 1) := by decide +kernel
theorem dX6_setPilot_21 : decode cX6_setPilot 21 = .ok (.aload_n 0, 1) := by decide +kernel
theorem dX6_setPilot_22 : decode cX6_setPilot 22 = .ok (.invokevirtual 113, 3) := by decide +kernel
theorem dX6_setPilot_25 : decode cX6_setPilot 25 = .ok (.aload_n 0, 1) := by decide +kernel
theorem dX6_setPilot_26 : decode cX6_setPilot 26 = .ok (.getfield 7, 3) := by decide +kernel
theorem dX6_setPilot_29 : decode cX6_setPilot 29 = .ok (.bipush 13, 2) := by decide +kernel
theorem dX6_setPilot_31 : decode cX6_setPilot 31 = .ok (.iload_n 2, 1) := by decide +kernel
theorem dX6_setPilot_32 : decode cX6_setPilot 32 = .ok (.ifCond .eq 17, 3) := by decide +kernel
theorem dX6_setPilot_35 : decode cX6_setPilot 35 = .ok (.aload_n 0, 1) := by decide +kernel
theorem dX6_setPilot_36 : decode cX6_setPilot 36 = .ok (.getfield 7, 3) := by decide +kernel
theorem dX6_setPilot_39 : decode cX6_setPilot 39 = .ok (.bipush 13, 2) := by decide +kernel
theorem dX6_setPilot_41 : decode cX6_setPilot 41 = .ok (.laload, 1) := by decide +kernel
theorem dX6_setPilot_42 : decode cX6_setPilot 42 = .ok (.lconst 1, 1) := by decide +kernel
theorem dX6_setPilot_43 : decode cX6_setPilot 43 = .ok (.iload_n 1, 1) := by decide +kernel
theorem dX6_setPilot_44 : decode cX6_setPilot 44 = .ok (.lshl, 1) := by decide +kernel
theorem dX6_setPilot_45 : decode cX6_setPilot 45 = .ok (.lor, 1) := by decide +kernel
theorem dX6_setPilot_46 : decode cX6_setPilot 46 = .ok (.goto 18, 3) := by decide +kernel
theorem dX6_setPilot_49 : decode cX6_setPilot 49 = .ok (.aload_n 0, 1) := by decide +kernel
theorem dX6_setPilot_50 : decode cX6_setPilot 50 = .ok (.getfield 7, 3) := by decide +kernel
theorem dX6_setPilot_53 : decode cX6_setPilot 53 = .ok (.bipush 13, 2) := by decide +kernel
theorem dX6_setPilot_55 : decode cX6_setPilot 55 = .ok (.laload, 1) := by decide +kernel
theorem dX6_setPilot_56 : decode cX6_setPilot 56 = .ok (.lconst 1, 1) := by decide +kernel
theorem dX6_setPilot_57 : decode cX6_setPilot 57 = .ok (.iload_n 1, 1) := by decide +kernel
theorem dX6_setPilot_58 : decode cX6_setPilot 58 = .ok (.lshl, 1) := by decide +kernel
theorem dX6_setPilot_59 : decode cX6_setPilot 59 = .ok (.ldc2_w 75, 3) := by decide +kernel
theorem dX6_setPilot_62 : decode cX6_setPilot 62 = .ok (.lxor, 1) := by decide +kernel
theorem dX6_setPilot_63 : decode cX6_setPilot 63 = .ok (.land, 1) := by decide +kernel
theorem dX6_setPilot_64 : decode cX6_setPilot 64 = .ok (.lastore, 1) := by decide +kernel
theorem dX6_setPilot_65 : decode cX6_setPilot 65 = .ok (.aload_n 0, 1) := by decide +kernel
theorem dX6_setPilot_66 : decode cX6_setPilot 66 = .ok (.getfield 7, 3) := by decide +kernel
theorem dX6_setPilot_69 : decode cX6_setPilot 69 = .ok (.bipush 13, 2) := by decide +kernel
theorem dX6_setPilot_71 : decode cX6_setPilot 71 = .ok (.laload, 1) := by decide +kernel
theorem dX6_setPilot_72 : decode cX6_setPilot 72 = .ok (.invokestatic 120, 3) := by decide +kernel
theorem dX6_setPilot_75 : decode cX6_setPilot 75 = .ok (.ireturn, 1) := by decide +kernel
theorem dX6_pitches_0 : decode cX6_pitches 0 = .ok (.iconst 0, 1) := by decide +kernel
theorem dX6_pitches_1 : decode cX6_pitches 1 = .ok (.istore_n 1, 1) := by decide +kernel
theorem dX6_pitches_2 : decode cX6_pitches 2 = .ok (.iconst 0, 1) := by decide +kernel
theorem dX6_pitches_3 : decode cX6_pitches 3 = .ok (.istore_n 2, 1) := by decide +kernel
theorem dX6_pitches_4 : decode cX6_pitches 4 = .ok (.iload_n 2, 1) := by decide +kernel
theorem dX6_pitches_5 : decode cX6_pitches 5 = .ok (.bipush 8, 2) := by decide +kernel
theorem dX6_pitches_7 : decode cX6_pitches 7 = .ok (.if_icmp .ge 19, 3) := by decide +kernel
theorem dX6_pitches_10 : decode cX6_pitches 10 = .ok (.iload_n 1, 1) := by decide +kernel
theorem dX6_pitches_11 : decode cX6_pitches 11 = .ok (.aload_n 0, 1) := by decide +kernel
theorem dX6_pitches_12 : decode cX6_pitches 12 = .ok (.iload_n 2, 1) := by decide +kernel
theorem dX6_pitches_13 : decode cX6_pitches 13 = .ok (.iconst 0, 1) := by decide +kernel
theorem dX6_pitches_14 : decode cX6_pitches 14 = .ok (.invokevirtual 139, 3) := by decide +kernel
theorem dX6_pitches_17 : decode cX6_pitches 17 = .ok (.l2i, 1) := by decide +kernel
theorem dX6_pitches_18 : decode cX6_pitches 18 = .ok (.iadd, 1) := by decide +kernel
theorem dX6_pitches_19 : decode cX6_pitches 19 = .ok (.istore_n 1, 1) := by decide +kernel
theorem dX6_pitches_20 : decode cX6_pitches 20 = .ok (.iinc 2 1, 3) := by decide +kernel
theorem dX6_pitches_23 : decode cX6_pitches 23 = .ok (.goto (-19), 3) := by decide +kernel
theorem dX6_pitches_26 : decode cX6_pitches 26 = .ok (.iload_n 1, 1) := by decide +kernel
theorem dX6_pitches_27 : decode cX6_pitches 27 = .ok (.ireturn, 1) := by decide +kernel
theorem dX6_isGood_0 : decode cX6_isGood 0 = .ok (.aload_n 0, 1) := by decide +kernel
theorem dX6_isGood_1 : decode cX6_isGood 1 = .ok (.invokevirtual 85, 3) := by decide +kernel
theorem dX6_isGood_4 : decode cX6_isGood 4 = .ok (.lstore_n 2, 1) := by decide +kernel
theorem dX6_isGood_5 : decode cX6_isGood 5 = .ok (.aload_n 0, 1) := by decide +kernel
theorem dX6_isGood_6 : decode cX6_isGood 6 = .ok (.invokevirtual 95, 3) := by decide +kernel
theorem dX6_isGood_9 : decode cX6_isGood 9 = .ok (.lload_n 2, 1) := by decide +kernel
theorem dX6_isGood_10 : decode cX6_isGood 10 = .ok (.ldc2_w 75, 3) := by decide +kernel
theorem dX6_isGood_13 : decode cX6_isGood 13 = .ok (.lxor, 1) := by decide +kernel
theorem dX6_isGood_14 : decode cX6_isGood 14 = .ok (.land, 1) := by decide +kernel
theorem dX6_isGood_15 : decode cX6_isGood 15 = .ok (.aload_n 0, 1) := by decide +kernel
theorem dX6_isGood_16 : decode cX6_isGood 16 = .ok (.invokevirtual 88, 3) := by decide +kernel
theorem dX6_isGood_19 : decode cX6_isGood 19 = .ok (.ldc2_w 75, 3) := by decide +kernel
theorem dX6_isGood_22 : decode cX6_isGood 22 = .ok (.lxor, 1) := by decide +kernel
theorem dX6_isGood_23 : decode cX6_isGood 23 = .ok (.land, 1) := by decide +kernel
theorem dX6_isGood_24 : decode cX6_isGood 24 = .ok (.aload_n 0, 1) := by decide +kernel
theorem dX6_isGood_25 : decode cX6_isGood 25 = .ok (.invokevirtual 71, 3) := by decide +kernel
theorem dX6_isGood_28 : decode cX6_isGood 28 = .ok (.ldc2_w 75, 3) := by decide +kernel
theorem dX6_isGood_31 : decode cX6_isGood 31 = .ok (.lxor, 1) := by decide +kernel
theorem dX6_isGood_32 : decode cX6_isGood 32 = .ok (.land, 1) := by decide +kernel
theorem dX6_isGood_33 : decode cX6_isGood 33 = .ok (.lstore 4, 2) := by decide +kernel
theorem dX6_isGood_35 : decode cX6_isGood 35 = .ok (.iconst 0, 1) := by decide +kernel
theorem dX6_isGood_36 : decode cX6_isGood 36 = .ok (.istore 6, 2) := by decide +kernel
theorem dX6_isGood_38 : decode cX6_isGood 38 = .ok (.iconst 0, 1) := by decide +kernel
theorem dX6_isGood_39 : decode cX6_isGood 39 = .ok (.istore 7, 2) := by decide +kernel
theorem dX6_isGood_41 : decode cX6_isGood 41 = .ok (.iload 7, 2) := by decide +kernel
theorem dX6_isGood_43 : decode cX6_isGood 43 = .ok (.aload_n 0, 1) := by decide +kernel
theorem dX6_isGood_44 : decode cX6_isGood 44 = .ok (.bipush 8, 2) := by decide +kernel
theorem dX6_isGood_46 : decode cX6_isGood 46 = .ok (.invokevirtual 52, 3) := by decide +kernel
theorem dX6_isGood_49 : decode cX6_isGood 49 = .ok (.if_icmp .ge 33, 3) := by decide +kernel
theorem dX6_isGood_52 : decode cX6_isGood 52 = .ok (.iload 6, 2) := by decide +kernel
theorem dX6_isGood_54 : decode cX6_isGood 54 = .ok (.aload_n 0, 1) := by decide +kernel
theorem dX6_isGood_55 : decode cX6_isGood 55 = .ok (.iload 7, 2) := by decide +kernel
theorem dX6_isGood_57 : decode cX6_isGood 57 = .ok (.iconst 0, 1) := by decide +kernel
theorem dX6_isGood_58 : decode cX6_isGood 58 = .ok (.invokevirtual 77, 3) := by decide +kernel
theorem dX6_isGood_61 : decode cX6_isGood 61 = .ok (.iconst 1, 1) := by decide +kernel
theorem dX6_isGood_62 : decode cX6_isGood 62 = .ok (.if_icmp .ne 10, 3) := by decide +kernel
theorem dX6_isGood_65 : decode cX6_isGood 65 = .ok (.iconst 1, 1) := by decide +kernel
theorem dX6_isGood_66 : decode cX6_isGood 66 = .ok (.iload 7, 2) := by decide +kernel
theorem dX6_isGood_68 : decode cX6_isGood 68 = .ok (.ishl, 1) := by decide +kernel
theorem dX6_isGood_69 : decode cX6_isGood 69 = .ok (.goto 4, 3) := by decide +kernel
theorem dX6_isGood_72 : decode cX6_isGood 72 = .ok (.iconst 0, 1) := by decide +kernel
theorem dX6_isGood_73 : decode cX6_isGood 73 = .ok (.ior, 1) := by decide +kernel
theorem dX6_isGood_74 : decode cX6_isGood 74 = .ok (.istore 6, 2) := by decide +kernel
theorem dX6_isGood_76 : decode cX6_isGood 76 = .ok (.iinc 7 1, 3) := by decide +kernel
theorem dX6_isGood_79 : decode cX6_isGood 79 = .ok (.goto (-38), 3) := by decide +kernel
theorem dX6_isGood_82 : decode cX6_isGood 82 = .ok (.lload_n 2, 1) := by decide +kernel
theorem dX6_isGood_83 : decode cX6_isGood 83 = .ok (.aload_n 0, 1) := by decide +kernel
theorem dX6_isGood_84 : decode cX6_isGood 84 = .ok (.getfield 7, 3) := by decide +kernel
theorem dX6_isGood_87 : decode cX6_isGood 87 = .ok (.iload_n 1, 1) := by decide +kernel
theorem dX6_isGood_88 : decode cX6_isGood 88 = .ok (.iconst 1, 1) := by decide +kernel
theorem dX6_isGood_89 : decode cX6_isGood 89 = .ok (.iadd, 1) := by decide +kernel
theorem dX6_isGood_90 : decode cX6_isGood 90 = .ok (.laload, 1) := by decide +kernel
theorem dX6_isGood_91 : decode cX6_isGood 91 = .ok (.ldc2_w 75, 3) := by decide +kernel
theorem dX6_isGood_94 : decode cX6_isGood 94 = .ok (.lxor, 1) := by decide +kernel
theorem dX6_isGood_95 : decode cX6_isGood 95 = .ok (.land, 1) := by decide +kernel
theorem dX6_isGood_96 : decode cX6_isGood 96 = .ok (.lconst 0, 1) := by decide +kernel
theorem dX6_isGood_97 : decode cX6_isGood 97 = .ok (.lcmp, 1) := by decide +kernel
theorem dX6_isGood_98 : decode cX6_isGood 98 = .ok (.ifCond .ne 23, 3) := by decide +kernel
theorem dX6_isGood_101 : decode cX6_isGood 101 = .ok (.lload 4, 2) := by decide +kernel
theorem dX6_isGood_103 : decode cX6_isGood 103 = .ok (.aload_n 0, 1) := by decide +kernel
theorem dX6_isGood_104 : decode cX6_isGood 104 = .ok (.getfield 7, 3) := by decide +kernel
theorem dX6_isGood_107 : decode cX6_isGood 107 = .ok (.iload_n 1, 1) := by decide +kernel
theorem dX6_isGood_108 : decode cX6_isGood 108 = .ok (.iconst 1, 1) := by decide +kernel
theorem dX6_isGood_109 : decode cX6_isGood 109 = .ok (.iadd, 1) := by decide +kernel
theorem dX6_isGood_110 : decode cX6_isGood 110 = .ok (.laload, 1) := by decide +kernel
theorem dX6_isGood_111 : decode cX6_isGood 111 = .ok (.land, 1) := by decide +kernel
theorem dX6_isGood_112 : decode cX6_isGood 112 = .ok (.lconst 0, 1) := by decide +kernel
theorem dX6_isGood_113 : decode cX6_isGood 113 = .ok (.lcmp, 1) := by decide +kernel
theorem dX6_isGood_114 : decode cX6_isGood 114 = .ok (.ifCond .ne 7, 3) := by decide +kernel
theorem dX6_isGood_117 : decode cX6_isGood 117 = .ok (.iconst 1, 1) := by decide +kernel
theorem dX6_isGood_118 : decode cX6_isGood 118 = .ok (.goto 4, 3) := by decide +kernel
theorem dX6_isGood_121 : decode cX6_isGood 121 = .ok (.iconst 0, 1) := by decide +kernel
theorem dX6_isGood_122 : decode cX6_isGood 122 = .ok (.istore 7, 2) := by decide +kernel
theorem dX6_isGood_124 : decode cX6_isGood 124 = .ok (.aload_n 0, 1) := by decide +kernel
theorem dX6_isGood_125 : decode cX6_isGood 125 = .ok (.getfield 7, 3) := by decide +kernel
theorem dX6_isGood_128 : decode cX6_isGood 128 = .ok (.iload_n 1, 1) := by decide +kernel
theorem dX6_isGood_129 : decode cX6_isGood 129 = .ok (.iconst 4, 1) := by decide +kernel
theorem dX6_isGood_130 : decode cX6_isGood 130 = .ok (.iadd, 1) := by decide +kernel
theorem dX6_isGood_131 : decode cX6_isGood 131 = .ok (.laload, 1) := by decide +kernel
theorem dX6_isGood_132 : decode cX6_isGood 132 = .ok (.lconst 0, 1) := by decide +kernel
theorem dX6_isGood_133 : decode cX6_isGood 133 = .ok (.lcmp, 1) := by decide +kernel
theorem dX6_isGood_134 : decode cX6_isGood 134 = .ok (.ifCond .ne 33, 3) := by decide +kernel
theorem dX6_isGood_137 : decode cX6_isGood 137 = .ok (.iload 7, 2) := by decide +kernel
theorem dX6_isGood_139 : decode cX6_isGood 139 = .ok (.ifCond .eq 28, 3) := by decide +kernel
theorem dX6_isGood_142 : decode cX6_isGood 142 = .ok (.iload 6, 2) := by decide +kernel
theorem dX6_isGood_144 : decode cX6_isGood 144 = .ok (.i2l, 1) := by decide +kernel
theorem dX6_isGood_145 : decode cX6_isGood 145 = .ok (.aload_n 0, 1) := by decide +kernel
theorem dX6_isGood_146 : decode cX6_isGood 146 = .ok (.getfield 7, 3) := by decide +kernel
theorem dX6_isGood_149 : decode cX6_isGood 149 = .ok (.iload_n 1, 1) := by decide +kernel
theorem dX6_isGood_150 : decode cX6_isGood 150 = .ok (.iconst 2, 1) := by decide +kernel
theorem dX6_isGood_151 : decode cX6_isGood 151 = .ok (.iadd, 1) := by decide +kernel
theorem dX6_isGood_152 : decode cX6_isGood 152 = .ok (.laload, 1) := by decide +kernel
theorem dX6_isGood_153 : decode cX6_isGood 153 = .ok (.ldc2_w 75, 3) := by decide +kernel
theorem dX6_isGood_156 : decode cX6_isGood 156 = .ok (.lxor, 1) := by decide +kernel
theorem dX6_isGood_157 : decode cX6_isGood 157 = .ok (.land, 1) := by decide +kernel
theorem dX6_isGood_158 : decode cX6_isGood 158 = .ok (.lconst 0, 1) := by decide +kernel
theorem dX6_isGood_159 : decode cX6_isGood 159 = .ok (.lcmp, 1) := by decide +kernel
theorem dX6_isGood_160 : decode cX6_isGood 160 = .ok (.ifCond .ne 7, 3) := by decide +kernel
theorem dX6_isGood_163 : decode cX6_isGood 163 = .ok (.iconst 1, 1) := by decide +kernel
theorem dX6_isGood_164 : decode cX6_isGood 164 = .ok (.goto 4, 3) := by decide +kernel
theorem dX6_isGood_167 : decode cX6_isGood 167 = .ok (.iconst 0, 1) := by decide +kernel
theorem dX6_isGood_168 : decode cX6_isGood 168 = .ok (.ireturn, 1) := by decide +kernel
theorem dX6_empties_0 : decode cX6_empties 0 = .ok (.iconst 0, 1) := by decide +kernel
theorem dX6_empties_1 : decode cX6_empties 1 = .ok (.istore_n 2, 1) := by decide +kernel
theorem dX6_empties_2 : decode cX6_empties 2 = .ok (.iload_n 2, 1) := by decide +kernel
theorem dX6_empties_3 : decode cX6_empties 3 = .ok (.iconst 5, 1) := by decide +kernel
theorem dX6_empties_4 : decode cX6_empties 4 = .ok (.if_icmp .ge 18, 3) := by decide +kernel
theorem dX6_empties_7 : decode cX6_empties 7 = .ok (.aload_n 0, 1) := by decide +kernel
theorem dX6_empties_8 : decode cX6_empties 8 = .ok (.getfield 7, 3) := by decide +kernel
theorem dX6_empties_11 : decode cX6_empties 11 = .ok (.iload_n 1, 1) := by decide +kernel
theorem dX6_empties_12 : decode cX6_empties 12 = .ok (.iload_n 2, 1) := by decide +kernel
theorem dX6_empties_13 : decode cX6_empties 13 = .ok (.iadd, 1) := by decide +kernel
theorem dX6_empties_14 : decode cX6_empties 14 = .ok (.lconst 0, 1) := by decide +kernel
theorem dX6_empties_15 : decode cX6_empties 15 = .ok (.lastore, 1) := by decide +kernel
theorem dX6_empties_16 : decode cX6_empties 16 = .ok (.iinc 2 1, 3) := by decide +kernel
theorem dX6_empties_19 : decode cX6_empties 19 = .ok (.goto (-17), 3) := by decide +kernel
theorem dX6_empties_22 : decode cX6_empties 22 = .ok (.return_, 1) := by decide +kernel
theorem dX6_leaves_0 : decode cX6_leaves 0 = .ok (.aload_n 0, 1) := by decide +kernel
theorem dX6_leaves_1 : decode cX6_leaves 1 = .ok (.iload_n 1, 1) := by decide +kernel
theorem dX6_leaves_2 : decode cX6_leaves 2 = .ok (.invokevirtual 167, 3) := by decide +kernel
theorem dX6_leaves_5 : decode cX6_leaves 5 = .ok (.istore_n 2, 1) := by decide +kernel
theorem dX6_leaves_6 : decode cX6_leaves 6 = .ok (.aload_n 0, 1) := by decide +kernel
theorem dX6_leaves_7 : decode cX6_leaves 7 = .ok (.getfield 7, 3) := by decide +kernel
theorem dX6_leaves_10 : decode cX6_leaves 10 = .ok (.iload_n 2, 1) := by decide +kernel
theorem dX6_leaves_11 : decode cX6_leaves 11 = .ok (.ifCond .eq 8, 3) := by decide +kernel
theorem dX6_leaves_14 : decode cX6_leaves 14 = .ok (.bipush 10, 2) := by decide +kernel
theorem dX6_leaves_16 : decode cX6_leaves 16 = .ok (.goto 5, 3) := by decide +kernel
theorem dX6_leaves_19 : decode cX6_leaves 19 = .ok (.bipush 11, 2) := by decide +kernel
theorem dX6_leaves_21 : decode cX6_leaves 21 = .ok (.dup2, 1) := by decide +kernel
theorem dX6_leaves_22 : decode cX6_leaves 22 = .ok (.laload, 1) := by decide +kernel
theorem dX6_leaves_23 : decode cX6_leaves 23 = .ok (.lconst 1, 1) := by decide +kernel
theorem dX6_leaves_24 : decode cX6_leaves 24 = .ok (.ladd, 1) := by decide +kernel
theorem dX6_leaves_25 : decode cX6_leaves 25 = .ok (.lastore, 1) := by decide +kernel
theorem dX6_leaves_26 : decode cX6_leaves 26 = .ok (.aload_n 0, 1) := by decide +kernel
theorem dX6_leaves_27 : decode cX6_leaves 27 = .ok (.iload_n 1, 1) := by decide +kernel
theorem dX6_leaves_28 : decode cX6_leaves 28 = .ok (.invokevirtual 170, 3) := by decide +kernel
theorem dX6_leaves_31 : decode cX6_leaves 31 = .ok (.iload_n 2, 1) := by decide +kernel
theorem dX6_leaves_32 : decode cX6_leaves 32 = .ok (.ireturn, 1) := by decide +kernel
theorem dX6_works_0 : decode cX6_works 0 = .ok (.bipush 60, 2) := by decide +kernel
theorem dX6_works_2 : decode cX6_works 2 = .ok (.iconst 5, 1) := by decide +kernel
theorem dX6_works_3 : decode cX6_works 3 = .ok (.iload_n 1, 1) := by decide +kernel
theorem dX6_works_4 : decode cX6_works 4 = .ok (.imul, 1) := by decide +kernel
theorem dX6_works_5 : decode cX6_works 5 = .ok (.iadd, 1) := by decide +kernel
theorem dX6_works_6 : decode cX6_works 6 = .ok (.istore_n 2, 1) := by decide +kernel
theorem dX6_works_7 : decode cX6_works 7 = .ok (.aload_n 0, 1) := by decide +kernel
theorem dX6_works_8 : decode cX6_works 8 = .ok (.iload_n 1, 1) := by decide +kernel
theorem dX6_works_9 : decode cX6_works 9 = .ok (.invokevirtual 149, 3) := by decide +kernel
theorem dX6_works_12 : decode cX6_works 12 = .ok (.istore_n 3, 1) := by decide +kernel
theorem dX6_works_13 : decode cX6_works 13 = .ok (.iconst 0, 1) := by decide +kernel
theorem dX6_works_14 : decode cX6_works 14 = .ok (.istore 4, 2) := by decide +kernel
theorem dX6_works_16 : decode cX6_works 16 = .ok (.iload 4, 2) := by decide +kernel
theorem dX6_works_18 : decode cX6_works 18 = .ok (.aload_n 0, 1) := by decide +kernel
theorem dX6_works_19 : decode cX6_works 19 = .ok (.bipush 8, 2) := by decide +kernel
theorem dX6_works_21 : decode cX6_works 21 = .ok (.invokevirtual 52, 3) := by decide +kernel
theorem dX6_works_24 : decode cX6_works 24 = .ok (.if_icmp .ge 108, 3) := by decide +kernel
theorem dX6_works_27 : decode cX6_works 27 = .ok (.iload_n 3, 1) := by decide +kernel
theorem dX6_works_28 : decode cX6_works 28 = .ok (.iload 4, 2) := by decide +kernel
theorem dX6_works_30 : decode cX6_works 30 = .ok (.ishr, 1) := by decide +kernel
theorem dX6_works_31 : decode cX6_works 31 = .ok (.iconst 1, 1) := by decide +kernel
theorem dX6_works_32 : decode cX6_works 32 = .ok (.iand, 1) := by decide +kernel
theorem dX6_works_33 : decode cX6_works 33 = .ok (.iconst 1, 1) := by decide +kernel
theorem dX6_works_34 : decode cX6_works 34 = .ok (.if_icmp .ne 32, 3) := by decide +kernel
theorem dX6_works_37 : decode cX6_works 37 = .ok (.aload_n 0, 1) := by decide +kernel
theorem dX6_works_38 : decode cX6_works 38 = .ok (.iload 4, 2) := by decide +kernel
theorem dX6_works_40 : decode cX6_works 40 = .ok (.iconst 0, 1) := by decide +kernel
theorem dX6_works_41 : decode cX6_works 41 = .ok (.invokevirtual 77, 3) := by decide +kernel
theorem dX6_works_44 : decode cX6_works 44 = .ok (.iconst 1, 1) := by decide +kernel
theorem dX6_works_45 : decode cX6_works 45 = .ok (.if_icmp .ne 21, 3) := by decide +kernel
theorem dX6_works_48 : decode cX6_works 48 = .ok (.aload_n 0, 1) := by decide +kernel
theorem dX6_works_49 : decode cX6_works 49 = .ok (.getfield 7, 3) := by decide +kernel
theorem dX6_works_52 : decode cX6_works 52 = .ok (.iload_n 2, 1) := by decide +kernel
theorem dX6_works_53 : decode cX6_works 53 = .ok (.iconst 2, 1) := by decide +kernel
theorem dX6_works_54 : decode cX6_works 54 = .ok (.iadd, 1) := by decide +kernel
theorem dX6_works_55 : decode cX6_works 55 = .ok (.dup2, 1) := by decide +kernel
theorem dX6_works_56 : decode cX6_works 56 = .ok (.laload, 1) := by decide +kernel
theorem dX6_works_57 : decode cX6_works 57 = .ok (.lconst 1, 1) := by decide +kernel
theorem dX6_works_58 : decode cX6_works 58 = .ok (.iload 4, 2) := by decide +kernel
theorem dX6_works_60 : decode cX6_works 60 = .ok (.lshl, 1) := by decide +kernel
theorem dX6_works_61 : decode cX6_works 61 = .ok (.lor, 1) := by decide +kernel
theorem dX6_works_62 : decode cX6_works 62 = .ok (.lastore, 1) := by decide +kernel
theorem dX6_works_63 : decode cX6_works 63 = .ok (.goto 63, 3) := by decide +kernel
theorem dX6_works_66 : decode cX6_works 66 = .ok (.iload_n 3, 1) := by decide +kernel
theorem dX6_works_67 : decode cX6_works 67 = .ok (.iload 4, 2) := by decide +kernel
theorem dX6_works_69 : decode cX6_works 69 = .ok (.ishr, 1) := by decide +kernel
theorem dX6_works_70 : decode cX6_works 70 = .ok (.iconst 1, 1) := by decide +kernel
theorem dX6_works_71 : decode cX6_works 71 = .ok (.iand, 1) := by decide +kernel
theorem dX6_works_72 : decode cX6_works 72 = .ok (.iconst 1, 1) := by decide +kernel
theorem dX6_works_73 : decode cX6_works 73 = .ok (.if_icmp .ne 53, 3) := by decide +kernel
theorem dX6_works_76 : decode cX6_works 76 = .ok (.aload_n 0, 1) := by decide +kernel
theorem dX6_works_77 : decode cX6_works 77 = .ok (.getfield 7, 3) := by decide +kernel
theorem dX6_works_80 : decode cX6_works 80 = .ok (.bipush 12, 2) := by decide +kernel
theorem dX6_works_82 : decode cX6_works 82 = .ok (.dup2, 1) := by decide +kernel
theorem dX6_works_83 : decode cX6_works 83 = .ok (.laload, 1) := by decide +kernel
theorem dX6_works_84 : decode cX6_works 84 = .ok (.aload_n 0, 1) := by decide +kernel
theorem dX6_works_85 : decode cX6_works 85 = .ok (.getfield 7, 3) := by decide +kernel
theorem dX6_works_88 : decode cX6_works 88 = .ok (.iload_n 2, 1) := by decide +kernel
theorem dX6_works_89 : decode cX6_works 89 = .ok (.iconst 1, 1) := by decide +kernel
theorem dX6_works_90 : decode cX6_works 90 = .ok (.iadd, 1) := by decide +kernel
theorem dX6_works_91 : decode cX6_works 91 = .ok (.laload, 1) := by decide +kernel
theorem dX6_works_92 : decode cX6_works 92 = .ok (.aload_n 0, 1) := by decide +kernel
theorem dX6_works_93 : decode cX6_works 93 = .ok (.iload 4, 2) := by decide +kernel
theorem dX6_works_95 : decode cX6_works 95 = .ok (.invokevirtual 81, 3) := by decide +kernel
theorem dX6_works_98 : decode cX6_works 98 = .ok (.land, 1) := by decide +kernel
theorem dX6_works_99 : decode cX6_works 99 = .ok (.invokestatic 120, 3) := by decide +kernel
theorem dX6_works_102 : decode cX6_works 102 = .ok (.i2l, 1) := by decide +kernel
theorem dX6_works_103 : decode cX6_works 103 = .ok (.ladd, 1) := by decide +kernel
theorem dX6_works_104 : decode cX6_works 104 = .ok (.lastore, 1) := by decide +kernel
theorem dX6_works_105 : decode cX6_works 105 = .ok (.aload_n 0, 1) := by decide +kernel
theorem dX6_works_106 : decode cX6_works 106 = .ok (.getfield 7, 3) := by decide +kernel
theorem dX6_works_109 : decode cX6_works 109 = .ok (.iload_n 2, 1) := by decide +kernel
theorem dX6_works_110 : decode cX6_works 110 = .ok (.iconst 1, 1) := by decide +kernel
theorem dX6_works_111 : decode cX6_works 111 = .ok (.iadd, 1) := by decide +kernel
theorem dX6_works_112 : decode cX6_works 112 = .ok (.dup2, 1) := by decide +kernel
theorem dX6_works_113 : decode cX6_works 113 = .ok (.laload, 1) := by decide +kernel
theorem dX6_works_114 : decode cX6_works 114 = .ok (.aload_n 0, 1) := by decide +kernel
theorem dX6_works_115 : decode cX6_works 115 = .ok (.iload 4, 2) := by decide +kernel
theorem dX6_works_117 : decode cX6_works 117 = .ok (.invokevirtual 81, 3) := by decide +kernel
theorem dX6_works_120 : decode cX6_works 120 = .ok (.ldc2_w 75, 3) := by decide +kernel
theorem dX6_works_123 : decode cX6_works 123 = .ok (.lxor, 1) := by decide +kernel
theorem dX6_works_124 : decode cX6_works 124 = .ok (.land, 1) := by decide +kernel
theorem dX6_works_125 : decode cX6_works 125 = .ok (.lastore, 1) := by decide +kernel
theorem dX6_works_126 : decode cX6_works 126 = .ok (.iinc 4 1, 3) := by decide +kernel
theorem dX6_works_129 : decode cX6_works 129 = .ok (.goto (-113), 3) := by decide +kernel
theorem dX6_works_132 : decode cX6_works 132 = .ok (.iload_n 3, 1) := by decide +kernel
theorem dX6_works_133 : decode cX6_works 133 = .ok (.ifCond .eq 31, 3) := by decide +kernel
theorem dX6_works_136 : decode cX6_works 136 = .ok (.aload_n 0, 1) := by decide +kernel
theorem dX6_works_137 : decode cX6_works 137 = .ok (.getfield 7, 3) := by decide +kernel
theorem dX6_works_140 : decode cX6_works 140 = .ok (.iload_n 2, 1) := by decide +kernel
theorem dX6_works_141 : decode cX6_works 141 = .ok (.iconst 3, 1) := by decide +kernel
theorem dX6_works_142 : decode cX6_works 142 = .ok (.iadd, 1) := by decide +kernel
theorem dX6_works_143 : decode cX6_works 143 = .ok (.laload, 1) := by decide +kernel
theorem dX6_works_144 : decode cX6_works 144 = .ok (.aload_n 0, 1) := by decide +kernel
theorem dX6_works_145 : decode cX6_works 145 = .ok (.getfield 7, 3) := by decide +kernel
theorem dX6_works_148 : decode cX6_works 148 = .ok (.bipush 7, 2) := by decide +kernel
theorem dX6_works_150 : decode cX6_works 150 = .ok (.laload, 1) := by decide +kernel
theorem dX6_works_151 : decode cX6_works 151 = .ok (.lcmp, 1) := by decide +kernel
theorem dX6_works_152 : decode cX6_works 152 = .ok (.ifCond .le 12, 3) := by decide +kernel
theorem dX6_works_155 : decode cX6_works 155 = .ok (.aload_n 0, 1) := by decide +kernel
theorem dX6_works_156 : decode cX6_works 156 = .ok (.getfield 7, 3) := by decide +kernel
theorem dX6_works_159 : decode cX6_works 159 = .ok (.iload_n 2, 1) := by decide +kernel
theorem dX6_works_160 : decode cX6_works 160 = .ok (.iconst 4, 1) := by decide +kernel
theorem dX6_works_161 : decode cX6_works 161 = .ok (.iadd, 1) := by decide +kernel
theorem dX6_works_162 : decode cX6_works 162 = .ok (.lconst 1, 1) := by decide +kernel
theorem dX6_works_163 : decode cX6_works 163 = .ok (.lastore, 1) := by decide +kernel
theorem dX6_works_164 : decode cX6_works 164 = .ok (.return_, 1) := by decide +kernel
theorem dX6_piloted_0 : decode cX6_piloted 0 = .ok (.aload_n 0, 1) := by decide +kernel
theorem dX6_piloted_1 : decode cX6_piloted 1 = .ok (.getfield 7, 3) := by decide +kernel
theorem dX6_piloted_4 : decode cX6_piloted 4 = .ok (.iload_n 1, 1) := by decide +kernel
theorem dX6_piloted_5 : decode cX6_piloted 5 = .ok (.iconst 3, 1) := by decide +kernel
theorem dX6_piloted_6 : decode cX6_piloted 6 = .ok (.iadd, 1) := by decide +kernel
theorem dX6_piloted_7 : decode cX6_piloted 7 = .ok (.laload, 1) := by decide +kernel
theorem dX6_piloted_8 : decode cX6_piloted 8 = .ok (.aload_n 0, 1) := by decide +kernel
theorem dX6_piloted_9 : decode cX6_piloted 9 = .ok (.getfield 7, 3) := by decide +kernel
theorem dX6_piloted_12 : decode cX6_piloted 12 = .ok (.bipush 6, 2) := by decide +kernel
theorem dX6_piloted_14 : decode cX6_piloted 14 = .ok (.laload, 1) := by decide +kernel
theorem dX6_piloted_15 : decode cX6_piloted 15 = .ok (.lcmp, 1) := by decide +kernel
theorem dX6_piloted_16 : decode cX6_piloted 16 = .ok (.ifCond .gt 15, 3) := by decide +kernel
theorem dX6_piloted_19 : decode cX6_piloted 19 = .ok (.aload_n 0, 1) := by decide +kernel
theorem dX6_piloted_20 : decode cX6_piloted 20 = .ok (.getfield 7, 3) := by decide +kernel
theorem dX6_piloted_23 : decode cX6_piloted 23 = .ok (.iload_n 1, 1) := by decide +kernel
theorem dX6_piloted_24 : decode cX6_piloted 24 = .ok (.iconst 3, 1) := by decide +kernel
theorem dX6_piloted_25 : decode cX6_piloted 25 = .ok (.iadd, 1) := by decide +kernel
theorem dX6_piloted_26 : decode cX6_piloted 26 = .ok (.lconst 0, 1) := by decide +kernel
theorem dX6_piloted_27 : decode cX6_piloted 27 = .ok (.lastore, 1) := by decide +kernel
theorem dX6_piloted_28 : decode cX6_piloted 28 = .ok (.goto 12, 3) := by decide +kernel
theorem dX6_piloted_31 : decode cX6_piloted 31 = .ok (.aload_n 0, 1) := by decide +kernel
theorem dX6_piloted_32 : decode cX6_piloted 32 = .ok (.getfield 7, 3) := by decide +kernel
theorem dX6_piloted_35 : decode cX6_piloted 35 = .ok (.iload_n 1, 1) := by decide +kernel
theorem dX6_piloted_36 : decode cX6_piloted 36 = .ok (.iconst 4, 1) := by decide +kernel
theorem dX6_piloted_37 : decode cX6_piloted 37 = .ok (.iadd, 1) := by decide +kernel
theorem dX6_piloted_38 : decode cX6_piloted 38 = .ok (.lconst 1, 1) := by decide +kernel
theorem dX6_piloted_39 : decode cX6_piloted 39 = .ok (.lastore, 1) := by decide +kernel
theorem dX6_piloted_40 : decode cX6_piloted 40 = .ok (.return_, 1) := by decide +kernel
theorem dX6_strokes_0 : decode cX6_strokes 0 = .ok (.iconst 0, 1) := by decide +kernel
theorem dX6_strokes_1 : decode cX6_strokes 1 = .ok (.istore_n 1, 1) := by decide +kernel
theorem dX6_strokes_2 : decode cX6_strokes 2 = .ok (.iconst 0, 1) := by decide +kernel
theorem dX6_strokes_3 : decode cX6_strokes 3 = .ok (.istore_n 2, 1) := by decide +kernel
theorem dX6_strokes_4 : decode cX6_strokes 4 = .ok (.aload_n 0, 1) := by decide +kernel
theorem dX6_strokes_5 : decode cX6_strokes 5 = .ok (.invokevirtual 174, 3) := by decide +kernel
theorem dX6_strokes_8 : decode cX6_strokes 8 = .ok (.istore_n 3, 1) := by decide +kernel
theorem dX6_strokes_9 : decode cX6_strokes 9 = .ok (.aload_n 0, 1) := by decide +kernel
theorem dX6_strokes_10 : decode cX6_strokes 10 = .ok (.getfield 7, 3) := by decide +kernel
theorem dX6_strokes_13 : decode cX6_strokes 13 = .ok (.bipush 9, 2) := by decide +kernel
theorem dX6_strokes_15 : decode cX6_strokes 15 = .ok (.dup2, 1) := by decide +kernel
theorem dX6_strokes_16 : decode cX6_strokes 16 = .ok (.laload, 1) := by decide +kernel
theorem dX6_strokes_17 : decode cX6_strokes 17 = .ok (.lconst 1, 1) := by decide +kernel
theorem dX6_strokes_18 : decode cX6_strokes 18 = .ok (.ladd, 1) := by decide +kernel
theorem dX6_strokes_19 : decode cX6_strokes 19 = .ok (.lastore, 1) := by decide +kernel
theorem dX6_strokes_20 : decode cX6_strokes 20 = .ok (.bipush 7, 2) := by decide +kernel
theorem dX6_strokes_22 : decode cX6_strokes 22 = .ok (.istore 4, 2) := by decide +kernel
theorem dX6_strokes_24 : decode cX6_strokes 24 = .ok (.iload 4, 2) := by decide +kernel
theorem dX6_strokes_26 : decode cX6_strokes 26 = .ok (.ifCond .lt 95, 3) := by decide +kernel
theorem dX6_strokes_29 : decode cX6_strokes 29 = .ok (.bipush 60, 2) := by decide +kernel
theorem dX6_strokes_31 : decode cX6_strokes 31 = .ok (.iconst 5, 1) := by decide +kernel
theorem dX6_strokes_32 : decode cX6_strokes 32 = .ok (.iload 4, 2) := by decide +kernel
theorem dX6_strokes_34 : decode cX6_strokes 34 = .ok (.imul, 1) := by decide +kernel
theorem dX6_strokes_35 : decode cX6_strokes 35 = .ok (.iadd, 1) := by decide +kernel
theorem dX6_strokes_36 : decode cX6_strokes 36 = .ok (.istore 5, 2) := by decide +kernel
theorem dX6_strokes_38 : decode cX6_strokes 38 = .ok (.aload_n 0, 1) := by decide +kernel
theorem dX6_strokes_39 : decode cX6_strokes 39 = .ok (.getfield 7, 3) := by decide +kernel
theorem dX6_strokes_42 : decode cX6_strokes 42 = .ok (.iload 5, 2) := by decide +kernel
theorem dX6_strokes_44 : decode cX6_strokes 44 = .ok (.iconst 3, 1) := by decide +kernel
theorem dX6_strokes_45 : decode cX6_strokes 45 = .ok (.iadd, 1) := by decide +kernel
theorem dX6_strokes_46 : decode cX6_strokes 46 = .ok (.dup2, 1) := by decide +kernel
theorem dX6_strokes_47 : decode cX6_strokes 47 = .ok (.laload, 1) := by decide +kernel
theorem dX6_strokes_48 : decode cX6_strokes 48 = .ok (.aload_n 0, 1) := by decide +kernel
theorem dX6_strokes_49 : decode cX6_strokes 49 = .ok (.iload 4, 2) := by decide +kernel
theorem dX6_strokes_51 : decode cX6_strokes 51 = .ok (.iconst 0, 1) := by decide +kernel
theorem dX6_strokes_52 : decode cX6_strokes 52 = .ok (.invokevirtual 139, 3) := by decide +kernel
theorem dX6_strokes_55 : decode cX6_strokes 55 = .ok (.aload_n 0, 1) := by decide +kernel
theorem dX6_strokes_56 : decode cX6_strokes 56 = .ok (.getfield 7, 3) := by decide +kernel
theorem dX6_strokes_59 : decode cX6_strokes 59 = .ok (.iconst 5, 1) := by decide +kernel
theorem dX6_strokes_60 : decode cX6_strokes 60 = .ok (.laload, 1) := by decide +kernel
theorem dX6_strokes_61 : decode cX6_strokes 61 = .ok (.lmul, 1) := by decide +kernel
theorem dX6_strokes_62 : decode cX6_strokes 62 = .ok (.ladd, 1) := by decide +kernel
theorem dX6_strokes_63 : decode cX6_strokes 63 = .ok (.lastore, 1) := by decide +kernel
theorem dX6_strokes_64 : decode cX6_strokes 64 = .ok (.aload_n 0, 1) := by decide +kernel
theorem dX6_strokes_65 : decode cX6_strokes 65 = .ok (.iload 4, 2) := by decide +kernel
theorem dX6_strokes_67 : decode cX6_strokes 67 = .ok (.iconst 0, 1) := by decide +kernel
theorem dX6_strokes_68 : decode cX6_strokes 68 = .ok (.invokevirtual 139, 3) := by decide +kernel
theorem dX6_strokes_71 : decode cX6_strokes 71 = .ok (.lconst 1, 1) := by decide +kernel
theorem dX6_strokes_72 : decode cX6_strokes 72 = .ok (.lcmp, 1) := by decide +kernel
theorem dX6_strokes_73 : decode cX6_strokes 73 = .ok (.ifCond .ne 42, 3) := by decide +kernel
theorem dX6_strokes_76 : decode cX6_strokes 76 = .ok (.iload 4, 2) := by decide +kernel
theorem dX6_strokes_78 : decode cX6_strokes 78 = .ok (.iconst 1, 1) := by decide +kernel
theorem dX6_strokes_79 : decode cX6_strokes 79 = .ok (.iadd, 1) := by decide +kernel
theorem dX6_strokes_80 : decode cX6_strokes 80 = .ok (.iload_n 3, 1) := by decide +kernel
theorem dX6_strokes_81 : decode cX6_strokes 81 = .ok (.bipush 8, 2) := by decide +kernel
theorem dX6_strokes_83 : decode cX6_strokes 83 = .ok (.if_icmp .le 8, 3) := by decide +kernel
theorem dX6_strokes_86 : decode cX6_strokes 86 = .ok (.bipush 8, 2) := by decide +kernel
theorem dX6_strokes_88 : decode cX6_strokes 88 = .ok (.goto 4, 3) := by decide +kernel
theorem dX6_strokes_91 : decode cX6_strokes 91 = .ok (.iload_n 3, 1) := by decide +kernel
theorem dX6_strokes_92 : decode cX6_strokes 92 = .ok (.if_icmp .lt 23, 3) := by decide +kernel
theorem dX6_strokes_95 : decode cX6_strokes 95 = .ok (.iinc 1 1, 3) := by decide +kernel
theorem dX6_strokes_98 : decode cX6_strokes 98 = .ok (.iload_n 2, 1) := by decide +kernel
theorem dX6_strokes_99 : decode cX6_strokes 99 = .ok (.aload_n 0, 1) := by decide +kernel
theorem dX6_strokes_100 : decode cX6_strokes 100 = .ok (.iload 5, 2) := by decide +kernel
theorem dX6_strokes_102 : decode cX6_strokes 102 = .ok (.invokevirtual 178, 3) := by decide +kernel
theorem dX6_strokes_105 : decode cX6_strokes 105 = .ok (.ifCond .eq 7, 3) := by decide +kernel
theorem dX6_strokes_108 : decode cX6_strokes 108 = .ok (.iconst 1, 1) := by decide +kernel
theorem dX6_strokes_109 : decode cX6_strokes 109 = .ok (.goto 4, 3) := by decide +kernel
theorem dX6_strokes_112 : decode cX6_strokes 112 = .ok (.iconst 0, 1) := by decide +kernel
theorem dX6_strokes_113 : decode cX6_strokes 113 = .ok (.iadd, 1) := by decide +kernel
theorem dX6_strokes_114 : decode cX6_strokes 114 = .ok (.istore_n 2, 1) := by decide +kernel
theorem dX6_strokes_115 : decode cX6_strokes 115 = .ok (.iinc 4 (-1), 3) := by decide +kernel
theorem dX6_strokes_118 : decode cX6_strokes 118 = .ok (.goto (-94), 3) := by decide +kernel
theorem dX6_strokes_121 : decode cX6_strokes 121 = .ok (.bipush 7, 2) := by decide +kernel
theorem dX6_strokes_123 : decode cX6_strokes 123 = .ok (.istore 4, 2) := by decide +kernel
theorem dX6_strokes_125 : decode cX6_strokes 125 = .ok (.iload 4, 2) := by decide +kernel
theorem dX6_strokes_127 : decode cX6_strokes 127 = .ok (.ifCond .le 56, 3) := by decide +kernel
theorem dX6_strokes_130 : decode cX6_strokes 130 = .ok (.iconst 0, 1) := by decide +kernel
theorem dX6_strokes_131 : decode cX6_strokes 131 = .ok (.istore 5, 2) := by decide +kernel
theorem dX6_strokes_133 : decode cX6_strokes 133 = .ok (.iload 5, 2) := by decide +kernel
theorem dX6_strokes_135 : decode cX6_strokes 135 = .ok (.iconst 5, 1) := by decide +kernel
theorem dX6_strokes_136 : decode cX6_strokes 136 = .ok (.if_icmp .ge 41, 3) := by decide +kernel
theorem dX6_strokes_139 : decode cX6_strokes 139 = .ok (.aload_n 0, 1) := by decide +kernel
theorem dX6_strokes_140 : decode cX6_strokes 140 = .ok (.getfield 7, 3) := by decide +kernel
theorem dX6_strokes_143 : decode cX6_strokes 143 = .ok (.bipush 60, 2) := by decide +kernel
theorem dX6_strokes_145 : decode cX6_strokes 145 = .ok (.iconst 5, 1) := by decide +kernel
theorem dX6_strokes_146 : decode cX6_strokes 146 = .ok (.iload 4, 2) := by decide +kernel
theorem dX6_strokes_148 : decode cX6_strokes 148 = .ok (.imul, 1) := by decide +kernel
theorem dX6_strokes_149 : decode cX6_strokes 149 = .ok (.iadd, 1) := by decide +kernel
theorem dX6_strokes_150 : decode cX6_strokes 150 = .ok (.iload 5, 2) := by decide +kernel
theorem dX6_strokes_152 : decode cX6_strokes 152 = .ok (.iadd, 1) := by decide +kernel
theorem dX6_strokes_153 : decode cX6_strokes 153 = .ok (.aload_n 0, 1) := by decide +kernel
theorem dX6_strokes_154 : decode cX6_strokes 154 = .ok (.getfield 7, 3) := by decide +kernel
theorem dX6_strokes_157 : decode cX6_strokes 157 = .ok (.bipush 60, 2) := by decide +kernel
theorem dX6_strokes_159 : decode cX6_strokes 159 = .ok (.iconst 5, 1) := by decide +kernel
theorem dX6_strokes_160 : decode cX6_strokes 160 = .ok (.iload 4, 2) := by decide +kernel
theorem dX6_strokes_162 : decode cX6_strokes 162 = .ok (.imul, 1) := by decide +kernel
theorem dX6_strokes_163 : decode cX6_strokes 163 = .ok (.iadd, 1) := by decide +kernel
theorem dX6_strokes_164 : decode cX6_strokes 164 = .ok (.iconst 5, 1) := by decide +kernel
theorem dX6_strokes_165 : decode cX6_strokes 165 = .ok (.isub, 1) := by decide +kernel
theorem dX6_strokes_166 : decode cX6_strokes 166 = .ok (.iload 5, 2) := by decide +kernel
theorem dX6_strokes_168 : decode cX6_strokes 168 = .ok (.iadd, 1) := by decide +kernel
theorem dX6_strokes_169 : decode cX6_strokes 169 = .ok (.laload, 1) := by decide +kernel
theorem dX6_strokes_170 : decode cX6_strokes 170 = .ok (.lastore, 1) := by decide +kernel
theorem dX6_strokes_171 : decode cX6_strokes 171 = .ok (.iinc 5 1, 3) := by decide +kernel
theorem dX6_strokes_174 : decode cX6_strokes 174 = .ok (.goto (-41), 3) := by decide +kernel
theorem dX6_strokes_177 : decode cX6_strokes 177 = .ok (.iinc 4 (-1), 3) := by decide +kernel
theorem dX6_strokes_180 : decode cX6_strokes 180 = .ok (.goto (-55), 3) := by decide +kernel
theorem dX6_strokes_183 : decode cX6_strokes 183 = .ok (.aload_n 0, 1) := by decide +kernel
theorem dX6_strokes_184 : decode cX6_strokes 184 = .ok (.bipush 60, 2) := by decide +kernel
theorem dX6_strokes_186 : decode cX6_strokes 186 = .ok (.invokevirtual 170, 3) := by decide +kernel
theorem dX6_strokes_189 : decode cX6_strokes 189 = .ok (.aload_n 0, 1) := by decide +kernel
theorem dX6_strokes_190 : decode cX6_strokes 190 = .ok (.getfield 7, 3) := by decide +kernel
theorem dX6_strokes_193 : decode cX6_strokes 193 = .ok (.bipush 60, 2) := by decide +kernel
theorem dX6_strokes_195 : decode cX6_strokes 195 = .ok (.lconst 1, 1) := by decide +kernel
theorem dX6_strokes_196 : decode cX6_strokes 196 = .ok (.lastore, 1) := by decide +kernel
theorem dX6_strokes_197 : decode cX6_strokes 197 = .ok (.aload_n 0, 1) := by decide +kernel
theorem dX6_strokes_198 : decode cX6_strokes 198 = .ok (.getfield 7, 3) := by decide +kernel
theorem dX6_strokes_201 : decode cX6_strokes 201 = .ok (.bipush 61, 2) := by decide +kernel
theorem dX6_strokes_203 : decode cX6_strokes 203 = .ok (.aload_n 0, 1) := by decide +kernel
theorem dX6_strokes_204 : decode cX6_strokes 204 = .ok (.invokevirtual 95, 3) := by decide +kernel
theorem dX6_strokes_207 : decode cX6_strokes 207 = .ok (.lastore, 1) := by decide +kernel
theorem dX6_strokes_208 : decode cX6_strokes 208 = .ok (.iload_n 3, 1) := by decide +kernel
theorem dX6_strokes_209 : decode cX6_strokes 209 = .ok (.ifCond .ne 23, 3) := by decide +kernel
theorem dX6_strokes_212 : decode cX6_strokes 212 = .ok (.iinc 1 1, 3) := by decide +kernel
theorem dX6_strokes_215 : decode cX6_strokes 215 = .ok (.iload_n 2, 1) := by decide +kernel
theorem dX6_strokes_216 : decode cX6_strokes 216 = .ok (.aload_n 0, 1) := by decide +kernel
theorem dX6_strokes_217 : decode cX6_strokes 217 = .ok (.bipush 60, 2) := by decide +kernel
theorem dX6_strokes_219 : decode cX6_strokes 219 = .ok (.invokevirtual 178, 3) := by decide +kernel
theorem dX6_strokes_222 : decode cX6_strokes 222 = .ok (.ifCond .eq 7, 3) := by decide +kernel
theorem dX6_strokes_225 : decode cX6_strokes 225 = .ok (.iconst 1, 1) := by decide +kernel
theorem dX6_strokes_226 : decode cX6_strokes 226 = .ok (.goto 4, 3) := by decide +kernel
theorem dX6_strokes_229 : decode cX6_strokes 229 = .ok (.iconst 0, 1) := by decide +kernel
theorem dX6_strokes_230 : decode cX6_strokes 230 = .ok (.iadd, 1) := by decide +kernel
theorem dX6_strokes_231 : decode cX6_strokes 231 = .ok (.istore_n 2, 1) := by decide +kernel
theorem dX6_strokes_232 : decode cX6_strokes 232 = .ok (.iconst 0, 1) := by decide +kernel
theorem dX6_strokes_233 : decode cX6_strokes 233 = .ok (.istore 4, 2) := by decide +kernel
theorem dX6_strokes_235 : decode cX6_strokes 235 = .ok (.iload 4, 2) := by decide +kernel
theorem dX6_strokes_237 : decode cX6_strokes 237 = .ok (.bipush 8, 2) := by decide +kernel
theorem dX6_strokes_239 : decode cX6_strokes 239 = .ok (.if_icmp .ge 49, 3) := by decide +kernel
theorem dX6_strokes_242 : decode cX6_strokes 242 = .ok (.aload_n 0, 1) := by decide +kernel
theorem dX6_strokes_243 : decode cX6_strokes 243 = .ok (.iload 4, 2) := by decide +kernel
theorem dX6_strokes_245 : decode cX6_strokes 245 = .ok (.iconst 0, 1) := by decide +kernel
theorem dX6_strokes_246 : decode cX6_strokes 246 = .ok (.invokevirtual 139, 3) := by decide +kernel
theorem dX6_strokes_249 : decode cX6_strokes 249 = .ok (.lconst 1, 1) := by decide +kernel
theorem dX6_strokes_250 : decode cX6_strokes 250 = .ok (.lcmp, 1) := by decide +kernel
theorem dX6_strokes_251 : decode cX6_strokes 251 = .ok (.ifCond .ne 31, 3) := by decide +kernel
theorem dX6_strokes_254 : decode cX6_strokes 254 = .ok (.aload_n 0, 1) := by decide +kernel
theorem dX6_strokes_255 : decode cX6_strokes 255 = .ok (.getfield 7, 3) := by decide +kernel
theorem dX6_strokes_258 : decode cX6_strokes 258 = .ok (.bipush 13, 2) := by decide +kernel
theorem dX6_strokes_260 : decode cX6_strokes 260 = .ok (.laload, 1) := by decide +kernel
theorem dX6_strokes_261 : decode cX6_strokes 261 = .ok (.iload 4, 2) := by decide +kernel
theorem dX6_strokes_263 : decode cX6_strokes 263 = .ok (.lshr, 1) := by decide +kernel
theorem dX6_strokes_264 : decode cX6_strokes 264 = .ok (.lconst 1, 1) := by decide +kernel
theorem dX6_strokes_265 : decode cX6_strokes 265 = .ok (.land, 1) := by decide +kernel
theorem dX6_strokes_266 : decode cX6_strokes 266 = .ok (.lconst 1, 1) := by decide +kernel
theorem dX6_strokes_267 : decode cX6_strokes 267 = .ok (.lcmp, 1) := by decide +kernel
theorem dX6_strokes_268 : decode cX6_strokes 268 = .ok (.ifCond .ne 14, 3) := by decide +kernel
theorem dX6_strokes_271 : decode cX6_strokes 271 = .ok (.aload_n 0, 1) := by decide +kernel
theorem dX6_strokes_272 : decode cX6_strokes 272 = .ok (.bipush 60, 2) := by decide +kernel
theorem dX6_strokes_274 : decode cX6_strokes 274 = .ok (.iconst 5, 1) := by decide +kernel
theorem dX6_strokes_275 : decode cX6_strokes 275 = .ok (.iload 4, 2) := by decide +kernel
theorem dX6_strokes_277 : decode cX6_strokes 277 = .ok (.imul, 1) := by decide +kernel
theorem dX6_strokes_278 : decode cX6_strokes 278 = .ok (.iadd, 1) := by decide +kernel
theorem dX6_strokes_279 : decode cX6_strokes 279 = .ok (.invokevirtual 181, 3) := by decide +kernel
theorem dX6_strokes_282 : decode cX6_strokes 282 = .ok (.iinc 4 1, 3) := by decide +kernel
theorem dX6_strokes_285 : decode cX6_strokes 285 = .ok (.goto (-50), 3) := by decide +kernel
theorem dX6_strokes_288 : decode cX6_strokes 288 = .ok (.iconst 0, 1) := by decide +kernel
theorem dX6_strokes_289 : decode cX6_strokes 289 = .ok (.istore 4, 2) := by decide +kernel
theorem dX6_strokes_291 : decode cX6_strokes 291 = .ok (.iload 4, 2) := by decide +kernel
theorem dX6_strokes_293 : decode cX6_strokes 293 = .ok (.bipush 8, 2) := by decide +kernel
theorem dX6_strokes_295 : decode cX6_strokes 295 = .ok (.if_icmp .ge 27, 3) := by decide +kernel
theorem dX6_strokes_298 : decode cX6_strokes 298 = .ok (.aload_n 0, 1) := by decide +kernel
theorem dX6_strokes_299 : decode cX6_strokes 299 = .ok (.iload 4, 2) := by decide +kernel
theorem dX6_strokes_301 : decode cX6_strokes 301 = .ok (.iconst 0, 1) := by decide +kernel
theorem dX6_strokes_302 : decode cX6_strokes 302 = .ok (.invokevirtual 139, 3) := by decide +kernel
theorem dX6_strokes_305 : decode cX6_strokes 305 = .ok (.lconst 1, 1) := by decide +kernel
theorem dX6_strokes_306 : decode cX6_strokes 306 = .ok (.lcmp, 1) := by decide +kernel
theorem dX6_strokes_307 : decode cX6_strokes 307 = .ok (.ifCond .ne 9, 3) := by decide +kernel
theorem dX6_strokes_310 : decode cX6_strokes 310 = .ok (.aload_n 0, 1) := by decide +kernel
theorem dX6_strokes_311 : decode cX6_strokes 311 = .ok (.iload 4, 2) := by decide +kernel
theorem dX6_strokes_313 : decode cX6_strokes 313 = .ok (.invokevirtual 184, 3) := by decide +kernel
theorem dX6_strokes_316 : decode cX6_strokes 316 = .ok (.iinc 4 1, 3) := by decide +kernel
theorem dX6_strokes_319 : decode cX6_strokes 319 = .ok (.goto (-28), 3) := by decide +kernel
theorem dX6_strokes_322 : decode cX6_strokes 322 = .ok (.iload_n 1, 1) := by decide +kernel
theorem dX6_strokes_323 : decode cX6_strokes 323 = .ok (.ifCond .ne 7, 3) := by decide +kernel
theorem dX6_strokes_326 : decode cX6_strokes 326 = .ok (.iconst 0, 1) := by decide +kernel
theorem dX6_strokes_327 : decode cX6_strokes 327 = .ok (.goto 13, 3) := by decide +kernel
theorem dX6_strokes_330 : decode cX6_strokes 330 = .ok (.iload_n 1, 1) := by decide +kernel
theorem dX6_strokes_331 : decode cX6_strokes 331 = .ok (.iload_n 2, 1) := by decide +kernel
theorem dX6_strokes_332 : decode cX6_strokes 332 = .ok (.if_icmp .ne 7, 3) := by decide +kernel
theorem dX6_strokes_335 : decode cX6_strokes 335 = .ok (.iconst 1, 1) := by decide +kernel
theorem dX6_strokes_336 : decode cX6_strokes 336 = .ok (.goto 4, 3) := by decide +kernel
theorem dX6_strokes_339 : decode cX6_strokes 339 = .ok (.iconst 2, 1) := by decide +kernel
theorem dX6_strokes_340 : decode cX6_strokes 340 = .ok (.ireturn, 1) := by decide +kernel
theorem dX6_stroke_0 : decode cX6_stroke 0 = .ok (.aload_n 0, 1) := by decide +kernel
theorem dX6_stroke_1 : decode cX6_stroke 1 = .ok (.iconst 0, 1) := by decide +kernel
theorem dX6_stroke_2 : decode cX6_stroke 2 = .ok (.putfield 48, 3) := by decide +kernel
theorem dX6_stroke_5 : decode cX6_stroke 5 = .ok (.aload_n 0, 1) := by decide +kernel
theorem dX6_stroke_6 : decode cX6_stroke 6 = .ok (.invokevirtual 113, 3) := by decide +kernel
theorem dX6_stroke_9 : decode cX6_stroke 9 = .ok (.aload_n 0, 1) := by decide +kernel
theorem dX6_stroke_10 : decode cX6_stroke 10 = .ok (.invokevirtual 187, 3) := by decide +kernel
theorem dX6_stroke_13 : decode cX6_stroke 13 = .ok (.ireturn, 1) := by decide +kernel
theorem dX6_strokesBy_0 : decode cX6_strokesBy 0 = .ok (.aload_n 0, 1) := by decide +kernel
theorem dX6_strokesBy_1 : decode cX6_strokesBy 1 = .ok (.iconst 0, 1) := by decide +kernel
theorem dX6_strokesBy_2 : decode cX6_strokesBy 2 = .ok (.putfield 48, 3) := by decide +kernel
theorem dX6_strokesBy_5 : decode cX6_strokesBy 5 = .ok (.iload_n 1, 1) := by decide +kernel
theorem dX6_strokesBy_6 : decode cX6_strokesBy 6 = .ok (.iconst 1, 1) := by decide +kernel
theorem dX6_strokesBy_7 : decode cX6_strokesBy 7 = .ok (.bipush 50, 2) := by decide +kernel
theorem dX6_strokesBy_9 : decode cX6_strokesBy 9 = .ok (.invokestatic 56, 3) := by decide +kernel
theorem dX6_strokesBy_12 : decode cX6_strokesBy 12 = .ok (.ifCond .ne 9, 3) := by decide +kernel
theorem dX6_strokesBy_15 : decode cX6_strokesBy 15 = .ok (.aload_n 0, 1) := by decide +kernel
theorem dX6_strokesBy_16 : decode cX6_strokesBy 16 = .ok (.iconst 1, 1) := by decide +kernel
theorem dX6_strokesBy_17 : decode cX6_strokesBy 17 = .ok (.invokevirtual 110, 3) := by decide +kernel
theorem dX6_strokesBy_20 : decode cX6_strokesBy 20 = .ok (.ireturn, 1) := by decide +kernel
theorem dX6_strokesBy_21 : decode cX6_strokesBy 21 = .ok (.iconst 0, 1) := by decide +kernel
theorem dX6_strokesBy_22 : decode cX6_strokesBy 22 = .ok (.istore_n 2, 1) := by decide +kernel
theorem dX6_strokesBy_23 : decode cX6_strokesBy 23 = .ok (.iload_n 2, 1) := by decide +kernel
theorem dX6_strokesBy_24 : decode cX6_strokesBy 24 = .ok (.iload_n 1, 1) := by decide +kernel
theorem dX6_strokesBy_25 : decode cX6_strokesBy 25 = .ok (.if_icmp .ge 14, 3) := by decide +kernel
theorem dX6_strokesBy_28 : decode cX6_strokesBy 28 = .ok (.aload_n 0, 1) := by decide +kernel
theorem dX6_strokesBy_29 : decode cX6_strokesBy 29 = .ok (.invokevirtual 187, 3) := by decide +kernel
theorem dX6_strokesBy_32 : decode cX6_strokesBy 32 = .ok (.pop, 1) := by decide +kernel
theorem dX6_strokesBy_33 : decode cX6_strokesBy 33 = .ok (.iinc 2 1, 3) := by decide +kernel
theorem dX6_strokesBy_36 : decode cX6_strokesBy 36 = .ok (.goto (-13), 3) := by decide +kernel
theorem dX6_strokesBy_39 : decode cX6_strokesBy 39 = .ok (.iload_n 1, 1) := by decide +kernel
theorem dX6_strokesBy_40 : decode cX6_strokesBy 40 = .ok (.ireturn, 1) := by decide +kernel
theorem dX6_emptyPress_0 : decode cX6_emptyPress 0 = .ok (.aload_n 0, 1) := by decide +kernel
theorem dX6_emptyPress_1 : decode cX6_emptyPress 1 = .ok (.iconst 0, 1) := by decide +kernel
theorem dX6_emptyPress_2 : decode cX6_emptyPress 2 = .ok (.putfield 48, 3) := by decide +kernel
theorem dX6_emptyPress_5 : decode cX6_emptyPress 5 = .ok (.aload_n 0, 1) := by decide +kernel
theorem dX6_emptyPress_6 : decode cX6_emptyPress 6 = .ok (.invokevirtual 113, 3) := by decide +kernel
theorem dX6_emptyPress_9 : decode cX6_emptyPress 9 = .ok (.aload_n 0, 1) := by decide +kernel
theorem dX6_emptyPress_10 : decode cX6_emptyPress 10 = .ok (.invokevirtual 190, 3) := by decide +kernel
theorem dX6_emptyPress_13 : decode cX6_emptyPress 13 = .ok (.istore_n 1, 1) := by decide +kernel
theorem dX6_emptyPress_14 : decode cX6_emptyPress 14 = .ok (.aload_n 0, 1) := by decide +kernel
theorem dX6_emptyPress_15 : decode cX6_emptyPress 15 = .ok (.getfield 7, 3) := by decide +kernel
theorem dX6_emptyPress_18 : decode cX6_emptyPress 18 = .ok (.bipush 11, 2) := by decide +kernel
theorem dX6_emptyPress_20 : decode cX6_emptyPress 20 = .ok (.dup2, 1) := by decide +kernel
theorem dX6_emptyPress_21 : decode cX6_emptyPress 21 = .ok (.laload, 1) := by decide +kernel
theorem dX6_emptyPress_22 : decode cX6_emptyPress 22 = .ok (.iload_n 1, 1) := by decide +kernel
theorem dX6_emptyPress_23 : decode cX6_emptyPress 23 = .ok (.i2l, 1) := by decide +kernel
theorem dX6_emptyPress_24 : decode cX6_emptyPress 24 = .ok (.ladd, 1) := by decide +kernel
theorem dX6_emptyPress_25 : decode cX6_emptyPress 25 = .ok (.lastore, 1) := by decide +kernel
theorem dX6_emptyPress_26 : decode cX6_emptyPress 26 = .ok (.iconst 0, 1) := by decide +kernel
theorem dX6_emptyPress_27 : decode cX6_emptyPress 27 = .ok (.istore_n 2, 1) := by decide +kernel
theorem dX6_emptyPress_28 : decode cX6_emptyPress 28 = .ok (.iload_n 2, 1) := by decide +kernel
theorem dX6_emptyPress_29 : decode cX6_emptyPress 29 = .ok (.bipush 8, 2) := by decide +kernel
theorem dX6_emptyPress_31 : decode cX6_emptyPress 31 = .ok (.if_icmp .ge 19, 3) := by decide +kernel
theorem dX6_emptyPress_34 : decode cX6_emptyPress 34 = .ok (.aload_n 0, 1) := by decide +kernel
theorem dX6_emptyPress_35 : decode cX6_emptyPress 35 = .ok (.bipush 60, 2) := by decide +kernel
theorem dX6_emptyPress_37 : decode cX6_emptyPress 37 = .ok (.iconst 5, 1) := by decide +kernel
theorem dX6_emptyPress_38 : decode cX6_emptyPress 38 = .ok (.iload_n 2, 1) := by decide +kernel
theorem dX6_emptyPress_39 : decode cX6_emptyPress 39 = .ok (.imul, 1) := by decide +kernel
theorem dX6_emptyPress_40 : decode cX6_emptyPress 40 = .ok (.iadd, 1) := by decide +kernel
theorem dX6_emptyPress_41 : decode cX6_emptyPress 41 = .ok (.invokevirtual 170, 3) := by decide +kernel
theorem dX6_emptyPress_44 : decode cX6_emptyPress 44 = .ok (.iinc 2 1, 3) := by decide +kernel
theorem dX6_emptyPress_47 : decode cX6_emptyPress 47 = .ok (.goto (-19), 3) := by decide +kernel
theorem dX6_emptyPress_50 : decode cX6_emptyPress 50 = .ok (.iload_n 1, 1) := by decide +kernel
theorem dX6_emptyPress_51 : decode cX6_emptyPress 51 = .ok (.ireturn, 1) := by decide +kernel
theorem dX6_operationOf_0 : decode cX6_operationOf 0 = .ok (.iload_n 2, 1) := by decide +kernel
theorem dX6_operationOf_1 : decode cX6_operationOf 1 = .ok (.iconst 5, 1) := by decide +kernel
theorem dX6_operationOf_2 : decode cX6_operationOf 2 = .ok (.if_icmp .ge 10, 3) := by decide +kernel
theorem dX6_operationOf_5 : decode cX6_operationOf 5 = .ok (.aload_n 0, 1) := by decide +kernel
theorem dX6_operationOf_6 : decode cX6_operationOf 6 = .ok (.iload_n 1, 1) := by decide +kernel
theorem dX6_operationOf_7 : decode cX6_operationOf 7 = .ok (.iload_n 2, 1) := by decide +kernel
theorem dX6_operationOf_8 : decode cX6_operationOf 8 = .ok (.invokevirtual 77, 3) := by decide +kernel
theorem dX6_operationOf_11 : decode cX6_operationOf 11 = .ok (.ireturn, 1) := by decide +kernel
theorem dX6_operationOf_12 : decode cX6_operationOf 12 = .ok (.iload_n 2, 1) := by decide +kernel
theorem dX6_operationOf_13 : decode cX6_operationOf 13 = .ok (.iconst 5, 1) := by decide +kernel
theorem dX6_operationOf_14 : decode cX6_operationOf 14 = .ok (.if_icmp .ne 11, 3) := by decide +kernel
theorem dX6_operationOf_17 : decode cX6_operationOf 17 = .ok (.aload_n 0, 1) := by decide +kernel
theorem dX6_operationOf_18 : decode cX6_operationOf 18 = .ok (.iload_n 1, 1) := by decide +kernel
theorem dX6_operationOf_19 : decode cX6_operationOf 19 = .ok (.invokevirtual 143, 3) := by decide +kernel
theorem dX6_operationOf_22 : decode cX6_operationOf 22 = .ok (.goto 23, 3) := by decide +kernel
theorem dX6_operationOf_25 : decode cX6_operationOf 25 = .ok (.iload_n 2, 1) := by decide +kernel
theorem dX6_operationOf_26 : decode cX6_operationOf 26 = .ok (.bipush 6, 2) := by decide +kernel
theorem dX6_operationOf_28 : decode cX6_operationOf 28 = .ok (.if_icmp .ne 12, 3) := by decide +kernel
theorem dX6_operationOf_31 : decode cX6_operationOf 31 = .ok (.aload_n 0, 1) := by decide +kernel
theorem dX6_operationOf_32 : decode cX6_operationOf 32 = .ok (.iload_n 1, 1) := by decide +kernel
theorem dX6_operationOf_33 : decode cX6_operationOf 33 = .ok (.iconst 5, 1) := by decide +kernel
theorem dX6_operationOf_34 : decode cX6_operationOf 34 = .ok (.invokevirtual 77, 3) := by decide +kernel
theorem dX6_operationOf_37 : decode cX6_operationOf 37 = .ok (.goto 8, 3) := by decide +kernel
theorem dX6_operationOf_40 : decode cX6_operationOf 40 = .ok (.aload_n 0, 1) := by decide +kernel
theorem dX6_operationOf_41 : decode cX6_operationOf 41 = .ok (.iload_n 1, 1) := by decide +kernel
theorem dX6_operationOf_42 : decode cX6_operationOf 42 = .ok (.invokevirtual 146, 3) := by decide +kernel
theorem dX6_operationOf_45 : decode cX6_operationOf 45 = .ok (.ireturn, 1) := by decide +kernel
theorem dX6_operation_0 : decode cX6_operation 0 = .ok (.aload_n 0, 1) := by decide +kernel
theorem dX6_operation_1 : decode cX6_operation 1 = .ok (.iconst 0, 1) := by decide +kernel
theorem dX6_operation_2 : decode cX6_operation 2 = .ok (.putfield 48, 3) := by decide +kernel
theorem dX6_operation_5 : decode cX6_operation 5 = .ok (.aload_n 0, 1) := by decide +kernel
theorem dX6_operation_6 : decode cX6_operation 6 = .ok (.iload_n 1, 1) := by decide +kernel
theorem dX6_operation_7 : decode cX6_operation 7 = .ok (.invokevirtual 135, 3) := by decide +kernel
theorem dX6_operation_10 : decode cX6_operation 10 = .ok (.ifCond .ne 9, 3) := by decide +kernel
theorem dX6_operation_13 : decode cX6_operation 13 = .ok (.aload_n 0, 1) := by decide +kernel
theorem dX6_operation_14 : decode cX6_operation 14 = .ok (.iconst 1, 1) := by decide +kernel
theorem dX6_operation_15 : decode cX6_operation 15 = .ok (.invokevirtual 110, 3) := by decide +kernel
theorem dX6_operation_18 : decode cX6_operation 18 = .ok (.ireturn, 1) := by decide +kernel
theorem dX6_operation_19 : decode cX6_operation 19 = .ok (.iload_n 2, 1) := by decide +kernel
theorem dX6_operation_20 : decode cX6_operation 20 = .ok (.iconst 0, 1) := by decide +kernel
theorem dX6_operation_21 : decode cX6_operation 21 = .ok (.bipush 7, 2) := by decide +kernel
theorem dX6_operation_23 : decode cX6_operation 23 = .ok (.invokestatic 56, 3) := by decide +kernel
theorem dX6_operation_26 : decode cX6_operation 26 = .ok (.ifCond .eq 12, 3) := by decide +kernel
theorem dX6_operation_29 : decode cX6_operation 29 = .ok (.aload_n 0, 1) := by decide +kernel
theorem dX6_operation_30 : decode cX6_operation 30 = .ok (.iload_n 1, 1) := by decide +kernel
theorem dX6_operation_31 : decode cX6_operation 31 = .ok (.iload_n 2, 1) := by decide +kernel
theorem dX6_operation_32 : decode cX6_operation 32 = .ok (.invokevirtual 193, 3) := by decide +kernel
theorem dX6_operation_35 : decode cX6_operation 35 = .ok (.goto 8, 3) := by decide +kernel
theorem dX6_operation_38 : decode cX6_operation 38 = .ok (.aload_n 0, 1) := by decide +kernel
theorem dX6_operation_39 : decode cX6_operation 39 = .ok (.iconst 2, 1) := by decide +kernel
theorem dX6_operation_40 : decode cX6_operation 40 = .ok (.invokevirtual 110, 3) := by decide +kernel
theorem dX6_operation_43 : decode cX6_operation 43 = .ok (.ireturn, 1) := by decide +kernel
theorem dX6_stationOf_0 : decode cX6_stationOf 0 = .ok (.iload_n 2, 1) := by decide +kernel
theorem dX6_stationOf_1 : decode cX6_stationOf 1 = .ok (.ifCond .ne 11, 3) := by decide +kernel
theorem dX6_stationOf_4 : decode cX6_stationOf 4 = .ok (.aload_n 0, 1) := by decide +kernel
theorem dX6_stationOf_5 : decode cX6_stationOf 5 = .ok (.iload_n 1, 1) := by decide +kernel
theorem dX6_stationOf_6 : decode cX6_stationOf 6 = .ok (.invokevirtual 149, 3) := by decide +kernel
theorem dX6_stationOf_9 : decode cX6_stationOf 9 = .ok (.goto 12, 3) := by decide +kernel
theorem dX6_stationOf_12 : decode cX6_stationOf 12 = .ok (.aload_n 0, 1) := by decide +kernel
theorem dX6_stationOf_13 : decode cX6_stationOf 13 = .ok (.aload_n 0, 1) := by decide +kernel
theorem dX6_stationOf_14 : decode cX6_stationOf 14 = .ok (.iload_n 1, 1) := by decide +kernel
theorem dX6_stationOf_15 : decode cX6_stationOf 15 = .ok (.invokevirtual 149, 3) := by decide +kernel
theorem dX6_stationOf_18 : decode cX6_stationOf 18 = .ok (.invokevirtual 152, 3) := by decide +kernel
theorem dX6_stationOf_21 : decode cX6_stationOf 21 = .ok (.istore_n 3, 1) := by decide +kernel
theorem dX6_stationOf_22 : decode cX6_stationOf 22 = .ok (.iload_n 2, 1) := by decide +kernel
theorem dX6_stationOf_23 : decode cX6_stationOf 23 = .ok (.iconst 2, 1) := by decide +kernel
theorem dX6_stationOf_24 : decode cX6_stationOf 24 = .ok (.if_icmp .ne 18, 3) := by decide +kernel
theorem dX6_stationOf_27 : decode cX6_stationOf 27 = .ok (.aload_n 0, 1) := by decide +kernel
theorem dX6_stationOf_28 : decode cX6_stationOf 28 = .ok (.getfield 7, 3) := by decide +kernel
theorem dX6_stationOf_31 : decode cX6_stationOf 31 = .ok (.bipush 13, 2) := by decide +kernel
theorem dX6_stationOf_33 : decode cX6_stationOf 33 = .ok (.laload, 1) := by decide +kernel
theorem dX6_stationOf_34 : decode cX6_stationOf 34 = .ok (.iload_n 1, 1) := by decide +kernel
theorem dX6_stationOf_35 : decode cX6_stationOf 35 = .ok (.lshr, 1) := by decide +kernel
theorem dX6_stationOf_36 : decode cX6_stationOf 36 = .ok (.lconst 1, 1) := by decide +kernel
theorem dX6_stationOf_37 : decode cX6_stationOf 37 = .ok (.land, 1) := by decide +kernel
theorem dX6_stationOf_38 : decode cX6_stationOf 38 = .ok (.l2i, 1) := by decide +kernel
theorem dX6_stationOf_39 : decode cX6_stationOf 39 = .ok (.goto 10, 3) := by decide +kernel
theorem dX6_stationOf_42 : decode cX6_stationOf 42 = .ok (.aload_n 0, 1) := by decide +kernel
theorem dX6_stationOf_43 : decode cX6_stationOf 43 = .ok (.iload_n 1, 1) := by decide +kernel
theorem dX6_stationOf_44 : decode cX6_stationOf 44 = .ok (.iconst 0, 1) := by decide +kernel
theorem dX6_stationOf_45 : decode cX6_stationOf 45 = .ok (.invokevirtual 139, 3) := by decide +kernel
theorem dX6_stationOf_48 : decode cX6_stationOf 48 = .ok (.l2i, 1) := by decide +kernel
theorem dX6_stationOf_49 : decode cX6_stationOf 49 = .ok (.istore 4, 2) := by decide +kernel
theorem dX6_stationOf_51 : decode cX6_stationOf 51 = .ok (.iload_n 2, 1) := by decide +kernel
theorem dX6_stationOf_52 : decode cX6_stationOf 52 = .ok (.iconst 2, 1) := by decide +kernel
theorem dX6_stationOf_53 : decode cX6_stationOf 53 = .ok (.if_icmp .ge 7, 3) := by decide +kernel
theorem dX6_stationOf_56 : decode cX6_stationOf 56 = .ok (.iload_n 3, 1) := by decide +kernel
theorem dX6_stationOf_57 : decode cX6_stationOf 57 = .ok (.goto 5, 3) := by decide +kernel
theorem dX6_stationOf_60 : decode cX6_stationOf 60 = .ok (.iload 4, 2) := by decide +kernel
theorem dX6_stationOf_62 : decode cX6_stationOf 62 = .ok (.ireturn, 1) := by decide +kernel
theorem dX6_station_0 : decode cX6_station 0 = .ok (.aload_n 0, 1) := by decide +kernel
theorem dX6_station_1 : decode cX6_station 1 = .ok (.iconst 0, 1) := by decide +kernel
theorem dX6_station_2 : decode cX6_station 2 = .ok (.putfield 48, 3) := by decide +kernel
theorem dX6_station_5 : decode cX6_station 5 = .ok (.iload_n 1, 1) := by decide +kernel
theorem dX6_station_6 : decode cX6_station 6 = .ok (.iconst 0, 1) := by decide +kernel
theorem dX6_station_7 : decode cX6_station 7 = .ok (.bipush 7, 2) := by decide +kernel
theorem dX6_station_9 : decode cX6_station 9 = .ok (.invokestatic 56, 3) := by decide +kernel
theorem dX6_station_12 : decode cX6_station 12 = .ok (.ifCond .eq 21, 3) := by decide +kernel
theorem dX6_station_15 : decode cX6_station 15 = .ok (.iload_n 2, 1) := by decide +kernel
theorem dX6_station_16 : decode cX6_station 16 = .ok (.iconst 0, 1) := by decide +kernel
theorem dX6_station_17 : decode cX6_station 17 = .ok (.iconst 3, 1) := by decide +kernel
theorem dX6_station_18 : decode cX6_station 18 = .ok (.invokestatic 56, 3) := by decide +kernel
theorem dX6_station_21 : decode cX6_station 21 = .ok (.ifCond .eq 12, 3) := by decide +kernel
theorem dX6_station_24 : decode cX6_station 24 = .ok (.aload_n 0, 1) := by decide +kernel
theorem dX6_station_25 : decode cX6_station 25 = .ok (.iload_n 1, 1) := by decide +kernel
theorem dX6_station_26 : decode cX6_station 26 = .ok (.iload_n 2, 1) := by decide +kernel
theorem dX6_station_27 : decode cX6_station 27 = .ok (.invokevirtual 196, 3) := by decide +kernel
theorem dX6_station_30 : decode cX6_station 30 = .ok (.goto 8, 3) := by decide +kernel
theorem dX6_station_33 : decode cX6_station 33 = .ok (.aload_n 0, 1) := by decide +kernel
theorem dX6_station_34 : decode cX6_station 34 = .ok (.iconst 1, 1) := by decide +kernel
theorem dX6_station_35 : decode cX6_station 35 = .ok (.invokevirtual 110, 3) := by decide +kernel
theorem dX6_station_38 : decode cX6_station 38 = .ok (.ireturn, 1) := by decide +kernel
theorem dX6_pitchOf_0 : decode cX6_pitchOf 0 = .ok (.aload_n 0, 1) := by decide +kernel
theorem dX6_pitchOf_1 : decode cX6_pitchOf 1 = .ok (.iload_n 1, 1) := by decide +kernel
theorem dX6_pitchOf_2 : decode cX6_pitchOf 2 = .ok (.iconst 0, 1) := by decide +kernel
theorem dX6_pitchOf_3 : decode cX6_pitchOf 3 = .ok (.invokevirtual 139, 3) := by decide +kernel
theorem dX6_pitchOf_6 : decode cX6_pitchOf 6 = .ok (.lconst 0, 1) := by decide +kernel
theorem dX6_pitchOf_7 : decode cX6_pitchOf 7 = .ok (.lcmp, 1) := by decide +kernel
theorem dX6_pitchOf_8 : decode cX6_pitchOf 8 = .ok (.ifCond .ne 5, 3) := by decide +kernel
theorem dX6_pitchOf_11 : decode cX6_pitchOf 11 = .ok (.iconst (-1), 1) := by decide +kernel
theorem dX6_pitchOf_12 : decode cX6_pitchOf 12 = .ok (.ireturn, 1) := by decide +kernel
theorem dX6_pitchOf_13 : decode cX6_pitchOf 13 = .ok (.iload_n 2, 1) := by decide +kernel
theorem dX6_pitchOf_14 : decode cX6_pitchOf 14 = .ok (.iconst 3, 1) := by decide +kernel
theorem dX6_pitchOf_15 : decode cX6_pitchOf 15 = .ok (.if_icmp .ne 15, 3) := by decide +kernel
theorem dX6_pitchOf_18 : decode cX6_pitchOf 18 = .ok (.aload_n 0, 1) := by decide +kernel
theorem dX6_pitchOf_19 : decode cX6_pitchOf 19 = .ok (.iload_n 1, 1) := by decide +kernel
theorem dX6_pitchOf_20 : decode cX6_pitchOf 20 = .ok (.iconst 1, 1) := by decide +kernel
theorem dX6_pitchOf_21 : decode cX6_pitchOf 21 = .ok (.invokevirtual 139, 3) := by decide +kernel
theorem dX6_pitchOf_24 : decode cX6_pitchOf 24 = .ok (.invokestatic 120, 3) := by decide +kernel
theorem dX6_pitchOf_27 : decode cX6_pitchOf 27 = .ok (.goto 12, 3) := by decide +kernel
theorem dX6_pitchOf_30 : decode cX6_pitchOf 30 = .ok (.aload_n 0, 1) := by decide +kernel
theorem dX6_pitchOf_31 : decode cX6_pitchOf 31 = .ok (.iload_n 1, 1) := by decide +kernel
theorem dX6_pitchOf_32 : decode cX6_pitchOf 32 = .ok (.iconst 2, 1) := by decide +kernel
theorem dX6_pitchOf_33 : decode cX6_pitchOf 33 = .ok (.iload_n 2, 1) := by decide +kernel
theorem dX6_pitchOf_34 : decode cX6_pitchOf 34 = .ok (.iadd, 1) := by decide +kernel
theorem dX6_pitchOf_35 : decode cX6_pitchOf 35 = .ok (.invokevirtual 139, 3) := by decide +kernel
theorem dX6_pitchOf_38 : decode cX6_pitchOf 38 = .ok (.l2i, 1) := by decide +kernel
theorem dX6_pitchOf_39 : decode cX6_pitchOf 39 = .ok (.ireturn, 1) := by decide +kernel
theorem dX6_pitch_0 : decode cX6_pitch 0 = .ok (.aload_n 0, 1) := by decide +kernel
theorem dX6_pitch_1 : decode cX6_pitch 1 = .ok (.iconst 0, 1) := by decide +kernel
theorem dX6_pitch_2 : decode cX6_pitch 2 = .ok (.putfield 48, 3) := by decide +kernel
theorem dX6_pitch_5 : decode cX6_pitch 5 = .ok (.iload_n 1, 1) := by decide +kernel
theorem dX6_pitch_6 : decode cX6_pitch 6 = .ok (.iconst 0, 1) := by decide +kernel
theorem dX6_pitch_7 : decode cX6_pitch 7 = .ok (.bipush 7, 2) := by decide +kernel
theorem dX6_pitch_9 : decode cX6_pitch 9 = .ok (.invokestatic 56, 3) := by decide +kernel
theorem dX6_pitch_12 : decode cX6_pitch 12 = .ok (.ifCond .eq 21, 3) := by decide +kernel
theorem dX6_pitch_15 : decode cX6_pitch 15 = .ok (.iload_n 2, 1) := by decide +kernel
theorem dX6_pitch_16 : decode cX6_pitch 16 = .ok (.iconst 0, 1) := by decide +kernel
theorem dX6_pitch_17 : decode cX6_pitch 17 = .ok (.iconst 3, 1) := by decide +kernel
theorem dX6_pitch_18 : decode cX6_pitch 18 = .ok (.invokestatic 56, 3) := by decide +kernel
theorem dX6_pitch_21 : decode cX6_pitch 21 = .ok (.ifCond .eq 12, 3) := by decide +kernel
theorem dX6_pitch_24 : decode cX6_pitch 24 = .ok (.aload_n 0, 1) := by decide +kernel
theorem dX6_pitch_25 : decode cX6_pitch 25 = .ok (.iload_n 1, 1) := by decide +kernel
theorem dX6_pitch_26 : decode cX6_pitch 26 = .ok (.iload_n 2, 1) := by decide +kernel
theorem dX6_pitch_27 : decode cX6_pitch 27 = .ok (.invokevirtual 199, 3) := by decide +kernel
theorem dX6_pitch_30 : decode cX6_pitch 30 = .ok (.goto 8, 3) := by decide +kernel
theorem dX6_pitch_33 : decode cX6_pitch 33 = .ok (.aload_n 0, 1) := by decide +kernel
theorem dX6_pitch_34 : decode cX6_pitch 34 = .ok (.iconst 1, 1) := by decide +kernel
theorem dX6_pitch_35 : decode cX6_pitch 35 = .ok (.invokevirtual 110, 3) := by decide +kernel
theorem dX6_pitch_38 : decode cX6_pitch 38 = .ok (.ireturn, 1) := by decide +kernel
theorem dX6_left_0 : decode cX6_left 0 = .ok (.aload_n 0, 1) := by decide +kernel
theorem dX6_left_1 : decode cX6_left 1 = .ok (.iconst 0, 1) := by decide +kernel
theorem dX6_left_2 : decode cX6_left 2 = .ok (.putfield 48, 3) := by decide +kernel
theorem dX6_left_5 : decode cX6_left 5 = .ok (.iload_n 1, 1) := by decide +kernel
theorem dX6_left_6 : decode cX6_left 6 = .ok (.iconst 0, 1) := by decide +kernel
theorem dX6_left_7 : decode cX6_left 7 = .ok (.bipush 7, 2) := by decide +kernel
theorem dX6_left_9 : decode cX6_left 9 = .ok (.invokestatic 56, 3) := by decide +kernel
theorem dX6_left_12 : decode cX6_left 12 = .ok (.ifCond .eq 12, 3) := by decide +kernel
theorem dX6_left_15 : decode cX6_left 15 = .ok (.aload_n 0, 1) := by decide +kernel
theorem dX6_left_16 : decode cX6_left 16 = .ok (.iload_n 1, 1) := by decide +kernel
theorem dX6_left_17 : decode cX6_left 17 = .ok (.iconst 1, 1) := by decide +kernel
theorem dX6_left_18 : decode cX6_left 18 = .ok (.invokevirtual 139, 3) := by decide +kernel
theorem dX6_left_21 : decode cX6_left 21 = .ok (.goto 9, 3) := by decide +kernel
theorem dX6_left_24 : decode cX6_left 24 = .ok (.aload_n 0, 1) := by decide +kernel
theorem dX6_left_25 : decode cX6_left 25 = .ok (.iconst 1, 1) := by decide +kernel
theorem dX6_left_26 : decode cX6_left 26 = .ok (.invokevirtual 110, 3) := by decide +kernel
theorem dX6_left_29 : decode cX6_left 29 = .ok (.i2l, 1) := by decide +kernel
theorem dX6_left_30 : decode cX6_left 30 = .ok (.lreturn, 1) := by decide +kernel
theorem dX6_wholeOf_0 : decode cX6_wholeOf 0 = .ok (.iload_n 1, 1) := by decide +kernel
theorem dX6_wholeOf_1 : decode cX6_wholeOf 1 = .ok (.bipush 9, 2) := by decide +kernel
theorem dX6_wholeOf_3 : decode cX6_wholeOf 3 = .ok (.if_icmp .ge 9, 3) := by decide +kernel
theorem dX6_wholeOf_6 : decode cX6_wholeOf 6 = .ok (.aload_n 0, 1) := by decide +kernel
theorem dX6_wholeOf_7 : decode cX6_wholeOf 7 = .ok (.iload_n 1, 1) := by decide +kernel
theorem dX6_wholeOf_8 : decode cX6_wholeOf 8 = .ok (.invokevirtual 52, 3) := by decide +kernel
theorem dX6_wholeOf_11 : decode cX6_wholeOf 11 = .ok (.ireturn, 1) := by decide +kernel
theorem dX6_wholeOf_12 : decode cX6_wholeOf 12 = .ok (.iload_n 1, 1) := by decide +kernel
theorem dX6_wholeOf_13 : decode cX6_wholeOf 13 = .ok (.bipush 11, 2) := by decide +kernel
theorem dX6_wholeOf_15 : decode cX6_wholeOf 15 = .ok (.if_icmp .ge 21, 3) := by decide +kernel
theorem dX6_wholeOf_18 : decode cX6_wholeOf 18 = .ok (.iload_n 1, 1) := by decide +kernel
theorem dX6_wholeOf_19 : decode cX6_wholeOf 19 = .ok (.bipush 9, 2) := by decide +kernel
theorem dX6_wholeOf_21 : decode cX6_wholeOf 21 = .ok (.if_icmp .ne 10, 3) := by decide +kernel
theorem dX6_wholeOf_24 : decode cX6_wholeOf 24 = .ok (.aload_n 0, 1) := by decide +kernel
theorem dX6_wholeOf_25 : decode cX6_wholeOf 25 = .ok (.invokevirtual 174, 3) := by decide +kernel
theorem dX6_wholeOf_28 : decode cX6_wholeOf 28 = .ok (.goto 7, 3) := by decide +kernel
theorem dX6_wholeOf_31 : decode cX6_wholeOf 31 = .ok (.aload_n 0, 1) := by decide +kernel
theorem dX6_wholeOf_32 : decode cX6_wholeOf 32 = .ok (.invokevirtual 190, 3) := by decide +kernel
theorem dX6_wholeOf_35 : decode cX6_wholeOf 35 = .ok (.ireturn, 1) := by decide +kernel
theorem dX6_wholeOf_36 : decode cX6_wholeOf 36 = .ok (.iload_n 1, 1) := by decide +kernel
theorem dX6_wholeOf_37 : decode cX6_wholeOf 37 = .ok (.bipush 15, 2) := by decide +kernel
theorem dX6_wholeOf_39 : decode cX6_wholeOf 39 = .ok (.if_icmp .ge 13, 3) := by decide +kernel
theorem dX6_wholeOf_42 : decode cX6_wholeOf 42 = .ok (.aload_n 0, 1) := by decide +kernel
theorem dX6_wholeOf_43 : decode cX6_wholeOf 43 = .ok (.iload_n 1, 1) := by decide +kernel
theorem dX6_wholeOf_44 : decode cX6_wholeOf 44 = .ok (.iconst 2, 1) := by decide +kernel
theorem dX6_wholeOf_45 : decode cX6_wholeOf 45 = .ok (.isub, 1) := by decide +kernel
theorem dX6_wholeOf_46 : decode cX6_wholeOf 46 = .ok (.invokevirtual 52, 3) := by decide +kernel
theorem dX6_wholeOf_49 : decode cX6_wholeOf 49 = .ok (.goto 26, 3) := by decide +kernel
theorem dX6_wholeOf_52 : decode cX6_wholeOf 52 = .ok (.iload_n 1, 1) := by decide +kernel
theorem dX6_wholeOf_53 : decode cX6_wholeOf 53 = .ok (.bipush 15, 2) := by decide +kernel
theorem dX6_wholeOf_55 : decode cX6_wholeOf 55 = .ok (.if_icmp .ne 16, 3) := by decide +kernel
theorem dX6_wholeOf_58 : decode cX6_wholeOf 58 = .ok (.aload_n 0, 1) := by decide +kernel
theorem dX6_wholeOf_59 : decode cX6_wholeOf 59 = .ok (.getfield 7, 3) := by decide +kernel
theorem dX6_wholeOf_62 : decode cX6_wholeOf 62 = .ok (.bipush 13, 2) := by decide +kernel
theorem dX6_wholeOf_64 : decode cX6_wholeOf 64 = .ok (.laload, 1) := by decide +kernel
theorem dX6_wholeOf_65 : decode cX6_wholeOf 65 = .ok (.invokestatic 120, 3) := by decide +kernel
theorem dX6_wholeOf_68 : decode cX6_wholeOf 68 = .ok (.goto 7, 3) := by decide +kernel
theorem dX6_wholeOf_71 : decode cX6_wholeOf 71 = .ok (.aload_n 0, 1) := by decide +kernel
theorem dX6_wholeOf_72 : decode cX6_wholeOf 72 = .ok (.getfield 202, 3) := by decide +kernel
theorem dX6_wholeOf_75 : decode cX6_wholeOf 75 = .ok (.ireturn, 1) := by decide +kernel
theorem dX6_whole_0 : decode cX6_whole 0 = .ok (.aload_n 0, 1) := by decide +kernel
theorem dX6_whole_1 : decode cX6_whole 1 = .ok (.iconst 0, 1) := by decide +kernel
theorem dX6_whole_2 : decode cX6_whole 2 = .ok (.putfield 48, 3) := by decide +kernel
theorem dX6_whole_5 : decode cX6_whole 5 = .ok (.iload_n 1, 1) := by decide +kernel
theorem dX6_whole_6 : decode cX6_whole 6 = .ok (.iconst 0, 1) := by decide +kernel
theorem dX6_whole_7 : decode cX6_whole 7 = .ok (.bipush 16, 2) := by decide +kernel
theorem dX6_whole_9 : decode cX6_whole 9 = .ok (.invokestatic 56, 3) := by decide +kernel
theorem dX6_whole_12 : decode cX6_whole 12 = .ok (.ifCond .eq 11, 3) := by decide +kernel
theorem dX6_whole_15 : decode cX6_whole 15 = .ok (.aload_n 0, 1) := by decide +kernel
theorem dX6_whole_16 : decode cX6_whole 16 = .ok (.iload_n 1, 1) := by decide +kernel
theorem dX6_whole_17 : decode cX6_whole 17 = .ok (.invokevirtual 205, 3) := by decide +kernel
theorem dX6_whole_20 : decode cX6_whole 20 = .ok (.goto 8, 3) := by decide +kernel
theorem dX6_whole_23 : decode cX6_whole 23 = .ok (.aload_n 0, 1) := by decide +kernel
theorem dX6_whole_24 : decode cX6_whole 24 = .ok (.iconst 1, 1) := by decide +kernel
theorem dX6_whole_25 : decode cX6_whole 25 = .ok (.invokevirtual 110, 3) := by decide +kernel
theorem dX6_whole_28 : decode cX6_whole 28 = .ok (.ireturn, 1) := by decide +kernel
theorem dX6_faultOfDie_0 : decode cX6_faultOfDie 0 = .ok (.aload_n 0, 1) := by decide +kernel
theorem dX6_faultOfDie_1 : decode cX6_faultOfDie 1 = .ok (.invokevirtual 85, 3) := by decide +kernel
theorem dX6_faultOfDie_4 : decode cX6_faultOfDie 4 = .ok (.lconst 0, 1) := by decide +kernel
theorem dX6_faultOfDie_5 : decode cX6_faultOfDie 5 = .ok (.lcmp, 1) := by decide +kernel
theorem dX6_faultOfDie_6 : decode cX6_faultOfDie 6 = .ok (.ifCond .ne 5, 3) := by decide +kernel
theorem dX6_faultOfDie_9 : decode cX6_faultOfDie 9 = .ok (.iconst 1, 1) := by decide +kernel
theorem dX6_faultOfDie_10 : decode cX6_faultOfDie 10 = .ok (.ireturn, 1) := by decide +kernel
theorem dX6_faultOfDie_11 : decode cX6_faultOfDie 11 = .ok (.aload_n 0, 1) := by decide +kernel
theorem dX6_faultOfDie_12 : decode cX6_faultOfDie 12 = .ok (.iconst 0, 1) := by decide +kernel
theorem dX6_faultOfDie_13 : decode cX6_faultOfDie 13 = .ok (.invokevirtual 98, 3) := by decide +kernel
theorem dX6_faultOfDie_16 : decode cX6_faultOfDie 16 = .ok (.aload_n 0, 1) := by decide +kernel
theorem dX6_faultOfDie_17 : decode cX6_faultOfDie 17 = .ok (.invokevirtual 85, 3) := by decide +kernel
theorem dX6_faultOfDie_20 : decode cX6_faultOfDie 20 = .ok (.aload_n 0, 1) := by decide +kernel
theorem dX6_faultOfDie_21 : decode cX6_faultOfDie 21 = .ok (.invokevirtual 88, 3) := by decide +kernel
theorem dX6_faultOfDie_24 : decode cX6_faultOfDie 24 = .ok (.lor, 1) := by decide +kernel
theorem dX6_faultOfDie_25 : decode cX6_faultOfDie 25 = .ok (.land, 1) := by decide +kernel
theorem dX6_faultOfDie_26 : decode cX6_faultOfDie 26 = .ok (.lconst 0, 1) := by decide +kernel
theorem dX6_faultOfDie_27 : decode cX6_faultOfDie 27 = .ok (.lcmp, 1) := by decide +kernel
theorem dX6_faultOfDie_28 : decode cX6_faultOfDie 28 = .ok (.ifCond .eq 5, 3) := by decide +kernel
theorem dX6_faultOfDie_31 : decode cX6_faultOfDie 31 = .ok (.iconst 2, 1) := by decide +kernel
theorem dX6_faultOfDie_32 : decode cX6_faultOfDie 32 = .ok (.ireturn, 1) := by decide +kernel
theorem dX6_faultOfDie_33 : decode cX6_faultOfDie 33 = .ok (.aload_n 0, 1) := by decide +kernel
theorem dX6_faultOfDie_34 : decode cX6_faultOfDie 34 = .ok (.iconst 0, 1) := by decide +kernel
theorem dX6_faultOfDie_35 : decode cX6_faultOfDie 35 = .ok (.invokevirtual 98, 3) := by decide +kernel
theorem dX6_faultOfDie_38 : decode cX6_faultOfDie 38 = .ok (.aload_n 0, 1) := by decide +kernel
theorem dX6_faultOfDie_39 : decode cX6_faultOfDie 39 = .ok (.invokevirtual 71, 3) := by decide +kernel
theorem dX6_faultOfDie_42 : decode cX6_faultOfDie 42 = .ok (.land, 1) := by decide +kernel
theorem dX6_faultOfDie_43 : decode cX6_faultOfDie 43 = .ok (.lconst 0, 1) := by decide +kernel
theorem dX6_faultOfDie_44 : decode cX6_faultOfDie 44 = .ok (.lcmp, 1) := by decide +kernel
theorem dX6_faultOfDie_45 : decode cX6_faultOfDie 45 = .ok (.ifCond .eq 5, 3) := by decide +kernel
theorem dX6_faultOfDie_48 : decode cX6_faultOfDie 48 = .ok (.iconst 3, 1) := by decide +kernel
theorem dX6_faultOfDie_49 : decode cX6_faultOfDie 49 = .ok (.ireturn, 1) := by decide +kernel
theorem dX6_faultOfDie_50 : decode cX6_faultOfDie 50 = .ok (.aload_n 0, 1) := by decide +kernel
theorem dX6_faultOfDie_51 : decode cX6_faultOfDie 51 = .ok (.iconst 1, 1) := by decide +kernel
theorem dX6_faultOfDie_52 : decode cX6_faultOfDie 52 = .ok (.invokevirtual 98, 3) := by decide +kernel
theorem dX6_faultOfDie_55 : decode cX6_faultOfDie 55 = .ok (.aload_n 0, 1) := by decide +kernel
theorem dX6_faultOfDie_56 : decode cX6_faultOfDie 56 = .ok (.invokevirtual 85, 3) := by decide +kernel
theorem dX6_faultOfDie_59 : decode cX6_faultOfDie 59 = .ok (.ldc2_w 75, 3) := by decide +kernel
theorem dX6_faultOfDie_62 : decode cX6_faultOfDie 62 = .ok (.lxor, 1) := by decide +kernel
theorem dX6_faultOfDie_63 : decode cX6_faultOfDie 63 = .ok (.land, 1) := by decide +kernel
theorem dX6_faultOfDie_64 : decode cX6_faultOfDie 64 = .ok (.lconst 0, 1) := by decide +kernel
theorem dX6_faultOfDie_65 : decode cX6_faultOfDie 65 = .ok (.lcmp, 1) := by decide +kernel
theorem dX6_faultOfDie_66 : decode cX6_faultOfDie 66 = .ok (.ifCond .eq 5, 3) := by decide +kernel
theorem dX6_faultOfDie_69 : decode cX6_faultOfDie 69 = .ok (.iconst 4, 1) := by decide +kernel
theorem dX6_faultOfDie_70 : decode cX6_faultOfDie 70 = .ok (.ireturn, 1) := by decide +kernel
theorem dX6_faultOfDie_71 : decode cX6_faultOfDie 71 = .ok (.aload_n 0, 1) := by decide +kernel
theorem dX6_faultOfDie_72 : decode cX6_faultOfDie 72 = .ok (.invokevirtual 101, 3) := by decide +kernel
theorem dX6_faultOfDie_75 : decode cX6_faultOfDie 75 = .ok (.lconst 0, 1) := by decide +kernel
theorem dX6_faultOfDie_76 : decode cX6_faultOfDie 76 = .ok (.lcmp, 1) := by decide +kernel
theorem dX6_faultOfDie_77 : decode cX6_faultOfDie 77 = .ok (.ifCond .eq 7, 3) := by decide +kernel
theorem dX6_faultOfDie_80 : decode cX6_faultOfDie 80 = .ok (.iconst 5, 1) := by decide +kernel
theorem dX6_faultOfDie_81 : decode cX6_faultOfDie 81 = .ok (.goto 18, 3) := by decide +kernel
theorem dX6_faultOfDie_84 : decode cX6_faultOfDie 84 = .ok (.aload_n 0, 1) := by decide +kernel
theorem dX6_faultOfDie_85 : decode cX6_faultOfDie 85 = .ok (.invokevirtual 104, 3) := by decide +kernel
theorem dX6_faultOfDie_88 : decode cX6_faultOfDie 88 = .ok (.lconst 0, 1) := by decide +kernel
theorem dX6_faultOfDie_89 : decode cX6_faultOfDie 89 = .ok (.lcmp, 1) := by decide +kernel
theorem dX6_faultOfDie_90 : decode cX6_faultOfDie 90 = .ok (.ifCond .eq 8, 3) := by decide +kernel
theorem dX6_faultOfDie_93 : decode cX6_faultOfDie 93 = .ok (.bipush 6, 2) := by decide +kernel
theorem dX6_faultOfDie_95 : decode cX6_faultOfDie 95 = .ok (.goto 4, 3) := by decide +kernel
theorem dX6_faultOfDie_98 : decode cX6_faultOfDie 98 = .ok (.iconst 0, 1) := by decide +kernel
theorem dX6_faultOfDie_99 : decode cX6_faultOfDie 99 = .ok (.ireturn, 1) := by decide +kernel
theorem dX6_dieFault_0 : decode cX6_dieFault 0 = .ok (.aload_n 0, 1) := by decide +kernel
theorem dX6_dieFault_1 : decode cX6_dieFault 1 = .ok (.iconst 0, 1) := by decide +kernel
theorem dX6_dieFault_2 : decode cX6_dieFault 2 = .ok (.putfield 48, 3) := by decide +kernel
theorem dX6_dieFault_5 : decode cX6_dieFault 5 = .ok (.aload_n 0, 1) := by decide +kernel
theorem dX6_dieFault_6 : decode cX6_dieFault 6 = .ok (.invokevirtual 208, 3) := by decide +kernel
theorem dX6_dieFault_9 : decode cX6_dieFault 9 = .ok (.ireturn, 1) := by decide +kernel
theorem dX6_planFault_0 : decode cX6_planFault 0 = .ok (.aload_n 0, 1) := by decide +kernel
theorem dX6_planFault_1 : decode cX6_planFault 1 = .ok (.iconst 0, 1) := by decide +kernel
theorem dX6_planFault_2 : decode cX6_planFault 2 = .ok (.putfield 48, 3) := by decide +kernel
theorem dX6_planFault_5 : decode cX6_planFault 5 = .ok (.aload_n 0, 1) := by decide +kernel
theorem dX6_planFault_6 : decode cX6_planFault 6 = .ok (.invokevirtual 211, 3) := by decide +kernel
theorem dX6_planFault_9 : decode cX6_planFault 9 = .ok (.ireturn, 1) := by decide +kernel
theorem dX6_planned_0 : decode cX6_planned 0 = .ok (.aload_n 0, 1) := by decide +kernel
theorem dX6_planned_1 : decode cX6_planned 1 = .ok (.iconst 0, 1) := by decide +kernel
theorem dX6_planned_2 : decode cX6_planned 2 = .ok (.putfield 48, 3) := by decide +kernel
theorem dX6_planned_5 : decode cX6_planned 5 = .ok (.iload_n 1, 1) := by decide +kernel
theorem dX6_planned_6 : decode cX6_planned 6 = .ok (.iconst (-1), 1) := by decide +kernel
theorem dX6_planned_7 : decode cX6_planned 7 = .ok (.if_icmp .eq 17, 3) := by decide +kernel
theorem dX6_planned_10 : decode cX6_planned 10 = .ok (.aload_n 0, 1) := by decide +kernel
theorem dX6_planned_11 : decode cX6_planned 11 = .ok (.iload_n 1, 1) := by decide +kernel
theorem dX6_planned_12 : decode cX6_planned 12 = .ok (.invokevirtual 135, 3) := by decide +kernel
theorem dX6_planned_15 : decode cX6_planned 15 = .ok (.ifCond .ne 9, 3) := by decide +kernel
theorem dX6_planned_18 : decode cX6_planned 18 = .ok (.aload_n 0, 1) := by decide +kernel
theorem dX6_planned_19 : decode cX6_planned 19 = .ok (.iconst 1, 1) := by decide +kernel
theorem dX6_planned_20 : decode cX6_planned 20 = .ok (.invokevirtual 110, 3) := by decide +kernel
theorem dX6_planned_23 : decode cX6_planned 23 = .ok (.ireturn, 1) := by decide +kernel
theorem dX6_planned_24 : decode cX6_planned 24 = .ok (.aload_n 0, 1) := by decide +kernel
theorem dX6_planned_25 : decode cX6_planned 25 = .ok (.aload_n 0, 1) := by decide +kernel
theorem dX6_planned_26 : decode cX6_planned 26 = .ok (.iconst 0, 1) := by decide +kernel
theorem dX6_planned_27 : decode cX6_planned 27 = .ok (.invokevirtual 128, 3) := by decide +kernel
theorem dX6_planned_30 : decode cX6_planned 30 = .ok (.invokevirtual 164, 3) := by decide +kernel
theorem dX6_planned_33 : decode cX6_planned 33 = .ok (.istore_n 2, 1) := by decide +kernel
theorem dX6_planned_34 : decode cX6_planned 34 = .ok (.iload_n 2, 1) := by decide +kernel
theorem dX6_planned_35 : decode cX6_planned 35 = .ok (.iconst (-1), 1) := by decide +kernel
theorem dX6_planned_36 : decode cX6_planned 36 = .ok (.if_icmp .eq 8, 3) := by decide +kernel
theorem dX6_planned_39 : decode cX6_planned 39 = .ok (.iload_n 1, 1) := by decide +kernel
theorem dX6_planned_40 : decode cX6_planned 40 = .ok (.iconst (-1), 1) := by decide +kernel
theorem dX6_planned_41 : decode cX6_planned 41 = .ok (.if_icmp .ne 7, 3) := by decide +kernel
theorem dX6_planned_44 : decode cX6_planned 44 = .ok (.iload_n 2, 1) := by decide +kernel
theorem dX6_planned_45 : decode cX6_planned 45 = .ok (.goto 9, 3) := by decide +kernel
theorem dX6_planned_48 : decode cX6_planned 48 = .ok (.aload_n 0, 1) := by decide +kernel
theorem dX6_planned_49 : decode cX6_planned 49 = .ok (.getfield 23, 3) := by decide +kernel
theorem dX6_planned_52 : decode cX6_planned 52 = .ok (.iload_n 1, 1) := by decide +kernel
theorem dX6_planned_53 : decode cX6_planned 53 = .ok (.iaload, 1) := by decide +kernel
theorem dX6_planned_54 : decode cX6_planned 54 = .ok (.ireturn, 1) := by decide +kernel
theorem dX6_leastLimit_0 : decode cX6_leastLimit 0 = .ok (.aload_n 0, 1) := by decide +kernel
theorem dX6_leastLimit_1 : decode cX6_leastLimit 1 = .ok (.iconst 0, 1) := by decide +kernel
theorem dX6_leastLimit_2 : decode cX6_leastLimit 2 = .ok (.putfield 48, 3) := by decide +kernel
theorem dX6_leastLimit_5 : decode cX6_leastLimit 5 = .ok (.aload_n 0, 1) := by decide +kernel
theorem dX6_leastLimit_6 : decode cX6_leastLimit 6 = .ok (.sipush 999, 3) := by decide +kernel
theorem dX6_leastLimit_9 : decode cX6_leastLimit 9 = .ok (.invokevirtual 164, 3) := by decide +kernel
theorem dX6_leastLimit_12 : decode cX6_leastLimit 12 = .ok (.iconst (-1), 1) := by decide +kernel
theorem dX6_leastLimit_13 : decode cX6_leastLimit 13 = .ok (.if_icmp .ne 5, 3) := by decide +kernel
theorem dX6_leastLimit_16 : decode cX6_leastLimit 16 = .ok (.iconst (-1), 1) := by decide +kernel
theorem dX6_leastLimit_17 : decode cX6_leastLimit 17 = .ok (.ireturn, 1) := by decide +kernel
theorem dX6_leastLimit_18 : decode cX6_leastLimit 18 = .ok (.iconst 1, 1) := by decide +kernel
theorem dX6_leastLimit_19 : decode cX6_leastLimit 19 = .ok (.istore_n 1, 1) := by decide +kernel
theorem dX6_leastLimit_20 : decode cX6_leastLimit 20 = .ok (.sipush 999, 3) := by decide +kernel
theorem dX6_leastLimit_23 : decode cX6_leastLimit 23 = .ok (.istore_n 2, 1) := by decide +kernel
theorem dX6_leastLimit_24 : decode cX6_leastLimit 24 = .ok (.iload_n 1, 1) := by decide +kernel
theorem dX6_leastLimit_25 : decode cX6_leastLimit 25 = .ok (.iload_n 2, 1) := by decide +kernel
theorem dX6_leastLimit_26 : decode cX6_leastLimit 26 = .ok (.if_icmp .ge 30, 3) := by decide +kernel
theorem dX6_leastLimit_29 : decode cX6_leastLimit 29 = .ok (.iload_n 1, 1) := by decide +kernel
theorem dX6_leastLimit_30 : decode cX6_leastLimit 30 = .ok (.iload_n 2, 1) := by decide +kernel
theorem dX6_leastLimit_31 : decode cX6_leastLimit 31 = .ok (.iadd, 1) := by decide +kernel
theorem dX6_leastLimit_32 : decode cX6_leastLimit 32 = .ok (.iconst 2, 1) := by decide +kernel
theorem dX6_leastLimit_33 : decode cX6_leastLimit 33 = .ok (.idiv, 1) := by decide +kernel
theorem dX6_leastLimit_34 : decode cX6_leastLimit 34 = .ok (.istore_n 3, 1) := by decide +kernel
theorem dX6_leastLimit_35 : decode cX6_leastLimit 35 = .ok (.aload_n 0, 1) := by decide +kernel
theorem dX6_leastLimit_36 : decode cX6_leastLimit 36 = .ok (.iload_n 3, 1) := by decide +kernel
theorem dX6_leastLimit_37 : decode cX6_leastLimit 37 = .ok (.invokevirtual 164, 3) := by decide +kernel
theorem dX6_leastLimit_40 : decode cX6_leastLimit 40 = .ok (.iconst (-1), 1) := by decide +kernel
theorem dX6_leastLimit_41 : decode cX6_leastLimit 41 = .ok (.if_icmp .ne 10, 3) := by decide +kernel
theorem dX6_leastLimit_44 : decode cX6_leastLimit 44 = .ok (.iload_n 3, 1) := by decide +kernel
theorem dX6_leastLimit_45 : decode cX6_leastLimit 45 = .ok (.iconst 1, 1) := by decide +kernel
theorem dX6_leastLimit_46 : decode cX6_leastLimit 46 = .ok (.iadd, 1) := by decide +kernel
theorem dX6_leastLimit_47 : decode cX6_leastLimit 47 = .ok (.istore_n 1, 1) := by decide +kernel
theorem dX6_leastLimit_48 : decode cX6_leastLimit 48 = .ok (.goto 5, 3) := by decide +kernel
theorem dX6_leastLimit_51 : decode cX6_leastLimit 51 = .ok (.iload_n 3, 1) := by decide +kernel
theorem dX6_leastLimit_52 : decode cX6_leastLimit 52 = .ok (.istore_n 2, 1) := by decide +kernel
theorem dX6_leastLimit_53 : decode cX6_leastLimit 53 = .ok (.goto (-29), 3) := by decide +kernel
theorem dX6_leastLimit_56 : decode cX6_leastLimit 56 = .ok (.iload_n 1, 1) := by decide +kernel
theorem dX6_leastLimit_57 : decode cX6_leastLimit 57 = .ok (.ireturn, 1) := by decide +kernel
theorem dX6_fits_0 : decode cX6_fits 0 = .ok (.aload_n 0, 1) := by decide +kernel
theorem dX6_fits_1 : decode cX6_fits 1 = .ok (.invokevirtual 85, 3) := by decide +kernel
theorem dX6_fits_4 : decode cX6_fits 4 = .ok (.lstore_n 1, 1) := by decide +kernel
theorem dX6_fits_5 : decode cX6_fits 5 = .ok (.lconst 0, 1) := by decide +kernel
theorem dX6_fits_6 : decode cX6_fits 6 = .ok (.lstore_n 3, 1) := by decide +kernel
theorem dX6_fits_7 : decode cX6_fits 7 = .ok (.aload_n 0, 1) := by decide +kernel
theorem dX6_fits_8 : decode cX6_fits 8 = .ok (.iconst 0, 1) := by decide +kernel
theorem dX6_fits_9 : decode cX6_fits 9 = .ok (.invokevirtual 52, 3) := by decide +kernel
theorem dX6_fits_12 : decode cX6_fits 12 = .ok (.aload_n 0, 1) := by decide +kernel
theorem dX6_fits_13 : decode cX6_fits 13 = .ok (.iconst 1, 1) := by decide +kernel
theorem dX6_fits_14 : decode cX6_fits 14 = .ok (.invokevirtual 52, 3) := by decide +kernel
theorem dX6_fits_17 : decode cX6_fits 17 = .ok (.imul, 1) := by decide +kernel
theorem dX6_fits_18 : decode cX6_fits 18 = .ok (.istore 5, 2) := by decide +kernel
theorem dX6_fits_20 : decode cX6_fits 20 = .ok (.iconst 0, 1) := by decide +kernel
theorem dX6_fits_21 : decode cX6_fits 21 = .ok (.istore 6, 2) := by decide +kernel
theorem dX6_fits_23 : decode cX6_fits 23 = .ok (.iload 6, 2) := by decide +kernel
theorem dX6_fits_25 : decode cX6_fits 25 = .ok (.iload 5, 2) := by decide +kernel
theorem dX6_fits_27 : decode cX6_fits 27 = .ok (.if_icmp .ge 36, 3) := by decide +kernel
theorem dX6_fits_30 : decode cX6_fits 30 = .ok (.lload_n 3, 1) := by decide +kernel
theorem dX6_fits_31 : decode cX6_fits 31 = .ok (.lload_n 1, 1) := by decide +kernel
theorem dX6_fits_32 : decode cX6_fits 32 = .ok (.iload 6, 2) := by decide +kernel
theorem dX6_fits_34 : decode cX6_fits 34 = .ok (.lshr, 1) := by decide +kernel
theorem dX6_fits_35 : decode cX6_fits 35 = .ok (.lconst 1, 1) := by decide +kernel
theorem dX6_fits_36 : decode cX6_fits 36 = .ok (.land, 1) := by decide +kernel
theorem dX6_fits_37 : decode cX6_fits 37 = .ok (.lconst 1, 1) := by decide +kernel
theorem dX6_fits_38 : decode cX6_fits 38 = .ok (.lcmp, 1) := by decide +kernel
theorem dX6_fits_39 : decode cX6_fits 39 = .ok (.ifCond .ne 15, 3) := by decide +kernel
theorem dX6_fits_42 : decode cX6_fits 42 = .ok (.lconst 1, 1) := by decide +kernel
theorem dX6_fits_43 : decode cX6_fits 43 = .ok (.iload 5, 2) := by decide +kernel
theorem dX6_fits_45 : decode cX6_fits 45 = .ok (.iconst 1, 1) := by decide +kernel
theorem dX6_fits_46 : decode cX6_fits 46 = .ok (.isub, 1) := by decide +kernel
theorem dX6_fits_47 : decode cX6_fits 47 = .ok (.iload 6, 2) := by decide +kernel
theorem dX6_fits_49 : decode cX6_fits 49 = .ok (.isub, 1) := by decide +kernel
theorem dX6_fits_50 : decode cX6_fits 50 = .ok (.lshl, 1) := by decide +kernel
theorem dX6_fits_51 : decode cX6_fits 51 = .ok (.goto 4, 3) := by decide +kernel
theorem dX6_fits_54 : decode cX6_fits 54 = .ok (.lconst 0, 1) := by decide +kernel
theorem dX6_fits_55 : decode cX6_fits 55 = .ok (.lor, 1) := by decide +kernel
theorem dX6_fits_56 : decode cX6_fits 56 = .ok (.lstore_n 3, 1) := by decide +kernel
theorem dX6_fits_57 : decode cX6_fits 57 = .ok (.iinc 6 1, 3) := by decide +kernel
theorem dX6_fits_60 : decode cX6_fits 60 = .ok (.goto (-37), 3) := by decide +kernel
theorem dX6_fits_63 : decode cX6_fits 63 = .ok (.lload_n 1, 1) := by decide +kernel
theorem dX6_fits_64 : decode cX6_fits 64 = .ok (.lconst 0, 1) := by decide +kernel
theorem dX6_fits_65 : decode cX6_fits 65 = .ok (.lcmp, 1) := by decide +kernel
theorem dX6_fits_66 : decode cX6_fits 66 = .ok (.ifCond .eq 24, 3) := by decide +kernel
theorem dX6_fits_69 : decode cX6_fits 69 = .ok (.lload_n 3, 1) := by decide +kernel
theorem dX6_fits_70 : decode cX6_fits 70 = .ok (.aload_n 0, 1) := by decide +kernel
theorem dX6_fits_71 : decode cX6_fits 71 = .ok (.invokevirtual 71, 3) := by decide +kernel
theorem dX6_fits_74 : decode cX6_fits 74 = .ok (.aload_n 0, 1) := by decide +kernel
theorem dX6_fits_75 : decode cX6_fits 75 = .ok (.lload_n 1, 1) := by decide +kernel
theorem dX6_fits_76 : decode cX6_fits 76 = .ok (.invokevirtual 91, 3) := by decide +kernel
theorem dX6_fits_79 : decode cX6_fits 79 = .ok (.lor, 1) := by decide +kernel
theorem dX6_fits_80 : decode cX6_fits 80 = .ok (.land, 1) := by decide +kernel
theorem dX6_fits_81 : decode cX6_fits 81 = .ok (.lconst 0, 1) := by decide +kernel
theorem dX6_fits_82 : decode cX6_fits 82 = .ok (.lcmp, 1) := by decide +kernel
theorem dX6_fits_83 : decode cX6_fits 83 = .ok (.ifCond .ne 7, 3) := by decide +kernel
theorem dX6_fits_86 : decode cX6_fits 86 = .ok (.iconst 1, 1) := by decide +kernel
theorem dX6_fits_87 : decode cX6_fits 87 = .ok (.goto 4, 3) := by decide +kernel
theorem dX6_fits_90 : decode cX6_fits 90 = .ok (.iconst 0, 1) := by decide +kernel
theorem dX6_fits_91 : decode cX6_fits 91 = .ok (.ireturn, 1) := by decide +kernel
theorem dX6_fitsTwice_0 : decode cX6_fitsTwice 0 = .ok (.aload_n 0, 1) := by decide +kernel
theorem dX6_fitsTwice_1 : decode cX6_fitsTwice 1 = .ok (.iconst 0, 1) := by decide +kernel
theorem dX6_fitsTwice_2 : decode cX6_fitsTwice 2 = .ok (.putfield 48, 3) := by decide +kernel
theorem dX6_fitsTwice_5 : decode cX6_fitsTwice 5 = .ok (.aload_n 0, 1) := by decide +kernel
theorem dX6_fitsTwice_6 : decode cX6_fitsTwice 6 = .ok (.invokevirtual 214, 3) := by decide +kernel
theorem dX6_fitsTwice_9 : decode cX6_fitsTwice 9 = .ok (.ireturn, 1) := by decide +kernel
theorem dX6_scrapOf_0 : decode cX6_scrapOf 0 = .ok (.aload_n 0, 1) := by decide +kernel
theorem dX6_scrapOf_1 : decode cX6_scrapOf 1 = .ok (.iconst 0, 1) := by decide +kernel
theorem dX6_scrapOf_2 : decode cX6_scrapOf 2 = .ok (.invokevirtual 52, 3) := by decide +kernel
theorem dX6_scrapOf_5 : decode cX6_scrapOf 5 = .ok (.aload_n 0, 1) := by decide +kernel
theorem dX6_scrapOf_6 : decode cX6_scrapOf 6 = .ok (.iconst 1, 1) := by decide +kernel
theorem dX6_scrapOf_7 : decode cX6_scrapOf 7 = .ok (.invokevirtual 52, 3) := by decide +kernel
theorem dX6_scrapOf_10 : decode cX6_scrapOf 10 = .ok (.imul, 1) := by decide +kernel
theorem dX6_scrapOf_11 : decode cX6_scrapOf 11 = .ok (.istore_n 2, 1) := by decide +kernel
theorem dX6_scrapOf_12 : decode cX6_scrapOf 12 = .ok (.iload_n 1, 1) := by decide +kernel
theorem dX6_scrapOf_13 : decode cX6_scrapOf 13 = .ok (.ifCond .eq 23, 3) := by decide +kernel
theorem dX6_scrapOf_16 : decode cX6_scrapOf 16 = .ok (.aload_n 0, 1) := by decide +kernel
theorem dX6_scrapOf_17 : decode cX6_scrapOf 17 = .ok (.invokevirtual 214, 3) := by decide +kernel
theorem dX6_scrapOf_20 : decode cX6_scrapOf 20 = .ok (.iconst 1, 1) := by decide +kernel
theorem dX6_scrapOf_21 : decode cX6_scrapOf 21 = .ok (.if_icmp .ne 15, 3) := by decide +kernel
theorem dX6_scrapOf_24 : decode cX6_scrapOf 24 = .ok (.iconst 2, 1) := by decide +kernel
theorem dX6_scrapOf_25 : decode cX6_scrapOf 25 = .ok (.aload_n 0, 1) := by decide +kernel
theorem dX6_scrapOf_26 : decode cX6_scrapOf 26 = .ok (.invokevirtual 85, 3) := by decide +kernel
theorem dX6_scrapOf_29 : decode cX6_scrapOf 29 = .ok (.invokestatic 120, 3) := by decide +kernel
theorem dX6_scrapOf_32 : decode cX6_scrapOf 32 = .ok (.imul, 1) := by decide +kernel
theorem dX6_scrapOf_33 : decode cX6_scrapOf 33 = .ok (.goto 10, 3) := by decide +kernel
theorem dX6_scrapOf_36 : decode cX6_scrapOf 36 = .ok (.aload_n 0, 1) := by decide +kernel
theorem dX6_scrapOf_37 : decode cX6_scrapOf 37 = .ok (.invokevirtual 85, 3) := by decide +kernel
theorem dX6_scrapOf_40 : decode cX6_scrapOf 40 = .ok (.invokestatic 120, 3) := by decide +kernel
theorem dX6_scrapOf_43 : decode cX6_scrapOf 43 = .ok (.istore_n 3, 1) := by decide +kernel
theorem dX6_scrapOf_44 : decode cX6_scrapOf 44 = .ok (.sipush 1000, 3) := by decide +kernel
theorem dX6_scrapOf_47 : decode cX6_scrapOf 47 = .ok (.iload_n 2, 1) := by decide +kernel
theorem dX6_scrapOf_48 : decode cX6_scrapOf 48 = .ok (.iload_n 3, 1) := by decide +kernel
theorem dX6_scrapOf_49 : decode cX6_scrapOf 49 = .ok (.isub, 1) := by decide +kernel
theorem dX6_scrapOf_50 : decode cX6_scrapOf 50 = .ok (.imul, 1) := by decide +kernel
theorem dX6_scrapOf_51 : decode cX6_scrapOf 51 = .ok (.iload_n 2, 1) := by decide +kernel
theorem dX6_scrapOf_52 : decode cX6_scrapOf 52 = .ok (.idiv, 1) := by decide +kernel
theorem dX6_scrapOf_53 : decode cX6_scrapOf 53 = .ok (.ireturn, 1) := by decide +kernel
theorem dX6_scrap_0 : decode cX6_scrap 0 = .ok (.aload_n 0, 1) := by decide +kernel
theorem dX6_scrap_1 : decode cX6_scrap 1 = .ok (.iconst 0, 1) := by decide +kernel
theorem dX6_scrap_2 : decode cX6_scrap 2 = .ok (.putfield 48, 3) := by decide +kernel
theorem dX6_scrap_5 : decode cX6_scrap 5 = .ok (.aload_n 0, 1) := by decide +kernel
theorem dX6_scrap_6 : decode cX6_scrap 6 = .ok (.iload_n 1, 1) := by decide +kernel
theorem dX6_scrap_7 : decode cX6_scrap 7 = .ok (.invokevirtual 217, 3) := by decide +kernel
theorem dX6_scrap_10 : decode cX6_scrap 10 = .ok (.ireturn, 1) := by decide +kernel
theorem dX6_strokesToGood_0 : decode cX6_strokesToGood 0 = .ok (.aload_n 0, 1) := by decide +kernel
theorem dX6_strokesToGood_1 : decode cX6_strokesToGood 1 = .ok (.iconst 0, 1) := by decide +kernel
theorem dX6_strokesToGood_2 : decode cX6_strokesToGood 2 = .ok (.putfield 48, 3) := by decide +kernel
theorem dX6_strokesToGood_5 : decode cX6_strokesToGood 5 = .ok (.iconst 0, 1) := by decide +kernel
theorem dX6_strokesToGood_6 : decode cX6_strokesToGood 6 = .ok (.istore_n 1, 1) := by decide +kernel
theorem dX6_strokesToGood_7 : decode cX6_strokesToGood 7 = .ok (.iload_n 1, 1) := by decide +kernel
theorem dX6_strokesToGood_8 : decode cX6_strokesToGood 8 = .ok (.bipush 100, 2) := by decide +kernel
theorem dX6_strokesToGood_10 : decode cX6_strokesToGood 10 = .ok (.if_icmp .ge 21, 3) := by decide +kernel
theorem dX6_strokesToGood_13 : decode cX6_strokesToGood 13 = .ok (.aload_n 0, 1) := by decide +kernel
theorem dX6_strokesToGood_14 : decode cX6_strokesToGood 14 = .ok (.getfield 16, 3) := by decide +kernel
theorem dX6_strokesToGood_17 : decode cX6_strokesToGood 17 = .ok (.iload_n 1, 1) := by decide +kernel
theorem dX6_strokesToGood_18 : decode cX6_strokesToGood 18 = .ok (.aload_n 0, 1) := by decide +kernel
theorem dX6_strokesToGood_19 : decode cX6_strokesToGood 19 = .ok (.getfield 7, 3) := by decide +kernel
theorem dX6_strokesToGood_22 : decode cX6_strokesToGood 22 = .ok (.iload_n 1, 1) := by decide +kernel
theorem dX6_strokesToGood_23 : decode cX6_strokesToGood 23 = .ok (.laload, 1) := by decide +kernel
theorem dX6_strokesToGood_24 : decode cX6_strokesToGood 24 = .ok (.lastore, 1) := by decide +kernel
theorem dX6_strokesToGood_25 : decode cX6_strokesToGood 25 = .ok (.iinc 1 1, 3) := by decide +kernel
theorem dX6_strokesToGood_28 : decode cX6_strokesToGood 28 = .ok (.goto (-21), 3) := by decide +kernel
theorem dX6_strokesToGood_31 : decode cX6_strokesToGood 31 = .ok (.iconst (-1), 1) := by decide +kernel
theorem dX6_strokesToGood_32 : decode cX6_strokesToGood 32 = .ok (.istore_n 1, 1) := by decide +kernel
theorem dX6_strokesToGood_33 : decode cX6_strokesToGood 33 = .ok (.iconst 1, 1) := by decide +kernel
theorem dX6_strokesToGood_34 : decode cX6_strokesToGood 34 = .ok (.istore_n 2, 1) := by decide +kernel
theorem dX6_strokesToGood_35 : decode cX6_strokesToGood 35 = .ok (.iload_n 2, 1) := by decide +kernel
theorem dX6_strokesToGood_36 : decode cX6_strokesToGood 36 = .ok (.bipush 60, 2) := by decide +kernel
theorem dX6_strokesToGood_38 : decode cX6_strokesToGood 38 = .ok (.if_icmp .gt 43, 3) := by decide +kernel
theorem dX6_strokesToGood_41 : decode cX6_strokesToGood 41 = .ok (.iload_n 1, 1) := by decide +kernel
theorem dX6_strokesToGood_42 : decode cX6_strokesToGood 42 = .ok (.iconst (-1), 1) := by decide +kernel
theorem dX6_strokesToGood_43 : decode cX6_strokesToGood 43 = .ok (.if_icmp .ne 38, 3) := by decide +kernel
theorem dX6_strokesToGood_46 : decode cX6_strokesToGood 46 = .ok (.aload_n 0, 1) := by decide +kernel
theorem dX6_strokesToGood_47 : decode cX6_strokesToGood 47 = .ok (.invokevirtual 187, 3) := by decide +kernel
theorem dX6_strokesToGood_50 : decode cX6_strokesToGood 50 = .ok (.pop, 1) := by decide +kernel
theorem dX6_strokesToGood_51 : decode cX6_strokesToGood 51 = .ok (.aload_n 0, 1) := by decide +kernel
theorem dX6_strokesToGood_52 : decode cX6_strokesToGood 52 = .ok (.getfield 7, 3) := by decide +kernel
theorem dX6_strokesToGood_55 : decode cX6_strokesToGood 55 = .ok (.bipush 10, 2) := by decide +kernel
theorem dX6_strokesToGood_57 : decode cX6_strokesToGood 57 = .ok (.laload, 1) := by decide +kernel
theorem dX6_strokesToGood_58 : decode cX6_strokesToGood 58 = .ok (.aload_n 0, 1) := by decide +kernel
theorem dX6_strokesToGood_59 : decode cX6_strokesToGood 59 = .ok (.getfield 16, 3) := by decide +kernel
theorem dX6_strokesToGood_62 : decode cX6_strokesToGood 62 = .ok (.bipush 10, 2) := by decide +kernel
theorem dX6_strokesToGood_64 : decode cX6_strokesToGood 64 = .ok (.laload, 1) := by decide +kernel
theorem dX6_strokesToGood_65 : decode cX6_strokesToGood 65 = .ok (.lcmp, 1) := by decide +kernel
theorem dX6_strokesToGood_66 : decode cX6_strokesToGood 66 = .ok (.ifCond .le 7, 3) := by decide +kernel
theorem dX6_strokesToGood_69 : decode cX6_strokesToGood 69 = .ok (.iload_n 2, 1) := by decide +kernel
theorem dX6_strokesToGood_70 : decode cX6_strokesToGood 70 = .ok (.goto 4, 3) := by decide +kernel
theorem dX6_strokesToGood_73 : decode cX6_strokesToGood 73 = .ok (.iconst (-1), 1) := by decide +kernel
theorem dX6_strokesToGood_74 : decode cX6_strokesToGood 74 = .ok (.istore_n 1, 1) := by decide +kernel
theorem dX6_strokesToGood_75 : decode cX6_strokesToGood 75 = .ok (.iinc 2 1, 3) := by decide +kernel
theorem dX6_strokesToGood_78 : decode cX6_strokesToGood 78 = .ok (.goto (-43), 3) := by decide +kernel
theorem dX6_strokesToGood_81 : decode cX6_strokesToGood 81 = .ok (.iconst 0, 1) := by decide +kernel
theorem dX6_strokesToGood_82 : decode cX6_strokesToGood 82 = .ok (.istore_n 2, 1) := by decide +kernel
theorem dX6_strokesToGood_83 : decode cX6_strokesToGood 83 = .ok (.iload_n 2, 1) := by decide +kernel
theorem dX6_strokesToGood_84 : decode cX6_strokesToGood 84 = .ok (.bipush 100, 2) := by decide +kernel
theorem dX6_strokesToGood_86 : decode cX6_strokesToGood 86 = .ok (.if_icmp .ge 21, 3) := by decide +kernel
theorem dX6_strokesToGood_89 : decode cX6_strokesToGood 89 = .ok (.aload_n 0, 1) := by decide +kernel
theorem dX6_strokesToGood_90 : decode cX6_strokesToGood 90 = .ok (.getfield 7, 3) := by decide +kernel
theorem dX6_strokesToGood_93 : decode cX6_strokesToGood 93 = .ok (.iload_n 2, 1) := by decide +kernel
theorem dX6_strokesToGood_94 : decode cX6_strokesToGood 94 = .ok (.aload_n 0, 1) := by decide +kernel
theorem dX6_strokesToGood_95 : decode cX6_strokesToGood 95 = .ok (.getfield 16, 3) := by decide +kernel
theorem dX6_strokesToGood_98 : decode cX6_strokesToGood 98 = .ok (.iload_n 2, 1) := by decide +kernel
theorem dX6_strokesToGood_99 : decode cX6_strokesToGood 99 = .ok (.laload, 1) := by decide +kernel
theorem dX6_strokesToGood_100 : decode cX6_strokesToGood 100 = .ok (.lastore, 1) := by decide +kernel
theorem dX6_strokesToGood_101 : decode cX6_strokesToGood 101 = .ok (.iinc 2 1, 3) := by decide +kernel
theorem dX6_strokesToGood_104 : decode cX6_strokesToGood 104 = .ok (.goto (-21), 3) := by decide +kernel
theorem dX6_strokesToGood_107 : decode cX6_strokesToGood 107 = .ok (.iload_n 1, 1) := by decide +kernel
theorem dX6_strokesToGood_108 : decode cX6_strokesToGood 108 = .ok (.ireturn, 1) := by decide +kernel
theorem dX6_type_0 : decode cX6_type 0 = .ok (.aload_n 0, 1) := by decide +kernel
theorem dX6_type_1 : decode cX6_type 1 = .ok (.iconst 0, 1) := by decide +kernel
theorem dX6_type_2 : decode cX6_type 2 = .ok (.putfield 48, 3) := by decide +kernel
theorem dX6_type_5 : decode cX6_type 5 = .ok (.iload_n 1, 1) := by decide +kernel
theorem dX6_type_6 : decode cX6_type 6 = .ok (.iconst 0, 1) := by decide +kernel
theorem dX6_type_7 : decode cX6_type 7 = .ok (.bipush 127, 2) := by decide +kernel
theorem dX6_type_9 : decode cX6_type 9 = .ok (.invokestatic 56, 3) := by decide +kernel
theorem dX6_type_12 : decode cX6_type 12 = .ok (.ifCond .ne 9, 3) := by decide +kernel
theorem dX6_type_15 : decode cX6_type 15 = .ok (.aload_n 0, 1) := by decide +kernel
theorem dX6_type_16 : decode cX6_type 16 = .ok (.iconst 1, 1) := by decide +kernel
theorem dX6_type_17 : decode cX6_type 17 = .ok (.invokevirtual 110, 3) := by decide +kernel
theorem dX6_type_20 : decode cX6_type 20 = .ok (.ireturn, 1) := by decide +kernel
theorem dX6_type_21 : decode cX6_type 21 = .ok (.aload_n 0, 1) := by decide +kernel
theorem dX6_type_22 : decode cX6_type 22 = .ok (.getfield 202, 3) := by decide +kernel
theorem dX6_type_25 : decode cX6_type 25 = .ok (.sipush 150, 3) := by decide +kernel
theorem dX6_type_28 : decode cX6_type 28 = .ok (.if_icmp .ne 9, 3) := by decide +kernel
theorem dX6_type_31 : decode cX6_type 31 = .ok (.aload_n 0, 1) := by decide +kernel
theorem dX6_type_32 : decode cX6_type 32 = .ok (.iconst 2, 1) := by decide +kernel
theorem dX6_type_33 : decode cX6_type 33 = .ok (.invokevirtual 110, 3) := by decide +kernel
theorem dX6_type_36 : decode cX6_type 36 = .ok (.ireturn, 1) := by decide +kernel
theorem dX6_type_37 : decode cX6_type 37 = .ok (.aload_n 0, 1) := by decide +kernel
theorem dX6_type_38 : decode cX6_type 38 = .ok (.getfield 29, 3) := by decide +kernel
theorem dX6_type_41 : decode cX6_type 41 = .ok (.aload_n 0, 1) := by decide +kernel
theorem dX6_type_42 : decode cX6_type 42 = .ok (.getfield 202, 3) := by decide +kernel
theorem dX6_type_45 : decode cX6_type 45 = .ok (.iload_n 1, 1) := by decide +kernel
theorem dX6_type_46 : decode cX6_type 46 = .ok (.iastore, 1) := by decide +kernel
theorem dX6_type_47 : decode cX6_type 47 = .ok (.aload_n 0, 1) := by decide +kernel
theorem dX6_type_48 : decode cX6_type 48 = .ok (.dup, 1) := by decide +kernel
theorem dX6_type_49 : decode cX6_type 49 = .ok (.getfield 202, 3) := by decide +kernel
theorem dX6_type_52 : decode cX6_type 52 = .ok (.iconst 1, 1) := by decide +kernel
theorem dX6_type_53 : decode cX6_type 53 = .ok (.iadd, 1) := by decide +kernel
theorem dX6_type_54 : decode cX6_type 54 = .ok (.putfield 202, 3) := by decide +kernel
theorem dX6_type_57 : decode cX6_type 57 = .ok (.aload_n 0, 1) := by decide +kernel
