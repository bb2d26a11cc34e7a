set_option maxRecDepth 20000 in
theorem ggX6_works_X6_many : GoodIn wsX6_works wsX6_many := goodIn_r _ [11, 1, 27, 28, 29, 30, 31, 32, 33, 34, 35, 36, 37, 38, 39, 40, 41] (by decide +kernel) (by decide +kernel)
set_option maxRecDepth 20000 in
theorem gX6_works_X6_many : GoodIn wsX6_works (wsV RX6 52 RX6 yX6_many wsX6_many) := goodIn_app (goodIn_of _ (by decide +kernel)) ggX6_works_X6_many
set_option maxRecDepth 20000 in
theorem ggX6_works_X6_ofOp : GoodIn wsX6_works wsX6_ofOp := goodIn_r _ [15, 1, 27, 28, 29, 30, 31, 32, 33, 34, 35, 36, 37, 38, 39, 40, 41] (by decide +kernel) (by decide +kernel)
set_option maxRecDepth 20000 in
theorem gX6_works_X6_ofOp : GoodIn wsX6_works (wsV RX6 77 RX6 yX6_ofOp wsX6_ofOp) := goodIn_app (goodIn_of _ (by decide +kernel)) ggX6_works_X6_ofOp
set_option maxRecDepth 20000 in
theorem ggX6_works_X6_cellsOf : GoodIn wsX6_works wsX6_cellsOf := goodIn_r _ [19, 12, 13, 14, 6, 15, 1, 20, 21, 22, 23, 8, 9, 10, 11, 27, 28, 29, 30, 31, 32, 33, 34, 35, 36, 37, 38, 39, 40, 41] (by decide +kernel) (by decide +kernel)
set_option maxRecDepth 20000 in
theorem gX6_works_X6_cellsOf : GoodIn wsX6_works (wsV RX6 81 RX6 yX6_cellsOf wsX6_cellsOf) := goodIn_app (goodIn_of _ (by decide +kernel)) ggX6_works_X6_cellsOf
set_option maxRecDepth 20000 in
theorem ggX6_works_X6_ones : GoodIn wsX6_works wsX6_ones := goodIn_r _ [26] (by decide +kernel) (by decide +kernel)
set_option maxRecDepth 20000 in
theorem gX6_works_X6_ones : GoodIn wsX6_works (va_wsS RX6 120 yX6_ones wsX6_ones) := goodIn_app (goodIn_of _ (by decide +kernel)) ggX6_works_X6_ones
theorem dX6_works_0 : decode cX6_works 0 = .ok (.bipush 60, 2) := by decide +kernel
theorem dX6_works_2 : decode cX6_works 2 = .ok (.iconst 5, 1) := by decide +kernel
theorem dX6_works_3 : decode cX6_works 3 = .ok (.iload_n 1, 1) := by decide +kernel
theorem dX6_works_4 : decode cX6_works 4 = .ok (.imul, 1) := by decide +kernel
theorem dX6_works_5 : decode cX6_works 5 = .ok (.iadd, 1) := by decide +kernel
theorem dX6_works_6 : decode cX6_works 6 = .ok (.istore_n 2, 1) := by decide +kernel
theorem dX6_works_7 : decode cX6_works 7 = .ok (.aload_n 0, 1) := by decide +kernel
theorem dX6_works_8 : decode cX6_works 8 = .ok (.iload_n 1, 1) := by decide +kernel
theorem dX6_works_9 : decode cX6_works 9 = .ok (.invokevirtual 149, 3) := by decide +kernel
theorem dX6_works_12 : decode cX6_works 12 = .ok (.istore_n 3, 1) := by decide +kernel
theorem dX6_works_13 : decode cX6_works 13 = .ok (.iconst 0, 1) := by decide +kernel
theorem dX6_works_14 : decode cX6_works 14 = .ok (.istore 4, 2) := by decide +kernel
theorem dX6_works_16 : decode cX6_works 16 = .ok (.iload 4, 2) := by decide +kernel
theorem dX6_works_18 : decode cX6_works 18 = .ok (.aload_n 0, 1) := by decide +kernel
theorem dX6_works_19 : decode cX6_works 19 = .ok (.bipush 8, 2) := by decide +kernel
theorem dX6_works_21 : decode cX6_works 21 = .ok (.invokevirtual 52, 3) := by decide +kernel
theorem dX6_works_24 : decode cX6_works 24 = .ok (.if_icmp .ge 108, 3) := by decide +kernel
theorem dX6_works_27 : decode cX6_works 27 = .ok (.iload_n 3, 1) := by decide +kernel
theorem dX6_works_28 : decode cX6_works 28 = .ok (.iload 4, 2) := by decide +kernel
theorem dX6_works_30 : decode cX6_works 30 = .ok (.ishr, 1) := by decide +kernel
theorem dX6_works_31 : decode cX6_works 31 = .ok (.iconst 1, 1) := by decide +kernel
theorem dX6_works_32 : decode cX6_works 32 = .ok (.iand, 1) := by decide +kernel
theorem dX6_works_33 : decode cX6_works 33 = .ok (.iconst 1, 1) := by decide +kernel
theorem dX6_works_34 : decode cX6_works 34 = .ok (.if_icmp .ne 32, 3) := by decide +kernel
theorem dX6_works_37 : decode cX6_works 37 = .ok (.aload_n 0, 1) := by decide +kernel
theorem dX6_works_38 : decode cX6_works 38 = .ok (.iload 4, 2) := by decide +kernel
theorem dX6_works_40 : decode cX6_works 40 = .ok (.iconst 0, 1) := by decide +kernel
theorem dX6_works_41 : decode cX6_works 41 = .ok (.invokevirtual 77, 3) := by decide +kernel
theorem dX6_works_44 : decode cX6_works 44 = .ok (.iconst 1, 1) := by decide +kernel
theorem dX6_works_45 : decode cX6_works 45 = .ok (.if_icmp .ne 21, 3) := by decide +kernel
theorem dX6_works_48 : decode cX6_works 48 = .ok (.aload_n 0, 1) := by decide +kernel
theorem dX6_works_49 : decode cX6_works 49 = .ok (.getfield 7, 3) := by decide +kernel
theorem dX6_works_52 : decode cX6_works 52 = .ok (.iload_n 2, 1) := by decide +kernel
theorem dX6_works_53 : decode cX6_works 53 = .ok (.iconst 2, 1) := by decide +kernel
theorem dX6_works_54 : decode cX6_works 54 = .ok (.iadd, 1) := by decide +kernel
theorem dX6_works_55 : decode cX6_works 55 = .ok (.dup2, 1) := by decide +kernel
theorem dX6_works_56 : decode cX6_works 56 = .ok (.laload, 1) := by decide +kernel
theorem dX6_works_57 : decode cX6_works 57 = .ok (.lconst 1, 1) := by decide +kernel
theorem dX6_works_58 : decode cX6_works 58 = .ok (.iload 4, 2) := by decide +kernel
theorem dX6_works_60 : decode cX6_works 60 = .ok (.lshl, 1) := by decide +kernel
theorem dX6_works_61 : decode cX6_works 61 = .ok (.lor, 1) := by decide +kernel
theorem dX6_works_62 : decode cX6_works 62 = .ok (.lastore, 1) := by decide +kernel
theorem dX6_works_63 : decode cX6_works 63 = .ok (.goto 63, 3) := by decide +kernel
theorem dX6_works_66 : decode cX6_works 66 = .ok (.iload_n 3, 1) := by decide +kernel
theorem dX6_works_67 : decode cX6_works 67 = .ok (.iload 4, 2) := by decide +kernel
theorem dX6_works_69 : decode cX6_works 69 = .ok (.ishr, 1) := by decide +kernel
theorem dX6_works_70 : decode cX6_works 70 = .ok (.iconst 1, 1) := by decide +kernel
theorem dX6_works_71 : decode cX6_works 71 = .ok (.iand, 1) := by decide +kernel
theorem dX6_works_72 : decode cX6_works 72 = .ok (.iconst 1, 1) := by decide +kernel
theorem dX6_works_73 : decode cX6_works 73 = .ok (.if_icmp .ne 53, 3) := by decide +kernel
theorem dX6_works_76 : decode cX6_works 76 = .ok (.aload_n 0, 1) := by decide +kernel
theorem dX6_works_77 : decode cX6_works 77 = .ok (.getfield 7, 3) := by decide +kernel
theorem dX6_works_80 : decode cX6_works 80 = .ok (.bipush 12, 2) := by decide +kernel
theorem dX6_works_82 : decode cX6_works 82 = .ok (.dup2, 1) := by decide +kernel
theorem dX6_works_83 : decode cX6_works 83 = .ok (.laload, 1) := by decide +kernel
theorem dX6_works_84 : decode cX6_works 84 = .ok (.aload_n 0, 1) := by decide +kernel
theorem dX6_works_85 : decode cX6_works 85 = .ok (.getfield 7, 3) := by decide +kernel
theorem dX6_works_88 : decode cX6_works 88 = .ok (.iload_n 2, 1) := by decide +kernel
theorem dX6_works_89 : decode cX6_works 89 = .ok (.iconst 1, 1) := by decide +kernel
theorem dX6_works_90 : decode cX6_works 90 = .ok (.iadd, 1) := by decide +kernel
theorem dX6_works_91 : decode cX6_works 91 = .ok (.laload, 1) := by decide +kernel
theorem dX6_works_92 : decode cX6_works 92 = .ok (.aload_n 0, 1) := by decide +kernel
theorem dX6_works_93 : decode cX6_works 93 = .ok (.iload 4, 2) := by decide +kernel
theorem dX6_works_95 : decode cX6_works 95 = .ok (.invokevirtual 81, 3) := by decide +kernel
theorem dX6_works_98 : decode cX6_works 98 = .ok (.land, 1) := by decide +kernel
theorem dX6_works_99 : decode cX6_works 99 = .ok (.invokestatic 120, 3) := by decide +kernel
theorem dX6_works_102 : decode cX6_works 102 = .ok (.i2l, 1) := by decide +kernel
theorem dX6_works_103 : decode cX6_works 103 = .ok (.ladd, 1) := by decide +kernel
theorem dX6_works_104 : decode cX6_works 104 = .ok (.lastore, 1) := by decide +kernel
theorem dX6_works_105 : decode cX6_works 105 = .ok (.aload_n 0, 1) := by decide +kernel
theorem dX6_works_106 : decode cX6_works 106 = .ok (.getfield 7, 3) := by decide +kernel
theorem dX6_works_109 : decode cX6_works 109 = .ok (.iload_n 2, 1) := by decide +kernel
theorem dX6_works_110 : decode cX6_works 110 = .ok (.iconst 1, 1) := by decide +kernel
theorem dX6_works_111 : decode cX6_works 111 = .ok (.iadd, 1) := by decide +kernel
theorem dX6_works_112 : decode cX6_works 112 = .ok (.dup2, 1) := by decide +kernel
theorem dX6_works_113 : decode cX6_works 113 = .ok (.laload, 1) := by decide +kernel
theorem dX6_works_114 : decode cX6_works 114 = .ok (.aload_n 0, 1) := by decide +kernel
theorem dX6_works_115 : decode cX6_works 115 = .ok (.iload 4, 2) := by decide +kernel
theorem dX6_works_117 : decode cX6_works 117 = .ok (.invokevirtual 81, 3) := by decide +kernel
theorem dX6_works_120 : decode cX6_works 120 = .ok (.ldc2_w 75, 3) := by decide +kernel
theorem dX6_works_123 : decode cX6_works 123 = .ok (.lxor, 1) := by decide +kernel
theorem dX6_works_124 : decode cX6_works 124 = .ok (.land, 1) := by decide +kernel
theorem dX6_works_125 : decode cX6_works 125 = .ok (.lastore, 1) := by decide +kernel
theorem dX6_works_126 : decode cX6_works 126 = .ok (.iinc 4 1, 3) := by decide +kernel
theorem dX6_works_129 : decode cX6_works 129 = .ok (.goto (-113), 3) := by decide +kernel
theorem dX6_works_132 : decode cX6_works 132 = .ok (.iload_n 3, 1) := by decide +kernel
theorem dX6_works_133 : decode cX6_works 133 = .ok (.ifCond .eq 31, 3) := by decide +kernel
theorem dX6_works_136 : decode cX6_works 136 = .ok (.aload_n 0, 1) := by decide +kernel
theorem dX6_works_137 : decode cX6_works 137 = .ok (.getfield 7, 3) := by decide +kernel
theorem dX6_works_140 : decode cX6_works 140 = .ok (.iload_n 2, 1) := by decide +kernel
theorem dX6_works_141 : decode cX6_works 141 = .ok (.iconst 3, 1) := by decide +kernel
theorem dX6_works_142 : decode cX6_works 142 = .ok (.iadd, 1) := by decide +kernel
theorem dX6_works_143 : decode cX6_works 143 = .ok (.laload, 1) := by decide +kernel
theorem dX6_works_144 : decode cX6_works 144 = .ok (.aload_n 0, 1) := by decide +kernel
theorem dX6_works_145 : decode cX6_works 145 = .ok (.getfield 7, 3) := by decide +kernel
theorem dX6_works_148 : decode cX6_works 148 = .ok (.bipush 7, 2) := by decide +kernel
theorem dX6_works_150 : decode cX6_works 150 = .ok (.laload, 1) := by decide +kernel
theorem dX6_works_151 : decode cX6_works 151 = .ok (.lcmp, 1) := by decide +kernel
theorem dX6_works_152 : decode cX6_works 152 = .ok (.ifCond .le 12, 3) := by decide +kernel
theorem dX6_works_155 : decode cX6_works 155 = .ok (.aload_n 0, 1) := by decide +kernel
theorem dX6_works_156 : decode cX6_works 156 = .ok (.getfield 7, 3) := by decide +kernel
theorem dX6_works_159 : decode cX6_works 159 = .ok (.iload_n 2, 1) := by decide +kernel
theorem dX6_works_160 : decode cX6_works 160 = .ok (.iconst 4, 1) := by decide +kernel
theorem dX6_works_161 : decode cX6_works 161 = .ok (.iadd, 1) := by decide +kernel
theorem dX6_works_162 : decode cX6_works 162 = .ok (.lconst 1, 1) := by decide +kernel
theorem dX6_works_163 : decode cX6_works 163 = .ok (.lastore, 1) := by decide +kernel
theorem dX6_works_164 : decode cX6_works 164 = .ok (.return_, 1) := by decide +kernel
theorem dX6_piloted_0 : decode cX6_piloted 0 = .ok (.aload_n 0, 1) := by decide +kernel
theorem dX6_piloted_1 : decode cX6_piloted 1 = .ok (.getfield 7, 3) := by decide +kernel
theorem dX6_piloted_4 : decode cX6_piloted 4 = .ok (.iload_n 1, 1) := by decide +kernel
theorem dX6_piloted_5 : decode cX6_piloted 5 = .ok (.iconst 3, 1) := by decide +kernel
theorem dX6_piloted_6 : decode cX6_piloted 6 = .ok (.iadd, 1) := by decide +kernel
theorem dX6_piloted_7 : decode cX6_piloted 7 = .ok (.laload, 1) := by decide +kernel
theorem dX6_piloted_8 : decode cX6_piloted 8 = .ok (.aload_n 0, 1) := by decide +kernel
theorem dX6_piloted_9 : decode cX6_piloted 9 = .ok (.getfield 7, 3) := by decide +kernel
theorem dX6_piloted_12 : decode cX6_piloted 12 = .ok (.bipush 6, 2) := by decide +kernel
theorem dX6_piloted_14 : decode cX6_piloted 14 = .ok (.laload, 1) := by decide +kernel
theorem dX6_piloted_15 : decode cX6_piloted 15 = .ok (.lcmp, 1) := by decide +kernel
theorem dX6_piloted_16 : decode cX6_piloted 16 = .ok (.ifCond .gt 15, 3) := by decide +kernel
theorem dX6_piloted_19 : decode cX6_piloted 19 = .ok (.aload_n 0, 1) := by decide +kernel
theorem dX6_piloted_20 : decode cX6_piloted 20 = .ok (.getfield 7, 3) := by decide +kernel
theorem dX6_piloted_23 : decode cX6_piloted 23 = .ok (.iload_n 1, 1) := by decide +kernel
theorem dX6_piloted_24 : decode cX6_piloted 24 = .ok (.iconst 3, 1) := by decide +kernel
theorem dX6_piloted_25 : decode cX6_piloted 25 = .ok (.iadd, 1) := by decide +kernel
theorem dX6_piloted_26 : decode cX6_piloted 26 = .ok (.lconst 0, 1) := by decide +kernel
theorem dX6_piloted_27 : decode cX6_piloted 27 = .ok (.lastore, 1) := by decide +kernel
theorem dX6_piloted_28 : decode cX6_piloted 28 = .ok (.goto 12, 3) := by decide +kernel
theorem dX6_piloted_31 : decode cX6_piloted 31 = .ok (.aload_n 0, 1) := by decide +kernel
theorem dX6_piloted_32 : decode cX6_piloted 32 = .ok (.getfield 7, 3) := by decide +kernel
theorem dX6_piloted_35 : decode cX6_piloted 35 = .ok (.iload_n 1, 1) := by decide +kernel
theorem dX6_piloted_36 : decode cX6_piloted 36 = .ok (.iconst 4, 1) := by decide +kernel
theorem dX6_piloted_37 : decode cX6_piloted 37 = .ok (.iadd, 1) := by decide +kernel
theorem dX6_piloted_38 : decode cX6_piloted 38 = .ok (.lconst 1, 1) := by decide +kernel
theorem dX6_piloted_39 : decode cX6_piloted 39 = .ok (.lastore, 1) := by decide +kernel
theorem dX6_piloted_40 : decode cX6_piloted 40 = .ok (.return_, 1) := by decide +kernel
set_option maxRecDepth 20000 in
theorem ggX6_strokes_X6_stations : GoodIn wsX6_strokes wsX6_stations := goodIn_r _ [6, 7, 8, 9, 5, 10, 1, 11, 12, 13, 14, 71, 72, 73, 74, 75, 76, 77, 78, 79, 80, 81, 82, 83, 84, 85] (by decide +kernel) (by decide +kernel)
set_option maxRecDepth 20000 in
theorem gX6_strokes_X6_stations : GoodIn wsX6_strokes (wsV RX6 174 RX6 yX6_stations wsX6_stations) := goodIn_app (goodIn_of _ (by decide +kernel)) ggX6_strokes_X6_stations
set_option maxRecDepth 20000 in
theorem ggX6_strokes_X6_ofPitch : GoodIn wsX6_strokes wsX6_ofPitch := goodIn_r _ [18, 1, 71, 72, 73, 74, 75, 76, 77, 78, 79, 80, 81, 82, 83, 84, 85] (by decide +kernel) (by decide +kernel)
set_option maxRecDepth 20000 in
theorem gX6_strokes_X6_ofPitch : GoodIn wsX6_strokes (wsV RX6 139 RX6 yX6_ofPitch wsX6_ofPitch) := goodIn_app (goodIn_of _ (by decide +kernel)) ggX6_strokes_X6_ofPitch
set_option maxRecDepth 20000 in
theorem ggX6_strokes_X6_leaves : GoodIn wsX6_strokes wsX6_leaves := goodIn_r _ [22, 1, 23, 24, 25, 5, 26, 27, 28, 29, 30, 31, 32, 33, 34, 35, 7, 8, 9, 10, 36, 37, 38, 39, 40, 41, 42, 43, 44, 45, 46, 47, 11, 12, 13, 14, 48, 49, 50, 51, 71, 72, 73, 74, 75, 76, 77, 78, 79, 80, 81, 82, 83, 84, 85] (by decide +kernel) (by decide +kernel)
set_option maxRecDepth 20000 in
theorem gX6_strokes_X6_leaves : GoodIn wsX6_strokes (wsV RX6 178 RX6 yX6_leaves wsX6_leaves) := goodIn_app (goodIn_of _ (by decide +kernel)) ggX6_strokes_X6_leaves
set_option maxRecDepth 20000 in
theorem ggX6_strokes_X6_empties : GoodIn wsX6_strokes wsX6_empties := goodIn_r _ [51, 1, 71, 72, 73, 74, 75, 76, 77, 78, 79, 80, 81, 82, 83, 84, 85] (by decide +kernel) (by decide +kernel)
set_option maxRecDepth 20000 in
theorem gX6_strokes_X6_empties : GoodIn wsX6_strokes (wsV RX6 170 RX6 yX6_empties wsX6_empties) := goodIn_app (goodIn_of _ (by decide +kernel)) ggX6_strokes_X6_empties
set_option maxRecDepth 20000 in
theorem ggX6_strokes_X6_all : GoodIn wsX6_strokes wsX6_all := goodIn_r _ [43, 7, 8, 9, 5, 10, 1, 36, 37, 38, 39, 71, 72, 73, 74, 75, 76, 77, 78, 79, 80, 81, 82, 83, 84, 85] (by decide +kernel) (by decide +kernel)
set_option maxRecDepth 20000 in
theorem gX6_strokes_X6_all : GoodIn wsX6_strokes (wsV RX6 95 RX6 yX6_all wsX6_all) := goodIn_app (goodIn_of _ (by decide +kernel)) ggX6_strokes_X6_all
set_option maxRecDepth 20000 in
theorem ggX6_strokes_X6_piloted : GoodIn wsX6_strokes wsX6_piloted := goodIn_r _ [55, 1, 71, 72, 73, 74, 75, 76, 77, 78, 79, 80, 81, 82, 83, 84, 85] (by decide +kernel) (by decide +kernel)
set_option maxRecDepth 20000 in
theorem gX6_strokes_X6_piloted : GoodIn wsX6_strokes (wsV RX6 181 RX6 yX6_piloted wsX6_piloted) := goodIn_app (goodIn_of _ (by decide +kernel)) ggX6_strokes_X6_piloted
set_option maxRecDepth 20000 in
theorem ggX6_strokes_X6_works : GoodIn wsX6_strokes wsX6_works := goodIn_r _ [59, 1, 27, 60, 61, 62, 5, 63, 7, 8, 9, 10, 11, 12, 13, 14, 64, 65, 66, 67, 36, 37, 38, 39, 68, 69, 70, 71, 72, 73, 74, 75, 76, 77, 78, 79, 80, 81, 82, 83, 84, 85] (by decide +kernel) (by decide +kernel)
set_option maxRecDepth 20000 in
theorem gX6_strokes_X6_works : GoodIn wsX6_strokes (wsV RX6 184 RX6 yX6_works wsX6_works) := goodIn_app (goodIn_of _ (by decide +kernel)) ggX6_strokes_X6_works
theorem dX6_strokes_0 : decode cX6_strokes 0 = .ok (.iconst 0, 1) := by decide +kernel
theorem dX6_strokes_1 : decode cX6_strokes 1 = .ok (.istore_n 1, 1) := by decide +kernel
theorem dX6_strokes_2 : decode cX6_strokes 2 = .ok (.iconst 0, 1) := by decide +kernel
theorem dX6_strokes_3 : decode cX6_strokes 3 = .ok (.istore_n 2, 1) := by decide +kernel
theorem dX6_strokes_4 : decode cX6_strokes 4 = .ok (.aload_n 0, 1) := by decide +kernel
theorem dX6_strokes_5 : decode cX6_strokes 5 = .ok (.invokevirtual 174, 3) := by decide +kernel
theorem dX6_strokes_8 : decode cX6_strokes 8 = .ok (.istore_n 3, 1) := by decide +kernel
theorem dX6_strokes_9 : decode cX6_strokes 9 = .ok (.aload_n 0, 1) := by decide +kernel
theorem dX6_strokes_10 : decode cX6_strokes 10 = .ok (.getfield 7, 3) := by decide +kernel
theorem dX6_strokes_13 : decode cX6_strokes 13 = .ok (.bipush 9, 2) := by decide +kernel
theorem dX6_strokes_15 : decode cX6_strokes 15 = .ok (.dup2, 1) := by decide +kernel
theorem dX6_strokes_16 : decode cX6_strokes 16 = .ok (.laload, 1) := by decide +kernel
theorem dX6_strokes_17 : decode cX6_strokes 17 = .ok (.lconst 1, 1) := by decide +kernel
theorem dX6_strokes_18 : decode cX6_strokes 18 = .ok (.ladd, 1) := by decide +kernel
theorem dX6_strokes_19 : decode cX6_strokes 19 = .ok (.lastore, 1) := by decide +kernel
theorem dX6_strokes_20 : decode cX6_strokes 20 = .ok (.bipush 7, 2) := by decide +kernel
theorem dX6_strokes_22 : decode cX6_strokes 22 = .ok (.istore 4, 2) := by decide +kernel
theorem dX6_strokes_24 : decode cX6_strokes 24 = .ok (.iload 4, 2) := by decide +kernel
theorem dX6_strokes_26 : decode cX6_strokes 26 = .ok (.ifCond .lt 95, 3) := by decide +kernel
theorem dX6_strokes_29 : decode cX6_strokes 29 = .ok (.bipush 60, 2) := by decide +kernel
theorem dX6_strokes_31 : decode cX6_strokes 31 = .ok (.iconst 5, 1) := by decide +kernel
theorem dX6_strokes_32 : decode cX6_strokes 32 = .ok (.iload 4, 2) := by decide +kernel
theorem dX6_strokes_34 : decode cX6_strokes 34 = .ok (.imul, 1) := by decide +kernel
theorem dX6_strokes_35 : decode cX6_strokes 35 = .ok (.iadd, 1) := by decide +kernel
theorem dX6_strokes_36 : decode cX6_strokes 36 = .ok (.istore 5, 2) := by decide +kernel
theorem dX6_strokes_38 : decode cX6_strokes 38 = .ok (.aload_n 0, 1) := by decide +kernel
theorem dX6_strokes_39 : decode cX6_strokes 39 = .ok (.getfield 7, 3) := by decide +kernel
theorem dX6_strokes_42 : decode cX6_strokes 42 = .ok (.iload 5, 2) := by decide +kernel
theorem dX6_strokes_44 : decode cX6_strokes 44 = .ok (.iconst 3, 1) := by decide +kernel
theorem dX6_strokes_45 : decode cX6_strokes 45 = .ok (.iadd, 1) := by decide +kernel
theorem dX6_strokes_46 : decode cX6_strokes 46 = .ok (.dup2, 1) := by decide +kernel
theorem dX6_strokes_47 : decode cX6_strokes 47 = .ok (.laload, 1) := by decide +kernel
theorem dX6_strokes_48 : decode cX6_strokes 48 = .ok (.aload_n 0, 1) := by decide +kernel
theorem dX6_strokes_49 : decode cX6_strokes 49 = .ok (.iload 4, 2) := by decide +kernel
theorem dX6_strokes_51 : decode cX6_strokes 51 = .ok (.iconst 0, 1) := by decide +kernel
theorem dX6_strokes_52 : decode cX6_strokes 52 = .ok (.invokevirtual 139, 3) := by decide +kernel
theorem dX6_strokes_55 : decode cX6_strokes 55 = .ok (.aload_n 0, 1) := by decide +kernel
theorem dX6_strokes_56 : decode cX6_strokes 56 = .ok (.getfield 7, 3) := by decide +kernel
theorem dX6_strokes_59 : decode cX6_strokes 59 = .ok (.iconst 5, 1) := by decide +kernel
theorem dX6_strokes_60 : decode cX6_strokes 60 = .ok (.laload, 1) := by decide +kernel
theorem dX6_strokes_61 : decode cX6_strokes 61 = .ok (.lmul, 1) := by decide +kernel
theorem dX6_strokes_62 : decode cX6_strokes 62 = .ok (.ladd, 1) := by decide +kernel
theorem dX6_strokes_63 : decode cX6_strokes 63 = .ok (.lastore, 1) := by decide +kernel
theorem dX6_strokes_64 : decode cX6_strokes 64 = .ok (.aload_n 0, 1) := by decide +kernel
theorem dX6_strokes_65 : decode cX6_strokes 65 = .ok (.iload 4, 2) := by decide +kernel
theorem dX6_strokes_67 : decode cX6_strokes 67 = .ok (.iconst 0, 1) := by decide +kernel
theorem dX6_strokes_68 : decode cX6_strokes 68 = .ok (.invokevirtual 139, 3) := by decide +kernel
theorem dX6_strokes_71 : decode cX6_strokes 71 = .ok (.lconst 1, 1) := by decide +kernel
theorem dX6_strokes_72 : decode cX6_strokes 72 = .ok (.lcmp, 1) := by decide +kernel
theorem dX6_strokes_73 : decode cX6_strokes 73 = .ok (.ifCond .ne 42, 3) := by decide +kernel
theorem dX6_strokes_76 : decode cX6_strokes 76 = .ok (.iload 4, 2) := by decide +kernel
theorem dX6_strokes_78 : decode cX6_strokes 78 = .ok (.iconst 1, 1) := by decide +kernel
theorem dX6_strokes_79 : decode cX6_strokes 79 = .ok (.iadd, 1) := by decide +kernel
theorem dX6_strokes_80 : decode cX6_strokes 80 = .ok (.iload_n 3, 1) := by decide +kernel
theorem dX6_strokes_81 : decode cX6_strokes 81 = .ok (.bipush 8, 2) := by decide +kernel
theorem dX6_strokes_83 : decode cX6_strokes 83 = .ok (.if_icmp .le 8, 3) := by decide +kernel
theorem dX6_strokes_86 : decode cX6_strokes 86 = .ok (.bipush 8, 2) := by decide +kernel
theorem dX6_strokes_88 : decode cX6_strokes 88 = .ok (.goto 4, 3) := by decide +kernel
theorem dX6_strokes_91 : decode cX6_strokes 91 = .ok (.iload_n 3, 1) := by decide +kernel
theorem dX6_strokes_92 : decode cX6_strokes 92 = .ok (.if_icmp .lt 23, 3) := by decide +kernel
theorem dX6_strokes_95 : decode cX6_strokes 95 = .ok (.iinc 1 1, 3) := by decide +kernel
theorem dX6_strokes_98 : decode cX6_strokes 98 = .ok (.iload_n 2, 1) := by decide +kernel
theorem dX6_strokes_99 : decode cX6_strokes 99 = .ok (.aload_n 0, 1) := by decide +kernel
theorem dX6_strokes_100 : decode cX6_strokes 100 = .ok (.iload 5, 2) := by decide +kernel
theorem dX6_strokes_102 : decode cX6_strokes 102 = .ok (.invokevirtual 178, 3) := by decide +kernel
theorem dX6_strokes_105 : decode cX6_strokes 105 = .ok (.ifCond .eq 7, 3) := by decide +kernel
theorem dX6_strokes_108 : decode cX6_strokes 108 = .ok (.iconst 1, 1) := by decide +kernel
theorem dX6_strokes_109 : decode cX6_strokes 109 = .ok (.goto 4, 3) := by decide +kernel
theorem dX6_strokes_112 : decode cX6_strokes 112 = .ok (.iconst 0, 1) := by decide +kernel
theorem dX6_strokes_113 : decode cX6_strokes 113 = .ok (.iadd, 1) := by decide +kernel
theorem dX6_strokes_114 : decode cX6_strokes 114 = .ok (.istore_n 2, 1) := by decide +kernel
theorem dX6_strokes_115 : decode cX6_strokes 115 = .ok (.iinc 4 (-1), 3) := by decide +kernel
theorem dX6_strokes_118 : decode cX6_strokes 118 = .ok (.goto (-94), 3) := by decide +kernel
theorem dX6_strokes_121 : decode cX6_strokes 121 = .ok (.bipush 7, 2) := by decide +kernel
theorem dX6_strokes_123 : decode cX6_strokes 123 = .ok (.istore 4, 2) := by decide +kernel
theorem dX6_strokes_125 : decode cX6_strokes 125 = .ok (.iload 4, 2) := by decide +kernel
theorem dX6_strokes_127 : decode cX6_strokes 127 = .ok (.ifCond .le 56, 3) := by decide +kernel
theorem dX6_strokes_130 : decode cX6_strokes 130 = .ok (.iconst 0, 1) := by decide +kernel
theorem dX6_strokes_131 : decode cX6_strokes 131 = .ok (.istore 5, 2) := by decide +kernel
theorem dX6_strokes_133 : decode cX6_strokes 133 = .ok (.iload 5, 2) := by decide +kernel
theorem dX6_strokes_135 : decode cX6_strokes 135 = .ok (.iconst 5, 1) := by decide +kernel
theorem dX6_strokes_136 : decode cX6_strokes 136 = .ok (.if_icmp .ge 41, 3) := by decide +kernel
theorem dX6_strokes_139 : decode cX6_strokes 139 = .ok (.aload_n 0, 1) := by decide +kernel
theorem dX6_strokes_140 : decode cX6_strokes 140 = .ok (.getfield 7, 3) := by decide +kernel
theorem dX6_strokes_143 : decode cX6_strokes 143 = .ok (.bipush 60, 2) := by decide +kernel
theorem dX6_strokes_145 : decode cX6_strokes 145 = .ok (.iconst 5, 1) := by decide +kernel
theorem dX6_strokes_146 : decode cX6_strokes 146 = .ok (.iload 4, 2) := by decide +kernel
theorem dX6_strokes_148 : decode cX6_strokes 148 = .ok (.imul, 1) := by decide +kernel
theorem dX6_strokes_149 : decode cX6_strokes 149 = .ok (.iadd, 1) := by decide +kernel
theorem dX6_strokes_150 : decode cX6_strokes 150 = .ok (.iload 5, 2) := by decide +kernel
theorem dX6_strokes_152 : decode cX6_strokes 152 = .ok (.iadd, 1) := by decide +kernel
theorem dX6_strokes_153 : decode cX6_strokes 153 = .ok (.aload_n 0, 1) := by decide +kernel
theorem dX6_strokes_154 : decode cX6_strokes 154 = .ok (.getfield 7, 3) := by decide +kernel
theorem dX6_strokes_157 : decode cX6_strokes 157 = .ok (.bipush 60, 2) := by decide +kernel
theorem dX6_strokes_159 : decode cX6_strokes 159 = .ok (.iconst 5, 1) := by decide +kernel
theorem dX6_strokes_160 : decode cX6_strokes 160 = .ok (.iload 4, 2) := by decide +kernel
theorem dX6_strokes_162 : decode cX6_strokes 162 = .ok (.imul, 1) := by decide +kernel
theorem dX6_strokes_163 : decode cX6_strokes 163 = .ok (.iadd, 1) := by decide +kernel
theorem dX6_strokes_164 : decode cX6_strokes 164 = .ok (.iconst 5, 1) := by decide +kernel
theorem dX6_strokes_165 : decode cX6_strokes 165 = .ok (.isub, 1) := by decide +kernel
theorem dX6_strokes_166 : decode cX6_strokes 166 = .ok (.iload 5, 2) := by decide +kernel
theorem dX6_strokes_168 : decode cX6_strokes 168 = .ok (.iadd, 1) := by decide +kernel
theorem dX6_strokes_169 : decode cX6_strokes 169 = .ok (.laload, 1) := by decide +kernel
theorem dX6_strokes_170 : decode cX6_strokes 170 = .ok (.lastore, 1) := by decide +kernel
theorem dX6_strokes_171 : decode cX6_strokes 171 = .ok (.iinc 5 1, 3) := by decide +kernel
theorem dX6_strokes_174 : decode cX6_strokes 174 = .ok (.goto (-41), 3) := by decide +kernel
theorem dX6_strokes_177 : decode cX6_strokes 177 = .ok (.iinc 4 (-1), 3) := by decide +kernel
theorem dX6_strokes_180 : decode cX6_strokes 180 = .ok (.goto (-55), 3) := by decide +kernel
theorem dX6_strokes_183 : decode cX6_strokes 183 = .ok (.aload_n 0, 1) := by decide +kernel
theorem dX6_strokes_184 : decode cX6_strokes 184 = .ok (.bipush 60, 2) := by decide +kernel
theorem dX6_strokes_186 : decode cX6_strokes 186 = .ok (.invokevirtual 170, 3) := by decide +kernel
theorem dX6_strokes_189 : decode cX6_strokes 189 = .ok (.aload_n 0, 1) := by decide +kernel
theorem dX6_strokes_190 : decode cX6_strokes 190 = .ok (.getfield 7, 3) := by decide +kernel
theorem dX6_strokes_193 : decode cX6_strokes 193 = .ok (.bipush 60, 2) := by decide +kernel
theorem dX6_strokes_195 : decode cX6_strokes 195 = .ok (.lconst 1, 1) := by decide +kernel
theorem dX6_strokes_196 : decode cX6_strokes 196 = .ok (.lastore, 1) := by decide +kernel
theorem dX6_strokes_197 : decode cX6_strokes 197 = .ok (.aload_n 0, 1) := by decide +kernel
theorem dX6_strokes_198 : decode cX6_strokes 198 = .ok (.getfield 7, 3) := by decide +kernel
theorem dX6_strokes_201 : decode cX6_strokes 201 = .ok (.bipush 61, 2) := by decide +kernel
theorem dX6_strokes_203 : decode cX6_strokes 203 = .ok (.aload_n 0, 1) := by decide +kernel
theorem dX6_strokes_204 : decode cX6_strokes 204 = .ok (.invokevirtual 95, 3) := by decide +kernel
theorem dX6_strokes_207 : decode cX6_strokes 207 = .ok (.lastore, 1) := by decide +kernel
theorem dX6_strokes_208 : decode cX6_strokes 208 = .ok (.iload_n 3, 1) := by decide +kernel
theorem dX6_strokes_209 : decode cX6_strokes 209 = .ok (.ifCond .ne 23, 3) := by decide +kernel
theorem dX6_strokes_212 : decode cX6_strokes 212 = .ok (.iinc 1 1, 3) := by decide +kernel
theorem dX6_strokes_215 : decode cX6_strokes 215 = .ok (.iload_n 2, 1) := by decide +kernel
theorem dX6_strokes_216 : decode cX6_strokes 216 = .ok (.aload_n 0, 1) := by decide +kernel
theorem dX6_strokes_217 : decode cX6_strokes 217 = .ok (.bipush 60, 2) := by decide +kernel
theorem dX6_strokes_219 : decode cX6_strokes 219 = .ok (.invokevirtual 178, 3) := by decide +kernel
theorem dX6_strokes_222 : decode cX6_strokes 222 = .ok (.ifCond .eq 7, 3) := by decide +kernel
theorem dX6_strokes_225 : decode cX6_strokes 225 = .ok (.iconst 1, 1) := by decide +kernel
theorem dX6_strokes_226 : decode cX6_strokes 226 = .ok (.goto 4, 3) := by decide +kernel
theorem dX6_strokes_229 : decode cX6_strokes 229 = .ok (.iconst 0, 1) := by decide +kernel
theorem dX6_strokes_230 : decode cX6_strokes 230 = .ok (.iadd, 1) := by decide +kernel
theorem dX6_strokes_231 : decode cX6_strokes 231 = .ok (.istore_n 2, 1) := by decide +kernel
theorem dX6_strokes_232 : decode cX6_strokes 232 = .ok (.iconst 0, 1) := by decide +kernel
theorem dX6_strokes_233 : decode cX6_strokes 233 = .ok (.istore 4, 2) := by decide +kernel
theorem dX6_strokes_235 : decode cX6_strokes 235 = .ok (.iload 4, 2) := by decide +kernel
theorem dX6_strokes_237 : decode cX6_strokes 237 = .ok (.bipush 8, 2) := by decide +kernel
theorem dX6_strokes_239 : decode cX6_strokes 239 = .ok (.if_icmp .ge 49, 3) := by decide +kernel
theorem dX6_strokes_242 : decode cX6_strokes 242 = .ok (.aload_n 0, 1) := by decide +kernel
theorem dX6_strokes_243 : decode cX6_strokes 243 = .ok (.iload 4, 2) := by decide +kernel
theorem dX6_strokes_245 : decode cX6_strokes 245 = .ok (.iconst 0, 1) := by decide +kernel
theorem dX6_strokes_246 : decode cX6_strokes 246 = .ok (.invokevirtual 139, 3) := by decide +kernel
theorem dX6_strokes_249 : decode cX6_strokes 249 = .ok (.lconst 1, 1) := by decide +kernel
theorem dX6_strokes_250 : decode cX6_strokes 250 = .ok (.lcmp, 1) := by decide +kernel
theorem dX6_strokes_251 : decode cX6_strokes 251 = .ok (.ifCond .ne 31, 3) := by decide +kernel
theorem dX6_strokes_254 : decode cX6_strokes 254 = .ok (.aload_n 0, 1) := by decide +kernel
theorem dX6_strokes_255 : decode cX6_strokes 255 = .ok (.getfield 7, 3) := by decide +kernel
theorem dX6_strokes_258 : decode cX6_strokes 258 = .ok (.bipush 13, 2) := by decide +kernel
theorem dX6_strokes_260 : decode cX6_strokes 260 = .ok (.laload, 1) := by decide +kernel
theorem dX6_strokes_261 : decode cX6_strokes 261 = .ok (.iload 4, 2) := by decide +kernel
theorem dX6_strokes_263 : decode cX6_strokes 263 = .ok (.lshr, 1) := by decide +kernel
theorem dX6_strokes_264 : decode cX6_strokes 264 = .ok (.lconst 1, 1) := by decide +kernel
theorem dX6_strokes_265 : decode cX6_strokes 265 = .ok (.land, 1) := by decide +kernel
theorem dX6_strokes_266 : decode cX6_strokes 266 = .ok (.lconst 1, 1) := by decide +kernel
theorem dX6_strokes_267 : decode cX6_strokes 267 = .ok (.lcmp, 1) := by decide +kernel
theorem dX6_strokes_268 : decode cX6_strokes 268 = .ok (.ifCond .ne 14, 3) := by decide +kernel
theorem dX6_strokes_271 : decode cX6_strokes 271 = .ok (.aload_n 0, 1) := by decide +kernel
theorem dX6_strokes_272 : decode cX6_strokes 272 = .ok (.bipush 60, 2) := by decide +kernel
theorem dX6_strokes_274 : decode cX6_strokes 274 = .ok (.iconst 5, 1) := by decide +kernel
theorem dX6_strokes_275 : decode cX6_strokes 275 = .ok (.iload 4, 2) := by decide +kernel
theorem dX6_strokes_277 : decode cX6_strokes 277 = .ok (.imul, 1) := by decide +kernel
theorem dX6_strokes_278 : decode cX6_strokes 278 = .ok (.iadd, 1) := by decide +kernel
theorem dX6_strokes_279 : decode cX6_strokes 279 = .ok (.invokevirtual 181, 3) := by decide +kernel
theorem dX6_strokes_282 : decode cX6_strokes 282 = .ok (.iinc 4 1, 3) := by decide +kernel
theorem dX6_strokes_285 : decode cX6_strokes 285 = .ok (.goto (-50), 3) := by decide +kernel
theorem dX6_strokes_288 : decode cX6_strokes 288 = .ok (.iconst 0, 1) := by decide +kernel
theorem dX6_strokes_289 : decode cX6_strokes 289 = .ok (.istore 4, 2) := by decide +kernel
theorem dX6_strokes_291 : decode cX6_strokes 291 = .ok (.iload 4, 2) := by decide +kernel
theorem dX6_strokes_293 : decode cX6_strokes 293 = .ok (.bipush 8, 2) := by decide +kernel
theorem dX6_strokes_295 : decode cX6_strokes 295 = .ok (.if_icmp .ge 27, 3) := by decide +kernel
theorem dX6_strokes_298 : decode cX6_strokes 298 = .ok (.aload_n 0, 1) := by decide +kernel
theorem dX6_strokes_299 : decode cX6_strokes 299 = .ok (.iload 4, 2) := by decide +kernel
theorem dX6_strokes_301 : decode cX6_strokes 301 = .ok (.iconst 0, 1) := by decide +kernel
theorem dX6_strokes_302 : decode cX6_strokes 302 = .ok (.invokevirtual 139, 3) := by decide +kernel
theorem dX6_strokes_305 : decode cX6_strokes 305 = .ok (.lconst 1, 1) := by decide +kernel
theorem dX6_strokes_306 : decode cX6_strokes 306 = .ok (.lcmp, 1) := by decide +kernel
theorem dX6_strokes_307 : decode cX6_strokes 307 = .ok (.ifCond .ne 9, 3) := by decide +kernel
theorem dX6_strokes_310 : decode cX6_strokes 310 = .ok (.aload_n 0, 1) := by decide +kernel
theorem dX6_strokes_311 : decode cX6_strokes 311 = .ok (.iload 4, 2) := by decide +kernel
theorem dX6_strokes_313 : decode cX6_strokes 313 = .ok (.invokevirtual 184, 3) := by decide +kernel
theorem dX6_strokes_316 : decode cX6_strokes 316 = .ok (.iinc 4 1, 3) := by decide +kernel
theorem dX6_strokes_319 : decode cX6_strokes 319 = .ok (.goto (-28), 3) := by decide +kernel
theorem dX6_strokes_322 : decode cX6_strokes 322 = .ok (.iload_n 1, 1) := by decide +kernel
theorem dX6_strokes_323 : decode cX6_strokes 323 = .ok (.ifCond .ne 7, 3) := by decide +kernel
theorem dX6_strokes_326 : decode cX6_strokes 326 = .ok (.iconst 0, 1) := by decide +kernel
theorem dX6_strokes_327 : decode cX6_strokes 327 = .ok (.goto 13, 3) := by decide +kernel
theorem dX6_strokes_330 : decode cX6_strokes 330 = .ok (.iload_n 1, 1) := by decide +kernel
theorem dX6_strokes_331 : decode cX6_strokes 331 = .ok (.iload_n 2, 1) := by decide +kernel
theorem dX6_strokes_332 : decode cX6_strokes 332 = .ok (.if_icmp .ne 7, 3) := by decide +kernel
theorem dX6_strokes_335 : decode cX6_strokes 335 = .ok (.iconst 1, 1) := by decide +kernel
theorem dX6_strokes_336 : decode cX6_strokes 336 = .ok (.goto 4, 3) := by decide +kernel
theorem dX6_strokes_339 : decode cX6_strokes 339 = .ok (.iconst 2, 1) := by decide +kernel
theorem dX6_strokes_340 : decode cX6_strokes 340 = .ok (.ireturn, 1) := by decide +kernel
set_option maxRecDepth 20000 in
theorem ggX6_stroke_X6_save : GoodIn wsX6_stroke wsX6_save := goodIn_r _ [6, 7, 8, 9, 10, 83, 84, 85, 86, 87, 88, 89, 90, 91, 92, 93, 94, 95, 96, 97] (by decide +kernel) (by decide +kernel)
set_option maxRecDepth 20000 in
theorem gX6_stroke_X6_save : GoodIn wsX6_stroke (wsV RX6 113 RX6 yX6_save wsX6_save) := goodIn_app (goodIn_of _ (by decide +kernel)) ggX6_stroke_X6_save
set_option maxRecDepth 20000 in
theorem ggX6_stroke_X6_strokes : GoodIn wsX6_stroke wsX6_strokes := goodIn_r _ [14, 10, 15, 16, 17, 5, 18, 19, 20, 21, 22, 23, 24, 25, 26, 27, 28, 29, 30, 31, 32, 33, 34, 35, 36, 37, 38, 39, 40, 41, 42, 43, 44, 45, 46, 47, 48, 49, 50, 51, 52, 53, 54, 55, 56, 57, 58, 59, 60, 61, 62, 63, 64, 65, 66, 67, 68, 69, 70, 71, 72, 73, 74, 75, 76, 77, 78, 79, 80, 81, 82, 83, 84, 85, 86, 87, 88, 89, 90, 91, 92, 93, 94, 95, 96, 97] (by decide +kernel) (by decide +kernel)
set_option maxRecDepth 20000 in
theorem gX6_stroke_X6_strokes : GoodIn wsX6_stroke (wsV RX6 187 RX6 yX6_strokes wsX6_strokes) := goodIn_app (goodIn_of _ (by decide +kernel)) ggX6_stroke_X6_strokes
theorem dX6_stroke_0 : decode cX6_stroke 0 = .ok (.aload_n 0, 1) := by decide +kernel
theorem dX6_stroke_1 : decode cX6_stroke 1 = .ok (.iconst 0, 1) := by decide +kernel
theorem dX6_stroke_2 : decode cX6_stroke 2 = .ok (.putfield 48, 3) := by decide +kernel
theorem dX6_stroke_5 : decode cX6_stroke 5 = .ok (.aload_n 0, 1) := by decide +kernel
theorem dX6_stroke_6 : decode cX6_stroke 6 = .ok (.invokevirtual 113, 3) := by decide +kernel
theorem dX6_stroke_9 : decode cX6_stroke 9 = .ok (.aload_n 0, 1) := by decide +kernel
theorem dX6_stroke_10 : decode cX6_stroke 10 = .ok (.invokevirtual 187, 3) := by decide +kernel
theorem dX6_stroke_13 : decode cX6_stroke 13 = .ok (.ireturn, 1) := by decide +kernel
set_option maxRecDepth 20000 in
theorem ggX6_strokesBy_X6_in : GoodIn wsX6_strokesBy wsX6_in := goodIn_r _ [5] (by decide +kernel) (by decide +kernel)
set_option maxRecDepth 20000 in
theorem gX6_strokesBy_X6_in : GoodIn wsX6_strokesBy (va_wsS RX6 56 yX6_in wsX6_in) := goodIn_app (goodIn_of _ (by decide +kernel)) ggX6_strokesBy_X6_in
set_option maxRecDepth 20000 in
theorem ggX6_strokesBy_X6_fails : GoodIn wsX6_strokesBy wsX6_fails := goodIn_r _ [9, 1, 83, 84, 85, 86, 87, 88, 89, 90, 91, 92, 93, 94, 95, 96, 97] (by decide +kernel) (by decide +kernel)
set_option maxRecDepth 20000 in
theorem gX6_strokesBy_X6_fails : GoodIn wsX6_strokesBy (wsV RX6 110 RX6 yX6_fails wsX6_fails) := goodIn_app (goodIn_of _ (by decide +kernel)) ggX6_strokesBy_X6_fails
set_option maxRecDepth 20000 in
theorem ggX6_strokesBy_X6_strokes : GoodIn wsX6_strokesBy wsX6_strokes := goodIn_r _ [13, 14, 15, 16, 17, 4, 18, 19, 20, 21, 22, 23, 24, 25, 26, 27, 28, 29, 30, 31, 32, 33, 34, 35, 36, 37, 38, 39, 40, 41, 42, 43, 44, 45, 46, 47, 48, 49, 50, 51, 52, 53, 54, 55, 56, 57, 58, 59, 60, 61, 62, 63, 64, 65, 66, 67, 68, 69, 70, 71, 72, 73, 74, 75, 76, 77, 78, 79, 80, 81, 82, 83, 84, 85, 86, 87, 88, 89, 90, 91, 92, 93, 94, 95, 96, 97] (by decide +kernel) (by decide +kernel)
set_option maxRecDepth 20000 in
theorem gX6_strokesBy_X6_strokes : GoodIn wsX6_strokesBy (wsV RX6 187 RX6 yX6_strokes wsX6_strokes) := goodIn_app (goodIn_of _ (by decide +kernel)) ggX6_strokesBy_X6_strokes
theorem dX6_strokesBy_0 : decode cX6_strokesBy 0 = .ok (.aload_n 0, 1) := by decide +kernel
theorem dX6_strokesBy_1 : decode cX6_strokesBy 1 = .ok (.iconst 0, 1) := by decide +kernel
theorem dX6_strokesBy_2 : decode cX6_strokesBy 2 = .ok (.putfield 48, 3) := by decide +kernel
theorem dX6_strokesBy_5 : decode cX6_strokesBy 5 = .ok (.iload_n 1, 1) := by decide +kernel
theorem dX6_strokesBy_6 : decode cX6_strokesBy 6 = .ok (.iconst 1, 1) := by decide +kernel
theorem dX6_strokesBy_7 : decode cX6_strokesBy 7 = .ok (.bipush 50, 2) := by decide +kernel
theorem dX6_strokesBy_9 : decode cX6_strokesBy 9 = .ok (.invokestatic 56, 3) := by decide +kernel
theorem dX6_strokesBy_12 : decode cX6_strokesBy 12 = .ok (.ifCond .ne 9, 3) := by decide +kernel
theorem dX6_strokesBy_15 : decode cX6_strokesBy 15 = .ok (.aload_n 0, 1) := by decide +kernel
theorem dX6_strokesBy_16 : decode cX6_strokesBy 16 = .ok (.iconst 1, 1) := by decide +kernel
theorem dX6_strokesBy_17 : decode cX6_strokesBy 17 = .ok (.invokevirtual 110, 3) := by decide +kernel
theorem dX6_strokesBy_20 : decode cX6_strokesBy 20 = .ok (.ireturn, 1) := by decide +kernel
theorem dX6_strokesBy_21 : decode cX6_strokesBy 21 = .ok (.iconst 0, 1) := by decide +kernel
theorem dX6_strokesBy_22 : decode cX6_strokesBy 22 = .ok (.istore_n 2, 1) := by decide +kernel
theorem dX6_strokesBy_23 : decode cX6_strokesBy 23 = .ok (.iload_n 2, 1) := by decide +kernel
theorem dX6_strokesBy_24 : decode cX6_strokesBy 24 = .ok (.iload_n 1, 1) := by decide +kernel
theorem dX6_strokesBy_25 : decode cX6_strokesBy 25 = .ok (.if_icmp .ge 14, 3) := by decide +kernel
theorem dX6_strokesBy_28 : decode cX6_strokesBy 28 = .ok (.aload_n 0, 1) := by decide +kernel
theorem dX6_strokesBy_29 : decode cX6_strokesBy 29 = .ok (.invokevirtual 187, 3) := by decide +kernel
theorem dX6_strokesBy_32 : decode cX6_strokesBy 32 = .ok (.pop, 1) := by decide +kernel
theorem dX6_strokesBy_33 : decode cX6_strokesBy 33 = .ok (.iinc 2 1, 3) := by decide +kernel
theorem dX6_strokesBy_36 : decode cX6_strokesBy 36 = .ok (.goto (-13), 3) := by decide +kernel
theorem dX6_strokesBy_39 : decode cX6_strokesBy 39 = .ok (.iload_n 1, 1) := by decide +kernel
theorem dX6_strokesBy_40 : decode cX6_strokesBy 40 = .ok (.ireturn, 1) := by decide +kernel
set_option maxRecDepth 20000 in
theorem ggX6_emptyPress_X6_save : GoodIn wsX6_emptyPress wsX6_save := goodIn_r _ [7, 8, 9, 10, 2, 23, 24, 25, 26, 27, 28, 29, 30, 31, 32, 33, 34, 35, 36, 37] (by decide +kernel) (by decide +kernel)
set_option maxRecDepth 20000 in
theorem gX6_emptyPress_X6_save : GoodIn wsX6_emptyPress (wsV RX6 113 RX6 yX6_save wsX6_save) := goodIn_app (goodIn_of _ (by decide +kernel)) ggX6_emptyPress_X6_save
set_option maxRecDepth 20000 in
theorem ggX6_emptyPress_X6_pitches : GoodIn wsX6_emptyPress wsX6_pitches := goodIn_r _ [14, 15, 16, 17, 6, 18, 2, 23, 24, 25, 26, 27, 28, 29, 30, 31, 32, 33, 34, 35, 36, 37] (by decide +kernel) (by decide +kernel)
set_option maxRecDepth 20000 in
theorem gX6_emptyPress_X6_pitches : GoodIn wsX6_emptyPress (wsV RX6 190 RX6 yX6_pitches wsX6_pitches) := goodIn_app (goodIn_of _ (by decide +kernel)) ggX6_emptyPress_X6_pitches
set_option maxRecDepth 20000 in
theorem ggX6_emptyPress_X6_empties : GoodIn wsX6_emptyPress wsX6_empties := goodIn_r _ [22, 2, 23, 24, 25, 26, 27, 28, 29, 30, 31, 32, 33, 34, 35, 36, 37] (by decide +kernel) (by decide +kernel)
set_option maxRecDepth 20000 in
theorem gX6_emptyPress_X6_empties : GoodIn wsX6_emptyPress (wsV RX6 170 RX6 yX6_empties wsX6_empties) := goodIn_app (goodIn_of _ (by decide +kernel)) ggX6_emptyPress_X6_empties
theorem dX6_emptyPress_0 : decode cX6_emptyPress 0 = .ok (.aload_n 0, 1) := by decide +kernel
theorem dX6_emptyPress_1 : decode cX6_emptyPress 1 = .ok (.iconst 0, 1) := by decide +kernel
theorem dX6_emptyPress_2 : decode cX6_emptyPress 2 = .ok (.putfield 48, 3) := by decide +kernel
theorem dX6_emptyPress_5 : decode cX6_emptyPress 5 = .ok (.aload_n 0, 1) := by decide +kernel
theorem dX6_emptyPress_6 : decode cX6_emptyPress 6 = .ok (.invokevirtual 113, 3) := by decide +kernel
theorem dX6_emptyPress_9 : decode cX6_emptyPress 9 = .ok (.aload_n 0, 1) := by decide +kernel
theorem dX6_emptyPress_10 : decode cX6_emptyPress 10 = .ok (.invokevirtual 190, 3) := by decide +kernel
theorem dX6_emptyPress_13 : decode cX6_emptyPress 13 = .ok (.istore_n 1, 1) := by decide +kernel
theorem dX6_emptyPress_14 : decode cX6_emptyPress 14 = .ok (.aload_n 0, 1) := by decide +kernel
theorem dX6_emptyPress_15 : decode cX6_emptyPress 15 = .ok (.getfield 7, 3) := by decide +kernel
theorem dX6_emptyPress_18 : decode cX6_emptyPress 18 = .ok (.bipush 11, 2) := by decide +kernel
theorem dX6_emptyPress_20 : decode cX6_emptyPress 20 = .ok (.dup2, 1) := by decide +kernel
theorem dX6_emptyPress_21 : decode cX6_emptyPress 21 = .ok (.laload, 1) := by decide +kernel
theorem dX6_emptyPress_22 : decode cX6_emptyPress 22 = .ok (.iload_n 1, 1) := by decide +kernel
theorem dX6_emptyPress_23 : decode cX6_emptyPress 23 = .ok (.i2l, 1) := by decide +kernel
theorem dX6_emptyPress_24 : decode cX6_emptyPress 24 = .ok (.ladd, 1) := by decide +kernel
theorem dX6_emptyPress_25 : decode cX6_emptyPress 25 = .ok (.lastore, 1) := by decide +kernel
theorem dX6_emptyPress_26 : decode cX6_emptyPress 26 = .ok (.iconst 0, 1) := by decide +kernel
theorem dX6_emptyPress_27 : decode cX6_emptyPress 27 = .ok (.istore_n 2, 1) := by decide +kernel
theorem dX6_emptyPress_28 : decode cX6_emptyPress 28 = .ok (.iload_n 2, 1) := by decide +kernel
theorem dX6_emptyPress_29 : decode cX6_emptyPress 29 = .ok (.bipush 8, 2) := by decide +kernel
theorem dX6_emptyPress_31 : decode cX6_emptyPress 31 = .ok (.if_icmp .ge 19, 3) := by decide +kernel
theorem dX6_emptyPress_34 : decode cX6_emptyPress 34 = .ok (.aload_n 0, 1) := by decide +kernel
theorem dX6_emptyPress_35 : decode cX6_emptyPress 35 = .ok (.bipush 60, 2) := by decide +kernel
theorem dX6_emptyPress_37 : decode cX6_emptyPress 37 = .ok (.iconst 5, 1) := by decide +kernel
theorem dX6_emptyPress_38 : decode cX6_emptyPress 38 = .ok (.iload_n 2, 1) := by decide +kernel
theorem dX6_emptyPress_39 : decode cX6_emptyPress 39 = .ok (.imul, 1) := by decide +kernel
theorem dX6_emptyPress_40 : decode cX6_emptyPress 40 = .ok (.iadd, 1) := by decide +kernel
theorem dX6_emptyPress_41 : decode cX6_emptyPress 41 = .ok (.invokevirtual 170, 3) := by decide +kernel
theorem dX6_emptyPress_44 : decode cX6_emptyPress 44 = .ok (.iinc 2 1, 3) := by decide +kernel
theorem dX6_emptyPress_47 : decode cX6_emptyPress 47 = .ok (.goto (-19), 3) := by decide +kernel
theorem dX6_emptyPress_50 : decode cX6_emptyPress 50 = .ok (.iload_n 1, 1) := by decide +kernel
theorem dX6_emptyPress_51 : decode cX6_emptyPress 51 = .ok (.ireturn, 1) := by decide +kernel
set_option maxRecDepth 20000 in
theorem ggX6_operationOf_X6_ofOp : GoodIn wsX6_operationOf wsX6_ofOp := goodIn_r _ [5, 6, 31, 32, 33, 34, 35, 36, 37, 38, 39, 40, 41, 42, 43, 44, 45] (by decide +kernel) (by decide +kernel)
set_option maxRecDepth 20000 in
theorem gX6_operationOf_X6_ofOp : GoodIn wsX6_operationOf (wsV RX6 77 RX6 yX6_ofOp wsX6_ofOp) := goodIn_app (goodIn_of _ (by decide +kernel)) ggX6_operationOf_X6_ofOp
set_option maxRecDepth 20000 in
theorem ggX6_operationOf_X6_force : GoodIn wsX6_operationOf wsX6_force := goodIn_r _ [10, 1, 2, 3, 4, 5, 6, 31, 32, 33, 34, 35, 36, 37, 38, 39, 40, 41, 42, 43, 44, 45] (by decide +kernel) (by decide +kernel)
set_option maxRecDepth 20000 in
theorem gX6_operationOf_X6_force : GoodIn wsX6_operationOf (wsV RX6 143 RX6 yX6_force wsX6_force) := goodIn_app (goodIn_of _ (by decide +kernel)) ggX6_operationOf_X6_force
set_option maxRecDepth 20000 in
theorem ggX6_operationOf_X6_touches : GoodIn wsX6_operationOf wsX6_touches := goodIn_r _ [14, 15, 16, 17, 4, 18, 1, 2, 3, 5, 6, 19, 20, 21, 22, 23, 24, 25, 26, 27, 28, 29, 30, 31, 32, 33, 34, 35, 36, 37, 38, 39, 40, 41, 42, 43, 44, 45] (by decide +kernel) (by decide +kernel)
set_option maxRecDepth 20000 in
theorem gX6_operationOf_X6_touches : GoodIn wsX6_operationOf (wsV RX6 146 RX6 yX6_touches wsX6_touches) := goodIn_app (goodIn_of _ (by decide +kernel)) ggX6_operationOf_X6_touches
theorem dX6_operationOf_0 : decode cX6_operationOf 0 = .ok (.iload_n 2, 1) := by decide +kernel
theorem dX6_operationOf_1 : decode cX6_operationOf 1 = .ok (.iconst 5, 1) := by decide +kernel
theorem dX6_operationOf_2 : decode cX6_operationOf 2 = .ok (.if_icmp .ge 10, 3) := by decide +kernel
theorem dX6_operationOf_5 : decode cX6_operationOf 5 = .ok (.aload_n 0, 1) := by decide +kernel
theorem dX6_operationOf_6 : decode cX6_operationOf 6 = .ok (.iload_n 1, 1) := by decide +kernel
theorem dX6_operationOf_7 : decode cX6_operationOf 7 = .ok (.iload_n 2, 1) := by decide +kernel
theorem dX6_operationOf_8 : decode cX6_operationOf 8 = .ok (.invokevirtual 77, 3) := by decide +kernel
theorem dX6_operationOf_11 : decode cX6_operationOf 11 = .ok (.ireturn, 1) := by decide +kernel
theorem dX6_operationOf_12 : decode cX6_operationOf 12 = .ok (.iload_n 2, 1) := by decide +kernel
theorem dX6_operationOf_13 : decode cX6_operationOf 13 = .ok (.iconst 5, 1) := by decide +kernel
theorem dX6_operationOf_14 : decode cX6_operationOf 14 = .ok (.if_icmp .ne 11, 3) := by decide +kernel
theorem dX6_operationOf_17 : decode cX6_operationOf 17 = .ok (.aload_n 0, 1) := by decide +kernel
theorem dX6_operationOf_18 : decode cX6_operationOf 18 = .ok (.iload_n 1, 1) := by decide +kernel
theorem dX6_operationOf_19 : decode cX6_operationOf 19 = .ok (.invokevirtual 143, 3) := by decide +kernel
theorem dX6_operationOf_22 : decode cX6_operationOf 22 = .ok (.goto 23, 3) := by decide +kernel
theorem dX6_operationOf_25 : decode cX6_operationOf 25 = .ok (.iload_n 2, 1) := by decide +kernel
theorem dX6_operationOf_26 : decode cX6_operationOf 26 = .ok (.bipush 6, 2) := by decide +kernel
theorem dX6_operationOf_28 : decode cX6_operationOf 28 = .ok (.if_icmp .ne 12, 3) := by decide +kernel
theorem dX6_operationOf_31 : decode cX6_operationOf 31 = .ok (.aload_n 0, 1) := by decide +kernel
theorem dX6_operationOf_32 : decode cX6_operationOf 32 = .ok (.iload_n 1, 1) := by decide +kernel
theorem dX6_operationOf_33 : decode cX6_operationOf 33 = .ok (.iconst 5, 1) := by decide +kernel
theorem dX6_operationOf_34 : decode cX6_operationOf 34 = .ok (.invokevirtual 77, 3) := by decide +kernel
theorem dX6_operationOf_37 : decode cX6_operationOf 37 = .ok (.goto 8, 3) := by decide +kernel
theorem dX6_operationOf_40 : decode cX6_operationOf 40 = .ok (.aload_n 0, 1) := by decide +kernel
theorem dX6_operationOf_41 : decode cX6_operationOf 41 = .ok (.iload_n 1, 1) := by decide +kernel
theorem dX6_operationOf_42 : decode cX6_operationOf 42 = .ok (.invokevirtual 146, 3) := by decide +kernel
theorem dX6_operationOf_45 : decode cX6_operationOf 45 = .ok (.ireturn, 1) := by decide +kernel
set_option maxRecDepth 20000 in
theorem ggX6_operation_X6_isOp : GoodIn wsX6_operation wsX6_isOp := goodIn_r _ [6, 7, 8, 9, 5, 10, 11, 12, 13, 14, 47, 48, 49, 50, 51, 52, 53, 54, 55, 56, 57, 58, 59, 60, 61] (by decide +kernel) (by decide +kernel)
set_option maxRecDepth 20000 in
theorem gX6_operation_X6_isOp : GoodIn wsX6_operation (wsV RX6 135 RX6 yX6_isOp wsX6_isOp) := goodIn_app (goodIn_of _ (by decide +kernel)) ggX6_operation_X6_isOp
set_option maxRecDepth 20000 in
theorem ggX6_operation_X6_fails : GoodIn wsX6_operation wsX6_fails := goodIn_r _ [18, 1, 47, 48, 49, 50, 51, 52, 53, 54, 55, 56, 57, 58, 59, 60, 61] (by decide +kernel) (by decide +kernel)
set_option maxRecDepth 20000 in
theorem gX6_operation_X6_fails : GoodIn wsX6_operation (wsV RX6 110 RX6 yX6_fails wsX6_fails) := goodIn_app (goodIn_of _ (by decide +kernel)) ggX6_operation_X6_fails
set_option maxRecDepth 20000 in
theorem ggX6_operation_X6_in : GoodIn wsX6_operation wsX6_in := goodIn_r _ [14] (by decide +kernel) (by decide +kernel)
set_option maxRecDepth 20000 in
theorem gX6_operation_X6_in : GoodIn wsX6_operation (va_wsS RX6 56 yX6_in wsX6_in) := goodIn_app (goodIn_of _ (by decide +kernel)) ggX6_operation_X6_in
set_option maxRecDepth 20000 in
theorem ggX6_operation_X6_operationOf : GoodIn wsX6_operation wsX6_operationOf := goodIn_r _ [22, 23, 24, 25, 5, 26, 11, 27, 28, 29, 30, 31, 32, 33, 34, 35, 36, 37, 38, 39, 40, 41, 42, 7, 8, 9, 10, 43, 44, 45, 46, 47, 48, 49, 50, 51, 52, 53, 54, 55, 56, 57, 58, 59, 60, 61] (by decide +kernel) (by decide +kernel)
set_option maxRecDepth 20000 in
theorem gX6_operation_X6_operationOf : GoodIn wsX6_operation (wsV RX6 193 RX6 yX6_operationOf wsX6_operationOf) := goodIn_app (goodIn_of _ (by decide +kernel)) ggX6_operation_X6_operationOf
theorem dX6_operation_0 : decode cX6_operation 0 = .ok (.aload_n 0, 1) := by decide +kernel
theorem dX6_operation_1 : decode cX6_operation 1 = .ok (.iconst 0, 1) := by decide +kernel
theorem dX6_operation_2 : decode cX6_operation 2 = .ok (.putfield 48, 3) := by decide +kernel
theorem dX6_operation_5 : decode cX6_operation 5 = .ok (.aload_n 0, 1) := by decide +kernel
theorem dX6_operation_6 : decode cX6_operation 6 = .ok (.iload_n 1, 1) := by decide +kernel
theorem dX6_operation_7 : decode cX6_operation 7 = .ok (.invokevirtual 135, 3) := by decide +kernel
theorem dX6_operation_10 : decode cX6_operation 10 = .ok (.ifCond .ne 9, 3) := by decide +kernel
theorem dX6_operation_13 : decode cX6_operation 13 = .ok (.aload_n 0, 1) := by decide +kernel
theorem dX6_operation_14 : decode cX6_operation 14 = .ok (.iconst 1, 1) := by decide +kernel
theorem dX6_operation_15 : decode cX6_operation 15 = .ok (.invokevirtual 110, 3) := by decide +kernel
theorem dX6_operation_18 : decode cX6_operation 18 = .ok (.ireturn, 1) := by decide +kernel
theorem dX6_operation_19 : decode cX6_operation 19 = .ok (.iload_n 2, 1) := by decide +kernel
theorem dX6_operation_20 : decode cX6_operation 20 = .ok (.iconst 0, 1) := by decide +kernel
theorem dX6_operation_21 : decode cX6_operation 21 = .ok (.bipush 7, 2) := by decide +kernel
theorem dX6_operation_23 : decode cX6_operation 23 = .ok (.invokestatic 56, 3) := by decide +kernel
theorem dX6_operation_26 : decode cX6_operation 26 = .ok (.ifCond .eq 12, 3) := by decide +kernel
theorem dX6_operation_29 : decode cX6_operation 29 = .ok (.aload_n 0, 1) := by decide +kernel
theorem dX6_operation_30 : decode cX6_operation 30 = .ok (.iload_n 1, 1) := by decide +kernel
theorem dX6_operation_31 : decode cX6_operation 31 = .ok (.iload_n 2, 1) := by decide +kernel
theorem dX6_operation_32 : decode cX6_operation 32 = .ok (.invokevirtual 193, 3) := by decide +kernel
theorem dX6_operation_35 : decode cX6_operation 35 = .ok (.goto 8, 3) := by decide +kernel
theorem dX6_operation_38 : decode cX6_operation 38 = .ok (.aload_n 0, 1) := by decide +kernel
theorem dX6_operation_39 : decode cX6_operation 39 = .ok (.iconst 2, 1) := by decide +kernel
theorem dX6_operation_40 : decode cX6_operation 40 = .ok (.invokevirtual 110, 3) := by decide +kernel
theorem dX6_operation_43 : decode cX6_operation 43 = .ok (.ireturn, 1) := by decide +kernel
set_option maxRecDepth 20000 in
theorem ggX6_stationOf_X6_opsAt : GoodIn wsX6_stationOf wsX6_opsAt := goodIn_r _ [6, 7, 8, 9, 5, 10, 1, 11, 12, 13, 14, 27, 28, 29, 30, 31, 32, 33, 34, 35, 36, 37, 38, 39, 40, 41] (by decide +kernel) (by decide +kernel)
set_option maxRecDepth 20000 in
theorem gX6_stationOf_X6_opsAt : GoodIn wsX6_stationOf (wsV RX6 149 RX6 yX6_opsAt wsX6_opsAt) := goodIn_app (goodIn_of _ (by decide +kernel)) ggX6_stationOf_X6_opsAt
set_option maxRecDepth 20000 in
theorem ggX6_stationOf_X6_forces : GoodIn wsX6_stationOf wsX6_forces := goodIn_r _ [18, 7, 8, 9, 5, 10, 1, 19, 20, 21, 22, 11, 12, 13, 14, 27, 28, 29, 30, 31, 32, 33, 34, 35, 36, 37, 38, 39, 40, 41] (by decide +kernel) (by decide +kernel)
set_option maxRecDepth 20000 in
theorem gX6_stationOf_X6_forces : GoodIn wsX6_stationOf (wsV RX6 152 RX6 yX6_forces wsX6_forces) := goodIn_app (goodIn_of _ (by decide +kernel)) ggX6_stationOf_X6_forces
set_option maxRecDepth 20000 in
theorem ggX6_stationOf_X6_ofPitch : GoodIn wsX6_stationOf wsX6_ofPitch := goodIn_r _ [26, 1, 27, 28, 29, 30, 31, 32, 33, 34, 35, 36, 37, 38, 39, 40, 41] (by decide +kernel) (by decide +kernel)
set_option maxRecDepth 20000 in
theorem gX6_stationOf_X6_ofPitch : GoodIn wsX6_stationOf (wsV RX6 139 RX6 yX6_ofPitch wsX6_ofPitch) := goodIn_app (goodIn_of _ (by decide +kernel)) ggX6_stationOf_X6_ofPitch
theorem dX6_stationOf_0 : decode cX6_stationOf 0 = .ok (.iload_n 2, 1) := by decide +kernel
theorem dX6_stationOf_1 : decode cX6_stationOf 1 = .ok (.ifCond .ne 11, 3) := by decide +kernel
theorem dX6_stationOf_4 : decode cX6_stationOf 4 = .ok (.aload_n 0, 1) := by decide +kernel
theorem dX6_stationOf_5 : decode cX6_stationOf 5 = .ok (.iload_n 1, 1) := by decide +kernel
theorem dX6_stationOf_6 : decode cX6_stationOf 6 = .ok (.invokevirtual 149, 3) := by decide +kernel
theorem dX6_stationOf_9 : decode cX6_stationOf 9 = .ok (.goto 12, 3) := by decide +kernel
theorem dX6_stationOf_12 : decode cX6_stationOf 12 = .ok (.aload_n 0, 1) := by decide +kernel
theorem dX6_stationOf_13 : decode cX6_stationOf 13 = .ok (.aload_n 0, 1) := by decide +kernel
theorem dX6_stationOf_14 : decode cX6_stationOf 14 = .ok (.iload_n 1, 1) := by decide +kernel
theorem dX6_stationOf_15 : decode cX6_stationOf 15 = .ok (.invokevirtual 149, 3) := by decide +kernel
theorem dX6_stationOf_18 : decode cX6_stationOf 18 = .ok (.invokevirtual 152, 3) := by decide +kernel
theorem dX6_stationOf_21 : decode cX6_stationOf 21 = .ok (.istore_n 3, 1) := by decide +kernel
theorem dX6_stationOf_22 : decode cX6_stationOf 22 = .ok (.iload_n 2, 1) := by decide +kernel
theorem dX6_stationOf_23 : decode cX6_stationOf 23 = .ok (.iconst 2, 1) := by decide +kernel
theorem dX6_stationOf_24 : decode cX6_stationOf 24 = .ok (.if_icmp .ne 18, 3) := by decide +kernel
theorem dX6_stationOf_27 : decode cX6_stationOf 27 = .ok (.aload_n 0, 1) := by decide +kernel
theorem dX6_stationOf_28 : decode cX6_stationOf 28 = .ok (.getfield 7, 3) := by decide +kernel
theorem dX6_stationOf_31 : decode cX6_stationOf 31 = .ok (.bipush 13, 2) := by decide +kernel
theorem dX6_stationOf_33 : decode cX6_stationOf 33 = .ok (.laload, 1) := by decide +kernel
theorem dX6_stationOf_34 : decode cX6_stationOf 34 = .ok (.iload_n 1, 1) := by decide +kernel
theorem dX6_stationOf_35 : decode cX6_stationOf 35 = .ok (.lshr, 1) := by decide +kernel
theorem dX6_stationOf_36 : decode cX6_stationOf 36 = .ok (.lconst 1, 1) := by decide +kernel
theorem dX6_stationOf_37 : decode cX6_stationOf 37 = .ok (.land, 1) := by decide +kernel
theorem dX6_stationOf_38 : decode cX6_stationOf 38 = .ok (.l2i, 1) := by decide +kernel
theorem dX6_stationOf_39 : decode cX6_stationOf 39 = .ok (.goto 10, 3) := by decide +kernel
theorem dX6_stationOf_42 : decode cX6_stationOf 42 = .ok (.aload_n 0, 1) := by decide +kernel
theorem dX6_stationOf_43 : decode cX6_stationOf 43 = .ok (.iload_n 1, 1) := by decide +kernel
theorem dX6_stationOf_44 : decode cX6_stationOf 44 = .ok (.iconst 0, 1) := by decide +kernel
theorem dX6_stationOf_45 : decode cX6_stationOf 45 = .ok (.invokevirtual 139, 3) := by decide +kernel
theorem dX6_stationOf_48 : decode cX6_stationOf 48 = .ok (.l2i, 1) := by decide +kernel
theorem dX6_stationOf_49 : decode cX6_stationOf 49 = .ok (.istore 4, 2) := by decide +kernel
theorem dX6_stationOf_51 : decode cX6_stationOf 51 = .ok (.iload_n 2, 1) := by decide +kernel
theorem dX6_stationOf_52 : decode cX6_stationOf 52 = .ok (.iconst 2, 1) := by decide +kernel
theorem dX6_stationOf_53 : decode cX6_stationOf 53 = .ok (.if_icmp .ge 7, 3) := by decide +kernel
theorem dX6_stationOf_56 : decode cX6_stationOf 56 = .ok (.iload_n 3, 1) := by decide +kernel
theorem dX6_stationOf_57 : decode cX6_stationOf 57 = .ok (.goto 5, 3) := by decide +kernel
theorem dX6_stationOf_60 : decode cX6_stationOf 60 = .ok (.iload 4, 2) := by decide +kernel
theorem dX6_stationOf_62 : decode cX6_stationOf 62 = .ok (.ireturn, 1) := by decide +kernel
set_option maxRecDepth 20000 in
theorem ggX6_station_X6_in : GoodIn wsX6_station wsX6_in := goodIn_r _ [5] (by decide +kernel) (by decide +kernel)
set_option maxRecDepth 20000 in
theorem gX6_station_X6_in : GoodIn wsX6_station (va_wsS RX6 56 yX6_in wsX6_in) := goodIn_app (goodIn_of _ (by decide +kernel)) ggX6_station_X6_in
set_option maxRecDepth 20000 in
theorem ggX6_station_X6_stationOf : GoodIn wsX6_station wsX6_stationOf := goodIn_r _ [9, 10, 11, 12, 13, 4, 14, 15, 16, 17, 18, 19, 20, 21, 22, 23, 24, 25, 26, 27, 28, 29, 30, 31, 32, 33, 34, 39, 40, 41, 42, 43, 44, 45, 46, 47, 48, 49, 50, 51, 52, 53] (by decide +kernel) (by decide +kernel)
set_option maxRecDepth 20000 in
theorem gX6_station_X6_stationOf : GoodIn wsX6_station (wsV RX6 196 RX6 yX6_stationOf wsX6_stationOf) := goodIn_app (goodIn_of _ (by decide +kernel)) ggX6_station_X6_stationOf
set_option maxRecDepth 20000 in
theorem ggX6_station_X6_fails : GoodIn wsX6_station wsX6_fails := goodIn_r _ [38, 1, 39, 40, 41, 42, 43, 44, 45, 46, 47, 48, 49, 50, 51, 52, 53] (by decide +kernel) (by decide +kernel)
set_option maxRecDepth 20000 in
theorem gX6_station_X6_fails : GoodIn wsX6_station (wsV RX6 110 RX6 yX6_fails wsX6_fails) := goodIn_app (goodIn_of _ (by decide +kernel)) ggX6_station_X6_fails
theorem dX6_station_0 : decode cX6_station 0 = .ok (.aload_n 0, 1) := by decide +kernel
theorem dX6_station_1 : decode cX6_station 1 = .ok (.iconst 0, 1) := by decide +kernel
theorem dX6_station_2 : decode cX6_station 2 = .ok (.putfield 48, 3) := by decide +kernel
theorem dX6_station_5 : decode cX6_station 5 = .ok (.iload_n 1, 1) := by decide +kernel
theorem dX6_station_6 : decode cX6_station 6 = .ok (.iconst 0, 1) := by decide +kernel
theorem dX6_station_7 : decode cX6_station 7 = .ok (.bipush 7, 2) := by decide +kernel
theorem dX6_station_9 : decode cX6_station 9 = .ok (.invokestatic 56, 3) := by decide +kernel
theorem dX6_station_12 : decode cX6_station 12 = .ok (.ifCond .eq 21, 3) := by decide +kernel
theorem dX6_station_15 : decode cX6_station 15 = .ok (.iload_n 2, 1) := by decide +kernel
theorem dX6_station_16 : decode cX6_station 16 = .ok (.iconst 0, 1) := by decide +kernel
theorem dX6_station_17 : decode cX6_station 17 = .ok (.iconst 3, 1) := by decide +kernel
theorem dX6_station_18 : decode cX6_station 18 = .ok (.invokestatic 56, 3) := by decide +kernel
theorem dX6_station_21 : decode cX6_station 21 = .ok (.ifCond .eq 12, 3) := by decide +kernel
theorem dX6_station_24 : decode cX6_station 24 = .ok (.aload_n 0, 1) := by decide +kernel
theorem dX6_station_25 : decode cX6_station 25 = .ok (.iload_n 1, 1) := by decide +kernel
theorem dX6_station_26 : decode cX6_station 26 = .ok (.iload_n 2, 1) := by decide +kernel
theorem dX6_station_27 : decode cX6_station 27 = .ok (.invokevirtual 196, 3) := by decide +kernel
theorem dX6_station_30 : decode cX6_station 30 = .ok (.goto 8, 3) := by decide +kernel
theorem dX6_station_33 : decode cX6_station 33 = .ok (.aload_n 0, 1) := by decide +kernel
theorem dX6_station_34 : decode cX6_station 34 = .ok (.iconst 1, 1) := by decide +kernel
theorem dX6_station_35 : decode cX6_station 35 = .ok (.invokevirtual 110, 3) := by decide +kernel
theorem dX6_station_38 : decode cX6_station 38 = .ok (.ireturn, 1) := by decide +kernel
set_option maxRecDepth 20000 in
theorem ggX6_pitchOf_X6_ofPitch : GoodIn wsX6_pitchOf wsX6_ofPitch := goodIn_r _ [5, 6, 10, 11, 12, 13, 14, 15, 16, 17, 18, 19, 20, 21, 22, 23, 24] (by decide +kernel) (by decide +kernel)
set_option maxRecDepth 20000 in
theorem gX6_pitchOf_X6_ofPitch : GoodIn wsX6_pitchOf (wsV RX6 139 RX6 yX6_ofPitch wsX6_ofPitch) := goodIn_app (goodIn_of _ (by decide +kernel)) ggX6_pitchOf_X6_ofPitch
set_option maxRecDepth 20000 in
theorem ggX6_pitchOf_X6_ones : GoodIn wsX6_pitchOf wsX6_ones := goodIn_r _ [9] (by decide +kernel) (by decide +kernel)
set_option maxRecDepth 20000 in
theorem gX6_pitchOf_X6_ones : GoodIn wsX6_pitchOf (va_wsS RX6 120 yX6_ones wsX6_ones) := goodIn_app (goodIn_of _ (by decide +kernel)) ggX6_pitchOf_X6_ones
theorem dX6_pitchOf_0 : decode cX6_pitchOf 0 = .ok (.aload_n 0, 1) := by decide +kernel
theorem dX6_pitchOf_1 : decode cX6_pitchOf 1 = .ok (.iload_n 1, 1) := by decide +kernel
theorem dX6_pitchOf_2 : decode cX6_pitchOf 2 = .ok (.iconst 0, 1) := by decide +kernel
theorem dX6_pitchOf_3 : decode cX6_pitchOf 3 = .ok (.invokevirtual 139, 3) := by decide +kernel
theorem dX6_pitchOf_6 : decode cX6_pitchOf 6 = .ok (.lconst 0, 1) := by decide +kernel
theorem dX6_pitchOf_7 : decode cX6_pitchOf 7 = .ok (.lcmp, 1) := by decide +kernel
theorem dX6_pitchOf_8 : decode cX6_pitchOf 8 = .ok (.ifCond .ne 5, 3) := by decide +kernel
theorem dX6_pitchOf_11 : decode cX6_pitchOf 11 = .ok (.iconst (-1), 1) := by decide +kernel
theorem dX6_pitchOf_12 : decode cX6_pitchOf 12 = .ok (.ireturn, 1) := by decide +kernel
theorem dX6_pitchOf_13 : decode cX6_pitchOf 13 = .ok (.iload_n 2, 1) := by decide +kernel
theorem dX6_pitchOf_14 : decode cX6_pitchOf 14 = .ok (.iconst 3, 1) := by decide +kernel
theorem dX6_pitchOf_15 : decode cX6_pitchOf 15 = .ok (.if_icmp .ne 15, 3) := by decide +kernel
theorem dX6_pitchOf_18 : decode cX6_pitchOf 18 = .ok (.aload_n 0, 1) := by decide +kernel
theorem dX6_pitchOf_19 : decode cX6_pitchOf 19 = .ok (.iload_n 1, 1) := by decide +kernel
theorem dX6_pitchOf_20 : decode cX6_pitchOf 20 = .ok (.iconst 1, 1) := by decide +kernel
theorem dX6_pitchOf_21 : decode cX6_pitchOf 21 = .ok (.invokevirtual 139, 3) := by decide +kernel
theorem dX6_pitchOf_24 : decode cX6_pitchOf 24 = .ok (.invokestatic 120, 3) := by decide +kernel
theorem dX6_pitchOf_27 : decode cX6_pitchOf 27 = .ok (.goto 12, 3) := by decide +kernel
theorem dX6_pitchOf_30 : decode cX6_pitchOf 30 = .ok (.aload_n 0, 1) := by decide +kernel
theorem dX6_pitchOf_31 : decode cX6_pitchOf 31 = .ok (.iload_n 1, 1) := by decide +kernel
theorem dX6_pitchOf_32 : decode cX6_pitchOf 32 = .ok (.iconst 2, 1) := by decide +kernel
theorem dX6_pitchOf_33 : decode cX6_pitchOf 33 = .ok (.iload_n 2, 1) := by decide +kernel
theorem dX6_pitchOf_34 : decode cX6_pitchOf 34 = .ok (.iadd, 1) := by decide +kernel
theorem dX6_pitchOf_35 : decode cX6_pitchOf 35 = .ok (.invokevirtual 139, 3) := by decide +kernel
theorem dX6_pitchOf_38 : decode cX6_pitchOf 38 = .ok (.l2i, 1) := by decide +kernel
theorem dX6_pitchOf_39 : decode cX6_pitchOf 39 = .ok (.ireturn, 1) := by decide +kernel
set_option maxRecDepth 20000 in
theorem ggX6_pitch_X6_in : GoodIn wsX6_pitch wsX6_in := goodIn_r _ [5] (by decide +kernel) (by decide +kernel)
set_option maxRecDepth 20000 in
theorem gX6_pitch_X6_in : GoodIn wsX6_pitch (va_wsS RX6 56 yX6_in wsX6_in) := goodIn_app (goodIn_of _ (by decide +kernel)) ggX6_pitch_X6_in
set_option maxRecDepth 20000 in
theorem ggX6_pitch_X6_pitchOf : GoodIn wsX6_pitch wsX6_pitchOf := goodIn_r _ [9, 10, 11, 12, 4, 13, 14, 15, 16, 17, 22, 23, 24, 25, 26, 27, 28, 29, 30, 31, 32, 33, 34, 35, 36] (by decide +kernel) (by decide +kernel)
set_option maxRecDepth 20000 in
theorem gX6_pitch_X6_pitchOf : GoodIn wsX6_pitch (wsV RX6 199 RX6 yX6_pitchOf wsX6_pitchOf) := goodIn_app (goodIn_of _ (by decide +kernel)) ggX6_pitch_X6_pitchOf
set_option maxRecDepth 20000 in
theorem ggX6_pitch_X6_fails : GoodIn wsX6_pitch wsX6_fails := goodIn_r _ [21, 1, 22, 23, 24, 25, 26, 27, 28, 29, 30, 31, 32, 33, 34, 35, 36] (by decide +kernel) (by decide +kernel)
set_option maxRecDepth 20000 in
theorem gX6_pitch_X6_fails : GoodIn wsX6_pitch (wsV RX6 110 RX6 yX6_fails wsX6_fails) := goodIn_app (goodIn_of _ (by decide +kernel)) ggX6_pitch_X6_fails
theorem dX6_pitch_0 : decode cX6_pitch 0 = .ok (.aload_n 0, 1) := by decide +kernel
theorem dX6_pitch_1 : decode cX6_pitch 1 = .ok (.iconst 0, 1) := by decide +kernel
theorem dX6_pitch_2 : decode cX6_pitch 2 = .ok (.putfield 48, 3) := by decide +kernel
theorem dX6_pitch_5 : decode cX6_pitch 5 = .ok (.iload_n 1, 1) := by decide +kernel
theorem dX6_pitch_6 : decode cX6_pitch 6 = .ok (.iconst 0, 1) := by decide +kernel
theorem dX6_pitch_7 : decode cX6_pitch 7 = .ok (.bipush 7, 2) := by decide +kernel
theorem dX6_pitch_9 : decode cX6_pitch 9 = .ok (.invokestatic 56, 3) := by decide +kernel
theorem dX6_pitch_12 : decode cX6_pitch 12 = .ok (.ifCond .eq 21, 3) := by decide +kernel
theorem dX6_pitch_15 : decode cX6_pitch 15 = .ok (.iload_n 2, 1) := by decide +kernel
theorem dX6_pitch_16 : decode cX6_pitch 16 = .ok (.iconst 0, 1) := by decide +kernel
theorem dX6_pitch_17 : decode cX6_pitch 17 = .ok (.iconst 3, 1) := by decide +kernel
theorem dX6_pitch_18 : decode cX6_pitch 18 = .ok (.invokestatic 56, 3) := by decide +kernel
theorem dX6_pitch_21 : decode cX6_pitch 21 = .ok (.ifCond .eq 12, 3) := by decide +kernel
theorem dX6_pitch_24 : decode cX6_pitch 24 = .ok (.aload_n 0, 1) := by decide +kernel
theorem dX6_pitch_25 : decode cX6_pitch 25 = .ok (.iload_n 1, 1) := by decide +kernel
theorem dX6_pitch_26 : decode cX6_pitch 26 = .ok (.iload_n 2, 1) := by decide +kernel
theorem dX6_pitch_27 : decode cX6_pitch 27 = .ok (.invokevirtual 199, 3) := by decide +kernel
theorem dX6_pitch_30 : decode cX6_pitch 30 = .ok (.goto 8, 3) := by decide +kernel
theorem dX6_pitch_33 : decode cX6_pitch 33 = .ok (.aload_n 0, 1) := by decide +kernel
theorem dX6_pitch_34 : decode cX6_pitch 34 = .ok (.iconst 1, 1) := by decide +kernel
theorem dX6_pitch_35 : decode cX6_pitch 35 = .ok (.invokevirtual 110, 3) := by decide +kernel
theorem dX6_pitch_38 : decode cX6_pitch 38 = .ok (.ireturn, 1) := by decide +kernel
set_option maxRecDepth 20000 in
theorem ggX6_left_X6_in : GoodIn wsX6_left wsX6_in := goodIn_r _ [5] (by decide +kernel) (by decide +kernel)
set_option maxRecDepth 20000 in
theorem gX6_left_X6_in : GoodIn wsX6_left (va_wsS RX6 56 yX6_in wsX6_in) := goodIn_app (goodIn_of _ (by decide +kernel)) ggX6_left_X6_in
set_option maxRecDepth 20000 in
theorem ggX6_left_X6_ofPitch : GoodIn wsX6_left wsX6_ofPitch := goodIn_r _ [9, 10, 15, 16, 17, 18, 19, 20, 21, 22, 23, 24, 25, 26, 27, 28, 29] (by decide +kernel) (by decide +kernel)
set_option maxRecDepth 20000 in
theorem gX6_left_X6_ofPitch : GoodIn wsX6_left (wsV RX6 139 RX6 yX6_ofPitch wsX6_ofPitch) := goodIn_app (goodIn_of _ (by decide +kernel)) ggX6_left_X6_ofPitch
set_option maxRecDepth 20000 in
theorem ggX6_left_X6_fails : GoodIn wsX6_left wsX6_fails := goodIn_r _ [14, 1, 15, 16, 17, 18, 19, 20, 21, 22, 23, 24, 25, 26, 27, 28, 29] (by decide +kernel) (by decide +kernel)
set_option maxRecDepth 20000 in
theorem gX6_left_X6_fails : GoodIn wsX6_left (wsV RX6 110 RX6 yX6_fails wsX6_fails) := goodIn_app (goodIn_of _ (by decide +kernel)) ggX6_left_X6_fails
theorem dX6_left_0 : decode cX6_left 0 = .ok (.aload_n 0, 1) := by decide +kernel
theorem dX6_left_1 : decode cX6_left 1 = .ok (.iconst 0, 1) := by decide +kernel
theorem dX6_left_2 : decode cX6_left 2 = .ok (.putfield 48, 3) := by decide +kernel
theorem dX6_left_5 : decode cX6_left 5 = .ok (.iload_n 1, 1) := by decide +kernel
theorem dX6_left_6 : decode cX6_left 6 = .ok (.iconst 0, 1) := by decide +kernel
theorem dX6_left_7 : decode cX6_left 7 = .ok (.bipush 7, 2) := by decide +kernel
theorem dX6_left_9 : decode cX6_left 9 = .ok (.invokestatic 56, 3) := by decide +kernel
theorem dX6_left_12 : decode cX6_left 12 = .ok (.ifCond .eq 12, 3) := by decide +kernel
theorem dX6_left_15 : decode cX6_left 15 = .ok (.aload_n 0, 1) := by decide +kernel
theorem dX6_left_16 : decode cX6_left 16 = .ok (.iload_n 1, 1) := by decide +kernel
theorem dX6_left_17 : decode cX6_left 17 = .ok (.iconst 1, 1) := by decide +kernel
theorem dX6_left_18 : decode cX6_left 18 = .ok (.invokevirtual 139, 3) := by decide +kernel
theorem dX6_left_21 : decode cX6_left 21 = .ok (.goto 9, 3) := by decide +kernel
theorem dX6_left_24 : decode cX6_left 24 = .ok (.aload_n 0, 1) := by decide +kernel
theorem dX6_left_25 : decode cX6_left 25 = .ok (.iconst 1, 1) := by decide +kernel
theorem dX6_left_26 : decode cX6_left 26 = .ok (.invokevirtual 110, 3) := by decide +kernel
theorem dX6_left_29 : decode cX6_left 29 = .ok (.i2l, 1) := by decide +kernel
theorem dX6_left_30 : decode cX6_left 30 = .ok (.lreturn, 1) := by decide +kernel
set_option maxRecDepth 20000 in
theorem ggX6_wholeOf_X6_many : GoodIn wsX6_wholeOf wsX6_many := goodIn_r _ [7, 1, 27, 28, 29, 30, 31, 32, 33, 34, 35, 36, 37, 38, 39, 40, 41] (by decide +kernel) (by decide +kernel)
set_option maxRecDepth 20000 in
theorem gX6_wholeOf_X6_many : GoodIn wsX6_wholeOf (wsV RX6 52 RX6 yX6_many wsX6_many) := goodIn_app (goodIn_of _ (by decide +kernel)) ggX6_wholeOf_X6_many
set_option maxRecDepth 20000 in
theorem ggX6_wholeOf_X6_stations : GoodIn wsX6_wholeOf wsX6_stations := goodIn_r _ [11, 3, 4, 5, 6, 7, 1, 12, 13, 14, 15, 27, 28, 29, 30, 31, 32, 33, 34, 35, 36, 37, 38, 39, 40, 41] (by decide +kernel) (by decide +kernel)
set_option maxRecDepth 20000 in
theorem gX6_wholeOf_X6_stations : GoodIn wsX6_wholeOf (wsV RX6 174 RX6 yX6_stations wsX6_stations) := goodIn_app (goodIn_of _ (by decide +kernel)) ggX6_wholeOf_X6_stations
set_option maxRecDepth 20000 in
theorem ggX6_wholeOf_X6_pitches : GoodIn wsX6_wholeOf wsX6_pitches := goodIn_r _ [19, 20, 21, 22, 6, 23, 1, 27, 28, 29, 30, 31, 32, 33, 34, 35, 36, 37, 38, 39, 40, 41] (by decide +kernel) (by decide +kernel)
set_option maxRecDepth 20000 in
theorem gX6_wholeOf_X6_pitches : GoodIn wsX6_wholeOf (wsV RX6 190 RX6 yX6_pitches wsX6_pitches) := goodIn_app (goodIn_of _ (by decide +kernel)) ggX6_wholeOf_X6_pitches
set_option maxRecDepth 20000 in
theorem ggX6_wholeOf_X6_ones : GoodIn wsX6_wholeOf wsX6_ones := goodIn_r _ [26] (by decide +kernel) (by decide +kernel)
set_option maxRecDepth 20000 in
theorem gX6_wholeOf_X6_ones : GoodIn wsX6_wholeOf (va_wsS RX6 120 yX6_ones wsX6_ones) := goodIn_app (goodIn_of _ (by decide +kernel)) ggX6_wholeOf_X6_ones
theorem dX6_wholeOf_0 : decode cX6_wholeOf 0 = .ok (.iload_n 1, 1) := by decide +kernel
theorem dX6_wholeOf_1 : decode cX6_wholeOf 1 = .ok (.bipush 9, 2) := by decide +kernel
theorem dX6_wholeOf_3 : decode cX6_wholeOf 3 = .ok (.if_icmp .ge 9, 3) := by decide +kernel
theorem dX6_wholeOf_6 : decode cX6_wholeOf 6 = .ok (.aload_n 0, 1) := by decide +kernel
theorem dX6_wholeOf_7 : decode cX6_wholeOf 7 = .ok (.iload_n 1, 1) := by decide +kernel
theorem dX6_wholeOf_8 : decode cX6_wholeOf 8 = .ok (.invokevirtual 52, 3) := by decide +kernel
theorem dX6_wholeOf_11 : decode cX6_wholeOf 11 = .ok (.ireturn, 1) := by decide +kernel
theorem dX6_wholeOf_12 : decode cX6_wholeOf 12 = .ok (.iload_n 1, 1) := by decide +kernel
theorem dX6_wholeOf_13 : decode cX6_wholeOf 13 = .ok (.bipush 11, 2) := by decide +kernel
theorem dX6_wholeOf_15 : decode cX6_wholeOf 15 = .ok (.if_icmp .ge 21, 3) := by decide +kernel
theorem dX6_wholeOf_18 : decode cX6_wholeOf 18 = .ok (.iload_n 1, 1) := by decide +kernel
theorem dX6_wholeOf_19 : decode cX6_wholeOf 19 = .ok (.bipush 9, 2) := by decide +kernel
theorem dX6_wholeOf_21 : decode cX6_wholeOf 21 = .ok (.if_icmp .ne 10, 3) := by decide +kernel
theorem dX6_wholeOf_24 : decode cX6_wholeOf 24 = .ok (.aload_n 0, 1) := by decide +kernel
theorem dX6_wholeOf_25 : decode cX6_wholeOf 25 = .ok (.invokevirtual 174, 3) := by decide +kernel
theorem dX6_wholeOf_28 : decode cX6_wholeOf 28 = .ok (.goto 7, 3) := by decide +kernel
theorem dX6_wholeOf_31 : decode cX6_wholeOf 31 = .ok (.aload_n 0, 1) := by decide +kernel
theorem dX6_wholeOf_32 : decode cX6_wholeOf 32 = .ok (.invokevirtual 190, 3) := by decide +kernel
theorem dX6_wholeOf_35 : decode cX6_wholeOf 35 = .ok (.ireturn, 1) := by decide +kernel
theorem dX6_wholeOf_36 : decode cX6_wholeOf 36 = .ok (.iload_n 1, 1) := by decide +kernel
theorem dX6_wholeOf_37 : decode cX6_wholeOf 37 = .ok (.bipush 15, 2) := by decide +kernel
theorem dX6_wholeOf_39 : decode cX6_wholeOf 39 = .ok (.if_icmp .ge 13, 3) := by decide +kernel
theorem dX6_wholeOf_42 : decode cX6_wholeOf 42 = .ok (.aload_n 0, 1) := by decide +kernel
theorem dX6_wholeOf_43 : decode cX6_wholeOf 43 = .ok (.iload_n 1, 1) := by decide +kernel
theorem dX6_wholeOf_44 : decode cX6_wholeOf 44 = .ok (.iconst 2, 1) := by decide +kernel
theorem dX6_wholeOf_45 : decode cX6_wholeOf 45 = .ok (.isub, 1) := by decide +kernel
theorem dX6_wholeOf_46 : decode cX6_wholeOf 46 = .ok (.invokevirtual 52, 3) := by decide +kernel
theorem dX6_wholeOf_49 : decode cX6_wholeOf 49 = .ok (.goto 26, 3) := by decide +kernel
theorem dX6_wholeOf_52 : decode cX6_wholeOf 52 = .ok (.iload_n 1, 1) := by decide +kernel
theorem dX6_wholeOf_53 : decode cX6_wholeOf 53 = .ok (.bipush 15, 2) := by decide +kernel
theorem dX6_wholeOf_55 : decode cX6_wholeOf 55 = .ok (.if_icmp .ne 16, 3) := by decide +kernel
theorem dX6_wholeOf_58 : decode cX6_wholeOf 58 = .ok (.aload_n 0, 1) := by decide +kernel
theorem dX6_wholeOf_59 : decode cX6_wholeOf 59 = .ok (.getfield 7, 3) := by decide +kernel
theorem dX6_wholeOf_62 : decode cX6_wholeOf 62 = .ok (.bipush 13, 2) := by decide +kernel
theorem dX6_wholeOf_64 : decode cX6_wholeOf 64 = .ok (.laload, 1) := by decide +kernel
theorem dX6_wholeOf_65 : decode cX6_wholeOf 65 = .ok (.invokestatic 120, 3) := by decide +kernel
theorem dX6_wholeOf_68 : decode cX6_wholeOf 68 = .ok (.goto 7, 3) := by decide +kernel
theorem dX6_wholeOf_71 : decode cX6_wholeOf 71 = .ok (.aload_n 0, 1) := by decide +kernel
theorem dX6_wholeOf_72 : decode cX6_wholeOf 72 = .ok (.getfield 202, 3) := by decide +kernel
theorem dX6_wholeOf_75 : decode cX6_wholeOf 75 = .ok (.ireturn, 1) := by decide +kernel
set_option maxRecDepth 20000 in
theorem ggX6_whole_X6_in : GoodIn wsX6_whole wsX6_in := goodIn_r _ [5] (by decide +kernel) (by decide +kernel)
set_option maxRecDepth 20000 in
theorem gX6_whole_X6_in : GoodIn wsX6_whole (va_wsS RX6 56 yX6_in wsX6_in) := goodIn_app (goodIn_of _ (by decide +kernel)) ggX6_whole_X6_in
set_option maxRecDepth 20000 in
theorem ggX6_whole_X6_wholeOf : GoodIn wsX6_whole wsX6_wholeOf := goodIn_r _ [9, 10, 11, 12, 13, 14, 4, 15, 16, 17, 18, 19, 20, 21, 22, 23, 24, 25, 26, 27, 28, 29, 30, 31, 32, 33, 34, 39, 40, 41, 42, 43, 44, 45, 46, 47, 48, 49, 50, 51, 52, 53] (by decide +kernel) (by decide +kernel)
set_option maxRecDepth 20000 in
theorem gX6_whole_X6_wholeOf : GoodIn wsX6_whole (wsV RX6 205 RX6 yX6_wholeOf wsX6_wholeOf) := goodIn_app (goodIn_of _ (by decide +kernel)) ggX6_whole_X6_wholeOf
set_option maxRecDepth 20000 in
theorem ggX6_whole_X6_fails : GoodIn wsX6_whole wsX6_fails := goodIn_r _ [38, 1, 39, 40, 41, 42, 43, 44, 45, 46, 47, 48, 49, 50, 51, 52, 53] (by decide +kernel) (by decide +kernel)
set_option maxRecDepth 20000 in
theorem gX6_whole_X6_fails : GoodIn wsX6_whole (wsV RX6 110 RX6 yX6_fails wsX6_fails) := goodIn_app (goodIn_of _ (by decide +kernel)) ggX6_whole_X6_fails
theorem dX6_whole_0 : decode cX6_whole 0 = .ok (.aload_n 0, 1) := by decide +kernel
theorem dX6_whole_1 : decode cX6_whole 1 = .ok (.iconst 0, 1) := by decide +kernel
theorem dX6_whole_2 : decode cX6_whole 2 = .ok (.putfield 48, 3) := by decide +kernel
theorem dX6_whole_5 : decode cX6_whole 5 = .ok (.iload_n 1, 1) := by decide +kernel
theorem dX6_whole_6 : decode cX6_whole 6 = .ok (.iconst 0, 1) := by decide +kernel
theorem dX6_whole_7 : decode cX6_whole 7 = .ok (.bipush 16, 2) := by decide +kernel
theorem dX6_whole_9 : decode cX6_whole 9 = .ok (.invokestatic 56, 3) := by decide +kernel
theorem dX6_whole_12 : decode cX6_whole 12 = .ok (.ifCond .eq 11, 3) := by decide +kernel
theorem dX6_whole_15 : decode cX6_whole 15 = .ok (.aload_n 0, 1) := by decide +kernel
theorem dX6_whole_16 : decode cX6_whole 16 = .ok (.iload_n 1, 1) := by decide +kernel
theorem dX6_whole_17 : decode cX6_whole 17 = .ok (.invokevirtual 205, 3) := by decide +kernel
theorem dX6_whole_20 : decode cX6_whole 20 = .ok (.goto 8, 3) := by decide +kernel
theorem dX6_whole_23 : decode cX6_whole 23 = .ok (.aload_n 0, 1) := by decide +kernel
theorem dX6_whole_24 : decode cX6_whole 24 = .ok (.iconst 1, 1) := by decide +kernel
theorem dX6_whole_25 : decode cX6_whole 25 = .ok (.invokevirtual 110, 3) := by decide +kernel
theorem dX6_whole_28 : decode cX6_whole 28 = .ok (.ireturn, 1) := by decide +kernel
set_option maxRecDepth 20000 in
theorem ggX6_faultOfDie_X6_part : GoodIn wsX6_faultOfDie wsX6_part := goodIn_r _ [6, 7, 1, 8, 9, 10, 5, 11, 12, 13, 14, 15, 16, 17, 18, 19, 52, 53, 54, 55, 56, 57, 58, 59, 60, 61, 62, 63, 64, 65, 66] (by decide +kernel) (by decide +kernel)
set_option maxRecDepth 20000 in
theorem gX6_faultOfDie_X6_part : GoodIn wsX6_faultOfDie (wsV RX6 85 RX6 yX6_part wsX6_part) := goodIn_app (goodIn_of _ (by decide +kernel)) ggX6_faultOfDie_X6_part
set_option maxRecDepth 20000 in
theorem ggX6_faultOfDie_X6_takenBy : GoodIn wsX6_faultOfDie wsX6_takenBy := goodIn_r _ [23, 12, 13, 14, 5, 15, 7, 24, 25, 26, 27, 28, 29, 30, 31, 16, 17, 18, 19, 52, 53, 54, 55, 56, 57, 58, 59, 60, 61, 62, 63, 64, 65, 66] (by decide +kernel) (by decide +kernel)
set_option maxRecDepth 20000 in
theorem gX6_faultOfDie_X6_takenBy : GoodIn wsX6_faultOfDie (wsV RX6 98 RX6 yX6_takenBy wsX6_takenBy) := goodIn_app (goodIn_of _ (by decide +kernel)) ggX6_faultOfDie_X6_takenBy
set_option maxRecDepth 20000 in
theorem ggX6_faultOfDie_X6_links : GoodIn wsX6_faultOfDie wsX6_links := goodIn_r _ [35, 7, 1, 8, 9, 10, 5, 11, 12, 13, 14, 15, 16, 17, 18, 19, 52, 53, 54, 55, 56, 57, 58, 59, 60, 61, 62, 63, 64, 65, 66] (by decide +kernel) (by decide +kernel)
set_option maxRecDepth 20000 in
theorem gX6_faultOfDie_X6_links : GoodIn wsX6_faultOfDie (wsV RX6 88 RX6 yX6_links wsX6_links) := goodIn_app (goodIn_of _ (by decide +kernel)) ggX6_faultOfDie_X6_links
set_option maxRecDepth 20000 in
theorem ggX6_faultOfDie_X6_carrier : GoodIn wsX6_faultOfDie wsX6_carrier := goodIn_r _ [11, 7, 12, 13, 14, 5, 15, 16, 17, 18, 19, 52, 53, 54, 55, 56, 57, 58, 59, 60, 61, 62, 63, 64, 65, 66] (by decide +kernel) (by decide +kernel)
set_option maxRecDepth 20000 in
theorem gX6_faultOfDie_X6_carrier : GoodIn wsX6_faultOfDie (wsV RX6 71 RX6 yX6_carrier wsX6_carrier) := goodIn_app (goodIn_of _ (by decide +kernel)) ggX6_faultOfDie_X6_carrier
set_option maxRecDepth 20000 in
theorem ggX6_faultOfDie_X6_standing : GoodIn wsX6_faultOfDie wsX6_standing := goodIn_r _ [39, 1, 40, 41, 42, 5, 43, 12, 13, 14, 15, 7, 16, 17, 18, 19, 2, 3, 4, 6, 8, 9, 10, 11, 32, 33, 34, 35, 20, 21, 22, 23, 24, 25, 26, 27, 28, 29, 30, 31, 52, 53, 54, 55, 56, 57, 58, 59, 60, 61, 62, 63, 64, 65, 66] (by decide +kernel) (by decide +kernel)
set_option maxRecDepth 20000 in
theorem gX6_faultOfDie_X6_standing : GoodIn wsX6_faultOfDie (wsV RX6 101 RX6 yX6_standing wsX6_standing) := goodIn_app (goodIn_of _ (by decide +kernel)) ggX6_faultOfDie_X6_standing
set_option maxRecDepth 20000 in
theorem ggX6_faultOfDie_X6_loose : GoodIn wsX6_faultOfDie wsX6_loose := goodIn_r _ [47, 1, 2, 3, 4, 5, 6, 7, 8, 9, 10, 11, 12, 13, 14, 15, 16, 17, 18, 19, 32, 33, 34, 35, 48, 49, 50, 51, 52, 53, 54, 55, 56, 57, 58, 59, 60, 61, 62, 63, 64, 65, 66] (by decide +kernel) (by decide +kernel)
set_option maxRecDepth 20000 in
theorem gX6_faultOfDie_X6_loose : GoodIn wsX6_faultOfDie (wsV RX6 104 RX6 yX6_loose wsX6_loose) := goodIn_app (goodIn_of _ (by decide +kernel)) ggX6_faultOfDie_X6_loose
theorem dX6_faultOfDie_0 : decode cX6_faultOfDie 0 = .ok (.aload_n 0, 1) := by decide +kernel
theorem dX6_faultOfDie_1 : decode cX6_faultOfDie 1 = .ok (.invokevirtual 85, 3) := by decide +kernel
theorem dX6_faultOfDie_4 : decode cX6_faultOfDie 4 = .ok (.lconst 0, 1) := by decide +kernel
theorem dX6_faultOfDie_5 : decode cX6_faultOfDie 5 = .ok (.lcmp, 1) := by decide +kernel
theorem dX6_faultOfDie_6 : decode cX6_faultOfDie 6 = .ok (.ifCond .ne 5, 3) := by decide +kernel
theorem dX6_faultOfDie_9 : decode cX6_faultOfDie 9 = .ok (.iconst 1, 1) := by decide +kernel
theorem dX6_faultOfDie_10 : decode cX6_faultOfDie 10 = .ok (.ireturn, 1) := by decide +kernel
theorem dX6_faultOfDie_11 : decode cX6_faultOfDie 11 = .ok (.aload_n 0, 1) := by decide +kernel
theorem dX6_faultOfDie_12 : decode cX6_faultOfDie 12 = .ok (.iconst 0, 1) := by decide +kernel
theorem dX6_faultOfDie_13 : decode cX6_faultOfDie 13 = .ok (.invokevirtual 98, 3) := by decide +kernel
theorem dX6_faultOfDie_16 : decode cX6_faultOfDie 16 = .ok (.aload_n 0, 1) := by decide +kernel
theorem dX6_faultOfDie_17 : decode cX6_faultOfDie 17 = .ok (.invokevirtual 85, 3) := by decide +kernel
theorem dX6_faultOfDie_20 : decode cX6_faultOfDie 20 = .ok (.aload_n 0, 1) := by decide +kernel
theorem dX6_faultOfDie_21 : decode cX6_faultOfDie 21 = .ok (.invokevirtual 88, 3) := by decide +kernel
theorem dX6_faultOfDie_24 : decode cX6_faultOfDie 24 = .ok (.lor, 1) := by decide +kernel
theorem dX6_faultOfDie_25 : decode cX6_faultOfDie 25 = .ok (.land, 1) := by decide +kernel
theorem dX6_faultOfDie_26 : decode cX6_faultOfDie 26 = .ok (.lconst 0, 1) := by decide +kernel
theorem dX6_faultOfDie_27 : decode cX6_faultOfDie 27 = .ok (.lcmp, 1) := by decide +kernel
theorem dX6_faultOfDie_28 : decode cX6_faultOfDie 28 = .ok (.ifCond .eq 5, 3) := by decide +kernel
theorem dX6_faultOfDie_31 : decode cX6_faultOfDie 31 = .ok (.iconst 2, 1) := by decide +kernel
theorem dX6_faultOfDie_32 : decode cX6_faultOfDie 32 = .ok (.ireturn, 1) := by decide +kernel
theorem dX6_faultOfDie_33 : decode cX6_faultOfDie 33 = .ok (.aload_n 0, 1) := by decide +kernel
theorem dX6_faultOfDie_34 : decode cX6_faultOfDie 34 = .ok (.iconst 0, 1) := by decide +kernel
theorem dX6_faultOfDie_35 : decode cX6_faultOfDie 35 = .ok (.invokevirtual 98, 3) := by decide +kernel
theorem dX6_faultOfDie_38 : decode cX6_faultOfDie 38 = .ok (.aload_n 0, 1) := by decide +kernel
theorem dX6_faultOfDie_39 : decode cX6_faultOfDie 39 = .ok (.invokevirtual 71, 3) := by decide +kernel
theorem dX6_faultOfDie_42 : decode cX6_faultOfDie 42 = .ok (.land, 1) := by decide +kernel
theorem dX6_faultOfDie_43 : decode cX6_faultOfDie 43 = .ok (.lconst 0, 1) := by decide +kernel
theorem dX6_faultOfDie_44 : decode cX6_faultOfDie 44 = .ok (.lcmp, 1) := by decide +kernel
theorem dX6_faultOfDie_45 : decode cX6_faultOfDie 45 = .ok (.ifCond .eq 5, 3) := by decide +kernel
theorem dX6_faultOfDie_48 : decode cX6_faultOfDie 48 = .ok (.iconst 3, 1) := by decide +kernel
theorem dX6_faultOfDie_49 : decode cX6_faultOfDie 49 = .ok (.ireturn, 1) := by decide +kernel
theorem dX6_faultOfDie_50 : decode cX6_faultOfDie 50 = .ok (.aload_n 0, 1) := by decide +kernel
theorem dX6_faultOfDie_51 : decode cX6_faultOfDie 51 = .ok (.iconst 1, 1) := by decide +kernel
theorem dX6_faultOfDie_52 : decode cX6_faultOfDie 52 = .ok (.invokevirtual 98, 3) := by decide +kernel
theorem dX6_faultOfDie_55 : decode cX6_faultOfDie 55 = .ok (.aload_n 0, 1) := by decide +kernel
theorem dX6_faultOfDie_56 : decode cX6_faultOfDie 56 = .ok (.invokevirtual 85, 3) := by decide +kernel
theorem dX6_faultOfDie_59 : decode cX6_faultOfDie 59 = .ok (.ldc2_w 75, 3) := by decide +kernel
theorem dX6_faultOfDie_62 : decode cX6_faultOfDie 62 = .ok (.lxor, 1) := by decide +kernel
theorem dX6_faultOfDie_63 : decode cX6_faultOfDie 63 = .ok (.land, 1) := by decide +kernel
theorem dX6_faultOfDie_64 : decode cX6_faultOfDie 64 = .ok (.lconst 0, 1) := by decide +kernel
theorem dX6_faultOfDie_65 : decode cX6_faultOfDie 65 = .ok (.lcmp, 1) := by decide +kernel
theorem dX6_faultOfDie_66 : decode cX6_faultOfDie 66 = .ok (.ifCond .eq 5, 3) := by decide +kernel
theorem dX6_faultOfDie_69 : decode cX6_faultOfDie 69 = .ok (.iconst 4, 1) := by decide +kernel
theorem dX6_faultOfDie_70 : decode cX6_faultOfDie 70 = .ok (.ireturn, 1) := by decide +kernel
theorem dX6_faultOfDie_71 : decode cX6_faultOfDie 71 = .ok (.aload_n 0, 1) := by decide +kernel
theorem dX6_faultOfDie_72 : decode cX6_faultOfDie 72 = .ok (.invokevirtual 101, 3) := by decide +kernel
theorem dX6_faultOfDie_75 : decode cX6_faultOfDie 75 = .ok (.lconst 0, 1) := by decide +kernel
theorem dX6_faultOfDie_76 : decode cX6_faultOfDie 76 = .ok (.lcmp, 1) := by decide +kernel
theorem dX6_faultOfDie_77 : decode cX6_faultOfDie 77 = .ok (.ifCond .eq 7, 3) := by decide +kernel
theorem dX6_faultOfDie_80 : decode cX6_faultOfDie 80 = .ok (.iconst 5, 1) := by decide +kernel
theorem dX6_faultOfDie_81 : decode cX6_faultOfDie 81 = .ok (.goto 18, 3) := by decide +kernel
theorem dX6_faultOfDie_84 : decode cX6_faultOfDie 84 = .ok (.aload_n 0, 1) := by decide +kernel
theorem dX6_faultOfDie_85 : decode cX6_faultOfDie 85 = .ok (.invokevirtual 104, 3) := by decide +kernel
theorem dX6_faultOfDie_88 : decode cX6_faultOfDie 88 = .ok (.lconst 0, 1) := by decide +kernel
theorem dX6_faultOfDie_89 : decode cX6_faultOfDie 89 = .ok (.lcmp, 1) := by decide +kernel
theorem dX6_faultOfDie_90 : decode cX6_faultOfDie 90 = .ok (.ifCond .eq 8, 3) := by decide +kernel
theorem dX6_faultOfDie_93 : decode cX6_faultOfDie 93 = .ok (.bipush 6, 2) := by decide +kernel
theorem dX6_faultOfDie_95 : decode cX6_faultOfDie 95 = .ok (.goto 4, 3) := by decide +kernel
theorem dX6_faultOfDie_98 : decode cX6_faultOfDie 98 = .ok (.iconst 0, 1) := by decide +kernel
theorem dX6_faultOfDie_99 : decode cX6_faultOfDie 99 = .ok (.ireturn, 1) := by decide +kernel
set_option maxRecDepth 20000 in
theorem ggX6_dieFault_X6_faultOfDie : GoodIn wsX6_dieFault wsX6_faultOfDie := goodIn_r _ [6, 7, 8, 9, 10, 5, 11, 12, 13, 14, 15, 16, 17, 18, 19, 20, 21, 22, 23, 24, 25, 26, 27, 28, 29, 30, 31, 32, 33, 34, 35, 36, 37, 38, 39, 40, 41, 42, 43, 44, 45, 46, 47, 48, 49, 50, 51, 52, 53, 54, 55, 56, 57, 58, 59, 60, 61, 62, 63, 64, 65, 66, 67, 68, 69, 70, 71] (by decide +kernel) (by decide +kernel)
set_option maxRecDepth 20000 in
theorem gX6_dieFault_X6_faultOfDie : GoodIn wsX6_dieFault (wsV RX6 208 RX6 yX6_faultOfDie wsX6_faultOfDie) := goodIn_app (goodIn_of _ (by decide +kernel)) ggX6_dieFault_X6_faultOfDie
theorem dX6_dieFault_0 : decode cX6_dieFault 0 = .ok (.aload_n 0, 1) := by decide +kernel
theorem dX6_dieFault_1 : decode cX6_dieFault 1 = .ok (.iconst 0, 1) := by decide +kernel
theorem dX6_dieFault_2 : decode cX6_dieFault 2 = .ok (.putfield 48, 3) := by decide +kernel
theorem dX6_dieFault_5 : decode cX6_dieFault 5 = .ok (.aload_n 0, 1) := by decide +kernel
theorem dX6_dieFault_6 : decode cX6_dieFault 6 = .ok (.invokevirtual 208, 3) := by decide +kernel
theorem dX6_dieFault_9 : decode cX6_dieFault 9 = .ok (.ireturn, 1) := by decide +kernel
set_option maxRecDepth 20000 in
theorem ggX6_planFault_X6_faultOfPlan : GoodIn wsX6_planFault wsX6_faultOfPlan := goodIn_r _ [6, 7, 8, 9, 5, 10, 11, 12, 13, 14, 15, 16, 17, 18, 19, 20, 21, 22, 23, 24, 25, 26, 27, 28, 29, 30, 31, 32, 33, 34, 35, 36, 37, 38, 39, 40, 41, 42, 43, 44, 45, 46, 47, 48, 49, 50, 51, 52, 53, 54, 55, 56, 57, 58, 59, 60, 61, 62, 63, 64, 65, 66] (by decide +kernel) (by decide +kernel)
set_option maxRecDepth 20000 in
theorem gX6_planFault_X6_faultOfPlan : GoodIn wsX6_planFault (wsV RX6 211 RX6 yX6_faultOfPlan wsX6_faultOfPlan) := goodIn_app (goodIn_of _ (by decide +kernel)) ggX6_planFault_X6_faultOfPlan
theorem dX6_planFault_0 : decode cX6_planFault 0 = .ok (.aload_n 0, 1) := by decide +kernel
theorem dX6_planFault_1 : decode cX6_planFault 1 = .ok (.iconst 0, 1) := by decide +kernel
theorem dX6_planFault_2 : decode cX6_planFault 2 = .ok (.putfield 48, 3) := by decide +kernel
theorem dX6_planFault_5 : decode cX6_planFault 5 = .ok (.aload_n 0, 1) := by decide +kernel
theorem dX6_planFault_6 : decode cX6_planFault 6 = .ok (.invokevirtual 211, 3) := by decide +kernel
theorem dX6_planFault_9 : decode cX6_planFault 9 = .ok (.ireturn, 1) := by decide +kernel
set_option maxRecDepth 20000 in
theorem ggX6_planned_X6_isOp : GoodIn wsX6_planned wsX6_isOp := goodIn_r _ [7, 8, 9, 10, 6, 11, 12, 13, 14, 15, 66, 67, 68, 69, 70, 71, 72, 73, 74, 75, 76, 77, 78, 79, 80] (by decide +kernel) (by decide +kernel)
set_option maxRecDepth 20000 in
theorem gX6_planned_X6_isOp : GoodIn wsX6_planned (wsV RX6 135 RX6 yX6_isOp wsX6_isOp) := goodIn_app (goodIn_of _ (by decide +kernel)) ggX6_planned_X6_isOp
set_option maxRecDepth 20000 in
theorem ggX6_planned_X6_fails : GoodIn wsX6_planned wsX6_fails := goodIn_r _ [19, 1, 66, 67, 68, 69, 70, 71, 72, 73, 74, 75, 76, 77, 78, 79, 80] (by decide +kernel) (by decide +kernel)
set_option maxRecDepth 20000 in
theorem gX6_planned_X6_fails : GoodIn wsX6_planned (wsV RX6 110 RX6 yX6_fails wsX6_fails) := goodIn_app (goodIn_of _ (by decide +kernel)) ggX6_planned_X6_fails
set_option maxRecDepth 20000 in
theorem ggX6_planned_X6_setting : GoodIn wsX6_planned wsX6_setting := goodIn_r _ [23, 12, 66, 67, 68, 69, 70, 71, 72, 73, 74, 75, 76, 77, 78, 79, 80] (by decide +kernel) (by decide +kernel)
set_option maxRecDepth 20000 in
theorem gX6_planned_X6_setting : GoodIn wsX6_planned (wsV RX6 128 RX6 yX6_setting wsX6_setting) := goodIn_app (goodIn_of _ (by decide +kernel)) ggX6_planned_X6_setting
set_option maxRecDepth 20000 in
theorem ggX6_planned_X6_plans : GoodIn wsX6_planned wsX6_plans := goodIn_r _ [27, 28, 8, 9, 10, 6, 11, 12, 29, 30, 31, 32, 33, 34, 35, 36, 37, 38, 39, 40, 41, 42, 43, 44, 45, 46, 47, 48, 49, 50, 51, 52, 53, 2, 54, 55, 56, 57, 58, 59, 60, 61, 62, 63, 64, 65, 20, 21, 22, 23, 66, 67, 68, 69, 70, 71, 72, 73, 74, 75, 76, 77, 78, 79, 80] (by decide +kernel) (by decide +kernel)
set_option maxRecDepth 20000 in
theorem gX6_planned_X6_plans : GoodIn wsX6_planned (wsV RX6 164 RX6 yX6_plans wsX6_plans) := goodIn_app (goodIn_of _ (by decide +kernel)) ggX6_planned_X6_plans
theorem dX6_planned_0 : decode cX6_planned 0 = .ok (.aload_n 0, 1) := by decide +kernel
theorem dX6_planned_1 : decode cX6_planned 1 = .ok (.iconst 0, 1) := by decide +kernel
theorem dX6_planned_2 : decode cX6_planned 2 = .ok (.putfield 48, 3) := by decide +kernel
theorem dX6_planned_5 : decode cX6_planned 5 = .ok (.iload_n 1, 1) := by decide +kernel
theorem dX6_planned_6 : decode cX6_planned 6 = .ok (.iconst (-1), 1) := by decide +kernel
theorem dX6_planned_7 : decode cX6_planned 7 = .ok (.if_icmp .eq 17, 3) := by decide +kernel
theorem dX6_planned_10 : decode cX6_planned 10 = .ok (.aload_n 0, 1) := by decide +kernel
theorem dX6_planned_11 : decode cX6_planned 11 = .ok (.iload_n 1, 1) := by decide +kernel
theorem dX6_planned_12 : decode cX6_planned 12 = .ok (.invokevirtual 135, 3) := by decide +kernel
theorem dX6_planned_15 : decode cX6_planned 15 = .ok (.ifCond .ne 9, 3) := by decide +kernel
theorem dX6_planned_18 : decode cX6_planned 18 = .ok (.aload_n 0, 1) := by decide +kernel
theorem dX6_planned_19 : decode cX6_planned 19 = .ok (.iconst 1, 1) := by decide +kernel
theorem dX6_planned_20 : decode cX6_planned 20 = .ok (.invokevirtual 110, 3) := by decide +kernel
theorem dX6_planned_23 : decode cX6_planned 23 = .ok (.ireturn, 1) := by decide +kernel
theorem dX6_planned_24 : decode cX6_planned 24 = .ok (.aload_n 0, 1) := by decide +kernel
theorem dX6_planned_25 : decode cX6_planned 25 = .ok (.aload_n 0, 1) := by decide +kernel
theorem dX6_planned_26 : decode cX6_planned 26 = .ok (.iconst 0, 1) := by decide +kernel
theorem dX6_planned_27 : decode cX6_planned 27 = .ok (.invokevirtual 128, 3) := by decide +kernel
theorem dX6_planned_30 : decode cX6_planned 30 = .ok (.invokevirtual 164, 3) := by decide +kernel
theorem dX6_planned_33 : decode cX6_planned 33 = .ok (.istore_n 2, 1) := by decide +kernel
theorem dX6_planned_34 : decode cX6_planned 34 = .ok (.iload_n 2, 1) := by decide +kernel
theorem dX6_planned_35 : decode cX6_planned 35 = .ok (.iconst (-1), 1) := by decide +kernel
theorem dX6_planned_36 : decode cX6_planned 36 = .ok (.if_icmp .eq 8, 3) := by decide +kernel
theorem dX6_planned_39 : decode cX6_planned 39 = .ok (.iload_n 1, 1) := by decide +kernel
theorem dX6_planned_40 : decode cX6_planned 40 = .ok (.iconst (-1), 1) := by decide +kernel
theorem dX6_planned_41 : decode cX6_planned 41 = .ok (.if_icmp .ne 7, 3) := by decide +kernel
theorem dX6_planned_44 : decode cX6_planned 44 = .ok (.iload_n 2, 1) := by decide +kernel
theorem dX6_planned_45 : decode cX6_planned 45 = .ok (.goto 9, 3) := by decide +kernel
theorem dX6_planned_48 : decode cX6_planned 48 = .ok (.aload_n 0, 1) := by decide +kernel
theorem dX6_planned_49 : decode cX6_planned 49 = .ok (.getfield 23, 3) := by decide +kernel
theorem dX6_planned_52 : decode cX6_planned 52 = .ok (.iload_n 1, 1) := by decide +kernel
theorem dX6_planned_53 : decode cX6_planned 53 = .ok (.iaload, 1) := by decide +kernel
theorem dX6_planned_54 : decode cX6_planned 54 = .ok (.ireturn, 1) := by decide +kernel
set_option maxRecDepth 20000 in
theorem ggX6_leastLimit_X6_plans : GoodIn wsX6_leastLimit wsX6_plans := goodIn_r _ [6, 7, 8, 9, 10, 5, 11, 12, 13, 14, 15, 16, 17, 18, 19, 20, 21, 22, 23, 24, 25, 26, 27, 28, 29, 30, 31, 32, 33, 34, 35, 36, 37, 38, 39, 40, 41, 42, 43, 44, 45, 46, 47, 48, 49, 50, 51, 52, 53, 54, 55, 56, 57, 58, 59, 60, 61, 62, 63, 64, 65, 66, 67, 68, 69] (by decide +kernel) (by decide +kernel)
set_option maxRecDepth 20000 in
theorem gX6_leastLimit_X6_plans : GoodIn wsX6_leastLimit (wsV RX6 164 RX6 yX6_plans wsX6_plans) := goodIn_app (goodIn_of _ (by decide +kernel)) ggX6_leastLimit_X6_plans
theorem dX6_leastLimit_0 : decode cX6_leastLimit 0 = .ok (.aload_n 0, 1) := by decide +kernel
theorem dX6_leastLimit_1 : decode cX6_leastLimit 1 = .ok (.iconst 0, 1) := by decide +kernel
theorem dX6_leastLimit_2 : decode cX6_leastLimit 2 = .ok (.putfield 48, 3) := by decide +kernel
theorem dX6_leastLimit_5 : decode cX6_leastLimit 5 = .ok (.aload_n 0, 1) := by decide +kernel
theorem dX6_leastLimit_6 : decode cX6_leastLimit 6 = .ok (.sipush 999, 3) := by decide +kernel
theorem dX6_leastLimit_9 : decode cX6_leastLimit 9 = .ok (.invokevirtual 164, 3) := by decide +kernel
theorem dX6_leastLimit_12 : decode cX6_leastLimit 12 = .ok (.iconst (-1), 1) := by decide +kernel
theorem dX6_leastLimit_13 : decode cX6_leastLimit 13 = .ok (.if_icmp .ne 5, 3) := by decide +kernel
theorem dX6_leastLimit_16 : decode cX6_leastLimit 16 = .ok (.iconst (-1), 1) := by decide +kernel
theorem dX6_leastLimit_17 : decode cX6_leastLimit 17 = .ok (.ireturn, 1) := by decide +kernel
theorem dX6_leastLimit_18 : decode cX6_leastLimit 18 = .ok (.iconst 1, 1) := by decide +kernel
theorem dX6_leastLimit_19 : decode cX6_leastLimit 19 = .ok (.istore_n 1, 1) := by decide +kernel
theorem dX6_leastLimit_20 : decode cX6_leastLimit 20 = .ok (.sipush 999, 3) := by decide +kernel
theorem dX6_leastLimit_23 : decode cX6_leastLimit 23 = .ok (.istore_n 2, 1) := by decide +kernel
theorem dX6_leastLimit_24 : decode cX6_leastLimit 24 = .ok (.iload_n 1, 1) := by decide +kernel
theorem dX6_leastLimit_25 : decode cX6_leastLimit 25 = .ok (.iload_n 2, 1) := by decide +kernel
theorem dX6_leastLimit_26 : decode cX6_leastLimit 26 = .ok (.if_icmp .ge 30, 3) := by decide +kernel
theorem dX6_leastLimit_29 : decode cX6_leastLimit 29 = .ok (.iload_n 1, 1) := by decide +kernel
theorem dX6_leastLimit_30 : decode cX6_leastLimit 30 = .ok (.iload_n 2, 1) := by decide +kernel
theorem dX6_leastLimit_31 : decode cX6_leastLimit 31 = .ok (.iadd, 1) := by decide +kernel
theorem dX6_leastLimit_32 : decode cX6_leastLimit 32 = .ok (.iconst 2, 1) := by decide +kernel
theorem dX6_leastLimit_33 : decode cX6_leastLimit 33 = .ok (.idiv, 1) := by decide +kernel
theorem dX6_leastLimit_34 : decode cX6_leastLimit 34 = .ok (.istore_n 3, 1) := by decide +kernel
theorem dX6_leastLimit_35 : decode cX6_leastLimit 35 = .ok (.aload_n 0, 1) := by decide +kernel
theorem dX6_leastLimit_36 : decode cX6_leastLimit 36 = .ok (.iload_n 3, 1) := by decide +kernel
theorem dX6_leastLimit_37 : decode cX6_leastLimit 37 = .ok (.invokevirtual 164, 3) := by decide +kernel
theorem dX6_leastLimit_40 : decode cX6_leastLimit 40 = .ok (.iconst (-1), 1) := by decide +kernel
theorem dX6_leastLimit_41 : decode cX6_leastLimit 41 = .ok (.if_icmp .ne 10, 3) := by decide +kernel
theorem dX6_leastLimit_44 : decode cX6_leastLimit 44 = .ok (.iload_n 3, 1) := by decide +kernel
theorem dX6_leastLimit_45 : decode cX6_leastLimit 45 = .ok (.iconst 1, 1) := by decide +kernel
theorem dX6_leastLimit_46 : decode cX6_leastLimit 46 = .ok (.iadd, 1) := by decide +kernel
theorem dX6_leastLimit_47 : decode cX6_leastLimit 47 = .ok (.istore_n 1, 1) := by decide +kernel
theorem dX6_leastLimit_48 : decode cX6_leastLimit 48 = .ok (.goto 5, 3) := by decide +kernel
theorem dX6_leastLimit_51 : decode cX6_leastLimit 51 = .ok (.iload_n 3, 1) := by decide +kernel
theorem dX6_leastLimit_52 : decode cX6_leastLimit 52 = .ok (.istore_n 2, 1) := by decide +kernel
theorem dX6_leastLimit_53 : decode cX6_leastLimit 53 = .ok (.goto (-29), 3) := by decide +kernel
theorem dX6_leastLimit_56 : decode cX6_leastLimit 56 = .ok (.iload_n 1, 1) := by decide +kernel
theorem dX6_leastLimit_57 : decode cX6_leastLimit 57 = .ok (.ireturn, 1) := by decide +kernel
set_option maxRecDepth 20000 in
theorem ggX6_fits_X6_part : GoodIn wsX6_fits wsX6_part := goodIn_r _ [5, 6, 7, 8, 9, 10, 4, 11, 12, 13, 14, 15, 16, 17, 18, 19, 24, 25, 26, 27, 28, 29, 30, 31, 32, 33, 34, 35, 36, 37, 38] (by decide +kernel) (by decide +kernel)
set_option maxRecDepth 20000 in
theorem gX6_fits_X6_part : GoodIn wsX6_fits (wsV RX6 85 RX6 yX6_part wsX6_part) := goodIn_app (goodIn_of _ (by decide +kernel)) ggX6_fits_X6_part
set_option maxRecDepth 20000 in
theorem ggX6_fits_X6_many : GoodIn wsX6_fits wsX6_many := goodIn_r _ [15, 6, 24, 25, 26, 27, 28, 29, 30, 31, 32, 33, 34, 35, 36, 37, 38] (by decide +kernel) (by decide +kernel)
set_option maxRecDepth 20000 in
theorem gX6_fits_X6_many : GoodIn wsX6_fits (wsV RX6 52 RX6 yX6_many wsX6_many) := goodIn_app (goodIn_of _ (by decide +kernel)) ggX6_fits_X6_many
set_option maxRecDepth 20000 in
theorem ggX6_fits_X6_carrier : GoodIn wsX6_fits wsX6_carrier := goodIn_r _ [11, 6, 12, 13, 14, 4, 15, 16, 17, 18, 19, 24, 25, 26, 27, 28, 29, 30, 31, 32, 33, 34, 35, 36, 37, 38] (by decide +kernel) (by decide +kernel)
set_option maxRecDepth 20000 in
theorem gX6_fits_X6_carrier : GoodIn wsX6_fits (wsV RX6 71 RX6 yX6_carrier wsX6_carrier) := goodIn_app (goodIn_of _ (by decide +kernel)) ggX6_fits_X6_carrier
set_option maxRecDepth 20000 in
theorem ggX6_fits_X6_grown : GoodIn wsX6_fits wsX6_grown := goodIn_r _ [23, 12, 13, 14, 4, 15, 6, 24, 25, 26, 27, 28, 29, 30, 31, 32, 33, 34, 35, 36, 37, 38] (by decide +kernel) (by decide +kernel)
set_option maxRecDepth 20000 in
theorem gX6_fits_X6_grown : GoodIn wsX6_fits (wsV RX6 91 RX6 yX6_grown wsX6_grown) := goodIn_app (goodIn_of _ (by decide +kernel)) ggX6_fits_X6_grown
theorem dX6_fits_0 : decode cX6_fits 0 = .ok (.aload_n 0, 1) := by decide +kernel
theorem dX6_fits_1 : decode cX6_fits 1 = .ok (.invokevirtual 85, 3) := by decide +kernel
theorem dX6_fits_4 : decode cX6_fits 4 = .ok (.lstore_n 1, 1) := by decide +kernel
theorem dX6_fits_5 : decode cX6_fits 5 = .ok (.lconst 0, 1) := by decide +kernel
theorem dX6_fits_6 : decode cX6_fits 6 = .ok (.lstore_n 3, 1) := by decide +kernel
theorem dX6_fits_7 : decode cX6_fits 7 = .ok (.aload_n 0, 1) := by decide +kernel
theorem dX6_fits_8 : decode cX6_fits 8 = .ok (.iconst 0, 1) := by decide +kernel
theorem dX6_fits_9 : decode cX6_fits 9 = .ok (.invokevirtual 52, 3) := by decide +kernel
theorem dX6_fits_12 : decode cX6_fits 12 = .ok (.aload_n 0, 1) := by decide +kernel
theorem dX6_fits_13 : decode cX6_fits 13 = .ok (.iconst 1, 1) := by decide +kernel
theorem dX6_fits_14 : decode cX6_fits 14 = .ok (.invokevirtual 52, 3) := by decide +kernel
theorem dX6_fits_17 : decode cX6_fits 17 = .ok (.imul, 1) := by decide +kernel
theorem dX6_fits_18 : decode cX6_fits 18 = .ok (.istore 5, 2) := by decide +kernel
theorem dX6_fits_20 : decode cX6_fits 20 = .ok (.iconst 0, 1) := by decide +kernel
theorem dX6_fits_21 : decode cX6_fits 21 = .ok (.istore 6, 2) := by decide +kernel
theorem dX6_fits_23 : decode cX6_fits 23 = .ok (.iload 6, 2) := by decide +kernel
theorem dX6_fits_25 : decode cX6_fits 25 = .ok (.iload 5, 2) := by decide +kernel
theorem dX6_fits_27 : decode cX6_fits 27 = .ok (.if_icmp .ge 36, 3) := by decide +kernel
theorem dX6_fits_30 : decode cX6_fits 30 = .ok (.lload_n 3, 1) := by decide +kernel
theorem dX6_fits_31 : decode cX6_fits 31 = .ok (.lload_n 1, 1) := by decide +kernel
theorem dX6_fits_32 : decode cX6_fits 32 = .ok (.iload 6, 2) := by decide +kernel
theorem dX6_fits_34 : decode cX6_fits 34 = .ok (.lshr, 1) := by decide +kernel
theorem dX6_fits_35 : decode cX6_fits 35 = .ok (.lconst 1, 1) := by decide +kernel
theorem dX6_fits_36 : decode cX6_fits 36 = .ok (.land, 1) := by decide +kernel
theorem dX6_fits_37 : decode cX6_fits 37 = .ok (.lconst 1, 1) := by decide +kernel
theorem dX6_fits_38 : decode cX6_fits 38 = .ok (.lcmp, 1) := by decide +kernel
theorem dX6_fits_39 : decode cX6_fits 39 = .ok (.ifCond .ne 15, 3) := by decide +kernel
theorem dX6_fits_42 : decode cX6_fits 42 = .ok (.lconst 1, 1) := by decide +kernel
theorem dX6_fits_43 : decode cX6_fits 43 = .ok (.iload 5, 2) := by decide +kernel
theorem dX6_fits_45 : decode cX6_fits 45 = .ok (.iconst 1, 1) := by decide +kernel
theorem dX6_fits_46 : decode cX6_fits 46 = .ok (.isub, 1) := by decide +kernel
theorem dX6_fits_47 : decode cX6_fits 47 = .ok (.iload 6, 2) := by decide +kernel
theorem dX6_fits_49 : decode cX6_fits 49 = .ok (.isub, 1) := by decide +kernel
theorem dX6_fits_50 : decode cX6_fits 50 = .ok (.lshl, 1) := by decide +kernel
theorem dX6_fits_51 : decode cX6_fits 51 = .ok (.goto 4, 3) := by decide +kernel
theorem dX6_fits_54 : decode cX6_fits 54 = .ok (.lconst 0, 1) := by decide +kernel
theorem dX6_fits_55 : decode cX6_fits 55 = .ok (.lor, 1) := by decide +kernel
theorem dX6_fits_56 : decode cX6_fits 56 = .ok (.lstore_n 3, 1) := by decide +kernel
theorem dX6_fits_57 : decode cX6_fits 57 = .ok (.iinc 6 1, 3) := by decide +kernel
theorem dX6_fits_60 : decode cX6_fits 60 = .ok (.goto (-37), 3) := by decide +kernel
theorem dX6_fits_63 : decode cX6_fits 63 = .ok (.lload_n 1, 1) := by decide +kernel
theorem dX6_fits_64 : decode cX6_fits 64 = .ok (.lconst 0, 1) := by decide +kernel
theorem dX6_fits_65 : decode cX6_fits 65 = .ok (.lcmp, 1) := by decide +kernel
theorem dX6_fits_66 : decode cX6_fits 66 = .ok (.ifCond .eq 24, 3) := by decide +kernel
theorem dX6_fits_69 : decode cX6_fits 69 = .ok (.lload_n 3, 1) := by decide +kernel
theorem dX6_fits_70 : decode cX6_fits 70 = .ok (.aload_n 0, 1) := by decide +kernel
theorem dX6_fits_71 : decode cX6_fits 71 = .ok (.invokevirtual 71, 3) := by decide +kernel
theorem dX6_fits_74 : decode cX6_fits 74 = .ok (.aload_n 0, 1) := by decide +kernel
theorem dX6_fits_75 : decode cX6_fits 75 = .ok (.lload_n 1, 1) := by decide +kernel
theorem dX6_fits_76 : decode cX6_fits 76 = .ok (.invokevirtual 91, 3) := by decide +kernel
theorem dX6_fits_79 : decode cX6_fits 79 = .ok (.lor, 1) := by decide +kernel
theorem dX6_fits_80 : decode cX6_fits 80 = .ok (.land, 1) := by decide +kernel
theorem dX6_fits_81 : decode cX6_fits 81 = .ok (.lconst 0, 1) := by decide +kernel
theorem dX6_fits_82 : decode cX6_fits 82 = .ok (.lcmp, 1) := by decide +kernel
theorem dX6_fits_83 : decode cX6_fits 83 = .ok (.ifCond .ne 7, 3) := by decide +kernel
theorem dX6_fits_86 : decode cX6_fits 86 = .ok (.iconst 1, 1) := by decide +kernel
theorem dX6_fits_87 : decode cX6_fits 87 = .ok (.goto 4, 3) := by decide +kernel
theorem dX6_fits_90 : decode cX6_fits 90 = .ok (.iconst 0, 1) := by decide +kernel
theorem dX6_fits_91 : decode cX6_fits 91 = .ok (.ireturn, 1) := by decide +kernel
set_option maxRecDepth 20000 in
theorem ggX6_fitsTwice_X6_fits : GoodIn wsX6_fitsTwice wsX6_fits := goodIn_r _ [6, 7, 8, 9, 5, 10, 11, 12, 13, 14, 15, 16, 17, 18, 19, 20, 21, 22, 23, 24, 25, 26, 27, 28, 29, 30, 31, 32, 33, 34, 35, 36, 37, 38, 39, 40, 41, 42, 43] (by decide +kernel) (by decide +kernel)
set_option maxRecDepth 20000 in
theorem gX6_fitsTwice_X6_fits : GoodIn wsX6_fitsTwice (wsV RX6 214 RX6 yX6_fits wsX6_fits) := goodIn_app (goodIn_of _ (by decide +kernel)) ggX6_fitsTwice_X6_fits
theorem dX6_fitsTwice_0 : decode cX6_fitsTwice 0 = .ok (.aload_n 0, 1) := by decide +kernel
theorem dX6_fitsTwice_1 : decode cX6_fitsTwice 1 = .ok (.iconst 0, 1) := by decide +kernel
theorem dX6_fitsTwice_2 : decode cX6_fitsTwice 2 = .ok (.putfield 48, 3) := by decide +kernel
theorem dX6_fitsTwice_5 : decode cX6_fitsTwice 5 = .ok (.aload_n 0, 1) := by decide +kernel
theorem dX6_fitsTwice_6 : decode cX6_fitsTwice 6 = .ok (.invokevirtual 214, 3) := by decide +kernel
theorem dX6_fitsTwice_9 : decode cX6_fitsTwice 9 = .ok (.ireturn, 1) := by decide +kernel
set_option maxRecDepth 20000 in
theorem ggX6_scrapOf_X6_many : GoodIn wsX6_scrapOf wsX6_many := goodIn_r _ [5, 6, 31, 32, 33, 34, 35, 36, 37, 38, 39, 40, 41, 42, 43, 44, 45] (by decide +kernel) (by decide +kernel)
set_option maxRecDepth 20000 in
theorem gX6_scrapOf_X6_many : GoodIn wsX6_scrapOf (wsV RX6 52 RX6 yX6_many wsX6_many) := goodIn_app (goodIn_of _ (by decide +kernel)) ggX6_scrapOf_X6_many
set_option maxRecDepth 20000 in
theorem ggX6_scrapOf_X6_fits : GoodIn wsX6_scrapOf wsX6_fits := goodIn_r _ [10, 11, 12, 13, 4, 14, 6, 15, 16, 17, 18, 19, 1, 2, 3, 5, 20, 21, 22, 23, 24, 25, 26, 27, 31, 32, 33, 34, 35, 36, 37, 38, 39, 40, 41, 42, 43, 44, 45] (by decide +kernel) (by decide +kernel)
set_option maxRecDepth 20000 in
theorem gX6_scrapOf_X6_fits : GoodIn wsX6_scrapOf (wsV RX6 214 RX6 yX6_fits wsX6_fits) := goodIn_app (goodIn_of _ (by decide +kernel)) ggX6_scrapOf_X6_fits
set_option maxRecDepth 20000 in
theorem ggX6_scrapOf_X6_part : GoodIn wsX6_scrapOf wsX6_part := goodIn_r _ [14, 6, 15, 16, 17, 18, 4, 19, 1, 2, 3, 5, 20, 21, 22, 23, 31, 32, 33, 34, 35, 36, 37, 38, 39, 40, 41, 42, 43, 44, 45] (by decide +kernel) (by decide +kernel)
set_option maxRecDepth 20000 in
theorem gX6_scrapOf_X6_part : GoodIn wsX6_scrapOf (wsV RX6 85 RX6 yX6_part wsX6_part) := goodIn_app (goodIn_of _ (by decide +kernel)) ggX6_scrapOf_X6_part
set_option maxRecDepth 20000 in
theorem ggX6_scrapOf_X6_ones : GoodIn wsX6_scrapOf wsX6_ones := goodIn_r _ [30] (by decide +kernel) (by decide +kernel)
set_option maxRecDepth 20000 in
theorem gX6_scrapOf_X6_ones : GoodIn wsX6_scrapOf (va_wsS RX6 120 yX6_ones wsX6_ones) := goodIn_app (goodIn_of _ (by decide +kernel)) ggX6_scrapOf_X6_ones
theorem dX6_scrapOf_0 : decode cX6_scrapOf 0 = .ok (.aload_n 0, 1) := by decide +kernel
theorem dX6_scrapOf_1 : decode cX6_scrapOf 1 = .ok (.iconst 0, 1) := by decide +kernel
theorem dX6_scrapOf_2 : decode cX6_scrapOf 2 = .ok (.invokevirtual 52, 3) := by decide +kernel
theorem dX6_scrapOf_5 : decode cX6_scrapOf 5 = .ok (.aload_n 0, 1) := by decide +kernel
theorem dX6_scrapOf_6 : decode cX6_scrapOf 6 = .ok (.iconst 1, 1) := by decide +kernel
theorem dX6_scrapOf_7 : decode cX6_scrapOf 7 = .ok (.invokevirtual 52, 3) := by decide +kernel
theorem dX6_scrapOf_10 : decode cX6_scrapOf 10 = .ok (.imul, 1) := by decide +kernel
theorem dX6_scrapOf_11 : decode cX6_scrapOf 11 = .ok (.istore_n 2, 1) := by decide +kernel
theorem dX6_scrapOf_12 : decode cX6_scrapOf 12 = .ok (.iload_n 1, 1) := by decide +kernel
theorem dX6_scrapOf_13 : decode cX6_scrapOf 13 = .ok (.ifCond .eq 23, 3) := by decide +kernel
theorem dX6_scrapOf_16 : decode cX6_scrapOf 16 = .ok (.aload_n 0, 1) := by decide +kernel
theorem dX6_scrapOf_17 : decode cX6_scrapOf 17 = .ok (.invokevirtual 214, 3) := by decide +kernel
theorem dX6_scrapOf_20 : decode cX6_scrapOf 20 = .ok (.iconst 1, 1) := by decide +kernel
theorem dX6_scrapOf_21 : decode cX6_scrapOf 21 = .ok (.if_icmp .ne 15, 3) := by decide +kernel
theorem dX6_scrapOf_24 : decode cX6_scrapOf 24 = .ok (.iconst 2, 1) := by decide +kernel
theorem dX6_scrapOf_25 : decode cX6_scrapOf 25 = .ok (.aload_n 0, 1) := by decide +kernel
theorem dX6_scrapOf_26 : decode cX6_scrapOf 26 = .ok (.invokevirtual 85, 3) := by decide +kernel
theorem dX6_scrapOf_29 : decode cX6_scrapOf 29 = .ok (.invokestatic 120, 3) := by decide +kernel
theorem dX6_scrapOf_32 : decode cX6_scrapOf 32 = .ok (.imul, 1) := by decide +kernel
theorem dX6_scrapOf_33 : decode cX6_scrapOf 33 = .ok (.goto 10, 3) := by decide +kernel
theorem dX6_scrapOf_36 : decode cX6_scrapOf 36 = .ok (.aload_n 0, 1) := by decide +kernel
theorem dX6_scrapOf_37 : decode cX6_scrapOf 37 = .ok (.invokevirtual 85, 3) := by decide +kernel
theorem dX6_scrapOf_40 : decode cX6_scrapOf 40 = .ok (.invokestatic 120, 3) := by decide +kernel
theorem dX6_scrapOf_43 : decode cX6_scrapOf 43 = .ok (.istore_n 3, 1) := by decide +kernel
theorem dX6_scrapOf_44 : decode cX6_scrapOf 44 = .ok (.sipush 1000, 3) := by decide +kernel
theorem dX6_scrapOf_47 : decode cX6_scrapOf 47 = .ok (.iload_n 2, 1) := by decide +kernel
theorem dX6_scrapOf_48 : decode cX6_scrapOf 48 = .ok (.iload_n 3, 1) := by decide +kernel
theorem dX6_scrapOf_49 : decode cX6_scrapOf 49 = .ok (.isub, 1) := by decide +kernel
theorem dX6_scrapOf_50 : decode cX6_scrapOf 50 = .ok (.imul, 1) := by decide +kernel
theorem dX6_scrapOf_51 : decode cX6_scrapOf 51 = .ok (.iload_n 2, 1) := by decide +kernel
theorem dX6_scrapOf_52 : decode cX6_scrapOf 52 = .ok (.idiv, 1) := by decide +kernel
theorem dX6_scrapOf_53 : decode cX6_scrapOf 53 = .ok (.ireturn, 1) := by decide +kernel
set_option maxRecDepth 20000 in
theorem ggX6_scrap_X6_scrapOf : GoodIn wsX6_scrap wsX6_scrapOf := goodIn_r _ [6, 7, 8, 9, 5, 10, 11, 12, 13, 14, 15, 16, 17, 18, 19, 20, 21, 22, 23, 24, 25, 26, 27, 28, 29, 30, 31, 32, 33, 34, 35, 36, 37, 38, 39, 40, 41, 42, 43, 44, 45, 46, 47, 48, 49, 50] (by decide +kernel) (by decide +kernel)
set_option maxRecDepth 20000 in
theorem gX6_scrap_X6_scrapOf : GoodIn wsX6_scrap (wsV RX6 217 RX6 yX6_scrapOf wsX6_scrapOf) := goodIn_app (goodIn_of _ (by decide +kernel)) ggX6_scrap_X6_scrapOf
theorem dX6_scrap_0 : decode cX6_scrap 0 = .ok (.aload_n 0, 1) := by decide +kernel
theorem dX6_scrap_1 : decode cX6_scrap 1 = .ok (.iconst 0, 1) := by decide +kernel
theorem dX6_scrap_2 : decode cX6_scrap 2 = .ok (.putfield 48, 3) := by decide +kernel
theorem dX6_scrap_5 : decode cX6_scrap 5 = .ok (.aload_n 0, 1) := by decide +kernel
theorem dX6_scrap_6 : decode cX6_scrap 6 = .ok (.iload_n 1, 1) := by decide +kernel
theorem dX6_scrap_7 : decode cX6_scrap 7 = .ok (.invokevirtual 217, 3) := by decide +kernel
theorem dX6_scrap_10 : decode cX6_scrap 10 = .ok (.ireturn, 1) := by decide +kernel
set_option maxRecDepth 20000 in
theorem ggX6_strokesToGood_X6_strokes : GoodIn wsX6_strokesToGood wsX6_strokes := goodIn_r _ [8, 3, 9, 10, 11, 7, 12, 13, 14, 15, 16, 17, 18, 19, 20, 21, 22, 23, 24, 25, 26, 27, 28, 29, 30, 31, 32, 33, 34, 35, 36, 37, 38, 39, 40, 41, 42, 43, 44, 45, 46, 47, 48, 49, 50, 51, 52, 53, 54, 55, 56, 57, 58, 59, 60, 61, 62, 63, 64, 65, 66, 67, 68, 69, 70, 71, 72, 73, 74, 75, 76, 77, 78, 79, 80, 81, 82, 83, 84, 85, 86, 87, 88, 89, 90, 91] (by decide +kernel) (by decide +kernel)
set_option maxRecDepth 20000 in
theorem gX6_strokesToGood_X6_strokes : GoodIn wsX6_strokesToGood (wsV RX6 187 RX6 yX6_strokes wsX6_strokes) := goodIn_app (goodIn_of _ (by decide +kernel)) ggX6_strokesToGood_X6_strokes
theorem dX6_strokesToGood_0 : decode cX6_strokesToGood 0 = .ok (.aload_n 0, 1) := by decide +kernel
theorem dX6_strokesToGood_1 : decode cX6_strokesToGood 1 = .ok (.iconst 0, 1) := by decide +kernel
theorem dX6_strokesToGood_2 : decode cX6_strokesToGood 2 = .ok (.putfield 48, 3) := by decide +kernel
theorem dX6_strokesToGood_5 : decode cX6_strokesToGood 5 = .ok (.iconst 0, 1) := by decide +kernel
theorem dX6_strokesToGood_6 : decode cX6_strokesToGood 6 = .ok (.istore_n 1, 1) := by decide +kernel
theorem dX6_strokesToGood_7 : decode cX6_strokesToGood 7 = .ok (.iload_n 1, 1) := by decide +kernel
theorem dX6_strokesToGood_8 : decode cX6_strokesToGood 8 = .ok (.bipush 100, 2) := by decide +kernel
theorem dX6_strokesToGood_10 : decode cX6_strokesToGood 10 = .ok (.if_icmp .ge 21, 3) := by decide +kernel
theorem dX6_strokesToGood_13 : decode cX6_strokesToGood 13 = .ok (.aload_n 0, 1) := by decide +kernel
theorem dX6_strokesToGood_14 : decode cX6_strokesToGood 14 = .ok (.getfield 16, 3) := by decide +kernel
theorem dX6_strokesToGood_17 : decode cX6_strokesToGood 17 = .ok (.iload_n 1, 1) := by decide +kernel
theorem dX6_strokesToGood_18 : decode cX6_strokesToGood 18 = .ok (.aload_n 0, 1) := by decide +kernel
theorem dX6_strokesToGood_19 : decode cX6_strokesToGood 19 = .ok (.getfield 7, 3) := by decide +kernel
theorem dX6_strokesToGood_22 : decode cX6_strokesToGood 22 = .ok (.iload_n 1, 1) := by decide +kernel
theorem dX6_strokesToGood_23 : decode cX6_strokesToGood 23 = .ok (.laload, 1) := by decide +kernel
theorem dX6_strokesToGood_24 : decode cX6_strokesToGood 24 = .ok (.lastore, 1) := by decide +kernel
theorem dX6_strokesToGood_25 : decode cX6_strokesToGood 25 = .ok (.iinc 1 1, 3) := by decide +kernel
theorem dX6_strokesToGood_28 : decode cX6_strokesToGood 28 = .ok (.goto (-21), 3) := by decide +kernel
theorem dX6_strokesToGood_31 : decode cX6_strokesToGood 31 = .ok (.iconst (-1), 1) := by decide +kernel
theorem dX6_strokesToGood_32 : decode cX6_strokesToGood 32 = .ok (.istore_n 1, 1) := by decide +kernel
theorem dX6_strokesToGood_33 : decode cX6_strokesToGood 33 = .ok (.iconst 1, 1) := by decide +kernel
theorem dX6_strokesToGood_34 : decode cX6_strokesToGood 34 = .ok (.istore_n 2, 1) := by decide +kernel
theorem dX6_strokesToGood_35 : decode cX6_strokesToGood 35 = .ok (.iload_n 2, 1) := by decide +kernel
theorem dX6_strokesToGood_36 : decode cX6_strokesToGood 36 = .ok (.bipush 60, 2) := by decide +kernel
theorem dX6_strokesToGood_38 : decode cX6_strokesToGood 38 = .ok (.if_icmp .gt 43, 3) := by decide +kernel
theorem dX6_strokesToGood_41 : decode cX6_strokesToGood 41 = .ok (.iload_n 1, 1) := by decide +kernel
theorem dX6_strokesToGood_42 : decode cX6_strokesToGood 42 = .ok (.iconst (-1), 1) := by decide +kernel
theorem dX6_strokesToGood_43 : decode cX6_strokesToGood 43 = .ok (.if_icmp .ne 38, 3) := by decide +kernel
theorem dX6_strokesToGood_46 : decode cX6_strokesToGood 46 = .ok (.aload_n 0, 1) := by decide +kernel
theorem dX6_strokesToGood_47 : decode cX6_strokesToGood 47 = .ok (.invokevirtual 187, 3) := by decide +kernel
theorem dX6_strokesToGood_50 : decode cX6_strokesToGood 50 = .ok (.pop, 1) := by decide +kernel
theorem dX6_strokesToGood_51 : decode cX6_strokesToGood 51 = .ok (.aload_n 0, 1) := by decide +kernel
theorem dX6_strokesToGood_52 : decode cX6_strokesToGood 52 = .ok (.getfield 7, 3) := by decide +kernel
theorem dX6_strokesToGood_55 : decode cX6_strokesToGood 55 = .ok (.bipush 10, 2) := by decide +kernel
theorem dX6_strokesToGood_57 : decode cX6_strokesToGood 57 = .ok (.laload, 1) := by decide +kernel
theorem dX6_strokesToGood_58 : decode cX6_strokesToGood 58 = .ok (.aload_n 0, 1) := by decide +kernel
theorem dX6_strokesToGood_59 : decode cX6_strokesToGood 59 = .ok (.getfield 16, 3) := by decide +kernel
theorem dX6_strokesToGood_62 : decode cX6_strokesToGood 62 = .ok (.bipush 10, 2) := by decide +kernel
theorem dX6_strokesToGood_64 : decode cX6_strokesToGood 64 = .ok (.laload, 1) := by decide +kernel
theorem dX6_strokesToGood_65 : decode cX6_strokesToGood 65 = .ok (.lcmp, 1) := by decide +kernel
theorem dX6_strokesToGood_66 : decode cX6_strokesToGood 66 = .ok (.ifCond .le 7, 3) := by decide +kernel
theorem dX6_strokesToGood_69 : decode cX6_strokesToGood 69 = .ok (.iload_n 2, 1) := by decide +kernel
theorem dX6_strokesToGood_70 : decode cX6_strokesToGood 70 = .ok (.goto 4, 3) := by decide +kernel
theorem dX6_strokesToGood_73 : decode cX6_strokesToGood 73 = .ok (.iconst (-1), 1) := by decide +kernel
theorem dX6_strokesToGood_74 : decode cX6_strokesToGood 74 = .ok (.istore_n 1, 1) := by decide +kernel
theorem dX6_strokesToGood_75 : decode cX6_strokesToGood 75 = .ok (.iinc 2 1, 3) := by decide +kernel
theorem dX6_strokesToGood_78 : decode cX6_strokesToGood 78 = .ok (.goto (-43), 3) := by decide +kernel
theorem dX6_strokesToGood_81 : decode cX6_strokesToGood 81 = .ok (.iconst 0, 1) := by decide +kernel
theorem dX6_strokesToGood_82 : decode cX6_strokesToGood 82 = .ok (.istore_n 2, 1) := by decide +kernel
theorem dX6_strokesToGood_83 : decode cX6_strokesToGood 83 = .ok (.iload_n 2, 1) := by decide +kernel
theorem dX6_strokesToGood_84 : decode cX6_strokesToGood 84 = .ok (.bipush 100, 2) := by decide +kernel
theorem dX6_strokesToGood_86 : decode cX6_strokesToGood 86 = .ok (.if_icmp .ge 21, 3) := by decide +kernel
theorem dX6_strokesToGood_89 : decode cX6_strokesToGood 89 = .ok (.aload_n 0, 1) := by decide +kernel
theorem dX6_strokesToGood_90 : decode cX6_strokesToGood 90 = .ok (.getfield 7, 3) := by decide +kernel
theorem dX6_strokesToGood_93 : decode cX6_strokesToGood 93 = .ok (.iload_n 2, 1) := by decide +kernel
theorem dX6_strokesToGood_94 : decode cX6_strokesToGood 94 = .ok (.aload_n 0, 1) := by decide +kernel
theorem dX6_strokesToGood_95 : decode cX6_strokesToGood 95 = .ok (.getfield 16, 3) := by decide +kernel
theorem dX6_strokesToGood_98 : decode cX6_strokesToGood 98 = .ok (.iload_n 2, 1) := by decide +kernel
theorem dX6_strokesToGood_99 : decode cX6_strokesToGood 99 = .ok (.laload, 1) := by decide +kernel
theorem dX6_strokesToGood_100 : decode cX6_strokesToGood 100 = .ok (.lastore, 1) := by decide +kernel
theorem dX6_strokesToGood_101 : decode cX6_strokesToGood 101 = .ok (.iinc 2 1, 3) := by decide +kernel
theorem dX6_strokesToGood_104 : decode cX6_strokesToGood 104 = .ok (.goto (-21), 3) := by decide +kernel
theorem dX6_strokesToGood_107 : decode cX6_strokesToGood 107 = .ok (.iload_n 1, 1) := by decide +kernel
theorem dX6_strokesToGood_108 : decode cX6_strokesToGood 108 = .ok (.ireturn, 1) := by decide +kernel
set_option maxRecDepth 20000 in
theorem ggX6_type_X6_in : GoodIn wsX6_type wsX6_in := goodIn_r _ [7] (by decide +kernel) (by decide +kernel)
set_option maxRecDepth 20000 in
theorem gX6_type_X6_in : GoodIn wsX6_type (va_wsS RX6 56 yX6_in wsX6_in) := goodIn_app (goodIn_of _ (by decide +kernel)) ggX6_type_X6_in
set_option maxRecDepth 20000 in
theorem ggX6_type_X6_fails : GoodIn wsX6_type wsX6_fails := goodIn_r _ [11, 1, 12, 13, 14, 15, 16, 17, 18, 19, 20, 21, 22, 23, 24, 25, 26] (by decide +kernel) (by decide +kernel)
set_option maxRecDepth 20000 in
theorem gX6_type_X6_fails : GoodIn wsX6_type (wsV RX6 110 RX6 yX6_fails wsX6_fails) := goodIn_app (goodIn_of _ (by decide +kernel)) ggX6_type_X6_fails
theorem dX6_type_0 : decode cX6_type 0 = .ok (.aload_n 0, 1) := by decide +kernel
theorem dX6_type_1 : decode cX6_type 1 = .ok (.iconst 0, 1) := by decide +kernel
theorem dX6_type_2 : decode cX6_type 2 = .ok (.putfield 48, 3) := by decide +kernel
theorem dX6_type_5 : decode cX6_type 5 = .ok (.iload_n 1, 1) := by decide +kernel
theorem dX6_type_6 : decode cX6_type 6 = .ok (.iconst 0, 1) := by decide +kernel
theorem dX6_type_7 : decode cX6_type 7 = .ok (.bipush 127, 2) := by decide +kernel
theorem dX6_type_9 : decode cX6_type 9 = .ok (.invokestatic 56, 3) := by decide +kernel
theorem dX6_type_12 : decode cX6_type 12 = .ok (.ifCond .ne 9, 3) := by decide +kernel
theorem dX6_type_15 : decode cX6_type 15 = .ok (.aload_n 0, 1) := by decide +kernel
theorem dX6_type_16 : decode cX6_type 16 = .ok (.iconst 1, 1) := by decide +kernel
theorem dX6_type_17 : decode cX6_type 17 = .ok (.invokevirtual 110, 3) := by decide +kernel
theorem dX6_type_20 : decode cX6_type 20 = .ok (.ireturn, 1) := by decide +kernel
theorem dX6_type_21 : decode cX6_type 21 = .ok (.aload_n 0, 1) := by decide +kernel
theorem dX6_type_22 : decode cX6_type 22 = .ok (.getfield 202, 3) := by decide +kernel
theorem dX6_type_25 : decode cX6_type 25 = .ok (.sipush 150, 3) := by decide +kernel
theorem dX6_type_28 : decode cX6_type 28 = .ok (.if_icmp .ne 9, 3) := by decide +kernel
theorem dX6_type_31 : decode cX6_type 31 = .ok (.aload_n 0, 1) := by decide +kernel
theorem dX6_type_32 : decode cX6_type 32 = .ok (.iconst 2, 1) := by decide +kernel
theorem dX6_type_33 : decode cX6_type 33 = .ok (.invokevirtual 110, 3) := by decide +kernel
theorem dX6_type_36 : decode cX6_type 36 = .ok (.ireturn, 1) := by decide +kernel
theorem dX6_type_37 : decode cX6_type 37 = .ok (.aload_n 0, 1) := by decide +kernel
theorem dX6_type_38 : decode cX6_type 38 = .ok (.getfield 29, 3) := by decide +kernel
theorem dX6_type_41 : decode cX6_type 41 = .ok (.aload_n 0, 1) := by decide +kernel
theorem dX6_type_42 : decode cX6_type 42 = .ok (.getfield 202, 3) := by decide +kernel
theorem dX6_type_45 : decode cX6_type 45 = .ok (.iload_n 1, 1) := by decide +kernel
theorem dX6_type_46 : decode cX6_type 46 = .ok (.iastore, 1) := by decide +kernel
theorem dX6_type_47 : decode cX6_type 47 = .ok (.aload_n 0, 1) := by decide +kernel
theorem dX6_type_48 : decode cX6_type 48 = .ok (.dup, 1) := by decide +kernel
theorem dX6_type_49 : decode cX6_type 49 = .ok (.getfield 202, 3) := by decide +kernel
theorem dX6_type_52 : decode cX6_type 52 = .ok (.iconst 1, 1) := by decide +kernel
theorem dX6_type_53 : decode cX6_type 53 = .ok (.iadd, 1) := by decide +kernel
theorem dX6_type_54 : decode cX6_type 54 = .ok (.putfield 202, 3) := by decide +kernel
theorem dX6_type_57 : decode cX6_type 57 = .ok (.aload_n 0, 1) := by decide +kernel
theorem dX6_type_58 : decode cX6_type 58 = .ok (.getfield 202, 3) := by decide +kernel
theorem dX6_type_61 : decode cX6_type 61 = .ok (.ireturn, 1) := by decide +kernel
theorem dX6_clearCommands_0 : decode cX6_clearCommands 0 = .ok (.aload_n 0, 1) := by decide +kernel
theorem dX6_clearCommands_1 : decode cX6_clearCommands 1 = .ok (.iconst 0, 1) := by decide +kernel
theorem dX6_clearCommands_2 : decode cX6_clearCommands 2 = .ok (.putfield 48, 3) := by decide +kernel
theorem dX6_clearCommands_5 : decode cX6_clearCommands 5 = .ok (.aload_n 0, 1) := by decide +kernel
theorem dX6_clearCommands_6 : decode cX6_clearCommands 6 = .ok (.getfield 202, 3) := by decide +kernel
theorem dX6_clearCommands_9 : decode cX6_clearCommands 9 = .ok (.istore_n 1, 1) := by decide +kernel
theorem dX6_clearCommands_10 : decode cX6_clearCommands 10 = .ok (.aload_n 0, 1) := by decide +kernel
theorem dX6_clearCommands_11 : decode cX6_clearCommands 11 = .ok (.iconst 0, 1) := by decide +kernel
theorem dX6_clearCommands_12 : decode cX6_clearCommands 12 = .ok (.putfield 202, 3) := by decide +kernel
theorem dX6_clearCommands_15 : decode cX6_clearCommands 15 = .ok (.iload_n 1, 1) := by decide +kernel
theorem dX6_clearCommands_16 : decode cX6_clearCommands 16 = .ok (.ireturn, 1) := by decide +kernel
set_option maxRecDepth 20000 in
theorem ggX6_isAt_X6_in : GoodIn wsX6_isAt wsX6_in := goodIn_r _ [7] (by decide +kernel) (by decide +kernel)
set_option maxRecDepth 20000 in
theorem gX6_isAt_X6_in : GoodIn wsX6_isAt (va_wsS RX6 56 yX6_in wsX6_in) := goodIn_app (goodIn_of _ (by decide +kernel)) ggX6_isAt_X6_in
theorem dX6_isAt_0 : decode cX6_isAt 0 = .ok (.aload_n 0, 1) := by decide +kernel
theorem dX6_isAt_1 : decode cX6_isAt 1 = .ok (.getfield 221, 3) := by decide +kernel
theorem dX6_isAt_4 : decode cX6_isAt 4 = .ok (.aload_n 0, 1) := by decide +kernel
theorem dX6_isAt_5 : decode cX6_isAt 5 = .ok (.getfield 202, 3) := by decide +kernel
theorem dX6_isAt_8 : decode cX6_isAt 8 = .ok (.if_icmp .ge 24, 3) := by decide +kernel
theorem dX6_isAt_11 : decode cX6_isAt 11 = .ok (.aload_n 0, 1) := by decide +kernel
theorem dX6_isAt_12 : decode cX6_isAt 12 = .ok (.getfield 29, 3) := by decide +kernel
theorem dX6_isAt_15 : decode cX6_isAt 15 = .ok (.aload_n 0, 1) := by decide +kernel
theorem dX6_isAt_16 : decode cX6_isAt 16 = .ok (.getfield 221, 3) := by decide +kernel
theorem dX6_isAt_19 : decode cX6_isAt 19 = .ok (.iaload, 1) := by decide +kernel
theorem dX6_isAt_20 : decode cX6_isAt 20 = .ok (.iload_n 1, 1) := by decide +kernel
theorem dX6_isAt_21 : decode cX6_isAt 21 = .ok (.iload_n 2, 1) := by decide +kernel
theorem dX6_isAt_22 : decode cX6_isAt 22 = .ok (.invokestatic 56, 3) := by decide +kernel
theorem dX6_isAt_25 : decode cX6_isAt 25 = .ok (.ifCond .eq 7, 3) := by decide +kernel
theorem dX6_isAt_28 : decode cX6_isAt 28 = .ok (.iconst 1, 1) := by decide +kernel
theorem dX6_isAt_29 : decode cX6_isAt 29 = .ok (.goto 4, 3) := by decide +kernel
theorem dX6_isAt_32 : decode cX6_isAt 32 = .ok (.iconst 0, 1) := by decide +kernel
theorem dX6_isAt_33 : decode cX6_isAt 33 = .ok (.ireturn, 1) := by decide +kernel
set_option maxRecDepth 20000 in
theorem ggX6_skips_X6_isAt : GoodIn wsX6_skips wsX6_isAt := goodIn_r _ [6, 1, 7, 8, 9, 10, 5, 11, 12, 13, 14, 15, 16, 17, 18, 19, 20, 21, 22, 23, 24, 25, 26] (by decide +kernel) (by decide +kernel)
set_option maxRecDepth 20000 in
theorem gX6_skips_X6_isAt : GoodIn wsX6_skips (wsV RX6 224 RX6 yX6_isAt wsX6_isAt) := goodIn_app (goodIn_of _ (by decide +kernel)) ggX6_skips_X6_isAt
theorem dX6_skips_0 : decode cX6_skips 0 = .ok (.aload_n 0, 1) := by decide +kernel
theorem dX6_skips_1 : decode cX6_skips 1 = .ok (.bipush 32, 2) := by decide +kernel
theorem dX6_skips_3 : decode cX6_skips 3 = .ok (.bipush 32, 2) := by decide +kernel
theorem dX6_skips_5 : decode cX6_skips 5 = .ok (.invokevirtual 224, 3) := by decide +kernel
theorem dX6_skips_8 : decode cX6_skips 8 = .ok (.ifCond .eq 16, 3) := by decide +kernel
theorem dX6_skips_11 : decode cX6_skips 11 = .ok (.aload_n 0, 1) := by decide +kernel
theorem dX6_skips_12 : decode cX6_skips 12 = .ok (.dup, 1) := by decide +kernel
theorem dX6_skips_13 : decode cX6_skips 13 = .ok (.getfield 221, 3) := by decide +kernel
theorem dX6_skips_16 : decode cX6_skips 16 = .ok (.iconst 1, 1) := by decide +kernel
theorem dX6_skips_17 : decode cX6_skips 17 = .ok (.iadd, 1) := by decide +kernel
theorem dX6_skips_18 : decode cX6_skips 18 = .ok (.putfield 221, 3) := by decide +kernel
theorem dX6_skips_21 : decode cX6_skips 21 = .ok (.goto (-21), 3) := by decide +kernel
theorem dX6_skips_24 : decode cX6_skips 24 = .ok (.return_, 1) := by decide +kernel
theorem dX6_verbOf_0 : decode cX6_verbOf 0 = .ok (.lload_n 0, 1) := by decide +kernel
theorem dX6_verbOf_1 : decode cX6_verbOf 1 = .ok (.ldc2_w 227, 3) := by decide +kernel
theorem dX6_verbOf_4 : decode cX6_verbOf 4 = .ok (.lcmp, 1) := by decide +kernel
theorem dX6_verbOf_5 : decode cX6_verbOf 5 = .ok (.ifCond .eq 19, 3) := by decide +kernel
theorem dX6_verbOf_8 : decode cX6_verbOf 8 = .ok (.lload_n 0, 1) := by decide +kernel
theorem dX6_verbOf_9 : decode cX6_verbOf 9 = .ok (.ldc2_w 229, 3) := by decide +kernel
theorem dX6_verbOf_12 : decode cX6_verbOf 12 = .ok (.lcmp, 1) := by decide +kernel
theorem dX6_verbOf_13 : decode cX6_verbOf 13 = .ok (.ifCond .eq 11, 3) := by decide +kernel
theorem dX6_verbOf_16 : decode cX6_verbOf 16 = .ok (.lload_n 0, 1) := by decide +kernel
theorem dX6_verbOf_17 : decode cX6_verbOf 17 = .ok (.ldc2_w 231, 3) := by decide +kernel
theorem dX6_verbOf_20 : decode cX6_verbOf 20 = .ok (.lcmp, 1) := by decide +kernel
theorem dX6_verbOf_21 : decode cX6_verbOf 21 = .ok (.ifCond .ne 29, 3) := by decide +kernel
theorem dX6_verbOf_24 : decode cX6_verbOf 24 = .ok (.lload_n 0, 1) := by decide +kernel
theorem dX6_verbOf_25 : decode cX6_verbOf 25 = .ok (.ldc2_w 227, 3) := by decide +kernel
theorem dX6_verbOf_28 : decode cX6_verbOf 28 = .ok (.lcmp, 1) := by decide +kernel
theorem dX6_verbOf_29 : decode cX6_verbOf 29 = .ok (.ifCond .ne 7, 3) := by decide +kernel
theorem dX6_verbOf_32 : decode cX6_verbOf 32 = .ok (.iconst 0, 1) := by decide +kernel
theorem dX6_verbOf_33 : decode cX6_verbOf 33 = .ok (.goto 16, 3) := by decide +kernel
theorem dX6_verbOf_36 : decode cX6_verbOf 36 = .ok (.lload_n 0, 1) := by decide +kernel
theorem dX6_verbOf_37 : decode cX6_verbOf 37 = .ok (.ldc2_w 229, 3) := by decide +kernel
theorem dX6_verbOf_40 : decode cX6_verbOf 40 = .ok (.lcmp, 1) := by decide +kernel
theorem dX6_verbOf_41 : decode cX6_verbOf 41 = .ok (.ifCond .ne 7, 3) := by decide +kernel
theorem dX6_verbOf_44 : decode cX6_verbOf 44 = .ok (.iconst 1, 1) := by decide +kernel
theorem dX6_verbOf_45 : decode cX6_verbOf 45 = .ok (.goto 4, 3) := by decide +kernel
theorem dX6_verbOf_48 : decode cX6_verbOf 48 = .ok (.iconst 2, 1) := by decide +kernel
theorem dX6_verbOf_49 : decode cX6_verbOf 49 = .ok (.ireturn, 1) := by decide +kernel
theorem dX6_verbOf_50 : decode cX6_verbOf 50 = .ok (.lload_n 0, 1) := by decide +kernel
theorem dX6_verbOf_51 : decode cX6_verbOf 51 = .ok (.ldc2_w 233, 3) := by decide +kernel
theorem dX6_verbOf_54 : decode cX6_verbOf 54 = .ok (.lcmp, 1) := by decide +kernel
theorem dX6_verbOf_55 : decode cX6_verbOf 55 = .ok (.ifCond .eq 19, 3) := by decide +kernel
theorem dX6_verbOf_58 : decode cX6_verbOf 58 = .ok (.lload_n 0, 1) := by decide +kernel
theorem dX6_verbOf_59 : decode cX6_verbOf 59 = .ok (.ldc2_w 235, 3) := by decide +kernel
theorem dX6_verbOf_62 : decode cX6_verbOf 62 = .ok (.lcmp, 1) := by decide +kernel
theorem dX6_verbOf_63 : decode cX6_verbOf 63 = .ok (.ifCond .eq 11, 3) := by decide +kernel
theorem dX6_verbOf_66 : decode cX6_verbOf 66 = .ok (.lload_n 0, 1) := by decide +kernel
theorem dX6_verbOf_67 : decode cX6_verbOf 67 = .ok (.ldc2_w 237, 3) := by decide +kernel
theorem dX6_verbOf_70 : decode cX6_verbOf 70 = .ok (.lcmp, 1) := by decide +kernel
theorem dX6_verbOf_71 : decode cX6_verbOf 71 = .ok (.ifCond .ne 29, 3) := by decide +kernel
theorem dX6_verbOf_74 : decode cX6_verbOf 74 = .ok (.lload_n 0, 1) := by decide +kernel
theorem dX6_verbOf_75 : decode cX6_verbOf 75 = .ok (.ldc2_w 233, 3) := by decide +kernel
theorem dX6_verbOf_78 : decode cX6_verbOf 78 = .ok (.lcmp, 1) := by decide +kernel
theorem dX6_verbOf_79 : decode cX6_verbOf 79 = .ok (.ifCond .ne 7, 3) := by decide +kernel
theorem dX6_verbOf_82 : decode cX6_verbOf 82 = .ok (.iconst 3, 1) := by decide +kernel
theorem dX6_verbOf_83 : decode cX6_verbOf 83 = .ok (.goto 16, 3) := by decide +kernel
theorem dX6_verbOf_86 : decode cX6_verbOf 86 = .ok (.lload_n 0, 1) := by decide +kernel
theorem dX6_verbOf_87 : decode cX6_verbOf 87 = .ok (.ldc2_w 235, 3) := by decide +kernel
theorem dX6_verbOf_90 : decode cX6_verbOf 90 = .ok (.lcmp, 1) := by decide +kernel
theorem dX6_verbOf_91 : decode cX6_verbOf 91 = .ok (.ifCond .ne 7, 3) := by decide +kernel
theorem dX6_verbOf_94 : decode cX6_verbOf 94 = .ok (.iconst 4, 1) := by decide +kernel
theorem dX6_verbOf_95 : decode cX6_verbOf 95 = .ok (.goto 4, 3) := by decide +kernel
theorem dX6_verbOf_98 : decode cX6_verbOf 98 = .ok (.iconst 5, 1) := by decide +kernel
theorem dX6_verbOf_99 : decode cX6_verbOf 99 = .ok (.ireturn, 1) := by decide +kernel
theorem dX6_verbOf_100 : decode cX6_verbOf 100 = .ok (.lload_n 0, 1) := by decide +kernel
theorem dX6_verbOf_101 : decode cX6_verbOf 101 = .ok (.ldc2_w 239, 3) := by decide +kernel
theorem dX6_verbOf_104 : decode cX6_verbOf 104 = .ok (.lcmp, 1) := by decide +kernel
theorem dX6_verbOf_105 : decode cX6_verbOf 105 = .ok (.ifCond .eq 11, 3) := by decide +kernel
theorem dX6_verbOf_108 : decode cX6_verbOf 108 = .ok (.lload_n 0, 1) := by decide +kernel
theorem dX6_verbOf_109 : decode cX6_verbOf 109 = .ok (.ldc2_w 241, 3) := by decide +kernel
theorem dX6_verbOf_112 : decode cX6_verbOf 112 = .ok (.lcmp, 1) := by decide +kernel
theorem dX6_verbOf_113 : decode cX6_verbOf 113 = .ok (.ifCond .ne 19, 3) := by decide +kernel
theorem dX6_verbOf_116 : decode cX6_verbOf 116 = .ok (.lload_n 0, 1) := by decide +kernel
theorem dX6_verbOf_117 : decode cX6_verbOf 117 = .ok (.ldc2_w 239, 3) := by decide +kernel
theorem dX6_verbOf_120 : decode cX6_verbOf 120 = .ok (.lcmp, 1) := by decide +kernel
theorem dX6_verbOf_121 : decode cX6_verbOf 121 = .ok (.ifCond .ne 8, 3) := by decide +kernel
theorem dX6_verbOf_124 : decode cX6_verbOf 124 = .ok (.bipush 6, 2) := by decide +kernel
theorem dX6_verbOf_126 : decode cX6_verbOf 126 = .ok (.goto 5, 3) := by decide +kernel
theorem dX6_verbOf_129 : decode cX6_verbOf 129 = .ok (.bipush 7, 2) := by decide +kernel
theorem dX6_verbOf_131 : decode cX6_verbOf 131 = .ok (.ireturn, 1) := by decide +kernel
theorem dX6_verbOf_132 : decode cX6_verbOf 132 = .ok (.lload_n 0, 1) := by decide +kernel
theorem dX6_verbOf_133 : decode cX6_verbOf 133 = .ok (.ldc2_w 243, 3) := by decide +kernel
theorem dX6_verbOf_136 : decode cX6_verbOf 136 = .ok (.lcmp, 1) := by decide +kernel
theorem dX6_verbOf_137 : decode cX6_verbOf 137 = .ok (.ifCond .ne 8, 3) := by decide +kernel
theorem dX6_verbOf_140 : decode cX6_verbOf 140 = .ok (.bipush 8, 2) := by decide +kernel
theorem dX6_verbOf_142 : decode cX6_verbOf 142 = .ok (.goto 4, 3) := by decide +kernel
theorem dX6_verbOf_145 : decode cX6_verbOf 145 = .ok (.iconst (-1), 1) := by decide +kernel
theorem dX6_verbOf_146 : decode cX6_verbOf 146 = .ok (.ireturn, 1) := by decide +kernel
set_option maxRecDepth 20000 in
theorem ggX6_verb_X6_isAt : GoodIn wsX6_verb wsX6_isAt := goodIn_r _ [10, 1, 11, 3, 12, 13, 9, 14, 27, 28, 29, 30, 31, 32, 33, 34, 35, 36, 37, 38, 39, 40, 41] (by decide +kernel) (by decide +kernel)
set_option maxRecDepth 20000 in
theorem gX6_verb_X6_isAt : GoodIn wsX6_verb (wsV RX6 224 RX6 yX6_isAt wsX6_isAt) := goodIn_app (goodIn_of _ (by decide +kernel)) ggX6_verb_X6_isAt
set_option maxRecDepth 20000 in
theorem ggX6_verb_X6_verbOf : GoodIn wsX6_verb wsX6_verbOf := goodIn_r _ [17, 18, 19, 20, 21, 22, 23, 24, 25, 26] (by decide +kernel) (by decide +kernel)
set_option maxRecDepth 20000 in
theorem gX6_verb_X6_verbOf : GoodIn wsX6_verb (va_wsS RX6 249 yX6_verbOf wsX6_verbOf) := goodIn_app (goodIn_of _ (by decide +kernel)) ggX6_verb_X6_verbOf
theorem dX6_verb_0 : decode cX6_verb 0 = .ok (.aload_n 0, 1) := by decide +kernel
theorem dX6_verb_1 : decode cX6_verb 1 = .ok (.getfield 221, 3) := by decide +kernel
theorem dX6_verb_4 : decode cX6_verb 4 = .ok (.istore_n 1, 1) := by decide +kernel
theorem dX6_verb_5 : decode cX6_verb 5 = .ok (.lconst 0, 1) := by decide +kernel
theorem dX6_verb_6 : decode cX6_verb 6 = .ok (.lstore_n 2, 1) := by decide +kernel
theorem dX6_verb_7 : decode cX6_verb 7 = .ok (.aload_n 0, 1) := by decide +kernel
theorem dX6_verb_8 : decode cX6_verb 8 = .ok (.bipush 97, 2) := by decide +kernel
theorem dX6_verb_10 : decode cX6_verb 10 = .ok (.bipush 122, 2) := by decide +kernel
theorem dX6_verb_12 : decode cX6_verb 12 = .ok (.invokevirtual 224, 3) := by decide +kernel
theorem dX6_verb_15 : decode cX6_verb 15 = .ok (.ifCond .eq 54, 3) := by decide +kernel
theorem dX6_verb_18 : decode cX6_verb 18 = .ok (.aload_n 0, 1) := by decide +kernel
theorem dX6_verb_19 : decode cX6_verb 19 = .ok (.getfield 221, 3) := by decide +kernel
theorem dX6_verb_22 : decode cX6_verb 22 = .ok (.iload_n 1, 1) := by decide +kernel
theorem dX6_verb_23 : decode cX6_verb 23 = .ok (.isub, 1) := by decide +kernel
theorem dX6_verb_24 : decode cX6_verb 24 = .ok (.bipush 6, 2) := by decide +kernel
theorem dX6_verb_26 : decode cX6_verb 26 = .ok (.if_icmp .ge 26, 3) := by decide +kernel
theorem dX6_verb_29 : decode cX6_verb 29 = .ok (.ldc2_w 245, 3) := by decide +kernel
theorem dX6_verb_32 : decode cX6_verb 32 = .ok (.lload_n 2, 1) := by decide +kernel
theorem dX6_verb_33 : decode cX6_verb 33 = .ok (.lmul, 1) := by decide +kernel
theorem dX6_verb_34 : decode cX6_verb 34 = .ok (.aload_n 0, 1) := by decide +kernel
theorem dX6_verb_35 : decode cX6_verb 35 = .ok (.getfield 29, 3) := by decide +kernel
theorem dX6_verb_38 : decode cX6_verb 38 = .ok (.aload_n 0, 1) := by decide +kernel
theorem dX6_verb_39 : decode cX6_verb 39 = .ok (.getfield 221, 3) := by decide +kernel
theorem dX6_verb_42 : decode cX6_verb 42 = .ok (.iaload, 1) := by decide +kernel
theorem dX6_verb_43 : decode cX6_verb 43 = .ok (.i2l, 1) := by decide +kernel
theorem dX6_verb_44 : decode cX6_verb 44 = .ok (.ladd, 1) := by decide +kernel
theorem dX6_verb_45 : decode cX6_verb 45 = .ok (.ldc2_w 247, 3) := by decide +kernel
theorem dX6_verb_48 : decode cX6_verb 48 = .ok (.lsub, 1) := by decide +kernel
theorem dX6_verb_49 : decode cX6_verb 49 = .ok (.goto 6, 3) := by decide +kernel
theorem dX6_verb_52 : decode cX6_verb 52 = .ok (.ldc2_w 75, 3) := by decide +kernel
theorem dX6_verb_55 : decode cX6_verb 55 = .ok (.lstore_n 2, 1) := by decide +kernel
theorem dX6_verb_56 : decode cX6_verb 56 = .ok (.aload_n 0, 1) := by decide +kernel
theorem dX6_verb_57 : decode cX6_verb 57 = .ok (.dup, 1) := by decide +kernel
theorem dX6_verb_58 : decode cX6_verb 58 = .ok (.getfield 221, 3) := by decide +kernel
theorem dX6_verb_61 : decode cX6_verb 61 = .ok (.iconst 1, 1) := by decide +kernel
theorem dX6_verb_62 : decode cX6_verb 62 = .ok (.iadd, 1) := by decide +kernel
theorem dX6_verb_63 : decode cX6_verb 63 = .ok (.putfield 221, 3) := by decide +kernel
theorem dX6_verb_66 : decode cX6_verb 66 = .ok (.goto (-59), 3) := by decide +kernel
theorem dX6_verb_69 : decode cX6_verb 69 = .ok (.aload_n 0, 1) := by decide +kernel
theorem dX6_verb_70 : decode cX6_verb 70 = .ok (.getfield 221, 3) := by decide +kernel
theorem dX6_verb_73 : decode cX6_verb 73 = .ok (.iload_n 1, 1) := by decide +kernel
theorem dX6_verb_74 : decode cX6_verb 74 = .ok (.isub, 1) := by decide +kernel
theorem dX6_verb_75 : decode cX6_verb 75 = .ok (.bipush 6, 2) := by decide +kernel
theorem dX6_verb_77 : decode cX6_verb 77 = .ok (.if_icmp .le 7, 3) := by decide +kernel
theorem dX6_verb_80 : decode cX6_verb 80 = .ok (.iconst (-1), 1) := by decide +kernel
theorem dX6_verb_81 : decode cX6_verb 81 = .ok (.goto 7, 3) := by decide +kernel
theorem dX6_verb_84 : decode cX6_verb 84 = .ok (.lload_n 2, 1) := by decide +kernel
theorem dX6_verb_85 : decode cX6_verb 85 = .ok (.invokestatic 249, 3) := by decide +kernel
theorem dX6_verb_88 : decode cX6_verb 88 = .ok (.istore 4, 2) := by decide +kernel
theorem dX6_verb_90 : decode cX6_verb 90 = .ok (.aload_n 0, 1) := by decide +kernel
theorem dX6_verb_91 : decode cX6_verb 91 = .ok (.iload 4, 2) := by decide +kernel
theorem dX6_verb_93 : decode cX6_verb 93 = .ok (.iconst (-1), 1) := by decide +kernel
theorem dX6_verb_94 : decode cX6_verb 94 = .ok (.if_icmp .ne 7, 3) := by decide +kernel
theorem dX6_verb_97 : decode cX6_verb 97 = .ok (.iload_n 1, 1) := by decide +kernel
theorem dX6_verb_98 : decode cX6_verb 98 = .ok (.goto 7, 3) := by decide +kernel
theorem dX6_verb_101 : decode cX6_verb 101 = .ok (.aload_n 0, 1) := by decide +kernel
theorem dX6_verb_102 : decode cX6_verb 102 = .ok (.getfield 221, 3) := by decide +kernel
theorem dX6_verb_105 : decode cX6_verb 105 = .ok (.putfield 221, 3) := by decide +kernel
theorem dX6_verb_108 : decode cX6_verb 108 = .ok (.iload 4, 2) := by decide +kernel
theorem dX6_verb_110 : decode cX6_verb 110 = .ok (.ireturn, 1) := by decide +kernel
theorem dX6_numbersOf_0 : decode cX6_numbersOf 0 = .ok (.iload_n 0, 1) := by decide +kernel
theorem dX6_numbersOf_1 : decode cX6_numbersOf 1 = .ok (.iconst 1, 1) := by decide +kernel
theorem dX6_numbersOf_2 : decode cX6_numbersOf 2 = .ok (.if_icmp .eq 13, 3) := by decide +kernel
theorem dX6_numbersOf_5 : decode cX6_numbersOf 5 = .ok (.iload_n 0, 1) := by decide +kernel
theorem dX6_numbersOf_6 : decode cX6_numbersOf 6 = .ok (.iconst 2, 1) := by decide +kernel
theorem dX6_numbersOf_7 : decode cX6_numbersOf 7 = .ok (.if_icmp .eq 8, 3) := by decide +kernel
theorem dX6_numbersOf_10 : decode cX6_numbersOf 10 = .ok (.iload_n 0, 1) := by decide +kernel
theorem dX6_numbersOf_11 : decode cX6_numbersOf 11 = .ok (.iconst 3, 1) := by decide +kernel
theorem dX6_numbersOf_12 : decode cX6_numbersOf 12 = .ok (.if_icmp .ne 5, 3) := by decide +kernel
theorem dX6_numbersOf_15 : decode cX6_numbersOf 15 = .ok (.iconst 4, 1) := by decide +kernel
theorem dX6_numbersOf_16 : decode cX6_numbersOf 16 = .ok (.ireturn, 1) := by decide +kernel
theorem dX6_numbersOf_17 : decode cX6_numbersOf 17 = .ok (.iload_n 0, 1) := by decide +kernel
theorem dX6_numbersOf_18 : decode cX6_numbersOf 18 = .ok (.iconst 4, 1) := by decide +kernel
theorem dX6_numbersOf_19 : decode cX6_numbersOf 19 = .ok (.if_icmp .ne 7, 3) := by decide +kernel
theorem dX6_numbersOf_22 : decode cX6_numbersOf 22 = .ok (.iconst 3, 1) := by decide +kernel
theorem dX6_numbersOf_23 : decode cX6_numbersOf 23 = .ok (.goto 27, 3) := by decide +kernel
theorem dX6_numbersOf_26 : decode cX6_numbersOf 26 = .ok (.iload_n 0, 1) := by decide +kernel
theorem dX6_numbersOf_27 : decode cX6_numbersOf 27 = .ok (.ifCond .eq 8, 3) := by decide +kernel
theorem dX6_numbersOf_30 : decode cX6_numbersOf 30 = .ok (.iload_n 0, 1) := by decide +kernel
theorem dX6_numbersOf_31 : decode cX6_numbersOf 31 = .ok (.iconst 5, 1) := by decide +kernel
theorem dX6_numbersOf_32 : decode cX6_numbersOf 32 = .ok (.if_icmp .ne 7, 3) := by decide +kernel
theorem dX6_numbersOf_35 : decode cX6_numbersOf 35 = .ok (.iconst 2, 1) := by decide +kernel
theorem dX6_numbersOf_36 : decode cX6_numbersOf 36 = .ok (.goto 14, 3) := by decide +kernel
theorem dX6_numbersOf_39 : decode cX6_numbersOf 39 = .ok (.iload_n 0, 1) := by decide +kernel
theorem dX6_numbersOf_40 : decode cX6_numbersOf 40 = .ok (.bipush 6, 2) := by decide +kernel
theorem dX6_numbersOf_42 : decode cX6_numbersOf 42 = .ok (.if_icmp .ne 7, 3) := by decide +kernel
theorem dX6_numbersOf_45 : decode cX6_numbersOf 45 = .ok (.iconst 0, 1) := by decide +kernel
theorem dX6_numbersOf_46 : decode cX6_numbersOf 46 = .ok (.goto 4, 3) := by decide +kernel
theorem dX6_numbersOf_49 : decode cX6_numbersOf 49 = .ok (.iconst 1, 1) := by decide +kernel
theorem dX6_numbersOf_50 : decode cX6_numbersOf 50 = .ok (.ireturn, 1) := by decide +kernel
set_option maxRecDepth 20000 in
theorem ggX6_number_X6_isAt : GoodIn wsX6_number wsX6_isAt := goodIn_r _ [8, 3, 9, 2, 10, 11, 7, 12, 17, 18, 19, 20, 21, 22, 23, 24, 25, 26, 27, 28, 29, 30, 31] (by decide +kernel) (by decide +kernel)
set_option maxRecDepth 20000 in
theorem gX6_number_X6_isAt : GoodIn wsX6_number (wsV RX6 224 RX6 yX6_isAt wsX6_isAt) := goodIn_app (goodIn_of _ (by decide +kernel)) ggX6_number_X6_isAt
set_option maxRecDepth 20000 in
theorem ggX6_number_X6_skips : GoodIn wsX6_number wsX6_skips := goodIn_r _ [16, 3, 4, 5, 6, 7, 8, 9, 2, 10, 11, 12, 17, 18, 19, 20, 21, 22, 23, 24, 25, 26, 27, 28, 29, 30, 31] (by decide +kernel) (by decide +kernel)
set_option maxRecDepth 20000 in
theorem gX6_number_X6_skips : GoodIn wsX6_number (wsV RX6 252 RX6 yX6_skips wsX6_skips) := goodIn_app (goodIn_of _ (by decide +kernel)) ggX6_number_X6_skips
theorem dX6_number_0 : decode cX6_number 0 = .ok (.aload_n 0, 1) := by decide +kernel
theorem dX6_number_1 : decode cX6_number 1 = .ok (.bipush 32, 2) := by decide +kernel
theorem dX6_number_3 : decode cX6_number 3 = .ok (.bipush 32, 2) := by decide +kernel
theorem dX6_number_5 : decode cX6_number 5 = .ok (.invokevirtual 224, 3) := by decide +kernel
theorem dX6_number_8 : decode cX6_number 8 = .ok (.ifCond .ne 5, 3) := by decide +kernel
theorem dX6_number_11 : decode cX6_number 11 = .ok (.iconst 0, 1) := by decide +kernel
theorem dX6_number_12 : decode cX6_number 12 = .ok (.ireturn, 1) := by decide +kernel
theorem dX6_number_13 : decode cX6_number 13 = .ok (.aload_n 0, 1) := by decide +kernel
theorem dX6_number_14 : decode cX6_number 14 = .ok (.invokevirtual 252, 3) := by decide +kernel
theorem dX6_number_17 : decode cX6_number 17 = .ok (.iconst 0, 1) := by decide +kernel
theorem dX6_number_18 : decode cX6_number 18 = .ok (.istore_n 2, 1) := by decide +kernel
theorem dX6_number_19 : decode cX6_number 19 = .ok (.aload_n 0, 1) := by decide +kernel
theorem dX6_number_20 : decode cX6_number 20 = .ok (.getfield 35, 3) := by decide +kernel
theorem dX6_number_23 : decode cX6_number 23 = .ok (.iload_n 1, 1) := by decide +kernel
theorem dX6_number_24 : decode cX6_number 24 = .ok (.iconst 0, 1) := by decide +kernel
theorem dX6_number_25 : decode cX6_number 25 = .ok (.iastore, 1) := by decide +kernel
theorem dX6_number_26 : decode cX6_number 26 = .ok (.iload_n 2, 1) := by decide +kernel
theorem dX6_number_27 : decode cX6_number 27 = .ok (.iconst 3, 1) := by decide +kernel
theorem dX6_number_28 : decode cX6_number 28 = .ok (.if_icmp .ge 58, 3) := by decide +kernel
theorem dX6_number_31 : decode cX6_number 31 = .ok (.aload_n 0, 1) := by decide +kernel
theorem dX6_number_32 : decode cX6_number 32 = .ok (.bipush 48, 2) := by decide +kernel
theorem dX6_number_34 : decode cX6_number 34 = .ok (.bipush 57, 2) := by decide +kernel
theorem dX6_number_36 : decode cX6_number 36 = .ok (.invokevirtual 224, 3) := by decide +kernel
theorem dX6_number_39 : decode cX6_number 39 = .ok (.ifCond .eq 47, 3) := by decide +kernel
theorem dX6_number_42 : decode cX6_number 42 = .ok (.aload_n 0, 1) := by decide +kernel
theorem dX6_number_43 : decode cX6_number 43 = .ok (.getfield 35, 3) := by decide +kernel
theorem dX6_number_46 : decode cX6_number 46 = .ok (.iload_n 1, 1) := by decide +kernel
theorem dX6_number_47 : decode cX6_number 47 = .ok (.bipush 10, 2) := by decide +kernel
theorem dX6_number_49 : decode cX6_number 49 = .ok (.aload_n 0, 1) := by decide +kernel
theorem dX6_number_50 : decode cX6_number 50 = .ok (.getfield 35, 3) := by decide +kernel
theorem dX6_number_53 : decode cX6_number 53 = .ok (.iload_n 1, 1) := by decide +kernel
theorem dX6_number_54 : decode cX6_number 54 = .ok (.iaload, 1) := by decide +kernel
theorem dX6_number_55 : decode cX6_number 55 = .ok (.imul, 1) := by decide +kernel
theorem dX6_number_56 : decode cX6_number 56 = .ok (.aload_n 0, 1) := by decide +kernel
theorem dX6_number_57 : decode cX6_number 57 = .ok (.getfield 29, 3) := by decide +kernel
theorem dX6_number_60 : decode cX6_number 60 = .ok (.aload_n 0, 1) := by decide +kernel
theorem dX6_number_61 : decode cX6_number 61 = .ok (.getfield 221, 3) := by decide +kernel
theorem dX6_number_64 : decode cX6_number 64 = .ok (.iaload, 1) := by decide +kernel
theorem dX6_number_65 : decode cX6_number 65 = .ok (.iadd, 1) := by decide +kernel
theorem dX6_number_66 : decode cX6_number 66 = .ok (.bipush 48, 2) := by decide +kernel
theorem dX6_number_68 : decode cX6_number 68 = .ok (.isub, 1) := by decide +kernel
theorem dX6_number_69 : decode cX6_number 69 = .ok (.iastore, 1) := by decide +kernel
theorem dX6_number_70 : decode cX6_number 70 = .ok (.aload_n 0, 1) := by decide +kernel
theorem dX6_number_71 : decode cX6_number 71 = .ok (.dup, 1) := by decide +kernel
theorem dX6_number_72 : decode cX6_number 72 = .ok (.getfield 221, 3) := by decide +kernel
theorem dX6_number_75 : decode cX6_number 75 = .ok (.iconst 1, 1) := by decide +kernel
theorem dX6_number_76 : decode cX6_number 76 = .ok (.iadd, 1) := by decide +kernel
theorem dX6_number_77 : decode cX6_number 77 = .ok (.putfield 221, 3) := by decide +kernel
theorem dX6_number_80 : decode cX6_number 80 = .ok (.iinc 2 1, 3) := by decide +kernel
theorem dX6_number_83 : decode cX6_number 83 = .ok (.goto (-57), 3) := by decide +kernel
theorem dX6_number_86 : decode cX6_number 86 = .ok (.iload_n 2, 1) := by decide +kernel
theorem dX6_number_87 : decode cX6_number 87 = .ok (.ifCond .le 18, 3) := by decide +kernel
theorem dX6_number_90 : decode cX6_number 90 = .ok (.aload_n 0, 1) := by decide +kernel
theorem dX6_number_91 : decode cX6_number 91 = .ok (.bipush 48, 2) := by decide +kernel
theorem dX6_number_93 : decode cX6_number 93 = .ok (.bipush 57, 2) := by decide +kernel
theorem dX6_number_95 : decode cX6_number 95 = .ok (.invokevirtual 224, 3) := by decide +kernel
theorem dX6_number_98 : decode cX6_number 98 = .ok (.ifCond .ne 7, 3) := by decide +kernel
theorem dX6_number_101 : decode cX6_number 101 = .ok (.iconst 1, 1) := by decide +kernel
theorem dX6_number_102 : decode cX6_number 102 = .ok (.goto 4, 3) := by decide +kernel
theorem dX6_number_105 : decode cX6_number 105 = .ok (.iconst 0, 1) := by decide +kernel
theorem dX6_number_106 : decode cX6_number 106 = .ok (.ireturn, 1) := by decide +kernel
set_option maxRecDepth 20000 in
theorem ggX6_reads_X6_skips : GoodIn wsX6_reads wsX6_skips := goodIn_r _ [9, 1, 10, 11, 12, 8, 13, 3, 14, 15, 16, 17, 45, 46, 47, 48, 49, 50, 51, 52, 53, 54, 55, 56, 57, 58, 59] (by decide +kernel) (by decide +kernel)
set_option maxRecDepth 20000 in
theorem gX6_reads_X6_skips : GoodIn wsX6_reads (wsV RX6 252 RX6 yX6_skips wsX6_skips) := goodIn_app (goodIn_of _ (by decide +kernel)) ggX6_reads_X6_skips
set_option maxRecDepth 20000 in
theorem ggX6_reads_X6_verb : GoodIn wsX6_reads wsX6_verb := goodIn_r _ [21, 1, 22, 14, 23, 24, 10, 11, 12, 8, 13, 3, 15, 16, 17, 25, 26, 27, 28, 29, 30, 31, 32, 33, 34, 35, 36, 45, 46, 47, 48, 49, 50, 51, 52, 53, 54, 55, 56, 57, 58, 59] (by decide +kernel) (by decide +kernel)
set_option maxRecDepth 20000 in
theorem gX6_reads_X6_verb : GoodIn wsX6_reads (wsV RX6 258 RX6 yX6_verb wsX6_verb) := goodIn_app (goodIn_of _ (by decide +kernel)) ggX6_reads_X6_verb
set_option maxRecDepth 20000 in
theorem ggX6_reads_X6_numbersOf : GoodIn wsX6_reads wsX6_numbersOf := goodIn_r _ [39] (by decide +kernel) (by decide +kernel)
set_option maxRecDepth 20000 in
theorem gX6_reads_X6_numbersOf : GoodIn wsX6_reads (va_wsS RX6 261 yX6_numbersOf wsX6_numbersOf) := goodIn_app (goodIn_of _ (by decide +kernel)) ggX6_reads_X6_numbersOf
set_option maxRecDepth 20000 in
theorem ggX6_reads_X6_number : GoodIn wsX6_reads wsX6_number := goodIn_r _ [43, 44, 14, 1, 10, 11, 12, 8, 13, 3, 15, 16, 17, 5, 6, 7, 9, 45, 46, 47, 48, 49, 50, 51, 52, 53, 54, 55, 56, 57, 58, 59] (by decide +kernel) (by decide +kernel)
set_option maxRecDepth 20000 in
theorem gX6_reads_X6_number : GoodIn wsX6_reads (wsV RX6 264 RX6 yX6_number wsX6_number) := goodIn_app (goodIn_of _ (by decide +kernel)) ggX6_reads_X6_number
set_option maxRecDepth 20000 in
theorem ggX6_reads_X6_isAt : GoodIn wsX6_reads wsX6_isAt := goodIn_r _ [13, 1, 3, 14, 15, 16, 8, 17, 45, 46, 47, 48, 49, 50, 51, 52, 53, 54, 55, 56, 57, 58, 59] (by decide +kernel) (by decide +kernel)
set_option maxRecDepth 20000 in
theorem gX6_reads_X6_isAt : GoodIn wsX6_reads (wsV RX6 224 RX6 yX6_isAt wsX6_isAt) := goodIn_app (goodIn_of _ (by decide +kernel)) ggX6_reads_X6_isAt
theorem dX6_reads_0 : decode cX6_reads 0 = .ok (.aload_n 0, 1) := by decide +kernel
theorem dX6_reads_1 : decode cX6_reads 1 = .ok (.iconst 0, 1) := by decide +kernel
theorem dX6_reads_2 : decode cX6_reads 2 = .ok (.putfield 221, 3) := by decide +kernel
theorem dX6_reads_5 : decode cX6_reads 5 = .ok (.aload_n 0, 1) := by decide +kernel
theorem dX6_reads_6 : decode cX6_reads 6 = .ok (.iconst 0, 1) := by decide +kernel
theorem dX6_reads_7 : decode cX6_reads 7 = .ok (.putfield 255, 3) := by decide +kernel
theorem dX6_reads_10 : decode cX6_reads 10 = .ok (.aload_n 0, 1) := by decide +kernel
theorem dX6_reads_11 : decode cX6_reads 11 = .ok (.invokevirtual 252, 3) := by decide +kernel
theorem dX6_reads_14 : decode cX6_reads 14 = .ok (.aload_n 0, 1) := by decide +kernel
theorem dX6_reads_15 : decode cX6_reads 15 = .ok (.getfield 221, 3) := by decide +kernel
theorem dX6_reads_18 : decode cX6_reads 18 = .ok (.aload_n 0, 1) := by decide +kernel
theorem dX6_reads_19 : decode cX6_reads 19 = .ok (.getfield 202, 3) := by decide +kernel
theorem dX6_reads_22 : decode cX6_reads 22 = .ok (.if_icmp .ge 102, 3) := by decide +kernel
theorem dX6_reads_25 : decode cX6_reads 25 = .ok (.aload_n 0, 1) := by decide +kernel
theorem dX6_reads_26 : decode cX6_reads 26 = .ok (.invokevirtual 258, 3) := by decide +kernel
theorem dX6_reads_29 : decode cX6_reads 29 = .ok (.istore_n 1, 1) := by decide +kernel
theorem dX6_reads_30 : decode cX6_reads 30 = .ok (.iload_n 1, 1) := by decide +kernel
theorem dX6_reads_31 : decode cX6_reads 31 = .ok (.iconst (-1), 1) := by decide +kernel
theorem dX6_reads_32 : decode cX6_reads 32 = .ok (.if_icmp .ne 5, 3) := by decide +kernel
theorem dX6_reads_35 : decode cX6_reads 35 = .ok (.iconst 0, 1) := by decide +kernel
theorem dX6_reads_36 : decode cX6_reads 36 = .ok (.ireturn, 1) := by decide +kernel
theorem dX6_reads_37 : decode cX6_reads 37 = .ok (.aload_n 0, 1) := by decide +kernel
theorem dX6_reads_38 : decode cX6_reads 38 = .ok (.getfield 32, 3) := by decide +kernel
theorem dX6_reads_41 : decode cX6_reads 41 = .ok (.aload_n 0, 1) := by decide +kernel
theorem dX6_reads_42 : decode cX6_reads 42 = .ok (.getfield 255, 3) := by decide +kernel
theorem dX6_reads_45 : decode cX6_reads 45 = .ok (.iload_n 1, 1) := by decide +kernel
theorem dX6_reads_46 : decode cX6_reads 46 = .ok (.iastore, 1) := by decide +kernel
theorem dX6_reads_47 : decode cX6_reads 47 = .ok (.iconst 0, 1) := by decide +kernel
theorem dX6_reads_48 : decode cX6_reads 48 = .ok (.istore_n 2, 1) := by decide +kernel
theorem dX6_reads_49 : decode cX6_reads 49 = .ok (.iload_n 2, 1) := by decide +kernel
theorem dX6_reads_50 : decode cX6_reads 50 = .ok (.iload_n 1, 1) := by decide +kernel
theorem dX6_reads_51 : decode cX6_reads 51 = .ok (.invokestatic 261, 3) := by decide +kernel
theorem dX6_reads_54 : decode cX6_reads 54 = .ok (.if_icmp .ge 26, 3) := by decide +kernel
theorem dX6_reads_57 : decode cX6_reads 57 = .ok (.aload_n 0, 1) := by decide +kernel
theorem dX6_reads_58 : decode cX6_reads 58 = .ok (.iconst 4, 1) := by decide +kernel
theorem dX6_reads_59 : decode cX6_reads 59 = .ok (.aload_n 0, 1) := by decide +kernel
theorem dX6_reads_60 : decode cX6_reads 60 = .ok (.getfield 255, 3) := by decide +kernel
theorem dX6_reads_63 : decode cX6_reads 63 = .ok (.imul, 1) := by decide +kernel
theorem dX6_reads_64 : decode cX6_reads 64 = .ok (.iload_n 2, 1) := by decide +kernel
theorem dX6_reads_65 : decode cX6_reads 65 = .ok (.iadd, 1) := by decide +kernel
theorem dX6_reads_66 : decode cX6_reads 66 = .ok (.invokevirtual 264, 3) := by decide +kernel
theorem dX6_reads_69 : decode cX6_reads 69 = .ok (.ifCond .ne 5, 3) := by decide +kernel
theorem dX6_reads_72 : decode cX6_reads 72 = .ok (.iconst 0, 1) := by decide +kernel
theorem dX6_reads_73 : decode cX6_reads 73 = .ok (.ireturn, 1) := by decide +kernel
theorem dX6_reads_74 : decode cX6_reads 74 = .ok (.iinc 2 1, 3) := by decide +kernel
theorem dX6_reads_77 : decode cX6_reads 77 = .ok (.goto (-28), 3) := by decide +kernel
theorem dX6_reads_80 : decode cX6_reads 80 = .ok (.aload_n 0, 1) := by decide +kernel
theorem dX6_reads_81 : decode cX6_reads 81 = .ok (.invokevirtual 252, 3) := by decide +kernel
theorem dX6_reads_84 : decode cX6_reads 84 = .ok (.aload_n 0, 1) := by decide +kernel
theorem dX6_reads_85 : decode cX6_reads 85 = .ok (.bipush 59, 2) := by decide +kernel
theorem dX6_reads_87 : decode cX6_reads 87 = .ok (.bipush 59, 2) := by decide +kernel
theorem dX6_reads_89 : decode cX6_reads 89 = .ok (.invokevirtual 224, 3) := by decide +kernel
theorem dX6_reads_92 : decode cX6_reads 92 = .ok (.ifCond .ne 5, 3) := by decide +kernel
theorem dX6_reads_95 : decode cX6_reads 95 = .ok (.iconst 0, 1) := by decide +kernel
theorem dX6_reads_96 : decode cX6_reads 96 = .ok (.ireturn, 1) := by decide +kernel
theorem dX6_reads_97 : decode cX6_reads 97 = .ok (.aload_n 0, 1) := by decide +kernel
theorem dX6_reads_98 : decode cX6_reads 98 = .ok (.dup, 1) := by decide +kernel
theorem dX6_reads_99 : decode cX6_reads 99 = .ok (.getfield 221, 3) := by decide +kernel
theorem dX6_reads_102 : decode cX6_reads 102 = .ok (.iconst 1, 1) := by decide +kernel
theorem dX6_reads_103 : decode cX6_reads 103 = .ok (.iadd, 1) := by decide +kernel
theorem dX6_reads_104 : decode cX6_reads 104 = .ok (.putfield 221, 3) := by decide +kernel
theorem dX6_reads_107 : decode cX6_reads 107 = .ok (.aload_n 0, 1) := by decide +kernel
theorem dX6_reads_108 : decode cX6_reads 108 = .ok (.dup, 1) := by decide +kernel
theorem dX6_reads_109 : decode cX6_reads 109 = .ok (.getfield 255, 3) := by decide +kernel
theorem dX6_reads_112 : decode cX6_reads 112 = .ok (.iconst 1, 1) := by decide +kernel
theorem dX6_reads_113 : decode cX6_reads 113 = .ok (.iadd, 1) := by decide +kernel
theorem dX6_reads_114 : decode cX6_reads 114 = .ok (.putfield 255, 3) := by decide +kernel
theorem dX6_reads_117 : decode cX6_reads 117 = .ok (.aload_n 0, 1) := by decide +kernel
theorem dX6_reads_118 : decode cX6_reads 118 = .ok (.invokevirtual 252, 3) := by decide +kernel
theorem dX6_reads_121 : decode cX6_reads 121 = .ok (.goto (-107), 3) := by decide +kernel
theorem dX6_reads_124 : decode cX6_reads 124 = .ok (.iconst 1, 1) := by decide +kernel
theorem dX6_reads_125 : decode cX6_reads 125 = .ok (.ireturn, 1) := by decide +kernel
set_option maxRecDepth 20000 in
theorem ggX6_carriesOut_X6_begin : GoodIn wsX6_carriesOut wsX6_begin := goodIn_r _ [7, 8, 9, 10, 11, 6, 12, 13, 14, 15, 16, 17, 18, 19, 20, 21, 22, 23, 24, 25, 26, 27, 172, 173, 174, 175, 176, 177, 178, 179, 180, 181, 182, 183, 184, 185, 186] (by decide +kernel) (by decide +kernel)
set_option maxRecDepth 20000 in
theorem gX6_carriesOut_X6_begin : GoodIn wsX6_carriesOut (wsV RX6 267 RX6 yX6_begin wsX6_begin) := goodIn_app (goodIn_of _ (by decide +kernel)) ggX6_carriesOut_X6_begin
set_option maxRecDepth 20000 in
theorem ggX6_carriesOut_X6_mark : GoodIn wsX6_carriesOut wsX6_mark := goodIn_r _ [31, 8, 9, 32, 33, 34, 35, 6, 36, 24, 25, 26, 27, 10, 11, 12, 13, 14, 15, 16, 17, 18, 19, 20, 21, 22, 23, 37, 38, 39, 40, 41, 42, 43, 172, 173, 174, 175, 176, 177, 178, 179, 180, 181, 182, 183, 184, 185, 186] (by decide +kernel) (by decide +kernel)
set_option maxRecDepth 20000 in
theorem gX6_carriesOut_X6_mark : GoodIn wsX6_carriesOut (wsV RX6 270 RX6 yX6_mark wsX6_mark) := goodIn_app (goodIn_of _ (by decide +kernel)) ggX6_carriesOut_X6_mark
set_option maxRecDepth 20000 in
theorem ggX6_carriesOut_X6_addPunch : GoodIn wsX6_carriesOut wsX6_addPunch := goodIn_r _ [47, 8, 48, 49, 50, 6, 51, 9, 52, 32, 33, 34, 35, 36, 24, 25, 26, 27, 10, 11, 12, 13, 14, 15, 16, 17, 18, 19, 20, 21, 22, 23, 172, 173, 174, 175, 176, 177, 178, 179, 180, 181, 182, 183, 184, 185, 186] (by decide +kernel) (by decide +kernel)
set_option maxRecDepth 20000 in
theorem gX6_carriesOut_X6_addPunch : GoodIn wsX6_carriesOut (wsV RX6 273 RX6 yX6_addPunch wsX6_addPunch) := goodIn_app (goodIn_of _ (by decide +kernel)) ggX6_carriesOut_X6_addPunch
set_option maxRecDepth 20000 in
theorem ggX6_carriesOut_X6_addBend : GoodIn wsX6_carriesOut wsX6_addBend := goodIn_r _ [56, 8, 48, 49, 50, 6, 51, 9, 52, 32, 33, 34, 35, 36, 24, 25, 26, 27, 10, 11, 12, 13, 14, 15, 16, 17, 18, 19, 20, 21, 22, 23, 172, 173, 174, 175, 176, 177, 178, 179, 180, 181, 182, 183, 184, 185, 186] (by decide +kernel) (by decide +kernel)
set_option maxRecDepth 20000 in
theorem gX6_carriesOut_X6_addBend : GoodIn wsX6_carriesOut (wsV RX6 277 RX6 yX6_addBend wsX6_addBend) := goodIn_app (goodIn_of _ (by decide +kernel)) ggX6_carriesOut_X6_addBend
set_option maxRecDepth 20000 in
theorem ggX6_carriesOut_X6_setStation : GoodIn wsX6_carriesOut wsX6_setStation := goodIn_r _ [60, 8, 9, 61, 62, 63, 6, 64, 24, 25, 26, 27, 10, 11, 12, 13, 14, 15, 16, 17, 18, 19, 20, 21, 22, 23, 65, 66, 67, 68, 172, 173, 174, 175, 176, 177, 178, 179, 180, 181, 182, 183, 184, 185, 186] (by decide +kernel) (by decide +kernel)
set_option maxRecDepth 20000 in
theorem gX6_carriesOut_X6_setStation : GoodIn wsX6_carriesOut (wsV RX6 281 RX6 yX6_setStation wsX6_setStation) := goodIn_app (goodIn_of _ (by decide +kernel)) ggX6_carriesOut_X6_setStation
set_option maxRecDepth 20000 in
theorem ggX6_carriesOut_X6_usePlan : GoodIn wsX6_carriesOut wsX6_usePlan := goodIn_r _ [72, 8, 9, 73, 74, 75, 76, 6, 77, 78, 79, 80, 81, 82, 24, 25, 26, 27, 83, 84, 85, 86, 87, 88, 89, 90, 65, 66, 67, 68, 37, 38, 39, 40, 91, 92, 93, 94, 95, 96, 97, 98, 99, 100, 101, 102, 103, 104, 105, 106, 107, 108, 109, 110, 111, 13, 14, 15, 16, 17, 18, 19, 20, 21, 22, 23, 172, 173, 174, 175, 176, 177, 178, 179, 180, 181, 182, 183, 184, 185, 186] (by decide +kernel) (by decide +kernel)
set_option maxRecDepth 20000 in
theorem gX6_carriesOut_X6_usePlan : GoodIn wsX6_carriesOut (wsV RX6 284 RX6 yX6_usePlan wsX6_usePlan) := goodIn_app (goodIn_of _ (by decide +kernel)) ggX6_carriesOut_X6_usePlan
set_option maxRecDepth 20000 in
theorem ggX6_carriesOut_X6_setPilot : GoodIn wsX6_carriesOut wsX6_setPilot := goodIn_r _ [115, 8, 9, 32, 10, 11, 6, 12, 13, 14, 15, 16, 17, 18, 19, 20, 21, 22, 23, 41, 42, 43, 172, 173, 174, 175, 176, 177, 178, 179, 180, 181, 182, 183, 184, 185, 186] (by decide +kernel) (by decide +kernel)
set_option maxRecDepth 20000 in
theorem gX6_carriesOut_X6_setPilot : GoodIn wsX6_carriesOut (wsV RX6 287 RX6 yX6_setPilot wsX6_setPilot) := goodIn_app (goodIn_of _ (by decide +kernel)) ggX6_carriesOut_X6_setPilot
set_option maxRecDepth 20000 in
theorem ggX6_carriesOut_X6_strokesBy : GoodIn wsX6_carriesOut wsX6_strokesBy := goodIn_r _ [119, 8, 10, 11, 6, 12, 13, 14, 15, 16, 120, 121, 122, 123, 9, 124, 125, 126, 127, 24, 25, 26, 27, 65, 66, 67, 68, 128, 129, 130, 131, 132, 133, 134, 135, 136, 137, 138, 139, 32, 140, 141, 142, 143, 144, 145, 146, 147, 37, 38, 39, 40, 148, 149, 150, 151, 152, 153, 154, 155, 156, 157, 158, 159, 160, 161, 162, 163, 164, 165, 166, 167, 168, 169, 170, 171, 87, 88, 89, 90, 41, 42, 43, 172, 173, 174, 175, 176, 177, 178, 179, 180, 181, 182, 183, 184, 185, 186] (by decide +kernel) (by decide +kernel)
set_option maxRecDepth 20000 in
theorem gX6_carriesOut_X6_strokesBy : GoodIn wsX6_carriesOut (wsV RX6 291 RX6 yX6_strokesBy wsX6_strokesBy) := goodIn_app (goodIn_of _ (by decide +kernel)) ggX6_carriesOut_X6_strokesBy
theorem dX6_carriesOut_0 : decode cX6_carriesOut 0 = .ok (.aload_n 0, 1) := by decide +kernel
theorem dX6_carriesOut_1 : decode cX6_carriesOut 1 = .ok (.getfield 35, 3) := by decide +kernel
theorem dX6_carriesOut_4 : decode cX6_carriesOut 4 = .ok (.iconst 4, 1) := by decide +kernel
theorem dX6_carriesOut_5 : decode cX6_carriesOut 5 = .ok (.iload_n 1, 1) := by decide +kernel
theorem dX6_carriesOut_6 : decode cX6_carriesOut 6 = .ok (.imul, 1) := by decide +kernel
theorem dX6_carriesOut_7 : decode cX6_carriesOut 7 = .ok (.iaload, 1) := by decide +kernel
theorem dX6_carriesOut_8 : decode cX6_carriesOut 8 = .ok (.istore_n 2, 1) := by decide +kernel
theorem dX6_carriesOut_9 : decode cX6_carriesOut 9 = .ok (.aload_n 0, 1) := by decide +kernel
theorem dX6_carriesOut_10 : decode cX6_carriesOut 10 = .ok (.getfield 35, 3) := by decide +kernel
theorem dX6_carriesOut_13 : decode cX6_carriesOut 13 = .ok (.iconst 4, 1) := by decide +kernel
theorem dX6_carriesOut_14 : decode cX6_carriesOut 14 = .ok (.iload_n 1, 1) := by decide +kernel
theorem dX6_carriesOut_15 : decode cX6_carriesOut 15 = .ok (.imul, 1) := by decide +kernel
theorem dX6_carriesOut_16 : decode cX6_carriesOut 16 = .ok (.iconst 1, 1) := by decide +kernel
theorem dX6_carriesOut_17 : decode cX6_carriesOut 17 = .ok (.iadd, 1) := by decide +kernel
theorem dX6_carriesOut_18 : decode cX6_carriesOut 18 = .ok (.iaload, 1) := by decide +kernel
theorem dX6_carriesOut_19 : decode cX6_carriesOut 19 = .ok (.istore_n 3, 1) := by decide +kernel
theorem dX6_carriesOut_20 : decode cX6_carriesOut 20 = .ok (.aload_n 0, 1) := by decide +kernel
theorem dX6_carriesOut_21 : decode cX6_carriesOut 21 = .ok (.getfield 35, 3) := by decide +kernel
theorem dX6_carriesOut_24 : decode cX6_carriesOut 24 = .ok (.iconst 4, 1) := by decide +kernel
theorem dX6_carriesOut_25 : decode cX6_carriesOut 25 = .ok (.iload_n 1, 1) := by decide +kernel
theorem dX6_carriesOut_26 : decode cX6_carriesOut 26 = .ok (.imul, 1) := by decide +kernel
theorem dX6_carriesOut_27 : decode cX6_carriesOut 27 = .ok (.iconst 2, 1) := by decide +kernel
theorem dX6_carriesOut_28 : decode cX6_carriesOut 28 = .ok (.iadd, 1) := by decide +kernel
theorem dX6_carriesOut_29 : decode cX6_carriesOut 29 = .ok (.iaload, 1) := by decide +kernel
theorem dX6_carriesOut_30 : decode cX6_carriesOut 30 = .ok (.istore 4, 2) := by decide +kernel
theorem dX6_carriesOut_32 : decode cX6_carriesOut 32 = .ok (.aload_n 0, 1) := by decide +kernel
theorem dX6_carriesOut_33 : decode cX6_carriesOut 33 = .ok (.getfield 35, 3) := by decide +kernel
theorem dX6_carriesOut_36 : decode cX6_carriesOut 36 = .ok (.iconst 4, 1) := by decide +kernel
theorem dX6_carriesOut_37 : decode cX6_carriesOut 37 = .ok (.iload_n 1, 1) := by decide +kernel
theorem dX6_carriesOut_38 : decode cX6_carriesOut 38 = .ok (.imul, 1) := by decide +kernel
theorem dX6_carriesOut_39 : decode cX6_carriesOut 39 = .ok (.iconst 3, 1) := by decide +kernel
theorem dX6_carriesOut_40 : decode cX6_carriesOut 40 = .ok (.iadd, 1) := by decide +kernel
theorem dX6_carriesOut_41 : decode cX6_carriesOut 41 = .ok (.iaload, 1) := by decide +kernel
theorem dX6_carriesOut_42 : decode cX6_carriesOut 42 = .ok (.istore 5, 2) := by decide +kernel
theorem dX6_carriesOut_44 : decode cX6_carriesOut 44 = .ok (.aload_n 0, 1) := by decide +kernel
theorem dX6_carriesOut_45 : decode cX6_carriesOut 45 = .ok (.getfield 32, 3) := by decide +kernel
theorem dX6_carriesOut_48 : decode cX6_carriesOut 48 = .ok (.iload_n 1, 1) := by decide +kernel
theorem dX6_carriesOut_49 : decode cX6_carriesOut 49 = .ok (.iaload, 1) := by decide +kernel
theorem dX6_carriesOut_50 : decode cX6_carriesOut 50 = .ok (.tableswitch 140 0 7 #[46, 56, 71, 86, 100, 112, 122, 130], 46) := by decide +kernel
theorem dX6_carriesOut_96 : decode cX6_carriesOut 96 = .ok (.aload_n 0, 1) := by decide +kernel
theorem dX6_carriesOut_97 : decode cX6_carriesOut 97 = .ok (.iload_n 2, 1) := by decide +kernel
theorem dX6_carriesOut_98 : decode cX6_carriesOut 98 = .ok (.iload_n 3, 1) := by decide +kernel
theorem dX6_carriesOut_99 : decode cX6_carriesOut 99 = .ok (.invokevirtual 267, 3) := by decide +kernel
theorem dX6_carriesOut_102 : decode cX6_carriesOut 102 = .ok (.pop, 1) := by decide +kernel
theorem dX6_carriesOut_103 : decode cX6_carriesOut 103 = .ok (.goto 93, 3) := by decide +kernel
theorem dX6_carriesOut_106 : decode cX6_carriesOut 106 = .ok (.aload_n 0, 1) := by decide +kernel
theorem dX6_carriesOut_107 : decode cX6_carriesOut 107 = .ok (.iload_n 2, 1) := by decide +kernel
theorem dX6_carriesOut_108 : decode cX6_carriesOut 108 = .ok (.iload_n 3, 1) := by decide +kernel
theorem dX6_carriesOut_109 : decode cX6_carriesOut 109 = .ok (.iload 4, 2) := by decide +kernel
theorem dX6_carriesOut_111 : decode cX6_carriesOut 111 = .ok (.iload 5, 2) := by decide +kernel
theorem dX6_carriesOut_113 : decode cX6_carriesOut 113 = .ok (.iconst 1, 1) := by decide +kernel
theorem dX6_carriesOut_114 : decode cX6_carriesOut 114 = .ok (.invokevirtual 270, 3) := by decide +kernel
theorem dX6_carriesOut_117 : decode cX6_carriesOut 117 = .ok (.pop, 1) := by decide +kernel
theorem dX6_carriesOut_118 : decode cX6_carriesOut 118 = .ok (.goto 78, 3) := by decide +kernel
theorem dX6_carriesOut_121 : decode cX6_carriesOut 121 = .ok (.aload_n 0, 1) := by decide +kernel
theorem dX6_carriesOut_122 : decode cX6_carriesOut 122 = .ok (.iload_n 2, 1) := by decide +kernel
theorem dX6_carriesOut_123 : decode cX6_carriesOut 123 = .ok (.iload_n 3, 1) := by decide +kernel
theorem dX6_carriesOut_124 : decode cX6_carriesOut 124 = .ok (.iload 4, 2) := by decide +kernel
theorem dX6_carriesOut_126 : decode cX6_carriesOut 126 = .ok (.iload 5, 2) := by decide +kernel
theorem dX6_carriesOut_128 : decode cX6_carriesOut 128 = .ok (.iconst 2, 1) := by decide +kernel
theorem dX6_carriesOut_129 : decode cX6_carriesOut 129 = .ok (.invokevirtual 270, 3) := by decide +kernel
theorem dX6_carriesOut_132 : decode cX6_carriesOut 132 = .ok (.pop, 1) := by decide +kernel
theorem dX6_carriesOut_133 : decode cX6_carriesOut 133 = .ok (.goto 63, 3) := by decide +kernel
theorem dX6_carriesOut_136 : decode cX6_carriesOut 136 = .ok (.aload_n 0, 1) := by decide +kernel
theorem dX6_carriesOut_137 : decode cX6_carriesOut 137 = .ok (.iload_n 2, 1) := by decide +kernel
theorem dX6_carriesOut_138 : decode cX6_carriesOut 138 = .ok (.iload_n 3, 1) := by decide +kernel
theorem dX6_carriesOut_139 : decode cX6_carriesOut 139 = .ok (.iload 4, 2) := by decide +kernel
theorem dX6_carriesOut_141 : decode cX6_carriesOut 141 = .ok (.iload 5, 2) := by decide +kernel
theorem dX6_carriesOut_143 : decode cX6_carriesOut 143 = .ok (.invokevirtual 273, 3) := by decide +kernel
theorem dX6_carriesOut_146 : decode cX6_carriesOut 146 = .ok (.pop, 1) := by decide +kernel
theorem dX6_carriesOut_147 : decode cX6_carriesOut 147 = .ok (.goto 49, 3) := by decide +kernel
theorem dX6_carriesOut_150 : decode cX6_carriesOut 150 = .ok (.aload_n 0, 1) := by decide +kernel
theorem dX6_carriesOut_151 : decode cX6_carriesOut 151 = .ok (.iload_n 2, 1) := by decide +kernel
theorem dX6_carriesOut_152 : decode cX6_carriesOut 152 = .ok (.iload_n 3, 1) := by decide +kernel
theorem dX6_carriesOut_153 : decode cX6_carriesOut 153 = .ok (.iload 4, 2) := by decide +kernel
theorem dX6_carriesOut_155 : decode cX6_carriesOut 155 = .ok (.invokevirtual 277, 3) := by decide +kernel
theorem dX6_carriesOut_158 : decode cX6_carriesOut 158 = .ok (.pop, 1) := by decide +kernel
theorem dX6_carriesOut_159 : decode cX6_carriesOut 159 = .ok (.goto 37, 3) := by decide +kernel
theorem dX6_carriesOut_162 : decode cX6_carriesOut 162 = .ok (.aload_n 0, 1) := by decide +kernel
theorem dX6_carriesOut_163 : decode cX6_carriesOut 163 = .ok (.iload_n 2, 1) := by decide +kernel
theorem dX6_carriesOut_164 : decode cX6_carriesOut 164 = .ok (.iload_n 3, 1) := by decide +kernel
theorem dX6_carriesOut_165 : decode cX6_carriesOut 165 = .ok (.invokevirtual 281, 3) := by decide +kernel
theorem dX6_carriesOut_168 : decode cX6_carriesOut 168 = .ok (.pop, 1) := by decide +kernel
theorem dX6_carriesOut_169 : decode cX6_carriesOut 169 = .ok (.goto 27, 3) := by decide +kernel
theorem dX6_carriesOut_172 : decode cX6_carriesOut 172 = .ok (.aload_n 0, 1) := by decide +kernel
theorem dX6_carriesOut_173 : decode cX6_carriesOut 173 = .ok (.invokevirtual 284, 3) := by decide +kernel
theorem dX6_carriesOut_176 : decode cX6_carriesOut 176 = .ok (.pop, 1) := by decide +kernel
theorem dX6_carriesOut_177 : decode cX6_carriesOut 177 = .ok (.goto 19, 3) := by decide +kernel
theorem dX6_carriesOut_180 : decode cX6_carriesOut 180 = .ok (.aload_n 0, 1) := by decide +kernel
theorem dX6_carriesOut_181 : decode cX6_carriesOut 181 = .ok (.iload_n 2, 1) := by decide +kernel
theorem dX6_carriesOut_182 : decode cX6_carriesOut 182 = .ok (.iconst 1, 1) := by decide +kernel
theorem dX6_carriesOut_183 : decode cX6_carriesOut 183 = .ok (.invokevirtual 287, 3) := by decide +kernel
theorem dX6_carriesOut_186 : decode cX6_carriesOut 186 = .ok (.pop, 1) := by decide +kernel
theorem dX6_carriesOut_187 : decode cX6_carriesOut 187 = .ok (.goto 9, 3) := by decide +kernel
theorem dX6_carriesOut_190 : decode cX6_carriesOut 190 = .ok (.aload_n 0, 1) := by decide +kernel
theorem dX6_carriesOut_191 : decode cX6_carriesOut 191 = .ok (.iload_n 2, 1) := by decide +kernel
theorem dX6_carriesOut_192 : decode cX6_carriesOut 192 = .ok (.invokevirtual 291, 3) := by decide +kernel
theorem dX6_carriesOut_195 : decode cX6_carriesOut 195 = .ok (.pop, 1) := by decide +kernel
theorem dX6_carriesOut_196 : decode cX6_carriesOut 196 = .ok (.return_, 1) := by decide +kernel
set_option maxRecDepth 20000 in
theorem ggX6_runCommands_X6_reads : GoodIn wsX6_runCommands wsX6_reads := goodIn_r _ [9, 2, 4, 10, 11, 12, 13, 14, 8, 15, 16, 17, 18, 19, 20, 21, 22, 23, 24, 25, 26, 27, 28, 29, 30, 31, 32, 33, 34, 35, 36, 37, 38, 39, 40, 41, 42, 43, 44, 45, 46, 47, 48, 49, 50, 217, 218, 219, 220, 221, 222, 223, 224, 225, 226, 227, 228, 229, 230, 231] (by decide +kernel) (by decide +kernel)
set_option maxRecDepth 20000 in
theorem gX6_runCommands_X6_reads : GoodIn wsX6_runCommands (wsV RX6 294 RX6 yX6_reads wsX6_reads) := goodIn_app (goodIn_of _ (by decide +kernel)) ggX6_runCommands_X6_reads
set_option maxRecDepth 20000 in
theorem ggX6_runCommands_X6_save : GoodIn wsX6_runCommands wsX6_save := goodIn_r _ [54, 3, 55, 56, 57, 217, 218, 219, 220, 221, 222, 223, 224, 225, 226, 227, 228, 229, 230, 231] (by decide +kernel) (by decide +kernel)
set_option maxRecDepth 20000 in
theorem gX6_runCommands_X6_save : GoodIn wsX6_runCommands (wsV RX6 113 RX6 yX6_save wsX6_save) := goodIn_app (goodIn_of _ (by decide +kernel)) ggX6_runCommands_X6_save
set_option maxRecDepth 20000 in
theorem ggX6_runCommands_X6_carriesOut : GoodIn wsX6_runCommands wsX6_carriesOut := goodIn_r _ [61, 50, 11, 62, 63, 64, 8, 65, 1, 57, 21, 22, 23, 66, 67, 68, 69, 51, 52, 53, 54, 3, 55, 56, 70, 71, 72, 73, 74, 75, 76, 77, 30, 78, 79, 80, 81, 82, 83, 84, 85, 86, 87, 88, 89, 90, 91, 92, 93, 94, 95, 96, 97, 98, 99, 100, 101, 102, 103, 104, 105, 106, 107, 108, 109, 110, 111, 112, 113, 114, 115, 116, 117, 118, 119, 120, 121, 122, 123, 124, 125, 126, 127, 128, 129, 130, 131, 132, 133, 134, 135, 136, 137, 138, 139, 140, 141, 142, 143, 144, 145, 146, 147, 148, 149, 150, 151, 152, 153, 154, 155, 156, 157, 158, 159, 160, 161, 162, 163, 164, 165, 166, 167, 168, 169, 170, 171, 172, 173, 174, 175, 176, 177, 178, 179, 180, 181, 182, 183, 184, 185, 186, 187, 188, 189, 190, 191, 192, 193, 194, 195, 196, 197, 198, 199, 200, 201, 202, 203, 204, 205, 206, 207, 208, 209, 210, 211, 212, 213, 214, 215, 216, 217, 218, 219, 220, 221, 222, 223, 224, 225, 226, 227, 228, 229, 230, 231] (by decide +kernel) (by decide +kernel)
set_option maxRecDepth 20000 in
theorem gX6_runCommands_X6_carriesOut : GoodIn wsX6_runCommands (wsV RX6 298 RX6 yX6_carriesOut wsX6_carriesOut) := goodIn_app (goodIn_of _ (by decide +kernel)) ggX6_runCommands_X6_carriesOut
theorem dX6_runCommands_0 : decode cX6_runCommands 0 = .ok (.aload_n 0, 1) := by decide +kernel
theorem dX6_runCommands_1 : decode cX6_runCommands 1 = .ok (.iconst 0, 1) := by decide +kernel
theorem dX6_runCommands_2 : decode cX6_runCommands 2 = .ok (.putfield 48, 3) := by decide +kernel
theorem dX6_runCommands_5 : decode cX6_runCommands 5 = .ok (.aload_n 0, 1) := by decide +kernel
theorem dX6_runCommands_6 : decode cX6_runCommands 6 = .ok (.invokevirtual 294, 3) := by decide +kernel
theorem dX6_runCommands_9 : decode cX6_runCommands 9 = .ok (.ifCond .ne 11, 3) := by decide +kernel
theorem dX6_runCommands_12 : decode cX6_runCommands 12 = .ok (.bipush (-10), 2) := by decide +kernel
theorem dX6_runCommands_14 : decode cX6_runCommands 14 = .ok (.aload_n 0, 1) := by decide +kernel
theorem dX6_runCommands_15 : decode cX6_runCommands 15 = .ok (.getfield 221, 3) := by decide +kernel
theorem dX6_runCommands_18 : decode cX6_runCommands 18 = .ok (.isub, 1) := by decide +kernel
theorem dX6_runCommands_19 : decode cX6_runCommands 19 = .ok (.ireturn, 1) := by decide +kernel
theorem dX6_runCommands_20 : decode cX6_runCommands 20 = .ok (.aload_n 0, 1) := by decide +kernel
theorem dX6_runCommands_21 : decode cX6_runCommands 21 = .ok (.invokevirtual 113, 3) := by decide +kernel
theorem dX6_runCommands_24 : decode cX6_runCommands 24 = .ok (.aload_n 0, 1) := by decide +kernel
theorem dX6_runCommands_25 : decode cX6_runCommands 25 = .ok (.iconst 1, 1) := by decide +kernel
theorem dX6_runCommands_26 : decode cX6_runCommands 26 = .ok (.putfield 60, 3) := by decide +kernel
theorem dX6_runCommands_29 : decode cX6_runCommands 29 = .ok (.iconst 0, 1) := by decide +kernel
theorem dX6_runCommands_30 : decode cX6_runCommands 30 = .ok (.istore_n 1, 1) := by decide +kernel
theorem dX6_runCommands_31 : decode cX6_runCommands 31 = .ok (.iconst 0, 1) := by decide +kernel
theorem dX6_runCommands_32 : decode cX6_runCommands 32 = .ok (.istore_n 2, 1) := by decide +kernel
theorem dX6_runCommands_33 : decode cX6_runCommands 33 = .ok (.iload_n 2, 1) := by decide +kernel
theorem dX6_runCommands_34 : decode cX6_runCommands 34 = .ok (.aload_n 0, 1) := by decide +kernel
theorem dX6_runCommands_35 : decode cX6_runCommands 35 = .ok (.getfield 255, 3) := by decide +kernel
theorem dX6_runCommands_38 : decode cX6_runCommands 38 = .ok (.if_icmp .ge 36, 3) := by decide +kernel
theorem dX6_runCommands_41 : decode cX6_runCommands 41 = .ok (.aload_n 0, 1) := by decide +kernel
theorem dX6_runCommands_42 : decode cX6_runCommands 42 = .ok (.getfield 48, 3) := by decide +kernel
theorem dX6_runCommands_45 : decode cX6_runCommands 45 = .ok (.ifCond .ne 29, 3) := by decide +kernel
theorem dX6_runCommands_48 : decode cX6_runCommands 48 = .ok (.aload_n 0, 1) := by decide +kernel
theorem dX6_runCommands_49 : decode cX6_runCommands 49 = .ok (.iload_n 2, 1) := by decide +kernel
theorem dX6_runCommands_50 : decode cX6_runCommands 50 = .ok (.invokevirtual 298, 3) := by decide +kernel
theorem dX6_runCommands_53 : decode cX6_runCommands 53 = .ok (.iload_n 1, 1) := by decide +kernel
theorem dX6_runCommands_54 : decode cX6_runCommands 54 = .ok (.aload_n 0, 1) := by decide +kernel
theorem dX6_runCommands_55 : decode cX6_runCommands 55 = .ok (.getfield 48, 3) := by decide +kernel
theorem dX6_runCommands_58 : decode cX6_runCommands 58 = .ok (.ifCond .ne 7, 3) := by decide +kernel
theorem dX6_runCommands_61 : decode cX6_runCommands 61 = .ok (.iconst 1, 1) := by decide +kernel
theorem dX6_runCommands_62 : decode cX6_runCommands 62 = .ok (.goto 4, 3) := by decide +kernel
theorem dX6_runCommands_65 : decode cX6_runCommands 65 = .ok (.iconst 0, 1) := by decide +kernel
theorem dX6_runCommands_66 : decode cX6_runCommands 66 = .ok (.iadd, 1) := by decide +kernel
theorem dX6_runCommands_67 : decode cX6_runCommands 67 = .ok (.istore_n 1, 1) := by decide +kernel
theorem dX6_runCommands_68 : decode cX6_runCommands 68 = .ok (.iinc 2 1, 3) := by decide +kernel
theorem dX6_runCommands_71 : decode cX6_runCommands 71 = .ok (.goto (-38), 3) := by decide +kernel
theorem dX6_runCommands_74 : decode cX6_runCommands 74 = .ok (.aload_n 0, 1) := by decide +kernel
theorem dX6_runCommands_75 : decode cX6_runCommands 75 = .ok (.iconst 0, 1) := by decide +kernel
theorem dX6_runCommands_76 : decode cX6_runCommands 76 = .ok (.putfield 60, 3) := by decide +kernel
theorem dX6_runCommands_79 : decode cX6_runCommands 79 = .ok (.aload_n 0, 1) := by decide +kernel
theorem dX6_runCommands_80 : decode cX6_runCommands 80 = .ok (.iconst 0, 1) := by decide +kernel
theorem dX6_runCommands_81 : decode cX6_runCommands 81 = .ok (.putfield 48, 3) := by decide +kernel
theorem dX6_runCommands_84 : decode cX6_runCommands 84 = .ok (.iload_n 1, 1) := by decide +kernel
theorem dX6_runCommands_85 : decode cX6_runCommands 85 = .ok (.ireturn, 1) := by decide +kernel
set_option maxRecDepth 20000 in
theorem ggX6_undo_X6_fails : GoodIn wsX6_undo wsX6_fails := goodIn_r _ [9, 1, 10, 11, 12, 13, 14, 15, 16, 17, 18, 19, 20, 21, 22, 23, 24] (by decide +kernel) (by decide +kernel)
set_option maxRecDepth 20000 in
theorem gX6_undo_X6_fails : GoodIn wsX6_undo (wsV RX6 110 RX6 yX6_fails wsX6_fails) := goodIn_app (goodIn_of _ (by decide +kernel)) ggX6_undo_X6_fails
theorem dX6_undo_0 : decode cX6_undo 0 = .ok (.aload_n 0, 1) := by decide +kernel
theorem dX6_undo_1 : decode cX6_undo 1 = .ok (.iconst 0, 1) := by decide +kernel
theorem dX6_undo_2 : decode cX6_undo 2 = .ok (.putfield 48, 3) := by decide +kernel
theorem dX6_undo_5 : decode cX6_undo 5 = .ok (.aload_n 0, 1) := by decide +kernel
theorem dX6_undo_6 : decode cX6_undo 6 = .ok (.getfield 64, 3) := by decide +kernel
theorem dX6_undo_9 : decode cX6_undo 9 = .ok (.ifCond .ne 9, 3) := by decide +kernel
theorem dX6_undo_12 : decode cX6_undo 12 = .ok (.aload_n 0, 1) := by decide +kernel
theorem dX6_undo_13 : decode cX6_undo 13 = .ok (.iconst 1, 1) := by decide +kernel
theorem dX6_undo_14 : decode cX6_undo 14 = .ok (.invokevirtual 110, 3) := by decide +kernel
theorem dX6_undo_17 : decode cX6_undo 17 = .ok (.ireturn, 1) := by decide +kernel
theorem dX6_undo_18 : decode cX6_undo 18 = .ok (.aload_n 0, 1) := by decide +kernel
theorem dX6_undo_19 : decode cX6_undo 19 = .ok (.dup, 1) := by decide +kernel
theorem dX6_undo_20 : decode cX6_undo 20 = .ok (.getfield 64, 3) := by decide +kernel
theorem dX6_undo_23 : decode cX6_undo 23 = .ok (.iconst 1, 1) := by decide +kernel
theorem dX6_undo_24 : decode cX6_undo 24 = .ok (.isub, 1) := by decide +kernel
theorem dX6_undo_25 : decode cX6_undo 25 = .ok (.putfield 64, 3) := by decide +kernel
theorem dX6_undo_28 : decode cX6_undo 28 = .ok (.iconst 0, 1) := by decide +kernel
theorem dX6_undo_29 : decode cX6_undo 29 = .ok (.istore_n 1, 1) := by decide +kernel
theorem dX6_undo_30 : decode cX6_undo 30 = .ok (.iload_n 1, 1) := by decide +kernel
theorem dX6_undo_31 : decode cX6_undo 31 = .ok (.bipush 100, 2) := by decide +kernel
theorem dX6_undo_33 : decode cX6_undo 33 = .ok (.if_icmp .ge 29, 3) := by decide +kernel
theorem dX6_undo_36 : decode cX6_undo 36 = .ok (.aload_n 0, 1) := by decide +kernel
theorem dX6_undo_37 : decode cX6_undo 37 = .ok (.getfield 7, 3) := by decide +kernel
theorem dX6_undo_40 : decode cX6_undo 40 = .ok (.iload_n 1, 1) := by decide +kernel
theorem dX6_undo_41 : decode cX6_undo 41 = .ok (.aload_n 0, 1) := by decide +kernel
theorem dX6_undo_42 : decode cX6_undo 42 = .ok (.getfield 13, 3) := by decide +kernel
theorem dX6_undo_45 : decode cX6_undo 45 = .ok (.bipush 100, 2) := by decide +kernel
theorem dX6_undo_47 : decode cX6_undo 47 = .ok (.aload_n 0, 1) := by decide +kernel
theorem dX6_undo_48 : decode cX6_undo 48 = .ok (.getfield 64, 3) := by decide +kernel
theorem dX6_undo_51 : decode cX6_undo 51 = .ok (.imul, 1) := by decide +kernel
theorem dX6_undo_52 : decode cX6_undo 52 = .ok (.iload_n 1, 1) := by decide +kernel
theorem dX6_undo_53 : decode cX6_undo 53 = .ok (.iadd, 1) := by decide +kernel
theorem dX6_undo_54 : decode cX6_undo 54 = .ok (.laload, 1) := by decide +kernel
theorem dX6_undo_55 : decode cX6_undo 55 = .ok (.lastore, 1) := by decide +kernel
theorem dX6_undo_56 : decode cX6_undo 56 = .ok (.iinc 1 1, 3) := by decide +kernel
theorem dX6_undo_59 : decode cX6_undo 59 = .ok (.goto (-29), 3) := by decide +kernel
theorem dX6_undo_62 : decode cX6_undo 62 = .ok (.aload_n 0, 1) := by decide +kernel
theorem dX6_undo_63 : decode cX6_undo 63 = .ok (.getfield 64, 3) := by decide +kernel
theorem dX6_undo_66 : decode cX6_undo 66 = .ok (.ireturn, 1) := by decide +kernel
set_option maxRecDepth 20000 in
theorem ggX6_digest_X6_wholeOf : GoodIn wsX6_digest wsX6_wholeOf := goodIn_r _ [9, 10, 11, 12, 13, 14, 8, 15, 16, 17, 18, 19, 20, 21, 22, 23, 24, 25, 26, 27, 28, 29, 30, 31, 32, 33, 34, 147, 148, 149, 150, 151, 152, 153, 154, 155, 156, 157, 158, 159, 160, 161] (by decide +kernel) (by decide +kernel)
set_option maxRecDepth 20000 in
theorem gX6_digest_X6_wholeOf : GoodIn wsX6_digest (wsV RX6 205 RX6 yX6_wholeOf wsX6_wholeOf) := goodIn_app (goodIn_of _ (by decide +kernel)) ggX6_digest_X6_wholeOf
set_option maxRecDepth 20000 in
theorem ggX6_digest_X6_setOf : GoodIn wsX6_digest wsX6_setOf := goodIn_r _ [38, 39, 40, 41, 8, 42, 10, 43, 44, 45, 46, 47, 12, 13, 14, 15, 48, 49, 50, 51, 52, 53, 54, 55, 56, 57, 58, 59, 20, 21, 22, 23, 60, 61, 62, 63, 64, 65, 66, 67, 68, 69, 70, 71, 72, 73, 74, 75, 76, 77, 78, 79, 147, 148, 149, 150, 151, 152, 153, 154, 155, 156, 157, 158, 159, 160, 161] (by decide +kernel) (by decide +kernel)
set_option maxRecDepth 20000 in
theorem gX6_digest_X6_setOf : GoodIn wsX6_digest (wsV RX6 107 RX6 yX6_setOf wsX6_setOf) := goodIn_app (goodIn_of _ (by decide +kernel)) ggX6_digest_X6_setOf
set_option maxRecDepth 20000 in
theorem ggX6_digest_X6_many : GoodIn wsX6_digest wsX6_many := goodIn_r _ [15, 10, 147, 148, 149, 150, 151, 152, 153, 154, 155, 156, 157, 158, 159, 160, 161] (by decide +kernel) (by decide +kernel)
set_option maxRecDepth 20000 in
theorem gX6_digest_X6_many : GoodIn wsX6_digest (wsV RX6 52 RX6 yX6_many wsX6_many) := goodIn_app (goodIn_of _ (by decide +kernel)) ggX6_digest_X6_many
set_option maxRecDepth 20000 in
theorem ggX6_digest_X6_operationOf : GoodIn wsX6_digest wsX6_operationOf := goodIn_r _ [83, 20, 21, 22, 8, 23, 10, 84, 85, 86, 87, 88, 89, 90, 91, 60, 61, 62, 63, 48, 49, 50, 51, 12, 13, 14, 15, 76, 77, 78, 79, 147, 148, 149, 150, 151, 152, 153, 154, 155, 156, 157, 158, 159, 160, 161] (by decide +kernel) (by decide +kernel)
set_option maxRecDepth 20000 in
theorem gX6_digest_X6_operationOf : GoodIn wsX6_digest (wsV RX6 193 RX6 yX6_operationOf wsX6_operationOf) := goodIn_app (goodIn_of _ (by decide +kernel)) ggX6_digest_X6_operationOf
set_option maxRecDepth 20000 in
theorem ggX6_digest_X6_stationOf : GoodIn wsX6_digest wsX6_stationOf := goodIn_r _ [95, 10, 96, 97, 98, 8, 99, 12, 13, 14, 15, 20, 21, 22, 23, 100, 101, 102, 103, 84, 85, 86, 87, 28, 29, 30, 31, 147, 148, 149, 150, 151, 152, 153, 154, 155, 156, 157, 158, 159, 160, 161] (by decide +kernel) (by decide +kernel)
set_option maxRecDepth 20000 in
theorem gX6_digest_X6_stationOf : GoodIn wsX6_digest (wsV RX6 196 RX6 yX6_stationOf wsX6_stationOf) := goodIn_app (goodIn_of _ (by decide +kernel)) ggX6_digest_X6_stationOf
set_option maxRecDepth 20000 in
theorem ggX6_digest_X6_pitchOf : GoodIn wsX6_digest wsX6_pitchOf := goodIn_r _ [107, 28, 29, 30, 8, 31, 10, 32, 33, 34, 147, 148, 149, 150, 151, 152, 153, 154, 155, 156, 157, 158, 159, 160, 161] (by decide +kernel) (by decide +kernel)
set_option maxRecDepth 20000 in
theorem gX6_digest_X6_pitchOf : GoodIn wsX6_digest (wsV RX6 199 RX6 yX6_pitchOf wsX6_pitchOf) := goodIn_app (goodIn_of _ (by decide +kernel)) ggX6_digest_X6_pitchOf
set_option maxRecDepth 20000 in
theorem ggX6_digest_X6_ofPitch : GoodIn wsX6_digest wsX6_ofPitch := goodIn_r _ [31, 10, 147, 148, 149, 150, 151, 152, 153, 154, 155, 156, 157, 158, 159, 160, 161] (by decide +kernel) (by decide +kernel)
set_option maxRecDepth 20000 in
theorem gX6_digest_X6_ofPitch : GoodIn wsX6_digest (wsV RX6 139 RX6 yX6_ofPitch wsX6_ofPitch) := goodIn_app (goodIn_of _ (by decide +kernel)) ggX6_digest_X6_ofPitch
set_option maxRecDepth 20000 in
theorem ggX6_digest_X6_faultOfDie : GoodIn wsX6_digest wsX6_faultOfDie := goodIn_r _ [111, 43, 39, 40, 41, 8, 42, 10, 44, 45, 46, 47, 12, 13, 14, 15, 48, 49, 50, 51, 56, 57, 58, 59, 20, 21, 22, 23, 60, 61, 62, 63, 52, 53, 54, 55, 64, 65, 66, 67, 68, 69, 70, 71, 72, 73, 74, 75, 76, 77, 78, 79, 147, 148, 149, 150, 151, 152, 153, 154, 155, 156, 157, 158, 159, 160, 161] (by decide +kernel) (by decide +kernel)
set_option maxRecDepth 20000 in
theorem gX6_digest_X6_faultOfDie : GoodIn wsX6_digest (wsV RX6 208 RX6 yX6_faultOfDie wsX6_faultOfDie) := goodIn_app (goodIn_of _ (by decide +kernel)) ggX6_digest_X6_faultOfDie
set_option maxRecDepth 20000 in
theorem ggX6_digest_X6_faultOfPlan : GoodIn wsX6_digest wsX6_faultOfPlan := goodIn_r _ [115, 12, 13, 14, 8, 15, 10, 20, 21, 22, 23, 88, 89, 90, 91, 60, 61, 62, 63, 48, 49, 50, 51, 76, 77, 78, 79, 96, 97, 98, 99, 100, 101, 102, 103, 84, 85, 86, 87, 116, 117, 118, 119, 120, 121, 122, 123, 147, 148, 149, 150, 151, 152, 153, 154, 155, 156, 157, 158, 159, 160, 161] (by decide +kernel) (by decide +kernel)
set_option maxRecDepth 20000 in
theorem gX6_digest_X6_faultOfPlan : GoodIn wsX6_digest (wsV RX6 211 RX6 yX6_faultOfPlan wsX6_faultOfPlan) := goodIn_app (goodIn_of _ (by decide +kernel)) ggX6_digest_X6_faultOfPlan
set_option maxRecDepth 20000 in
theorem ggX6_digest_X6_setting : GoodIn wsX6_digest wsX6_setting := goodIn_r _ [119, 10, 147, 148, 149, 150, 151, 152, 153, 154, 155, 156, 157, 158, 159, 160, 161] (by decide +kernel) (by decide +kernel)
set_option maxRecDepth 20000 in
theorem gX6_digest_X6_setting : GoodIn wsX6_digest (wsV RX6 128 RX6 yX6_setting wsX6_setting) := goodIn_app (goodIn_of _ (by decide +kernel)) ggX6_digest_X6_setting
set_option maxRecDepth 20000 in
theorem ggX6_digest_X6_plans : GoodIn wsX6_digest wsX6_plans := goodIn_r _ [127, 128, 12, 13, 14, 8, 15, 10, 88, 89, 90, 91, 60, 61, 62, 63, 20, 21, 22, 23, 48, 49, 50, 51, 76, 77, 78, 79, 129, 130, 131, 132, 133, 134, 135, 136, 137, 138, 84, 85, 86, 87, 120, 121, 122, 123, 116, 117, 118, 119, 147, 148, 149, 150, 151, 152, 153, 154, 155, 156, 157, 158, 159, 160, 161] (by decide +kernel) (by decide +kernel)
set_option maxRecDepth 20000 in
theorem gX6_digest_X6_plans : GoodIn wsX6_digest (wsV RX6 164 RX6 yX6_plans wsX6_plans) := goodIn_app (goodIn_of _ (by decide +kernel)) ggX6_digest_X6_plans
set_option maxRecDepth 20000 in
theorem ggX6_digest_X6_fits : GoodIn wsX6_digest wsX6_fits := goodIn_r _ [142, 39, 40, 41, 8, 42, 10, 43, 44, 45, 46, 47, 12, 13, 14, 15, 48, 49, 50, 51, 76, 77, 78, 79, 147, 148, 149, 150, 151, 152, 153, 154, 155, 156, 157, 158, 159, 160, 161] (by decide +kernel) (by decide +kernel)
set_option maxRecDepth 20000 in
theorem gX6_digest_X6_fits : GoodIn wsX6_digest (wsV RX6 214 RX6 yX6_fits wsX6_fits) := goodIn_app (goodIn_of _ (by decide +kernel)) ggX6_digest_X6_fits
set_option maxRecDepth 20000 in
theorem ggX6_digest_X6_scrapOf : GoodIn wsX6_digest wsX6_scrapOf := goodIn_r _ [146, 12, 13, 14, 8, 15, 10, 139, 140, 141, 142, 39, 40, 41, 42, 43, 44, 45, 46, 47, 48, 49, 50, 51, 76, 77, 78, 79, 32, 33, 34, 147, 148, 149, 150, 151, 152, 153, 154, 155, 156, 157, 158, 159, 160, 161] (by decide +kernel) (by decide +kernel)
set_option maxRecDepth 20000 in
theorem gX6_digest_X6_scrapOf : GoodIn wsX6_digest (wsV RX6 217 RX6 yX6_scrapOf wsX6_scrapOf) := goodIn_app (goodIn_of _ (by decide +kernel)) ggX6_digest_X6_scrapOf
theorem dX6_digest_0 : decode cX6_digest 0 = .ok (.aload_n 0, 1) := by decide +kernel
theorem dX6_digest_1 : decode cX6_digest 1 = .ok (.iconst 0, 1) := by decide +kernel
theorem dX6_digest_2 : decode cX6_digest 2 = .ok (.putfield 48, 3) := by decide +kernel
theorem dX6_digest_5 : decode cX6_digest 5 = .ok (.ldc2_w 301, 3) := by decide +kernel
theorem dX6_digest_8 : decode cX6_digest 8 = .ok (.aload_n 0, 1) := by decide +kernel
theorem dX6_digest_9 : decode cX6_digest 9 = .ok (.getfield 64, 3) := by decide +kernel
theorem dX6_digest_12 : decode cX6_digest 12 = .ok (.i2l, 1) := by decide +kernel
theorem dX6_digest_13 : decode cX6_digest 13 = .ok (.ladd, 1) := by decide +kernel
theorem dX6_digest_14 : decode cX6_digest 14 = .ok (.lstore_n 1, 1) := by decide +kernel
theorem dX6_digest_15 : decode cX6_digest 15 = .ok (.iconst 0, 1) := by decide +kernel
theorem dX6_digest_16 : decode cX6_digest 16 = .ok (.istore_n 3, 1) := by decide +kernel
theorem dX6_digest_17 : decode cX6_digest 17 = .ok (.iload_n 3, 1) := by decide +kernel
theorem dX6_digest_18 : decode cX6_digest 18 = .ok (.bipush 17, 2) := by decide +kernel
theorem dX6_digest_20 : decode cX6_digest 20 = .ok (.if_icmp .ge 22, 3) := by decide +kernel
theorem dX6_digest_23 : decode cX6_digest 23 = .ok (.ldc2_w 303, 3) := by decide +kernel
theorem dX6_digest_26 : decode cX6_digest 26 = .ok (.lload_n 1, 1) := by decide +kernel
theorem dX6_digest_27 : decode cX6_digest 27 = .ok (.lmul, 1) := by decide +kernel
theorem dX6_digest_28 : decode cX6_digest 28 = .ok (.aload_n 0, 1) := by decide +kernel
theorem dX6_digest_29 : decode cX6_digest 29 = .ok (.iload_n 3, 1) := by decide +kernel
theorem dX6_digest_30 : decode cX6_digest 30 = .ok (.invokevirtual 205, 3) := by decide +kernel
theorem dX6_digest_33 : decode cX6_digest 33 = .ok (.i2l, 1) := by decide +kernel
theorem dX6_digest_34 : decode cX6_digest 34 = .ok (.ladd, 1) := by decide +kernel
theorem dX6_digest_35 : decode cX6_digest 35 = .ok (.lstore_n 1, 1) := by decide +kernel
theorem dX6_digest_36 : decode cX6_digest 36 = .ok (.iinc 3 1, 3) := by decide +kernel
theorem dX6_digest_39 : decode cX6_digest 39 = .ok (.goto (-22), 3) := by decide +kernel
theorem dX6_digest_42 : decode cX6_digest 42 = .ok (.iconst 0, 1) := by decide +kernel
theorem dX6_digest_43 : decode cX6_digest 43 = .ok (.istore_n 3, 1) := by decide +kernel
theorem dX6_digest_44 : decode cX6_digest 44 = .ok (.iload_n 3, 1) := by decide +kernel
theorem dX6_digest_45 : decode cX6_digest 45 = .ok (.bipush 6, 2) := by decide +kernel
theorem dX6_digest_47 : decode cX6_digest 47 = .ok (.if_icmp .ge 21, 3) := by decide +kernel
theorem dX6_digest_50 : decode cX6_digest 50 = .ok (.ldc2_w 303, 3) := by decide +kernel
theorem dX6_digest_53 : decode cX6_digest 53 = .ok (.lload_n 1, 1) := by decide +kernel
theorem dX6_digest_54 : decode cX6_digest 54 = .ok (.lmul, 1) := by decide +kernel
theorem dX6_digest_55 : decode cX6_digest 55 = .ok (.aload_n 0, 1) := by decide +kernel
theorem dX6_digest_56 : decode cX6_digest 56 = .ok (.iload_n 3, 1) := by decide +kernel
theorem dX6_digest_57 : decode cX6_digest 57 = .ok (.invokevirtual 107, 3) := by decide +kernel
theorem dX6_digest_60 : decode cX6_digest 60 = .ok (.ladd, 1) := by decide +kernel
theorem dX6_digest_61 : decode cX6_digest 61 = .ok (.lstore_n 1, 1) := by decide +kernel
theorem dX6_digest_62 : decode cX6_digest 62 = .ok (.iinc 3 1, 3) := by decide +kernel
theorem dX6_digest_65 : decode cX6_digest 65 = .ok (.goto (-21), 3) := by decide +kernel
theorem dX6_digest_68 : decode cX6_digest 68 = .ok (.iconst 0, 1) := by decide +kernel
theorem dX6_digest_69 : decode cX6_digest 69 = .ok (.istore_n 3, 1) := by decide +kernel
theorem dX6_digest_70 : decode cX6_digest 70 = .ok (.iload_n 3, 1) := by decide +kernel
theorem dX6_digest_71 : decode cX6_digest 71 = .ok (.aload_n 0, 1) := by decide +kernel
theorem dX6_digest_72 : decode cX6_digest 72 = .ok (.bipush 8, 2) := by decide +kernel
theorem dX6_digest_74 : decode cX6_digest 74 = .ok (.invokevirtual 52, 3) := by decide +kernel
theorem dX6_digest_77 : decode cX6_digest 77 = .ok (.if_icmp .ge 40, 3) := by decide +kernel
theorem dX6_digest_80 : decode cX6_digest 80 = .ok (.iconst 0, 1) := by decide +kernel
theorem dX6_digest_81 : decode cX6_digest 81 = .ok (.istore 4, 2) := by decide +kernel
theorem dX6_digest_83 : decode cX6_digest 83 = .ok (.iload 4, 2) := by decide +kernel
theorem dX6_digest_85 : decode cX6_digest 85 = .ok (.bipush 8, 2) := by decide +kernel
theorem dX6_digest_87 : decode cX6_digest 87 = .ok (.if_icmp .ge 24, 3) := by decide +kernel
theorem dX6_digest_90 : decode cX6_digest 90 = .ok (.ldc2_w 303, 3) := by decide +kernel
theorem dX6_digest_93 : decode cX6_digest 93 = .ok (.lload_n 1, 1) := by decide +kernel
theorem dX6_digest_94 : decode cX6_digest 94 = .ok (.lmul, 1) := by decide +kernel
theorem dX6_digest_95 : decode cX6_digest 95 = .ok (.aload_n 0, 1) := by decide +kernel
theorem dX6_digest_96 : decode cX6_digest 96 = .ok (.iload_n 3, 1) := by decide +kernel
theorem dX6_digest_97 : decode cX6_digest 97 = .ok (.iload 4, 2) := by decide +kernel
theorem dX6_digest_99 : decode cX6_digest 99 = .ok (.invokevirtual 193, 3) := by decide +kernel
theorem dX6_digest_102 : decode cX6_digest 102 = .ok (.i2l, 1) := by decide +kernel
theorem dX6_digest_103 : decode cX6_digest 103 = .ok (.ladd, 1) := by decide +kernel
theorem dX6_digest_104 : decode cX6_digest 104 = .ok (.lstore_n 1, 1) := by decide +kernel
theorem dX6_digest_105 : decode cX6_digest 105 = .ok (.iinc 4 1, 3) := by decide +kernel
theorem dX6_digest_108 : decode cX6_digest 108 = .ok (.goto (-25), 3) := by decide +kernel
theorem dX6_digest_111 : decode cX6_digest 111 = .ok (.iinc 3 1, 3) := by decide +kernel
theorem dX6_digest_114 : decode cX6_digest 114 = .ok (.goto (-44), 3) := by decide +kernel
theorem dX6_digest_117 : decode cX6_digest 117 = .ok (.iconst 0, 1) := by decide +kernel
theorem dX6_digest_118 : decode cX6_digest 118 = .ok (.istore_n 3, 1) := by decide +kernel
theorem dX6_digest_119 : decode cX6_digest 119 = .ok (.iload_n 3, 1) := by decide +kernel
theorem dX6_digest_120 : decode cX6_digest 120 = .ok (.bipush 8, 2) := by decide +kernel
theorem dX6_digest_122 : decode cX6_digest 122 = .ok (.if_icmp .ge 82, 3) := by decide +kernel
theorem dX6_digest_125 : decode cX6_digest 125 = .ok (.iconst 0, 1) := by decide +kernel
theorem dX6_digest_126 : decode cX6_digest 126 = .ok (.istore 4, 2) := by decide +kernel
theorem dX6_digest_128 : decode cX6_digest 128 = .ok (.iload 4, 2) := by decide +kernel
theorem dX6_digest_130 : decode cX6_digest 130 = .ok (.iconst 4, 1) := by decide +kernel
theorem dX6_digest_131 : decode cX6_digest 131 = .ok (.if_icmp .ge 24, 3) := by decide +kernel
theorem dX6_digest_134 : decode cX6_digest 134 = .ok (.ldc2_w 303, 3) := by decide +kernel
theorem dX6_digest_137 : decode cX6_digest 137 = .ok (.lload_n 1, 1) := by decide +kernel
theorem dX6_digest_138 : decode cX6_digest 138 = .ok (.lmul, 1) := by decide +kernel
theorem dX6_digest_139 : decode cX6_digest 139 = .ok (.aload_n 0, 1) := by decide +kernel
theorem dX6_digest_140 : decode cX6_digest 140 = .ok (.iload_n 3, 1) := by decide +kernel
theorem dX6_digest_141 : decode cX6_digest 141 = .ok (.iload 4, 2) := by decide +kernel
theorem dX6_digest_143 : decode cX6_digest 143 = .ok (.invokevirtual 196, 3) := by decide +kernel
theorem dX6_digest_146 : decode cX6_digest 146 = .ok (.i2l, 1) := by decide +kernel
theorem dX6_digest_147 : decode cX6_digest 147 = .ok (.ladd, 1) := by decide +kernel
theorem dX6_digest_148 : decode cX6_digest 148 = .ok (.lstore_n 1, 1) := by decide +kernel
theorem dX6_digest_149 : decode cX6_digest 149 = .ok (.iinc 4 1, 3) := by decide +kernel
theorem dX6_digest_152 : decode cX6_digest 152 = .ok (.goto (-24), 3) := by decide +kernel
theorem dX6_digest_155 : decode cX6_digest 155 = .ok (.iconst 0, 1) := by decide +kernel
theorem dX6_digest_156 : decode cX6_digest 156 = .ok (.istore 4, 2) := by decide +kernel
theorem dX6_digest_158 : decode cX6_digest 158 = .ok (.iload 4, 2) := by decide +kernel
theorem dX6_digest_160 : decode cX6_digest 160 = .ok (.iconst 4, 1) := by decide +kernel
theorem dX6_digest_161 : decode cX6_digest 161 = .ok (.if_icmp .ge 24, 3) := by decide +kernel
theorem dX6_digest_164 : decode cX6_digest 164 = .ok (.ldc2_w 303, 3) := by decide +kernel
theorem dX6_digest_167 : decode cX6_digest 167 = .ok (.lload_n 1, 1) := by decide +kernel
theorem dX6_digest_168 : decode cX6_digest 168 = .ok (.lmul, 1) := by decide +kernel
theorem dX6_digest_169 : decode cX6_digest 169 = .ok (.aload_n 0, 1) := by decide +kernel
theorem dX6_digest_170 : decode cX6_digest 170 = .ok (.iload_n 3, 1) := by decide +kernel
theorem dX6_digest_171 : decode cX6_digest 171 = .ok (.iload 4, 2) := by decide +kernel
theorem dX6_digest_173 : decode cX6_digest 173 = .ok (.invokevirtual 199, 3) := by decide +kernel
theorem dX6_digest_176 : decode cX6_digest 176 = .ok (.i2l, 1) := by decide +kernel
theorem dX6_digest_177 : decode cX6_digest 177 = .ok (.ladd, 1) := by decide +kernel
theorem dX6_digest_178 : decode cX6_digest 178 = .ok (.lstore_n 1, 1) := by decide +kernel
theorem dX6_digest_179 : decode cX6_digest 179 = .ok (.iinc 4 1, 3) := by decide +kernel
theorem dX6_digest_182 : decode cX6_digest 182 = .ok (.goto (-24), 3) := by decide +kernel
theorem dX6_digest_185 : decode cX6_digest 185 = .ok (.ldc2_w 303, 3) := by decide +kernel
theorem dX6_digest_188 : decode cX6_digest 188 = .ok (.lload_n 1, 1) := by decide +kernel
theorem dX6_digest_189 : decode cX6_digest 189 = .ok (.lmul, 1) := by decide +kernel
theorem dX6_digest_190 : decode cX6_digest 190 = .ok (.aload_n 0, 1) := by decide +kernel
theorem dX6_digest_191 : decode cX6_digest 191 = .ok (.iload_n 3, 1) := by decide +kernel
theorem dX6_digest_192 : decode cX6_digest 192 = .ok (.iconst 1, 1) := by decide +kernel
theorem dX6_digest_193 : decode cX6_digest 193 = .ok (.invokevirtual 139, 3) := by decide +kernel
theorem dX6_digest_196 : decode cX6_digest 196 = .ok (.ladd, 1) := by decide +kernel
theorem dX6_digest_197 : decode cX6_digest 197 = .ok (.lstore_n 1, 1) := by decide +kernel
theorem dX6_digest_198 : decode cX6_digest 198 = .ok (.iinc 3 1, 3) := by decide +kernel
theorem dX6_digest_201 : decode cX6_digest 201 = .ok (.goto (-82), 3) := by decide +kernel
theorem dX6_digest_204 : decode cX6_digest 204 = .ok (.ldc2_w 303, 3) := by decide +kernel
theorem dX6_digest_207 : decode cX6_digest 207 = .ok (.ldc2_w 303, 3) := by decide +kernel
theorem dX6_digest_210 : decode cX6_digest 210 = .ok (.lload_n 1, 1) := by decide +kernel
theorem dX6_digest_211 : decode cX6_digest 211 = .ok (.lmul, 1) := by decide +kernel
theorem dX6_digest_212 : decode cX6_digest 212 = .ok (.aload_n 0, 1) := by decide +kernel
theorem dX6_digest_213 : decode cX6_digest 213 = .ok (.invokevirtual 208, 3) := by decide +kernel
theorem dX6_digest_216 : decode cX6_digest 216 = .ok (.i2l, 1) := by decide +kernel
theorem dX6_digest_217 : decode cX6_digest 217 = .ok (.ladd, 1) := by decide +kernel
theorem dX6_digest_218 : decode cX6_digest 218 = .ok (.lmul, 1) := by decide +kernel
theorem dX6_digest_219 : decode cX6_digest 219 = .ok (.aload_n 0, 1) := by decide +kernel
theorem dX6_digest_220 : decode cX6_digest 220 = .ok (.invokevirtual 211, 3) := by decide +kernel
theorem dX6_digest_223 : decode cX6_digest 223 = .ok (.i2l, 1) := by decide +kernel
theorem dX6_digest_224 : decode cX6_digest 224 = .ok (.ladd, 1) := by decide +kernel
theorem dX6_digest_225 : decode cX6_digest 225 = .ok (.lstore_n 1, 1) := by decide +kernel
theorem dX6_digest_226 : decode cX6_digest 226 = .ok (.ldc2_w 303, 3) := by decide +kernel
theorem dX6_digest_229 : decode cX6_digest 229 = .ok (.ldc2_w 303, 3) := by decide +kernel
theorem dX6_digest_232 : decode cX6_digest 232 = .ok (.lload_n 1, 1) := by decide +kernel
theorem dX6_digest_233 : decode cX6_digest 233 = .ok (.lmul, 1) := by decide +kernel
theorem dX6_digest_234 : decode cX6_digest 234 = .ok (.aload_n 0, 1) := by decide +kernel
theorem dX6_digest_235 : decode cX6_digest 235 = .ok (.aload_n 0, 1) := by decide +kernel
theorem dX6_digest_236 : decode cX6_digest 236 = .ok (.iconst 0, 1) := by decide +kernel
theorem dX6_digest_237 : decode cX6_digest 237 = .ok (.invokevirtual 128, 3) := by decide +kernel
theorem dX6_digest_240 : decode cX6_digest 240 = .ok (.invokevirtual 164, 3) := by decide +kernel
theorem dX6_digest_243 : decode cX6_digest 243 = .ok (.i2l, 1) := by decide +kernel
theorem dX6_digest_244 : decode cX6_digest 244 = .ok (.ladd, 1) := by decide +kernel
theorem dX6_digest_245 : decode cX6_digest 245 = .ok (.lmul, 1) := by decide +kernel
theorem dX6_digest_246 : decode cX6_digest 246 = .ok (.aload_n 0, 1) := by decide +kernel
theorem dX6_digest_247 : decode cX6_digest 247 = .ok (.invokevirtual 214, 3) := by decide +kernel
theorem dX6_digest_250 : decode cX6_digest 250 = .ok (.i2l, 1) := by decide +kernel
theorem dX6_digest_251 : decode cX6_digest 251 = .ok (.ladd, 1) := by decide +kernel
theorem dX6_digest_252 : decode cX6_digest 252 = .ok (.lstore_n 1, 1) := by decide +kernel
theorem dX6_digest_253 : decode cX6_digest 253 = .ok (.ldc2_w 303, 3) := by decide +kernel
theorem dX6_digest_256 : decode cX6_digest 256 = .ok (.ldc2_w 303, 3) := by decide +kernel
theorem dX6_digest_259 : decode cX6_digest 259 = .ok (.lload_n 1, 1) := by decide +kernel
theorem dX6_digest_260 : decode cX6_digest 260 = .ok (.lmul, 1) := by decide +kernel
theorem dX6_digest_261 : decode cX6_digest 261 = .ok (.aload_n 0, 1) := by decide +kernel
theorem dX6_digest_262 : decode cX6_digest 262 = .ok (.iconst 0, 1) := by decide +kernel
theorem dX6_digest_263 : decode cX6_digest 263 = .ok (.invokevirtual 217, 3) := by decide +kernel
theorem dX6_digest_266 : decode cX6_digest 266 = .ok (.i2l, 1) := by decide +kernel
theorem dX6_digest_267 : decode cX6_digest 267 = .ok (.ladd, 1) := by decide +kernel
theorem dX6_digest_268 : decode cX6_digest 268 = .ok (.lmul, 1) := by decide +kernel
theorem dX6_digest_269 : decode cX6_digest 269 = .ok (.aload_n 0, 1) := by decide +kernel
theorem dX6_digest_270 : decode cX6_digest 270 = .ok (.iconst 1, 1) := by decide +kernel
theorem dX6_digest_271 : decode cX6_digest 271 = .ok (.invokevirtual 217, 3) := by decide +kernel
theorem dX6_digest_274 : decode cX6_digest 274 = .ok (.i2l, 1) := by decide +kernel
theorem dX6_digest_275 : decode cX6_digest 275 = .ok (.ladd, 1) := by decide +kernel
theorem dX6_digest_276 : decode cX6_digest 276 = .ok (.lreturn, 1) := by decide +kernel
theorem dJ6_bitCount_0f7a4_0 : decode cJ6_bitCount_0f7a4 0 = .ok (.iload_n 0, 1) := by decide +kernel
theorem dJ6_bitCount_0f7a4_1 : decode cJ6_bitCount_0f7a4 1 = .ok (.iload_n 0, 1) := by decide +kernel
theorem dJ6_bitCount_0f7a4_2 : decode cJ6_bitCount_0f7a4 2 = .ok (.iconst 1, 1) := by decide +kernel
theorem dJ6_bitCount_0f7a4_3 : decode cJ6_bitCount_0f7a4 3 = .ok (.iushr, 1) := by decide +kernel
theorem dJ6_bitCount_0f7a4_4 : decode cJ6_bitCount_0f7a4 4 = .ok (.ldc_w 265, 3) := by decide +kernel
theorem dJ6_bitCount_0f7a4_7 : decode cJ6_bitCount_0f7a4 7 = .ok (.iand, 1) := by decide +kernel
theorem dJ6_bitCount_0f7a4_8 : decode cJ6_bitCount_0f7a4 8 = .ok (.isub, 1) := by decide +kernel
theorem dJ6_bitCount_0f7a4_9 : decode cJ6_bitCount_0f7a4 9 = .ok (.istore_n 0, 1) := by decide +kernel
theorem dJ6_bitCount_0f7a4_10 : decode cJ6_bitCount_0f7a4 10 = .ok (.iload_n 0, 1) := by decide +kernel
theorem dJ6_bitCount_0f7a4_11 : decode cJ6_bitCount_0f7a4 11 = .ok (.ldc_w 266, 3) := by decide +kernel
theorem dJ6_bitCount_0f7a4_14 : decode cJ6_bitCount_0f7a4 14 = .ok (.iand, 1) := by decide +kernel
theorem dJ6_bitCount_0f7a4_15 : decode cJ6_bitCount_0f7a4 15 = .ok (.iload_n 0, 1) := by decide +kernel
theorem dJ6_bitCount_0f7a4_16 : decode cJ6_bitCount_0f7a4 16 = .ok (.iconst 2, 1) := by decide +kernel
theorem dJ6_bitCount_0f7a4_17 : decode cJ6_bitCount_0f7a4 17 = .ok (.iushr, 1) := by decide +kernel
theorem dJ6_bitCount_0f7a4_18 : decode cJ6_bitCount_0f7a4 18 = .ok (.ldc_w 266, 3) := by decide +kernel
theorem dJ6_bitCount_0f7a4_21 : decode cJ6_bitCount_0f7a4 21 = .ok (.iand, 1) := by decide +kernel
theorem dJ6_bitCount_0f7a4_22 : decode cJ6_bitCount_0f7a4 22 = .ok (.iadd, 1) := by decide +kernel
theorem dJ6_bitCount_0f7a4_23 : decode cJ6_bitCount_0f7a4 23 = .ok (.istore_n 0, 1) := by decide +kernel
theorem dJ6_bitCount_0f7a4_24 : decode cJ6_bitCount_0f7a4 24 = .ok (.iload_n 0, 1) := by decide +kernel
theorem dJ6_bitCount_0f7a4_25 : decode cJ6_bitCount_0f7a4 25 = .ok (.iload_n 0, 1) := by decide +kernel
theorem dJ6_bitCount_0f7a4_26 : decode cJ6_bitCount_0f7a4 26 = .ok (.iconst 4, 1) := by decide +kernel
theorem dJ6_bitCount_0f7a4_27 : decode cJ6_bitCount_0f7a4 27 = .ok (.iushr, 1) := by decide +kernel
theorem dJ6_bitCount_0f7a4_28 : decode cJ6_bitCount_0f7a4 28 = .ok (.iadd, 1) := by decide +kernel
theorem dJ6_bitCount_0f7a4_29 : decode cJ6_bitCount_0f7a4 29 = .ok (.ldc_w 267, 3) := by decide +kernel
theorem dJ6_bitCount_0f7a4_32 : decode cJ6_bitCount_0f7a4 32 = .ok (.iand, 1) := by decide +kernel
theorem dJ6_bitCount_0f7a4_33 : decode cJ6_bitCount_0f7a4 33 = .ok (.istore_n 0, 1) := by decide +kernel
theorem dJ6_bitCount_0f7a4_34 : decode cJ6_bitCount_0f7a4 34 = .ok (.iload_n 0, 1) := by decide +kernel
theorem dJ6_bitCount_0f7a4_35 : decode cJ6_bitCount_0f7a4 35 = .ok (.iload_n 0, 1) := by decide +kernel
theorem dJ6_bitCount_0f7a4_36 : decode cJ6_bitCount_0f7a4 36 = .ok (.bipush 8, 2) := by decide +kernel
theorem dJ6_bitCount_0f7a4_38 : decode cJ6_bitCount_0f7a4 38 = .ok (.iushr, 1) := by decide +kernel
theorem dJ6_bitCount_0f7a4_39 : decode cJ6_bitCount_0f7a4 39 = .ok (.iadd, 1) := by decide +kernel
theorem dJ6_bitCount_0f7a4_40 : decode cJ6_bitCount_0f7a4 40 = .ok (.istore_n 0, 1) := by decide +kernel
theorem dJ6_bitCount_0f7a4_41 : decode cJ6_bitCount_0f7a4 41 = .ok (.iload_n 0, 1) := by decide +kernel
theorem dJ6_bitCount_0f7a4_42 : decode cJ6_bitCount_0f7a4 42 = .ok (.iload_n 0, 1) := by decide +kernel
theorem dJ6_bitCount_0f7a4_43 : decode cJ6_bitCount_0f7a4 43 = .ok (.bipush 16, 2) := by decide +kernel
theorem dJ6_bitCount_0f7a4_45 : decode cJ6_bitCount_0f7a4 45 = .ok (.iushr, 1) := by decide +kernel
theorem dJ6_bitCount_0f7a4_46 : decode cJ6_bitCount_0f7a4 46 = .ok (.iadd, 1) := by decide +kernel
theorem dJ6_bitCount_0f7a4_47 : decode cJ6_bitCount_0f7a4 47 = .ok (.istore_n 0, 1) := by decide +kernel
theorem dJ6_bitCount_0f7a4_48 : decode cJ6_bitCount_0f7a4 48 = .ok (.iload_n 0, 1) := by decide +kernel
theorem dJ6_bitCount_0f7a4_49 : decode cJ6_bitCount_0f7a4 49 = .ok (.bipush 63, 2) := by decide +kernel
theorem dJ6_bitCount_0f7a4_51 : decode cJ6_bitCount_0f7a4 51 = .ok (.iand, 1) := by decide +kernel
theorem dJ6_bitCount_0f7a4_52 : decode cJ6_bitCount_0f7a4 52 = .ok (.ireturn, 1) := by decide +kernel
