theorem dX7_init_0 : decode cX7_init 0 = .ok (.aload_n 0, 1) := by decide +kernel
theorem dX7_init_1 : decode cX7_init 1 = .ok (.invokespecial 1, 3) := by decide +kernel
theorem dX7_init_4 : decode cX7_init 4 = .ok (.aload_n 0, 1) := by decide +kernel
theorem dX7_init_5 : decode cX7_init 5 = .ok (.bipush 7, 2) := by decide +kernel
theorem dX7_init_7 : decode cX7_init 7 = .ok (.newarray .int, 2) := by decide +kernel
theorem dX7_init_9 : decode cX7_init 9 = .ok (.putfield 7, 3) := by decide +kernel
theorem dX7_init_12 : decode cX7_init 12 = .ok (.aload_n 0, 1) := by decide +kernel
theorem dX7_init_13 : decode cX7_init 13 = .ok (.iconst 4, 1) := by decide +kernel
theorem dX7_init_14 : decode cX7_init 14 = .ok (.newarray .int, 2) := by decide +kernel
theorem dX7_init_16 : decode cX7_init 16 = .ok (.putfield 13, 3) := by decide +kernel
theorem dX7_init_19 : decode cX7_init 19 = .ok (.aload_n 0, 1) := by decide +kernel
theorem dX7_init_20 : decode cX7_init 20 = .ok (.bipush 12, 2) := by decide +kernel
theorem dX7_init_22 : decode cX7_init 22 = .ok (.newarray .int, 2) := by decide +kernel
theorem dX7_init_24 : decode cX7_init 24 = .ok (.putfield 16, 3) := by decide +kernel
theorem dX7_init_27 : decode cX7_init 27 = .ok (.aload_n 0, 1) := by decide +kernel
theorem dX7_init_28 : decode cX7_init 28 = .ok (.bipush 12, 2) := by decide +kernel
theorem dX7_init_30 : decode cX7_init 30 = .ok (.newarray .int, 2) := by decide +kernel
theorem dX7_init_32 : decode cX7_init 32 = .ok (.putfield 19, 3) := by decide +kernel
theorem dX7_init_35 : decode cX7_init 35 = .ok (.aload_n 0, 1) := by decide +kernel
theorem dX7_init_36 : decode cX7_init 36 = .ok (.bipush 12, 2) := by decide +kernel
theorem dX7_init_38 : decode cX7_init 38 = .ok (.newarray .int, 2) := by decide +kernel
theorem dX7_init_40 : decode cX7_init 40 = .ok (.putfield 22, 3) := by decide +kernel
theorem dX7_init_43 : decode cX7_init 43 = .ok (.aload_n 0, 1) := by decide +kernel
theorem dX7_init_44 : decode cX7_init 44 = .ok (.bipush 12, 2) := by decide +kernel
theorem dX7_init_46 : decode cX7_init 46 = .ok (.newarray .int, 2) := by decide +kernel
theorem dX7_init_48 : decode cX7_init 48 = .ok (.putfield 25, 3) := by decide +kernel
theorem dX7_init_51 : decode cX7_init 51 = .ok (.aload_n 0, 1) := by decide +kernel
theorem dX7_init_52 : decode cX7_init 52 = .ok (.bipush 12, 2) := by decide +kernel
theorem dX7_init_54 : decode cX7_init 54 = .ok (.newarray .int, 2) := by decide +kernel
theorem dX7_init_56 : decode cX7_init 56 = .ok (.putfield 28, 3) := by decide +kernel
theorem dX7_init_59 : decode cX7_init 59 = .ok (.aload_n 0, 1) := by decide +kernel
theorem dX7_init_60 : decode cX7_init 60 = .ok (.bipush 12, 2) := by decide +kernel
theorem dX7_init_62 : decode cX7_init 62 = .ok (.newarray .int, 2) := by decide +kernel
theorem dX7_init_64 : decode cX7_init 64 = .ok (.putfield 31, 3) := by decide +kernel
theorem dX7_init_67 : decode cX7_init 67 = .ok (.aload_n 0, 1) := by decide +kernel
theorem dX7_init_68 : decode cX7_init 68 = .ok (.bipush 12, 2) := by decide +kernel
theorem dX7_init_70 : decode cX7_init 70 = .ok (.newarray .int, 2) := by decide +kernel
theorem dX7_init_72 : decode cX7_init 72 = .ok (.putfield 34, 3) := by decide +kernel
theorem dX7_init_75 : decode cX7_init 75 = .ok (.aload_n 0, 1) := by decide +kernel
theorem dX7_init_76 : decode cX7_init 76 = .ok (.bipush 12, 2) := by decide +kernel
theorem dX7_init_78 : decode cX7_init 78 = .ok (.newarray .int, 2) := by decide +kernel
theorem dX7_init_80 : decode cX7_init 80 = .ok (.putfield 37, 3) := by decide +kernel
theorem dX7_init_83 : decode cX7_init 83 = .ok (.aload_n 0, 1) := by decide +kernel
theorem dX7_init_84 : decode cX7_init 84 = .ok (.iconst 2, 1) := by decide +kernel
theorem dX7_init_85 : decode cX7_init 85 = .ok (.newarray .int, 2) := by decide +kernel
theorem dX7_init_87 : decode cX7_init 87 = .ok (.putfield 40, 3) := by decide +kernel
theorem dX7_init_90 : decode cX7_init 90 = .ok (.aload_n 0, 1) := by decide +kernel
theorem dX7_init_91 : decode cX7_init 91 = .ok (.bipush 96, 2) := by decide +kernel
theorem dX7_init_93 : decode cX7_init 93 = .ok (.newarray .int, 2) := by decide +kernel
theorem dX7_init_95 : decode cX7_init 95 = .ok (.putfield 43, 3) := by decide +kernel
theorem dX7_init_98 : decode cX7_init 98 = .ok (.aload_n 0, 1) := by decide +kernel
theorem dX7_init_99 : decode cX7_init 99 = .ok (.bipush 48, 2) := by decide +kernel
theorem dX7_init_101 : decode cX7_init 101 = .ok (.newarray .int, 2) := by decide +kernel
theorem dX7_init_103 : decode cX7_init 103 = .ok (.putfield 46, 3) := by decide +kernel
theorem dX7_init_106 : decode cX7_init 106 = .ok (.aload_n 0, 1) := by decide +kernel
theorem dX7_init_107 : decode cX7_init 107 = .ok (.bipush 48, 2) := by decide +kernel
theorem dX7_init_109 : decode cX7_init 109 = .ok (.newarray .int, 2) := by decide +kernel
theorem dX7_init_111 : decode cX7_init 111 = .ok (.putfield 49, 3) := by decide +kernel
theorem dX7_init_114 : decode cX7_init 114 = .ok (.aload_n 0, 1) := by decide +kernel
theorem dX7_init_115 : decode cX7_init 115 = .ok (.sipush 192, 3) := by decide +kernel
theorem dX7_init_118 : decode cX7_init 118 = .ok (.newarray .int, 2) := by decide +kernel
theorem dX7_init_120 : decode cX7_init 120 = .ok (.putfield 52, 3) := by decide +kernel
theorem dX7_init_123 : decode cX7_init 123 = .ok (.aload_n 0, 1) := by decide +kernel
theorem dX7_init_124 : decode cX7_init 124 = .ok (.sipush 250, 3) := by decide +kernel
theorem dX7_init_127 : decode cX7_init 127 = .ok (.newarray .int, 2) := by decide +kernel
theorem dX7_init_129 : decode cX7_init 129 = .ok (.putfield 55, 3) := by decide +kernel
theorem dX7_init_132 : decode cX7_init 132 = .ok (.aload_n 0, 1) := by decide +kernel
theorem dX7_init_133 : decode cX7_init 133 = .ok (.iconst 4, 1) := by decide +kernel
theorem dX7_init_134 : decode cX7_init 134 = .ok (.newarray .int, 2) := by decide +kernel
theorem dX7_init_136 : decode cX7_init 136 = .ok (.putfield 58, 3) := by decide +kernel
theorem dX7_init_139 : decode cX7_init 139 = .ok (.aload_n 0, 1) := by decide +kernel
theorem dX7_init_140 : decode cX7_init 140 = .ok (.bipush 12, 2) := by decide +kernel
theorem dX7_init_142 : decode cX7_init 142 = .ok (.newarray .int, 2) := by decide +kernel
theorem dX7_init_144 : decode cX7_init 144 = .ok (.putfield 61, 3) := by decide +kernel
theorem dX7_init_147 : decode cX7_init 147 = .ok (.aload_n 0, 1) := by decide +kernel
theorem dX7_init_148 : decode cX7_init 148 = .ok (.getfield 13, 3) := by decide +kernel
theorem dX7_init_151 : decode cX7_init 151 = .ok (.iconst 1, 1) := by decide +kernel
theorem dX7_init_152 : decode cX7_init 152 = .ok (.iconst 4, 1) := by decide +kernel
theorem dX7_init_153 : decode cX7_init 153 = .ok (.iastore, 1) := by decide +kernel
theorem dX7_init_154 : decode cX7_init 154 = .ok (.aload_n 0, 1) := by decide +kernel
theorem dX7_init_155 : decode cX7_init 155 = .ok (.getfield 13, 3) := by decide +kernel
theorem dX7_init_158 : decode cX7_init 158 = .ok (.iconst 2, 1) := by decide +kernel
theorem dX7_init_159 : decode cX7_init 159 = .ok (.iconst 3, 1) := by decide +kernel
theorem dX7_init_160 : decode cX7_init 160 = .ok (.iastore, 1) := by decide +kernel
theorem dX7_init_161 : decode cX7_init 161 = .ok (.aload_n 0, 1) := by decide +kernel
theorem dX7_init_162 : decode cX7_init 162 = .ok (.getfield 13, 3) := by decide +kernel
theorem dX7_init_165 : decode cX7_init 165 = .ok (.iconst 3, 1) := by decide +kernel
theorem dX7_init_166 : decode cX7_init 166 = .ok (.sipush 200, 3) := by decide +kernel
theorem dX7_init_169 : decode cX7_init 169 = .ok (.iastore, 1) := by decide +kernel
theorem dX7_init_170 : decode cX7_init 170 = .ok (.return_, 1) := by decide +kernel
theorem dX7_no_0 : decode cX7_no 0 = .ok (.aload_n 0, 1) := by decide +kernel
theorem dX7_no_1 : decode cX7_no 1 = .ok (.getfield 7, 3) := by decide +kernel
theorem dX7_no_4 : decode cX7_no 4 = .ok (.iload_n 1, 1) := by decide +kernel
theorem dX7_no_5 : decode cX7_no 5 = .ok (.ineg, 1) := by decide +kernel
theorem dX7_no_6 : decode cX7_no 6 = .ok (.dup2, 1) := by decide +kernel
theorem dX7_no_7 : decode cX7_no 7 = .ok (.iaload, 1) := by decide +kernel
theorem dX7_no_8 : decode cX7_no 8 = .ok (.iconst 1, 1) := by decide +kernel
theorem dX7_no_9 : decode cX7_no 9 = .ok (.iadd, 1) := by decide +kernel
theorem dX7_no_10 : decode cX7_no 10 = .ok (.iastore, 1) := by decide +kernel
theorem dX7_no_11 : decode cX7_no 11 = .ok (.iload_n 1, 1) := by decide +kernel
theorem dX7_no_12 : decode cX7_no 12 = .ok (.ireturn, 1) := by decide +kernel
theorem dX7_lower_0 : decode cX7_lower 0 = .ok (.aload_n 0, 1) := by decide +kernel
theorem dX7_lower_1 : decode cX7_lower 1 = .ok (.getfield 7, 3) := by decide +kernel
theorem dX7_lower_4 : decode cX7_lower 4 = .ok (.iload_n 1, 1) := by decide +kernel
theorem dX7_lower_5 : decode cX7_lower 5 = .ok (.ineg, 1) := by decide +kernel
theorem dX7_lower_6 : decode cX7_lower 6 = .ok (.dup2, 1) := by decide +kernel
theorem dX7_lower_7 : decode cX7_lower 7 = .ok (.iaload, 1) := by decide +kernel
theorem dX7_lower_8 : decode cX7_lower 8 = .ok (.iconst 1, 1) := by decide +kernel
theorem dX7_lower_9 : decode cX7_lower 9 = .ok (.iadd, 1) := by decide +kernel
theorem dX7_lower_10 : decode cX7_lower 10 = .ok (.iastore, 1) := by decide +kernel
theorem dX7_lower_11 : decode cX7_lower 11 = .ok (.ldc 64, 2) := by decide +kernel
theorem dX7_lower_13 : decode cX7_lower 13 = .ok (.iload_n 1, 1) := by decide +kernel
theorem dX7_lower_14 : decode cX7_lower 14 = .ok (.isub, 1) := by decide +kernel
theorem dX7_lower_15 : decode cX7_lower 15 = .ok (.ireturn, 1) := by decide +kernel
theorem dX7_lowest_0 : decode cX7_lowest 0 = .ok (.aload_n 0, 1) := by decide +kernel
theorem dX7_lowest_1 : decode cX7_lowest 1 = .ok (.getfield 7, 3) := by decide +kernel
theorem dX7_lowest_4 : decode cX7_lowest 4 = .ok (.iload_n 1, 1) := by decide +kernel
theorem dX7_lowest_5 : decode cX7_lowest 5 = .ok (.ineg, 1) := by decide +kernel
theorem dX7_lowest_6 : decode cX7_lowest 6 = .ok (.dup2, 1) := by decide +kernel
theorem dX7_lowest_7 : decode cX7_lowest 7 = .ok (.iaload, 1) := by decide +kernel
theorem dX7_lowest_8 : decode cX7_lowest 8 = .ok (.iconst 1, 1) := by decide +kernel
theorem dX7_lowest_9 : decode cX7_lowest 9 = .ok (.iadd, 1) := by decide +kernel
theorem dX7_lowest_10 : decode cX7_lowest 10 = .ok (.iastore, 1) := by decide +kernel
theorem dX7_lowest_11 : decode cX7_lowest 11 = .ok (.ldc2_w 65, 3) := by decide +kernel
theorem dX7_lowest_14 : decode cX7_lowest 14 = .ok (.iload_n 1, 1) := by decide +kernel
theorem dX7_lowest_15 : decode cX7_lowest 15 = .ok (.i2l, 1) := by decide +kernel
theorem dX7_lowest_16 : decode cX7_lowest 16 = .ok (.lsub, 1) := by decide +kernel
theorem dX7_lowest_17 : decode cX7_lowest 17 = .ok (.lreturn, 1) := by decide +kernel
theorem dX7_isIn_0 : decode cX7_isIn 0 = .ok (.iload_n 0, 1) := by decide +kernel
theorem dX7_isIn_1 : decode cX7_isIn 1 = .ok (.iload_n 1, 1) := by decide +kernel
theorem dX7_isIn_2 : decode cX7_isIn 2 = .ok (.if_icmp .lt 12, 3) := by decide +kernel
theorem dX7_isIn_5 : decode cX7_isIn 5 = .ok (.iload_n 0, 1) := by decide +kernel
theorem dX7_isIn_6 : decode cX7_isIn 6 = .ok (.iload_n 2, 1) := by decide +kernel
theorem dX7_isIn_7 : decode cX7_isIn 7 = .ok (.if_icmp .gt 7, 3) := by decide +kernel
theorem dX7_isIn_10 : decode cX7_isIn 10 = .ok (.iconst 1, 1) := by decide +kernel
theorem dX7_isIn_11 : decode cX7_isIn 11 = .ok (.goto 4, 3) := by decide +kernel
theorem dX7_isIn_14 : decode cX7_isIn 14 = .ok (.iconst 0, 1) := by decide +kernel
theorem dX7_isIn_15 : decode cX7_isIn 15 = .ok (.ireturn, 1) := by decide +kernel
theorem dX7_bound_0 : decode cX7_bound 0 = .ok (.iload_n 0, 1) := by decide +kernel
theorem dX7_bound_1 : decode cX7_bound 1 = .ok (.iload_n 1, 1) := by decide +kernel
theorem dX7_bound_2 : decode cX7_bound 2 = .ok (.if_icmp .ge 8, 3) := by decide +kernel
theorem dX7_bound_5 : decode cX7_bound 5 = .ok (.bipush (-4), 2) := by decide +kernel
theorem dX7_bound_7 : decode cX7_bound 7 = .ok (.goto 14, 3) := by decide +kernel
theorem dX7_bound_10 : decode cX7_bound 10 = .ok (.iload_n 0, 1) := by decide +kernel
theorem dX7_bound_11 : decode cX7_bound 11 = .ok (.iload_n 2, 1) := by decide +kernel
theorem dX7_bound_12 : decode cX7_bound 12 = .ok (.if_icmp .le 8, 3) := by decide +kernel
theorem dX7_bound_15 : decode cX7_bound 15 = .ok (.bipush (-6), 2) := by decide +kernel
theorem dX7_bound_17 : decode cX7_bound 17 = .ok (.goto 4, 3) := by decide +kernel
theorem dX7_bound_20 : decode cX7_bound 20 = .ok (.iconst 0, 1) := by decide +kernel
theorem dX7_bound_21 : decode cX7_bound 21 = .ok (.ireturn, 1) := by decide +kernel
theorem dX7_isLayer_0 : decode cX7_isLayer 0 = .ok (.iload_n 1, 1) := by decide +kernel
theorem dX7_isLayer_1 : decode cX7_isLayer 1 = .ok (.ifCond .lt 15, 3) := by decide +kernel
theorem dX7_isLayer_4 : decode cX7_isLayer 4 = .ok (.iload_n 1, 1) := by decide +kernel
theorem dX7_isLayer_5 : decode cX7_isLayer 5 = .ok (.aload_n 0, 1) := by decide +kernel
theorem dX7_isLayer_6 : decode cX7_isLayer 6 = .ok (.getfield 67, 3) := by decide +kernel
theorem dX7_isLayer_9 : decode cX7_isLayer 9 = .ok (.if_icmp .ge 7, 3) := by decide +kernel
theorem dX7_isLayer_12 : decode cX7_isLayer 12 = .ok (.iconst 1, 1) := by decide +kernel
theorem dX7_isLayer_13 : decode cX7_isLayer 13 = .ok (.goto 4, 3) := by decide +kernel
theorem dX7_isLayer_16 : decode cX7_isLayer 16 = .ok (.iconst 0, 1) := by decide +kernel
theorem dX7_isLayer_17 : decode cX7_isLayer 17 = .ok (.ireturn, 1) := by decide +kernel
theorem dX7_isWay_0 : decode cX7_isWay 0 = .ok (.iload_n 0, 1) := by decide +kernel
theorem dX7_isWay_1 : decode cX7_isWay 1 = .ok (.ifCond .eq 8, 3) := by decide +kernel
theorem dX7_isWay_4 : decode cX7_isWay 4 = .ok (.iload_n 0, 1) := by decide +kernel
theorem dX7_isWay_5 : decode cX7_isWay 5 = .ok (.iconst 1, 1) := by decide +kernel
theorem dX7_isWay_6 : decode cX7_isWay 6 = .ok (.if_icmp .ne 7, 3) := by decide +kernel
theorem dX7_isWay_9 : decode cX7_isWay 9 = .ok (.iconst 1, 1) := by decide +kernel
theorem dX7_isWay_10 : decode cX7_isWay 10 = .ok (.goto 4, 3) := by decide +kernel
theorem dX7_isWay_13 : decode cX7_isWay 13 = .ok (.iconst 0, 1) := by decide +kernel
theorem dX7_isWay_14 : decode cX7_isWay 14 = .ok (.ireturn, 1) := by decide +kernel
set_option maxRecDepth 20000 in
theorem ggX7_isPiece_X7_isWay : GoodIn wsX7_isPiece wsX7_isWay := goodIn_r _ [5] (by decide +kernel) (by decide +kernel)
set_option maxRecDepth 20000 in
theorem gX7_isPiece_X7_isWay : GoodIn wsX7_isPiece (va_wsS RX7 71 yX7_isWay wsX7_isWay) := goodIn_app (goodIn_of _ (by decide +kernel)) ggX7_isPiece_X7_isWay
theorem dX7_isPiece_0 : decode cX7_isPiece 0 = .ok (.iload_n 1, 1) := by decide +kernel
theorem dX7_isPiece_1 : decode cX7_isPiece 1 = .ok (.invokestatic 71, 3) := by decide +kernel
theorem dX7_isPiece_4 : decode cX7_isPiece 4 = .ok (.ifCond .eq 21, 3) := by decide +kernel
theorem dX7_isPiece_7 : decode cX7_isPiece 7 = .ok (.iload_n 2, 1) := by decide +kernel
theorem dX7_isPiece_8 : decode cX7_isPiece 8 = .ok (.ifCond .lt 17, 3) := by decide +kernel
theorem dX7_isPiece_11 : decode cX7_isPiece 11 = .ok (.iload_n 2, 1) := by decide +kernel
theorem dX7_isPiece_12 : decode cX7_isPiece 12 = .ok (.aload_n 0, 1) := by decide +kernel
theorem dX7_isPiece_13 : decode cX7_isPiece 13 = .ok (.getfield 40, 3) := by decide +kernel
theorem dX7_isPiece_16 : decode cX7_isPiece 16 = .ok (.iload_n 1, 1) := by decide +kernel
theorem dX7_isPiece_17 : decode cX7_isPiece 17 = .ok (.iaload, 1) := by decide +kernel
theorem dX7_isPiece_18 : decode cX7_isPiece 18 = .ok (.if_icmp .ge 7, 3) := by decide +kernel
theorem dX7_isPiece_21 : decode cX7_isPiece 21 = .ok (.iconst 1, 1) := by decide +kernel
theorem dX7_isPiece_22 : decode cX7_isPiece 22 = .ok (.goto 4, 3) := by decide +kernel
theorem dX7_isPiece_25 : decode cX7_isPiece 25 = .ok (.iconst 0, 1) := by decide +kernel
theorem dX7_isPiece_26 : decode cX7_isPiece 26 = .ok (.ireturn, 1) := by decide +kernel
set_option maxRecDepth 20000 in
theorem ggX7_letter_X7_bound : GoodIn wsX7_letter wsX7_bound := goodIn_r _ [6] (by decide +kernel) (by decide +kernel)
set_option maxRecDepth 20000 in
theorem gX7_letter_X7_bound : GoodIn wsX7_letter (va_wsS RX7 75 yX7_bound wsX7_bound) := goodIn_app (goodIn_of _ (by decide +kernel)) ggX7_letter_X7_bound
set_option maxRecDepth 20000 in
theorem ggX7_letter_X7_no : GoodIn wsX7_letter wsX7_no := goodIn_r _ [10, 11, 12, 13, 14, 15, 16, 17, 18, 19, 20, 21, 22, 23, 24, 25, 26, 27, 28, 29, 30, 31, 32, 33, 34, 35, 36, 37, 38, 39, 40] (by decide +kernel) (by decide +kernel)
set_option maxRecDepth 20000 in
theorem gX7_letter_X7_no : GoodIn wsX7_letter (wsV RX7 82 RX7 yX7_no wsX7_no) := goodIn_app (goodIn_of _ (by decide +kernel)) ggX7_letter_X7_no
theorem dX7_letter_0 : decode cX7_letter 0 = .ok (.iload_n 1, 1) := by decide +kernel
theorem dX7_letter_1 : decode cX7_letter 1 = .ok (.iconst 0, 1) := by decide +kernel
theorem dX7_letter_2 : decode cX7_letter 2 = .ok (.sipush 255, 3) := by decide +kernel
theorem dX7_letter_5 : decode cX7_letter 5 = .ok (.invokestatic 75, 3) := by decide +kernel
theorem dX7_letter_8 : decode cX7_letter 8 = .ok (.istore_n 2, 1) := by decide +kernel
theorem dX7_letter_9 : decode cX7_letter 9 = .ok (.iload_n 2, 1) := by decide +kernel
theorem dX7_letter_10 : decode cX7_letter 10 = .ok (.ifCond .ne 15, 3) := by decide +kernel
theorem dX7_letter_13 : decode cX7_letter 13 = .ok (.aload_n 0, 1) := by decide +kernel
theorem dX7_letter_14 : decode cX7_letter 14 = .ok (.getfield 79, 3) := by decide +kernel
theorem dX7_letter_17 : decode cX7_letter 17 = .ok (.bipush 96, 2) := by decide +kernel
theorem dX7_letter_19 : decode cX7_letter 19 = .ok (.if_icmp .ne 6, 3) := by decide +kernel
theorem dX7_letter_22 : decode cX7_letter 22 = .ok (.bipush (-6), 2) := by decide +kernel
theorem dX7_letter_24 : decode cX7_letter 24 = .ok (.istore_n 2, 1) := by decide +kernel
theorem dX7_letter_25 : decode cX7_letter 25 = .ok (.iload_n 2, 1) := by decide +kernel
theorem dX7_letter_26 : decode cX7_letter 26 = .ok (.ifCond .eq 9, 3) := by decide +kernel
theorem dX7_letter_29 : decode cX7_letter 29 = .ok (.aload_n 0, 1) := by decide +kernel
theorem dX7_letter_30 : decode cX7_letter 30 = .ok (.iload_n 2, 1) := by decide +kernel
theorem dX7_letter_31 : decode cX7_letter 31 = .ok (.invokevirtual 82, 3) := by decide +kernel
theorem dX7_letter_34 : decode cX7_letter 34 = .ok (.ireturn, 1) := by decide +kernel
theorem dX7_letter_35 : decode cX7_letter 35 = .ok (.aload_n 0, 1) := by decide +kernel
theorem dX7_letter_36 : decode cX7_letter 36 = .ok (.getfield 43, 3) := by decide +kernel
theorem dX7_letter_39 : decode cX7_letter 39 = .ok (.aload_n 0, 1) := by decide +kernel
theorem dX7_letter_40 : decode cX7_letter 40 = .ok (.getfield 79, 3) := by decide +kernel
theorem dX7_letter_43 : decode cX7_letter 43 = .ok (.iload_n 1, 1) := by decide +kernel
theorem dX7_letter_44 : decode cX7_letter 44 = .ok (.iastore, 1) := by decide +kernel
theorem dX7_letter_45 : decode cX7_letter 45 = .ok (.aload_n 0, 1) := by decide +kernel
theorem dX7_letter_46 : decode cX7_letter 46 = .ok (.dup, 1) := by decide +kernel
theorem dX7_letter_47 : decode cX7_letter 47 = .ok (.getfield 79, 3) := by decide +kernel
theorem dX7_letter_50 : decode cX7_letter 50 = .ok (.iconst 1, 1) := by decide +kernel
theorem dX7_letter_51 : decode cX7_letter 51 = .ok (.iadd, 1) := by decide +kernel
theorem dX7_letter_52 : decode cX7_letter 52 = .ok (.putfield 79, 3) := by decide +kernel
theorem dX7_letter_55 : decode cX7_letter 55 = .ok (.aload_n 0, 1) := by decide +kernel
theorem dX7_letter_56 : decode cX7_letter 56 = .ok (.getfield 79, 3) := by decide +kernel
theorem dX7_letter_59 : decode cX7_letter 59 = .ok (.ireturn, 1) := by decide +kernel
theorem dX7_next_0 : decode cX7_next 0 = .ok (.aload_n 0, 1) := by decide +kernel
theorem dX7_next_1 : decode cX7_next 1 = .ok (.getfield 86, 3) := by decide +kernel
theorem dX7_next_4 : decode cX7_next 4 = .ok (.aload_n 0, 1) := by decide +kernel
theorem dX7_next_5 : decode cX7_next 5 = .ok (.getfield 79, 3) := by decide +kernel
theorem dX7_next_8 : decode cX7_next 8 = .ok (.if_icmp .ge 15, 3) := by decide +kernel
theorem dX7_next_11 : decode cX7_next 11 = .ok (.aload_n 0, 1) := by decide +kernel
theorem dX7_next_12 : decode cX7_next 12 = .ok (.getfield 43, 3) := by decide +kernel
theorem dX7_next_15 : decode cX7_next 15 = .ok (.aload_n 0, 1) := by decide +kernel
theorem dX7_next_16 : decode cX7_next 16 = .ok (.getfield 86, 3) := by decide +kernel
theorem dX7_next_19 : decode cX7_next 19 = .ok (.iaload, 1) := by decide +kernel
theorem dX7_next_20 : decode cX7_next 20 = .ok (.goto 4, 3) := by decide +kernel
theorem dX7_next_23 : decode cX7_next 23 = .ok (.iconst (-1), 1) := by decide +kernel
theorem dX7_next_24 : decode cX7_next 24 = .ok (.ireturn, 1) := by decide +kernel
set_option maxRecDepth 20000 in
theorem ggX7_readsNumber_X7_next : GoodIn wsX7_readsNumber wsX7_next := goodIn_r _ [7, 1, 8, 9, 13, 14, 15, 16, 17, 18, 19, 20, 21, 22, 23, 24, 25, 26, 27, 28, 29, 30, 31, 32, 33, 34, 35, 36, 37, 38, 39, 40, 41] (by decide +kernel) (by decide +kernel)
set_option maxRecDepth 20000 in
theorem gX7_readsNumber_X7_next : GoodIn wsX7_readsNumber (wsV RX7 89 RX7 yX7_next wsX7_next) := goodIn_app (goodIn_of _ (by decide +kernel)) ggX7_readsNumber_X7_next
set_option maxRecDepth 20000 in
theorem ggX7_readsNumber_X7_isIn : GoodIn wsX7_readsNumber wsX7_isIn := goodIn_r _ [12] (by decide +kernel) (by decide +kernel)
set_option maxRecDepth 20000 in
theorem gX7_readsNumber_X7_isIn : GoodIn wsX7_readsNumber (va_wsS RX7 93 yX7_isIn wsX7_isIn) := goodIn_app (goodIn_of _ (by decide +kernel)) ggX7_readsNumber_X7_isIn
theorem dX7_readsNumber_0 : decode cX7_readsNumber 0 = .ok (.iconst 0, 1) := by decide +kernel
theorem dX7_readsNumber_1 : decode cX7_readsNumber 1 = .ok (.istore 4, 2) := by decide +kernel
theorem dX7_readsNumber_3 : decode cX7_readsNumber 3 = .ok (.iconst 0, 1) := by decide +kernel
theorem dX7_readsNumber_4 : decode cX7_readsNumber 4 = .ok (.istore 5, 2) := by decide +kernel
theorem dX7_readsNumber_6 : decode cX7_readsNumber 6 = .ok (.iload 5, 2) := by decide +kernel
theorem dX7_readsNumber_8 : decode cX7_readsNumber 8 = .ok (.iload_n 3, 1) := by decide +kernel
theorem dX7_readsNumber_9 : decode cX7_readsNumber 9 = .ok (.if_icmp .ge 48, 3) := by decide +kernel
theorem dX7_readsNumber_12 : decode cX7_readsNumber 12 = .ok (.aload_n 0, 1) := by decide +kernel
theorem dX7_readsNumber_13 : decode cX7_readsNumber 13 = .ok (.invokevirtual 89, 3) := by decide +kernel
theorem dX7_readsNumber_16 : decode cX7_readsNumber 16 = .ok (.bipush 48, 2) := by decide +kernel
theorem dX7_readsNumber_18 : decode cX7_readsNumber 18 = .ok (.bipush 57, 2) := by decide +kernel
theorem dX7_readsNumber_20 : decode cX7_readsNumber 20 = .ok (.invokestatic 93, 3) := by decide +kernel
theorem dX7_readsNumber_23 : decode cX7_readsNumber 23 = .ok (.ifCond .eq 34, 3) := by decide +kernel
theorem dX7_readsNumber_26 : decode cX7_readsNumber 26 = .ok (.bipush 10, 2) := by decide +kernel
theorem dX7_readsNumber_28 : decode cX7_readsNumber 28 = .ok (.iload 4, 2) := by decide +kernel
theorem dX7_readsNumber_30 : decode cX7_readsNumber 30 = .ok (.imul, 1) := by decide +kernel
theorem dX7_readsNumber_31 : decode cX7_readsNumber 31 = .ok (.aload_n 0, 1) := by decide +kernel
theorem dX7_readsNumber_32 : decode cX7_readsNumber 32 = .ok (.invokevirtual 89, 3) := by decide +kernel
theorem dX7_readsNumber_35 : decode cX7_readsNumber 35 = .ok (.iadd, 1) := by decide +kernel
theorem dX7_readsNumber_36 : decode cX7_readsNumber 36 = .ok (.bipush 48, 2) := by decide +kernel
theorem dX7_readsNumber_38 : decode cX7_readsNumber 38 = .ok (.isub, 1) := by decide +kernel
theorem dX7_readsNumber_39 : decode cX7_readsNumber 39 = .ok (.istore 4, 2) := by decide +kernel
theorem dX7_readsNumber_41 : decode cX7_readsNumber 41 = .ok (.aload_n 0, 1) := by decide +kernel
theorem dX7_readsNumber_42 : decode cX7_readsNumber 42 = .ok (.dup, 1) := by decide +kernel
theorem dX7_readsNumber_43 : decode cX7_readsNumber 43 = .ok (.getfield 86, 3) := by decide +kernel
theorem dX7_readsNumber_46 : decode cX7_readsNumber 46 = .ok (.iconst 1, 1) := by decide +kernel
theorem dX7_readsNumber_47 : decode cX7_readsNumber 47 = .ok (.iadd, 1) := by decide +kernel
theorem dX7_readsNumber_48 : decode cX7_readsNumber 48 = .ok (.putfield 86, 3) := by decide +kernel
theorem dX7_readsNumber_51 : decode cX7_readsNumber 51 = .ok (.iinc 5 1, 3) := by decide +kernel
theorem dX7_readsNumber_54 : decode cX7_readsNumber 54 = .ok (.goto (-48), 3) := by decide +kernel
theorem dX7_readsNumber_57 : decode cX7_readsNumber 57 = .ok (.aload_n 0, 1) := by decide +kernel
theorem dX7_readsNumber_58 : decode cX7_readsNumber 58 = .ok (.getfield 52, 3) := by decide +kernel
theorem dX7_readsNumber_61 : decode cX7_readsNumber 61 = .ok (.iload_n 1, 1) := by decide +kernel
theorem dX7_readsNumber_62 : decode cX7_readsNumber 62 = .ok (.iload 4, 2) := by decide +kernel
theorem dX7_readsNumber_64 : decode cX7_readsNumber 64 = .ok (.iastore, 1) := by decide +kernel
theorem dX7_readsNumber_65 : decode cX7_readsNumber 65 = .ok (.iload 5, 2) := by decide +kernel
theorem dX7_readsNumber_67 : decode cX7_readsNumber 67 = .ok (.iload_n 2, 1) := by decide +kernel
theorem dX7_readsNumber_68 : decode cX7_readsNumber 68 = .ok (.if_icmp .lt 7, 3) := by decide +kernel
theorem dX7_readsNumber_71 : decode cX7_readsNumber 71 = .ok (.iconst 1, 1) := by decide +kernel
theorem dX7_readsNumber_72 : decode cX7_readsNumber 72 = .ok (.goto 4, 3) := by decide +kernel
theorem dX7_readsNumber_75 : decode cX7_readsNumber 75 = .ok (.iconst 0, 1) := by decide +kernel
theorem dX7_readsNumber_76 : decode cX7_readsNumber 76 = .ok (.ireturn, 1) := by decide +kernel
theorem dX7_layerOf_0 : decode cX7_layerOf 0 = .ok (.iload_n 0, 1) := by decide +kernel
theorem dX7_layerOf_1 : decode cX7_layerOf 1 = .ok (.tableswitch 118 98 119 #[105, 118, 118, 118, 118, 118, 111, 118, 118, 118, 103, 115, 118, 107, 118, 118, 118, 118, 113, 118, 118, 109], 103) := by decide +kernel
theorem dX7_layerOf_104 : decode cX7_layerOf 104 = .ok (.iconst 0, 1) := by decide +kernel
theorem dX7_layerOf_105 : decode cX7_layerOf 105 = .ok (.ireturn, 1) := by decide +kernel
theorem dX7_layerOf_106 : decode cX7_layerOf 106 = .ok (.iconst 1, 1) := by decide +kernel
theorem dX7_layerOf_107 : decode cX7_layerOf 107 = .ok (.ireturn, 1) := by decide +kernel
theorem dX7_layerOf_108 : decode cX7_layerOf 108 = .ok (.iconst 2, 1) := by decide +kernel
theorem dX7_layerOf_109 : decode cX7_layerOf 109 = .ok (.ireturn, 1) := by decide +kernel
theorem dX7_layerOf_110 : decode cX7_layerOf 110 = .ok (.iconst 3, 1) := by decide +kernel
theorem dX7_layerOf_111 : decode cX7_layerOf 111 = .ok (.ireturn, 1) := by decide +kernel
theorem dX7_layerOf_112 : decode cX7_layerOf 112 = .ok (.iconst 4, 1) := by decide +kernel
theorem dX7_layerOf_113 : decode cX7_layerOf 113 = .ok (.ireturn, 1) := by decide +kernel
theorem dX7_layerOf_114 : decode cX7_layerOf 114 = .ok (.iconst 5, 1) := by decide +kernel
theorem dX7_layerOf_115 : decode cX7_layerOf 115 = .ok (.ireturn, 1) := by decide +kernel
theorem dX7_layerOf_116 : decode cX7_layerOf 116 = .ok (.bipush 6, 2) := by decide +kernel
theorem dX7_layerOf_118 : decode cX7_layerOf 118 = .ok (.ireturn, 1) := by decide +kernel
theorem dX7_layerOf_119 : decode cX7_layerOf 119 = .ok (.iconst (-1), 1) := by decide +kernel
theorem dX7_layerOf_120 : decode cX7_layerOf 120 = .ok (.ireturn, 1) := by decide +kernel
theorem dX7_pieceOf_0 : decode cX7_pieceOf 0 = .ok (.iload_n 0, 1) := by decide +kernel
theorem dX7_pieceOf_1 : decode cX7_pieceOf 1 = .ok (.tableswitch 99 98 115 #[93, 99, 89, 99, 99, 97, 99, 99, 91, 99, 99, 99, 99, 99, 99, 99, 95, 87], 87) := by decide +kernel
theorem dX7_pieceOf_88 : decode cX7_pieceOf 88 = .ok (.iconst 0, 1) := by decide +kernel
theorem dX7_pieceOf_89 : decode cX7_pieceOf 89 = .ok (.ireturn, 1) := by decide +kernel
theorem dX7_pieceOf_90 : decode cX7_pieceOf 90 = .ok (.iconst 1, 1) := by decide +kernel
theorem dX7_pieceOf_91 : decode cX7_pieceOf 91 = .ok (.ireturn, 1) := by decide +kernel
theorem dX7_pieceOf_92 : decode cX7_pieceOf 92 = .ok (.iconst 2, 1) := by decide +kernel
theorem dX7_pieceOf_93 : decode cX7_pieceOf 93 = .ok (.ireturn, 1) := by decide +kernel
theorem dX7_pieceOf_94 : decode cX7_pieceOf 94 = .ok (.iconst 3, 1) := by decide +kernel
theorem dX7_pieceOf_95 : decode cX7_pieceOf 95 = .ok (.ireturn, 1) := by decide +kernel
theorem dX7_pieceOf_96 : decode cX7_pieceOf 96 = .ok (.iconst 4, 1) := by decide +kernel
theorem dX7_pieceOf_97 : decode cX7_pieceOf 97 = .ok (.ireturn, 1) := by decide +kernel
theorem dX7_pieceOf_98 : decode cX7_pieceOf 98 = .ok (.iconst 5, 1) := by decide +kernel
theorem dX7_pieceOf_99 : decode cX7_pieceOf 99 = .ok (.ireturn, 1) := by decide +kernel
theorem dX7_pieceOf_100 : decode cX7_pieceOf 100 = .ok (.iconst (-1), 1) := by decide +kernel
theorem dX7_pieceOf_101 : decode cX7_pieceOf 101 = .ok (.ireturn, 1) := by decide +kernel
set_option maxRecDepth 20000 in
theorem ggX7_readsLayer_X7_next : GoodIn wsX7_readsLayer wsX7_next := goodIn_r _ [7, 2, 8, 9, 20, 21, 22, 23, 24, 25, 26, 27, 28, 29, 30, 31, 32, 33, 34, 35, 36, 37, 38, 39, 40, 41, 42, 43, 44, 45, 46, 47, 48] (by decide +kernel) (by decide +kernel)
set_option maxRecDepth 20000 in
theorem gX7_readsLayer_X7_next : GoodIn wsX7_readsLayer (wsV RX7 89 RX7 yX7_next wsX7_next) := goodIn_app (goodIn_of _ (by decide +kernel)) ggX7_readsLayer_X7_next
set_option maxRecDepth 20000 in
theorem ggX7_readsLayer_X7_layerOf : GoodIn wsX7_readsLayer wsX7_layerOf := goodIn_r _ [12] (by decide +kernel) (by decide +kernel)
set_option maxRecDepth 20000 in
theorem gX7_readsLayer_X7_layerOf : GoodIn wsX7_readsLayer (va_wsS RX7 97 yX7_layerOf wsX7_layerOf) := goodIn_app (goodIn_of _ (by decide +kernel)) ggX7_readsLayer_X7_layerOf
set_option maxRecDepth 20000 in
theorem ggX7_readsLayer_X7_readsNumber : GoodIn wsX7_readsLayer wsX7_readsNumber := goodIn_r _ [16, 2, 1, 3, 4, 5, 6, 7, 8, 9, 17, 18, 19, 20, 21, 22, 23, 24, 25, 26, 27, 28, 29, 30, 31, 32, 33, 34, 35, 36, 37, 38, 39, 40, 41, 42, 43, 44, 45, 46, 47, 48] (by decide +kernel) (by decide +kernel)
set_option maxRecDepth 20000 in
theorem gX7_readsLayer_X7_readsNumber : GoodIn wsX7_readsLayer (wsV RX7 100 RX7 yX7_readsNumber wsX7_readsNumber) := goodIn_app (goodIn_of _ (by decide +kernel)) ggX7_readsLayer_X7_readsNumber
theorem dX7_readsLayer_0 : decode cX7_readsLayer 0 = .ok (.aload_n 0, 1) := by decide +kernel
theorem dX7_readsLayer_1 : decode cX7_readsLayer 1 = .ok (.getfield 52, 3) := by decide +kernel
theorem dX7_readsLayer_4 : decode cX7_readsLayer 4 = .ok (.iload_n 1, 1) := by decide +kernel
theorem dX7_readsLayer_5 : decode cX7_readsLayer 5 = .ok (.aload_n 0, 1) := by decide +kernel
theorem dX7_readsLayer_6 : decode cX7_readsLayer 6 = .ok (.invokevirtual 89, 3) := by decide +kernel
theorem dX7_readsLayer_9 : decode cX7_readsLayer 9 = .ok (.invokestatic 97, 3) := by decide +kernel
theorem dX7_readsLayer_12 : decode cX7_readsLayer 12 = .ok (.iastore, 1) := by decide +kernel
theorem dX7_readsLayer_13 : decode cX7_readsLayer 13 = .ok (.aload_n 0, 1) := by decide +kernel
theorem dX7_readsLayer_14 : decode cX7_readsLayer 14 = .ok (.getfield 52, 3) := by decide +kernel
theorem dX7_readsLayer_17 : decode cX7_readsLayer 17 = .ok (.iload_n 1, 1) := by decide +kernel
theorem dX7_readsLayer_18 : decode cX7_readsLayer 18 = .ok (.iaload, 1) := by decide +kernel
theorem dX7_readsLayer_19 : decode cX7_readsLayer 19 = .ok (.ifCond .ge 5, 3) := by decide +kernel
theorem dX7_readsLayer_22 : decode cX7_readsLayer 22 = .ok (.iconst 0, 1) := by decide +kernel
theorem dX7_readsLayer_23 : decode cX7_readsLayer 23 = .ok (.ireturn, 1) := by decide +kernel
theorem dX7_readsLayer_24 : decode cX7_readsLayer 24 = .ok (.aload_n 0, 1) := by decide +kernel
theorem dX7_readsLayer_25 : decode cX7_readsLayer 25 = .ok (.dup, 1) := by decide +kernel
theorem dX7_readsLayer_26 : decode cX7_readsLayer 26 = .ok (.getfield 86, 3) := by decide +kernel
theorem dX7_readsLayer_29 : decode cX7_readsLayer 29 = .ok (.iconst 1, 1) := by decide +kernel
theorem dX7_readsLayer_30 : decode cX7_readsLayer 30 = .ok (.iadd, 1) := by decide +kernel
theorem dX7_readsLayer_31 : decode cX7_readsLayer 31 = .ok (.putfield 86, 3) := by decide +kernel
theorem dX7_readsLayer_34 : decode cX7_readsLayer 34 = .ok (.aload_n 0, 1) := by decide +kernel
theorem dX7_readsLayer_35 : decode cX7_readsLayer 35 = .ok (.iload_n 1, 1) := by decide +kernel
theorem dX7_readsLayer_36 : decode cX7_readsLayer 36 = .ok (.iconst 1, 1) := by decide +kernel
theorem dX7_readsLayer_37 : decode cX7_readsLayer 37 = .ok (.iadd, 1) := by decide +kernel
theorem dX7_readsLayer_38 : decode cX7_readsLayer 38 = .ok (.iconst 2, 1) := by decide +kernel
theorem dX7_readsLayer_39 : decode cX7_readsLayer 39 = .ok (.iconst 2, 1) := by decide +kernel
theorem dX7_readsLayer_40 : decode cX7_readsLayer 40 = .ok (.invokevirtual 100, 3) := by decide +kernel
theorem dX7_readsLayer_43 : decode cX7_readsLayer 43 = .ok (.ifCond .eq 15, 3) := by decide +kernel
theorem dX7_readsLayer_46 : decode cX7_readsLayer 46 = .ok (.aload_n 0, 1) := by decide +kernel
theorem dX7_readsLayer_47 : decode cX7_readsLayer 47 = .ok (.iload_n 1, 1) := by decide +kernel
theorem dX7_readsLayer_48 : decode cX7_readsLayer 48 = .ok (.iconst 2, 1) := by decide +kernel
theorem dX7_readsLayer_49 : decode cX7_readsLayer 49 = .ok (.iadd, 1) := by decide +kernel
theorem dX7_readsLayer_50 : decode cX7_readsLayer 50 = .ok (.iconst 1, 1) := by decide +kernel
theorem dX7_readsLayer_51 : decode cX7_readsLayer 51 = .ok (.iconst 1, 1) := by decide +kernel
theorem dX7_readsLayer_52 : decode cX7_readsLayer 52 = .ok (.invokevirtual 100, 3) := by decide +kernel
theorem dX7_readsLayer_55 : decode cX7_readsLayer 55 = .ok (.ifCond .ne 5, 3) := by decide +kernel
theorem dX7_readsLayer_58 : decode cX7_readsLayer 58 = .ok (.iconst 0, 1) := by decide +kernel
theorem dX7_readsLayer_59 : decode cX7_readsLayer 59 = .ok (.ireturn, 1) := by decide +kernel
theorem dX7_readsLayer_60 : decode cX7_readsLayer 60 = .ok (.aload_n 0, 1) := by decide +kernel
theorem dX7_readsLayer_61 : decode cX7_readsLayer 61 = .ok (.invokevirtual 89, 3) := by decide +kernel
theorem dX7_readsLayer_64 : decode cX7_readsLayer 64 = .ok (.bipush 43, 2) := by decide +kernel
theorem dX7_readsLayer_66 : decode cX7_readsLayer 66 = .ok (.if_icmp .ne 7, 3) := by decide +kernel
theorem dX7_readsLayer_69 : decode cX7_readsLayer 69 = .ok (.iconst 1, 1) := by decide +kernel
theorem dX7_readsLayer_70 : decode cX7_readsLayer 70 = .ok (.goto 17, 3) := by decide +kernel
theorem dX7_readsLayer_73 : decode cX7_readsLayer 73 = .ok (.aload_n 0, 1) := by decide +kernel
theorem dX7_readsLayer_74 : decode cX7_readsLayer 74 = .ok (.invokevirtual 89, 3) := by decide +kernel
theorem dX7_readsLayer_77 : decode cX7_readsLayer 77 = .ok (.bipush 45, 2) := by decide +kernel
theorem dX7_readsLayer_79 : decode cX7_readsLayer 79 = .ok (.if_icmp .ne 7, 3) := by decide +kernel
theorem dX7_readsLayer_82 : decode cX7_readsLayer 82 = .ok (.iconst (-1), 1) := by decide +kernel
theorem dX7_readsLayer_83 : decode cX7_readsLayer 83 = .ok (.goto 4, 3) := by decide +kernel
theorem dX7_readsLayer_86 : decode cX7_readsLayer 86 = .ok (.iconst 0, 1) := by decide +kernel
theorem dX7_readsLayer_87 : decode cX7_readsLayer 87 = .ok (.istore_n 2, 1) := by decide +kernel
theorem dX7_readsLayer_88 : decode cX7_readsLayer 88 = .ok (.iload_n 2, 1) := by decide +kernel
theorem dX7_readsLayer_89 : decode cX7_readsLayer 89 = .ok (.ifCond .ne 5, 3) := by decide +kernel
theorem dX7_readsLayer_92 : decode cX7_readsLayer 92 = .ok (.iconst 0, 1) := by decide +kernel
theorem dX7_readsLayer_93 : decode cX7_readsLayer 93 = .ok (.ireturn, 1) := by decide +kernel
theorem dX7_readsLayer_94 : decode cX7_readsLayer 94 = .ok (.aload_n 0, 1) := by decide +kernel
theorem dX7_readsLayer_95 : decode cX7_readsLayer 95 = .ok (.dup, 1) := by decide +kernel
theorem dX7_readsLayer_96 : decode cX7_readsLayer 96 = .ok (.getfield 86, 3) := by decide +kernel
theorem dX7_readsLayer_99 : decode cX7_readsLayer 99 = .ok (.iconst 1, 1) := by decide +kernel
theorem dX7_readsLayer_100 : decode cX7_readsLayer 100 = .ok (.iadd, 1) := by decide +kernel
theorem dX7_readsLayer_101 : decode cX7_readsLayer 101 = .ok (.putfield 86, 3) := by decide +kernel
theorem dX7_readsLayer_104 : decode cX7_readsLayer 104 = .ok (.aload_n 0, 1) := by decide +kernel
theorem dX7_readsLayer_105 : decode cX7_readsLayer 105 = .ok (.iload_n 1, 1) := by decide +kernel
theorem dX7_readsLayer_106 : decode cX7_readsLayer 106 = .ok (.iconst 3, 1) := by decide +kernel
theorem dX7_readsLayer_107 : decode cX7_readsLayer 107 = .ok (.iadd, 1) := by decide +kernel
theorem dX7_readsLayer_108 : decode cX7_readsLayer 108 = .ok (.iconst 1, 1) := by decide +kernel
theorem dX7_readsLayer_109 : decode cX7_readsLayer 109 = .ok (.iconst 1, 1) := by decide +kernel
theorem dX7_readsLayer_110 : decode cX7_readsLayer 110 = .ok (.invokevirtual 100, 3) := by decide +kernel
theorem dX7_readsLayer_113 : decode cX7_readsLayer 113 = .ok (.ifCond .ne 5, 3) := by decide +kernel
theorem dX7_readsLayer_116 : decode cX7_readsLayer 116 = .ok (.iconst 0, 1) := by decide +kernel
theorem dX7_readsLayer_117 : decode cX7_readsLayer 117 = .ok (.ireturn, 1) := by decide +kernel
theorem dX7_readsLayer_118 : decode cX7_readsLayer 118 = .ok (.aload_n 0, 1) := by decide +kernel
theorem dX7_readsLayer_119 : decode cX7_readsLayer 119 = .ok (.getfield 52, 3) := by decide +kernel
theorem dX7_readsLayer_122 : decode cX7_readsLayer 122 = .ok (.iload_n 1, 1) := by decide +kernel
theorem dX7_readsLayer_123 : decode cX7_readsLayer 123 = .ok (.iconst 3, 1) := by decide +kernel
theorem dX7_readsLayer_124 : decode cX7_readsLayer 124 = .ok (.iadd, 1) := by decide +kernel
theorem dX7_readsLayer_125 : decode cX7_readsLayer 125 = .ok (.dup2, 1) := by decide +kernel
theorem dX7_readsLayer_126 : decode cX7_readsLayer 126 = .ok (.iaload, 1) := by decide +kernel
theorem dX7_readsLayer_127 : decode cX7_readsLayer 127 = .ok (.iload_n 2, 1) := by decide +kernel
theorem dX7_readsLayer_128 : decode cX7_readsLayer 128 = .ok (.imul, 1) := by decide +kernel
theorem dX7_readsLayer_129 : decode cX7_readsLayer 129 = .ok (.iastore, 1) := by decide +kernel
theorem dX7_readsLayer_130 : decode cX7_readsLayer 130 = .ok (.iconst 1, 1) := by decide +kernel
theorem dX7_readsLayer_131 : decode cX7_readsLayer 131 = .ok (.ireturn, 1) := by decide +kernel
set_option maxRecDepth 20000 in
theorem ggX7_readsPiece_X7_readsNumber : GoodIn wsX7_readsPiece wsX7_readsNumber := goodIn_r _ [7, 2, 1, 8, 9, 10, 6, 11, 12, 13, 14, 15, 16, 20, 21, 22, 23, 24, 25, 26, 27, 28, 29, 30, 31, 32, 33, 34, 35, 36, 37, 38, 39, 40, 41, 42, 43, 44, 45, 46, 47, 48] (by decide +kernel) (by decide +kernel)
set_option maxRecDepth 20000 in
theorem gX7_readsPiece_X7_readsNumber : GoodIn wsX7_readsPiece (wsV RX7 100 RX7 yX7_readsNumber wsX7_readsNumber) := goodIn_app (goodIn_of _ (by decide +kernel)) ggX7_readsPiece_X7_readsNumber
set_option maxRecDepth 20000 in
theorem ggX7_readsPiece_X7_next : GoodIn wsX7_readsPiece wsX7_next := goodIn_r _ [11, 2, 12, 13, 20, 21, 22, 23, 24, 25, 26, 27, 28, 29, 30, 31, 32, 33, 34, 35, 36, 37, 38, 39, 40, 41, 42, 43, 44, 45, 46, 47, 48] (by decide +kernel) (by decide +kernel)
set_option maxRecDepth 20000 in
theorem gX7_readsPiece_X7_next : GoodIn wsX7_readsPiece (wsV RX7 89 RX7 yX7_next wsX7_next) := goodIn_app (goodIn_of _ (by decide +kernel)) ggX7_readsPiece_X7_next
set_option maxRecDepth 20000 in
theorem ggX7_readsPiece_X7_pieceOf : GoodIn wsX7_readsPiece wsX7_pieceOf := goodIn_r _ [19] (by decide +kernel) (by decide +kernel)
set_option maxRecDepth 20000 in
theorem gX7_readsPiece_X7_pieceOf : GoodIn wsX7_readsPiece (va_wsS RX7 103 yX7_pieceOf wsX7_pieceOf) := goodIn_app (goodIn_of _ (by decide +kernel)) ggX7_readsPiece_X7_pieceOf
theorem dX7_readsPiece_0 : decode cX7_readsPiece 0 = .ok (.aload_n 0, 1) := by decide +kernel
theorem dX7_readsPiece_1 : decode cX7_readsPiece 1 = .ok (.iload_n 1, 1) := by decide +kernel
theorem dX7_readsPiece_2 : decode cX7_readsPiece 2 = .ok (.iconst 1, 1) := by decide +kernel
theorem dX7_readsPiece_3 : decode cX7_readsPiece 3 = .ok (.iconst 1, 1) := by decide +kernel
theorem dX7_readsPiece_4 : decode cX7_readsPiece 4 = .ok (.invokevirtual 100, 3) := by decide +kernel
theorem dX7_readsPiece_7 : decode cX7_readsPiece 7 = .ok (.ifCond .ne 5, 3) := by decide +kernel
theorem dX7_readsPiece_10 : decode cX7_readsPiece 10 = .ok (.iconst 0, 1) := by decide +kernel
theorem dX7_readsPiece_11 : decode cX7_readsPiece 11 = .ok (.ireturn, 1) := by decide +kernel
theorem dX7_readsPiece_12 : decode cX7_readsPiece 12 = .ok (.aload_n 0, 1) := by decide +kernel
theorem dX7_readsPiece_13 : decode cX7_readsPiece 13 = .ok (.getfield 52, 3) := by decide +kernel
theorem dX7_readsPiece_16 : decode cX7_readsPiece 16 = .ok (.iload_n 1, 1) := by decide +kernel
theorem dX7_readsPiece_17 : decode cX7_readsPiece 17 = .ok (.iconst 1, 1) := by decide +kernel
theorem dX7_readsPiece_18 : decode cX7_readsPiece 18 = .ok (.iadd, 1) := by decide +kernel
theorem dX7_readsPiece_19 : decode cX7_readsPiece 19 = .ok (.aload_n 0, 1) := by decide +kernel
theorem dX7_readsPiece_20 : decode cX7_readsPiece 20 = .ok (.invokevirtual 89, 3) := by decide +kernel
theorem dX7_readsPiece_23 : decode cX7_readsPiece 23 = .ok (.invokestatic 103, 3) := by decide +kernel
theorem dX7_readsPiece_26 : decode cX7_readsPiece 26 = .ok (.iastore, 1) := by decide +kernel
theorem dX7_readsPiece_27 : decode cX7_readsPiece 27 = .ok (.aload_n 0, 1) := by decide +kernel
theorem dX7_readsPiece_28 : decode cX7_readsPiece 28 = .ok (.getfield 52, 3) := by decide +kernel
theorem dX7_readsPiece_31 : decode cX7_readsPiece 31 = .ok (.iload_n 1, 1) := by decide +kernel
theorem dX7_readsPiece_32 : decode cX7_readsPiece 32 = .ok (.iconst 1, 1) := by decide +kernel
theorem dX7_readsPiece_33 : decode cX7_readsPiece 33 = .ok (.iadd, 1) := by decide +kernel
theorem dX7_readsPiece_34 : decode cX7_readsPiece 34 = .ok (.iaload, 1) := by decide +kernel
theorem dX7_readsPiece_35 : decode cX7_readsPiece 35 = .ok (.ifCond .ge 5, 3) := by decide +kernel
theorem dX7_readsPiece_38 : decode cX7_readsPiece 38 = .ok (.iconst 0, 1) := by decide +kernel
theorem dX7_readsPiece_39 : decode cX7_readsPiece 39 = .ok (.ireturn, 1) := by decide +kernel
theorem dX7_readsPiece_40 : decode cX7_readsPiece 40 = .ok (.aload_n 0, 1) := by decide +kernel
theorem dX7_readsPiece_41 : decode cX7_readsPiece 41 = .ok (.dup, 1) := by decide +kernel
theorem dX7_readsPiece_42 : decode cX7_readsPiece 42 = .ok (.getfield 86, 3) := by decide +kernel
theorem dX7_readsPiece_45 : decode cX7_readsPiece 45 = .ok (.iconst 1, 1) := by decide +kernel
theorem dX7_readsPiece_46 : decode cX7_readsPiece 46 = .ok (.iadd, 1) := by decide +kernel
theorem dX7_readsPiece_47 : decode cX7_readsPiece 47 = .ok (.putfield 86, 3) := by decide +kernel
theorem dX7_readsPiece_50 : decode cX7_readsPiece 50 = .ok (.aload_n 0, 1) := by decide +kernel
theorem dX7_readsPiece_51 : decode cX7_readsPiece 51 = .ok (.iload_n 1, 1) := by decide +kernel
theorem dX7_readsPiece_52 : decode cX7_readsPiece 52 = .ok (.iconst 2, 1) := by decide +kernel
theorem dX7_readsPiece_53 : decode cX7_readsPiece 53 = .ok (.iadd, 1) := by decide +kernel
theorem dX7_readsPiece_54 : decode cX7_readsPiece 54 = .ok (.iconst 2, 1) := by decide +kernel
theorem dX7_readsPiece_55 : decode cX7_readsPiece 55 = .ok (.iconst 2, 1) := by decide +kernel
theorem dX7_readsPiece_56 : decode cX7_readsPiece 56 = .ok (.invokevirtual 100, 3) := by decide +kernel
theorem dX7_readsPiece_59 : decode cX7_readsPiece 59 = .ok (.ifCond .eq 19, 3) := by decide +kernel
theorem dX7_readsPiece_62 : decode cX7_readsPiece 62 = .ok (.aload_n 0, 1) := by decide +kernel
theorem dX7_readsPiece_63 : decode cX7_readsPiece 63 = .ok (.iload_n 1, 1) := by decide +kernel
theorem dX7_readsPiece_64 : decode cX7_readsPiece 64 = .ok (.iconst 3, 1) := by decide +kernel
theorem dX7_readsPiece_65 : decode cX7_readsPiece 65 = .ok (.iadd, 1) := by decide +kernel
theorem dX7_readsPiece_66 : decode cX7_readsPiece 66 = .ok (.iconst 1, 1) := by decide +kernel
theorem dX7_readsPiece_67 : decode cX7_readsPiece 67 = .ok (.iconst 1, 1) := by decide +kernel
theorem dX7_readsPiece_68 : decode cX7_readsPiece 68 = .ok (.invokevirtual 100, 3) := by decide +kernel
theorem dX7_readsPiece_71 : decode cX7_readsPiece 71 = .ok (.ifCond .eq 7, 3) := by decide +kernel
theorem dX7_readsPiece_74 : decode cX7_readsPiece 74 = .ok (.iconst 1, 1) := by decide +kernel
theorem dX7_readsPiece_75 : decode cX7_readsPiece 75 = .ok (.goto 4, 3) := by decide +kernel
theorem dX7_readsPiece_78 : decode cX7_readsPiece 78 = .ok (.iconst 0, 1) := by decide +kernel
theorem dX7_readsPiece_79 : decode cX7_readsPiece 79 = .ok (.ireturn, 1) := by decide +kernel
set_option maxRecDepth 20000 in
theorem ggX7_readsAll_X7_readsLayer : GoodIn wsX7_readsAll wsX7_readsLayer := goodIn_r _ [5, 6, 7, 8, 9, 10, 4, 11, 12, 13, 14, 15, 16, 17, 18, 19, 20, 21, 22, 23, 31, 32, 33, 34, 35, 36, 37, 38, 39, 40, 41, 42, 43, 44, 45, 46, 47, 48, 49, 50, 51, 52, 53, 54, 55, 56, 57, 58, 59] (by decide +kernel) (by decide +kernel)
set_option maxRecDepth 20000 in
theorem gX7_readsAll_X7_readsLayer : GoodIn wsX7_readsAll (wsV RX7 106 RX7 yX7_readsLayer wsX7_readsLayer) := goodIn_app (goodIn_of _ (by decide +kernel)) ggX7_readsAll_X7_readsLayer
set_option maxRecDepth 20000 in
theorem ggX7_readsAll_X7_readsPiece : GoodIn wsX7_readsAll wsX7_readsPiece := goodIn_r _ [27, 6, 7, 17, 18, 19, 4, 20, 8, 9, 10, 11, 12, 13, 21, 22, 23, 28, 29, 30, 31, 32, 33, 34, 35, 36, 37, 38, 39, 40, 41, 42, 43, 44, 45, 46, 47, 48, 49, 50, 51, 52, 53, 54, 55, 56, 57, 58, 59] (by decide +kernel) (by decide +kernel)
set_option maxRecDepth 20000 in
theorem gX7_readsAll_X7_readsPiece : GoodIn wsX7_readsAll (wsV RX7 109 RX7 yX7_readsPiece wsX7_readsPiece) := goodIn_app (goodIn_of _ (by decide +kernel)) ggX7_readsAll_X7_readsPiece
set_option maxRecDepth 20000 in
theorem ggX7_readsAll_X7_readsNumber : GoodIn wsX7_readsAll wsX7_readsNumber := goodIn_r _ [20, 7, 6, 8, 9, 10, 4, 11, 12, 13, 21, 22, 23, 31, 32, 33, 34, 35, 36, 37, 38, 39, 40, 41, 42, 43, 44, 45, 46, 47, 48, 49, 50, 51, 52, 53, 54, 55, 56, 57, 58, 59] (by decide +kernel) (by decide +kernel)
set_option maxRecDepth 20000 in
theorem gX7_readsAll_X7_readsNumber : GoodIn wsX7_readsAll (wsV RX7 100 RX7 yX7_readsNumber wsX7_readsNumber) := goodIn_app (goodIn_of _ (by decide +kernel)) ggX7_readsAll_X7_readsNumber
theorem dX7_readsAll_0 : decode cX7_readsAll 0 = .ok (.iload_n 1, 1) := by decide +kernel
theorem dX7_readsAll_1 : decode cX7_readsAll 1 = .ok (.lookupswitch 107 #[(102, 99), (107, 71), (114, 63), (119, 57), (121, 51)], 51) := by decide +kernel
theorem dX7_readsAll_52 : decode cX7_readsAll 52 = .ok (.aload_n 0, 1) := by decide +kernel
theorem dX7_readsAll_53 : decode cX7_readsAll 53 = .ok (.iload_n 2, 1) := by decide +kernel
theorem dX7_readsAll_54 : decode cX7_readsAll 54 = .ok (.invokevirtual 106, 3) := by decide +kernel
theorem dX7_readsAll_57 : decode cX7_readsAll 57 = .ok (.ireturn, 1) := by decide +kernel
theorem dX7_readsAll_58 : decode cX7_readsAll 58 = .ok (.aload_n 0, 1) := by decide +kernel
theorem dX7_readsAll_59 : decode cX7_readsAll 59 = .ok (.iload_n 2, 1) := by decide +kernel
theorem dX7_readsAll_60 : decode cX7_readsAll 60 = .ok (.invokevirtual 109, 3) := by decide +kernel
theorem dX7_readsAll_63 : decode cX7_readsAll 63 = .ok (.ireturn, 1) := by decide +kernel
theorem dX7_readsAll_64 : decode cX7_readsAll 64 = .ok (.aload_n 0, 1) := by decide +kernel
theorem dX7_readsAll_65 : decode cX7_readsAll 65 = .ok (.iload_n 2, 1) := by decide +kernel
theorem dX7_readsAll_66 : decode cX7_readsAll 66 = .ok (.iconst 1, 1) := by decide +kernel
theorem dX7_readsAll_67 : decode cX7_readsAll 67 = .ok (.iconst 1, 1) := by decide +kernel
theorem dX7_readsAll_68 : decode cX7_readsAll 68 = .ok (.invokevirtual 100, 3) := by decide +kernel
theorem dX7_readsAll_71 : decode cX7_readsAll 71 = .ok (.ireturn, 1) := by decide +kernel
theorem dX7_readsAll_72 : decode cX7_readsAll 72 = .ok (.aload_n 0, 1) := by decide +kernel
theorem dX7_readsAll_73 : decode cX7_readsAll 73 = .ok (.iload_n 2, 1) := by decide +kernel
theorem dX7_readsAll_74 : decode cX7_readsAll 74 = .ok (.iconst 1, 1) := by decide +kernel
theorem dX7_readsAll_75 : decode cX7_readsAll 75 = .ok (.iconst 1, 1) := by decide +kernel
theorem dX7_readsAll_76 : decode cX7_readsAll 76 = .ok (.invokevirtual 100, 3) := by decide +kernel
theorem dX7_readsAll_79 : decode cX7_readsAll 79 = .ok (.ifCond .eq 19, 3) := by decide +kernel
theorem dX7_readsAll_82 : decode cX7_readsAll 82 = .ok (.aload_n 0, 1) := by decide +kernel
theorem dX7_readsAll_83 : decode cX7_readsAll 83 = .ok (.iload_n 2, 1) := by decide +kernel
theorem dX7_readsAll_84 : decode cX7_readsAll 84 = .ok (.iconst 1, 1) := by decide +kernel
theorem dX7_readsAll_85 : decode cX7_readsAll 85 = .ok (.iadd, 1) := by decide +kernel
theorem dX7_readsAll_86 : decode cX7_readsAll 86 = .ok (.iconst 1, 1) := by decide +kernel
theorem dX7_readsAll_87 : decode cX7_readsAll 87 = .ok (.iconst 1, 1) := by decide +kernel
theorem dX7_readsAll_88 : decode cX7_readsAll 88 = .ok (.invokevirtual 100, 3) := by decide +kernel
theorem dX7_readsAll_91 : decode cX7_readsAll 91 = .ok (.ifCond .eq 7, 3) := by decide +kernel
theorem dX7_readsAll_94 : decode cX7_readsAll 94 = .ok (.iconst 1, 1) := by decide +kernel
theorem dX7_readsAll_95 : decode cX7_readsAll 95 = .ok (.goto 4, 3) := by decide +kernel
theorem dX7_readsAll_98 : decode cX7_readsAll 98 = .ok (.iconst 0, 1) := by decide +kernel
theorem dX7_readsAll_99 : decode cX7_readsAll 99 = .ok (.ireturn, 1) := by decide +kernel
theorem dX7_readsAll_100 : decode cX7_readsAll 100 = .ok (.aload_n 0, 1) := by decide +kernel
theorem dX7_readsAll_101 : decode cX7_readsAll 101 = .ok (.iload_n 2, 1) := by decide +kernel
theorem dX7_readsAll_102 : decode cX7_readsAll 102 = .ok (.iconst 1, 1) := by decide +kernel
theorem dX7_readsAll_103 : decode cX7_readsAll 103 = .ok (.iconst 3, 1) := by decide +kernel
theorem dX7_readsAll_104 : decode cX7_readsAll 104 = .ok (.invokevirtual 100, 3) := by decide +kernel
theorem dX7_readsAll_107 : decode cX7_readsAll 107 = .ok (.ireturn, 1) := by decide +kernel
theorem dX7_readsAll_108 : decode cX7_readsAll 108 = .ok (.iconst 1, 1) := by decide +kernel
theorem dX7_readsAll_109 : decode cX7_readsAll 109 = .ok (.ireturn, 1) := by decide +kernel
set_option maxRecDepth 20000 in
theorem ggX7_statement_X7_next : GoodIn wsX7_statement wsX7_next := goodIn_r _ [9, 4, 10, 11, 38, 39, 40, 41, 42, 43, 44, 45, 46, 47, 48, 49, 50, 51, 52, 53, 54, 55, 56, 57, 58, 59, 60, 61, 62, 63, 64, 65, 66] (by decide +kernel) (by decide +kernel)
set_option maxRecDepth 20000 in
theorem gX7_statement_X7_next : GoodIn wsX7_statement (wsV RX7 89 RX7 yX7_next wsX7_next) := goodIn_app (goodIn_of _ (by decide +kernel)) ggX7_statement_X7_next
set_option maxRecDepth 20000 in
theorem ggX7_statement_X7_readsAll : GoodIn wsX7_statement wsX7_readsAll := goodIn_r _ [15, 16, 17, 18, 8, 19, 20, 4, 5, 6, 7, 9, 10, 11, 21, 22, 23, 24, 25, 26, 27, 28, 29, 30, 31, 32, 33, 34, 35, 36, 37, 38, 39, 40, 41, 42, 43, 44, 45, 46, 47, 48, 49, 50, 51, 52, 53, 54, 55, 56, 57, 58, 59, 60, 61, 62, 63, 64, 65, 66] (by decide +kernel) (by decide +kernel)
set_option maxRecDepth 20000 in
theorem gX7_statement_X7_readsAll : GoodIn wsX7_statement (wsV RX7 115 RX7 yX7_readsAll wsX7_readsAll) := goodIn_app (goodIn_of _ (by decide +kernel)) ggX7_statement_X7_readsAll
theorem dX7_statement_0 : decode cX7_statement 0 = .ok (.aload_n 0, 1) := by decide +kernel
theorem dX7_statement_1 : decode cX7_statement 1 = .ok (.invokevirtual 89, 3) := by decide +kernel
theorem dX7_statement_4 : decode cX7_statement 4 = .ok (.istore_n 1, 1) := by decide +kernel
theorem dX7_statement_5 : decode cX7_statement 5 = .ok (.iload_n 1, 1) := by decide +kernel
theorem dX7_statement_6 : decode cX7_statement 6 = .ok (.bipush 121, 2) := by decide +kernel
theorem dX7_statement_8 : decode cX7_statement 8 = .ok (.if_icmp .eq 35, 3) := by decide +kernel
theorem dX7_statement_11 : decode cX7_statement 11 = .ok (.iload_n 1, 1) := by decide +kernel
theorem dX7_statement_12 : decode cX7_statement 12 = .ok (.bipush 119, 2) := by decide +kernel
theorem dX7_statement_14 : decode cX7_statement 14 = .ok (.if_icmp .eq 29, 3) := by decide +kernel
theorem dX7_statement_17 : decode cX7_statement 17 = .ok (.iload_n 1, 1) := by decide +kernel
theorem dX7_statement_18 : decode cX7_statement 18 = .ok (.bipush 114, 2) := by decide +kernel
theorem dX7_statement_20 : decode cX7_statement 20 = .ok (.if_icmp .eq 23, 3) := by decide +kernel
theorem dX7_statement_23 : decode cX7_statement 23 = .ok (.iload_n 1, 1) := by decide +kernel
theorem dX7_statement_24 : decode cX7_statement 24 = .ok (.bipush 107, 2) := by decide +kernel
theorem dX7_statement_26 : decode cX7_statement 26 = .ok (.if_icmp .eq 17, 3) := by decide +kernel
theorem dX7_statement_29 : decode cX7_statement 29 = .ok (.iload_n 1, 1) := by decide +kernel
theorem dX7_statement_30 : decode cX7_statement 30 = .ok (.bipush 102, 2) := by decide +kernel
theorem dX7_statement_32 : decode cX7_statement 32 = .ok (.if_icmp .eq 11, 3) := by decide +kernel
theorem dX7_statement_35 : decode cX7_statement 35 = .ok (.iload_n 1, 1) := by decide +kernel
theorem dX7_statement_36 : decode cX7_statement 36 = .ok (.bipush 117, 2) := by decide +kernel
theorem dX7_statement_38 : decode cX7_statement 38 = .ok (.if_icmp .eq 5, 3) := by decide +kernel
theorem dX7_statement_41 : decode cX7_statement 41 = .ok (.iconst 0, 1) := by decide +kernel
theorem dX7_statement_42 : decode cX7_statement 42 = .ok (.ireturn, 1) := by decide +kernel
theorem dX7_statement_43 : decode cX7_statement 43 = .ok (.aload_n 0, 1) := by decide +kernel
theorem dX7_statement_44 : decode cX7_statement 44 = .ok (.getfield 46, 3) := by decide +kernel
theorem dX7_statement_47 : decode cX7_statement 47 = .ok (.aload_n 0, 1) := by decide +kernel
theorem dX7_statement_48 : decode cX7_statement 48 = .ok (.getfield 112, 3) := by decide +kernel
theorem dX7_statement_51 : decode cX7_statement 51 = .ok (.iload_n 1, 1) := by decide +kernel
theorem dX7_statement_52 : decode cX7_statement 52 = .ok (.iastore, 1) := by decide +kernel
theorem dX7_statement_53 : decode cX7_statement 53 = .ok (.aload_n 0, 1) := by decide +kernel
theorem dX7_statement_54 : decode cX7_statement 54 = .ok (.getfield 49, 3) := by decide +kernel
theorem dX7_statement_57 : decode cX7_statement 57 = .ok (.aload_n 0, 1) := by decide +kernel
theorem dX7_statement_58 : decode cX7_statement 58 = .ok (.getfield 112, 3) := by decide +kernel
theorem dX7_statement_61 : decode cX7_statement 61 = .ok (.aload_n 0, 1) := by decide +kernel
theorem dX7_statement_62 : decode cX7_statement 62 = .ok (.getfield 86, 3) := by decide +kernel
theorem dX7_statement_65 : decode cX7_statement 65 = .ok (.iastore, 1) := by decide +kernel
theorem dX7_statement_66 : decode cX7_statement 66 = .ok (.aload_n 0, 1) := by decide +kernel
theorem dX7_statement_67 : decode cX7_statement 67 = .ok (.dup, 1) := by decide +kernel
theorem dX7_statement_68 : decode cX7_statement 68 = .ok (.getfield 86, 3) := by decide +kernel
theorem dX7_statement_71 : decode cX7_statement 71 = .ok (.iconst 1, 1) := by decide +kernel
theorem dX7_statement_72 : decode cX7_statement 72 = .ok (.iadd, 1) := by decide +kernel
theorem dX7_statement_73 : decode cX7_statement 73 = .ok (.putfield 86, 3) := by decide +kernel
theorem dX7_statement_76 : decode cX7_statement 76 = .ok (.aload_n 0, 1) := by decide +kernel
theorem dX7_statement_77 : decode cX7_statement 77 = .ok (.iload_n 1, 1) := by decide +kernel
theorem dX7_statement_78 : decode cX7_statement 78 = .ok (.iconst 4, 1) := by decide +kernel
theorem dX7_statement_79 : decode cX7_statement 79 = .ok (.aload_n 0, 1) := by decide +kernel
theorem dX7_statement_80 : decode cX7_statement 80 = .ok (.getfield 112, 3) := by decide +kernel
theorem dX7_statement_83 : decode cX7_statement 83 = .ok (.imul, 1) := by decide +kernel
theorem dX7_statement_84 : decode cX7_statement 84 = .ok (.invokevirtual 115, 3) := by decide +kernel
theorem dX7_statement_87 : decode cX7_statement 87 = .ok (.ifCond .eq 12, 3) := by decide +kernel
theorem dX7_statement_90 : decode cX7_statement 90 = .ok (.aload_n 0, 1) := by decide +kernel
theorem dX7_statement_91 : decode cX7_statement 91 = .ok (.invokevirtual 89, 3) := by decide +kernel
theorem dX7_statement_94 : decode cX7_statement 94 = .ok (.bipush 59, 2) := by decide +kernel
theorem dX7_statement_96 : decode cX7_statement 96 = .ok (.if_icmp .eq 5, 3) := by decide +kernel
theorem dX7_statement_99 : decode cX7_statement 99 = .ok (.iconst 0, 1) := by decide +kernel
theorem dX7_statement_100 : decode cX7_statement 100 = .ok (.ireturn, 1) := by decide +kernel
theorem dX7_statement_101 : decode cX7_statement 101 = .ok (.aload_n 0, 1) := by decide +kernel
theorem dX7_statement_102 : decode cX7_statement 102 = .ok (.dup, 1) := by decide +kernel
theorem dX7_statement_103 : decode cX7_statement 103 = .ok (.getfield 86, 3) := by decide +kernel
theorem dX7_statement_106 : decode cX7_statement 106 = .ok (.iconst 1, 1) := by decide +kernel
theorem dX7_statement_107 : decode cX7_statement 107 = .ok (.iadd, 1) := by decide +kernel
theorem dX7_statement_108 : decode cX7_statement 108 = .ok (.putfield 86, 3) := by decide +kernel
theorem dX7_statement_111 : decode cX7_statement 111 = .ok (.iconst 1, 1) := by decide +kernel
theorem dX7_statement_112 : decode cX7_statement 112 = .ok (.ireturn, 1) := by decide +kernel
set_option maxRecDepth 20000 in
theorem ggX7_comesLayer_X7_isIn : GoodIn wsX7_comesLayer wsX7_isIn := goodIn_r _ [10] (by decide +kernel) (by decide +kernel)
set_option maxRecDepth 20000 in
theorem gX7_comesLayer_X7_isIn : GoodIn wsX7_comesLayer (va_wsS RX7 93 yX7_isIn wsX7_isIn) := goodIn_app (goodIn_of _ (by decide +kernel)) ggX7_comesLayer_X7_isIn
theorem dX7_comesLayer_0 : decode cX7_comesLayer 0 = .ok (.aload_n 0, 1) := by decide +kernel
theorem dX7_comesLayer_1 : decode cX7_comesLayer 1 = .ok (.getfield 52, 3) := by decide +kernel
theorem dX7_comesLayer_4 : decode cX7_comesLayer 4 = .ok (.iload_n 1, 1) := by decide +kernel
theorem dX7_comesLayer_5 : decode cX7_comesLayer 5 = .ok (.iconst 1, 1) := by decide +kernel
theorem dX7_comesLayer_6 : decode cX7_comesLayer 6 = .ok (.iadd, 1) := by decide +kernel
theorem dX7_comesLayer_7 : decode cX7_comesLayer 7 = .ok (.iaload, 1) := by decide +kernel
theorem dX7_comesLayer_8 : decode cX7_comesLayer 8 = .ok (.iconst 1, 1) := by decide +kernel
theorem dX7_comesLayer_9 : decode cX7_comesLayer 9 = .ok (.bipush 20, 2) := by decide +kernel
theorem dX7_comesLayer_11 : decode cX7_comesLayer 11 = .ok (.invokestatic 93, 3) := by decide +kernel
theorem dX7_comesLayer_14 : decode cX7_comesLayer 14 = .ok (.ifCond .eq 29, 3) := by decide +kernel
theorem dX7_comesLayer_17 : decode cX7_comesLayer 17 = .ok (.aload_n 0, 1) := by decide +kernel
theorem dX7_comesLayer_18 : decode cX7_comesLayer 18 = .ok (.getfield 52, 3) := by decide +kernel
theorem dX7_comesLayer_21 : decode cX7_comesLayer 21 = .ok (.iload_n 1, 1) := by decide +kernel
theorem dX7_comesLayer_22 : decode cX7_comesLayer 22 = .ok (.iconst 3, 1) := by decide +kernel
theorem dX7_comesLayer_23 : decode cX7_comesLayer 23 = .ok (.iadd, 1) := by decide +kernel
theorem dX7_comesLayer_24 : decode cX7_comesLayer 24 = .ok (.iaload, 1) := by decide +kernel
theorem dX7_comesLayer_25 : decode cX7_comesLayer 25 = .ok (.bipush (-5), 2) := by decide +kernel
theorem dX7_comesLayer_27 : decode cX7_comesLayer 27 = .ok (.iconst 5, 1) := by decide +kernel
theorem dX7_comesLayer_28 : decode cX7_comesLayer 28 = .ok (.invokestatic 93, 3) := by decide +kernel
theorem dX7_comesLayer_31 : decode cX7_comesLayer 31 = .ok (.ifCond .eq 12, 3) := by decide +kernel
theorem dX7_comesLayer_34 : decode cX7_comesLayer 34 = .ok (.aload_n 0, 1) := by decide +kernel
theorem dX7_comesLayer_35 : decode cX7_comesLayer 35 = .ok (.getfield 67, 3) := by decide +kernel
theorem dX7_comesLayer_38 : decode cX7_comesLayer 38 = .ok (.bipush 11, 2) := by decide +kernel
theorem dX7_comesLayer_40 : decode cX7_comesLayer 40 = .ok (.if_icmp .ne 5, 3) := by decide +kernel
theorem dX7_comesLayer_43 : decode cX7_comesLayer 43 = .ok (.iconst 0, 1) := by decide +kernel
theorem dX7_comesLayer_44 : decode cX7_comesLayer 44 = .ok (.ireturn, 1) := by decide +kernel
theorem dX7_comesLayer_45 : decode cX7_comesLayer 45 = .ok (.aload_n 0, 1) := by decide +kernel
theorem dX7_comesLayer_46 : decode cX7_comesLayer 46 = .ok (.getfield 16, 3) := by decide +kernel
theorem dX7_comesLayer_49 : decode cX7_comesLayer 49 = .ok (.aload_n 0, 1) := by decide +kernel
theorem dX7_comesLayer_50 : decode cX7_comesLayer 50 = .ok (.getfield 67, 3) := by decide +kernel
theorem dX7_comesLayer_53 : decode cX7_comesLayer 53 = .ok (.aload_n 0, 1) := by decide +kernel
theorem dX7_comesLayer_54 : decode cX7_comesLayer 54 = .ok (.getfield 52, 3) := by decide +kernel
theorem dX7_comesLayer_57 : decode cX7_comesLayer 57 = .ok (.iload_n 1, 1) := by decide +kernel
theorem dX7_comesLayer_58 : decode cX7_comesLayer 58 = .ok (.iaload, 1) := by decide +kernel
theorem dX7_comesLayer_59 : decode cX7_comesLayer 59 = .ok (.iastore, 1) := by decide +kernel
theorem dX7_comesLayer_60 : decode cX7_comesLayer 60 = .ok (.aload_n 0, 1) := by decide +kernel
theorem dX7_comesLayer_61 : decode cX7_comesLayer 61 = .ok (.getfield 19, 3) := by decide +kernel
theorem dX7_comesLayer_64 : decode cX7_comesLayer 64 = .ok (.aload_n 0, 1) := by decide +kernel
theorem dX7_comesLayer_65 : decode cX7_comesLayer 65 = .ok (.getfield 67, 3) := by decide +kernel
theorem dX7_comesLayer_68 : decode cX7_comesLayer 68 = .ok (.aload_n 0, 1) := by decide +kernel
theorem dX7_comesLayer_69 : decode cX7_comesLayer 69 = .ok (.getfield 52, 3) := by decide +kernel
theorem dX7_comesLayer_72 : decode cX7_comesLayer 72 = .ok (.iload_n 1, 1) := by decide +kernel
theorem dX7_comesLayer_73 : decode cX7_comesLayer 73 = .ok (.iconst 1, 1) := by decide +kernel
theorem dX7_comesLayer_74 : decode cX7_comesLayer 74 = .ok (.iadd, 1) := by decide +kernel
theorem dX7_comesLayer_75 : decode cX7_comesLayer 75 = .ok (.iaload, 1) := by decide +kernel
theorem dX7_comesLayer_76 : decode cX7_comesLayer 76 = .ok (.iastore, 1) := by decide +kernel
theorem dX7_comesLayer_77 : decode cX7_comesLayer 77 = .ok (.aload_n 0, 1) := by decide +kernel
theorem dX7_comesLayer_78 : decode cX7_comesLayer 78 = .ok (.getfield 22, 3) := by decide +kernel
theorem dX7_comesLayer_81 : decode cX7_comesLayer 81 = .ok (.aload_n 0, 1) := by decide +kernel
theorem dX7_comesLayer_82 : decode cX7_comesLayer 82 = .ok (.getfield 67, 3) := by decide +kernel
theorem dX7_comesLayer_85 : decode cX7_comesLayer 85 = .ok (.aload_n 0, 1) := by decide +kernel
theorem dX7_comesLayer_86 : decode cX7_comesLayer 86 = .ok (.getfield 52, 3) := by decide +kernel
theorem dX7_comesLayer_89 : decode cX7_comesLayer 89 = .ok (.iload_n 1, 1) := by decide +kernel
theorem dX7_comesLayer_90 : decode cX7_comesLayer 90 = .ok (.iconst 2, 1) := by decide +kernel
theorem dX7_comesLayer_91 : decode cX7_comesLayer 91 = .ok (.iadd, 1) := by decide +kernel
theorem dX7_comesLayer_92 : decode cX7_comesLayer 92 = .ok (.iaload, 1) := by decide +kernel
theorem dX7_comesLayer_93 : decode cX7_comesLayer 93 = .ok (.iastore, 1) := by decide +kernel
theorem dX7_comesLayer_94 : decode cX7_comesLayer 94 = .ok (.aload_n 0, 1) := by decide +kernel
theorem dX7_comesLayer_95 : decode cX7_comesLayer 95 = .ok (.getfield 25, 3) := by decide +kernel
theorem dX7_comesLayer_98 : decode cX7_comesLayer 98 = .ok (.aload_n 0, 1) := by decide +kernel
theorem dX7_comesLayer_99 : decode cX7_comesLayer 99 = .ok (.getfield 67, 3) := by decide +kernel
theorem dX7_comesLayer_102 : decode cX7_comesLayer 102 = .ok (.aload_n 0, 1) := by decide +kernel
theorem dX7_comesLayer_103 : decode cX7_comesLayer 103 = .ok (.getfield 52, 3) := by decide +kernel
theorem dX7_comesLayer_106 : decode cX7_comesLayer 106 = .ok (.iload_n 1, 1) := by decide +kernel
theorem dX7_comesLayer_107 : decode cX7_comesLayer 107 = .ok (.iconst 3, 1) := by decide +kernel
theorem dX7_comesLayer_108 : decode cX7_comesLayer 108 = .ok (.iadd, 1) := by decide +kernel
theorem dX7_comesLayer_109 : decode cX7_comesLayer 109 = .ok (.iaload, 1) := by decide +kernel
theorem dX7_comesLayer_110 : decode cX7_comesLayer 110 = .ok (.iastore, 1) := by decide +kernel
theorem dX7_comesLayer_111 : decode cX7_comesLayer 111 = .ok (.aload_n 0, 1) := by decide +kernel
theorem dX7_comesLayer_112 : decode cX7_comesLayer 112 = .ok (.dup, 1) := by decide +kernel
theorem dX7_comesLayer_113 : decode cX7_comesLayer 113 = .ok (.getfield 67, 3) := by decide +kernel
theorem dX7_comesLayer_116 : decode cX7_comesLayer 116 = .ok (.iconst 1, 1) := by decide +kernel
theorem dX7_comesLayer_117 : decode cX7_comesLayer 117 = .ok (.iadd, 1) := by decide +kernel
theorem dX7_comesLayer_118 : decode cX7_comesLayer 118 = .ok (.putfield 67, 3) := by decide +kernel
theorem dX7_comesLayer_121 : decode cX7_comesLayer 121 = .ok (.iconst 1, 1) := by decide +kernel
theorem dX7_comesLayer_122 : decode cX7_comesLayer 122 = .ok (.ireturn, 1) := by decide +kernel
set_option maxRecDepth 20000 in
theorem ggX7_comesPiece_X7_isWay : GoodIn wsX7_comesPiece wsX7_isWay := goodIn_r _ [9] (by decide +kernel) (by decide +kernel)
set_option maxRecDepth 20000 in
theorem gX7_comesPiece_X7_isWay : GoodIn wsX7_comesPiece (va_wsS RX7 71 yX7_isWay wsX7_isWay) := goodIn_app (goodIn_of _ (by decide +kernel)) ggX7_comesPiece_X7_isWay
theorem dX7_comesPiece_0 : decode cX7_comesPiece 0 = .ok (.aload_n 0, 1) := by decide +kernel
theorem dX7_comesPiece_1 : decode cX7_comesPiece 1 = .ok (.getfield 52, 3) := by decide +kernel
theorem dX7_comesPiece_4 : decode cX7_comesPiece 4 = .ok (.iload_n 1, 1) := by decide +kernel
theorem dX7_comesPiece_5 : decode cX7_comesPiece 5 = .ok (.iaload, 1) := by decide +kernel
theorem dX7_comesPiece_6 : decode cX7_comesPiece 6 = .ok (.istore_n 2, 1) := by decide +kernel
theorem dX7_comesPiece_7 : decode cX7_comesPiece 7 = .ok (.iload_n 2, 1) := by decide +kernel
theorem dX7_comesPiece_8 : decode cX7_comesPiece 8 = .ok (.invokestatic 71, 3) := by decide +kernel
theorem dX7_comesPiece_11 : decode cX7_comesPiece 11 = .ok (.ifCond .eq 38, 3) := by decide +kernel
theorem dX7_comesPiece_14 : decode cX7_comesPiece 14 = .ok (.aload_n 0, 1) := by decide +kernel
theorem dX7_comesPiece_15 : decode cX7_comesPiece 15 = .ok (.getfield 52, 3) := by decide +kernel
theorem dX7_comesPiece_18 : decode cX7_comesPiece 18 = .ok (.iload_n 1, 1) := by decide +kernel
theorem dX7_comesPiece_19 : decode cX7_comesPiece 19 = .ok (.iconst 2, 1) := by decide +kernel
theorem dX7_comesPiece_20 : decode cX7_comesPiece 20 = .ok (.iadd, 1) := by decide +kernel
theorem dX7_comesPiece_21 : decode cX7_comesPiece 21 = .ok (.iaload, 1) := by decide +kernel
theorem dX7_comesPiece_22 : decode cX7_comesPiece 22 = .ok (.bipush 20, 2) := by decide +kernel
theorem dX7_comesPiece_24 : decode cX7_comesPiece 24 = .ok (.if_icmp .gt 25, 3) := by decide +kernel
theorem dX7_comesPiece_27 : decode cX7_comesPiece 27 = .ok (.aload_n 0, 1) := by decide +kernel
theorem dX7_comesPiece_28 : decode cX7_comesPiece 28 = .ok (.getfield 52, 3) := by decide +kernel
theorem dX7_comesPiece_31 : decode cX7_comesPiece 31 = .ok (.iload_n 1, 1) := by decide +kernel
theorem dX7_comesPiece_32 : decode cX7_comesPiece 32 = .ok (.iconst 3, 1) := by decide +kernel
theorem dX7_comesPiece_33 : decode cX7_comesPiece 33 = .ok (.iadd, 1) := by decide +kernel
theorem dX7_comesPiece_34 : decode cX7_comesPiece 34 = .ok (.iaload, 1) := by decide +kernel
theorem dX7_comesPiece_35 : decode cX7_comesPiece 35 = .ok (.ifCond .eq 14, 3) := by decide +kernel
theorem dX7_comesPiece_38 : decode cX7_comesPiece 38 = .ok (.aload_n 0, 1) := by decide +kernel
theorem dX7_comesPiece_39 : decode cX7_comesPiece 39 = .ok (.getfield 40, 3) := by decide +kernel
theorem dX7_comesPiece_42 : decode cX7_comesPiece 42 = .ok (.iload_n 2, 1) := by decide +kernel
theorem dX7_comesPiece_43 : decode cX7_comesPiece 43 = .ok (.iaload, 1) := by decide +kernel
theorem dX7_comesPiece_44 : decode cX7_comesPiece 44 = .ok (.bipush 6, 2) := by decide +kernel
theorem dX7_comesPiece_46 : decode cX7_comesPiece 46 = .ok (.if_icmp .ne 5, 3) := by decide +kernel
theorem dX7_comesPiece_49 : decode cX7_comesPiece 49 = .ok (.iconst 0, 1) := by decide +kernel
theorem dX7_comesPiece_50 : decode cX7_comesPiece 50 = .ok (.ireturn, 1) := by decide +kernel
theorem dX7_comesPiece_51 : decode cX7_comesPiece 51 = .ok (.bipush 6, 2) := by decide +kernel
theorem dX7_comesPiece_53 : decode cX7_comesPiece 53 = .ok (.iload_n 2, 1) := by decide +kernel
theorem dX7_comesPiece_54 : decode cX7_comesPiece 54 = .ok (.imul, 1) := by decide +kernel
theorem dX7_comesPiece_55 : decode cX7_comesPiece 55 = .ok (.aload_n 0, 1) := by decide +kernel
theorem dX7_comesPiece_56 : decode cX7_comesPiece 56 = .ok (.getfield 40, 3) := by decide +kernel
theorem dX7_comesPiece_59 : decode cX7_comesPiece 59 = .ok (.iload_n 2, 1) := by decide +kernel
theorem dX7_comesPiece_60 : decode cX7_comesPiece 60 = .ok (.iaload, 1) := by decide +kernel
theorem dX7_comesPiece_61 : decode cX7_comesPiece 61 = .ok (.iadd, 1) := by decide +kernel
theorem dX7_comesPiece_62 : decode cX7_comesPiece 62 = .ok (.istore_n 3, 1) := by decide +kernel
theorem dX7_comesPiece_63 : decode cX7_comesPiece 63 = .ok (.aload_n 0, 1) := by decide +kernel
theorem dX7_comesPiece_64 : decode cX7_comesPiece 64 = .ok (.getfield 31, 3) := by decide +kernel
theorem dX7_comesPiece_67 : decode cX7_comesPiece 67 = .ok (.iload_n 3, 1) := by decide +kernel
theorem dX7_comesPiece_68 : decode cX7_comesPiece 68 = .ok (.aload_n 0, 1) := by decide +kernel
theorem dX7_comesPiece_69 : decode cX7_comesPiece 69 = .ok (.getfield 52, 3) := by decide +kernel
theorem dX7_comesPiece_72 : decode cX7_comesPiece 72 = .ok (.iload_n 1, 1) := by decide +kernel
theorem dX7_comesPiece_73 : decode cX7_comesPiece 73 = .ok (.iconst 1, 1) := by decide +kernel
theorem dX7_comesPiece_74 : decode cX7_comesPiece 74 = .ok (.iadd, 1) := by decide +kernel
theorem dX7_comesPiece_75 : decode cX7_comesPiece 75 = .ok (.iaload, 1) := by decide +kernel
theorem dX7_comesPiece_76 : decode cX7_comesPiece 76 = .ok (.iastore, 1) := by decide +kernel
theorem dX7_comesPiece_77 : decode cX7_comesPiece 77 = .ok (.aload_n 0, 1) := by decide +kernel
theorem dX7_comesPiece_78 : decode cX7_comesPiece 78 = .ok (.getfield 34, 3) := by decide +kernel
theorem dX7_comesPiece_81 : decode cX7_comesPiece 81 = .ok (.iload_n 3, 1) := by decide +kernel
theorem dX7_comesPiece_82 : decode cX7_comesPiece 82 = .ok (.aload_n 0, 1) := by decide +kernel
theorem dX7_comesPiece_83 : decode cX7_comesPiece 83 = .ok (.getfield 52, 3) := by decide +kernel
theorem dX7_comesPiece_86 : decode cX7_comesPiece 86 = .ok (.iload_n 1, 1) := by decide +kernel
theorem dX7_comesPiece_87 : decode cX7_comesPiece 87 = .ok (.iconst 2, 1) := by decide +kernel
theorem dX7_comesPiece_88 : decode cX7_comesPiece 88 = .ok (.iadd, 1) := by decide +kernel
theorem dX7_comesPiece_89 : decode cX7_comesPiece 89 = .ok (.iaload, 1) := by decide +kernel
theorem dX7_comesPiece_90 : decode cX7_comesPiece 90 = .ok (.iastore, 1) := by decide +kernel
theorem dX7_comesPiece_91 : decode cX7_comesPiece 91 = .ok (.aload_n 0, 1) := by decide +kernel
theorem dX7_comesPiece_92 : decode cX7_comesPiece 92 = .ok (.getfield 37, 3) := by decide +kernel
theorem dX7_comesPiece_95 : decode cX7_comesPiece 95 = .ok (.iload_n 3, 1) := by decide +kernel
theorem dX7_comesPiece_96 : decode cX7_comesPiece 96 = .ok (.aload_n 0, 1) := by decide +kernel
theorem dX7_comesPiece_97 : decode cX7_comesPiece 97 = .ok (.getfield 52, 3) := by decide +kernel
theorem dX7_comesPiece_100 : decode cX7_comesPiece 100 = .ok (.iload_n 1, 1) := by decide +kernel
theorem dX7_comesPiece_101 : decode cX7_comesPiece 101 = .ok (.iconst 3, 1) := by decide +kernel
theorem dX7_comesPiece_102 : decode cX7_comesPiece 102 = .ok (.iadd, 1) := by decide +kernel
theorem dX7_comesPiece_103 : decode cX7_comesPiece 103 = .ok (.iaload, 1) := by decide +kernel
theorem dX7_comesPiece_104 : decode cX7_comesPiece 104 = .ok (.iastore, 1) := by decide +kernel
theorem dX7_comesPiece_105 : decode cX7_comesPiece 105 = .ok (.aload_n 0, 1) := by decide +kernel
theorem dX7_comesPiece_106 : decode cX7_comesPiece 106 = .ok (.getfield 40, 3) := by decide +kernel
theorem dX7_comesPiece_109 : decode cX7_comesPiece 109 = .ok (.iload_n 2, 1) := by decide +kernel
theorem dX7_comesPiece_110 : decode cX7_comesPiece 110 = .ok (.dup2, 1) := by decide +kernel
theorem dX7_comesPiece_111 : decode cX7_comesPiece 111 = .ok (.iaload, 1) := by decide +kernel
theorem dX7_comesPiece_112 : decode cX7_comesPiece 112 = .ok (.iconst 1, 1) := by decide +kernel
theorem dX7_comesPiece_113 : decode cX7_comesPiece 113 = .ok (.iadd, 1) := by decide +kernel
theorem dX7_comesPiece_114 : decode cX7_comesPiece 114 = .ok (.iastore, 1) := by decide +kernel
theorem dX7_comesPiece_115 : decode cX7_comesPiece 115 = .ok (.iconst 1, 1) := by decide +kernel
theorem dX7_comesPiece_116 : decode cX7_comesPiece 116 = .ok (.ireturn, 1) := by decide +kernel
set_option maxRecDepth 20000 in
theorem ggX7_comes_X7_comesLayer : GoodIn wsX7_comes wsX7_comesLayer := goodIn_r _ [9, 3, 4, 10, 11, 12, 13, 14, 15, 8, 16, 28, 29, 30, 31, 32, 33, 34, 35, 36, 37, 38, 39, 40, 41, 42, 43, 44, 45, 46, 47, 48, 49, 50, 51, 52, 53, 54, 55, 56] (by decide +kernel) (by decide +kernel)
set_option maxRecDepth 20000 in
theorem gX7_comes_X7_comesLayer : GoodIn wsX7_comes (wsV RX7 119 RX7 yX7_comesLayer wsX7_comesLayer) := goodIn_app (goodIn_of _ (by decide +kernel)) ggX7_comes_X7_comesLayer
set_option maxRecDepth 20000 in
theorem ggX7_comes_X7_comesPiece : GoodIn wsX7_comes wsX7_comesPiece := goodIn_r _ [20, 3, 21, 22, 23, 24, 25, 26, 8, 27, 28, 29, 30, 31, 32, 33, 34, 35, 36, 37, 38, 39, 40, 41, 42, 43, 44, 45, 46, 47, 48, 49, 50, 51, 52, 53, 54, 55, 56] (by decide +kernel) (by decide +kernel)
set_option maxRecDepth 20000 in
theorem gX7_comes_X7_comesPiece : GoodIn wsX7_comes (wsV RX7 122 RX7 yX7_comesPiece wsX7_comesPiece) := goodIn_app (goodIn_of _ (by decide +kernel)) ggX7_comes_X7_comesPiece
theorem dX7_comes_0 : decode cX7_comes 0 = .ok (.iconst 4, 1) := by decide +kernel
theorem dX7_comes_1 : decode cX7_comes 1 = .ok (.iload_n 1, 1) := by decide +kernel
theorem dX7_comes_2 : decode cX7_comes 2 = .ok (.imul, 1) := by decide +kernel
theorem dX7_comes_3 : decode cX7_comes 3 = .ok (.istore_n 2, 1) := by decide +kernel
theorem dX7_comes_4 : decode cX7_comes 4 = .ok (.aload_n 0, 1) := by decide +kernel
theorem dX7_comes_5 : decode cX7_comes 5 = .ok (.getfield 46, 3) := by decide +kernel
theorem dX7_comes_8 : decode cX7_comes 8 = .ok (.iload_n 1, 1) := by decide +kernel
theorem dX7_comes_9 : decode cX7_comes 9 = .ok (.iaload, 1) := by decide +kernel
theorem dX7_comes_10 : decode cX7_comes 10 = .ok (.lookupswitch 156 #[(102, 142), (107, 90), (114, 62), (119, 56), (121, 50)], 50) := by decide +kernel
theorem dX7_comes_60 : decode cX7_comes 60 = .ok (.aload_n 0, 1) := by decide +kernel
theorem dX7_comes_61 : decode cX7_comes 61 = .ok (.iload_n 2, 1) := by decide +kernel
theorem dX7_comes_62 : decode cX7_comes 62 = .ok (.invokevirtual 119, 3) := by decide +kernel
theorem dX7_comes_65 : decode cX7_comes 65 = .ok (.ireturn, 1) := by decide +kernel
theorem dX7_comes_66 : decode cX7_comes 66 = .ok (.aload_n 0, 1) := by decide +kernel
theorem dX7_comes_67 : decode cX7_comes 67 = .ok (.iload_n 2, 1) := by decide +kernel
theorem dX7_comes_68 : decode cX7_comes 68 = .ok (.invokevirtual 122, 3) := by decide +kernel
theorem dX7_comes_71 : decode cX7_comes 71 = .ok (.ireturn, 1) := by decide +kernel
theorem dX7_comes_72 : decode cX7_comes 72 = .ok (.aload_n 0, 1) := by decide +kernel
theorem dX7_comes_73 : decode cX7_comes 73 = .ok (.getfield 13, 3) := by decide +kernel
theorem dX7_comes_76 : decode cX7_comes 76 = .ok (.iconst 0, 1) := by decide +kernel
theorem dX7_comes_77 : decode cX7_comes 77 = .ok (.aload_n 0, 1) := by decide +kernel
theorem dX7_comes_78 : decode cX7_comes 78 = .ok (.getfield 52, 3) := by decide +kernel
theorem dX7_comes_81 : decode cX7_comes 81 = .ok (.iload_n 2, 1) := by decide +kernel
theorem dX7_comes_82 : decode cX7_comes 82 = .ok (.iaload, 1) := by decide +kernel
theorem dX7_comes_83 : decode cX7_comes 83 = .ok (.iastore, 1) := by decide +kernel
theorem dX7_comes_84 : decode cX7_comes 84 = .ok (.aload_n 0, 1) := by decide +kernel
theorem dX7_comes_85 : decode cX7_comes 85 = .ok (.getfield 52, 3) := by decide +kernel
theorem dX7_comes_88 : decode cX7_comes 88 = .ok (.iload_n 2, 1) := by decide +kernel
theorem dX7_comes_89 : decode cX7_comes 89 = .ok (.iaload, 1) := by decide +kernel
theorem dX7_comes_90 : decode cX7_comes 90 = .ok (.iconst 5, 1) := by decide +kernel
theorem dX7_comes_91 : decode cX7_comes 91 = .ok (.if_icmp .gt 7, 3) := by decide +kernel
theorem dX7_comes_94 : decode cX7_comes 94 = .ok (.iconst 1, 1) := by decide +kernel
theorem dX7_comes_95 : decode cX7_comes 95 = .ok (.goto 4, 3) := by decide +kernel
theorem dX7_comes_98 : decode cX7_comes 98 = .ok (.iconst 0, 1) := by decide +kernel
theorem dX7_comes_99 : decode cX7_comes 99 = .ok (.ireturn, 1) := by decide +kernel
theorem dX7_comes_100 : decode cX7_comes 100 = .ok (.aload_n 0, 1) := by decide +kernel
theorem dX7_comes_101 : decode cX7_comes 101 = .ok (.getfield 13, 3) := by decide +kernel
theorem dX7_comes_104 : decode cX7_comes 104 = .ok (.iconst 1, 1) := by decide +kernel
theorem dX7_comes_105 : decode cX7_comes 105 = .ok (.aload_n 0, 1) := by decide +kernel
theorem dX7_comes_106 : decode cX7_comes 106 = .ok (.getfield 52, 3) := by decide +kernel
theorem dX7_comes_109 : decode cX7_comes 109 = .ok (.iload_n 2, 1) := by decide +kernel
theorem dX7_comes_110 : decode cX7_comes 110 = .ok (.iaload, 1) := by decide +kernel
theorem dX7_comes_111 : decode cX7_comes 111 = .ok (.iastore, 1) := by decide +kernel
theorem dX7_comes_112 : decode cX7_comes 112 = .ok (.aload_n 0, 1) := by decide +kernel
theorem dX7_comes_113 : decode cX7_comes 113 = .ok (.getfield 13, 3) := by decide +kernel
theorem dX7_comes_116 : decode cX7_comes 116 = .ok (.iconst 2, 1) := by decide +kernel
theorem dX7_comes_117 : decode cX7_comes 117 = .ok (.aload_n 0, 1) := by decide +kernel
theorem dX7_comes_118 : decode cX7_comes 118 = .ok (.getfield 52, 3) := by decide +kernel
theorem dX7_comes_121 : decode cX7_comes 121 = .ok (.iload_n 2, 1) := by decide +kernel
theorem dX7_comes_122 : decode cX7_comes 122 = .ok (.iconst 1, 1) := by decide +kernel
theorem dX7_comes_123 : decode cX7_comes 123 = .ok (.iadd, 1) := by decide +kernel
theorem dX7_comes_124 : decode cX7_comes 124 = .ok (.iaload, 1) := by decide +kernel
theorem dX7_comes_125 : decode cX7_comes 125 = .ok (.iastore, 1) := by decide +kernel
theorem dX7_comes_126 : decode cX7_comes 126 = .ok (.aload_n 0, 1) := by decide +kernel
theorem dX7_comes_127 : decode cX7_comes 127 = .ok (.getfield 52, 3) := by decide +kernel
theorem dX7_comes_130 : decode cX7_comes 130 = .ok (.iload_n 2, 1) := by decide +kernel
theorem dX7_comes_131 : decode cX7_comes 131 = .ok (.iaload, 1) := by decide +kernel
theorem dX7_comes_132 : decode cX7_comes 132 = .ok (.ifCond .le 18, 3) := by decide +kernel
theorem dX7_comes_135 : decode cX7_comes 135 = .ok (.aload_n 0, 1) := by decide +kernel
theorem dX7_comes_136 : decode cX7_comes 136 = .ok (.getfield 52, 3) := by decide +kernel
theorem dX7_comes_139 : decode cX7_comes 139 = .ok (.iload_n 2, 1) := by decide +kernel
theorem dX7_comes_140 : decode cX7_comes 140 = .ok (.iconst 1, 1) := by decide +kernel
theorem dX7_comes_141 : decode cX7_comes 141 = .ok (.iadd, 1) := by decide +kernel
theorem dX7_comes_142 : decode cX7_comes 142 = .ok (.iaload, 1) := by decide +kernel
theorem dX7_comes_143 : decode cX7_comes 143 = .ok (.ifCond .le 7, 3) := by decide +kernel
theorem dX7_comes_146 : decode cX7_comes 146 = .ok (.iconst 1, 1) := by decide +kernel
theorem dX7_comes_147 : decode cX7_comes 147 = .ok (.goto 4, 3) := by decide +kernel
theorem dX7_comes_150 : decode cX7_comes 150 = .ok (.iconst 0, 1) := by decide +kernel
theorem dX7_comes_151 : decode cX7_comes 151 = .ok (.ireturn, 1) := by decide +kernel
theorem dX7_comes_152 : decode cX7_comes 152 = .ok (.aload_n 0, 1) := by decide +kernel
theorem dX7_comes_153 : decode cX7_comes 153 = .ok (.getfield 13, 3) := by decide +kernel
theorem dX7_comes_156 : decode cX7_comes 156 = .ok (.iconst 3, 1) := by decide +kernel
theorem dX7_comes_157 : decode cX7_comes 157 = .ok (.aload_n 0, 1) := by decide +kernel
theorem dX7_comes_158 : decode cX7_comes 158 = .ok (.getfield 52, 3) := by decide +kernel
theorem dX7_comes_161 : decode cX7_comes 161 = .ok (.iload_n 2, 1) := by decide +kernel
theorem dX7_comes_162 : decode cX7_comes 162 = .ok (.iaload, 1) := by decide +kernel
theorem dX7_comes_163 : decode cX7_comes 163 = .ok (.iastore, 1) := by decide +kernel
theorem dX7_comes_164 : decode cX7_comes 164 = .ok (.iconst 1, 1) := by decide +kernel
theorem dX7_comes_165 : decode cX7_comes 165 = .ok (.ireturn, 1) := by decide +kernel
theorem dX7_comes_166 : decode cX7_comes 166 = .ok (.aload_n 0, 1) := by decide +kernel
theorem dX7_comes_167 : decode cX7_comes 167 = .ok (.getfield 67, 3) := by decide +kernel
theorem dX7_comes_170 : decode cX7_comes 170 = .ok (.ifCond .ne 5, 3) := by decide +kernel
theorem dX7_comes_173 : decode cX7_comes 173 = .ok (.iconst 0, 1) := by decide +kernel
theorem dX7_comes_174 : decode cX7_comes 174 = .ok (.ireturn, 1) := by decide +kernel
theorem dX7_comes_175 : decode cX7_comes 175 = .ok (.aload_n 0, 1) := by decide +kernel
theorem dX7_comes_176 : decode cX7_comes 176 = .ok (.dup, 1) := by decide +kernel
theorem dX7_comes_177 : decode cX7_comes 177 = .ok (.getfield 67, 3) := by decide +kernel
theorem dX7_comes_180 : decode cX7_comes 180 = .ok (.iconst 1, 1) := by decide +kernel
theorem dX7_comes_181 : decode cX7_comes 181 = .ok (.isub, 1) := by decide +kernel
theorem dX7_comes_182 : decode cX7_comes 182 = .ok (.putfield 67, 3) := by decide +kernel
theorem dX7_comes_185 : decode cX7_comes 185 = .ok (.iconst 1, 1) := by decide +kernel
theorem dX7_comes_186 : decode cX7_comes 186 = .ok (.ireturn, 1) := by decide +kernel
set_option maxRecDepth 20000 in
theorem ggX7_load_X7_statement : GoodIn wsX7_load wsX7_statement := goodIn_r _ [9, 10, 2, 4, 1, 11, 12, 13, 8, 14, 3, 15, 16, 17, 18, 19, 20, 21, 22, 23, 24, 25, 26, 27, 28, 29, 30, 31, 32, 33, 34, 35, 36, 37, 38, 39, 40, 41, 83, 84, 85, 86, 87, 88, 89, 90, 91, 92, 93, 94, 95, 96, 97, 98, 99, 100, 101, 102, 103, 104, 105, 106, 107, 108, 109, 110, 111] (by decide +kernel) (by decide +kernel)
set_option maxRecDepth 20000 in
theorem gX7_load_X7_statement : GoodIn wsX7_load (wsV RX7 125 RX7 yX7_statement wsX7_statement) := goodIn_app (goodIn_of _ (by decide +kernel)) ggX7_load_X7_statement
set_option maxRecDepth 20000 in
theorem ggX7_load_X7_passesAll : GoodIn wsX7_load wsX7_passesAll := goodIn_r _ [45, 46, 47, 48, 49, 50, 51, 52, 53, 54, 55, 56, 57, 58, 59, 60, 61, 8, 62, 63, 64, 65, 66, 67, 83, 84, 85, 86, 87, 88, 89, 90, 91, 92, 93, 94, 95, 96, 97, 98, 99, 100, 101, 102, 103, 104, 105, 106, 107, 108, 109, 110, 111] (by decide +kernel) (by decide +kernel)
set_option maxRecDepth 20000 in
theorem gX7_load_X7_passesAll : GoodIn wsX7_load (wsV RX7 129 RX7 yX7_passesAll wsX7_passesAll) := goodIn_app (goodIn_of _ (by decide +kernel)) ggX7_load_X7_passesAll
set_option maxRecDepth 20000 in
theorem ggX7_load_X7_comes : GoodIn wsX7_load wsX7_comes := goodIn_r _ [71, 10, 48, 24, 58, 72, 73, 74, 8, 75, 49, 50, 51, 52, 32, 33, 34, 76, 77, 78, 79, 57, 54, 55, 56, 80, 81, 82, 83, 84, 85, 86, 87, 88, 89, 90, 91, 92, 93, 94, 95, 96, 97, 98, 99, 100, 101, 102, 103, 104, 105, 106, 107, 108, 109, 110, 111] (by decide +kernel) (by decide +kernel)
set_option maxRecDepth 20000 in
theorem gX7_load_X7_comes : GoodIn wsX7_load (wsV RX7 133 RX7 yX7_comes wsX7_comes) := goodIn_app (goodIn_of _ (by decide +kernel)) ggX7_load_X7_comes
theorem dX7_load_0 : decode cX7_load 0 = .ok (.aload_n 0, 1) := by decide +kernel
theorem dX7_load_1 : decode cX7_load 1 = .ok (.iconst 0, 1) := by decide +kernel
theorem dX7_load_2 : decode cX7_load 2 = .ok (.putfield 86, 3) := by decide +kernel
theorem dX7_load_5 : decode cX7_load 5 = .ok (.aload_n 0, 1) := by decide +kernel
theorem dX7_load_6 : decode cX7_load 6 = .ok (.iconst 0, 1) := by decide +kernel
theorem dX7_load_7 : decode cX7_load 7 = .ok (.putfield 112, 3) := by decide +kernel
theorem dX7_load_10 : decode cX7_load 10 = .ok (.iconst 1, 1) := by decide +kernel
theorem dX7_load_11 : decode cX7_load 11 = .ok (.istore_n 1, 1) := by decide +kernel
theorem dX7_load_12 : decode cX7_load 12 = .ok (.iload_n 1, 1) := by decide +kernel
theorem dX7_load_13 : decode cX7_load 13 = .ok (.ifCond .eq 47, 3) := by decide +kernel
theorem dX7_load_16 : decode cX7_load 16 = .ok (.aload_n 0, 1) := by decide +kernel
theorem dX7_load_17 : decode cX7_load 17 = .ok (.getfield 86, 3) := by decide +kernel
theorem dX7_load_20 : decode cX7_load 20 = .ok (.aload_n 0, 1) := by decide +kernel
theorem dX7_load_21 : decode cX7_load 21 = .ok (.getfield 79, 3) := by decide +kernel
theorem dX7_load_24 : decode cX7_load 24 = .ok (.if_icmp .lt 10, 3) := by decide +kernel
theorem dX7_load_27 : decode cX7_load 27 = .ok (.aload_n 0, 1) := by decide +kernel
theorem dX7_load_28 : decode cX7_load 28 = .ok (.getfield 112, 3) := by decide +kernel
theorem dX7_load_31 : decode cX7_load 31 = .ok (.ifCond .ne 29, 3) := by decide +kernel
theorem dX7_load_34 : decode cX7_load 34 = .ok (.aload_n 0, 1) := by decide +kernel
theorem dX7_load_35 : decode cX7_load 35 = .ok (.invokevirtual 125, 3) := by decide +kernel
theorem dX7_load_38 : decode cX7_load 38 = .ok (.istore_n 1, 1) := by decide +kernel
theorem dX7_load_39 : decode cX7_load 39 = .ok (.aload_n 0, 1) := by decide +kernel
theorem dX7_load_40 : decode cX7_load 40 = .ok (.dup, 1) := by decide +kernel
theorem dX7_load_41 : decode cX7_load 41 = .ok (.getfield 112, 3) := by decide +kernel
theorem dX7_load_44 : decode cX7_load 44 = .ok (.iload_n 1, 1) := by decide +kernel
theorem dX7_load_45 : decode cX7_load 45 = .ok (.ifCond .eq 7, 3) := by decide +kernel
theorem dX7_load_48 : decode cX7_load 48 = .ok (.iconst 1, 1) := by decide +kernel
theorem dX7_load_49 : decode cX7_load 49 = .ok (.goto 4, 3) := by decide +kernel
theorem dX7_load_52 : decode cX7_load 52 = .ok (.iconst 0, 1) := by decide +kernel
theorem dX7_load_53 : decode cX7_load 53 = .ok (.iadd, 1) := by decide +kernel
theorem dX7_load_54 : decode cX7_load 54 = .ok (.putfield 112, 3) := by decide +kernel
theorem dX7_load_57 : decode cX7_load 57 = .ok (.goto (-45), 3) := by decide +kernel
theorem dX7_load_60 : decode cX7_load 60 = .ok (.aload_n 0, 1) := by decide +kernel
theorem dX7_load_61 : decode cX7_load 61 = .ok (.iconst 0, 1) := by decide +kernel
theorem dX7_load_62 : decode cX7_load 62 = .ok (.putfield 79, 3) := by decide +kernel
theorem dX7_load_65 : decode cX7_load 65 = .ok (.iload_n 1, 1) := by decide +kernel
theorem dX7_load_66 : decode cX7_load 66 = .ok (.ifCond .ne 12, 3) := by decide +kernel
theorem dX7_load_69 : decode cX7_load 69 = .ok (.sipush (-1000), 3) := by decide +kernel
theorem dX7_load_72 : decode cX7_load 72 = .ok (.aload_n 0, 1) := by decide +kernel
theorem dX7_load_73 : decode cX7_load 73 = .ok (.getfield 86, 3) := by decide +kernel
theorem dX7_load_76 : decode cX7_load 76 = .ok (.isub, 1) := by decide +kernel
theorem dX7_load_77 : decode cX7_load 77 = .ok (.ireturn, 1) := by decide +kernel
theorem dX7_load_78 : decode cX7_load 78 = .ok (.aload_n 0, 1) := by decide +kernel
theorem dX7_load_79 : decode cX7_load 79 = .ok (.iconst 1, 1) := by decide +kernel
theorem dX7_load_80 : decode cX7_load 80 = .ok (.iconst 1, 1) := by decide +kernel
theorem dX7_load_81 : decode cX7_load 81 = .ok (.invokevirtual 129, 3) := by decide +kernel
theorem dX7_load_84 : decode cX7_load 84 = .ok (.iconst 0, 1) := by decide +kernel
theorem dX7_load_85 : decode cX7_load 85 = .ok (.istore_n 2, 1) := by decide +kernel
theorem dX7_load_86 : decode cX7_load 86 = .ok (.iload_n 2, 1) := by decide +kernel
theorem dX7_load_87 : decode cX7_load 87 = .ok (.aload_n 0, 1) := by decide +kernel
theorem dX7_load_88 : decode cX7_load 88 = .ok (.getfield 112, 3) := by decide +kernel
theorem dX7_load_91 : decode cX7_load 91 = .ok (.if_icmp .ge 37, 3) := by decide +kernel
theorem dX7_load_94 : decode cX7_load 94 = .ok (.aload_n 0, 1) := by decide +kernel
theorem dX7_load_95 : decode cX7_load 95 = .ok (.iload_n 2, 1) := by decide +kernel
theorem dX7_load_96 : decode cX7_load 96 = .ok (.invokevirtual 133, 3) := by decide +kernel
theorem dX7_load_99 : decode cX7_load 99 = .ok (.ifCond .eq 6, 3) := by decide +kernel
theorem dX7_load_102 : decode cX7_load 102 = .ok (.goto 20, 3) := by decide +kernel
theorem dX7_load_105 : decode cX7_load 105 = .ok (.aload_n 0, 1) := by decide +kernel
theorem dX7_load_106 : decode cX7_load 106 = .ok (.iconst 1, 1) := by decide +kernel
theorem dX7_load_107 : decode cX7_load 107 = .ok (.iconst 0, 1) := by decide +kernel
theorem dX7_load_108 : decode cX7_load 108 = .ok (.invokevirtual 129, 3) := by decide +kernel
theorem dX7_load_111 : decode cX7_load 111 = .ok (.sipush (-2000), 3) := by decide +kernel
theorem dX7_load_114 : decode cX7_load 114 = .ok (.aload_n 0, 1) := by decide +kernel
theorem dX7_load_115 : decode cX7_load 115 = .ok (.getfield 49, 3) := by decide +kernel
theorem dX7_load_118 : decode cX7_load 118 = .ok (.iload_n 2, 1) := by decide +kernel
theorem dX7_load_119 : decode cX7_load 119 = .ok (.iaload, 1) := by decide +kernel
theorem dX7_load_120 : decode cX7_load 120 = .ok (.isub, 1) := by decide +kernel
theorem dX7_load_121 : decode cX7_load 121 = .ok (.ireturn, 1) := by decide +kernel
theorem dX7_load_122 : decode cX7_load 122 = .ok (.iinc 2 1, 3) := by decide +kernel
theorem dX7_load_125 : decode cX7_load 125 = .ok (.goto (-39), 3) := by decide +kernel
theorem dX7_load_128 : decode cX7_load 128 = .ok (.aload_n 0, 1) := by decide +kernel
theorem dX7_load_129 : decode cX7_load 129 = .ok (.getfield 112, 3) := by decide +kernel
theorem dX7_load_132 : decode cX7_load 132 = .ok (.ireturn, 1) := by decide +kernel
theorem dX7_passes_0 : decode cX7_passes 0 = .ok (.iconst 0, 1) := by decide +kernel
theorem dX7_passes_1 : decode cX7_passes 1 = .ok (.istore_n 2, 1) := by decide +kernel
theorem dX7_passes_2 : decode cX7_passes 2 = .ok (.iload_n 2, 1) := by decide +kernel
theorem dX7_passes_3 : decode cX7_passes 3 = .ok (.aload_n 1, 1) := by decide +kernel
theorem dX7_passes_4 : decode cX7_passes 4 = .ok (.arraylength, 1) := by decide +kernel
theorem dX7_passes_5 : decode cX7_passes 5 = .ok (.if_icmp .ge 53, 3) := by decide +kernel
theorem dX7_passes_8 : decode cX7_passes 8 = .ok (.aload_n 0, 1) := by decide +kernel
theorem dX7_passes_9 : decode cX7_passes 9 = .ok (.getfield 136, 3) := by decide +kernel
theorem dX7_passes_12 : decode cX7_passes 12 = .ok (.ifCond .eq 18, 3) := by decide +kernel
theorem dX7_passes_15 : decode cX7_passes 15 = .ok (.aload_n 0, 1) := by decide +kernel
theorem dX7_passes_16 : decode cX7_passes 16 = .ok (.getfield 55, 3) := by decide +kernel
theorem dX7_passes_19 : decode cX7_passes 19 = .ok (.aload_n 0, 1) := by decide +kernel
theorem dX7_passes_20 : decode cX7_passes 20 = .ok (.getfield 140, 3) := by decide +kernel
theorem dX7_passes_23 : decode cX7_passes 23 = .ok (.aload_n 1, 1) := by decide +kernel
theorem dX7_passes_24 : decode cX7_passes 24 = .ok (.iload_n 2, 1) := by decide +kernel
theorem dX7_passes_25 : decode cX7_passes 25 = .ok (.iaload, 1) := by decide +kernel
theorem dX7_passes_26 : decode cX7_passes 26 = .ok (.iastore, 1) := by decide +kernel
theorem dX7_passes_27 : decode cX7_passes 27 = .ok (.goto 15, 3) := by decide +kernel
theorem dX7_passes_30 : decode cX7_passes 30 = .ok (.aload_n 1, 1) := by decide +kernel
theorem dX7_passes_31 : decode cX7_passes 31 = .ok (.iload_n 2, 1) := by decide +kernel
theorem dX7_passes_32 : decode cX7_passes 32 = .ok (.aload_n 0, 1) := by decide +kernel
theorem dX7_passes_33 : decode cX7_passes 33 = .ok (.getfield 55, 3) := by decide +kernel
theorem dX7_passes_36 : decode cX7_passes 36 = .ok (.aload_n 0, 1) := by decide +kernel
theorem dX7_passes_37 : decode cX7_passes 37 = .ok (.getfield 140, 3) := by decide +kernel
theorem dX7_passes_40 : decode cX7_passes 40 = .ok (.iaload, 1) := by decide +kernel
theorem dX7_passes_41 : decode cX7_passes 41 = .ok (.iastore, 1) := by decide +kernel
theorem dX7_passes_42 : decode cX7_passes 42 = .ok (.aload_n 0, 1) := by decide +kernel
theorem dX7_passes_43 : decode cX7_passes 43 = .ok (.dup, 1) := by decide +kernel
theorem dX7_passes_44 : decode cX7_passes 44 = .ok (.getfield 140, 3) := by decide +kernel
theorem dX7_passes_47 : decode cX7_passes 47 = .ok (.iconst 1, 1) := by decide +kernel
theorem dX7_passes_48 : decode cX7_passes 48 = .ok (.iadd, 1) := by decide +kernel
theorem dX7_passes_49 : decode cX7_passes 49 = .ok (.putfield 140, 3) := by decide +kernel
theorem dX7_passes_52 : decode cX7_passes 52 = .ok (.iinc 2 1, 3) := by decide +kernel
theorem dX7_passes_55 : decode cX7_passes 55 = .ok (.goto (-53), 3) := by decide +kernel
theorem dX7_passes_58 : decode cX7_passes 58 = .ok (.return_, 1) := by decide +kernel
theorem dX7_passOne_0 : decode cX7_passOne 0 = .ok (.aload_n 0, 1) := by decide +kernel
theorem dX7_passOne_1 : decode cX7_passOne 1 = .ok (.getfield 136, 3) := by decide +kernel
theorem dX7_passOne_4 : decode cX7_passOne 4 = .ok (.ifCond .eq 7, 3) := by decide +kernel
theorem dX7_passOne_7 : decode cX7_passOne 7 = .ok (.iload_n 1, 1) := by decide +kernel
theorem dX7_passOne_8 : decode cX7_passOne 8 = .ok (.goto 12, 3) := by decide +kernel
theorem dX7_passOne_11 : decode cX7_passOne 11 = .ok (.aload_n 0, 1) := by decide +kernel
theorem dX7_passOne_12 : decode cX7_passOne 12 = .ok (.getfield 55, 3) := by decide +kernel
theorem dX7_passOne_15 : decode cX7_passOne 15 = .ok (.aload_n 0, 1) := by decide +kernel
theorem dX7_passOne_16 : decode cX7_passOne 16 = .ok (.getfield 140, 3) := by decide +kernel
theorem dX7_passOne_19 : decode cX7_passOne 19 = .ok (.iaload, 1) := by decide +kernel
theorem dX7_passOne_20 : decode cX7_passOne 20 = .ok (.istore_n 2, 1) := by decide +kernel
theorem dX7_passOne_21 : decode cX7_passOne 21 = .ok (.aload_n 0, 1) := by decide +kernel
theorem dX7_passOne_22 : decode cX7_passOne 22 = .ok (.getfield 136, 3) := by decide +kernel
theorem dX7_passOne_25 : decode cX7_passOne 25 = .ok (.ifCond .eq 13, 3) := by decide +kernel
theorem dX7_passOne_28 : decode cX7_passOne 28 = .ok (.aload_n 0, 1) := by decide +kernel
theorem dX7_passOne_29 : decode cX7_passOne 29 = .ok (.getfield 55, 3) := by decide +kernel
theorem dX7_passOne_32 : decode cX7_passOne 32 = .ok (.aload_n 0, 1) := by decide +kernel
theorem dX7_passOne_33 : decode cX7_passOne 33 = .ok (.getfield 140, 3) := by decide +kernel
theorem dX7_passOne_36 : decode cX7_passOne 36 = .ok (.iload_n 1, 1) := by decide +kernel
theorem dX7_passOne_37 : decode cX7_passOne 37 = .ok (.iastore, 1) := by decide +kernel
theorem dX7_passOne_38 : decode cX7_passOne 38 = .ok (.aload_n 0, 1) := by decide +kernel
theorem dX7_passOne_39 : decode cX7_passOne 39 = .ok (.dup, 1) := by decide +kernel
theorem dX7_passOne_40 : decode cX7_passOne 40 = .ok (.getfield 140, 3) := by decide +kernel
theorem dX7_passOne_43 : decode cX7_passOne 43 = .ok (.iconst 1, 1) := by decide +kernel
theorem dX7_passOne_44 : decode cX7_passOne 44 = .ok (.iadd, 1) := by decide +kernel
theorem dX7_passOne_45 : decode cX7_passOne 45 = .ok (.putfield 140, 3) := by decide +kernel
theorem dX7_passOne_48 : decode cX7_passOne 48 = .ok (.iload_n 2, 1) := by decide +kernel
theorem dX7_passOne_49 : decode cX7_passOne 49 = .ok (.ireturn, 1) := by decide +kernel
set_option maxRecDepth 20000 in
theorem ggX7_passesAll_X7_passes : GoodIn wsX7_passesAll wsX7_passes := goodIn_r _ [18, 2, 19, 1, 24, 25, 26, 27, 28, 29, 30, 31, 32, 33, 34, 35, 36, 37, 38, 39, 40, 41, 42, 43, 44, 45, 46, 47, 48, 49, 50, 51, 52] (by decide +kernel) (by decide +kernel)
set_option maxRecDepth 20000 in
theorem gX7_passesAll_X7_passes : GoodIn wsX7_passesAll (wsV RX7 143 RX7 yX7_passes wsX7_passes) := goodIn_app (goodIn_of _ (by decide +kernel)) ggX7_passesAll_X7_passes
set_option maxRecDepth 20000 in
theorem ggX7_passesAll_X7_passOne : GoodIn wsX7_passesAll wsX7_passOne := goodIn_r _ [23, 2, 19, 1, 24, 25, 26, 27, 28, 29, 30, 31, 32, 33, 34, 35, 36, 37, 38, 39, 40, 41, 42, 43, 44, 45, 46, 47, 48, 49, 50, 51, 52] (by decide +kernel) (by decide +kernel)
set_option maxRecDepth 20000 in
theorem gX7_passesAll_X7_passOne : GoodIn wsX7_passesAll (wsV RX7 147 RX7 yX7_passOne wsX7_passOne) := goodIn_app (goodIn_of _ (by decide +kernel)) ggX7_passesAll_X7_passOne
theorem dX7_passesAll_0 : decode cX7_passesAll 0 = .ok (.aload_n 0, 1) := by decide +kernel
theorem dX7_passesAll_1 : decode cX7_passesAll 1 = .ok (.bipush 125, 2) := by decide +kernel
theorem dX7_passesAll_3 : decode cX7_passesAll 3 = .ok (.iload_n 1, 1) := by decide +kernel
theorem dX7_passesAll_4 : decode cX7_passesAll 4 = .ok (.imul, 1) := by decide +kernel
theorem dX7_passesAll_5 : decode cX7_passesAll 5 = .ok (.putfield 140, 3) := by decide +kernel
theorem dX7_passesAll_8 : decode cX7_passesAll 8 = .ok (.aload_n 0, 1) := by decide +kernel
theorem dX7_passesAll_9 : decode cX7_passesAll 9 = .ok (.iload_n 2, 1) := by decide +kernel
theorem dX7_passesAll_10 : decode cX7_passesAll 10 = .ok (.putfield 136, 3) := by decide +kernel
theorem dX7_passesAll_13 : decode cX7_passesAll 13 = .ok (.aload_n 0, 1) := by decide +kernel
theorem dX7_passesAll_14 : decode cX7_passesAll 14 = .ok (.aload_n 0, 1) := by decide +kernel
theorem dX7_passesAll_15 : decode cX7_passesAll 15 = .ok (.getfield 13, 3) := by decide +kernel
theorem dX7_passesAll_18 : decode cX7_passesAll 18 = .ok (.invokevirtual 143, 3) := by decide +kernel
theorem dX7_passesAll_21 : decode cX7_passesAll 21 = .ok (.aload_n 0, 1) := by decide +kernel
theorem dX7_passesAll_22 : decode cX7_passesAll 22 = .ok (.aload_n 0, 1) := by decide +kernel
theorem dX7_passesAll_23 : decode cX7_passesAll 23 = .ok (.getfield 16, 3) := by decide +kernel
theorem dX7_passesAll_26 : decode cX7_passesAll 26 = .ok (.invokevirtual 143, 3) := by decide +kernel
theorem dX7_passesAll_29 : decode cX7_passesAll 29 = .ok (.aload_n 0, 1) := by decide +kernel
theorem dX7_passesAll_30 : decode cX7_passesAll 30 = .ok (.aload_n 0, 1) := by decide +kernel
theorem dX7_passesAll_31 : decode cX7_passesAll 31 = .ok (.getfield 19, 3) := by decide +kernel
theorem dX7_passesAll_34 : decode cX7_passesAll 34 = .ok (.invokevirtual 143, 3) := by decide +kernel
theorem dX7_passesAll_37 : decode cX7_passesAll 37 = .ok (.aload_n 0, 1) := by decide +kernel
theorem dX7_passesAll_38 : decode cX7_passesAll 38 = .ok (.aload_n 0, 1) := by decide +kernel
theorem dX7_passesAll_39 : decode cX7_passesAll 39 = .ok (.getfield 22, 3) := by decide +kernel
theorem dX7_passesAll_42 : decode cX7_passesAll 42 = .ok (.invokevirtual 143, 3) := by decide +kernel
theorem dX7_passesAll_45 : decode cX7_passesAll 45 = .ok (.aload_n 0, 1) := by decide +kernel
theorem dX7_passesAll_46 : decode cX7_passesAll 46 = .ok (.aload_n 0, 1) := by decide +kernel
theorem dX7_passesAll_47 : decode cX7_passesAll 47 = .ok (.getfield 25, 3) := by decide +kernel
theorem dX7_passesAll_50 : decode cX7_passesAll 50 = .ok (.invokevirtual 143, 3) := by decide +kernel
theorem dX7_passesAll_53 : decode cX7_passesAll 53 = .ok (.aload_n 0, 1) := by decide +kernel
theorem dX7_passesAll_54 : decode cX7_passesAll 54 = .ok (.aload_n 0, 1) := by decide +kernel
theorem dX7_passesAll_55 : decode cX7_passesAll 55 = .ok (.getfield 28, 3) := by decide +kernel
theorem dX7_passesAll_58 : decode cX7_passesAll 58 = .ok (.invokevirtual 143, 3) := by decide +kernel
theorem dX7_passesAll_61 : decode cX7_passesAll 61 = .ok (.aload_n 0, 1) := by decide +kernel
theorem dX7_passesAll_62 : decode cX7_passesAll 62 = .ok (.aload_n 0, 1) := by decide +kernel
theorem dX7_passesAll_63 : decode cX7_passesAll 63 = .ok (.getfield 31, 3) := by decide +kernel
theorem dX7_passesAll_66 : decode cX7_passesAll 66 = .ok (.invokevirtual 143, 3) := by decide +kernel
theorem dX7_passesAll_69 : decode cX7_passesAll 69 = .ok (.aload_n 0, 1) := by decide +kernel
theorem dX7_passesAll_70 : decode cX7_passesAll 70 = .ok (.aload_n 0, 1) := by decide +kernel
theorem dX7_passesAll_71 : decode cX7_passesAll 71 = .ok (.getfield 34, 3) := by decide +kernel
theorem dX7_passesAll_74 : decode cX7_passesAll 74 = .ok (.invokevirtual 143, 3) := by decide +kernel
theorem dX7_passesAll_77 : decode cX7_passesAll 77 = .ok (.aload_n 0, 1) := by decide +kernel
theorem dX7_passesAll_78 : decode cX7_passesAll 78 = .ok (.aload_n 0, 1) := by decide +kernel
theorem dX7_passesAll_79 : decode cX7_passesAll 79 = .ok (.getfield 37, 3) := by decide +kernel
theorem dX7_passesAll_82 : decode cX7_passesAll 82 = .ok (.invokevirtual 143, 3) := by decide +kernel
theorem dX7_passesAll_85 : decode cX7_passesAll 85 = .ok (.aload_n 0, 1) := by decide +kernel
theorem dX7_passesAll_86 : decode cX7_passesAll 86 = .ok (.aload_n 0, 1) := by decide +kernel
theorem dX7_passesAll_87 : decode cX7_passesAll 87 = .ok (.getfield 40, 3) := by decide +kernel
theorem dX7_passesAll_90 : decode cX7_passesAll 90 = .ok (.invokevirtual 143, 3) := by decide +kernel
theorem dX7_passesAll_93 : decode cX7_passesAll 93 = .ok (.aload_n 0, 1) := by decide +kernel
theorem dX7_passesAll_94 : decode cX7_passesAll 94 = .ok (.aload_n 0, 1) := by decide +kernel
theorem dX7_passesAll_95 : decode cX7_passesAll 95 = .ok (.aload_n 0, 1) := by decide +kernel
theorem dX7_passesAll_96 : decode cX7_passesAll 96 = .ok (.getfield 67, 3) := by decide +kernel
theorem dX7_passesAll_99 : decode cX7_passesAll 99 = .ok (.invokevirtual 147, 3) := by decide +kernel
theorem dX7_passesAll_102 : decode cX7_passesAll 102 = .ok (.putfield 67, 3) := by decide +kernel
theorem dX7_passesAll_105 : decode cX7_passesAll 105 = .ok (.return_, 1) := by decide +kernel
set_option maxRecDepth 20000 in
theorem ggX7_image_X7_passesAll : GoodIn wsX7_image wsX7_passesAll := goodIn_r _ [7, 8, 9, 10, 11, 12, 13, 14, 15, 16, 17, 18, 19, 2, 20, 21, 22, 6, 23, 24, 25, 26, 27, 28, 29, 30, 31, 32, 33, 34, 35, 36, 37, 38, 39, 40, 41, 42, 43, 44, 45, 46, 47, 48, 49, 50, 51, 52, 53, 54, 55, 56, 57] (by decide +kernel) (by decide +kernel)
set_option maxRecDepth 20000 in
theorem gX7_image_X7_passesAll : GoodIn wsX7_image (wsV RX7 129 RX7 yX7_passesAll wsX7_passesAll) := goodIn_app (goodIn_of _ (by decide +kernel)) ggX7_image_X7_passesAll
theorem dX7_image_0 : decode cX7_image 0 = .ok (.aload_n 0, 1) := by decide +kernel
theorem dX7_image_1 : decode cX7_image 1 = .ok (.iconst 1, 1) := by decide +kernel
theorem dX7_image_2 : decode cX7_image 2 = .ok (.putfield 150, 3) := by decide +kernel
theorem dX7_image_5 : decode cX7_image 5 = .ok (.aload_n 0, 1) := by decide +kernel
theorem dX7_image_6 : decode cX7_image 6 = .ok (.iconst 0, 1) := by decide +kernel
theorem dX7_image_7 : decode cX7_image 7 = .ok (.iconst 1, 1) := by decide +kernel
theorem dX7_image_8 : decode cX7_image 8 = .ok (.invokevirtual 129, 3) := by decide +kernel
theorem dX7_image_11 : decode cX7_image 11 = .ok (.aload_n 0, 1) := by decide +kernel
theorem dX7_image_12 : decode cX7_image 12 = .ok (.getfield 67, 3) := by decide +kernel
theorem dX7_image_15 : decode cX7_image 15 = .ok (.ireturn, 1) := by decide +kernel
set_option maxRecDepth 20000 in
theorem ggX7_on_X7_no : GoodIn wsX7_on wsX7_no := goodIn_r _ [7, 8, 34, 35, 36, 37, 38, 39, 40, 41, 42, 43, 44, 45, 46, 47, 48, 49, 50, 51, 52, 53, 54, 55, 56, 57, 58, 59, 60, 61, 62] (by decide +kernel) (by decide +kernel)
set_option maxRecDepth 20000 in
theorem gX7_on_X7_no : GoodIn wsX7_on (wsV RX7 82 RX7 yX7_no wsX7_no) := goodIn_app (goodIn_of _ (by decide +kernel)) ggX7_on_X7_no
set_option maxRecDepth 20000 in
theorem ggX7_on_X7_passesAll : GoodIn wsX7_on wsX7_passesAll := goodIn_r _ [12, 13, 14, 15, 16, 17, 18, 19, 20, 21, 22, 23, 24, 2, 25, 26, 27, 6, 28, 29, 30, 31, 32, 33, 34, 35, 36, 37, 38, 39, 40, 41, 42, 43, 44, 45, 46, 47, 48, 49, 50, 51, 52, 53, 54, 55, 56, 57, 58, 59, 60, 61, 62] (by decide +kernel) (by decide +kernel)
set_option maxRecDepth 20000 in
theorem gX7_on_X7_passesAll : GoodIn wsX7_on (wsV RX7 129 RX7 yX7_passesAll wsX7_passesAll) := goodIn_app (goodIn_of _ (by decide +kernel)) ggX7_on_X7_passesAll
theorem dX7_on_0 : decode cX7_on 0 = .ok (.aload_n 0, 1) := by decide +kernel
theorem dX7_on_1 : decode cX7_on 1 = .ok (.getfield 150, 3) := by decide +kernel
theorem dX7_on_4 : decode cX7_on 4 = .ok (.ifCond .ne 10, 3) := by decide +kernel
theorem dX7_on_7 : decode cX7_on 7 = .ok (.aload_n 0, 1) := by decide +kernel
theorem dX7_on_8 : decode cX7_on 8 = .ok (.bipush (-3), 2) := by decide +kernel
theorem dX7_on_10 : decode cX7_on 10 = .ok (.invokevirtual 82, 3) := by decide +kernel
theorem dX7_on_13 : decode cX7_on 13 = .ok (.ireturn, 1) := by decide +kernel
theorem dX7_on_14 : decode cX7_on 14 = .ok (.aload_n 0, 1) := by decide +kernel
theorem dX7_on_15 : decode cX7_on 15 = .ok (.iconst 0, 1) := by decide +kernel
theorem dX7_on_16 : decode cX7_on 16 = .ok (.iconst 0, 1) := by decide +kernel
theorem dX7_on_17 : decode cX7_on 17 = .ok (.invokevirtual 129, 3) := by decide +kernel
theorem dX7_on_20 : decode cX7_on 20 = .ok (.aload_n 0, 1) := by decide +kernel
theorem dX7_on_21 : decode cX7_on 21 = .ok (.getfield 67, 3) := by decide +kernel
theorem dX7_on_24 : decode cX7_on 24 = .ok (.ireturn, 1) := by decide +kernel
theorem dX7_weightOf_0 : decode cX7_weightOf 0 = .ok (.aload_n 0, 1) := by decide +kernel
theorem dX7_weightOf_1 : decode cX7_weightOf 1 = .ok (.getfield 16, 3) := by decide +kernel
theorem dX7_weightOf_4 : decode cX7_weightOf 4 = .ok (.iload_n 1, 1) := by decide +kernel
theorem dX7_weightOf_5 : decode cX7_weightOf 5 = .ok (.iaload, 1) := by decide +kernel
theorem dX7_weightOf_6 : decode cX7_weightOf 6 = .ok (.iconst 3, 1) := by decide +kernel
theorem dX7_weightOf_7 : decode cX7_weightOf 7 = .ok (.if_icmp .eq 14, 3) := by decide +kernel
theorem dX7_weightOf_10 : decode cX7_weightOf 10 = .ok (.aload_n 0, 1) := by decide +kernel
theorem dX7_weightOf_11 : decode cX7_weightOf 11 = .ok (.getfield 16, 3) := by decide +kernel
theorem dX7_weightOf_14 : decode cX7_weightOf 14 = .ok (.iload_n 1, 1) := by decide +kernel
theorem dX7_weightOf_15 : decode cX7_weightOf 15 = .ok (.iaload, 1) := by decide +kernel
theorem dX7_weightOf_16 : decode cX7_weightOf 16 = .ok (.bipush 6, 2) := by decide +kernel
theorem dX7_weightOf_18 : decode cX7_weightOf 18 = .ok (.if_icmp .ne 7, 3) := by decide +kernel
theorem dX7_weightOf_21 : decode cX7_weightOf 21 = .ok (.iconst 1, 1) := by decide +kernel
theorem dX7_weightOf_22 : decode cX7_weightOf 22 = .ok (.goto 4, 3) := by decide +kernel
theorem dX7_weightOf_25 : decode cX7_weightOf 25 = .ok (.iconst 0, 1) := by decide +kernel
theorem dX7_weightOf_26 : decode cX7_weightOf 26 = .ok (.istore_n 2, 1) := by decide +kernel
theorem dX7_weightOf_27 : decode cX7_weightOf 27 = .ok (.iload_n 2, 1) := by decide +kernel
theorem dX7_weightOf_28 : decode cX7_weightOf 28 = .ok (.ifCond .eq 8, 3) := by decide +kernel
theorem dX7_weightOf_31 : decode cX7_weightOf 31 = .ok (.bipush 14, 2) := by decide +kernel
theorem dX7_weightOf_33 : decode cX7_weightOf 33 = .ok (.goto 5, 3) := by decide +kernel
theorem dX7_weightOf_36 : decode cX7_weightOf 36 = .ok (.bipush 10, 2) := by decide +kernel
theorem dX7_weightOf_38 : decode cX7_weightOf 38 = .ok (.aload_n 0, 1) := by decide +kernel
theorem dX7_weightOf_39 : decode cX7_weightOf 39 = .ok (.getfield 19, 3) := by decide +kernel
theorem dX7_weightOf_42 : decode cX7_weightOf 42 = .ok (.iload_n 1, 1) := by decide +kernel
theorem dX7_weightOf_43 : decode cX7_weightOf 43 = .ok (.iaload, 1) := by decide +kernel
theorem dX7_weightOf_44 : decode cX7_weightOf 44 = .ok (.imul, 1) := by decide +kernel
theorem dX7_weightOf_45 : decode cX7_weightOf 45 = .ok (.aload_n 0, 1) := by decide +kernel
theorem dX7_weightOf_46 : decode cX7_weightOf 46 = .ok (.getfield 16, 3) := by decide +kernel
theorem dX7_weightOf_49 : decode cX7_weightOf 49 = .ok (.iload_n 1, 1) := by decide +kernel
theorem dX7_weightOf_50 : decode cX7_weightOf 50 = .ok (.iaload, 1) := by decide +kernel
theorem dX7_weightOf_51 : decode cX7_weightOf 51 = .ok (.iconst 5, 1) := by decide +kernel
theorem dX7_weightOf_52 : decode cX7_weightOf 52 = .ok (.if_icmp .ne 8, 3) := by decide +kernel
theorem dX7_weightOf_55 : decode cX7_weightOf 55 = .ok (.bipush 60, 2) := by decide +kernel
theorem dX7_weightOf_57 : decode cX7_weightOf 57 = .ok (.goto 4, 3) := by decide +kernel
theorem dX7_weightOf_60 : decode cX7_weightOf 60 = .ok (.iconst 0, 1) := by decide +kernel
theorem dX7_weightOf_61 : decode cX7_weightOf 61 = .ok (.iadd, 1) := by decide +kernel
theorem dX7_weightOf_62 : decode cX7_weightOf 62 = .ok (.ireturn, 1) := by decide +kernel
theorem dX7_atLeast0_0 : decode cX7_atLeast0 0 = .ok (.iload_n 0, 1) := by decide +kernel
theorem dX7_atLeast0_1 : decode cX7_atLeast0 1 = .ok (.ifCond .ge 7, 3) := by decide +kernel
theorem dX7_atLeast0_4 : decode cX7_atLeast0 4 = .ok (.iconst 0, 1) := by decide +kernel
theorem dX7_atLeast0_5 : decode cX7_atLeast0 5 = .ok (.goto 4, 3) := by decide +kernel
theorem dX7_atLeast0_8 : decode cX7_atLeast0 8 = .ok (.iload_n 0, 1) := by decide +kernel
theorem dX7_atLeast0_9 : decode cX7_atLeast0 9 = .ok (.ireturn, 1) := by decide +kernel
set_option maxRecDepth 20000 in
theorem ggX7_plainBinding_X7_atLeast0 : GoodIn wsX7_plainBinding wsX7_atLeast0 := goodIn_r _ [6] (by decide +kernel) (by decide +kernel)
set_option maxRecDepth 20000 in
theorem gX7_plainBinding_X7_atLeast0 : GoodIn wsX7_plainBinding (va_wsS RX7 153 yX7_atLeast0 wsX7_atLeast0) := goodIn_app (goodIn_of _ (by decide +kernel)) ggX7_plainBinding_X7_atLeast0
theorem dX7_plainBinding_0 : decode cX7_plainBinding 0 = .ok (.aload_n 0, 1) := by decide +kernel
theorem dX7_plainBinding_1 : decode cX7_plainBinding 1 = .ok (.getfield 19, 3) := by decide +kernel
theorem dX7_plainBinding_4 : decode cX7_plainBinding 4 = .ok (.iload_n 1, 1) := by decide +kernel
theorem dX7_plainBinding_5 : decode cX7_plainBinding 5 = .ok (.iaload, 1) := by decide +kernel
theorem dX7_plainBinding_6 : decode cX7_plainBinding 6 = .ok (.istore_n 2, 1) := by decide +kernel
theorem dX7_plainBinding_7 : decode cX7_plainBinding 7 = .ok (.aload_n 0, 1) := by decide +kernel
theorem dX7_plainBinding_8 : decode cX7_plainBinding 8 = .ok (.getfield 16, 3) := by decide +kernel
theorem dX7_plainBinding_11 : decode cX7_plainBinding 11 = .ok (.iload_n 1, 1) := by decide +kernel
theorem dX7_plainBinding_12 : decode cX7_plainBinding 12 = .ok (.iaload, 1) := by decide +kernel
theorem dX7_plainBinding_13 : decode cX7_plainBinding 13 = .ok (.tableswitch 67 1 6 #[39, 44, 67, 50, 39, 62], 39) := by decide +kernel
theorem dX7_plainBinding_52 : decode cX7_plainBinding 52 = .ok (.bipush 8, 2) := by decide +kernel
theorem dX7_plainBinding_54 : decode cX7_plainBinding 54 = .ok (.iload_n 2, 1) := by decide +kernel
theorem dX7_plainBinding_55 : decode cX7_plainBinding 55 = .ok (.imul, 1) := by decide +kernel
theorem dX7_plainBinding_56 : decode cX7_plainBinding 56 = .ok (.ireturn, 1) := by decide +kernel
theorem dX7_plainBinding_57 : decode cX7_plainBinding 57 = .ok (.iconst 5, 1) := by decide +kernel
theorem dX7_plainBinding_58 : decode cX7_plainBinding 58 = .ok (.iload_n 2, 1) := by decide +kernel
theorem dX7_plainBinding_59 : decode cX7_plainBinding 59 = .ok (.imul, 1) := by decide +kernel
theorem dX7_plainBinding_60 : decode cX7_plainBinding 60 = .ok (.iconst 2, 1) := by decide +kernel
theorem dX7_plainBinding_61 : decode cX7_plainBinding 61 = .ok (.idiv, 1) := by decide +kernel
theorem dX7_plainBinding_62 : decode cX7_plainBinding 62 = .ok (.ireturn, 1) := by decide +kernel
theorem dX7_plainBinding_63 : decode cX7_plainBinding 63 = .ok (.iconst 5, 1) := by decide +kernel
theorem dX7_plainBinding_64 : decode cX7_plainBinding 64 = .ok (.iload_n 2, 1) := by decide +kernel
theorem dX7_plainBinding_65 : decode cX7_plainBinding 65 = .ok (.imul, 1) := by decide +kernel
theorem dX7_plainBinding_66 : decode cX7_plainBinding 66 = .ok (.iconst 2, 1) := by decide +kernel
theorem dX7_plainBinding_67 : decode cX7_plainBinding 67 = .ok (.idiv, 1) := by decide +kernel
theorem dX7_plainBinding_68 : decode cX7_plainBinding 68 = .ok (.bipush 10, 2) := by decide +kernel
theorem dX7_plainBinding_70 : decode cX7_plainBinding 70 = .ok (.isub, 1) := by decide +kernel
theorem dX7_plainBinding_71 : decode cX7_plainBinding 71 = .ok (.invokestatic 153, 3) := by decide +kernel
theorem dX7_plainBinding_74 : decode cX7_plainBinding 74 = .ok (.ireturn, 1) := by decide +kernel
theorem dX7_plainBinding_75 : decode cX7_plainBinding 75 = .ok (.bipush 7, 2) := by decide +kernel
theorem dX7_plainBinding_77 : decode cX7_plainBinding 77 = .ok (.iload_n 2, 1) := by decide +kernel
theorem dX7_plainBinding_78 : decode cX7_plainBinding 78 = .ok (.imul, 1) := by decide +kernel
theorem dX7_plainBinding_79 : decode cX7_plainBinding 79 = .ok (.ireturn, 1) := by decide +kernel
theorem dX7_plainBinding_80 : decode cX7_plainBinding 80 = .ok (.iconst 5, 1) := by decide +kernel
theorem dX7_plainBinding_81 : decode cX7_plainBinding 81 = .ok (.iload_n 2, 1) := by decide +kernel
theorem dX7_plainBinding_82 : decode cX7_plainBinding 82 = .ok (.imul, 1) := by decide +kernel
theorem dX7_plainBinding_83 : decode cX7_plainBinding 83 = .ok (.ireturn, 1) := by decide +kernel
set_option maxRecDepth 20000 in
theorem ggX7_bindingOf_X7_plainBinding : GoodIn wsX7_bindingOf wsX7_plainBinding := goodIn_r _ [6, 7, 8, 9, 10, 5, 11, 12, 13, 14, 15, 16, 17, 18, 19, 20, 21, 22, 23, 24, 25, 26, 27, 28, 29, 30, 31, 32, 33, 34, 35, 36, 37, 38, 39, 40] (by decide +kernel) (by decide +kernel)
set_option maxRecDepth 20000 in
theorem gX7_bindingOf_X7_plainBinding : GoodIn wsX7_bindingOf (wsV RX7 156 RX7 yX7_plainBinding wsX7_plainBinding) := goodIn_app (goodIn_of _ (by decide +kernel)) ggX7_bindingOf_X7_plainBinding
set_option maxRecDepth 20000 in
theorem ggX7_bindingOf_X7_atLeast0 : GoodIn wsX7_bindingOf wsX7_atLeast0 := goodIn_r _ [11] (by decide +kernel) (by decide +kernel)
set_option maxRecDepth 20000 in
theorem gX7_bindingOf_X7_atLeast0 : GoodIn wsX7_bindingOf (va_wsS RX7 153 yX7_atLeast0 wsX7_atLeast0) := goodIn_app (goodIn_of _ (by decide +kernel)) ggX7_bindingOf_X7_atLeast0
theorem dX7_bindingOf_0 : decode cX7_bindingOf 0 = .ok (.aload_n 0, 1) := by decide +kernel
theorem dX7_bindingOf_1 : decode cX7_bindingOf 1 = .ok (.iload_n 1, 1) := by decide +kernel
theorem dX7_bindingOf_2 : decode cX7_bindingOf 2 = .ok (.invokevirtual 156, 3) := by decide +kernel
theorem dX7_bindingOf_5 : decode cX7_bindingOf 5 = .ok (.iconst 4, 1) := by decide +kernel
theorem dX7_bindingOf_6 : decode cX7_bindingOf 6 = .ok (.aload_n 0, 1) := by decide +kernel
theorem dX7_bindingOf_7 : decode cX7_bindingOf 7 = .ok (.getfield 28, 3) := by decide +kernel
theorem dX7_bindingOf_10 : decode cX7_bindingOf 10 = .ok (.iload_n 1, 1) := by decide +kernel
theorem dX7_bindingOf_11 : decode cX7_bindingOf 11 = .ok (.iaload, 1) := by decide +kernel
theorem dX7_bindingOf_12 : decode cX7_bindingOf 12 = .ok (.imul, 1) := by decide +kernel
theorem dX7_bindingOf_13 : decode cX7_bindingOf 13 = .ok (.isub, 1) := by decide +kernel
theorem dX7_bindingOf_14 : decode cX7_bindingOf 14 = .ok (.invokestatic 153, 3) := by decide +kernel
theorem dX7_bindingOf_17 : decode cX7_bindingOf 17 = .ok (.ireturn, 1) := by decide +kernel
theorem dX7_thickOf_0 : decode cX7_thickOf 0 = .ok (.aload_n 0, 1) := by decide +kernel
theorem dX7_thickOf_1 : decode cX7_thickOf 1 = .ok (.getfield 16, 3) := by decide +kernel
theorem dX7_thickOf_4 : decode cX7_thickOf 4 = .ok (.iload_n 1, 1) := by decide +kernel
theorem dX7_thickOf_5 : decode cX7_thickOf 5 = .ok (.iaload, 1) := by decide +kernel
theorem dX7_thickOf_6 : decode cX7_thickOf 6 = .ok (.tableswitch 40 2 6 #[34, 37, 34, 40, 37], 34) := by decide +kernel
theorem dX7_thickOf_40 : decode cX7_thickOf 40 = .ok (.bipush 11, 2) := by decide +kernel
theorem dX7_thickOf_42 : decode cX7_thickOf 42 = .ok (.ireturn, 1) := by decide +kernel
theorem dX7_thickOf_43 : decode cX7_thickOf 43 = .ok (.bipush 8, 2) := by decide +kernel
theorem dX7_thickOf_45 : decode cX7_thickOf 45 = .ok (.ireturn, 1) := by decide +kernel
theorem dX7_thickOf_46 : decode cX7_thickOf 46 = .ok (.bipush 9, 2) := by decide +kernel
theorem dX7_thickOf_48 : decode cX7_thickOf 48 = .ok (.ireturn, 1) := by decide +kernel
set_option maxRecDepth 20000 in
theorem ggX7_loadOf_X7_weightOf : GoodIn wsX7_loadOf wsX7_weightOf := goodIn_r _ [6, 7, 8, 9, 10, 11, 12, 13, 14, 15, 16, 17, 18, 19, 20, 21, 22, 23, 24, 25, 26, 27, 28, 29, 30, 31, 32, 33, 34, 35, 36, 37] (by decide +kernel) (by decide +kernel)
set_option maxRecDepth 20000 in
theorem gX7_loadOf_X7_weightOf : GoodIn wsX7_loadOf (wsV RX7 159 RX7 yX7_weightOf wsX7_weightOf) := goodIn_app (goodIn_of _ (by decide +kernel)) ggX7_loadOf_X7_weightOf
theorem dX7_loadOf_0 : decode cX7_loadOf 0 = .ok (.iconst 0, 1) := by decide +kernel
theorem dX7_loadOf_1 : decode cX7_loadOf 1 = .ok (.istore_n 2, 1) := by decide +kernel
theorem dX7_loadOf_2 : decode cX7_loadOf 2 = .ok (.iload_n 1, 1) := by decide +kernel
theorem dX7_loadOf_3 : decode cX7_loadOf 3 = .ok (.istore_n 3, 1) := by decide +kernel
theorem dX7_loadOf_4 : decode cX7_loadOf 4 = .ok (.iload_n 3, 1) := by decide +kernel
theorem dX7_loadOf_5 : decode cX7_loadOf 5 = .ok (.aload_n 0, 1) := by decide +kernel
theorem dX7_loadOf_6 : decode cX7_loadOf 6 = .ok (.getfield 67, 3) := by decide +kernel
theorem dX7_loadOf_9 : decode cX7_loadOf 9 = .ok (.if_icmp .ge 17, 3) := by decide +kernel
theorem dX7_loadOf_12 : decode cX7_loadOf 12 = .ok (.iload_n 2, 1) := by decide +kernel
theorem dX7_loadOf_13 : decode cX7_loadOf 13 = .ok (.aload_n 0, 1) := by decide +kernel
theorem dX7_loadOf_14 : decode cX7_loadOf 14 = .ok (.iload_n 3, 1) := by decide +kernel
theorem dX7_loadOf_15 : decode cX7_loadOf 15 = .ok (.invokevirtual 159, 3) := by decide +kernel
theorem dX7_loadOf_18 : decode cX7_loadOf 18 = .ok (.iadd, 1) := by decide +kernel
theorem dX7_loadOf_19 : decode cX7_loadOf 19 = .ok (.istore_n 2, 1) := by decide +kernel
theorem dX7_loadOf_20 : decode cX7_loadOf 20 = .ok (.iinc 3 1, 3) := by decide +kernel
theorem dX7_loadOf_23 : decode cX7_loadOf 23 = .ok (.goto (-19), 3) := by decide +kernel
theorem dX7_loadOf_26 : decode cX7_loadOf 26 = .ok (.iload_n 2, 1) := by decide +kernel
theorem dX7_loadOf_27 : decode cX7_loadOf 27 = .ok (.ireturn, 1) := by decide +kernel
set_option maxRecDepth 20000 in
theorem ggX7_heightNow_X7_thickOf : GoodIn wsX7_heightNow wsX7_thickOf := goodIn_r _ [6, 7, 8, 9, 10, 11, 12, 13, 14, 15, 16, 17, 18, 19, 20, 21, 22, 23, 24, 25, 26, 27, 28, 29, 30, 31, 32, 33, 34, 35, 36] (by decide +kernel) (by decide +kernel)
set_option maxRecDepth 20000 in
theorem gX7_heightNow_X7_thickOf : GoodIn wsX7_heightNow (wsV RX7 162 RX7 yX7_thickOf wsX7_thickOf) := goodIn_app (goodIn_of _ (by decide +kernel)) ggX7_heightNow_X7_thickOf
theorem dX7_heightNow_0 : decode cX7_heightNow 0 = .ok (.iconst 0, 1) := by decide +kernel
theorem dX7_heightNow_1 : decode cX7_heightNow 1 = .ok (.istore_n 1, 1) := by decide +kernel
theorem dX7_heightNow_2 : decode cX7_heightNow 2 = .ok (.iconst 0, 1) := by decide +kernel
theorem dX7_heightNow_3 : decode cX7_heightNow 3 = .ok (.istore_n 2, 1) := by decide +kernel
theorem dX7_heightNow_4 : decode cX7_heightNow 4 = .ok (.iload_n 2, 1) := by decide +kernel
theorem dX7_heightNow_5 : decode cX7_heightNow 5 = .ok (.aload_n 0, 1) := by decide +kernel
theorem dX7_heightNow_6 : decode cX7_heightNow 6 = .ok (.getfield 67, 3) := by decide +kernel
theorem dX7_heightNow_9 : decode cX7_heightNow 9 = .ok (.if_icmp .ge 17, 3) := by decide +kernel
theorem dX7_heightNow_12 : decode cX7_heightNow 12 = .ok (.iload_n 1, 1) := by decide +kernel
theorem dX7_heightNow_13 : decode cX7_heightNow 13 = .ok (.aload_n 0, 1) := by decide +kernel
theorem dX7_heightNow_14 : decode cX7_heightNow 14 = .ok (.iload_n 2, 1) := by decide +kernel
theorem dX7_heightNow_15 : decode cX7_heightNow 15 = .ok (.invokevirtual 162, 3) := by decide +kernel
theorem dX7_heightNow_18 : decode cX7_heightNow 18 = .ok (.iadd, 1) := by decide +kernel
theorem dX7_heightNow_19 : decode cX7_heightNow 19 = .ok (.istore_n 1, 1) := by decide +kernel
theorem dX7_heightNow_20 : decode cX7_heightNow 20 = .ok (.iinc 2 1, 3) := by decide +kernel
theorem dX7_heightNow_23 : decode cX7_heightNow 23 = .ok (.goto (-19), 3) := by decide +kernel
theorem dX7_heightNow_26 : decode cX7_heightNow 26 = .ok (.iload_n 1, 1) := by decide +kernel
theorem dX7_heightNow_27 : decode cX7_heightNow 27 = .ok (.ireturn, 1) := by decide +kernel
theorem dX7_farthest_0 : decode cX7_farthest 0 = .ok (.iconst 0, 1) := by decide +kernel
theorem dX7_farthest_1 : decode cX7_farthest 1 = .ok (.istore_n 1, 1) := by decide +kernel
theorem dX7_farthest_2 : decode cX7_farthest 2 = .ok (.iconst 1, 1) := by decide +kernel
theorem dX7_farthest_3 : decode cX7_farthest 3 = .ok (.istore_n 2, 1) := by decide +kernel
theorem dX7_farthest_4 : decode cX7_farthest 4 = .ok (.iload_n 2, 1) := by decide +kernel
theorem dX7_farthest_5 : decode cX7_farthest 5 = .ok (.aload_n 0, 1) := by decide +kernel
theorem dX7_farthest_6 : decode cX7_farthest 6 = .ok (.getfield 67, 3) := by decide +kernel
theorem dX7_farthest_9 : decode cX7_farthest 9 = .ok (.if_icmp .ge 30, 3) := by decide +kernel
theorem dX7_farthest_12 : decode cX7_farthest 12 = .ok (.aload_n 0, 1) := by decide +kernel
theorem dX7_farthest_13 : decode cX7_farthest 13 = .ok (.getfield 22, 3) := by decide +kernel
theorem dX7_farthest_16 : decode cX7_farthest 16 = .ok (.iload_n 2, 1) := by decide +kernel
theorem dX7_farthest_17 : decode cX7_farthest 17 = .ok (.iaload, 1) := by decide +kernel
theorem dX7_farthest_18 : decode cX7_farthest 18 = .ok (.aload_n 0, 1) := by decide +kernel
theorem dX7_farthest_19 : decode cX7_farthest 19 = .ok (.getfield 22, 3) := by decide +kernel
theorem dX7_farthest_22 : decode cX7_farthest 22 = .ok (.iload_n 1, 1) := by decide +kernel
theorem dX7_farthest_23 : decode cX7_farthest 23 = .ok (.iaload, 1) := by decide +kernel
theorem dX7_farthest_24 : decode cX7_farthest 24 = .ok (.if_icmp .le 7, 3) := by decide +kernel
theorem dX7_farthest_27 : decode cX7_farthest 27 = .ok (.iload_n 2, 1) := by decide +kernel
theorem dX7_farthest_28 : decode cX7_farthest 28 = .ok (.goto 4, 3) := by decide +kernel
theorem dX7_farthest_31 : decode cX7_farthest 31 = .ok (.iload_n 1, 1) := by decide +kernel
theorem dX7_farthest_32 : decode cX7_farthest 32 = .ok (.istore_n 1, 1) := by decide +kernel
theorem dX7_farthest_33 : decode cX7_farthest 33 = .ok (.iinc 2 1, 3) := by decide +kernel
theorem dX7_farthest_36 : decode cX7_farthest 36 = .ok (.goto (-32), 3) := by decide +kernel
theorem dX7_farthest_39 : decode cX7_farthest 39 = .ok (.iload_n 1, 1) := by decide +kernel
theorem dX7_farthest_40 : decode cX7_farthest 40 = .ok (.ireturn, 1) := by decide +kernel
set_option maxRecDepth 20000 in
theorem ggX7_widthNow_X7_farthest : GoodIn wsX7_widthNow wsX7_farthest := goodIn_r _ [7, 1, 2, 8, 9, 10, 11, 12, 13, 14, 15, 16, 17, 18, 19, 20, 21, 22, 23, 24, 25, 26, 27, 28, 29, 30, 31, 32, 33, 34, 35, 36] (by decide +kernel) (by decide +kernel)
set_option maxRecDepth 20000 in
theorem gX7_widthNow_X7_farthest : GoodIn wsX7_widthNow (wsV RX7 165 RX7 yX7_farthest wsX7_farthest) := goodIn_app (goodIn_of _ (by decide +kernel)) ggX7_widthNow_X7_farthest
theorem dX7_widthNow_0 : decode cX7_widthNow 0 = .ok (.bipush 96, 2) := by decide +kernel
theorem dX7_widthNow_2 : decode cX7_widthNow 2 = .ok (.aload_n 0, 1) := by decide +kernel
theorem dX7_widthNow_3 : decode cX7_widthNow 3 = .ok (.getfield 67, 3) := by decide +kernel
theorem dX7_widthNow_6 : decode cX7_widthNow 6 = .ok (.ifCond .ne 7, 3) := by decide +kernel
theorem dX7_widthNow_9 : decode cX7_widthNow 9 = .ok (.iconst 0, 1) := by decide +kernel
theorem dX7_widthNow_10 : decode cX7_widthNow 10 = .ok (.goto 14, 3) := by decide +kernel
theorem dX7_widthNow_13 : decode cX7_widthNow 13 = .ok (.iconst 2, 1) := by decide +kernel
theorem dX7_widthNow_14 : decode cX7_widthNow 14 = .ok (.aload_n 0, 1) := by decide +kernel
theorem dX7_widthNow_15 : decode cX7_widthNow 15 = .ok (.getfield 22, 3) := by decide +kernel
theorem dX7_widthNow_18 : decode cX7_widthNow 18 = .ok (.aload_n 0, 1) := by decide +kernel
theorem dX7_widthNow_19 : decode cX7_widthNow 19 = .ok (.invokevirtual 165, 3) := by decide +kernel
theorem dX7_widthNow_22 : decode cX7_widthNow 22 = .ok (.iaload, 1) := by decide +kernel
theorem dX7_widthNow_23 : decode cX7_widthNow 23 = .ok (.imul, 1) := by decide +kernel
theorem dX7_widthNow_24 : decode cX7_widthNow 24 = .ok (.iadd, 1) := by decide +kernel
theorem dX7_widthNow_25 : decode cX7_widthNow 25 = .ok (.ireturn, 1) := by decide +kernel
theorem dX7_allSheaves_0 : decode cX7_allSheaves 0 = .ok (.iconst 0, 1) := by decide +kernel
theorem dX7_allSheaves_1 : decode cX7_allSheaves 1 = .ok (.istore_n 1, 1) := by decide +kernel
theorem dX7_allSheaves_2 : decode cX7_allSheaves 2 = .ok (.iconst 0, 1) := by decide +kernel
theorem dX7_allSheaves_3 : decode cX7_allSheaves 3 = .ok (.istore_n 2, 1) := by decide +kernel
theorem dX7_allSheaves_4 : decode cX7_allSheaves 4 = .ok (.iload_n 2, 1) := by decide +kernel
theorem dX7_allSheaves_5 : decode cX7_allSheaves 5 = .ok (.aload_n 0, 1) := by decide +kernel
theorem dX7_allSheaves_6 : decode cX7_allSheaves 6 = .ok (.getfield 67, 3) := by decide +kernel
theorem dX7_allSheaves_9 : decode cX7_allSheaves 9 = .ok (.if_icmp .ge 18, 3) := by decide +kernel
theorem dX7_allSheaves_12 : decode cX7_allSheaves 12 = .ok (.iload_n 1, 1) := by decide +kernel
theorem dX7_allSheaves_13 : decode cX7_allSheaves 13 = .ok (.aload_n 0, 1) := by decide +kernel
theorem dX7_allSheaves_14 : decode cX7_allSheaves 14 = .ok (.getfield 19, 3) := by decide +kernel
theorem dX7_allSheaves_17 : decode cX7_allSheaves 17 = .ok (.iload_n 2, 1) := by decide +kernel
theorem dX7_allSheaves_18 : decode cX7_allSheaves 18 = .ok (.iaload, 1) := by decide +kernel
theorem dX7_allSheaves_19 : decode cX7_allSheaves 19 = .ok (.iadd, 1) := by decide +kernel
theorem dX7_allSheaves_20 : decode cX7_allSheaves 20 = .ok (.istore_n 1, 1) := by decide +kernel
theorem dX7_allSheaves_21 : decode cX7_allSheaves 21 = .ok (.iinc 2 1, 3) := by decide +kernel
theorem dX7_allSheaves_24 : decode cX7_allSheaves 24 = .ok (.goto (-20), 3) := by decide +kernel
theorem dX7_allSheaves_27 : decode cX7_allSheaves 27 = .ok (.iload_n 1, 1) := by decide +kernel
theorem dX7_allSheaves_28 : decode cX7_allSheaves 28 = .ok (.ireturn, 1) := by decide +kernel
set_option maxRecDepth 20000 in
theorem ggX7_layer_X7_isLayer : GoodIn wsX7_layer wsX7_isLayer := goodIn_r _ [9, 10, 41, 42, 43, 44, 45, 46, 47, 48, 49, 50, 51, 52, 53, 54, 55, 56, 57, 58, 59, 60, 61, 62, 63, 64, 65, 66, 67, 68, 69] (by decide +kernel) (by decide +kernel)
set_option maxRecDepth 20000 in
theorem gX7_layer_X7_isLayer : GoodIn wsX7_layer (wsV RX7 168 RX7 yX7_isLayer wsX7_isLayer) := goodIn_app (goodIn_of _ (by decide +kernel)) ggX7_layer_X7_isLayer
set_option maxRecDepth 20000 in
theorem ggX7_layer_X7_lower : GoodIn wsX7_layer wsX7_lower := goodIn_r _ [14, 15, 16, 41, 42, 43, 44, 45, 46, 47, 48, 49, 50, 51, 52, 53, 54, 55, 56, 57, 58, 59, 60, 61, 62, 63, 64, 65, 66, 67, 68, 69] (by decide +kernel) (by decide +kernel)
set_option maxRecDepth 20000 in
theorem gX7_layer_X7_lower : GoodIn wsX7_layer (wsV RX7 171 RX7 yX7_lower wsX7_lower) := goodIn_app (goodIn_of _ (by decide +kernel)) ggX7_layer_X7_lower
set_option maxRecDepth 20000 in
theorem ggX7_layer_X7_weightOf : GoodIn wsX7_layer wsX7_weightOf := goodIn_r _ [20, 1, 2, 41, 42, 43, 44, 45, 46, 47, 48, 49, 50, 51, 52, 53, 54, 55, 56, 57, 58, 59, 60, 61, 62, 63, 64, 65, 66, 67, 68, 69] (by decide +kernel) (by decide +kernel)
set_option maxRecDepth 20000 in
theorem gX7_layer_X7_weightOf : GoodIn wsX7_layer (wsV RX7 159 RX7 yX7_weightOf wsX7_weightOf) := goodIn_app (goodIn_of _ (by decide +kernel)) ggX7_layer_X7_weightOf
set_option maxRecDepth 20000 in
theorem ggX7_layer_X7_bindingOf : GoodIn wsX7_layer wsX7_bindingOf := goodIn_r _ [24, 25, 26, 27, 28, 8, 29, 2, 1, 30, 31, 32, 41, 42, 43, 44, 45, 46, 47, 48, 49, 50, 51, 52, 53, 54, 55, 56, 57, 58, 59, 60, 61, 62, 63, 64, 65, 66, 67, 68, 69] (by decide +kernel) (by decide +kernel)
set_option maxRecDepth 20000 in
theorem gX7_layer_X7_bindingOf : GoodIn wsX7_layer (wsV RX7 174 RX7 yX7_bindingOf wsX7_bindingOf) := goodIn_app (goodIn_of _ (by decide +kernel)) ggX7_layer_X7_bindingOf
set_option maxRecDepth 20000 in
theorem ggX7_layer_X7_thickOf : GoodIn wsX7_layer wsX7_thickOf := goodIn_r _ [36, 1, 41, 42, 43, 44, 45, 46, 47, 48, 49, 50, 51, 52, 53, 54, 55, 56, 57, 58, 59, 60, 61, 62, 63, 64, 65, 66, 67, 68, 69] (by decide +kernel) (by decide +kernel)
set_option maxRecDepth 20000 in
theorem gX7_layer_X7_thickOf : GoodIn wsX7_layer (wsV RX7 162 RX7 yX7_thickOf wsX7_thickOf) := goodIn_app (goodIn_of _ (by decide +kernel)) ggX7_layer_X7_thickOf
set_option maxRecDepth 20000 in
theorem ggX7_layer_X7_loadOf : GoodIn wsX7_layer wsX7_loadOf := goodIn_r _ [40, 10, 17, 18, 19, 8, 20, 1, 2, 41, 42, 43, 44, 45, 46, 47, 48, 49, 50, 51, 52, 53, 54, 55, 56, 57, 58, 59, 60, 61, 62, 63, 64, 65, 66, 67, 68, 69] (by decide +kernel) (by decide +kernel)
set_option maxRecDepth 20000 in
theorem gX7_layer_X7_loadOf : GoodIn wsX7_layer (wsV RX7 177 RX7 yX7_loadOf wsX7_loadOf) := goodIn_app (goodIn_of _ (by decide +kernel)) ggX7_layer_X7_loadOf
theorem dX7_layer_0 : decode cX7_layer 0 = .ok (.aload_n 0, 1) := by decide +kernel
theorem dX7_layer_1 : decode cX7_layer 1 = .ok (.iload_n 1, 1) := by decide +kernel
theorem dX7_layer_2 : decode cX7_layer 2 = .ok (.invokevirtual 168, 3) := by decide +kernel
theorem dX7_layer_5 : decode cX7_layer 5 = .ok (.ifCond .ne 9, 3) := by decide +kernel
theorem dX7_layer_8 : decode cX7_layer 8 = .ok (.aload_n 0, 1) := by decide +kernel
theorem dX7_layer_9 : decode cX7_layer 9 = .ok (.iconst (-1), 1) := by decide +kernel
theorem dX7_layer_10 : decode cX7_layer 10 = .ok (.invokevirtual 171, 3) := by decide +kernel
theorem dX7_layer_13 : decode cX7_layer 13 = .ok (.ireturn, 1) := by decide +kernel
theorem dX7_layer_14 : decode cX7_layer 14 = .ok (.iload_n 2, 1) := by decide +kernel
theorem dX7_layer_15 : decode cX7_layer 15 = .ok (.tableswitch 97 0 7 #[45, 52, 59, 66, 73, 79, 85, 91], 45) := by decide +kernel
theorem dX7_layer_60 : decode cX7_layer 60 = .ok (.aload_n 0, 1) := by decide +kernel
theorem dX7_layer_61 : decode cX7_layer 61 = .ok (.getfield 16, 3) := by decide +kernel
theorem dX7_layer_64 : decode cX7_layer 64 = .ok (.iload_n 1, 1) := by decide +kernel
theorem dX7_layer_65 : decode cX7_layer 65 = .ok (.iaload, 1) := by decide +kernel
theorem dX7_layer_66 : decode cX7_layer 66 = .ok (.ireturn, 1) := by decide +kernel
theorem dX7_layer_67 : decode cX7_layer 67 = .ok (.aload_n 0, 1) := by decide +kernel
theorem dX7_layer_68 : decode cX7_layer 68 = .ok (.getfield 19, 3) := by decide +kernel
theorem dX7_layer_71 : decode cX7_layer 71 = .ok (.iload_n 1, 1) := by decide +kernel
theorem dX7_layer_72 : decode cX7_layer 72 = .ok (.iaload, 1) := by decide +kernel
theorem dX7_layer_73 : decode cX7_layer 73 = .ok (.ireturn, 1) := by decide +kernel
theorem dX7_layer_74 : decode cX7_layer 74 = .ok (.aload_n 0, 1) := by decide +kernel
theorem dX7_layer_75 : decode cX7_layer 75 = .ok (.getfield 22, 3) := by decide +kernel
theorem dX7_layer_78 : decode cX7_layer 78 = .ok (.iload_n 1, 1) := by decide +kernel
theorem dX7_layer_79 : decode cX7_layer 79 = .ok (.iaload, 1) := by decide +kernel
theorem dX7_layer_80 : decode cX7_layer 80 = .ok (.ireturn, 1) := by decide +kernel
theorem dX7_layer_81 : decode cX7_layer 81 = .ok (.aload_n 0, 1) := by decide +kernel
theorem dX7_layer_82 : decode cX7_layer 82 = .ok (.getfield 25, 3) := by decide +kernel
theorem dX7_layer_85 : decode cX7_layer 85 = .ok (.iload_n 1, 1) := by decide +kernel
theorem dX7_layer_86 : decode cX7_layer 86 = .ok (.iaload, 1) := by decide +kernel
theorem dX7_layer_87 : decode cX7_layer 87 = .ok (.ireturn, 1) := by decide +kernel
theorem dX7_layer_88 : decode cX7_layer 88 = .ok (.aload_n 0, 1) := by decide +kernel
theorem dX7_layer_89 : decode cX7_layer 89 = .ok (.iload_n 1, 1) := by decide +kernel
theorem dX7_layer_90 : decode cX7_layer 90 = .ok (.invokevirtual 159, 3) := by decide +kernel
theorem dX7_layer_93 : decode cX7_layer 93 = .ok (.ireturn, 1) := by decide +kernel
theorem dX7_layer_94 : decode cX7_layer 94 = .ok (.aload_n 0, 1) := by decide +kernel
theorem dX7_layer_95 : decode cX7_layer 95 = .ok (.iload_n 1, 1) := by decide +kernel
theorem dX7_layer_96 : decode cX7_layer 96 = .ok (.invokevirtual 174, 3) := by decide +kernel
theorem dX7_layer_99 : decode cX7_layer 99 = .ok (.ireturn, 1) := by decide +kernel
theorem dX7_layer_100 : decode cX7_layer 100 = .ok (.aload_n 0, 1) := by decide +kernel
theorem dX7_layer_101 : decode cX7_layer 101 = .ok (.iload_n 1, 1) := by decide +kernel
theorem dX7_layer_102 : decode cX7_layer 102 = .ok (.invokevirtual 162, 3) := by decide +kernel
theorem dX7_layer_105 : decode cX7_layer 105 = .ok (.ireturn, 1) := by decide +kernel
theorem dX7_layer_106 : decode cX7_layer 106 = .ok (.aload_n 0, 1) := by decide +kernel
theorem dX7_layer_107 : decode cX7_layer 107 = .ok (.iload_n 1, 1) := by decide +kernel
theorem dX7_layer_108 : decode cX7_layer 108 = .ok (.invokevirtual 177, 3) := by decide +kernel
theorem dX7_layer_111 : decode cX7_layer 111 = .ok (.ireturn, 1) := by decide +kernel
theorem dX7_layer_112 : decode cX7_layer 112 = .ok (.aload_n 0, 1) := by decide +kernel
theorem dX7_layer_113 : decode cX7_layer 113 = .ok (.bipush (-2), 2) := by decide +kernel
theorem dX7_layer_115 : decode cX7_layer 115 = .ok (.invokevirtual 171, 3) := by decide +kernel
theorem dX7_layer_118 : decode cX7_layer 118 = .ok (.ireturn, 1) := by decide +kernel
set_option maxRecDepth 20000 in
theorem ggX7_piece_X7_isPiece : GoodIn wsX7_piece wsX7_isPiece := goodIn_r _ [8, 9, 10, 11, 7, 12, 18, 19, 20, 21, 22, 23, 24, 25, 26, 27, 28, 29, 30, 31, 32, 33, 34, 35, 36, 37, 38, 39, 40, 41, 42, 43, 44, 45, 46] (by decide +kernel) (by decide +kernel)
set_option maxRecDepth 20000 in
theorem gX7_piece_X7_isPiece : GoodIn wsX7_piece (wsV RX7 180 RX7 yX7_isPiece wsX7_isPiece) := goodIn_app (goodIn_of _ (by decide +kernel)) ggX7_piece_X7_isPiece
set_option maxRecDepth 20000 in
theorem ggX7_piece_X7_no : GoodIn wsX7_piece wsX7_no := goodIn_r _ [16, 17, 18, 19, 20, 21, 22, 23, 24, 25, 26, 27, 28, 29, 30, 31, 32, 33, 34, 35, 36, 37, 38, 39, 40, 41, 42, 43, 44, 45, 46] (by decide +kernel) (by decide +kernel)
set_option maxRecDepth 20000 in
theorem gX7_piece_X7_no : GoodIn wsX7_piece (wsV RX7 82 RX7 yX7_no wsX7_no) := goodIn_app (goodIn_of _ (by decide +kernel)) ggX7_piece_X7_no
theorem dX7_piece_0 : decode cX7_piece 0 = .ok (.aload_n 0, 1) := by decide +kernel
theorem dX7_piece_1 : decode cX7_piece 1 = .ok (.iload_n 1, 1) := by decide +kernel
theorem dX7_piece_2 : decode cX7_piece 2 = .ok (.iload_n 2, 1) := by decide +kernel
theorem dX7_piece_3 : decode cX7_piece 3 = .ok (.invokevirtual 180, 3) := by decide +kernel
theorem dX7_piece_6 : decode cX7_piece 6 = .ok (.ifCond .ne 9, 3) := by decide +kernel
theorem dX7_piece_9 : decode cX7_piece 9 = .ok (.aload_n 0, 1) := by decide +kernel
theorem dX7_piece_10 : decode cX7_piece 10 = .ok (.iconst (-1), 1) := by decide +kernel
theorem dX7_piece_11 : decode cX7_piece 11 = .ok (.invokevirtual 82, 3) := by decide +kernel
theorem dX7_piece_14 : decode cX7_piece 14 = .ok (.ireturn, 1) := by decide +kernel
theorem dX7_piece_15 : decode cX7_piece 15 = .ok (.bipush 6, 2) := by decide +kernel
theorem dX7_piece_17 : decode cX7_piece 17 = .ok (.iload_n 1, 1) := by decide +kernel
theorem dX7_piece_18 : decode cX7_piece 18 = .ok (.imul, 1) := by decide +kernel
theorem dX7_piece_19 : decode cX7_piece 19 = .ok (.iload_n 2, 1) := by decide +kernel
theorem dX7_piece_20 : decode cX7_piece 20 = .ok (.iadd, 1) := by decide +kernel
theorem dX7_piece_21 : decode cX7_piece 21 = .ok (.istore 4, 2) := by decide +kernel
theorem dX7_piece_23 : decode cX7_piece 23 = .ok (.iload_n 3, 1) := by decide +kernel
theorem dX7_piece_24 : decode cX7_piece 24 = .ok (.tableswitch 52 0 2 #[28, 36, 44], 28) := by decide +kernel
theorem dX7_piece_52 : decode cX7_piece 52 = .ok (.aload_n 0, 1) := by decide +kernel
theorem dX7_piece_53 : decode cX7_piece 53 = .ok (.getfield 31, 3) := by decide +kernel
theorem dX7_piece_56 : decode cX7_piece 56 = .ok (.iload 4, 2) := by decide +kernel
theorem dX7_piece_58 : decode cX7_piece 58 = .ok (.iaload, 1) := by decide +kernel
theorem dX7_piece_59 : decode cX7_piece 59 = .ok (.ireturn, 1) := by decide +kernel
theorem dX7_piece_60 : decode cX7_piece 60 = .ok (.aload_n 0, 1) := by decide +kernel
theorem dX7_piece_61 : decode cX7_piece 61 = .ok (.getfield 34, 3) := by decide +kernel
theorem dX7_piece_64 : decode cX7_piece 64 = .ok (.iload 4, 2) := by decide +kernel
theorem dX7_piece_66 : decode cX7_piece 66 = .ok (.iaload, 1) := by decide +kernel
theorem dX7_piece_67 : decode cX7_piece 67 = .ok (.ireturn, 1) := by decide +kernel
theorem dX7_piece_68 : decode cX7_piece 68 = .ok (.aload_n 0, 1) := by decide +kernel
theorem dX7_piece_69 : decode cX7_piece 69 = .ok (.getfield 37, 3) := by decide +kernel
theorem dX7_piece_72 : decode cX7_piece 72 = .ok (.iload 4, 2) := by decide +kernel
theorem dX7_piece_74 : decode cX7_piece 74 = .ok (.iaload, 1) := by decide +kernel
theorem dX7_piece_75 : decode cX7_piece 75 = .ok (.ireturn, 1) := by decide +kernel
theorem dX7_piece_76 : decode cX7_piece 76 = .ok (.aload_n 0, 1) := by decide +kernel
theorem dX7_piece_77 : decode cX7_piece 77 = .ok (.bipush (-2), 2) := by decide +kernel
theorem dX7_piece_79 : decode cX7_piece 79 = .ok (.invokevirtual 82, 3) := by decide +kernel
theorem dX7_piece_82 : decode cX7_piece 82 = .ok (.ireturn, 1) := by decide +kernel
set_option maxRecDepth 20000 in
theorem ggX7_off_X7_no : GoodIn wsX7_off wsX7_no := goodIn_r _ [6, 7, 8, 9, 10, 11, 12, 13, 14, 15, 16, 17, 18, 19, 20, 21, 22, 23, 24, 25, 26, 27, 28, 29, 30, 31, 32, 33, 34, 35, 36] (by decide +kernel) (by decide +kernel)
set_option maxRecDepth 20000 in
theorem gX7_off_X7_no : GoodIn wsX7_off (wsV RX7 82 RX7 yX7_no wsX7_no) := goodIn_app (goodIn_of _ (by decide +kernel)) ggX7_off_X7_no
theorem dX7_off_0 : decode cX7_off 0 = .ok (.aload_n 0, 1) := by decide +kernel
theorem dX7_off_1 : decode cX7_off 1 = .ok (.getfield 67, 3) := by decide +kernel
theorem dX7_off_4 : decode cX7_off 4 = .ok (.ifCond .ne 10, 3) := by decide +kernel
theorem dX7_off_7 : decode cX7_off 7 = .ok (.aload_n 0, 1) := by decide +kernel
theorem dX7_off_8 : decode cX7_off 8 = .ok (.bipush (-3), 2) := by decide +kernel
theorem dX7_off_10 : decode cX7_off 10 = .ok (.invokevirtual 82, 3) := by decide +kernel
theorem dX7_off_13 : decode cX7_off 13 = .ok (.ireturn, 1) := by decide +kernel
theorem dX7_off_14 : decode cX7_off 14 = .ok (.aload_n 0, 1) := by decide +kernel
theorem dX7_off_15 : decode cX7_off 15 = .ok (.dup, 1) := by decide +kernel
theorem dX7_off_16 : decode cX7_off 16 = .ok (.getfield 67, 3) := by decide +kernel
theorem dX7_off_19 : decode cX7_off 19 = .ok (.iconst 1, 1) := by decide +kernel
theorem dX7_off_20 : decode cX7_off 20 = .ok (.isub, 1) := by decide +kernel
theorem dX7_off_21 : decode cX7_off 21 = .ok (.putfield 67, 3) := by decide +kernel
theorem dX7_off_24 : decode cX7_off 24 = .ok (.aload_n 0, 1) := by decide +kernel
theorem dX7_off_25 : decode cX7_off 25 = .ok (.getfield 67, 3) := by decide +kernel
theorem dX7_off_28 : decode cX7_off 28 = .ok (.ireturn, 1) := by decide +kernel
set_option maxRecDepth 20000 in
theorem ggX7_out_X7_isLayer : GoodIn wsX7_out wsX7_isLayer := goodIn_r _ [6, 7, 16, 17, 18, 19, 20, 21, 22, 23, 24, 25, 26, 27, 28, 29, 30, 31, 32, 33, 34, 35, 36, 37, 38, 39, 40, 41, 42, 43, 44] (by decide +kernel) (by decide +kernel)
set_option maxRecDepth 20000 in
theorem gX7_out_X7_isLayer : GoodIn wsX7_out (wsV RX7 168 RX7 yX7_isLayer wsX7_isLayer) := goodIn_app (goodIn_of _ (by decide +kernel)) ggX7_out_X7_isLayer
set_option maxRecDepth 20000 in
theorem ggX7_out_X7_bound : GoodIn wsX7_out wsX7_bound := goodIn_r _ [10] (by decide +kernel) (by decide +kernel)
set_option maxRecDepth 20000 in
theorem gX7_out_X7_bound : GoodIn wsX7_out (va_wsS RX7 75 yX7_bound wsX7_bound) := goodIn_app (goodIn_of _ (by decide +kernel)) ggX7_out_X7_bound
set_option maxRecDepth 20000 in
theorem ggX7_out_X7_no : GoodIn wsX7_out wsX7_no := goodIn_r _ [14, 15, 16, 17, 18, 19, 20, 21, 22, 23, 24, 25, 26, 27, 28, 29, 30, 31, 32, 33, 34, 35, 36, 37, 38, 39, 40, 41, 42, 43, 44] (by decide +kernel) (by decide +kernel)
set_option maxRecDepth 20000 in
theorem gX7_out_X7_no : GoodIn wsX7_out (wsV RX7 82 RX7 yX7_no wsX7_no) := goodIn_app (goodIn_of _ (by decide +kernel)) ggX7_out_X7_no
theorem dX7_out_0 : decode cX7_out 0 = .ok (.aload_n 0, 1) := by decide +kernel
theorem dX7_out_1 : decode cX7_out 1 = .ok (.iload_n 1, 1) := by decide +kernel
theorem dX7_out_2 : decode cX7_out 2 = .ok (.invokevirtual 168, 3) := by decide +kernel
theorem dX7_out_5 : decode cX7_out 5 = .ok (.ifCond .ne 7, 3) := by decide +kernel
theorem dX7_out_8 : decode cX7_out 8 = .ok (.iconst (-1), 1) := by decide +kernel
theorem dX7_out_9 : decode cX7_out 9 = .ok (.goto 10, 3) := by decide +kernel
theorem dX7_out_12 : decode cX7_out 12 = .ok (.iload_n 2, 1) := by decide +kernel
theorem dX7_out_13 : decode cX7_out 13 = .ok (.iconst 0, 1) := by decide +kernel
theorem dX7_out_14 : decode cX7_out 14 = .ok (.bipush 9, 2) := by decide +kernel
theorem dX7_out_16 : decode cX7_out 16 = .ok (.invokestatic 75, 3) := by decide +kernel
theorem dX7_out_19 : decode cX7_out 19 = .ok (.istore_n 3, 1) := by decide +kernel
theorem dX7_out_20 : decode cX7_out 20 = .ok (.iload_n 3, 1) := by decide +kernel
theorem dX7_out_21 : decode cX7_out 21 = .ok (.ifCond .eq 9, 3) := by decide +kernel
theorem dX7_out_24 : decode cX7_out 24 = .ok (.aload_n 0, 1) := by decide +kernel
theorem dX7_out_25 : decode cX7_out 25 = .ok (.iload_n 3, 1) := by decide +kernel
theorem dX7_out_26 : decode cX7_out 26 = .ok (.invokevirtual 82, 3) := by decide +kernel
theorem dX7_out_29 : decode cX7_out 29 = .ok (.ireturn, 1) := by decide +kernel
theorem dX7_out_30 : decode cX7_out 30 = .ok (.aload_n 0, 1) := by decide +kernel
theorem dX7_out_31 : decode cX7_out 31 = .ok (.getfield 22, 3) := by decide +kernel
theorem dX7_out_34 : decode cX7_out 34 = .ok (.iload_n 1, 1) := by decide +kernel
theorem dX7_out_35 : decode cX7_out 35 = .ok (.iaload, 1) := by decide +kernel
theorem dX7_out_36 : decode cX7_out 36 = .ok (.istore 4, 2) := by decide +kernel
theorem dX7_out_38 : decode cX7_out 38 = .ok (.aload_n 0, 1) := by decide +kernel
theorem dX7_out_39 : decode cX7_out 39 = .ok (.getfield 22, 3) := by decide +kernel
theorem dX7_out_42 : decode cX7_out 42 = .ok (.iload_n 1, 1) := by decide +kernel
theorem dX7_out_43 : decode cX7_out 43 = .ok (.iload_n 2, 1) := by decide +kernel
theorem dX7_out_44 : decode cX7_out 44 = .ok (.iastore, 1) := by decide +kernel
theorem dX7_out_45 : decode cX7_out 45 = .ok (.iload 4, 2) := by decide +kernel
theorem dX7_out_47 : decode cX7_out 47 = .ok (.ireturn, 1) := by decide +kernel
theorem dX7_mostOf_0 : decode cX7_mostOf 0 = .ok (.iload_n 0, 1) := by decide +kernel
theorem dX7_mostOf_1 : decode cX7_mostOf 1 = .ok (.ifCond .ne 7, 3) := by decide +kernel
theorem dX7_mostOf_4 : decode cX7_mostOf 4 = .ok (.iconst 5, 1) := by decide +kernel
theorem dX7_mostOf_5 : decode cX7_mostOf 5 = .ok (.goto 16, 3) := by decide +kernel
theorem dX7_mostOf_8 : decode cX7_mostOf 8 = .ok (.iload_n 0, 1) := by decide +kernel
theorem dX7_mostOf_9 : decode cX7_mostOf 9 = .ok (.iconst 3, 1) := by decide +kernel
theorem dX7_mostOf_10 : decode cX7_mostOf 10 = .ok (.if_icmp .ne 9, 3) := by decide +kernel
theorem dX7_mostOf_13 : decode cX7_mostOf 13 = .ok (.sipush 999, 3) := by decide +kernel
theorem dX7_mostOf_16 : decode cX7_mostOf 16 = .ok (.goto 5, 3) := by decide +kernel
theorem dX7_mostOf_19 : decode cX7_mostOf 19 = .ok (.bipush 9, 2) := by decide +kernel
theorem dX7_mostOf_21 : decode cX7_mostOf 21 = .ok (.ireturn, 1) := by decide +kernel
set_option maxRecDepth 20000 in
theorem ggX7_set_X7_isIn : GoodIn wsX7_set wsX7_isIn := goodIn_r _ [5] (by decide +kernel) (by decide +kernel)
set_option maxRecDepth 20000 in
theorem gX7_set_X7_isIn : GoodIn wsX7_set (va_wsS RX7 93 yX7_isIn wsX7_isIn) := goodIn_app (goodIn_of _ (by decide +kernel)) ggX7_set_X7_isIn
set_option maxRecDepth 20000 in
theorem ggX7_set_X7_mostOf : GoodIn wsX7_set wsX7_mostOf := goodIn_r _ [8] (by decide +kernel) (by decide +kernel)
set_option maxRecDepth 20000 in
theorem gX7_set_X7_mostOf : GoodIn wsX7_set (va_wsS RX7 183 yX7_mostOf wsX7_mostOf) := goodIn_app (goodIn_of _ (by decide +kernel)) ggX7_set_X7_mostOf
set_option maxRecDepth 20000 in
theorem ggX7_set_X7_bound : GoodIn wsX7_set wsX7_bound := goodIn_r _ [11] (by decide +kernel) (by decide +kernel)
set_option maxRecDepth 20000 in
theorem gX7_set_X7_bound : GoodIn wsX7_set (va_wsS RX7 75 yX7_bound wsX7_bound) := goodIn_app (goodIn_of _ (by decide +kernel)) ggX7_set_X7_bound
set_option maxRecDepth 20000 in
theorem ggX7_set_X7_no : GoodIn wsX7_set wsX7_no := goodIn_r _ [15, 16, 17, 18, 19, 20, 21, 22, 23, 24, 25, 26, 27, 28, 29, 30, 31, 32, 33, 34, 35, 36, 37, 38, 39, 40, 41, 42, 43, 44, 45] (by decide +kernel) (by decide +kernel)
set_option maxRecDepth 20000 in
theorem gX7_set_X7_no : GoodIn wsX7_set (wsV RX7 82 RX7 yX7_no wsX7_no) := goodIn_app (goodIn_of _ (by decide +kernel)) ggX7_set_X7_no
theorem dX7_set_0 : decode cX7_set 0 = .ok (.iload_n 1, 1) := by decide +kernel
theorem dX7_set_1 : decode cX7_set 1 = .ok (.iconst 0, 1) := by decide +kernel
theorem dX7_set_2 : decode cX7_set 2 = .ok (.iconst 3, 1) := by decide +kernel
theorem dX7_set_3 : decode cX7_set 3 = .ok (.invokestatic 93, 3) := by decide +kernel
theorem dX7_set_6 : decode cX7_set 6 = .ok (.ifCond .ne 8, 3) := by decide +kernel
theorem dX7_set_9 : decode cX7_set 9 = .ok (.bipush (-2), 2) := by decide +kernel
theorem dX7_set_11 : decode cX7_set 11 = .ok (.goto 26, 3) := by decide +kernel
theorem dX7_set_14 : decode cX7_set 14 = .ok (.iload_n 2, 1) := by decide +kernel
theorem dX7_set_15 : decode cX7_set 15 = .ok (.iload_n 1, 1) := by decide +kernel
theorem dX7_set_16 : decode cX7_set 16 = .ok (.iconst 1, 1) := by decide +kernel
theorem dX7_set_17 : decode cX7_set 17 = .ok (.if_icmp .eq 8, 3) := by decide +kernel
theorem dX7_set_20 : decode cX7_set 20 = .ok (.iload_n 1, 1) := by decide +kernel
theorem dX7_set_21 : decode cX7_set 21 = .ok (.iconst 2, 1) := by decide +kernel
theorem dX7_set_22 : decode cX7_set 22 = .ok (.if_icmp .ne 7, 3) := by decide +kernel
theorem dX7_set_25 : decode cX7_set 25 = .ok (.iconst 1, 1) := by decide +kernel
theorem dX7_set_26 : decode cX7_set 26 = .ok (.goto 4, 3) := by decide +kernel
theorem dX7_set_29 : decode cX7_set 29 = .ok (.iconst 0, 1) := by decide +kernel
theorem dX7_set_30 : decode cX7_set 30 = .ok (.iload_n 1, 1) := by decide +kernel
theorem dX7_set_31 : decode cX7_set 31 = .ok (.invokestatic 183, 3) := by decide +kernel
theorem dX7_set_34 : decode cX7_set 34 = .ok (.invokestatic 75, 3) := by decide +kernel
theorem dX7_set_37 : decode cX7_set 37 = .ok (.istore_n 3, 1) := by decide +kernel
theorem dX7_set_38 : decode cX7_set 38 = .ok (.iload_n 3, 1) := by decide +kernel
theorem dX7_set_39 : decode cX7_set 39 = .ok (.ifCond .eq 9, 3) := by decide +kernel
theorem dX7_set_42 : decode cX7_set 42 = .ok (.aload_n 0, 1) := by decide +kernel
theorem dX7_set_43 : decode cX7_set 43 = .ok (.iload_n 3, 1) := by decide +kernel
theorem dX7_set_44 : decode cX7_set 44 = .ok (.invokevirtual 82, 3) := by decide +kernel
theorem dX7_set_47 : decode cX7_set 47 = .ok (.ireturn, 1) := by decide +kernel
theorem dX7_set_48 : decode cX7_set 48 = .ok (.aload_n 0, 1) := by decide +kernel
theorem dX7_set_49 : decode cX7_set 49 = .ok (.getfield 13, 3) := by decide +kernel
theorem dX7_set_52 : decode cX7_set 52 = .ok (.iload_n 1, 1) := by decide +kernel
theorem dX7_set_53 : decode cX7_set 53 = .ok (.iaload, 1) := by decide +kernel
theorem dX7_set_54 : decode cX7_set 54 = .ok (.istore 4, 2) := by decide +kernel
theorem dX7_set_56 : decode cX7_set 56 = .ok (.aload_n 0, 1) := by decide +kernel
theorem dX7_set_57 : decode cX7_set 57 = .ok (.getfield 13, 3) := by decide +kernel
theorem dX7_set_60 : decode cX7_set 60 = .ok (.iload_n 1, 1) := by decide +kernel
theorem dX7_set_61 : decode cX7_set 61 = .ok (.iload_n 2, 1) := by decide +kernel
theorem dX7_set_62 : decode cX7_set 62 = .ok (.iastore, 1) := by decide +kernel
theorem dX7_set_63 : decode cX7_set 63 = .ok (.iload 4, 2) := by decide +kernel
theorem dX7_set_65 : decode cX7_set 65 = .ok (.ireturn, 1) := by decide +kernel
set_option maxRecDepth 20000 in
theorem ggX7_shiftAt_X7_loadOf : GoodIn wsX7_shiftAt wsX7_loadOf := goodIn_r _ [9, 10, 11, 12, 13, 8, 14, 15, 16, 17, 18, 19, 20, 21, 22, 23, 24, 25, 26, 27, 28, 29, 30, 31, 32, 33, 34, 35, 36, 37, 38, 39, 40, 41, 42, 43, 44, 45] (by decide +kernel) (by decide +kernel)
set_option maxRecDepth 20000 in
theorem gX7_shiftAt_X7_loadOf : GoodIn wsX7_shiftAt (wsV RX7 177 RX7 yX7_loadOf wsX7_loadOf) := goodIn_app (goodIn_of _ (by decide +kernel)) ggX7_shiftAt_X7_loadOf
theorem dX7_shiftAt_0 : decode cX7_shiftAt 0 = .ok (.aload_n 0, 1) := by decide +kernel
theorem dX7_shiftAt_1 : decode cX7_shiftAt 1 = .ok (.getfield 34, 3) := by decide +kernel
theorem dX7_shiftAt_4 : decode cX7_shiftAt 4 = .ok (.iload_n 1, 1) := by decide +kernel
theorem dX7_shiftAt_5 : decode cX7_shiftAt 5 = .ok (.iaload, 1) := by decide +kernel
theorem dX7_shiftAt_6 : decode cX7_shiftAt 6 = .ok (.istore_n 3, 1) := by decide +kernel
theorem dX7_shiftAt_7 : decode cX7_shiftAt 7 = .ok (.aload_n 0, 1) := by decide +kernel
theorem dX7_shiftAt_8 : decode cX7_shiftAt 8 = .ok (.iload_n 2, 1) := by decide +kernel
theorem dX7_shiftAt_9 : decode cX7_shiftAt 9 = .ok (.invokevirtual 177, 3) := by decide +kernel
theorem dX7_shiftAt_12 : decode cX7_shiftAt 12 = .ok (.istore 4, 2) := by decide +kernel
theorem dX7_shiftAt_14 : decode cX7_shiftAt 14 = .ok (.iload_n 3, 1) := by decide +kernel
theorem dX7_shiftAt_15 : decode cX7_shiftAt 15 = .ok (.bipush 10, 2) := by decide +kernel
theorem dX7_shiftAt_17 : decode cX7_shiftAt 17 = .ok (.isub, 1) := by decide +kernel
theorem dX7_shiftAt_18 : decode cX7_shiftAt 18 = .ok (.aload_n 0, 1) := by decide +kernel
theorem dX7_shiftAt_19 : decode cX7_shiftAt 19 = .ok (.getfield 25, 3) := by decide +kernel
theorem dX7_shiftAt_22 : decode cX7_shiftAt 22 = .ok (.iload_n 2, 1) := by decide +kernel
theorem dX7_shiftAt_23 : decode cX7_shiftAt 23 = .ok (.iaload, 1) := by decide +kernel
theorem dX7_shiftAt_24 : decode cX7_shiftAt 24 = .ok (.iadd, 1) := by decide +kernel
theorem dX7_shiftAt_25 : decode cX7_shiftAt 25 = .ok (.istore 5, 2) := by decide +kernel
theorem dX7_shiftAt_27 : decode cX7_shiftAt 27 = .ok (.aload_n 0, 1) := by decide +kernel
theorem dX7_shiftAt_28 : decode cX7_shiftAt 28 = .ok (.getfield 31, 3) := by decide +kernel
theorem dX7_shiftAt_31 : decode cX7_shiftAt 31 = .ok (.iload_n 1, 1) := by decide +kernel
theorem dX7_shiftAt_32 : decode cX7_shiftAt 32 = .ok (.iaload, 1) := by decide +kernel
theorem dX7_shiftAt_33 : decode cX7_shiftAt 33 = .ok (.tableswitch 88 0 3 #[31, 51, 59, 73], 31) := by decide +kernel
theorem dX7_shiftAt_64 : decode cX7_shiftAt 64 = .ok (.iload 4, 2) := by decide +kernel
theorem dX7_shiftAt_66 : decode cX7_shiftAt 66 = .ok (.iload 5, 2) := by decide +kernel
theorem dX7_shiftAt_68 : decode cX7_shiftAt 68 = .ok (.ifCond .ge 9, 3) := by decide +kernel
theorem dX7_shiftAt_71 : decode cX7_shiftAt 71 = .ok (.iload 5, 2) := by decide +kernel
theorem dX7_shiftAt_73 : decode cX7_shiftAt 73 = .ok (.ineg, 1) := by decide +kernel
theorem dX7_shiftAt_74 : decode cX7_shiftAt 74 = .ok (.goto 5, 3) := by decide +kernel
theorem dX7_shiftAt_77 : decode cX7_shiftAt 77 = .ok (.iload 5, 2) := by decide +kernel
theorem dX7_shiftAt_79 : decode cX7_shiftAt 79 = .ok (.imul, 1) := by decide +kernel
theorem dX7_shiftAt_80 : decode cX7_shiftAt 80 = .ok (.bipush 40, 2) := by decide +kernel
theorem dX7_shiftAt_82 : decode cX7_shiftAt 82 = .ok (.idiv, 1) := by decide +kernel
theorem dX7_shiftAt_83 : decode cX7_shiftAt 83 = .ok (.ireturn, 1) := by decide +kernel
theorem dX7_shiftAt_84 : decode cX7_shiftAt 84 = .ok (.iload 4, 2) := by decide +kernel
theorem dX7_shiftAt_86 : decode cX7_shiftAt 86 = .ok (.iload_n 3, 1) := by decide +kernel
theorem dX7_shiftAt_87 : decode cX7_shiftAt 87 = .ok (.imul, 1) := by decide +kernel
theorem dX7_shiftAt_88 : decode cX7_shiftAt 88 = .ok (.bipush 60, 2) := by decide +kernel
theorem dX7_shiftAt_90 : decode cX7_shiftAt 90 = .ok (.idiv, 1) := by decide +kernel
theorem dX7_shiftAt_91 : decode cX7_shiftAt 91 = .ok (.ireturn, 1) := by decide +kernel
theorem dX7_shiftAt_92 : decode cX7_shiftAt 92 = .ok (.iload 4, 2) := by decide +kernel
theorem dX7_shiftAt_94 : decode cX7_shiftAt 94 = .ok (.iload_n 3, 1) := by decide +kernel
theorem dX7_shiftAt_95 : decode cX7_shiftAt 95 = .ok (.imul, 1) := by decide +kernel
theorem dX7_shiftAt_96 : decode cX7_shiftAt 96 = .ok (.bipush 60, 2) := by decide +kernel
theorem dX7_shiftAt_98 : decode cX7_shiftAt 98 = .ok (.idiv, 1) := by decide +kernel
theorem dX7_shiftAt_99 : decode cX7_shiftAt 99 = .ok (.iload_n 2, 1) := by decide +kernel
theorem dX7_shiftAt_100 : decode cX7_shiftAt 100 = .ok (.iconst 1, 1) := by decide +kernel
theorem dX7_shiftAt_101 : decode cX7_shiftAt 101 = .ok (.iadd, 1) := by decide +kernel
theorem dX7_shiftAt_102 : decode cX7_shiftAt 102 = .ok (.imul, 1) := by decide +kernel
theorem dX7_shiftAt_103 : decode cX7_shiftAt 103 = .ok (.iconst 3, 1) := by decide +kernel
theorem dX7_shiftAt_104 : decode cX7_shiftAt 104 = .ok (.idiv, 1) := by decide +kernel
theorem dX7_shiftAt_105 : decode cX7_shiftAt 105 = .ok (.ireturn, 1) := by decide +kernel
theorem dX7_shiftAt_106 : decode cX7_shiftAt 106 = .ok (.iload 4, 2) := by decide +kernel
theorem dX7_shiftAt_108 : decode cX7_shiftAt 108 = .ok (.iload_n 3, 1) := by decide +kernel
theorem dX7_shiftAt_109 : decode cX7_shiftAt 109 = .ok (.aload_n 0, 1) := by decide +kernel
theorem dX7_shiftAt_110 : decode cX7_shiftAt 110 = .ok (.getfield 22, 3) := by decide +kernel
theorem dX7_shiftAt_113 : decode cX7_shiftAt 113 = .ok (.iload_n 2, 1) := by decide +kernel
theorem dX7_shiftAt_114 : decode cX7_shiftAt 114 = .ok (.iaload, 1) := by decide +kernel
theorem dX7_shiftAt_115 : decode cX7_shiftAt 115 = .ok (.iadd, 1) := by decide +kernel
theorem dX7_shiftAt_116 : decode cX7_shiftAt 116 = .ok (.imul, 1) := by decide +kernel
theorem dX7_shiftAt_117 : decode cX7_shiftAt 117 = .ok (.bipush 50, 2) := by decide +kernel
theorem dX7_shiftAt_119 : decode cX7_shiftAt 119 = .ok (.idiv, 1) := by decide +kernel
theorem dX7_shiftAt_120 : decode cX7_shiftAt 120 = .ok (.ireturn, 1) := by decide +kernel
theorem dX7_shiftAt_121 : decode cX7_shiftAt 121 = .ok (.iconst 0, 1) := by decide +kernel
theorem dX7_shiftAt_122 : decode cX7_shiftAt 122 = .ok (.ireturn, 1) := by decide +kernel
set_option maxRecDepth 20000 in
theorem ggX7_spare_X7_bindingOf : GoodIn wsX7_spare wsX7_bindingOf := goodIn_r _ [6, 7, 8, 9, 10, 5, 11, 12, 13, 14, 15, 16, 34, 35, 36, 37, 38, 39, 40, 41, 42, 43, 44, 45, 46, 47, 48, 49, 50, 51, 52, 53, 54, 55, 56, 57, 58, 59, 60, 61, 62] (by decide +kernel) (by decide +kernel)
set_option maxRecDepth 20000 in
theorem gX7_spare_X7_bindingOf : GoodIn wsX7_spare (wsV RX7 174 RX7 yX7_bindingOf wsX7_bindingOf) := goodIn_app (goodIn_of _ (by decide +kernel)) ggX7_spare_X7_bindingOf
set_option maxRecDepth 20000 in
theorem ggX7_spare_X7_shiftAt : GoodIn wsX7_spare wsX7_shiftAt := goodIn_r _ [20, 21, 22, 23, 24, 25, 26, 27, 5, 28, 29, 30, 31, 32, 33, 13, 12, 34, 35, 36, 37, 38, 39, 40, 41, 42, 43, 44, 45, 46, 47, 48, 49, 50, 51, 52, 53, 54, 55, 56, 57, 58, 59, 60, 61, 62] (by decide +kernel) (by decide +kernel)
set_option maxRecDepth 20000 in
theorem gX7_spare_X7_shiftAt : GoodIn wsX7_spare (wsV RX7 186 RX7 yX7_shiftAt wsX7_shiftAt) := goodIn_app (goodIn_of _ (by decide +kernel)) ggX7_spare_X7_shiftAt
theorem dX7_spare_0 : decode cX7_spare 0 = .ok (.aload_n 0, 1) := by decide +kernel
theorem dX7_spare_1 : decode cX7_spare 1 = .ok (.iload_n 2, 1) := by decide +kernel
theorem dX7_spare_2 : decode cX7_spare 2 = .ok (.invokevirtual 174, 3) := by decide +kernel
theorem dX7_spare_5 : decode cX7_spare 5 = .ok (.bipush 15, 2) := by decide +kernel
theorem dX7_spare_7 : decode cX7_spare 7 = .ok (.aload_n 0, 1) := by decide +kernel
theorem dX7_spare_8 : decode cX7_spare 8 = .ok (.getfield 13, 3) := by decide +kernel
theorem dX7_spare_11 : decode cX7_spare 11 = .ok (.iconst 0, 1) := by decide +kernel
theorem dX7_spare_12 : decode cX7_spare 12 = .ok (.iaload, 1) := by decide +kernel
theorem dX7_spare_13 : decode cX7_spare 13 = .ok (.imul, 1) := by decide +kernel
theorem dX7_spare_14 : decode cX7_spare 14 = .ok (.iadd, 1) := by decide +kernel
theorem dX7_spare_15 : decode cX7_spare 15 = .ok (.aload_n 0, 1) := by decide +kernel
theorem dX7_spare_16 : decode cX7_spare 16 = .ok (.iload_n 1, 1) := by decide +kernel
theorem dX7_spare_17 : decode cX7_spare 17 = .ok (.iload_n 2, 1) := by decide +kernel
theorem dX7_spare_18 : decode cX7_spare 18 = .ok (.invokevirtual 186, 3) := by decide +kernel
theorem dX7_spare_21 : decode cX7_spare 21 = .ok (.isub, 1) := by decide +kernel
theorem dX7_spare_22 : decode cX7_spare 22 = .ok (.ireturn, 1) := by decide +kernel
theorem dX7_isShift_0 : decode cX7_isShift 0 = .ok (.aload_n 0, 1) := by decide +kernel
theorem dX7_isShift_1 : decode cX7_isShift 1 = .ok (.getfield 31, 3) := by decide +kernel
theorem dX7_isShift_4 : decode cX7_isShift 4 = .ok (.iload_n 1, 1) := by decide +kernel
theorem dX7_isShift_5 : decode cX7_isShift 5 = .ok (.iaload, 1) := by decide +kernel
theorem dX7_isShift_6 : decode cX7_isShift 6 = .ok (.iconst 4, 1) := by decide +kernel
theorem dX7_isShift_7 : decode cX7_isShift 7 = .ok (.if_icmp .ge 7, 3) := by decide +kernel
theorem dX7_isShift_10 : decode cX7_isShift 10 = .ok (.iconst 1, 1) := by decide +kernel
theorem dX7_isShift_11 : decode cX7_isShift 11 = .ok (.goto 4, 3) := by decide +kernel
theorem dX7_isShift_14 : decode cX7_isShift 14 = .ok (.iconst 0, 1) := by decide +kernel
theorem dX7_isShift_15 : decode cX7_isShift 15 = .ok (.ireturn, 1) := by decide +kernel
set_option maxRecDepth 20000 in
theorem ggX7_caught_X7_heightNow : GoodIn wsX7_caught wsX7_heightNow := goodIn_r _ [8, 1, 9, 10, 11, 7, 12, 13, 23, 24, 25, 26, 27, 28, 29, 30, 31, 32, 33, 34, 35, 36, 37, 38, 39, 40, 41, 42, 43, 44, 45, 46, 47, 48, 49, 50, 51] (by decide +kernel) (by decide +kernel)
set_option maxRecDepth 20000 in
theorem gX7_caught_X7_heightNow : GoodIn wsX7_caught (wsV RX7 190 RX7 yX7_heightNow wsX7_heightNow) := goodIn_app (goodIn_of _ (by decide +kernel)) ggX7_caught_X7_heightNow
set_option maxRecDepth 20000 in
theorem ggX7_caught_X7_widthNow : GoodIn wsX7_caught wsX7_widthNow := goodIn_r _ [17, 1, 18, 19, 20, 21, 7, 22, 23, 24, 25, 26, 27, 28, 29, 30, 31, 32, 33, 34, 35, 36, 37, 38, 39, 40, 41, 42, 43, 44, 45, 46, 47, 48, 49, 50, 51] (by decide +kernel) (by decide +kernel)
set_option maxRecDepth 20000 in
theorem gX7_caught_X7_widthNow : GoodIn wsX7_caught (wsV RX7 193 RX7 yX7_widthNow wsX7_widthNow) := goodIn_app (goodIn_of _ (by decide +kernel)) ggX7_caught_X7_widthNow
set_option maxRecDepth 20000 in
theorem ggX7_caught_X7_farthest : GoodIn wsX7_caught wsX7_farthest := goodIn_r _ [22, 1, 18, 23, 24, 25, 26, 27, 28, 29, 30, 31, 32, 33, 34, 35, 36, 37, 38, 39, 40, 41, 42, 43, 44, 45, 46, 47, 48, 49, 50, 51] (by decide +kernel) (by decide +kernel)
set_option maxRecDepth 20000 in
theorem gX7_caught_X7_farthest : GoodIn wsX7_caught (wsV RX7 165 RX7 yX7_farthest wsX7_farthest) := goodIn_app (goodIn_of _ (by decide +kernel)) ggX7_caught_X7_farthest
theorem dX7_caught_0 : decode cX7_caught 0 = .ok (.aload_n 0, 1) := by decide +kernel
theorem dX7_caught_1 : decode cX7_caught 1 = .ok (.getfield 67, 3) := by decide +kernel
theorem dX7_caught_4 : decode cX7_caught 4 = .ok (.ifCond .ne 6, 3) := by decide +kernel
theorem dX7_caught_7 : decode cX7_caught 7 = .ok (.bipush (-9), 2) := by decide +kernel
theorem dX7_caught_9 : decode cX7_caught 9 = .ok (.ireturn, 1) := by decide +kernel
theorem dX7_caught_10 : decode cX7_caught 10 = .ok (.aload_n 0, 1) := by decide +kernel
theorem dX7_caught_11 : decode cX7_caught 11 = .ok (.getfield 31, 3) := by decide +kernel
theorem dX7_caught_14 : decode cX7_caught 14 = .ok (.iload_n 1, 1) := by decide +kernel
theorem dX7_caught_15 : decode cX7_caught 15 = .ok (.iaload, 1) := by decide +kernel
theorem dX7_caught_16 : decode cX7_caught 16 = .ok (.iconst 4, 1) := by decide +kernel
theorem dX7_caught_17 : decode cX7_caught 17 = .ok (.if_icmp .ne 33, 3) := by decide +kernel
theorem dX7_caught_20 : decode cX7_caught 20 = .ok (.aload_n 0, 1) := by decide +kernel
theorem dX7_caught_21 : decode cX7_caught 21 = .ok (.invokevirtual 190, 3) := by decide +kernel
theorem dX7_caught_24 : decode cX7_caught 24 = .ok (.bipush 40, 2) := by decide +kernel
theorem dX7_caught_26 : decode cX7_caught 26 = .ok (.iconst 4, 1) := by decide +kernel
theorem dX7_caught_27 : decode cX7_caught 27 = .ok (.aload_n 0, 1) := by decide +kernel
theorem dX7_caught_28 : decode cX7_caught 28 = .ok (.getfield 34, 3) := by decide +kernel
theorem dX7_caught_31 : decode cX7_caught 31 = .ok (.iload_n 1, 1) := by decide +kernel
theorem dX7_caught_32 : decode cX7_caught 32 = .ok (.iaload, 1) := by decide +kernel
theorem dX7_caught_33 : decode cX7_caught 33 = .ok (.imul, 1) := by decide +kernel
theorem dX7_caught_34 : decode cX7_caught 34 = .ok (.iadd, 1) := by decide +kernel
theorem dX7_caught_35 : decode cX7_caught 35 = .ok (.if_icmp .le 12, 3) := by decide +kernel
theorem dX7_caught_38 : decode cX7_caught 38 = .ok (.aload_n 0, 1) := by decide +kernel
theorem dX7_caught_39 : decode cX7_caught 39 = .ok (.getfield 67, 3) := by decide +kernel
theorem dX7_caught_42 : decode cX7_caught 42 = .ok (.iconst 1, 1) := by decide +kernel
theorem dX7_caught_43 : decode cX7_caught 43 = .ok (.isub, 1) := by decide +kernel
theorem dX7_caught_44 : decode cX7_caught 44 = .ok (.goto 5, 3) := by decide +kernel
theorem dX7_caught_47 : decode cX7_caught 47 = .ok (.bipush (-9), 2) := by decide +kernel
theorem dX7_caught_49 : decode cX7_caught 49 = .ok (.ireturn, 1) := by decide +kernel
theorem dX7_caught_50 : decode cX7_caught 50 = .ok (.aload_n 0, 1) := by decide +kernel
theorem dX7_caught_51 : decode cX7_caught 51 = .ok (.invokevirtual 193, 3) := by decide +kernel
theorem dX7_caught_54 : decode cX7_caught 54 = .ok (.bipush 90, 2) := by decide +kernel
theorem dX7_caught_56 : decode cX7_caught 56 = .ok (.aload_n 0, 1) := by decide +kernel
theorem dX7_caught_57 : decode cX7_caught 57 = .ok (.getfield 34, 3) := by decide +kernel
theorem dX7_caught_60 : decode cX7_caught 60 = .ok (.iload_n 1, 1) := by decide +kernel
theorem dX7_caught_61 : decode cX7_caught 61 = .ok (.iaload, 1) := by decide +kernel
theorem dX7_caught_62 : decode cX7_caught 62 = .ok (.iadd, 1) := by decide +kernel
theorem dX7_caught_63 : decode cX7_caught 63 = .ok (.if_icmp .le 10, 3) := by decide +kernel
theorem dX7_caught_66 : decode cX7_caught 66 = .ok (.aload_n 0, 1) := by decide +kernel
theorem dX7_caught_67 : decode cX7_caught 67 = .ok (.invokevirtual 165, 3) := by decide +kernel
theorem dX7_caught_70 : decode cX7_caught 70 = .ok (.goto 5, 3) := by decide +kernel
theorem dX7_caught_73 : decode cX7_caught 73 = .ok (.bipush (-9), 2) := by decide +kernel
theorem dX7_caught_75 : decode cX7_caught 75 = .ok (.ireturn, 1) := by decide +kernel
set_option maxRecDepth 20000 in
theorem ggX7_fellBits_X7_isShift : GoodIn wsX7_fellBits wsX7_isShift := goodIn_r _ [6, 7, 62, 63, 64, 65, 66, 67, 68, 69, 70, 71, 72, 73, 74, 75, 76, 77, 78, 79, 80, 81, 82, 83, 84, 85, 86, 87, 88, 89, 90] (by decide +kernel) (by decide +kernel)
set_option maxRecDepth 20000 in
theorem gX7_fellBits_X7_isShift : GoodIn wsX7_fellBits (wsV RX7 196 RX7 yX7_isShift wsX7_isShift) := goodIn_app (goodIn_of _ (by decide +kernel)) ggX7_fellBits_X7_isShift
set_option maxRecDepth 20000 in
theorem ggX7_fellBits_X7_caught : GoodIn wsX7_fellBits wsX7_caught := goodIn_r _ [11, 1, 7, 12, 13, 14, 15, 5, 16, 17, 18, 19, 20, 21, 22, 23, 24, 25, 26, 27, 28, 29, 30, 62, 63, 64, 65, 66, 67, 68, 69, 70, 71, 72, 73, 74, 75, 76, 77, 78, 79, 80, 81, 82, 83, 84, 85, 86, 87, 88, 89, 90] (by decide +kernel) (by decide +kernel)
set_option maxRecDepth 20000 in
theorem gX7_fellBits_X7_caught : GoodIn wsX7_fellBits (wsV RX7 199 RX7 yX7_caught wsX7_caught) := goodIn_app (goodIn_of _ (by decide +kernel)) ggX7_fellBits_X7_caught
set_option maxRecDepth 20000 in
theorem ggX7_fellBits_X7_spare : GoodIn wsX7_fellBits wsX7_spare := goodIn_r _ [34, 35, 36, 37, 38, 5, 39, 40, 41, 42, 43, 44, 45, 21, 46, 47, 48, 49, 50, 51, 52, 12, 53, 7, 26, 54, 55, 56, 57, 1, 58, 59, 60, 61, 62, 63, 64, 65, 66, 67, 68, 69, 70, 71, 72, 73, 74, 75, 76, 77, 78, 79, 80, 81, 82, 83, 84, 85, 86, 87, 88, 89, 90] (by decide +kernel) (by decide +kernel)
set_option maxRecDepth 20000 in
theorem gX7_fellBits_X7_spare : GoodIn wsX7_fellBits (wsV RX7 202 RX7 yX7_spare wsX7_spare) := goodIn_app (goodIn_of _ (by decide +kernel)) ggX7_fellBits_X7_spare
theorem dX7_fellBits_0 : decode cX7_fellBits 0 = .ok (.aload_n 0, 1) := by decide +kernel
theorem dX7_fellBits_1 : decode cX7_fellBits 1 = .ok (.iload_n 1, 1) := by decide +kernel
theorem dX7_fellBits_2 : decode cX7_fellBits 2 = .ok (.invokevirtual 196, 3) := by decide +kernel
theorem dX7_fellBits_5 : decode cX7_fellBits 5 = .ok (.ifCond .ne 23, 3) := by decide +kernel
theorem dX7_fellBits_8 : decode cX7_fellBits 8 = .ok (.aload_n 0, 1) := by decide +kernel
theorem dX7_fellBits_9 : decode cX7_fellBits 9 = .ok (.iload_n 1, 1) := by decide +kernel
theorem dX7_fellBits_10 : decode cX7_fellBits 10 = .ok (.invokevirtual 199, 3) := by decide +kernel
theorem dX7_fellBits_13 : decode cX7_fellBits 13 = .ok (.ifCond .ge 7, 3) := by decide +kernel
theorem dX7_fellBits_16 : decode cX7_fellBits 16 = .ok (.iconst 0, 1) := by decide +kernel
theorem dX7_fellBits_17 : decode cX7_fellBits 17 = .ok (.goto 10, 3) := by decide +kernel
theorem dX7_fellBits_20 : decode cX7_fellBits 20 = .ok (.iconst 1, 1) := by decide +kernel
theorem dX7_fellBits_21 : decode cX7_fellBits 21 = .ok (.aload_n 0, 1) := by decide +kernel
theorem dX7_fellBits_22 : decode cX7_fellBits 22 = .ok (.iload_n 1, 1) := by decide +kernel
theorem dX7_fellBits_23 : decode cX7_fellBits 23 = .ok (.invokevirtual 199, 3) := by decide +kernel
theorem dX7_fellBits_26 : decode cX7_fellBits 26 = .ok (.ishl, 1) := by decide +kernel
theorem dX7_fellBits_27 : decode cX7_fellBits 27 = .ok (.ireturn, 1) := by decide +kernel
theorem dX7_fellBits_28 : decode cX7_fellBits 28 = .ok (.iconst 0, 1) := by decide +kernel
theorem dX7_fellBits_29 : decode cX7_fellBits 29 = .ok (.istore_n 2, 1) := by decide +kernel
theorem dX7_fellBits_30 : decode cX7_fellBits 30 = .ok (.iconst 0, 1) := by decide +kernel
theorem dX7_fellBits_31 : decode cX7_fellBits 31 = .ok (.istore_n 3, 1) := by decide +kernel
theorem dX7_fellBits_32 : decode cX7_fellBits 32 = .ok (.iload_n 3, 1) := by decide +kernel
theorem dX7_fellBits_33 : decode cX7_fellBits 33 = .ok (.aload_n 0, 1) := by decide +kernel
theorem dX7_fellBits_34 : decode cX7_fellBits 34 = .ok (.getfield 67, 3) := by decide +kernel
theorem dX7_fellBits_37 : decode cX7_fellBits 37 = .ok (.if_icmp .ge 28, 3) := by decide +kernel
theorem dX7_fellBits_40 : decode cX7_fellBits 40 = .ok (.iload_n 2, 1) := by decide +kernel
theorem dX7_fellBits_41 : decode cX7_fellBits 41 = .ok (.aload_n 0, 1) := by decide +kernel
theorem dX7_fellBits_42 : decode cX7_fellBits 42 = .ok (.iload_n 1, 1) := by decide +kernel
theorem dX7_fellBits_43 : decode cX7_fellBits 43 = .ok (.iload_n 3, 1) := by decide +kernel
theorem dX7_fellBits_44 : decode cX7_fellBits 44 = .ok (.invokevirtual 202, 3) := by decide +kernel
theorem dX7_fellBits_47 : decode cX7_fellBits 47 = .ok (.ifCond .ge 9, 3) := by decide +kernel
theorem dX7_fellBits_50 : decode cX7_fellBits 50 = .ok (.iconst 1, 1) := by decide +kernel
theorem dX7_fellBits_51 : decode cX7_fellBits 51 = .ok (.iload_n 3, 1) := by decide +kernel
theorem dX7_fellBits_52 : decode cX7_fellBits 52 = .ok (.ishl, 1) := by decide +kernel
theorem dX7_fellBits_53 : decode cX7_fellBits 53 = .ok (.goto 4, 3) := by decide +kernel
theorem dX7_fellBits_56 : decode cX7_fellBits 56 = .ok (.iconst 0, 1) := by decide +kernel
theorem dX7_fellBits_57 : decode cX7_fellBits 57 = .ok (.ior, 1) := by decide +kernel
theorem dX7_fellBits_58 : decode cX7_fellBits 58 = .ok (.istore_n 2, 1) := by decide +kernel
theorem dX7_fellBits_59 : decode cX7_fellBits 59 = .ok (.iinc 3 1, 3) := by decide +kernel
theorem dX7_fellBits_62 : decode cX7_fellBits 62 = .ok (.goto (-30), 3) := by decide +kernel
theorem dX7_fellBits_65 : decode cX7_fellBits 65 = .ok (.iload_n 2, 1) := by decide +kernel
theorem dX7_fellBits_66 : decode cX7_fellBits 66 = .ok (.ireturn, 1) := by decide +kernel
set_option maxRecDepth 20000 in
theorem ggX7_findSlip_X7_fellBits : GoodIn wsX7_findSlip wsX7_fellBits := goodIn_r _ [8, 9, 10, 11, 12, 7, 13, 14, 15, 16, 17, 18, 19, 20, 21, 22, 23, 24, 25, 26, 27, 28, 29, 30, 31, 32, 33, 34, 35, 36, 37, 38, 39, 40, 41, 42, 43, 44, 45, 46, 47, 48, 49, 50, 51, 52, 53, 54, 55, 56, 57, 58, 59, 60, 61, 62, 63, 64, 65, 66, 67, 68, 69, 70, 71, 72, 73, 74, 75, 76, 77, 78, 79, 80, 81, 82, 83, 84, 85, 86, 87, 88, 89, 90, 91, 92, 93, 94, 95, 96, 97] (by decide +kernel) (by decide +kernel)
set_option maxRecDepth 20000 in
theorem gX7_findSlip_X7_fellBits : GoodIn wsX7_findSlip (wsV RX7 211 RX7 yX7_fellBits wsX7_fellBits) := goodIn_app (goodIn_of _ (by decide +kernel)) ggX7_findSlip_X7_fellBits
theorem dX7_findSlip_0 : decode cX7_findSlip 0 = .ok (.aload_n 0, 1) := by decide +kernel
theorem dX7_findSlip_1 : decode cX7_findSlip 1 = .ok (.bipush (-9), 2) := by decide +kernel
theorem dX7_findSlip_3 : decode cX7_findSlip 3 = .ok (.putfield 205, 3) := by decide +kernel
theorem dX7_findSlip_6 : decode cX7_findSlip 6 = .ok (.aload_n 0, 1) := by decide +kernel
theorem dX7_findSlip_7 : decode cX7_findSlip 7 = .ok (.bipush (-9), 2) := by decide +kernel
theorem dX7_findSlip_9 : decode cX7_findSlip 9 = .ok (.putfield 208, 3) := by decide +kernel
theorem dX7_findSlip_12 : decode cX7_findSlip 12 = .ok (.iconst 0, 1) := by decide +kernel
theorem dX7_findSlip_13 : decode cX7_findSlip 13 = .ok (.istore_n 2, 1) := by decide +kernel
theorem dX7_findSlip_14 : decode cX7_findSlip 14 = .ok (.iload_n 2, 1) := by decide +kernel
theorem dX7_findSlip_15 : decode cX7_findSlip 15 = .ok (.aload_n 0, 1) := by decide +kernel
theorem dX7_findSlip_16 : decode cX7_findSlip 16 = .ok (.getfield 40, 3) := by decide +kernel
theorem dX7_findSlip_19 : decode cX7_findSlip 19 = .ok (.iload_n 1, 1) := by decide +kernel
theorem dX7_findSlip_20 : decode cX7_findSlip 20 = .ok (.iaload, 1) := by decide +kernel
theorem dX7_findSlip_21 : decode cX7_findSlip 21 = .ok (.if_icmp .ge 62, 3) := by decide +kernel
theorem dX7_findSlip_24 : decode cX7_findSlip 24 = .ok (.aload_n 0, 1) := by decide +kernel
theorem dX7_findSlip_25 : decode cX7_findSlip 25 = .ok (.bipush 6, 2) := by decide +kernel
theorem dX7_findSlip_27 : decode cX7_findSlip 27 = .ok (.iload_n 1, 1) := by decide +kernel
theorem dX7_findSlip_28 : decode cX7_findSlip 28 = .ok (.imul, 1) := by decide +kernel
theorem dX7_findSlip_29 : decode cX7_findSlip 29 = .ok (.iload_n 2, 1) := by decide +kernel
theorem dX7_findSlip_30 : decode cX7_findSlip 30 = .ok (.iadd, 1) := by decide +kernel
theorem dX7_findSlip_31 : decode cX7_findSlip 31 = .ok (.invokevirtual 211, 3) := by decide +kernel
theorem dX7_findSlip_34 : decode cX7_findSlip 34 = .ok (.istore_n 3, 1) := by decide +kernel
theorem dX7_findSlip_35 : decode cX7_findSlip 35 = .ok (.iload_n 3, 1) := by decide +kernel
theorem dX7_findSlip_36 : decode cX7_findSlip 36 = .ok (.ifCond .ne 6, 3) := by decide +kernel
theorem dX7_findSlip_39 : decode cX7_findSlip 39 = .ok (.goto 38, 3) := by decide +kernel
theorem dX7_findSlip_42 : decode cX7_findSlip 42 = .ok (.aload_n 0, 1) := by decide +kernel
theorem dX7_findSlip_43 : decode cX7_findSlip 43 = .ok (.iload_n 2, 1) := by decide +kernel
theorem dX7_findSlip_44 : decode cX7_findSlip 44 = .ok (.putfield 205, 3) := by decide +kernel
theorem dX7_findSlip_47 : decode cX7_findSlip 47 = .ok (.aload_n 0, 1) := by decide +kernel
theorem dX7_findSlip_48 : decode cX7_findSlip 48 = .ok (.iconst 0, 1) := by decide +kernel
theorem dX7_findSlip_49 : decode cX7_findSlip 49 = .ok (.putfield 208, 3) := by decide +kernel
theorem dX7_findSlip_52 : decode cX7_findSlip 52 = .ok (.iload_n 3, 1) := by decide +kernel
theorem dX7_findSlip_53 : decode cX7_findSlip 53 = .ok (.aload_n 0, 1) := by decide +kernel
theorem dX7_findSlip_54 : decode cX7_findSlip 54 = .ok (.getfield 208, 3) := by decide +kernel
theorem dX7_findSlip_57 : decode cX7_findSlip 57 = .ok (.ishr, 1) := by decide +kernel
theorem dX7_findSlip_58 : decode cX7_findSlip 58 = .ok (.iconst 1, 1) := by decide +kernel
theorem dX7_findSlip_59 : decode cX7_findSlip 59 = .ok (.iand, 1) := by decide +kernel
theorem dX7_findSlip_60 : decode cX7_findSlip 60 = .ok (.ifCond .ne 16, 3) := by decide +kernel
theorem dX7_findSlip_63 : decode cX7_findSlip 63 = .ok (.aload_n 0, 1) := by decide +kernel
theorem dX7_findSlip_64 : decode cX7_findSlip 64 = .ok (.dup, 1) := by decide +kernel
theorem dX7_findSlip_65 : decode cX7_findSlip 65 = .ok (.getfield 208, 3) := by decide +kernel
theorem dX7_findSlip_68 : decode cX7_findSlip 68 = .ok (.iconst 1, 1) := by decide +kernel
theorem dX7_findSlip_69 : decode cX7_findSlip 69 = .ok (.iadd, 1) := by decide +kernel
theorem dX7_findSlip_70 : decode cX7_findSlip 70 = .ok (.putfield 208, 3) := by decide +kernel
theorem dX7_findSlip_73 : decode cX7_findSlip 73 = .ok (.goto (-21), 3) := by decide +kernel
theorem dX7_findSlip_76 : decode cX7_findSlip 76 = .ok (.return_, 1) := by decide +kernel
theorem dX7_findSlip_77 : decode cX7_findSlip 77 = .ok (.iinc 2 1, 3) := by decide +kernel
theorem dX7_findSlip_80 : decode cX7_findSlip 80 = .ok (.goto (-66), 3) := by decide +kernel
theorem dX7_findSlip_83 : decode cX7_findSlip 83 = .ok (.return_, 1) := by decide +kernel
set_option maxRecDepth 20000 in
theorem ggX7_doesHold_X7_findSlip : GoodIn wsX7_doesHold wsX7_findSlip := goodIn_r _ [6, 1, 7, 8, 9, 10, 11, 5, 12, 13, 14, 15, 16, 17, 18, 19, 20, 21, 22, 23, 24, 25, 26, 27, 28, 29, 30, 31, 32, 33, 34, 35, 36, 37, 38, 39, 40, 41, 42, 43, 44, 45, 46, 47, 48, 49, 50, 51, 52, 53, 54, 55, 56, 57, 58, 59, 60, 61, 62, 63, 64, 65, 66, 67, 68, 69, 70, 71, 72, 73, 74, 75, 76, 77, 78, 79, 80, 81, 82, 83, 84, 85, 86, 87, 88, 89, 90, 91, 92, 93, 94, 95, 96, 97, 98, 99, 100, 101] (by decide +kernel) (by decide +kernel)
set_option maxRecDepth 20000 in
theorem gX7_doesHold_X7_findSlip : GoodIn wsX7_doesHold (wsV RX7 214 RX7 yX7_findSlip wsX7_findSlip) := goodIn_app (goodIn_of _ (by decide +kernel)) ggX7_doesHold_X7_findSlip
theorem dX7_doesHold_0 : decode cX7_doesHold 0 = .ok (.aload_n 0, 1) := by decide +kernel
theorem dX7_doesHold_1 : decode cX7_doesHold 1 = .ok (.iload_n 1, 1) := by decide +kernel
theorem dX7_doesHold_2 : decode cX7_doesHold 2 = .ok (.invokevirtual 214, 3) := by decide +kernel
theorem dX7_doesHold_5 : decode cX7_doesHold 5 = .ok (.aload_n 0, 1) := by decide +kernel
theorem dX7_doesHold_6 : decode cX7_doesHold 6 = .ok (.getfield 205, 3) := by decide +kernel
theorem dX7_doesHold_9 : decode cX7_doesHold 9 = .ok (.ifCond .ge 7, 3) := by decide +kernel
theorem dX7_doesHold_12 : decode cX7_doesHold 12 = .ok (.iconst 1, 1) := by decide +kernel
theorem dX7_doesHold_13 : decode cX7_doesHold 13 = .ok (.goto 4, 3) := by decide +kernel
theorem dX7_doesHold_16 : decode cX7_doesHold 16 = .ok (.iconst 0, 1) := by decide +kernel
theorem dX7_doesHold_17 : decode cX7_doesHold 17 = .ok (.ireturn, 1) := by decide +kernel
set_option maxRecDepth 20000 in
theorem ggX7_shift_X7_isPiece : GoodIn wsX7_shift wsX7_isPiece := goodIn_r _ [5, 6, 7, 8, 4, 9, 38, 39, 40, 41, 42, 43, 44, 45, 46, 47, 48, 49, 50, 51, 52, 53, 54, 55, 56, 57, 58, 59, 60, 61, 62, 63, 64, 65, 66] (by decide +kernel) (by decide +kernel)
set_option maxRecDepth 20000 in
theorem gX7_shift_X7_isPiece : GoodIn wsX7_shift (wsV RX7 180 RX7 yX7_isPiece wsX7_isPiece) := goodIn_app (goodIn_of _ (by decide +kernel)) ggX7_shift_X7_isPiece
set_option maxRecDepth 20000 in
theorem ggX7_shift_X7_isLayer : GoodIn wsX7_shift wsX7_isLayer := goodIn_r _ [13, 14, 38, 39, 40, 41, 42, 43, 44, 45, 46, 47, 48, 49, 50, 51, 52, 53, 54, 55, 56, 57, 58, 59, 60, 61, 62, 63, 64, 65, 66] (by decide +kernel) (by decide +kernel)
set_option maxRecDepth 20000 in
theorem gX7_shift_X7_isLayer : GoodIn wsX7_shift (wsV RX7 168 RX7 yX7_isLayer wsX7_isLayer) := goodIn_app (goodIn_of _ (by decide +kernel)) ggX7_shift_X7_isLayer
set_option maxRecDepth 20000 in
theorem ggX7_shift_X7_shiftAt : GoodIn wsX7_shift wsX7_shiftAt := goodIn_r _ [18, 19, 20, 21, 22, 23, 24, 25, 4, 26, 14, 27, 28, 29, 30, 31, 32, 38, 39, 40, 41, 42, 43, 44, 45, 46, 47, 48, 49, 50, 51, 52, 53, 54, 55, 56, 57, 58, 59, 60, 61, 62, 63, 64, 65, 66] (by decide +kernel) (by decide +kernel)
set_option maxRecDepth 20000 in
theorem gX7_shift_X7_shiftAt : GoodIn wsX7_shift (wsV RX7 186 RX7 yX7_shiftAt wsX7_shiftAt) := goodIn_app (goodIn_of _ (by decide +kernel)) ggX7_shift_X7_shiftAt
set_option maxRecDepth 20000 in
theorem ggX7_shift_X7_no : GoodIn wsX7_shift wsX7_no := goodIn_r _ [36, 37, 38, 39, 40, 41, 42, 43, 44, 45, 46, 47, 48, 49, 50, 51, 52, 53, 54, 55, 56, 57, 58, 59, 60, 61, 62, 63, 64, 65, 66] (by decide +kernel) (by decide +kernel)
set_option maxRecDepth 20000 in
theorem gX7_shift_X7_no : GoodIn wsX7_shift (wsV RX7 82 RX7 yX7_no wsX7_no) := goodIn_app (goodIn_of _ (by decide +kernel)) ggX7_shift_X7_no
theorem dX7_shift_0 : decode cX7_shift 0 = .ok (.aload_n 0, 1) := by decide +kernel
theorem dX7_shift_1 : decode cX7_shift 1 = .ok (.iload_n 1, 1) := by decide +kernel
theorem dX7_shift_2 : decode cX7_shift 2 = .ok (.iload_n 2, 1) := by decide +kernel
theorem dX7_shift_3 : decode cX7_shift 3 = .ok (.invokevirtual 180, 3) := by decide +kernel
theorem dX7_shift_6 : decode cX7_shift 6 = .ok (.ifCond .eq 25, 3) := by decide +kernel
theorem dX7_shift_9 : decode cX7_shift 9 = .ok (.aload_n 0, 1) := by decide +kernel
theorem dX7_shift_10 : decode cX7_shift 10 = .ok (.iload_n 3, 1) := by decide +kernel
theorem dX7_shift_11 : decode cX7_shift 11 = .ok (.invokevirtual 168, 3) := by decide +kernel
theorem dX7_shift_14 : decode cX7_shift 14 = .ok (.ifCond .eq 17, 3) := by decide +kernel
theorem dX7_shift_17 : decode cX7_shift 17 = .ok (.aload_n 0, 1) := by decide +kernel
theorem dX7_shift_18 : decode cX7_shift 18 = .ok (.bipush 6, 2) := by decide +kernel
theorem dX7_shift_20 : decode cX7_shift 20 = .ok (.iload_n 1, 1) := by decide +kernel
theorem dX7_shift_21 : decode cX7_shift 21 = .ok (.imul, 1) := by decide +kernel
theorem dX7_shift_22 : decode cX7_shift 22 = .ok (.iload_n 2, 1) := by decide +kernel
theorem dX7_shift_23 : decode cX7_shift 23 = .ok (.iadd, 1) := by decide +kernel
theorem dX7_shift_24 : decode cX7_shift 24 = .ok (.iload_n 3, 1) := by decide +kernel
theorem dX7_shift_25 : decode cX7_shift 25 = .ok (.invokevirtual 186, 3) := by decide +kernel
theorem dX7_shift_28 : decode cX7_shift 28 = .ok (.goto 8, 3) := by decide +kernel
theorem dX7_shift_31 : decode cX7_shift 31 = .ok (.aload_n 0, 1) := by decide +kernel
theorem dX7_shift_32 : decode cX7_shift 32 = .ok (.iconst (-1), 1) := by decide +kernel
theorem dX7_shift_33 : decode cX7_shift 33 = .ok (.invokevirtual 82, 3) := by decide +kernel
theorem dX7_shift_36 : decode cX7_shift 36 = .ok (.ireturn, 1) := by decide +kernel
set_option maxRecDepth 20000 in
theorem ggX7_slips_X7_isWay : GoodIn wsX7_slips wsX7_isWay := goodIn_r _ [6] (by decide +kernel) (by decide +kernel)
set_option maxRecDepth 20000 in
theorem gX7_slips_X7_isWay : GoodIn wsX7_slips (va_wsS RX7 71 yX7_isWay wsX7_isWay) := goodIn_app (goodIn_of _ (by decide +kernel)) ggX7_slips_X7_isWay
set_option maxRecDepth 20000 in
theorem ggX7_slips_X7_isIn : GoodIn wsX7_slips wsX7_isIn := goodIn_r _ [9] (by decide +kernel) (by decide +kernel)
set_option maxRecDepth 20000 in
theorem gX7_slips_X7_isIn : GoodIn wsX7_slips (va_wsS RX7 93 yX7_isIn wsX7_isIn) := goodIn_app (goodIn_of _ (by decide +kernel)) ggX7_slips_X7_isIn
set_option maxRecDepth 20000 in
theorem ggX7_slips_X7_no : GoodIn wsX7_slips wsX7_no := goodIn_r _ [13, 14, 84, 85, 86, 87, 88, 89, 90, 91, 92, 93, 94, 95, 96, 97, 98, 99, 100, 101, 102, 103, 104, 105, 106, 107, 108, 109, 110, 111, 112] (by decide +kernel) (by decide +kernel)
set_option maxRecDepth 20000 in
theorem gX7_slips_X7_no : GoodIn wsX7_slips (wsV RX7 82 RX7 yX7_no wsX7_no) := goodIn_app (goodIn_of _ (by decide +kernel)) ggX7_slips_X7_no
set_option maxRecDepth 20000 in
theorem ggX7_slips_X7_findSlip : GoodIn wsX7_slips wsX7_findSlip := goodIn_r _ [18, 1, 2, 19, 20, 21, 22, 5, 23, 24, 25, 26, 27, 28, 29, 30, 31, 32, 33, 34, 35, 36, 37, 38, 39, 40, 41, 42, 43, 44, 45, 46, 47, 48, 49, 50, 51, 52, 53, 54, 55, 56, 57, 58, 59, 60, 61, 62, 63, 64, 65, 66, 67, 68, 69, 70, 71, 72, 73, 74, 75, 76, 77, 78, 79, 80, 81, 82, 83, 84, 85, 86, 87, 88, 89, 90, 91, 92, 93, 94, 95, 96, 97, 98, 99, 100, 101, 102, 103, 104, 105, 106, 107, 108, 109, 110, 111, 112] (by decide +kernel) (by decide +kernel)
set_option maxRecDepth 20000 in
theorem gX7_slips_X7_findSlip : GoodIn wsX7_slips (wsV RX7 214 RX7 yX7_findSlip wsX7_findSlip) := goodIn_app (goodIn_of _ (by decide +kernel)) ggX7_slips_X7_findSlip
theorem dX7_slips_0 : decode cX7_slips 0 = .ok (.iload_n 1, 1) := by decide +kernel
theorem dX7_slips_1 : decode cX7_slips 1 = .ok (.invokestatic 71, 3) := by decide +kernel
theorem dX7_slips_4 : decode cX7_slips 4 = .ok (.ifCond .ne 7, 3) := by decide +kernel
theorem dX7_slips_7 : decode cX7_slips 7 = .ok (.iconst (-1), 1) := by decide +kernel
theorem dX7_slips_8 : decode cX7_slips 8 = .ok (.goto 18, 3) := by decide +kernel
theorem dX7_slips_11 : decode cX7_slips 11 = .ok (.iload_n 2, 1) := by decide +kernel
theorem dX7_slips_12 : decode cX7_slips 12 = .ok (.iconst 0, 1) := by decide +kernel
theorem dX7_slips_13 : decode cX7_slips 13 = .ok (.iconst 1, 1) := by decide +kernel
theorem dX7_slips_14 : decode cX7_slips 14 = .ok (.invokestatic 93, 3) := by decide +kernel
theorem dX7_slips_17 : decode cX7_slips 17 = .ok (.ifCond .ne 8, 3) := by decide +kernel
theorem dX7_slips_20 : decode cX7_slips 20 = .ok (.bipush (-2), 2) := by decide +kernel
theorem dX7_slips_22 : decode cX7_slips 22 = .ok (.goto 4, 3) := by decide +kernel
theorem dX7_slips_25 : decode cX7_slips 25 = .ok (.iconst 0, 1) := by decide +kernel
theorem dX7_slips_26 : decode cX7_slips 26 = .ok (.istore_n 3, 1) := by decide +kernel
theorem dX7_slips_27 : decode cX7_slips 27 = .ok (.iload_n 3, 1) := by decide +kernel
theorem dX7_slips_28 : decode cX7_slips 28 = .ok (.ifCond .eq 9, 3) := by decide +kernel
theorem dX7_slips_31 : decode cX7_slips 31 = .ok (.aload_n 0, 1) := by decide +kernel
theorem dX7_slips_32 : decode cX7_slips 32 = .ok (.iload_n 3, 1) := by decide +kernel
theorem dX7_slips_33 : decode cX7_slips 33 = .ok (.invokevirtual 82, 3) := by decide +kernel
theorem dX7_slips_36 : decode cX7_slips 36 = .ok (.ireturn, 1) := by decide +kernel
theorem dX7_slips_37 : decode cX7_slips 37 = .ok (.aload_n 0, 1) := by decide +kernel
theorem dX7_slips_38 : decode cX7_slips 38 = .ok (.iload_n 1, 1) := by decide +kernel
theorem dX7_slips_39 : decode cX7_slips 39 = .ok (.invokevirtual 214, 3) := by decide +kernel
theorem dX7_slips_42 : decode cX7_slips 42 = .ok (.iload_n 2, 1) := by decide +kernel
theorem dX7_slips_43 : decode cX7_slips 43 = .ok (.ifCond .ne 10, 3) := by decide +kernel
theorem dX7_slips_46 : decode cX7_slips 46 = .ok (.aload_n 0, 1) := by decide +kernel
theorem dX7_slips_47 : decode cX7_slips 47 = .ok (.getfield 205, 3) := by decide +kernel
theorem dX7_slips_50 : decode cX7_slips 50 = .ok (.goto 7, 3) := by decide +kernel
theorem dX7_slips_53 : decode cX7_slips 53 = .ok (.aload_n 0, 1) := by decide +kernel
theorem dX7_slips_54 : decode cX7_slips 54 = .ok (.getfield 208, 3) := by decide +kernel
theorem dX7_slips_57 : decode cX7_slips 57 = .ok (.ireturn, 1) := by decide +kernel
set_option maxRecDepth 20000 in
theorem ggX7_marginOf_X7_isShift : GoodIn wsX7_marginOf wsX7_isShift := goodIn_r _ [7, 8, 43, 44, 45, 46, 47, 48, 49, 50, 51, 52, 53, 54, 55, 56, 57, 58, 59, 60, 61, 62, 63, 64, 65, 66, 67, 68, 69, 70, 71] (by decide +kernel) (by decide +kernel)
set_option maxRecDepth 20000 in
theorem gX7_marginOf_X7_isShift : GoodIn wsX7_marginOf (wsV RX7 196 RX7 yX7_isShift wsX7_isShift) := goodIn_app (goodIn_of _ (by decide +kernel)) ggX7_marginOf_X7_isShift
set_option maxRecDepth 20000 in
theorem ggX7_marginOf_X7_spare : GoodIn wsX7_marginOf wsX7_spare := goodIn_r _ [12, 13, 14, 15, 16, 6, 17, 18, 19, 20, 21, 22, 23, 24, 25, 26, 27, 28, 29, 30, 31, 32, 33, 8, 34, 35, 36, 37, 38, 2, 39, 40, 41, 42, 43, 44, 45, 46, 47, 48, 49, 50, 51, 52, 53, 54, 55, 56, 57, 58, 59, 60, 61, 62, 63, 64, 65, 66, 67, 68, 69, 70, 71] (by decide +kernel) (by decide +kernel)
set_option maxRecDepth 20000 in
theorem gX7_marginOf_X7_spare : GoodIn wsX7_marginOf (wsV RX7 202 RX7 yX7_spare wsX7_spare) := goodIn_app (goodIn_of _ (by decide +kernel)) ggX7_marginOf_X7_spare
theorem dX7_marginOf_0 : decode cX7_marginOf 0 = .ok (.sipush 9999, 3) := by decide +kernel
theorem dX7_marginOf_3 : decode cX7_marginOf 3 = .ok (.istore_n 2, 1) := by decide +kernel
theorem dX7_marginOf_4 : decode cX7_marginOf 4 = .ok (.bipush 6, 2) := by decide +kernel
theorem dX7_marginOf_6 : decode cX7_marginOf 6 = .ok (.iload_n 1, 1) := by decide +kernel
theorem dX7_marginOf_7 : decode cX7_marginOf 7 = .ok (.imul, 1) := by decide +kernel
theorem dX7_marginOf_8 : decode cX7_marginOf 8 = .ok (.istore_n 3, 1) := by decide +kernel
theorem dX7_marginOf_9 : decode cX7_marginOf 9 = .ok (.iload_n 3, 1) := by decide +kernel
theorem dX7_marginOf_10 : decode cX7_marginOf 10 = .ok (.bipush 6, 2) := by decide +kernel
theorem dX7_marginOf_12 : decode cX7_marginOf 12 = .ok (.iload_n 1, 1) := by decide +kernel
theorem dX7_marginOf_13 : decode cX7_marginOf 13 = .ok (.imul, 1) := by decide +kernel
theorem dX7_marginOf_14 : decode cX7_marginOf 14 = .ok (.aload_n 0, 1) := by decide +kernel
theorem dX7_marginOf_15 : decode cX7_marginOf 15 = .ok (.getfield 40, 3) := by decide +kernel
theorem dX7_marginOf_18 : decode cX7_marginOf 18 = .ok (.iload_n 1, 1) := by decide +kernel
theorem dX7_marginOf_19 : decode cX7_marginOf 19 = .ok (.iaload, 1) := by decide +kernel
theorem dX7_marginOf_20 : decode cX7_marginOf 20 = .ok (.iadd, 1) := by decide +kernel
theorem dX7_marginOf_21 : decode cX7_marginOf 21 = .ok (.if_icmp .ge 58, 3) := by decide +kernel
theorem dX7_marginOf_24 : decode cX7_marginOf 24 = .ok (.iconst 0, 1) := by decide +kernel
theorem dX7_marginOf_25 : decode cX7_marginOf 25 = .ok (.istore 4, 2) := by decide +kernel
theorem dX7_marginOf_27 : decode cX7_marginOf 27 = .ok (.iload 4, 2) := by decide +kernel
theorem dX7_marginOf_29 : decode cX7_marginOf 29 = .ok (.aload_n 0, 1) := by decide +kernel
theorem dX7_marginOf_30 : decode cX7_marginOf 30 = .ok (.getfield 67, 3) := by decide +kernel
theorem dX7_marginOf_33 : decode cX7_marginOf 33 = .ok (.if_icmp .ge 40, 3) := by decide +kernel
theorem dX7_marginOf_36 : decode cX7_marginOf 36 = .ok (.aload_n 0, 1) := by decide +kernel
theorem dX7_marginOf_37 : decode cX7_marginOf 37 = .ok (.iload_n 3, 1) := by decide +kernel
theorem dX7_marginOf_38 : decode cX7_marginOf 38 = .ok (.invokevirtual 196, 3) := by decide +kernel
theorem dX7_marginOf_41 : decode cX7_marginOf 41 = .ok (.ifCond .eq 32, 3) := by decide +kernel
theorem dX7_marginOf_44 : decode cX7_marginOf 44 = .ok (.aload_n 0, 1) := by decide +kernel
theorem dX7_marginOf_45 : decode cX7_marginOf 45 = .ok (.iload_n 3, 1) := by decide +kernel
theorem dX7_marginOf_46 : decode cX7_marginOf 46 = .ok (.iload 4, 2) := by decide +kernel
theorem dX7_marginOf_48 : decode cX7_marginOf 48 = .ok (.invokevirtual 202, 3) := by decide +kernel
theorem dX7_marginOf_51 : decode cX7_marginOf 51 = .ok (.iload_n 2, 1) := by decide +kernel
theorem dX7_marginOf_52 : decode cX7_marginOf 52 = .ok (.if_icmp .ge 13, 3) := by decide +kernel
theorem dX7_marginOf_55 : decode cX7_marginOf 55 = .ok (.aload_n 0, 1) := by decide +kernel
theorem dX7_marginOf_56 : decode cX7_marginOf 56 = .ok (.iload_n 3, 1) := by decide +kernel
theorem dX7_marginOf_57 : decode cX7_marginOf 57 = .ok (.iload 4, 2) := by decide +kernel
theorem dX7_marginOf_59 : decode cX7_marginOf 59 = .ok (.invokevirtual 202, 3) := by decide +kernel
theorem dX7_marginOf_62 : decode cX7_marginOf 62 = .ok (.goto 4, 3) := by decide +kernel
theorem dX7_marginOf_65 : decode cX7_marginOf 65 = .ok (.iload_n 2, 1) := by decide +kernel
theorem dX7_marginOf_66 : decode cX7_marginOf 66 = .ok (.istore_n 2, 1) := by decide +kernel
theorem dX7_marginOf_67 : decode cX7_marginOf 67 = .ok (.iinc 4 1, 3) := by decide +kernel
theorem dX7_marginOf_70 : decode cX7_marginOf 70 = .ok (.goto (-43), 3) := by decide +kernel
theorem dX7_marginOf_73 : decode cX7_marginOf 73 = .ok (.iinc 3 1, 3) := by decide +kernel
theorem dX7_marginOf_76 : decode cX7_marginOf 76 = .ok (.goto (-67), 3) := by decide +kernel
theorem dX7_marginOf_79 : decode cX7_marginOf 79 = .ok (.iload_n 2, 1) := by decide +kernel
theorem dX7_marginOf_80 : decode cX7_marginOf 80 = .ok (.ireturn, 1) := by decide +kernel
set_option maxRecDepth 20000 in
theorem ggX7_margin_X7_isWay : GoodIn wsX7_margin wsX7_isWay := goodIn_r _ [4] (by decide +kernel) (by decide +kernel)
set_option maxRecDepth 20000 in
theorem gX7_margin_X7_isWay : GoodIn wsX7_margin (va_wsS RX7 71 yX7_isWay wsX7_isWay) := goodIn_app (goodIn_of _ (by decide +kernel)) ggX7_margin_X7_isWay
set_option maxRecDepth 20000 in
theorem ggX7_margin_X7_marginOf : GoodIn wsX7_margin wsX7_marginOf := goodIn_r _ [8, 9, 10, 11, 12, 13, 3, 14, 15, 16, 17, 18, 19, 20, 21, 22, 23, 24, 25, 26, 27, 28, 29, 30, 31, 32, 33, 34, 35, 36, 37, 38, 39, 40, 41, 42, 43, 44, 45, 46, 47, 48, 49, 56, 57, 58, 59, 60, 61, 62, 63, 64, 65, 66, 67, 68, 69, 70, 71, 72, 73, 74, 75, 76, 77, 78, 79, 80, 81, 82, 83, 84] (by decide +kernel) (by decide +kernel)
set_option maxRecDepth 20000 in
theorem gX7_margin_X7_marginOf : GoodIn wsX7_margin (wsV RX7 218 RX7 yX7_marginOf wsX7_marginOf) := goodIn_app (goodIn_of _ (by decide +kernel)) ggX7_margin_X7_marginOf
set_option maxRecDepth 20000 in
theorem ggX7_margin_X7_lower : GoodIn wsX7_margin wsX7_lower := goodIn_r _ [53, 54, 55, 56, 57, 58, 59, 60, 61, 62, 63, 64, 65, 66, 67, 68, 69, 70, 71, 72, 73, 74, 75, 76, 77, 78, 79, 80, 81, 82, 83, 84] (by decide +kernel) (by decide +kernel)
set_option maxRecDepth 20000 in
theorem gX7_margin_X7_lower : GoodIn wsX7_margin (wsV RX7 171 RX7 yX7_lower wsX7_lower) := goodIn_app (goodIn_of _ (by decide +kernel)) ggX7_margin_X7_lower
theorem dX7_margin_0 : decode cX7_margin 0 = .ok (.iload_n 1, 1) := by decide +kernel
theorem dX7_margin_1 : decode cX7_margin 1 = .ok (.invokestatic 71, 3) := by decide +kernel
theorem dX7_margin_4 : decode cX7_margin 4 = .ok (.ifCond .eq 11, 3) := by decide +kernel
theorem dX7_margin_7 : decode cX7_margin 7 = .ok (.aload_n 0, 1) := by decide +kernel
theorem dX7_margin_8 : decode cX7_margin 8 = .ok (.iload_n 1, 1) := by decide +kernel
theorem dX7_margin_9 : decode cX7_margin 9 = .ok (.invokevirtual 218, 3) := by decide +kernel
theorem dX7_margin_12 : decode cX7_margin 12 = .ok (.goto 8, 3) := by decide +kernel
theorem dX7_margin_15 : decode cX7_margin 15 = .ok (.aload_n 0, 1) := by decide +kernel
theorem dX7_margin_16 : decode cX7_margin 16 = .ok (.iconst (-1), 1) := by decide +kernel
theorem dX7_margin_17 : decode cX7_margin 17 = .ok (.invokevirtual 171, 3) := by decide +kernel
theorem dX7_margin_20 : decode cX7_margin 20 = .ok (.ireturn, 1) := by decide +kernel
set_option maxRecDepth 20000 in
theorem ggX7_high_X7_isWay : GoodIn wsX7_high wsX7_isWay := goodIn_r _ [5] (by decide +kernel) (by decide +kernel)
set_option maxRecDepth 20000 in
theorem gX7_high_X7_isWay : GoodIn wsX7_high (va_wsS RX7 71 yX7_isWay wsX7_isWay) := goodIn_app (goodIn_of _ (by decide +kernel)) ggX7_high_X7_isWay
set_option maxRecDepth 20000 in
theorem ggX7_high_X7_no : GoodIn wsX7_high wsX7_no := goodIn_r _ [9, 10, 85, 86, 87, 88, 89, 90, 91, 92, 93, 94, 95, 96, 97, 98, 99, 100, 101, 102, 103, 104, 105, 106, 107, 108, 109, 110, 111, 112, 113] (by decide +kernel) (by decide +kernel)
set_option maxRecDepth 20000 in
theorem gX7_high_X7_no : GoodIn wsX7_high (wsV RX7 82 RX7 yX7_no wsX7_no) := goodIn_app (goodIn_of _ (by decide +kernel)) ggX7_high_X7_no
set_option maxRecDepth 20000 in
theorem ggX7_high_X7_doesHold : GoodIn wsX7_high wsX7_doesHold := goodIn_r _ [14, 15, 16, 17, 18, 4, 19, 20, 21, 22, 23, 24, 25, 1, 26, 27, 28, 29, 30, 31, 32, 33, 34, 35, 36, 37, 38, 39, 40, 41, 42, 43, 44, 45, 46, 47, 48, 49, 50, 51, 52, 53, 54, 55, 56, 57, 58, 59, 60, 61, 62, 63, 64, 65, 66, 67, 68, 69, 70, 71, 72, 73, 74, 75, 76, 77, 78, 79, 80, 81, 82, 83, 84, 85, 86, 87, 88, 89, 90, 91, 92, 93, 94, 95, 96, 97, 98, 99, 100, 101, 102, 103, 104, 105, 106, 107, 108, 109, 110, 111, 112, 113] (by decide +kernel) (by decide +kernel)
set_option maxRecDepth 20000 in
theorem gX7_high_X7_doesHold : GoodIn wsX7_high (wsV RX7 221 RX7 yX7_doesHold wsX7_doesHold) := goodIn_app (goodIn_of _ (by decide +kernel)) ggX7_high_X7_doesHold
theorem dX7_high_0 : decode cX7_high 0 = .ok (.iload_n 1, 1) := by decide +kernel
theorem dX7_high_1 : decode cX7_high 1 = .ok (.invokestatic 71, 3) := by decide +kernel
theorem dX7_high_4 : decode cX7_high 4 = .ok (.ifCond .ne 9, 3) := by decide +kernel
theorem dX7_high_7 : decode cX7_high 7 = .ok (.aload_n 0, 1) := by decide +kernel
theorem dX7_high_8 : decode cX7_high 8 = .ok (.iconst (-1), 1) := by decide +kernel
theorem dX7_high_9 : decode cX7_high 9 = .ok (.invokevirtual 82, 3) := by decide +kernel
theorem dX7_high_12 : decode cX7_high 12 = .ok (.ireturn, 1) := by decide +kernel
theorem dX7_high_13 : decode cX7_high 13 = .ok (.aload_n 0, 1) := by decide +kernel
theorem dX7_high_14 : decode cX7_high 14 = .ok (.getfield 67, 3) := by decide +kernel
theorem dX7_high_17 : decode cX7_high 17 = .ok (.istore_n 2, 1) := by decide +kernel
theorem dX7_high_18 : decode cX7_high 18 = .ok (.iconst 0, 1) := by decide +kernel
theorem dX7_high_19 : decode cX7_high 19 = .ok (.istore_n 3, 1) := by decide +kernel
theorem dX7_high_20 : decode cX7_high 20 = .ok (.aload_n 0, 1) := by decide +kernel
theorem dX7_high_21 : decode cX7_high 21 = .ok (.iconst 1, 1) := by decide +kernel
theorem dX7_high_22 : decode cX7_high 22 = .ok (.putfield 67, 3) := by decide +kernel
theorem dX7_high_25 : decode cX7_high 25 = .ok (.aload_n 0, 1) := by decide +kernel
theorem dX7_high_26 : decode cX7_high 26 = .ok (.getfield 67, 3) := by decide +kernel
theorem dX7_high_29 : decode cX7_high 29 = .ok (.iload_n 2, 1) := by decide +kernel
theorem dX7_high_30 : decode cX7_high 30 = .ok (.if_icmp .gt 33, 3) := by decide +kernel
theorem dX7_high_33 : decode cX7_high 33 = .ok (.aload_n 0, 1) := by decide +kernel
theorem dX7_high_34 : decode cX7_high 34 = .ok (.iload_n 1, 1) := by decide +kernel
theorem dX7_high_35 : decode cX7_high 35 = .ok (.invokevirtual 221, 3) := by decide +kernel
theorem dX7_high_38 : decode cX7_high 38 = .ok (.ifCond .eq 10, 3) := by decide +kernel
theorem dX7_high_41 : decode cX7_high 41 = .ok (.aload_n 0, 1) := by decide +kernel
theorem dX7_high_42 : decode cX7_high 42 = .ok (.getfield 67, 3) := by decide +kernel
theorem dX7_high_45 : decode cX7_high 45 = .ok (.goto 4, 3) := by decide +kernel
theorem dX7_high_48 : decode cX7_high 48 = .ok (.iload_n 3, 1) := by decide +kernel
theorem dX7_high_49 : decode cX7_high 49 = .ok (.istore_n 3, 1) := by decide +kernel
theorem dX7_high_50 : decode cX7_high 50 = .ok (.aload_n 0, 1) := by decide +kernel
theorem dX7_high_51 : decode cX7_high 51 = .ok (.dup, 1) := by decide +kernel
theorem dX7_high_52 : decode cX7_high 52 = .ok (.getfield 67, 3) := by decide +kernel
theorem dX7_high_55 : decode cX7_high 55 = .ok (.iconst 1, 1) := by decide +kernel
theorem dX7_high_56 : decode cX7_high 56 = .ok (.iadd, 1) := by decide +kernel
theorem dX7_high_57 : decode cX7_high 57 = .ok (.putfield 67, 3) := by decide +kernel
theorem dX7_high_60 : decode cX7_high 60 = .ok (.goto (-35), 3) := by decide +kernel
theorem dX7_high_63 : decode cX7_high 63 = .ok (.aload_n 0, 1) := by decide +kernel
theorem dX7_high_64 : decode cX7_high 64 = .ok (.iload_n 2, 1) := by decide +kernel
theorem dX7_high_65 : decode cX7_high 65 = .ok (.putfield 67, 3) := by decide +kernel
theorem dX7_high_68 : decode cX7_high 68 = .ok (.iload_n 3, 1) := by decide +kernel
theorem dX7_high_69 : decode cX7_high 69 = .ok (.ireturn, 1) := by decide +kernel
set_option maxRecDepth 20000 in
theorem ggX7_more_X7_isWay : GoodIn wsX7_more wsX7_isWay := goodIn_r _ [9] (by decide +kernel) (by decide +kernel)
set_option maxRecDepth 20000 in
theorem gX7_more_X7_isWay : GoodIn wsX7_more (va_wsS RX7 71 yX7_isWay wsX7_isWay) := goodIn_app (goodIn_of _ (by decide +kernel)) ggX7_more_X7_isWay
set_option maxRecDepth 20000 in
theorem ggX7_more_X7_no : GoodIn wsX7_more wsX7_no := goodIn_r _ [13, 14, 85, 86, 87, 88, 89, 90, 91, 92, 93, 94, 95, 96, 97, 98, 99, 100, 101, 102, 103, 104, 105, 106, 107, 108, 109, 110, 111, 112, 113] (by decide +kernel) (by decide +kernel)
set_option maxRecDepth 20000 in
theorem gX7_more_X7_no : GoodIn wsX7_more (wsV RX7 82 RX7 yX7_no wsX7_no) := goodIn_app (goodIn_of _ (by decide +kernel)) ggX7_more_X7_no
set_option maxRecDepth 20000 in
theorem ggX7_more_X7_doesHold : GoodIn wsX7_more wsX7_doesHold := goodIn_r _ [18, 19, 20, 21, 22, 8, 23, 24, 25, 26, 27, 28, 29, 1, 30, 31, 32, 33, 34, 35, 36, 37, 38, 39, 40, 41, 42, 43, 44, 45, 46, 47, 2, 48, 49, 50, 51, 4, 52, 53, 54, 55, 56, 57, 58, 59, 60, 61, 62, 63, 64, 65, 66, 67, 68, 69, 3, 70, 71, 72, 73, 74, 75, 76, 5, 77, 78, 79, 80, 81, 82, 83, 84, 85, 86, 87, 88, 89, 90, 91, 92, 93, 94, 95, 96, 97, 98, 99, 100, 101, 102, 103, 104, 105, 106, 107, 108, 109, 110, 111, 112, 113] (by decide +kernel) (by decide +kernel)
set_option maxRecDepth 20000 in
theorem gX7_more_X7_doesHold : GoodIn wsX7_more (wsV RX7 221 RX7 yX7_doesHold wsX7_doesHold) := goodIn_app (goodIn_of _ (by decide +kernel)) ggX7_more_X7_doesHold
theorem dX7_more_0 : decode cX7_more 0 = .ok (.iload_n 1, 1) := by decide +kernel
theorem dX7_more_1 : decode cX7_more 1 = .ok (.invokestatic 71, 3) := by decide +kernel
theorem dX7_more_4 : decode cX7_more 4 = .ok (.ifCond .ne 7, 3) := by decide +kernel
theorem dX7_more_7 : decode cX7_more 7 = .ok (.iconst (-1), 1) := by decide +kernel
theorem dX7_more_8 : decode cX7_more 8 = .ok (.goto 16, 3) := by decide +kernel
theorem dX7_more_11 : decode cX7_more 11 = .ok (.aload_n 0, 1) := by decide +kernel
theorem dX7_more_12 : decode cX7_more 12 = .ok (.getfield 67, 3) := by decide +kernel
theorem dX7_more_15 : decode cX7_more 15 = .ok (.ifCond .ne 8, 3) := by decide +kernel
theorem dX7_more_18 : decode cX7_more 18 = .ok (.bipush (-3), 2) := by decide +kernel
theorem dX7_more_20 : decode cX7_more 20 = .ok (.goto 4, 3) := by decide +kernel
theorem dX7_more_23 : decode cX7_more 23 = .ok (.iconst 0, 1) := by decide +kernel
theorem dX7_more_24 : decode cX7_more 24 = .ok (.istore_n 2, 1) := by decide +kernel
theorem dX7_more_25 : decode cX7_more 25 = .ok (.iload_n 2, 1) := by decide +kernel
theorem dX7_more_26 : decode cX7_more 26 = .ok (.ifCond .eq 9, 3) := by decide +kernel
theorem dX7_more_29 : decode cX7_more 29 = .ok (.aload_n 0, 1) := by decide +kernel
theorem dX7_more_30 : decode cX7_more 30 = .ok (.iload_n 2, 1) := by decide +kernel
theorem dX7_more_31 : decode cX7_more 31 = .ok (.invokevirtual 82, 3) := by decide +kernel
theorem dX7_more_34 : decode cX7_more 34 = .ok (.ireturn, 1) := by decide +kernel
theorem dX7_more_35 : decode cX7_more 35 = .ok (.aload_n 0, 1) := by decide +kernel
theorem dX7_more_36 : decode cX7_more 36 = .ok (.getfield 16, 3) := by decide +kernel
theorem dX7_more_39 : decode cX7_more 39 = .ok (.aload_n 0, 1) := by decide +kernel
theorem dX7_more_40 : decode cX7_more 40 = .ok (.getfield 67, 3) := by decide +kernel
theorem dX7_more_43 : decode cX7_more 43 = .ok (.aload_n 0, 1) := by decide +kernel
theorem dX7_more_44 : decode cX7_more 44 = .ok (.getfield 16, 3) := by decide +kernel
theorem dX7_more_47 : decode cX7_more 47 = .ok (.aload_n 0, 1) := by decide +kernel
theorem dX7_more_48 : decode cX7_more 48 = .ok (.getfield 67, 3) := by decide +kernel
theorem dX7_more_51 : decode cX7_more 51 = .ok (.iconst 1, 1) := by decide +kernel
theorem dX7_more_52 : decode cX7_more 52 = .ok (.isub, 1) := by decide +kernel
theorem dX7_more_53 : decode cX7_more 53 = .ok (.iaload, 1) := by decide +kernel
theorem dX7_more_54 : decode cX7_more 54 = .ok (.iastore, 1) := by decide +kernel
theorem dX7_more_55 : decode cX7_more 55 = .ok (.aload_n 0, 1) := by decide +kernel
theorem dX7_more_56 : decode cX7_more 56 = .ok (.getfield 19, 3) := by decide +kernel
theorem dX7_more_59 : decode cX7_more 59 = .ok (.aload_n 0, 1) := by decide +kernel
theorem dX7_more_60 : decode cX7_more 60 = .ok (.getfield 67, 3) := by decide +kernel
theorem dX7_more_63 : decode cX7_more 63 = .ok (.aload_n 0, 1) := by decide +kernel
theorem dX7_more_64 : decode cX7_more 64 = .ok (.getfield 19, 3) := by decide +kernel
theorem dX7_more_67 : decode cX7_more 67 = .ok (.aload_n 0, 1) := by decide +kernel
theorem dX7_more_68 : decode cX7_more 68 = .ok (.getfield 67, 3) := by decide +kernel
theorem dX7_more_71 : decode cX7_more 71 = .ok (.iconst 1, 1) := by decide +kernel
theorem dX7_more_72 : decode cX7_more 72 = .ok (.isub, 1) := by decide +kernel
theorem dX7_more_73 : decode cX7_more 73 = .ok (.iaload, 1) := by decide +kernel
theorem dX7_more_74 : decode cX7_more 74 = .ok (.iastore, 1) := by decide +kernel
theorem dX7_more_75 : decode cX7_more 75 = .ok (.aload_n 0, 1) := by decide +kernel
theorem dX7_more_76 : decode cX7_more 76 = .ok (.getfield 22, 3) := by decide +kernel
theorem dX7_more_79 : decode cX7_more 79 = .ok (.aload_n 0, 1) := by decide +kernel
theorem dX7_more_80 : decode cX7_more 80 = .ok (.getfield 67, 3) := by decide +kernel
theorem dX7_more_83 : decode cX7_more 83 = .ok (.aload_n 0, 1) := by decide +kernel
theorem dX7_more_84 : decode cX7_more 84 = .ok (.getfield 22, 3) := by decide +kernel
theorem dX7_more_87 : decode cX7_more 87 = .ok (.aload_n 0, 1) := by decide +kernel
theorem dX7_more_88 : decode cX7_more 88 = .ok (.getfield 67, 3) := by decide +kernel
theorem dX7_more_91 : decode cX7_more 91 = .ok (.iconst 1, 1) := by decide +kernel
theorem dX7_more_92 : decode cX7_more 92 = .ok (.isub, 1) := by decide +kernel
theorem dX7_more_93 : decode cX7_more 93 = .ok (.iaload, 1) := by decide +kernel
theorem dX7_more_94 : decode cX7_more 94 = .ok (.iastore, 1) := by decide +kernel
theorem dX7_more_95 : decode cX7_more 95 = .ok (.aload_n 0, 1) := by decide +kernel
theorem dX7_more_96 : decode cX7_more 96 = .ok (.getfield 25, 3) := by decide +kernel
theorem dX7_more_99 : decode cX7_more 99 = .ok (.aload_n 0, 1) := by decide +kernel
theorem dX7_more_100 : decode cX7_more 100 = .ok (.getfield 67, 3) := by decide +kernel
theorem dX7_more_103 : decode cX7_more 103 = .ok (.aload_n 0, 1) := by decide +kernel
theorem dX7_more_104 : decode cX7_more 104 = .ok (.getfield 25, 3) := by decide +kernel
theorem dX7_more_107 : decode cX7_more 107 = .ok (.aload_n 0, 1) := by decide +kernel
theorem dX7_more_108 : decode cX7_more 108 = .ok (.getfield 67, 3) := by decide +kernel
theorem dX7_more_111 : decode cX7_more 111 = .ok (.iconst 1, 1) := by decide +kernel
theorem dX7_more_112 : decode cX7_more 112 = .ok (.isub, 1) := by decide +kernel
theorem dX7_more_113 : decode cX7_more 113 = .ok (.iaload, 1) := by decide +kernel
theorem dX7_more_114 : decode cX7_more 114 = .ok (.iastore, 1) := by decide +kernel
theorem dX7_more_115 : decode cX7_more 115 = .ok (.aload_n 0, 1) := by decide +kernel
theorem dX7_more_116 : decode cX7_more 116 = .ok (.dup, 1) := by decide +kernel
theorem dX7_more_117 : decode cX7_more 117 = .ok (.getfield 67, 3) := by decide +kernel
theorem dX7_more_120 : decode cX7_more 120 = .ok (.iconst 1, 1) := by decide +kernel
theorem dX7_more_121 : decode cX7_more 121 = .ok (.iadd, 1) := by decide +kernel
theorem dX7_more_122 : decode cX7_more 122 = .ok (.putfield 67, 3) := by decide +kernel
theorem dX7_more_125 : decode cX7_more 125 = .ok (.aload_n 0, 1) := by decide +kernel
theorem dX7_more_126 : decode cX7_more 126 = .ok (.iload_n 1, 1) := by decide +kernel
theorem dX7_more_127 : decode cX7_more 127 = .ok (.invokevirtual 221, 3) := by decide +kernel
theorem dX7_more_130 : decode cX7_more 130 = .ok (.istore_n 3, 1) := by decide +kernel
theorem dX7_more_131 : decode cX7_more 131 = .ok (.aload_n 0, 1) := by decide +kernel
theorem dX7_more_132 : decode cX7_more 132 = .ok (.dup, 1) := by decide +kernel
theorem dX7_more_133 : decode cX7_more 133 = .ok (.getfield 67, 3) := by decide +kernel
theorem dX7_more_136 : decode cX7_more 136 = .ok (.iconst 1, 1) := by decide +kernel
theorem dX7_more_137 : decode cX7_more 137 = .ok (.isub, 1) := by decide +kernel
theorem dX7_more_138 : decode cX7_more 138 = .ok (.putfield 67, 3) := by decide +kernel
theorem dX7_more_141 : decode cX7_more 141 = .ok (.iload_n 3, 1) := by decide +kernel
theorem dX7_more_142 : decode cX7_more 142 = .ok (.ifCond .eq 7, 3) := by decide +kernel
theorem dX7_more_145 : decode cX7_more 145 = .ok (.iconst 1, 1) := by decide +kernel
theorem dX7_more_146 : decode cX7_more 146 = .ok (.goto 4, 3) := by decide +kernel
theorem dX7_more_149 : decode cX7_more 149 = .ok (.iconst 0, 1) := by decide +kernel
theorem dX7_more_150 : decode cX7_more 150 = .ok (.ireturn, 1) := by decide +kernel
set_option maxRecDepth 20000 in
theorem ggX7_farOut_X7_isWay : GoodIn wsX7_farOut wsX7_isWay := goodIn_r _ [5] (by decide +kernel) (by decide +kernel)
set_option maxRecDepth 20000 in
theorem gX7_farOut_X7_isWay : GoodIn wsX7_farOut (va_wsS RX7 71 yX7_isWay wsX7_isWay) := goodIn_app (goodIn_of _ (by decide +kernel)) ggX7_farOut_X7_isWay
set_option maxRecDepth 20000 in
theorem ggX7_farOut_X7_isLayer : GoodIn wsX7_farOut wsX7_isLayer := goodIn_r _ [9, 10, 89, 90, 91, 92, 93, 94, 95, 96, 97, 98, 99, 100, 101, 102, 103, 104, 105, 106, 107, 108, 109, 110, 111, 112, 113, 114, 115, 116, 117] (by decide +kernel) (by decide +kernel)
set_option maxRecDepth 20000 in
theorem gX7_farOut_X7_isLayer : GoodIn wsX7_farOut (wsV RX7 168 RX7 yX7_isLayer wsX7_isLayer) := goodIn_app (goodIn_of _ (by decide +kernel)) ggX7_farOut_X7_isLayer
set_option maxRecDepth 20000 in
theorem ggX7_farOut_X7_no : GoodIn wsX7_farOut wsX7_no := goodIn_r _ [14, 15, 89, 90, 91, 92, 93, 94, 95, 96, 97, 98, 99, 100, 101, 102, 103, 104, 105, 106, 107, 108, 109, 110, 111, 112, 113, 114, 115, 116, 117] (by decide +kernel) (by decide +kernel)
set_option maxRecDepth 20000 in
theorem gX7_farOut_X7_no : GoodIn wsX7_farOut (wsV RX7 82 RX7 yX7_no wsX7_no) := goodIn_app (goodIn_of _ (by decide +kernel)) ggX7_farOut_X7_no
set_option maxRecDepth 20000 in
theorem ggX7_farOut_X7_doesHold : GoodIn wsX7_farOut wsX7_doesHold := goodIn_r _ [19, 20, 21, 22, 23, 4, 24, 25, 26, 27, 28, 29, 30, 10, 31, 32, 33, 34, 35, 36, 37, 38, 39, 40, 41, 42, 43, 44, 45, 46, 47, 48, 49, 50, 51, 52, 53, 1, 54, 55, 56, 57, 58, 59, 60, 61, 62, 63, 64, 65, 66, 67, 68, 69, 70, 71, 72, 73, 74, 75, 76, 77, 78, 79, 80, 81, 82, 83, 84, 85, 86, 87, 88, 89, 90, 91, 92, 93, 94, 95, 96, 97, 98, 99, 100, 101, 102, 103, 104, 105, 106, 107, 108, 109, 110, 111, 112, 113, 114, 115, 116, 117] (by decide +kernel) (by decide +kernel)
set_option maxRecDepth 20000 in
theorem gX7_farOut_X7_doesHold : GoodIn wsX7_farOut (wsV RX7 221 RX7 yX7_doesHold wsX7_doesHold) := goodIn_app (goodIn_of _ (by decide +kernel)) ggX7_farOut_X7_doesHold
theorem dX7_farOut_0 : decode cX7_farOut 0 = .ok (.iload_n 1, 1) := by decide +kernel
theorem dX7_farOut_1 : decode cX7_farOut 1 = .ok (.invokestatic 71, 3) := by decide +kernel
theorem dX7_farOut_4 : decode cX7_farOut 4 = .ok (.ifCond .eq 11, 3) := by decide +kernel
theorem dX7_farOut_7 : decode cX7_farOut 7 = .ok (.aload_n 0, 1) := by decide +kernel
theorem dX7_farOut_8 : decode cX7_farOut 8 = .ok (.iload_n 2, 1) := by decide +kernel
theorem dX7_farOut_9 : decode cX7_farOut 9 = .ok (.invokevirtual 168, 3) := by decide +kernel
theorem dX7_farOut_12 : decode cX7_farOut 12 = .ok (.ifCond .ne 9, 3) := by decide +kernel
theorem dX7_farOut_15 : decode cX7_farOut 15 = .ok (.aload_n 0, 1) := by decide +kernel
theorem dX7_farOut_16 : decode cX7_farOut 16 = .ok (.iconst (-1), 1) := by decide +kernel
theorem dX7_farOut_17 : decode cX7_farOut 17 = .ok (.invokevirtual 82, 3) := by decide +kernel
theorem dX7_farOut_20 : decode cX7_farOut 20 = .ok (.ireturn, 1) := by decide +kernel
theorem dX7_farOut_21 : decode cX7_farOut 21 = .ok (.aload_n 0, 1) := by decide +kernel
theorem dX7_farOut_22 : decode cX7_farOut 22 = .ok (.getfield 22, 3) := by decide +kernel
theorem dX7_farOut_25 : decode cX7_farOut 25 = .ok (.iload_n 2, 1) := by decide +kernel
theorem dX7_farOut_26 : decode cX7_farOut 26 = .ok (.iaload, 1) := by decide +kernel
theorem dX7_farOut_27 : decode cX7_farOut 27 = .ok (.istore_n 3, 1) := by decide +kernel
theorem dX7_farOut_28 : decode cX7_farOut 28 = .ok (.bipush (-9), 2) := by decide +kernel
theorem dX7_farOut_30 : decode cX7_farOut 30 = .ok (.istore 4, 2) := by decide +kernel
theorem dX7_farOut_32 : decode cX7_farOut 32 = .ok (.bipush 9, 2) := by decide +kernel
theorem dX7_farOut_34 : decode cX7_farOut 34 = .ok (.istore 5, 2) := by decide +kernel
theorem dX7_farOut_36 : decode cX7_farOut 36 = .ok (.iload 5, 2) := by decide +kernel
theorem dX7_farOut_38 : decode cX7_farOut 38 = .ok (.ifCond .lt 39, 3) := by decide +kernel
theorem dX7_farOut_41 : decode cX7_farOut 41 = .ok (.iload 4, 2) := by decide +kernel
theorem dX7_farOut_43 : decode cX7_farOut 43 = .ok (.ifCond .ge 34, 3) := by decide +kernel
theorem dX7_farOut_46 : decode cX7_farOut 46 = .ok (.aload_n 0, 1) := by decide +kernel
theorem dX7_farOut_47 : decode cX7_farOut 47 = .ok (.getfield 22, 3) := by decide +kernel
theorem dX7_farOut_50 : decode cX7_farOut 50 = .ok (.iload_n 2, 1) := by decide +kernel
theorem dX7_farOut_51 : decode cX7_farOut 51 = .ok (.iload 5, 2) := by decide +kernel
theorem dX7_farOut_53 : decode cX7_farOut 53 = .ok (.iastore, 1) := by decide +kernel
theorem dX7_farOut_54 : decode cX7_farOut 54 = .ok (.aload_n 0, 1) := by decide +kernel
theorem dX7_farOut_55 : decode cX7_farOut 55 = .ok (.iload_n 1, 1) := by decide +kernel
theorem dX7_farOut_56 : decode cX7_farOut 56 = .ok (.invokevirtual 221, 3) := by decide +kernel
theorem dX7_farOut_59 : decode cX7_farOut 59 = .ok (.ifCond .eq 8, 3) := by decide +kernel
theorem dX7_farOut_62 : decode cX7_farOut 62 = .ok (.iload 5, 2) := by decide +kernel
theorem dX7_farOut_64 : decode cX7_farOut 64 = .ok (.goto 5, 3) := by decide +kernel
theorem dX7_farOut_67 : decode cX7_farOut 67 = .ok (.bipush (-9), 2) := by decide +kernel
theorem dX7_farOut_69 : decode cX7_farOut 69 = .ok (.istore 4, 2) := by decide +kernel
theorem dX7_farOut_71 : decode cX7_farOut 71 = .ok (.iinc 5 (-1), 3) := by decide +kernel
theorem dX7_farOut_74 : decode cX7_farOut 74 = .ok (.goto (-38), 3) := by decide +kernel
theorem dX7_farOut_77 : decode cX7_farOut 77 = .ok (.aload_n 0, 1) := by decide +kernel
theorem dX7_farOut_78 : decode cX7_farOut 78 = .ok (.getfield 22, 3) := by decide +kernel
theorem dX7_farOut_81 : decode cX7_farOut 81 = .ok (.iload_n 2, 1) := by decide +kernel
theorem dX7_farOut_82 : decode cX7_farOut 82 = .ok (.iload_n 3, 1) := by decide +kernel
theorem dX7_farOut_83 : decode cX7_farOut 83 = .ok (.iastore, 1) := by decide +kernel
theorem dX7_farOut_84 : decode cX7_farOut 84 = .ok (.iload 4, 2) := by decide +kernel
theorem dX7_farOut_86 : decode cX7_farOut 86 = .ok (.ireturn, 1) := by decide +kernel
theorem dX7_heldLean_0 : decode cX7_heldLean 0 = .ok (.iload_n 0, 1) := by decide +kernel
theorem dX7_heldLean_1 : decode cX7_heldLean 1 = .ok (.bipush (-5), 2) := by decide +kernel
theorem dX7_heldLean_3 : decode cX7_heldLean 3 = .ok (.if_icmp .ge 8, 3) := by decide +kernel
theorem dX7_heldLean_6 : decode cX7_heldLean 6 = .ok (.bipush (-5), 2) := by decide +kernel
theorem dX7_heldLean_8 : decode cX7_heldLean 8 = .ok (.goto 13, 3) := by decide +kernel
theorem dX7_heldLean_11 : decode cX7_heldLean 11 = .ok (.iload_n 0, 1) := by decide +kernel
theorem dX7_heldLean_12 : decode cX7_heldLean 12 = .ok (.iconst 5, 1) := by decide +kernel
theorem dX7_heldLean_13 : decode cX7_heldLean 13 = .ok (.if_icmp .le 7, 3) := by decide +kernel
theorem dX7_heldLean_16 : decode cX7_heldLean 16 = .ok (.iconst 5, 1) := by decide +kernel
theorem dX7_heldLean_17 : decode cX7_heldLean 17 = .ok (.goto 4, 3) := by decide +kernel
theorem dX7_heldLean_20 : decode cX7_heldLean 20 = .ok (.iload_n 0, 1) := by decide +kernel
theorem dX7_heldLean_21 : decode cX7_heldLean 21 = .ok (.ireturn, 1) := by decide +kernel
set_option maxRecDepth 20000 in
theorem ggX7_marginBy_X7_passesAll : GoodIn wsX7_marginBy wsX7_passesAll := goodIn_r _ [7, 8, 9, 10, 11, 12, 13, 2, 14, 15, 16, 17, 18, 1, 19, 20, 21, 6, 22, 23, 24, 25, 26, 27, 66, 67, 68, 69, 70, 71, 72, 73, 74, 75, 76, 77, 78, 79, 80, 81, 82, 83, 84, 85, 86, 87, 88, 89, 90, 91, 92, 93, 94] (by decide +kernel) (by decide +kernel)
set_option maxRecDepth 20000 in
theorem gX7_marginBy_X7_passesAll : GoodIn wsX7_marginBy (wsV RX7 129 RX7 yX7_passesAll wsX7_passesAll) := goodIn_app (goodIn_of _ (by decide +kernel)) ggX7_marginBy_X7_passesAll
set_option maxRecDepth 20000 in
theorem ggX7_marginBy_X7_heldLean : GoodIn wsX7_marginBy wsX7_heldLean := goodIn_r _ [30] (by decide +kernel) (by decide +kernel)
set_option maxRecDepth 20000 in
theorem gX7_marginBy_X7_heldLean : GoodIn wsX7_marginBy (va_wsS RX7 224 yX7_heldLean wsX7_heldLean) := goodIn_app (goodIn_of _ (by decide +kernel)) ggX7_marginBy_X7_heldLean
set_option maxRecDepth 20000 in
theorem ggX7_marginBy_X7_marginOf : GoodIn wsX7_marginBy wsX7_marginOf := goodIn_r _ [34, 18, 1, 35, 36, 37, 6, 38, 15, 39, 40, 41, 42, 10, 43, 44, 45, 46, 14, 47, 48, 49, 50, 12, 11, 51, 52, 53, 54, 55, 56, 57, 16, 2, 13, 58, 59, 60, 61, 62, 63, 64, 65, 66, 67, 68, 69, 70, 71, 72, 73, 74, 75, 76, 77, 78, 79, 80, 81, 82, 83, 84, 85, 86, 87, 88, 89, 90, 91, 92, 93, 94] (by decide +kernel) (by decide +kernel)
set_option maxRecDepth 20000 in
theorem gX7_marginBy_X7_marginOf : GoodIn wsX7_marginBy (wsV RX7 218 RX7 yX7_marginOf wsX7_marginOf) := goodIn_app (goodIn_of _ (by decide +kernel)) ggX7_marginBy_X7_marginOf
theorem dX7_marginBy_0 : decode cX7_marginBy 0 = .ok (.aload_n 0, 1) := by decide +kernel
theorem dX7_marginBy_1 : decode cX7_marginBy 1 = .ok (.iconst 1, 1) := by decide +kernel
theorem dX7_marginBy_2 : decode cX7_marginBy 2 = .ok (.iconst 1, 1) := by decide +kernel
theorem dX7_marginBy_3 : decode cX7_marginBy 3 = .ok (.invokevirtual 129, 3) := by decide +kernel
theorem dX7_marginBy_6 : decode cX7_marginBy 6 = .ok (.iconst 0, 1) := by decide +kernel
theorem dX7_marginBy_7 : decode cX7_marginBy 7 = .ok (.istore_n 3, 1) := by decide +kernel
theorem dX7_marginBy_8 : decode cX7_marginBy 8 = .ok (.iload_n 3, 1) := by decide +kernel
theorem dX7_marginBy_9 : decode cX7_marginBy 9 = .ok (.aload_n 0, 1) := by decide +kernel
theorem dX7_marginBy_10 : decode cX7_marginBy 10 = .ok (.getfield 67, 3) := by decide +kernel
theorem dX7_marginBy_13 : decode cX7_marginBy 13 = .ok (.if_icmp .ge 26, 3) := by decide +kernel
theorem dX7_marginBy_16 : decode cX7_marginBy 16 = .ok (.aload_n 0, 1) := by decide +kernel
theorem dX7_marginBy_17 : decode cX7_marginBy 17 = .ok (.getfield 25, 3) := by decide +kernel
theorem dX7_marginBy_20 : decode cX7_marginBy 20 = .ok (.iload_n 3, 1) := by decide +kernel
theorem dX7_marginBy_21 : decode cX7_marginBy 21 = .ok (.aload_n 0, 1) := by decide +kernel
theorem dX7_marginBy_22 : decode cX7_marginBy 22 = .ok (.getfield 25, 3) := by decide +kernel
theorem dX7_marginBy_25 : decode cX7_marginBy 25 = .ok (.iload_n 3, 1) := by decide +kernel
theorem dX7_marginBy_26 : decode cX7_marginBy 26 = .ok (.iaload, 1) := by decide +kernel
theorem dX7_marginBy_27 : decode cX7_marginBy 27 = .ok (.iload_n 2, 1) := by decide +kernel
theorem dX7_marginBy_28 : decode cX7_marginBy 28 = .ok (.iadd, 1) := by decide +kernel
theorem dX7_marginBy_29 : decode cX7_marginBy 29 = .ok (.invokestatic 224, 3) := by decide +kernel
theorem dX7_marginBy_32 : decode cX7_marginBy 32 = .ok (.iastore, 1) := by decide +kernel
theorem dX7_marginBy_33 : decode cX7_marginBy 33 = .ok (.iinc 3 1, 3) := by decide +kernel
theorem dX7_marginBy_36 : decode cX7_marginBy 36 = .ok (.goto (-28), 3) := by decide +kernel
theorem dX7_marginBy_39 : decode cX7_marginBy 39 = .ok (.aload_n 0, 1) := by decide +kernel
theorem dX7_marginBy_40 : decode cX7_marginBy 40 = .ok (.iload_n 1, 1) := by decide +kernel
theorem dX7_marginBy_41 : decode cX7_marginBy 41 = .ok (.invokevirtual 218, 3) := by decide +kernel
theorem dX7_marginBy_44 : decode cX7_marginBy 44 = .ok (.istore_n 3, 1) := by decide +kernel
theorem dX7_marginBy_45 : decode cX7_marginBy 45 = .ok (.aload_n 0, 1) := by decide +kernel
theorem dX7_marginBy_46 : decode cX7_marginBy 46 = .ok (.iconst 1, 1) := by decide +kernel
theorem dX7_marginBy_47 : decode cX7_marginBy 47 = .ok (.iconst 0, 1) := by decide +kernel
theorem dX7_marginBy_48 : decode cX7_marginBy 48 = .ok (.invokevirtual 129, 3) := by decide +kernel
theorem dX7_marginBy_51 : decode cX7_marginBy 51 = .ok (.iload_n 3, 1) := by decide +kernel
theorem dX7_marginBy_52 : decode cX7_marginBy 52 = .ok (.ireturn, 1) := by decide +kernel
set_option maxRecDepth 20000 in
theorem ggX7_leaning_X7_isWay : GoodIn wsX7_leaning wsX7_isWay := goodIn_r _ [4] (by decide +kernel) (by decide +kernel)
set_option maxRecDepth 20000 in
theorem gX7_leaning_X7_isWay : GoodIn wsX7_leaning (va_wsS RX7 71 yX7_isWay wsX7_isWay) := goodIn_app (goodIn_of _ (by decide +kernel)) ggX7_leaning_X7_isWay
set_option maxRecDepth 20000 in
theorem ggX7_leaning_X7_lower : GoodIn wsX7_leaning wsX7_lower := goodIn_r _ [8, 9, 10, 79, 80, 81, 82, 83, 84, 85, 86, 87, 88, 89, 90, 91, 92, 93, 94, 95, 96, 97, 98, 99, 100, 101, 102, 103, 104, 105, 106, 107] (by decide +kernel) (by decide +kernel)
set_option maxRecDepth 20000 in
theorem gX7_leaning_X7_lower : GoodIn wsX7_leaning (wsV RX7 171 RX7 yX7_lower wsX7_lower) := goodIn_app (goodIn_of _ (by decide +kernel)) ggX7_leaning_X7_lower
set_option maxRecDepth 20000 in
theorem ggX7_leaning_X7_marginBy : GoodIn wsX7_leaning wsX7_marginBy := goodIn_r _ [14, 15, 16, 17, 18, 19, 3, 20, 21, 22, 23, 24, 25, 26, 27, 28, 29, 30, 31, 32, 33, 34, 35, 36, 37, 38, 39, 40, 41, 42, 43, 44, 45, 46, 47, 48, 49, 50, 51, 52, 53, 54, 55, 56, 57, 58, 59, 60, 61, 62, 63, 64, 65, 66, 67, 68, 69, 70, 71, 72, 73, 74, 75, 76, 77, 78, 79, 80, 81, 82, 83, 84, 85, 86, 87, 88, 89, 90, 91, 92, 93, 94, 95, 96, 97, 98, 99, 100, 101, 102, 103, 104, 105, 106, 107] (by decide +kernel) (by decide +kernel)
set_option maxRecDepth 20000 in
theorem gX7_leaning_X7_marginBy : GoodIn wsX7_leaning (wsV RX7 227 RX7 yX7_marginBy wsX7_marginBy) := goodIn_app (goodIn_of _ (by decide +kernel)) ggX7_leaning_X7_marginBy
theorem dX7_leaning_0 : decode cX7_leaning 0 = .ok (.iload_n 1, 1) := by decide +kernel
theorem dX7_leaning_1 : decode cX7_leaning 1 = .ok (.invokestatic 71, 3) := by decide +kernel
theorem dX7_leaning_4 : decode cX7_leaning 4 = .ok (.ifCond .ne 9, 3) := by decide +kernel
theorem dX7_leaning_7 : decode cX7_leaning 7 = .ok (.aload_n 0, 1) := by decide +kernel
theorem dX7_leaning_8 : decode cX7_leaning 8 = .ok (.iconst (-1), 1) := by decide +kernel
theorem dX7_leaning_9 : decode cX7_leaning 9 = .ok (.invokevirtual 171, 3) := by decide +kernel
theorem dX7_leaning_12 : decode cX7_leaning 12 = .ok (.ireturn, 1) := by decide +kernel
theorem dX7_leaning_13 : decode cX7_leaning 13 = .ok (.bipush (-5), 2) := by decide +kernel
theorem dX7_leaning_15 : decode cX7_leaning 15 = .ok (.istore_n 2, 1) := by decide +kernel
theorem dX7_leaning_16 : decode cX7_leaning 16 = .ok (.bipush (-4), 2) := by decide +kernel
theorem dX7_leaning_18 : decode cX7_leaning 18 = .ok (.istore_n 3, 1) := by decide +kernel
theorem dX7_leaning_19 : decode cX7_leaning 19 = .ok (.iload_n 3, 1) := by decide +kernel
theorem dX7_leaning_20 : decode cX7_leaning 20 = .ok (.bipush 6, 2) := by decide +kernel
theorem dX7_leaning_22 : decode cX7_leaning 22 = .ok (.if_icmp .ge 30, 3) := by decide +kernel
theorem dX7_leaning_25 : decode cX7_leaning 25 = .ok (.aload_n 0, 1) := by decide +kernel
theorem dX7_leaning_26 : decode cX7_leaning 26 = .ok (.iload_n 1, 1) := by decide +kernel
theorem dX7_leaning_27 : decode cX7_leaning 27 = .ok (.iload_n 3, 1) := by decide +kernel
theorem dX7_leaning_28 : decode cX7_leaning 28 = .ok (.invokevirtual 227, 3) := by decide +kernel
theorem dX7_leaning_31 : decode cX7_leaning 31 = .ok (.aload_n 0, 1) := by decide +kernel
theorem dX7_leaning_32 : decode cX7_leaning 32 = .ok (.iload_n 1, 1) := by decide +kernel
theorem dX7_leaning_33 : decode cX7_leaning 33 = .ok (.iload_n 2, 1) := by decide +kernel
theorem dX7_leaning_34 : decode cX7_leaning 34 = .ok (.invokevirtual 227, 3) := by decide +kernel
theorem dX7_leaning_37 : decode cX7_leaning 37 = .ok (.if_icmp .le 7, 3) := by decide +kernel
theorem dX7_leaning_40 : decode cX7_leaning 40 = .ok (.iload_n 3, 1) := by decide +kernel
theorem dX7_leaning_41 : decode cX7_leaning 41 = .ok (.goto 4, 3) := by decide +kernel
theorem dX7_leaning_44 : decode cX7_leaning 44 = .ok (.iload_n 2, 1) := by decide +kernel
theorem dX7_leaning_45 : decode cX7_leaning 45 = .ok (.istore_n 2, 1) := by decide +kernel
theorem dX7_leaning_46 : decode cX7_leaning 46 = .ok (.iinc 3 1, 3) := by decide +kernel
theorem dX7_leaning_49 : decode cX7_leaning 49 = .ok (.goto (-30), 3) := by decide +kernel
theorem dX7_leaning_52 : decode cX7_leaning 52 = .ok (.iload_n 2, 1) := by decide +kernel
theorem dX7_leaning_53 : decode cX7_leaning 53 = .ok (.ireturn, 1) := by decide +kernel
set_option maxRecDepth 20000 in
theorem ggX7_enough_X7_isWay : GoodIn wsX7_enough wsX7_isWay := goodIn_r _ [5] (by decide +kernel) (by decide +kernel)
set_option maxRecDepth 20000 in
theorem gX7_enough_X7_isWay : GoodIn wsX7_enough (va_wsS RX7 71 yX7_isWay wsX7_isWay) := goodIn_app (goodIn_of _ (by decide +kernel)) ggX7_enough_X7_isWay
set_option maxRecDepth 20000 in
theorem ggX7_enough_X7_no : GoodIn wsX7_enough wsX7_no := goodIn_r _ [9, 10, 85, 86, 87, 88, 89, 90, 91, 92, 93, 94, 95, 96, 97, 98, 99, 100, 101, 102, 103, 104, 105, 106, 107, 108, 109, 110, 111, 112, 113] (by decide +kernel) (by decide +kernel)
set_option maxRecDepth 20000 in
theorem gX7_enough_X7_no : GoodIn wsX7_enough (wsV RX7 82 RX7 yX7_no wsX7_no) := goodIn_app (goodIn_of _ (by decide +kernel)) ggX7_enough_X7_no
set_option maxRecDepth 20000 in
theorem ggX7_enough_X7_doesHold : GoodIn wsX7_enough wsX7_doesHold := goodIn_r _ [14, 15, 16, 17, 18, 4, 19, 20, 21, 22, 23, 24, 25, 26, 27, 28, 29, 30, 31, 32, 33, 34, 35, 36, 37, 38, 39, 40, 41, 42, 43, 44, 45, 46, 47, 48, 49, 50, 51, 52, 53, 54, 55, 56, 57, 58, 1, 59, 60, 61, 62, 63, 64, 65, 66, 67, 68, 69, 70, 71, 72, 73, 74, 75, 76, 77, 78, 79, 80, 81, 82, 83, 84, 85, 86, 87, 88, 89, 90, 91, 92, 93, 94, 95, 96, 97, 98, 99, 100, 101, 102, 103, 104, 105, 106, 107, 108, 109, 110, 111, 112, 113] (by decide +kernel) (by decide +kernel)
set_option maxRecDepth 20000 in
theorem gX7_enough_X7_doesHold : GoodIn wsX7_enough (wsV RX7 221 RX7 yX7_doesHold wsX7_doesHold) := goodIn_app (goodIn_of _ (by decide +kernel)) ggX7_enough_X7_doesHold
theorem dX7_enough_0 : decode cX7_enough 0 = .ok (.iload_n 1, 1) := by decide +kernel
theorem dX7_enough_1 : decode cX7_enough 1 = .ok (.invokestatic 71, 3) := by decide +kernel
theorem dX7_enough_4 : decode cX7_enough 4 = .ok (.ifCond .ne 9, 3) := by decide +kernel
theorem dX7_enough_7 : decode cX7_enough 7 = .ok (.aload_n 0, 1) := by decide +kernel
theorem dX7_enough_8 : decode cX7_enough 8 = .ok (.iconst (-1), 1) := by decide +kernel
theorem dX7_enough_9 : decode cX7_enough 9 = .ok (.invokevirtual 82, 3) := by decide +kernel
theorem dX7_enough_12 : decode cX7_enough 12 = .ok (.ireturn, 1) := by decide +kernel
theorem dX7_enough_13 : decode cX7_enough 13 = .ok (.aload_n 0, 1) := by decide +kernel
theorem dX7_enough_14 : decode cX7_enough 14 = .ok (.getfield 13, 3) := by decide +kernel
theorem dX7_enough_17 : decode cX7_enough 17 = .ok (.iconst 0, 1) := by decide +kernel
theorem dX7_enough_18 : decode cX7_enough 18 = .ok (.iaload, 1) := by decide +kernel
theorem dX7_enough_19 : decode cX7_enough 19 = .ok (.istore_n 2, 1) := by decide +kernel
theorem dX7_enough_20 : decode cX7_enough 20 = .ok (.bipush (-9), 2) := by decide +kernel
theorem dX7_enough_22 : decode cX7_enough 22 = .ok (.istore_n 3, 1) := by decide +kernel
theorem dX7_enough_23 : decode cX7_enough 23 = .ok (.iconst 0, 1) := by decide +kernel
theorem dX7_enough_24 : decode cX7_enough 24 = .ok (.istore 4, 2) := by decide +kernel
theorem dX7_enough_26 : decode cX7_enough 26 = .ok (.iload 4, 2) := by decide +kernel
theorem dX7_enough_28 : decode cX7_enough 28 = .ok (.bipush 6, 2) := by decide +kernel
theorem dX7_enough_30 : decode cX7_enough 30 = .ok (.if_icmp .ge 37, 3) := by decide +kernel
theorem dX7_enough_33 : decode cX7_enough 33 = .ok (.iload_n 3, 1) := by decide +kernel
theorem dX7_enough_34 : decode cX7_enough 34 = .ok (.ifCond .ge 33, 3) := by decide +kernel
theorem dX7_enough_37 : decode cX7_enough 37 = .ok (.aload_n 0, 1) := by decide +kernel
theorem dX7_enough_38 : decode cX7_enough 38 = .ok (.getfield 13, 3) := by decide +kernel
theorem dX7_enough_41 : decode cX7_enough 41 = .ok (.iconst 0, 1) := by decide +kernel
theorem dX7_enough_42 : decode cX7_enough 42 = .ok (.iload 4, 2) := by decide +kernel
theorem dX7_enough_44 : decode cX7_enough 44 = .ok (.iastore, 1) := by decide +kernel
theorem dX7_enough_45 : decode cX7_enough 45 = .ok (.aload_n 0, 1) := by decide +kernel
theorem dX7_enough_46 : decode cX7_enough 46 = .ok (.iload_n 1, 1) := by decide +kernel
theorem dX7_enough_47 : decode cX7_enough 47 = .ok (.invokevirtual 221, 3) := by decide +kernel
theorem dX7_enough_50 : decode cX7_enough 50 = .ok (.ifCond .eq 8, 3) := by decide +kernel
theorem dX7_enough_53 : decode cX7_enough 53 = .ok (.iload 4, 2) := by decide +kernel
theorem dX7_enough_55 : decode cX7_enough 55 = .ok (.goto 5, 3) := by decide +kernel
theorem dX7_enough_58 : decode cX7_enough 58 = .ok (.bipush (-9), 2) := by decide +kernel
theorem dX7_enough_60 : decode cX7_enough 60 = .ok (.istore_n 3, 1) := by decide +kernel
theorem dX7_enough_61 : decode cX7_enough 61 = .ok (.iinc 4 1, 3) := by decide +kernel
theorem dX7_enough_64 : decode cX7_enough 64 = .ok (.goto (-38), 3) := by decide +kernel
theorem dX7_enough_67 : decode cX7_enough 67 = .ok (.aload_n 0, 1) := by decide +kernel
theorem dX7_enough_68 : decode cX7_enough 68 = .ok (.getfield 13, 3) := by decide +kernel
theorem dX7_enough_71 : decode cX7_enough 71 = .ok (.iconst 0, 1) := by decide +kernel
theorem dX7_enough_72 : decode cX7_enough 72 = .ok (.iload_n 2, 1) := by decide +kernel
theorem dX7_enough_73 : decode cX7_enough 73 = .ok (.iastore, 1) := by decide +kernel
theorem dX7_enough_74 : decode cX7_enough 74 = .ok (.iload_n 3, 1) := by decide +kernel
theorem dX7_enough_75 : decode cX7_enough 75 = .ok (.ireturn, 1) := by decide +kernel
theorem dX7_minutesOf_0 : decode cX7_minutesOf 0 = .ok (.iconst 0, 1) := by decide +kernel
theorem dX7_minutesOf_1 : decode cX7_minutesOf 1 = .ok (.istore_n 2, 1) := by decide +kernel
theorem dX7_minutesOf_2 : decode cX7_minutesOf 2 = .ok (.bipush 6, 2) := by decide +kernel
theorem dX7_minutesOf_4 : decode cX7_minutesOf 4 = .ok (.iload_n 1, 1) := by decide +kernel
theorem dX7_minutesOf_5 : decode cX7_minutesOf 5 = .ok (.imul, 1) := by decide +kernel
theorem dX7_minutesOf_6 : decode cX7_minutesOf 6 = .ok (.istore_n 3, 1) := by decide +kernel
theorem dX7_minutesOf_7 : decode cX7_minutesOf 7 = .ok (.iload_n 3, 1) := by decide +kernel
theorem dX7_minutesOf_8 : decode cX7_minutesOf 8 = .ok (.bipush 6, 2) := by decide +kernel
theorem dX7_minutesOf_10 : decode cX7_minutesOf 10 = .ok (.iload_n 1, 1) := by decide +kernel
theorem dX7_minutesOf_11 : decode cX7_minutesOf 11 = .ok (.imul, 1) := by decide +kernel
theorem dX7_minutesOf_12 : decode cX7_minutesOf 12 = .ok (.aload_n 0, 1) := by decide +kernel
theorem dX7_minutesOf_13 : decode cX7_minutesOf 13 = .ok (.getfield 40, 3) := by decide +kernel
theorem dX7_minutesOf_16 : decode cX7_minutesOf 16 = .ok (.iload_n 1, 1) := by decide +kernel
theorem dX7_minutesOf_17 : decode cX7_minutesOf 17 = .ok (.iaload, 1) := by decide +kernel
theorem dX7_minutesOf_18 : decode cX7_minutesOf 18 = .ok (.iadd, 1) := by decide +kernel
theorem dX7_minutesOf_19 : decode cX7_minutesOf 19 = .ok (.if_icmp .ge 18, 3) := by decide +kernel
theorem dX7_minutesOf_22 : decode cX7_minutesOf 22 = .ok (.iload_n 2, 1) := by decide +kernel
theorem dX7_minutesOf_23 : decode cX7_minutesOf 23 = .ok (.aload_n 0, 1) := by decide +kernel
theorem dX7_minutesOf_24 : decode cX7_minutesOf 24 = .ok (.getfield 37, 3) := by decide +kernel
theorem dX7_minutesOf_27 : decode cX7_minutesOf 27 = .ok (.iload_n 3, 1) := by decide +kernel
theorem dX7_minutesOf_28 : decode cX7_minutesOf 28 = .ok (.iaload, 1) := by decide +kernel
theorem dX7_minutesOf_29 : decode cX7_minutesOf 29 = .ok (.iadd, 1) := by decide +kernel
theorem dX7_minutesOf_30 : decode cX7_minutesOf 30 = .ok (.istore_n 2, 1) := by decide +kernel
theorem dX7_minutesOf_31 : decode cX7_minutesOf 31 = .ok (.iinc 3 1, 3) := by decide +kernel
theorem dX7_minutesOf_34 : decode cX7_minutesOf 34 = .ok (.goto (-27), 3) := by decide +kernel
theorem dX7_minutesOf_37 : decode cX7_minutesOf 37 = .ok (.iload_n 2, 1) := by decide +kernel
theorem dX7_minutesOf_38 : decode cX7_minutesOf 38 = .ok (.ireturn, 1) := by decide +kernel
set_option maxRecDepth 20000 in
theorem ggX7_homeBy_X7_doesHold : GoodIn wsX7_homeBy wsX7_doesHold := goodIn_r _ [5, 6, 7, 8, 9, 4, 10, 11, 12, 13, 14, 15, 16, 17, 18, 19, 20, 21, 22, 23, 24, 25, 26, 27, 28, 29, 30, 31, 32, 33, 34, 35, 36, 37, 38, 39, 40, 41, 42, 43, 44, 45, 46, 47, 48, 49, 50, 51, 52, 53, 54, 55, 56, 57, 58, 59, 60, 61, 62, 63, 64, 65, 66, 67, 68, 69, 70, 71, 72, 73, 74, 75, 76, 82, 83, 84, 85, 86, 87, 88, 89, 90, 91, 92, 93, 94, 95, 96, 97, 98, 99, 100, 101, 102, 103, 104, 105, 106, 107, 108, 109, 110] (by decide +kernel) (by decide +kernel)
set_option maxRecDepth 20000 in
theorem gX7_homeBy_X7_doesHold : GoodIn wsX7_homeBy (wsV RX7 221 RX7 yX7_doesHold wsX7_doesHold) := goodIn_app (goodIn_of _ (by decide +kernel)) ggX7_homeBy_X7_doesHold
set_option maxRecDepth 20000 in
theorem ggX7_homeBy_X7_minutesOf : GoodIn wsX7_homeBy wsX7_minutesOf := goodIn_r _ [80, 12, 81, 82, 83, 84, 85, 86, 87, 88, 89, 90, 91, 92, 93, 94, 95, 96, 97, 98, 99, 100, 101, 102, 103, 104, 105, 106, 107, 108, 109, 110] (by decide +kernel) (by decide +kernel)
set_option maxRecDepth 20000 in
theorem gX7_homeBy_X7_minutesOf : GoodIn wsX7_homeBy (wsV RX7 230 RX7 yX7_minutesOf wsX7_minutesOf) := goodIn_app (goodIn_of _ (by decide +kernel)) ggX7_homeBy_X7_minutesOf
theorem dX7_homeBy_0 : decode cX7_homeBy 0 = .ok (.aload_n 0, 1) := by decide +kernel
theorem dX7_homeBy_1 : decode cX7_homeBy 1 = .ok (.iload_n 1, 1) := by decide +kernel
theorem dX7_homeBy_2 : decode cX7_homeBy 2 = .ok (.invokevirtual 221, 3) := by decide +kernel
theorem dX7_homeBy_5 : decode cX7_homeBy 5 = .ok (.ifCond .eq 11, 3) := by decide +kernel
theorem dX7_homeBy_8 : decode cX7_homeBy 8 = .ok (.aload_n 0, 1) := by decide +kernel
theorem dX7_homeBy_9 : decode cX7_homeBy 9 = .ok (.iload_n 1, 1) := by decide +kernel
theorem dX7_homeBy_10 : decode cX7_homeBy 10 = .ok (.invokevirtual 230, 3) := by decide +kernel
theorem dX7_homeBy_13 : decode cX7_homeBy 13 = .ok (.goto 5, 3) := by decide +kernel
theorem dX7_homeBy_16 : decode cX7_homeBy 16 = .ok (.bipush (-9), 2) := by decide +kernel
theorem dX7_homeBy_18 : decode cX7_homeBy 18 = .ok (.ireturn, 1) := by decide +kernel
set_option maxRecDepth 20000 in
theorem ggX7_home_X7_isWay : GoodIn wsX7_home wsX7_isWay := goodIn_r _ [4] (by decide +kernel) (by decide +kernel)
set_option maxRecDepth 20000 in
theorem gX7_home_X7_isWay : GoodIn wsX7_home (va_wsS RX7 71 yX7_isWay wsX7_isWay) := goodIn_app (goodIn_of _ (by decide +kernel)) ggX7_home_X7_isWay
set_option maxRecDepth 20000 in
theorem ggX7_home_X7_homeBy : GoodIn wsX7_home wsX7_homeBy := goodIn_r _ [8, 9, 10, 11, 3, 12, 13, 14, 15, 16, 17, 18, 19, 20, 21, 22, 23, 24, 25, 26, 27, 28, 29, 30, 31, 32, 33, 34, 35, 36, 37, 38, 39, 40, 41, 42, 43, 44, 45, 46, 47, 48, 49, 50, 51, 52, 53, 54, 55, 56, 57, 58, 59, 60, 61, 62, 63, 64, 65, 66, 67, 68, 69, 70, 71, 72, 73, 74, 75, 76, 77, 78, 79, 80, 81, 82, 83, 84, 85, 86, 87, 88, 94, 95, 96, 97, 98, 99, 100, 101, 102, 103, 104, 105, 106, 107, 108, 109, 110, 111, 112, 113, 114, 115, 116, 117, 118, 119, 120, 121, 122] (by decide +kernel) (by decide +kernel)
set_option maxRecDepth 20000 in
theorem gX7_home_X7_homeBy : GoodIn wsX7_home (wsV RX7 233 RX7 yX7_homeBy wsX7_homeBy) := goodIn_app (goodIn_of _ (by decide +kernel)) ggX7_home_X7_homeBy
set_option maxRecDepth 20000 in
theorem ggX7_home_X7_no : GoodIn wsX7_home wsX7_no := goodIn_r _ [92, 93, 94, 95, 96, 97, 98, 99, 100, 101, 102, 103, 104, 105, 106, 107, 108, 109, 110, 111, 112, 113, 114, 115, 116, 117, 118, 119, 120, 121, 122] (by decide +kernel) (by decide +kernel)
set_option maxRecDepth 20000 in
theorem gX7_home_X7_no : GoodIn wsX7_home (wsV RX7 82 RX7 yX7_no wsX7_no) := goodIn_app (goodIn_of _ (by decide +kernel)) ggX7_home_X7_no
theorem dX7_home_0 : decode cX7_home 0 = .ok (.iload_n 1, 1) := by decide +kernel
theorem dX7_home_1 : decode cX7_home 1 = .ok (.invokestatic 71, 3) := by decide +kernel
theorem dX7_home_4 : decode cX7_home 4 = .ok (.ifCond .eq 11, 3) := by decide +kernel
theorem dX7_home_7 : decode cX7_home 7 = .ok (.aload_n 0, 1) := by decide +kernel
theorem dX7_home_8 : decode cX7_home 8 = .ok (.iload_n 1, 1) := by decide +kernel
theorem dX7_home_9 : decode cX7_home 9 = .ok (.invokevirtual 233, 3) := by decide +kernel
theorem dX7_home_12 : decode cX7_home 12 = .ok (.goto 8, 3) := by decide +kernel
theorem dX7_home_15 : decode cX7_home 15 = .ok (.aload_n 0, 1) := by decide +kernel
theorem dX7_home_16 : decode cX7_home 16 = .ok (.iconst (-1), 1) := by decide +kernel
theorem dX7_home_17 : decode cX7_home 17 = .ok (.invokevirtual 82, 3) := by decide +kernel
theorem dX7_home_20 : decode cX7_home 20 = .ok (.ireturn, 1) := by decide +kernel
set_option maxRecDepth 20000 in
theorem ggX7_which_X7_homeBy : GoodIn wsX7_which wsX7_homeBy := goodIn_r _ [5, 6, 7, 8, 4, 9, 10, 11, 12, 13, 14, 15, 16, 17, 18, 19, 20, 21, 22, 23, 24, 25, 26, 27, 28, 29, 30, 31, 32, 33, 34, 35, 36, 37, 38, 39, 40, 41, 42, 43, 44, 45, 46, 47, 48, 49, 50, 51, 52, 53, 54, 55, 56, 57, 58, 59, 60, 61, 62, 63, 64, 65, 66, 67, 68, 69, 70, 71, 72, 73, 74, 75, 76, 77, 78, 79, 80, 81, 82, 83, 84, 85, 86, 87, 88, 89, 90, 91, 92, 93, 94, 95, 96, 97, 98, 99, 100, 101, 102, 103, 104, 105, 106, 107, 108, 109, 110, 111, 112, 113, 114] (by decide +kernel) (by decide +kernel)
set_option maxRecDepth 20000 in
theorem gX7_which_X7_homeBy : GoodIn wsX7_which (wsV RX7 233 RX7 yX7_homeBy wsX7_homeBy) := goodIn_app (goodIn_of _ (by decide +kernel)) ggX7_which_X7_homeBy
theorem dX7_which_0 : decode cX7_which 0 = .ok (.aload_n 0, 1) := by decide +kernel
theorem dX7_which_1 : decode cX7_which 1 = .ok (.iconst 0, 1) := by decide +kernel
theorem dX7_which_2 : decode cX7_which 2 = .ok (.invokevirtual 233, 3) := by decide +kernel
theorem dX7_which_5 : decode cX7_which 5 = .ok (.istore_n 1, 1) := by decide +kernel
theorem dX7_which_6 : decode cX7_which 6 = .ok (.aload_n 0, 1) := by decide +kernel
theorem dX7_which_7 : decode cX7_which 7 = .ok (.iconst 1, 1) := by decide +kernel
theorem dX7_which_8 : decode cX7_which 8 = .ok (.invokevirtual 233, 3) := by decide +kernel
theorem dX7_which_11 : decode cX7_which 11 = .ok (.istore_n 2, 1) := by decide +kernel
theorem dX7_which_12 : decode cX7_which 12 = .ok (.iload_n 1, 1) := by decide +kernel
theorem dX7_which_13 : decode cX7_which 13 = .ok (.ifCond .ge 12, 3) := by decide +kernel
theorem dX7_which_16 : decode cX7_which 16 = .ok (.iload_n 2, 1) := by decide +kernel
theorem dX7_which_17 : decode cX7_which 17 = .ok (.ifCond .ge 8, 3) := by decide +kernel
theorem dX7_which_20 : decode cX7_which 20 = .ok (.bipush (-9), 2) := by decide +kernel
theorem dX7_which_22 : decode cX7_which 22 = .ok (.goto 21, 3) := by decide +kernel
theorem dX7_which_25 : decode cX7_which 25 = .ok (.iload_n 1, 1) := by decide +kernel
theorem dX7_which_26 : decode cX7_which 26 = .ok (.ifCond .lt 12, 3) := by decide +kernel
theorem dX7_which_29 : decode cX7_which 29 = .ok (.iload_n 2, 1) := by decide +kernel
theorem dX7_which_30 : decode cX7_which 30 = .ok (.ifCond .lt 12, 3) := by decide +kernel
theorem dX7_which_33 : decode cX7_which 33 = .ok (.iload_n 2, 1) := by decide +kernel
theorem dX7_which_34 : decode cX7_which 34 = .ok (.iload_n 1, 1) := by decide +kernel
theorem dX7_which_35 : decode cX7_which 35 = .ok (.if_icmp .ge 7, 3) := by decide +kernel
theorem dX7_which_38 : decode cX7_which 38 = .ok (.iconst 1, 1) := by decide +kernel
theorem dX7_which_39 : decode cX7_which 39 = .ok (.goto 4, 3) := by decide +kernel
theorem dX7_which_42 : decode cX7_which 42 = .ok (.iconst 0, 1) := by decide +kernel
theorem dX7_which_43 : decode cX7_which 43 = .ok (.ireturn, 1) := by decide +kernel
set_option maxRecDepth 20000 in
theorem ggX7_pitchMinutes_X7_allSheaves : GoodIn wsX7_pitchMinutes wsX7_allSheaves := goodIn_r _ [5, 6, 7, 8, 9, 10, 11, 12, 13, 14, 15, 16, 17, 18, 19, 20, 21, 22, 23, 24, 25, 26, 27, 28, 29, 30, 31, 32, 33, 34, 35, 36] (by decide +kernel) (by decide +kernel)
set_option maxRecDepth 20000 in
theorem gX7_pitchMinutes_X7_allSheaves : GoodIn wsX7_pitchMinutes (wsV RX7 236 RX7 yX7_allSheaves wsX7_allSheaves) := goodIn_app (goodIn_of _ (by decide +kernel)) ggX7_pitchMinutes_X7_allSheaves
theorem dX7_pitchMinutes_0 : decode cX7_pitchMinutes 0 = .ok (.aload_n 0, 1) := by decide +kernel
theorem dX7_pitchMinutes_1 : decode cX7_pitchMinutes 1 = .ok (.invokevirtual 236, 3) := by decide +kernel
theorem dX7_pitchMinutes_4 : decode cX7_pitchMinutes 4 = .ok (.iload_n 1, 1) := by decide +kernel
theorem dX7_pitchMinutes_5 : decode cX7_pitchMinutes 5 = .ok (.iadd, 1) := by decide +kernel
theorem dX7_pitchMinutes_6 : decode cX7_pitchMinutes 6 = .ok (.iconst 1, 1) := by decide +kernel
theorem dX7_pitchMinutes_7 : decode cX7_pitchMinutes 7 = .ok (.isub, 1) := by decide +kernel
theorem dX7_pitchMinutes_8 : decode cX7_pitchMinutes 8 = .ok (.iload_n 1, 1) := by decide +kernel
theorem dX7_pitchMinutes_9 : decode cX7_pitchMinutes 9 = .ok (.idiv, 1) := by decide +kernel
theorem dX7_pitchMinutes_10 : decode cX7_pitchMinutes 10 = .ok (.ireturn, 1) := by decide +kernel
set_option maxRecDepth 20000 in
theorem ggX7_pitching_X7_bound : GoodIn wsX7_pitching wsX7_bound := goodIn_r _ [4] (by decide +kernel) (by decide +kernel)
set_option maxRecDepth 20000 in
theorem gX7_pitching_X7_bound : GoodIn wsX7_pitching (va_wsS RX7 75 yX7_bound wsX7_bound) := goodIn_app (goodIn_of _ (by decide +kernel)) ggX7_pitching_X7_bound
set_option maxRecDepth 20000 in
theorem ggX7_pitching_X7_no : GoodIn wsX7_pitching wsX7_no := goodIn_r _ [8, 9, 20, 21, 22, 23, 24, 25, 26, 27, 28, 29, 30, 31, 32, 33, 34, 35, 36, 37, 38, 39, 40, 41, 42, 43, 44, 45, 46, 47, 48] (by decide +kernel) (by decide +kernel)
set_option maxRecDepth 20000 in
theorem gX7_pitching_X7_no : GoodIn wsX7_pitching (wsV RX7 82 RX7 yX7_no wsX7_no) := goodIn_app (goodIn_of _ (by decide +kernel)) ggX7_pitching_X7_no
set_option maxRecDepth 20000 in
theorem ggX7_pitching_X7_pitchMinutes : GoodIn wsX7_pitching wsX7_pitchMinutes := goodIn_r _ [13, 14, 15, 16, 3, 17, 18, 19, 20, 21, 22, 23, 24, 25, 26, 27, 28, 29, 30, 31, 32, 33, 34, 35, 36, 37, 38, 39, 40, 41, 42, 43, 44, 45, 46, 47, 48] (by decide +kernel) (by decide +kernel)
set_option maxRecDepth 20000 in
theorem gX7_pitching_X7_pitchMinutes : GoodIn wsX7_pitching (wsV RX7 239 RX7 yX7_pitchMinutes wsX7_pitchMinutes) := goodIn_app (goodIn_of _ (by decide +kernel)) ggX7_pitching_X7_pitchMinutes
theorem dX7_pitching_0 : decode cX7_pitching 0 = .ok (.iload_n 1, 1) := by decide +kernel
theorem dX7_pitching_1 : decode cX7_pitching 1 = .ok (.iconst 1, 1) := by decide +kernel
theorem dX7_pitching_2 : decode cX7_pitching 2 = .ok (.bipush 9, 2) := by decide +kernel
theorem dX7_pitching_4 : decode cX7_pitching 4 = .ok (.invokestatic 75, 3) := by decide +kernel
theorem dX7_pitching_7 : decode cX7_pitching 7 = .ok (.istore_n 2, 1) := by decide +kernel
theorem dX7_pitching_8 : decode cX7_pitching 8 = .ok (.iload_n 2, 1) := by decide +kernel
theorem dX7_pitching_9 : decode cX7_pitching 9 = .ok (.ifCond .eq 11, 3) := by decide +kernel
theorem dX7_pitching_12 : decode cX7_pitching 12 = .ok (.aload_n 0, 1) := by decide +kernel
theorem dX7_pitching_13 : decode cX7_pitching 13 = .ok (.iload_n 2, 1) := by decide +kernel
theorem dX7_pitching_14 : decode cX7_pitching 14 = .ok (.invokevirtual 82, 3) := by decide +kernel
theorem dX7_pitching_17 : decode cX7_pitching 17 = .ok (.goto 8, 3) := by decide +kernel
theorem dX7_pitching_20 : decode cX7_pitching 20 = .ok (.aload_n 0, 1) := by decide +kernel
theorem dX7_pitching_21 : decode cX7_pitching 21 = .ok (.iload_n 1, 1) := by decide +kernel
theorem dX7_pitching_22 : decode cX7_pitching 22 = .ok (.invokevirtual 239, 3) := by decide +kernel
theorem dX7_pitching_25 : decode cX7_pitching 25 = .ok (.ireturn, 1) := by decide +kernel
set_option maxRecDepth 20000 in
theorem ggX7_holdsPitched_X7_passesAll : GoodIn wsX7_holdsPitched wsX7_passesAll := goodIn_r _ [9, 10, 11, 2, 12, 4, 13, 14, 3, 15, 16, 17, 18, 1, 19, 20, 21, 8, 22, 23, 24, 25, 26, 27, 93, 94, 95, 96, 97, 98, 99, 100, 101, 102, 103, 104, 105, 106, 107, 108, 109, 110, 111, 112, 113, 114, 115, 116, 117, 118, 119, 120, 121] (by decide +kernel) (by decide +kernel)
set_option maxRecDepth 20000 in
theorem gX7_holdsPitched_X7_passesAll : GoodIn wsX7_holdsPitched (wsV RX7 129 RX7 yX7_passesAll wsX7_passesAll) := goodIn_app (goodIn_of _ (by decide +kernel)) ggX7_holdsPitched_X7_passesAll
set_option maxRecDepth 20000 in
theorem ggX7_holdsPitched_X7_doesHold : GoodIn wsX7_holdsPitched wsX7_doesHold := goodIn_r _ [31, 32, 33, 34, 35, 8, 36, 37, 18, 38, 39, 40, 41, 1, 42, 43, 44, 45, 15, 46, 47, 48, 49, 16, 50, 51, 52, 53, 54, 55, 56, 57, 12, 58, 59, 60, 61, 13, 62, 63, 64, 65, 66, 67, 68, 69, 2, 70, 71, 72, 73, 3, 74, 75, 76, 77, 4, 78, 79, 80, 81, 82, 83, 84, 14, 85, 86, 87, 88, 89, 90, 91, 92, 93, 94, 95, 96, 97, 98, 99, 100, 101, 102, 103, 104, 105, 106, 107, 108, 109, 110, 111, 112, 113, 114, 115, 116, 117, 118, 119, 120, 121] (by decide +kernel) (by decide +kernel)
set_option maxRecDepth 20000 in
theorem gX7_holdsPitched_X7_doesHold : GoodIn wsX7_holdsPitched (wsV RX7 221 RX7 yX7_doesHold wsX7_doesHold) := goodIn_app (goodIn_of _ (by decide +kernel)) ggX7_holdsPitched_X7_doesHold
theorem dX7_holdsPitched_0 : decode cX7_holdsPitched 0 = .ok (.aload_n 0, 1) := by decide +kernel
theorem dX7_holdsPitched_1 : decode cX7_holdsPitched 1 = .ok (.iconst 1, 1) := by decide +kernel
theorem dX7_holdsPitched_2 : decode cX7_holdsPitched 2 = .ok (.iconst 1, 1) := by decide +kernel
theorem dX7_holdsPitched_3 : decode cX7_holdsPitched 3 = .ok (.invokevirtual 129, 3) := by decide +kernel
theorem dX7_holdsPitched_6 : decode cX7_holdsPitched 6 = .ok (.iconst 0, 1) := by decide +kernel
theorem dX7_holdsPitched_7 : decode cX7_holdsPitched 7 = .ok (.istore_n 3, 1) := by decide +kernel
theorem dX7_holdsPitched_8 : decode cX7_holdsPitched 8 = .ok (.iload_n 3, 1) := by decide +kernel
theorem dX7_holdsPitched_9 : decode cX7_holdsPitched 9 = .ok (.aload_n 0, 1) := by decide +kernel
theorem dX7_holdsPitched_10 : decode cX7_holdsPitched 10 = .ok (.getfield 67, 3) := by decide +kernel
theorem dX7_holdsPitched_13 : decode cX7_holdsPitched 13 = .ok (.if_icmp .ge 43, 3) := by decide +kernel
theorem dX7_holdsPitched_16 : decode cX7_holdsPitched 16 = .ok (.iload_n 2, 1) := by decide +kernel
theorem dX7_holdsPitched_17 : decode cX7_holdsPitched 17 = .ok (.aload_n 0, 1) := by decide +kernel
theorem dX7_holdsPitched_18 : decode cX7_holdsPitched 18 = .ok (.getfield 13, 3) := by decide +kernel
theorem dX7_holdsPitched_21 : decode cX7_holdsPitched 21 = .ok (.iconst 1, 1) := by decide +kernel
theorem dX7_holdsPitched_22 : decode cX7_holdsPitched 22 = .ok (.iaload, 1) := by decide +kernel
theorem dX7_holdsPitched_23 : decode cX7_holdsPitched 23 = .ok (.if_icmp .le 33, 3) := by decide +kernel
theorem dX7_holdsPitched_26 : decode cX7_holdsPitched 26 = .ok (.aload_n 0, 1) := by decide +kernel
theorem dX7_holdsPitched_27 : decode cX7_holdsPitched 27 = .ok (.getfield 28, 3) := by decide +kernel
theorem dX7_holdsPitched_30 : decode cX7_holdsPitched 30 = .ok (.iload_n 3, 1) := by decide +kernel
theorem dX7_holdsPitched_31 : decode cX7_holdsPitched 31 = .ok (.aload_n 0, 1) := by decide +kernel
theorem dX7_holdsPitched_32 : decode cX7_holdsPitched 32 = .ok (.getfield 19, 3) := by decide +kernel
theorem dX7_holdsPitched_35 : decode cX7_holdsPitched 35 = .ok (.iload_n 3, 1) := by decide +kernel
theorem dX7_holdsPitched_36 : decode cX7_holdsPitched 36 = .ok (.iaload, 1) := by decide +kernel
theorem dX7_holdsPitched_37 : decode cX7_holdsPitched 37 = .ok (.iload_n 2, 1) := by decide +kernel
theorem dX7_holdsPitched_38 : decode cX7_holdsPitched 38 = .ok (.aload_n 0, 1) := by decide +kernel
theorem dX7_holdsPitched_39 : decode cX7_holdsPitched 39 = .ok (.getfield 13, 3) := by decide +kernel
theorem dX7_holdsPitched_42 : decode cX7_holdsPitched 42 = .ok (.iconst 1, 1) := by decide +kernel
theorem dX7_holdsPitched_43 : decode cX7_holdsPitched 43 = .ok (.iaload, 1) := by decide +kernel
theorem dX7_holdsPitched_44 : decode cX7_holdsPitched 44 = .ok (.isub, 1) := by decide +kernel
theorem dX7_holdsPitched_45 : decode cX7_holdsPitched 45 = .ok (.imul, 1) := by decide +kernel
theorem dX7_holdsPitched_46 : decode cX7_holdsPitched 46 = .ok (.bipush 9, 2) := by decide +kernel
theorem dX7_holdsPitched_48 : decode cX7_holdsPitched 48 = .ok (.idiv, 1) := by decide +kernel
theorem dX7_holdsPitched_49 : decode cX7_holdsPitched 49 = .ok (.iastore, 1) := by decide +kernel
theorem dX7_holdsPitched_50 : decode cX7_holdsPitched 50 = .ok (.iinc 3 1, 3) := by decide +kernel
theorem dX7_holdsPitched_53 : decode cX7_holdsPitched 53 = .ok (.goto (-45), 3) := by decide +kernel
theorem dX7_holdsPitched_56 : decode cX7_holdsPitched 56 = .ok (.aload_n 0, 1) := by decide +kernel
theorem dX7_holdsPitched_57 : decode cX7_holdsPitched 57 = .ok (.iload_n 1, 1) := by decide +kernel
theorem dX7_holdsPitched_58 : decode cX7_holdsPitched 58 = .ok (.invokevirtual 221, 3) := by decide +kernel
theorem dX7_holdsPitched_61 : decode cX7_holdsPitched 61 = .ok (.istore_n 3, 1) := by decide +kernel
theorem dX7_holdsPitched_62 : decode cX7_holdsPitched 62 = .ok (.aload_n 0, 1) := by decide +kernel
theorem dX7_holdsPitched_63 : decode cX7_holdsPitched 63 = .ok (.iconst 1, 1) := by decide +kernel
theorem dX7_holdsPitched_64 : decode cX7_holdsPitched 64 = .ok (.iconst 0, 1) := by decide +kernel
theorem dX7_holdsPitched_65 : decode cX7_holdsPitched 65 = .ok (.invokevirtual 129, 3) := by decide +kernel
theorem dX7_holdsPitched_68 : decode cX7_holdsPitched 68 = .ok (.iload_n 3, 1) := by decide +kernel
theorem dX7_holdsPitched_69 : decode cX7_holdsPitched 69 = .ok (.ireturn, 1) := by decide +kernel
set_option maxRecDepth 20000 in
theorem ggX7_quick_X7_isWay : GoodIn wsX7_quick wsX7_isWay := goodIn_r _ [4] (by decide +kernel) (by decide +kernel)
set_option maxRecDepth 20000 in
theorem gX7_quick_X7_isWay : GoodIn wsX7_quick (va_wsS RX7 71 yX7_isWay wsX7_isWay) := goodIn_app (goodIn_of _ (by decide +kernel)) ggX7_quick_X7_isWay
set_option maxRecDepth 20000 in
theorem ggX7_quick_X7_no : GoodIn wsX7_quick wsX7_no := goodIn_r _ [8, 9, 113, 114, 115, 116, 117, 118, 119, 120, 121, 122, 123, 124, 125, 126, 127, 128, 129, 130, 131, 132, 133, 134, 135, 136, 137, 138, 139, 140, 141] (by decide +kernel) (by decide +kernel)
set_option maxRecDepth 20000 in
theorem gX7_quick_X7_no : GoodIn wsX7_quick (wsV RX7 82 RX7 yX7_no wsX7_no) := goodIn_app (goodIn_of _ (by decide +kernel)) ggX7_quick_X7_no
set_option maxRecDepth 20000 in
theorem ggX7_quick_X7_holdsPitched : GoodIn wsX7_quick wsX7_holdsPitched := goodIn_r _ [13, 14, 15, 16, 17, 18, 19, 20, 3, 21, 22, 23, 24, 25, 26, 27, 28, 29, 30, 31, 32, 33, 34, 35, 36, 37, 38, 39, 40, 41, 42, 43, 44, 45, 46, 47, 48, 49, 50, 51, 52, 53, 54, 55, 56, 57, 58, 59, 60, 61, 62, 63, 64, 65, 66, 67, 68, 69, 70, 71, 72, 73, 74, 75, 76, 77, 78, 79, 80, 81, 82, 83, 84, 85, 86, 87, 88, 89, 90, 91, 92, 93, 94, 95, 96, 97, 98, 99, 100, 101, 102, 103, 104, 113, 114, 115, 116, 117, 118, 119, 120, 121, 122, 123, 124, 125, 126, 127, 128, 129, 130, 131, 132, 133, 134, 135, 136, 137, 138, 139, 140, 141] (by decide +kernel) (by decide +kernel)
set_option maxRecDepth 20000 in
theorem gX7_quick_X7_holdsPitched : GoodIn wsX7_quick (wsV RX7 242 RX7 yX7_holdsPitched wsX7_holdsPitched) := goodIn_app (goodIn_of _ (by decide +kernel)) ggX7_quick_X7_holdsPitched
set_option maxRecDepth 20000 in
theorem ggX7_quick_X7_pitchMinutes : GoodIn wsX7_quick wsX7_pitchMinutes := goodIn_r _ [108, 109, 110, 111, 3, 112, 14, 17, 113, 114, 115, 116, 117, 118, 119, 120, 121, 122, 123, 124, 125, 126, 127, 128, 129, 130, 131, 132, 133, 134, 135, 136, 137, 138, 139, 140, 141] (by decide +kernel) (by decide +kernel)
set_option maxRecDepth 20000 in
theorem gX7_quick_X7_pitchMinutes : GoodIn wsX7_quick (wsV RX7 239 RX7 yX7_pitchMinutes wsX7_pitchMinutes) := goodIn_app (goodIn_of _ (by decide +kernel)) ggX7_quick_X7_pitchMinutes
theorem dX7_quick_0 : decode cX7_quick 0 = .ok (.iload_n 1, 1) := by decide +kernel
theorem dX7_quick_1 : decode cX7_quick 1 = .ok (.invokestatic 71, 3) := by decide +kernel
theorem dX7_quick_4 : decode cX7_quick 4 = .ok (.ifCond .ne 9, 3) := by decide +kernel
theorem dX7_quick_7 : decode cX7_quick 7 = .ok (.aload_n 0, 1) := by decide +kernel
theorem dX7_quick_8 : decode cX7_quick 8 = .ok (.iconst (-1), 1) := by decide +kernel
theorem dX7_quick_9 : decode cX7_quick 9 = .ok (.invokevirtual 82, 3) := by decide +kernel
theorem dX7_quick_12 : decode cX7_quick 12 = .ok (.ireturn, 1) := by decide +kernel
theorem dX7_quick_13 : decode cX7_quick 13 = .ok (.bipush (-9), 2) := by decide +kernel
theorem dX7_quick_15 : decode cX7_quick 15 = .ok (.istore_n 2, 1) := by decide +kernel
theorem dX7_quick_16 : decode cX7_quick 16 = .ok (.iconst 1, 1) := by decide +kernel
theorem dX7_quick_17 : decode cX7_quick 17 = .ok (.istore_n 3, 1) := by decide +kernel
theorem dX7_quick_18 : decode cX7_quick 18 = .ok (.iload_n 3, 1) := by decide +kernel
theorem dX7_quick_19 : decode cX7_quick 19 = .ok (.bipush 10, 2) := by decide +kernel
theorem dX7_quick_21 : decode cX7_quick 21 = .ok (.if_icmp .ge 37, 3) := by decide +kernel
theorem dX7_quick_24 : decode cX7_quick 24 = .ok (.aload_n 0, 1) := by decide +kernel
theorem dX7_quick_25 : decode cX7_quick 25 = .ok (.iload_n 1, 1) := by decide +kernel
theorem dX7_quick_26 : decode cX7_quick 26 = .ok (.iload_n 3, 1) := by decide +kernel
theorem dX7_quick_27 : decode cX7_quick 27 = .ok (.invokevirtual 242, 3) := by decide +kernel
theorem dX7_quick_30 : decode cX7_quick 30 = .ok (.ifCond .eq 22, 3) := by decide +kernel
theorem dX7_quick_33 : decode cX7_quick 33 = .ok (.iload_n 2, 1) := by decide +kernel
theorem dX7_quick_34 : decode cX7_quick 34 = .ok (.ifCond .lt 16, 3) := by decide +kernel
theorem dX7_quick_37 : decode cX7_quick 37 = .ok (.aload_n 0, 1) := by decide +kernel
theorem dX7_quick_38 : decode cX7_quick 38 = .ok (.iload_n 3, 1) := by decide +kernel
theorem dX7_quick_39 : decode cX7_quick 39 = .ok (.invokevirtual 239, 3) := by decide +kernel
theorem dX7_quick_42 : decode cX7_quick 42 = .ok (.aload_n 0, 1) := by decide +kernel
theorem dX7_quick_43 : decode cX7_quick 43 = .ok (.iload_n 2, 1) := by decide +kernel
theorem dX7_quick_44 : decode cX7_quick 44 = .ok (.invokevirtual 239, 3) := by decide +kernel
theorem dX7_quick_47 : decode cX7_quick 47 = .ok (.if_icmp .ge 5, 3) := by decide +kernel
theorem dX7_quick_50 : decode cX7_quick 50 = .ok (.iload_n 3, 1) := by decide +kernel
theorem dX7_quick_51 : decode cX7_quick 51 = .ok (.istore_n 2, 1) := by decide +kernel
theorem dX7_quick_52 : decode cX7_quick 52 = .ok (.iinc 3 1, 3) := by decide +kernel
theorem dX7_quick_55 : decode cX7_quick 55 = .ok (.goto (-37), 3) := by decide +kernel
theorem dX7_quick_58 : decode cX7_quick 58 = .ok (.iload_n 2, 1) := by decide +kernel
theorem dX7_quick_59 : decode cX7_quick 59 = .ok (.ireturn, 1) := by decide +kernel
set_option maxRecDepth 20000 in
theorem ggX7_homeSheaves_X7_pitchMinutes : GoodIn wsX7_homeSheaves wsX7_pitchMinutes := goodIn_r _ [7, 8, 9, 10, 6, 11, 12, 13, 20, 21, 22, 23, 24, 25, 26, 27, 28, 29, 30, 31, 32, 33, 34, 35, 36, 37, 38, 39, 40, 41, 42, 43, 44, 45, 46, 47, 48] (by decide +kernel) (by decide +kernel)
set_option maxRecDepth 20000 in
theorem gX7_homeSheaves_X7_pitchMinutes : GoodIn wsX7_homeSheaves (wsV RX7 239 RX7 yX7_pitchMinutes wsX7_pitchMinutes) := goodIn_app (goodIn_of _ (by decide +kernel)) ggX7_homeSheaves_X7_pitchMinutes
set_option maxRecDepth 20000 in
theorem ggX7_homeSheaves_X7_minutesOf : GoodIn wsX7_homeSheaves wsX7_minutesOf := goodIn_r _ [17, 18, 19, 20, 21, 22, 23, 24, 25, 26, 27, 28, 29, 30, 31, 32, 33, 34, 35, 36, 37, 38, 39, 40, 41, 42, 43, 44, 45, 46, 47, 48] (by decide +kernel) (by decide +kernel)
set_option maxRecDepth 20000 in
theorem gX7_homeSheaves_X7_minutesOf : GoodIn wsX7_homeSheaves (wsV RX7 230 RX7 yX7_minutesOf wsX7_minutesOf) := goodIn_app (goodIn_of _ (by decide +kernel)) ggX7_homeSheaves_X7_minutesOf
set_option maxRecDepth 20000 in
theorem ggX7_homeSheaves_X7_allSheaves : GoodIn wsX7_homeSheaves wsX7_allSheaves := goodIn_r _ [11, 12, 13, 20, 21, 22, 23, 24, 25, 26, 27, 28, 29, 30, 31, 32, 33, 34, 35, 36, 37, 38, 39, 40, 41, 42, 43, 44, 45, 46, 47, 48] (by decide +kernel) (by decide +kernel)
set_option maxRecDepth 20000 in
theorem gX7_homeSheaves_X7_allSheaves : GoodIn wsX7_homeSheaves (wsV RX7 236 RX7 yX7_allSheaves wsX7_allSheaves) := goodIn_app (goodIn_of _ (by decide +kernel)) ggX7_homeSheaves_X7_allSheaves
theorem dX7_homeSheaves_0 : decode cX7_homeSheaves 0 = .ok (.aload_n 0, 1) := by decide +kernel
theorem dX7_homeSheaves_1 : decode cX7_homeSheaves 1 = .ok (.aload_n 0, 1) := by decide +kernel
theorem dX7_homeSheaves_2 : decode cX7_homeSheaves 2 = .ok (.getfield 13, 3) := by decide +kernel
theorem dX7_homeSheaves_5 : decode cX7_homeSheaves 5 = .ok (.iconst 2, 1) := by decide +kernel
theorem dX7_homeSheaves_6 : decode cX7_homeSheaves 6 = .ok (.iaload, 1) := by decide +kernel
theorem dX7_homeSheaves_7 : decode cX7_homeSheaves 7 = .ok (.invokevirtual 239, 3) := by decide +kernel
theorem dX7_homeSheaves_10 : decode cX7_homeSheaves 10 = .ok (.istore 4, 2) := by decide +kernel
theorem dX7_homeSheaves_12 : decode cX7_homeSheaves 12 = .ok (.aload_n 0, 1) := by decide +kernel
theorem dX7_homeSheaves_13 : decode cX7_homeSheaves 13 = .ok (.iload_n 1, 1) := by decide +kernel
theorem dX7_homeSheaves_14 : decode cX7_homeSheaves 14 = .ok (.invokevirtual 230, 3) := by decide +kernel
theorem dX7_homeSheaves_17 : decode cX7_homeSheaves 17 = .ok (.istore 5, 2) := by decide +kernel
theorem dX7_homeSheaves_19 : decode cX7_homeSheaves 19 = .ok (.iconst 0, 1) := by decide +kernel
theorem dX7_homeSheaves_20 : decode cX7_homeSheaves 20 = .ok (.istore 6, 2) := by decide +kernel
theorem dX7_homeSheaves_22 : decode cX7_homeSheaves 22 = .ok (.iconst 0, 1) := by decide +kernel
theorem dX7_homeSheaves_23 : decode cX7_homeSheaves 23 = .ok (.istore 7, 2) := by decide +kernel
theorem dX7_homeSheaves_25 : decode cX7_homeSheaves 25 = .ok (.iconst 0, 1) := by decide +kernel
theorem dX7_homeSheaves_26 : decode cX7_homeSheaves 26 = .ok (.istore 8, 2) := by decide +kernel
theorem dX7_homeSheaves_28 : decode cX7_homeSheaves 28 = .ok (.iload 8, 2) := by decide +kernel
theorem dX7_homeSheaves_30 : decode cX7_homeSheaves 30 = .ok (.iconst 4, 1) := by decide +kernel
theorem dX7_homeSheaves_31 : decode cX7_homeSheaves 31 = .ok (.if_icmp .ge 17, 3) := by decide +kernel
theorem dX7_homeSheaves_34 : decode cX7_homeSheaves 34 = .ok (.aload_n 0, 1) := by decide +kernel
theorem dX7_homeSheaves_35 : decode cX7_homeSheaves 35 = .ok (.getfield 58, 3) := by decide +kernel
theorem dX7_homeSheaves_38 : decode cX7_homeSheaves 38 = .ok (.iload 8, 2) := by decide +kernel
theorem dX7_homeSheaves_40 : decode cX7_homeSheaves 40 = .ok (.iconst 0, 1) := by decide +kernel
theorem dX7_homeSheaves_41 : decode cX7_homeSheaves 41 = .ok (.iastore, 1) := by decide +kernel
theorem dX7_homeSheaves_42 : decode cX7_homeSheaves 42 = .ok (.iinc 8 1, 3) := by decide +kernel
theorem dX7_homeSheaves_45 : decode cX7_homeSheaves 45 = .ok (.goto (-17), 3) := by decide +kernel
theorem dX7_homeSheaves_48 : decode cX7_homeSheaves 48 = .ok (.iconst 0, 1) := by decide +kernel
theorem dX7_homeSheaves_49 : decode cX7_homeSheaves 49 = .ok (.istore 8, 2) := by decide +kernel
theorem dX7_homeSheaves_51 : decode cX7_homeSheaves 51 = .ok (.iconst 1, 1) := by decide +kernel
theorem dX7_homeSheaves_52 : decode cX7_homeSheaves 52 = .ok (.istore 9, 2) := by decide +kernel
theorem dX7_homeSheaves_54 : decode cX7_homeSheaves 54 = .ok (.iload 9, 2) := by decide +kernel
theorem dX7_homeSheaves_56 : decode cX7_homeSheaves 56 = .ok (.iload_n 2, 1) := by decide +kernel
theorem dX7_homeSheaves_57 : decode cX7_homeSheaves 57 = .ok (.if_icmp .ge 35, 3) := by decide +kernel
theorem dX7_homeSheaves_60 : decode cX7_homeSheaves 60 = .ok (.aload_n 0, 1) := by decide +kernel
theorem dX7_homeSheaves_61 : decode cX7_homeSheaves 61 = .ok (.getfield 58, 3) := by decide +kernel
theorem dX7_homeSheaves_64 : decode cX7_homeSheaves 64 = .ok (.iload 9, 2) := by decide +kernel
theorem dX7_homeSheaves_66 : decode cX7_homeSheaves 66 = .ok (.iaload, 1) := by decide +kernel
theorem dX7_homeSheaves_67 : decode cX7_homeSheaves 67 = .ok (.aload_n 0, 1) := by decide +kernel
theorem dX7_homeSheaves_68 : decode cX7_homeSheaves 68 = .ok (.getfield 58, 3) := by decide +kernel
theorem dX7_homeSheaves_71 : decode cX7_homeSheaves 71 = .ok (.iload 8, 2) := by decide +kernel
theorem dX7_homeSheaves_73 : decode cX7_homeSheaves 73 = .ok (.iaload, 1) := by decide +kernel
theorem dX7_homeSheaves_74 : decode cX7_homeSheaves 74 = .ok (.if_icmp .ge 8, 3) := by decide +kernel
theorem dX7_homeSheaves_77 : decode cX7_homeSheaves 77 = .ok (.iload 9, 2) := by decide +kernel
theorem dX7_homeSheaves_79 : decode cX7_homeSheaves 79 = .ok (.goto 5, 3) := by decide +kernel
theorem dX7_homeSheaves_82 : decode cX7_homeSheaves 82 = .ok (.iload 8, 2) := by decide +kernel
theorem dX7_homeSheaves_84 : decode cX7_homeSheaves 84 = .ok (.istore 8, 2) := by decide +kernel
theorem dX7_homeSheaves_86 : decode cX7_homeSheaves 86 = .ok (.iinc 9 1, 3) := by decide +kernel
theorem dX7_homeSheaves_89 : decode cX7_homeSheaves 89 = .ok (.goto (-35), 3) := by decide +kernel
theorem dX7_homeSheaves_92 : decode cX7_homeSheaves 92 = .ok (.aload_n 0, 1) := by decide +kernel
theorem dX7_homeSheaves_93 : decode cX7_homeSheaves 93 = .ok (.getfield 58, 3) := by decide +kernel
theorem dX7_homeSheaves_96 : decode cX7_homeSheaves 96 = .ok (.iload 8, 2) := by decide +kernel
theorem dX7_homeSheaves_98 : decode cX7_homeSheaves 98 = .ok (.iaload, 1) := by decide +kernel
theorem dX7_homeSheaves_99 : decode cX7_homeSheaves 99 = .ok (.iload 6, 2) := by decide +kernel
theorem dX7_homeSheaves_101 : decode cX7_homeSheaves 101 = .ok (.if_icmp .le 13, 3) := by decide +kernel
theorem dX7_homeSheaves_104 : decode cX7_homeSheaves 104 = .ok (.aload_n 0, 1) := by decide +kernel
theorem dX7_homeSheaves_105 : decode cX7_homeSheaves 105 = .ok (.getfield 58, 3) := by decide +kernel
theorem dX7_homeSheaves_108 : decode cX7_homeSheaves 108 = .ok (.iload 8, 2) := by decide +kernel
theorem dX7_homeSheaves_110 : decode cX7_homeSheaves 110 = .ok (.iaload, 1) := by decide +kernel
theorem dX7_homeSheaves_111 : decode cX7_homeSheaves 111 = .ok (.goto 5, 3) := by decide +kernel
theorem dX7_homeSheaves_114 : decode cX7_homeSheaves 114 = .ok (.iload 6, 2) := by decide +kernel
theorem dX7_homeSheaves_116 : decode cX7_homeSheaves 116 = .ok (.istore 9, 2) := by decide +kernel
theorem dX7_homeSheaves_118 : decode cX7_homeSheaves 118 = .ok (.iload 9, 2) := by decide +kernel
theorem dX7_homeSheaves_120 : decode cX7_homeSheaves 120 = .ok (.iload 4, 2) := by decide +kernel
theorem dX7_homeSheaves_122 : decode cX7_homeSheaves 122 = .ok (.iadd, 1) := by decide +kernel
theorem dX7_homeSheaves_123 : decode cX7_homeSheaves 123 = .ok (.istore 6, 2) := by decide +kernel
theorem dX7_homeSheaves_125 : decode cX7_homeSheaves 125 = .ok (.iload 6, 2) := by decide +kernel
theorem dX7_homeSheaves_127 : decode cX7_homeSheaves 127 = .ok (.iload 5, 2) := by decide +kernel
theorem dX7_homeSheaves_129 : decode cX7_homeSheaves 129 = .ok (.iadd, 1) := by decide +kernel
theorem dX7_homeSheaves_130 : decode cX7_homeSheaves 130 = .ok (.iload 4, 2) := by decide +kernel
theorem dX7_homeSheaves_132 : decode cX7_homeSheaves 132 = .ok (.iadd, 1) := by decide +kernel
theorem dX7_homeSheaves_133 : decode cX7_homeSheaves 133 = .ok (.istore 10, 2) := by decide +kernel
theorem dX7_homeSheaves_135 : decode cX7_homeSheaves 135 = .ok (.iload 10, 2) := by decide +kernel
theorem dX7_homeSheaves_137 : decode cX7_homeSheaves 137 = .ok (.iload_n 3, 1) := by decide +kernel
theorem dX7_homeSheaves_138 : decode cX7_homeSheaves 138 = .ok (.if_icmp .le 26, 3) := by decide +kernel
theorem dX7_homeSheaves_141 : decode cX7_homeSheaves 141 = .ok (.iload 7, 2) := by decide +kernel
theorem dX7_homeSheaves_143 : decode cX7_homeSheaves 143 = .ok (.aload_n 0, 1) := by decide +kernel
theorem dX7_homeSheaves_144 : decode cX7_homeSheaves 144 = .ok (.getfield 13, 3) := by decide +kernel
theorem dX7_homeSheaves_147 : decode cX7_homeSheaves 147 = .ok (.iconst 3, 1) := by decide +kernel
theorem dX7_homeSheaves_148 : decode cX7_homeSheaves 148 = .ok (.iaload, 1) := by decide +kernel
theorem dX7_homeSheaves_149 : decode cX7_homeSheaves 149 = .ok (.if_icmp .ge 8, 3) := by decide +kernel
theorem dX7_homeSheaves_152 : decode cX7_homeSheaves 152 = .ok (.iload 7, 2) := by decide +kernel
theorem dX7_homeSheaves_154 : decode cX7_homeSheaves 154 = .ok (.goto 9, 3) := by decide +kernel
theorem dX7_homeSheaves_157 : decode cX7_homeSheaves 157 = .ok (.aload_n 0, 1) := by decide +kernel
theorem dX7_homeSheaves_158 : decode cX7_homeSheaves 158 = .ok (.getfield 13, 3) := by decide +kernel
theorem dX7_homeSheaves_161 : decode cX7_homeSheaves 161 = .ok (.iconst 3, 1) := by decide +kernel
theorem dX7_homeSheaves_162 : decode cX7_homeSheaves 162 = .ok (.iaload, 1) := by decide +kernel
theorem dX7_homeSheaves_163 : decode cX7_homeSheaves 163 = .ok (.ireturn, 1) := by decide +kernel
theorem dX7_homeSheaves_164 : decode cX7_homeSheaves 164 = .ok (.iload 7, 2) := by decide +kernel
theorem dX7_homeSheaves_166 : decode cX7_homeSheaves 166 = .ok (.aload_n 0, 1) := by decide +kernel
theorem dX7_homeSheaves_167 : decode cX7_homeSheaves 167 = .ok (.invokevirtual 236, 3) := by decide +kernel
theorem dX7_homeSheaves_170 : decode cX7_homeSheaves 170 = .ok (.iadd, 1) := by decide +kernel
theorem dX7_homeSheaves_171 : decode cX7_homeSheaves 171 = .ok (.istore 7, 2) := by decide +kernel
theorem dX7_homeSheaves_173 : decode cX7_homeSheaves 173 = .ok (.aload_n 0, 1) := by decide +kernel
theorem dX7_homeSheaves_174 : decode cX7_homeSheaves 174 = .ok (.getfield 58, 3) := by decide +kernel
theorem dX7_homeSheaves_177 : decode cX7_homeSheaves 177 = .ok (.iload 8, 2) := by decide +kernel
theorem dX7_homeSheaves_179 : decode cX7_homeSheaves 179 = .ok (.iload 10, 2) := by decide +kernel
theorem dX7_homeSheaves_181 : decode cX7_homeSheaves 181 = .ok (.iload 5, 2) := by decide +kernel
theorem dX7_homeSheaves_183 : decode cX7_homeSheaves 183 = .ok (.iadd, 1) := by decide +kernel
theorem dX7_homeSheaves_184 : decode cX7_homeSheaves 184 = .ok (.iastore, 1) := by decide +kernel
theorem dX7_homeSheaves_185 : decode cX7_homeSheaves 185 = .ok (.goto (-137), 3) := by decide +kernel
set_option maxRecDepth 20000 in
theorem ggX7_notRounds_X7_isWay : GoodIn wsX7_notRounds wsX7_isWay := goodIn_r _ [5] (by decide +kernel) (by decide +kernel)
set_option maxRecDepth 20000 in
theorem gX7_notRounds_X7_isWay : GoodIn wsX7_notRounds (va_wsS RX7 71 yX7_isWay wsX7_isWay) := goodIn_app (goodIn_of _ (by decide +kernel)) ggX7_notRounds_X7_isWay
set_option maxRecDepth 20000 in
theorem ggX7_notRounds_X7_doesHold : GoodIn wsX7_notRounds wsX7_doesHold := goodIn_r _ [9, 10, 11, 12, 13, 4, 14, 15, 16, 17, 18, 19, 20, 1, 21, 22, 23, 24, 25, 26, 27, 28, 29, 30, 31, 32, 33, 34, 35, 36, 37, 38, 39, 40, 41, 42, 43, 44, 45, 46, 47, 48, 49, 50, 51, 52, 53, 54, 55, 56, 57, 58, 59, 60, 61, 62, 63, 64, 65, 66, 67, 68, 69, 70, 71, 72, 73, 74, 75, 76, 77, 78, 79, 80, 81, 82, 83, 84, 85, 86, 87, 88, 89, 90, 91, 92, 93, 94, 95, 96, 97, 98, 99, 100, 101, 102, 103, 104, 105, 106, 107, 108] (by decide +kernel) (by decide +kernel)
set_option maxRecDepth 20000 in
theorem gX7_notRounds_X7_doesHold : GoodIn wsX7_notRounds (wsV RX7 221 RX7 yX7_doesHold wsX7_doesHold) := goodIn_app (goodIn_of _ (by decide +kernel)) ggX7_notRounds_X7_doesHold
theorem dX7_notRounds_0 : decode cX7_notRounds 0 = .ok (.iload_n 1, 1) := by decide +kernel
theorem dX7_notRounds_1 : decode cX7_notRounds 1 = .ok (.invokestatic 71, 3) := by decide +kernel
theorem dX7_notRounds_4 : decode cX7_notRounds 4 = .ok (.ifCond .ne 5, 3) := by decide +kernel
theorem dX7_notRounds_7 : decode cX7_notRounds 7 = .ok (.iconst (-1), 1) := by decide +kernel
theorem dX7_notRounds_8 : decode cX7_notRounds 8 = .ok (.ireturn, 1) := by decide +kernel
theorem dX7_notRounds_9 : decode cX7_notRounds 9 = .ok (.iload_n 2, 1) := by decide +kernel
theorem dX7_notRounds_10 : decode cX7_notRounds 10 = .ok (.iconst 1, 1) := by decide +kernel
theorem dX7_notRounds_11 : decode cX7_notRounds 11 = .ok (.if_icmp .lt 7, 3) := by decide +kernel
theorem dX7_notRounds_14 : decode cX7_notRounds 14 = .ok (.iload_n 3, 1) := by decide +kernel
theorem dX7_notRounds_15 : decode cX7_notRounds 15 = .ok (.ifCond .ge 6, 3) := by decide +kernel
theorem dX7_notRounds_18 : decode cX7_notRounds 18 = .ok (.bipush (-4), 2) := by decide +kernel
theorem dX7_notRounds_20 : decode cX7_notRounds 20 = .ok (.ireturn, 1) := by decide +kernel
theorem dX7_notRounds_21 : decode cX7_notRounds 21 = .ok (.iload_n 2, 1) := by decide +kernel
theorem dX7_notRounds_22 : decode cX7_notRounds 22 = .ok (.iload 4, 2) := by decide +kernel
theorem dX7_notRounds_24 : decode cX7_notRounds 24 = .ok (.if_icmp .gt 10, 3) := by decide +kernel
theorem dX7_notRounds_27 : decode cX7_notRounds 27 = .ok (.iload_n 3, 1) := by decide +kernel
theorem dX7_notRounds_28 : decode cX7_notRounds 28 = .ok (.sipush 999, 3) := by decide +kernel
theorem dX7_notRounds_31 : decode cX7_notRounds 31 = .ok (.if_icmp .le 6, 3) := by decide +kernel
theorem dX7_notRounds_34 : decode cX7_notRounds 34 = .ok (.bipush (-6), 2) := by decide +kernel
theorem dX7_notRounds_36 : decode cX7_notRounds 36 = .ok (.ireturn, 1) := by decide +kernel
theorem dX7_notRounds_37 : decode cX7_notRounds 37 = .ok (.aload_n 0, 1) := by decide +kernel
theorem dX7_notRounds_38 : decode cX7_notRounds 38 = .ok (.getfield 67, 3) := by decide +kernel
theorem dX7_notRounds_41 : decode cX7_notRounds 41 = .ok (.ifCond .eq 11, 3) := by decide +kernel
theorem dX7_notRounds_44 : decode cX7_notRounds 44 = .ok (.aload_n 0, 1) := by decide +kernel
theorem dX7_notRounds_45 : decode cX7_notRounds 45 = .ok (.iload_n 1, 1) := by decide +kernel
theorem dX7_notRounds_46 : decode cX7_notRounds 46 = .ok (.invokevirtual 221, 3) := by decide +kernel
theorem dX7_notRounds_49 : decode cX7_notRounds 49 = .ok (.ifCond .ne 8, 3) := by decide +kernel
theorem dX7_notRounds_52 : decode cX7_notRounds 52 = .ok (.bipush (-3), 2) := by decide +kernel
theorem dX7_notRounds_54 : decode cX7_notRounds 54 = .ok (.goto 4, 3) := by decide +kernel
theorem dX7_notRounds_57 : decode cX7_notRounds 57 = .ok (.iconst 0, 1) := by decide +kernel
theorem dX7_notRounds_58 : decode cX7_notRounds 58 = .ok (.ireturn, 1) := by decide +kernel
set_option maxRecDepth 20000 in
theorem ggX7_rounds_X7_notRounds : GoodIn wsX7_rounds wsX7_notRounds := goodIn_r _ [5, 6, 7, 8, 4, 9, 10, 11, 12, 13, 14, 15, 16, 17, 18, 19, 20, 21, 22, 23, 24, 25, 26, 27, 28, 29, 30, 31, 32, 33, 34, 35, 36, 37, 38, 39, 40, 41, 42, 43, 44, 45, 46, 47, 48, 49, 50, 51, 52, 53, 54, 55, 56, 57, 58, 59, 60, 61, 62, 63, 64, 65, 66, 67, 68, 69, 70, 71, 72, 73, 74, 75, 76, 77, 78, 79, 80, 81, 82, 83, 107, 108, 109, 110, 111, 112, 113, 114, 115, 116, 117, 118, 119, 120, 121, 122, 123, 124, 125, 126, 127, 128, 129, 130, 131, 132, 133, 134, 135] (by decide +kernel) (by decide +kernel)
set_option maxRecDepth 20000 in
theorem gX7_rounds_X7_notRounds : GoodIn wsX7_rounds (wsV RX7 245 RX7 yX7_notRounds wsX7_notRounds) := goodIn_app (goodIn_of _ (by decide +kernel)) ggX7_rounds_X7_notRounds
set_option maxRecDepth 20000 in
theorem ggX7_rounds_X7_no : GoodIn wsX7_rounds wsX7_no := goodIn_r _ [87, 88, 107, 108, 109, 110, 111, 112, 113, 114, 115, 116, 117, 118, 119, 120, 121, 122, 123, 124, 125, 126, 127, 128, 129, 130, 131, 132, 133, 134, 135] (by decide +kernel) (by decide +kernel)
set_option maxRecDepth 20000 in
theorem gX7_rounds_X7_no : GoodIn wsX7_rounds (wsV RX7 82 RX7 yX7_no wsX7_no) := goodIn_app (goodIn_of _ (by decide +kernel)) ggX7_rounds_X7_no
set_option maxRecDepth 20000 in
theorem ggX7_rounds_X7_homeSheaves : GoodIn wsX7_rounds wsX7_homeSheaves := goodIn_r _ [92, 57, 93, 94, 95, 96, 4, 97, 98, 99, 100, 101, 6, 67, 102, 103, 104, 105, 20, 106, 107, 108, 109, 110, 111, 112, 113, 114, 115, 116, 117, 118, 119, 120, 121, 122, 123, 124, 125, 126, 127, 128, 129, 130, 131, 132, 133, 134, 135] (by decide +kernel) (by decide +kernel)
set_option maxRecDepth 20000 in
theorem gX7_rounds_X7_homeSheaves : GoodIn wsX7_rounds (wsV RX7 249 RX7 yX7_homeSheaves wsX7_homeSheaves) := goodIn_app (goodIn_of _ (by decide +kernel)) ggX7_rounds_X7_homeSheaves
theorem dX7_rounds_0 : decode cX7_rounds 0 = .ok (.aload_n 0, 1) := by decide +kernel
theorem dX7_rounds_1 : decode cX7_rounds 1 = .ok (.iload_n 1, 1) := by decide +kernel
theorem dX7_rounds_2 : decode cX7_rounds 2 = .ok (.iload_n 2, 1) := by decide +kernel
theorem dX7_rounds_3 : decode cX7_rounds 3 = .ok (.iload_n 3, 1) := by decide +kernel
theorem dX7_rounds_4 : decode cX7_rounds 4 = .ok (.iconst 4, 1) := by decide +kernel
theorem dX7_rounds_5 : decode cX7_rounds 5 = .ok (.invokevirtual 245, 3) := by decide +kernel
theorem dX7_rounds_8 : decode cX7_rounds 8 = .ok (.istore 4, 2) := by decide +kernel
theorem dX7_rounds_10 : decode cX7_rounds 10 = .ok (.iload 4, 2) := by decide +kernel
theorem dX7_rounds_12 : decode cX7_rounds 12 = .ok (.ifCond .eq 12, 3) := by decide +kernel
theorem dX7_rounds_15 : decode cX7_rounds 15 = .ok (.aload_n 0, 1) := by decide +kernel
theorem dX7_rounds_16 : decode cX7_rounds 16 = .ok (.iload 4, 2) := by decide +kernel
theorem dX7_rounds_18 : decode cX7_rounds 18 = .ok (.invokevirtual 82, 3) := by decide +kernel
theorem dX7_rounds_21 : decode cX7_rounds 21 = .ok (.goto 10, 3) := by decide +kernel
theorem dX7_rounds_24 : decode cX7_rounds 24 = .ok (.aload_n 0, 1) := by decide +kernel
theorem dX7_rounds_25 : decode cX7_rounds 25 = .ok (.iload_n 1, 1) := by decide +kernel
theorem dX7_rounds_26 : decode cX7_rounds 26 = .ok (.iload_n 2, 1) := by decide +kernel
theorem dX7_rounds_27 : decode cX7_rounds 27 = .ok (.iload_n 3, 1) := by decide +kernel
theorem dX7_rounds_28 : decode cX7_rounds 28 = .ok (.invokevirtual 249, 3) := by decide +kernel
theorem dX7_rounds_31 : decode cX7_rounds 31 = .ok (.ireturn, 1) := by decide +kernel
set_option maxRecDepth 20000 in
theorem ggX7_worth_X7_notRounds : GoodIn wsX7_worth wsX7_notRounds := goodIn_r _ [5, 6, 7, 8, 4, 9, 10, 11, 12, 13, 14, 15, 16, 17, 18, 19, 20, 21, 22, 23, 24, 25, 26, 27, 28, 29, 30, 31, 32, 33, 34, 35, 36, 37, 38, 39, 40, 41, 42, 43, 44, 45, 46, 47, 48, 49, 50, 51, 52, 53, 54, 55, 56, 57, 58, 59, 60, 61, 62, 63, 64, 65, 66, 67, 68, 69, 70, 71, 72, 73, 74, 75, 76, 77, 78, 79, 80, 81, 82, 83, 108, 109, 110, 111, 112, 113, 114, 115, 116, 117, 118, 119, 120, 121, 122, 123, 124, 125, 126, 127, 128, 129, 130, 131, 132, 133, 134, 135, 136] (by decide +kernel) (by decide +kernel)
set_option maxRecDepth 20000 in
theorem gX7_worth_X7_notRounds : GoodIn wsX7_worth (wsV RX7 245 RX7 yX7_notRounds wsX7_notRounds) := goodIn_app (goodIn_of _ (by decide +kernel)) ggX7_worth_X7_notRounds
set_option maxRecDepth 20000 in
theorem ggX7_worth_X7_lower : GoodIn wsX7_worth wsX7_lower := goodIn_r _ [87, 88, 89, 108, 109, 110, 111, 112, 113, 114, 115, 116, 117, 118, 119, 120, 121, 122, 123, 124, 125, 126, 127, 128, 129, 130, 131, 132, 133, 134, 135, 136] (by decide +kernel) (by decide +kernel)
set_option maxRecDepth 20000 in
theorem gX7_worth_X7_lower : GoodIn wsX7_worth (wsV RX7 171 RX7 yX7_lower wsX7_lower) := goodIn_app (goodIn_of _ (by decide +kernel)) ggX7_worth_X7_lower
set_option maxRecDepth 20000 in
theorem ggX7_worth_X7_homeSheaves : GoodIn wsX7_worth wsX7_homeSheaves := goodIn_r _ [93, 57, 94, 95, 96, 97, 4, 98, 99, 100, 101, 102, 6, 67, 103, 104, 105, 106, 20, 107, 108, 109, 110, 111, 112, 113, 114, 115, 116, 117, 118, 119, 120, 121, 122, 123, 124, 125, 126, 127, 128, 129, 130, 131, 132, 133, 134, 135, 136] (by decide +kernel) (by decide +kernel)
set_option maxRecDepth 20000 in
theorem gX7_worth_X7_homeSheaves : GoodIn wsX7_worth (wsV RX7 249 RX7 yX7_homeSheaves wsX7_homeSheaves) := goodIn_app (goodIn_of _ (by decide +kernel)) ggX7_worth_X7_homeSheaves
theorem dX7_worth_0 : decode cX7_worth 0 = .ok (.aload_n 0, 1) := by decide +kernel
theorem dX7_worth_1 : decode cX7_worth 1 = .ok (.iload_n 1, 1) := by decide +kernel
theorem dX7_worth_2 : decode cX7_worth 2 = .ok (.iload_n 2, 1) := by decide +kernel
theorem dX7_worth_3 : decode cX7_worth 3 = .ok (.iload_n 3, 1) := by decide +kernel
theorem dX7_worth_4 : decode cX7_worth 4 = .ok (.iconst 3, 1) := by decide +kernel
theorem dX7_worth_5 : decode cX7_worth 5 = .ok (.invokevirtual 245, 3) := by decide +kernel
theorem dX7_worth_8 : decode cX7_worth 8 = .ok (.istore 4, 2) := by decide +kernel
theorem dX7_worth_10 : decode cX7_worth 10 = .ok (.iload 4, 2) := by decide +kernel
theorem dX7_worth_12 : decode cX7_worth 12 = .ok (.ifCond .eq 12, 3) := by decide +kernel
theorem dX7_worth_15 : decode cX7_worth 15 = .ok (.aload_n 0, 1) := by decide +kernel
theorem dX7_worth_16 : decode cX7_worth 16 = .ok (.iload 4, 2) := by decide +kernel
theorem dX7_worth_18 : decode cX7_worth 18 = .ok (.invokevirtual 171, 3) := by decide +kernel
theorem dX7_worth_21 : decode cX7_worth 21 = .ok (.goto 20, 3) := by decide +kernel
theorem dX7_worth_24 : decode cX7_worth 24 = .ok (.aload_n 0, 1) := by decide +kernel
theorem dX7_worth_25 : decode cX7_worth 25 = .ok (.iload_n 1, 1) := by decide +kernel
theorem dX7_worth_26 : decode cX7_worth 26 = .ok (.iload_n 2, 1) := by decide +kernel
theorem dX7_worth_27 : decode cX7_worth 27 = .ok (.iconst 1, 1) := by decide +kernel
theorem dX7_worth_28 : decode cX7_worth 28 = .ok (.iadd, 1) := by decide +kernel
theorem dX7_worth_29 : decode cX7_worth 29 = .ok (.iload_n 3, 1) := by decide +kernel
theorem dX7_worth_30 : decode cX7_worth 30 = .ok (.invokevirtual 249, 3) := by decide +kernel
theorem dX7_worth_33 : decode cX7_worth 33 = .ok (.aload_n 0, 1) := by decide +kernel
theorem dX7_worth_34 : decode cX7_worth 34 = .ok (.iload_n 1, 1) := by decide +kernel
theorem dX7_worth_35 : decode cX7_worth 35 = .ok (.iload_n 2, 1) := by decide +kernel
theorem dX7_worth_36 : decode cX7_worth 36 = .ok (.iload_n 3, 1) := by decide +kernel
theorem dX7_worth_37 : decode cX7_worth 37 = .ok (.invokevirtual 249, 3) := by decide +kernel
theorem dX7_worth_40 : decode cX7_worth 40 = .ok (.isub, 1) := by decide +kernel
theorem dX7_worth_41 : decode cX7_worth 41 = .ok (.ireturn, 1) := by decide +kernel
theorem dX7_divisor_0 : decode cX7_divisor 0 = .ok (.lload_n 0, 1) := by decide +kernel
theorem dX7_divisor_1 : decode cX7_divisor 1 = .ok (.lstore 4, 2) := by decide +kernel
theorem dX7_divisor_3 : decode cX7_divisor 3 = .ok (.lload_n 2, 1) := by decide +kernel
theorem dX7_divisor_4 : decode cX7_divisor 4 = .ok (.lstore 6, 2) := by decide +kernel
theorem dX7_divisor_6 : decode cX7_divisor 6 = .ok (.lload 6, 2) := by decide +kernel
theorem dX7_divisor_8 : decode cX7_divisor 8 = .ok (.lconst 0, 1) := by decide +kernel
theorem dX7_divisor_9 : decode cX7_divisor 9 = .ok (.lcmp, 1) := by decide +kernel
theorem dX7_divisor_10 : decode cX7_divisor 10 = .ok (.ifCond .eq 21, 3) := by decide +kernel
theorem dX7_divisor_13 : decode cX7_divisor 13 = .ok (.lload 4, 2) := by decide +kernel
theorem dX7_divisor_15 : decode cX7_divisor 15 = .ok (.lload 6, 2) := by decide +kernel
theorem dX7_divisor_17 : decode cX7_divisor 17 = .ok (.lrem, 1) := by decide +kernel
theorem dX7_divisor_18 : decode cX7_divisor 18 = .ok (.lstore 8, 2) := by decide +kernel
theorem dX7_divisor_20 : decode cX7_divisor 20 = .ok (.lload 6, 2) := by decide +kernel
theorem dX7_divisor_22 : decode cX7_divisor 22 = .ok (.lstore 4, 2) := by decide +kernel
theorem dX7_divisor_24 : decode cX7_divisor 24 = .ok (.lload 8, 2) := by decide +kernel
theorem dX7_divisor_26 : decode cX7_divisor 26 = .ok (.lstore 6, 2) := by decide +kernel
theorem dX7_divisor_28 : decode cX7_divisor 28 = .ok (.goto (-22), 3) := by decide +kernel
theorem dX7_divisor_31 : decode cX7_divisor 31 = .ok (.lload 4, 2) := by decide +kernel
theorem dX7_divisor_33 : decode cX7_divisor 33 = .ok (.lreturn, 1) := by decide +kernel
set_option maxRecDepth 20000 in
theorem ggX7_thunder_X7_isWay : GoodIn wsX7_thunder wsX7_isWay := goodIn_r _ [5] (by decide +kernel) (by decide +kernel)
set_option maxRecDepth 20000 in
theorem gX7_thunder_X7_isWay : GoodIn wsX7_thunder (va_wsS RX7 71 yX7_isWay wsX7_isWay) := goodIn_app (goodIn_of _ (by decide +kernel)) ggX7_thunder_X7_isWay
set_option maxRecDepth 20000 in
theorem ggX7_thunder_X7_bound : GoodIn wsX7_thunder wsX7_bound := goodIn_r _ [8] (by decide +kernel) (by decide +kernel)
set_option maxRecDepth 20000 in
theorem gX7_thunder_X7_bound : GoodIn wsX7_thunder (va_wsS RX7 75 yX7_bound wsX7_bound) := goodIn_app (goodIn_of _ (by decide +kernel)) ggX7_thunder_X7_bound
set_option maxRecDepth 20000 in
theorem ggX7_thunder_X7_isIn : GoodIn wsX7_thunder wsX7_isIn := goodIn_r _ [11] (by decide +kernel) (by decide +kernel)
set_option maxRecDepth 20000 in
theorem gX7_thunder_X7_isIn : GoodIn wsX7_thunder (va_wsS RX7 93 yX7_isIn wsX7_isIn) := goodIn_app (goodIn_of _ (by decide +kernel)) ggX7_thunder_X7_isIn
set_option maxRecDepth 20000 in
theorem ggX7_thunder_X7_lowest : GoodIn wsX7_thunder wsX7_lowest := goodIn_r _ [15, 16, 17, 27, 28, 29, 30, 31, 32, 33, 34, 35, 36, 37, 38, 39, 40, 41, 42, 43, 44, 45, 46, 47, 48, 49, 50, 51, 52, 53, 54, 55] (by decide +kernel) (by decide +kernel)
set_option maxRecDepth 20000 in
theorem gX7_thunder_X7_lowest : GoodIn wsX7_thunder (wsV RX7 252 RX7 yX7_lowest wsX7_lowest) := goodIn_app (goodIn_of _ (by decide +kernel)) ggX7_thunder_X7_lowest
set_option maxRecDepth 20000 in
theorem ggX7_thunder_X7_minutesOf : GoodIn wsX7_thunder wsX7_minutesOf := goodIn_r _ [21, 22, 23, 27, 28, 29, 30, 31, 32, 33, 34, 35, 36, 37, 38, 39, 40, 41, 42, 43, 44, 45, 46, 47, 48, 49, 50, 51, 52, 53, 54, 55] (by decide +kernel) (by decide +kernel)
set_option maxRecDepth 20000 in
theorem gX7_thunder_X7_minutesOf : GoodIn wsX7_thunder (wsV RX7 230 RX7 yX7_minutesOf wsX7_minutesOf) := goodIn_app (goodIn_of _ (by decide +kernel)) ggX7_thunder_X7_minutesOf
set_option maxRecDepth 20000 in
theorem ggX7_thunder_X7_divisor : GoodIn wsX7_thunder wsX7_divisor := goodIn_r _ [26] (by decide +kernel) (by decide +kernel)
set_option maxRecDepth 20000 in
theorem gX7_thunder_X7_divisor : GoodIn wsX7_thunder (va_wsS RX7 258 yX7_divisor wsX7_divisor) := goodIn_app (goodIn_of _ (by decide +kernel)) ggX7_thunder_X7_divisor
theorem dX7_thunder_0 : decode cX7_thunder 0 = .ok (.iload_n 1, 1) := by decide +kernel
theorem dX7_thunder_1 : decode cX7_thunder 1 = .ok (.invokestatic 71, 3) := by decide +kernel
theorem dX7_thunder_4 : decode cX7_thunder 4 = .ok (.ifCond .ne 7, 3) := by decide +kernel
theorem dX7_thunder_7 : decode cX7_thunder 7 = .ok (.iconst (-1), 1) := by decide +kernel
theorem dX7_thunder_8 : decode cX7_thunder 8 = .ok (.goto 10, 3) := by decide +kernel
theorem dX7_thunder_11 : decode cX7_thunder 11 = .ok (.iload_n 2, 1) := by decide +kernel
theorem dX7_thunder_12 : decode cX7_thunder 12 = .ok (.iconst 0, 1) := by decide +kernel
theorem dX7_thunder_13 : decode cX7_thunder 13 = .ok (.bipush 9, 2) := by decide +kernel
theorem dX7_thunder_15 : decode cX7_thunder 15 = .ok (.invokestatic 75, 3) := by decide +kernel
theorem dX7_thunder_18 : decode cX7_thunder 18 = .ok (.istore 4, 2) := by decide +kernel
theorem dX7_thunder_20 : decode cX7_thunder 20 = .ok (.iload 4, 2) := by decide +kernel
theorem dX7_thunder_22 : decode cX7_thunder 22 = .ok (.ifCond .ne 16, 3) := by decide +kernel
theorem dX7_thunder_25 : decode cX7_thunder 25 = .ok (.iload_n 3, 1) := by decide +kernel
theorem dX7_thunder_26 : decode cX7_thunder 26 = .ok (.iconst 0, 1) := by decide +kernel
theorem dX7_thunder_27 : decode cX7_thunder 27 = .ok (.iconst 1, 1) := by decide +kernel
theorem dX7_thunder_28 : decode cX7_thunder 28 = .ok (.invokestatic 93, 3) := by decide +kernel
theorem dX7_thunder_31 : decode cX7_thunder 31 = .ok (.ifCond .ne 7, 3) := by decide +kernel
theorem dX7_thunder_34 : decode cX7_thunder 34 = .ok (.bipush (-2), 2) := by decide +kernel
theorem dX7_thunder_36 : decode cX7_thunder 36 = .ok (.istore 4, 2) := by decide +kernel
theorem dX7_thunder_38 : decode cX7_thunder 38 = .ok (.iload 4, 2) := by decide +kernel
theorem dX7_thunder_40 : decode cX7_thunder 40 = .ok (.ifCond .eq 10, 3) := by decide +kernel
theorem dX7_thunder_43 : decode cX7_thunder 43 = .ok (.aload_n 0, 1) := by decide +kernel
theorem dX7_thunder_44 : decode cX7_thunder 44 = .ok (.iload 4, 2) := by decide +kernel
theorem dX7_thunder_46 : decode cX7_thunder 46 = .ok (.invokevirtual 252, 3) := by decide +kernel
theorem dX7_thunder_49 : decode cX7_thunder 49 = .ok (.lreturn, 1) := by decide +kernel
theorem dX7_thunder_50 : decode cX7_thunder 50 = .ok (.lconst 1, 1) := by decide +kernel
theorem dX7_thunder_51 : decode cX7_thunder 51 = .ok (.lstore 5, 2) := by decide +kernel
theorem dX7_thunder_53 : decode cX7_thunder 53 = .ok (.lconst 1, 1) := by decide +kernel
theorem dX7_thunder_54 : decode cX7_thunder 54 = .ok (.lstore 7, 2) := by decide +kernel
theorem dX7_thunder_56 : decode cX7_thunder 56 = .ok (.iconst 0, 1) := by decide +kernel
theorem dX7_thunder_57 : decode cX7_thunder 57 = .ok (.istore 9, 2) := by decide +kernel
theorem dX7_thunder_59 : decode cX7_thunder 59 = .ok (.iload 9, 2) := by decide +kernel
theorem dX7_thunder_61 : decode cX7_thunder 61 = .ok (.aload_n 0, 1) := by decide +kernel
theorem dX7_thunder_62 : decode cX7_thunder 62 = .ok (.iload_n 1, 1) := by decide +kernel
theorem dX7_thunder_63 : decode cX7_thunder 63 = .ok (.invokevirtual 230, 3) := by decide +kernel
theorem dX7_thunder_66 : decode cX7_thunder 66 = .ok (.if_icmp .ge 34, 3) := by decide +kernel
theorem dX7_thunder_69 : decode cX7_thunder 69 = .ok (.iload 9, 2) := by decide +kernel
theorem dX7_thunder_71 : decode cX7_thunder 71 = .ok (.bipush 12, 2) := by decide +kernel
theorem dX7_thunder_73 : decode cX7_thunder 73 = .ok (.if_icmp .ge 27, 3) := by decide +kernel
theorem dX7_thunder_76 : decode cX7_thunder 76 = .ok (.lload 5, 2) := by decide +kernel
theorem dX7_thunder_78 : decode cX7_thunder 78 = .ok (.bipush 10, 2) := by decide +kernel
theorem dX7_thunder_80 : decode cX7_thunder 80 = .ok (.iload_n 2, 1) := by decide +kernel
theorem dX7_thunder_81 : decode cX7_thunder 81 = .ok (.isub, 1) := by decide +kernel
theorem dX7_thunder_82 : decode cX7_thunder 82 = .ok (.i2l, 1) := by decide +kernel
theorem dX7_thunder_83 : decode cX7_thunder 83 = .ok (.lmul, 1) := by decide +kernel
theorem dX7_thunder_84 : decode cX7_thunder 84 = .ok (.lstore 5, 2) := by decide +kernel
theorem dX7_thunder_86 : decode cX7_thunder 86 = .ok (.lload 7, 2) := by decide +kernel
theorem dX7_thunder_88 : decode cX7_thunder 88 = .ok (.ldc2_w 256, 3) := by decide +kernel
theorem dX7_thunder_91 : decode cX7_thunder 91 = .ok (.lmul, 1) := by decide +kernel
theorem dX7_thunder_92 : decode cX7_thunder 92 = .ok (.lstore 7, 2) := by decide +kernel
theorem dX7_thunder_94 : decode cX7_thunder 94 = .ok (.iinc 9 1, 3) := by decide +kernel
theorem dX7_thunder_97 : decode cX7_thunder 97 = .ok (.goto (-38), 3) := by decide +kernel
theorem dX7_thunder_100 : decode cX7_thunder 100 = .ok (.iload_n 3, 1) := by decide +kernel
theorem dX7_thunder_101 : decode cX7_thunder 101 = .ok (.ifCond .ne 8, 3) := by decide +kernel
theorem dX7_thunder_104 : decode cX7_thunder 104 = .ok (.lload 5, 2) := by decide +kernel
theorem dX7_thunder_106 : decode cX7_thunder 106 = .ok (.goto 5, 3) := by decide +kernel
theorem dX7_thunder_109 : decode cX7_thunder 109 = .ok (.lload 7, 2) := by decide +kernel
theorem dX7_thunder_111 : decode cX7_thunder 111 = .ok (.lload 5, 2) := by decide +kernel
theorem dX7_thunder_113 : decode cX7_thunder 113 = .ok (.lload 7, 2) := by decide +kernel
theorem dX7_thunder_115 : decode cX7_thunder 115 = .ok (.invokestatic 258, 3) := by decide +kernel
theorem dX7_thunder_118 : decode cX7_thunder 118 = .ok (.ldiv, 1) := by decide +kernel
theorem dX7_thunder_119 : decode cX7_thunder 119 = .ok (.lreturn, 1) := by decide +kernel
set_option maxRecDepth 20000 in
theorem ggX7_fell_X7_isPiece : GoodIn wsX7_fell wsX7_isPiece := goodIn_r _ [5, 6, 7, 8, 4, 9, 79, 80, 81, 82, 83, 84, 85, 86, 87, 88, 89, 90, 91, 92, 93, 94, 95, 96, 97, 98, 99, 100, 101, 102, 103, 104, 105, 106, 107] (by decide +kernel) (by decide +kernel)
set_option maxRecDepth 20000 in
theorem gX7_fell_X7_isPiece : GoodIn wsX7_fell (wsV RX7 180 RX7 yX7_isPiece wsX7_isPiece) := goodIn_app (goodIn_of _ (by decide +kernel)) ggX7_fell_X7_isPiece
set_option maxRecDepth 20000 in
theorem ggX7_fell_X7_fellBits : GoodIn wsX7_fell wsX7_fellBits := goodIn_r _ [13, 14, 15, 16, 17, 4, 18, 19, 20, 21, 22, 23, 24, 25, 26, 27, 28, 29, 30, 31, 32, 33, 34, 35, 36, 37, 38, 39, 40, 41, 42, 43, 44, 45, 46, 47, 48, 49, 50, 51, 52, 53, 54, 55, 56, 57, 58, 59, 60, 61, 62, 63, 64, 65, 66, 67, 68, 69, 70, 71, 72, 73, 79, 80, 81, 82, 83, 84, 85, 86, 87, 88, 89, 90, 91, 92, 93, 94, 95, 96, 97, 98, 99, 100, 101, 102, 103, 104, 105, 106, 107] (by decide +kernel) (by decide +kernel)
set_option maxRecDepth 20000 in
theorem gX7_fell_X7_fellBits : GoodIn wsX7_fell (wsV RX7 211 RX7 yX7_fellBits wsX7_fellBits) := goodIn_app (goodIn_of _ (by decide +kernel)) ggX7_fell_X7_fellBits
set_option maxRecDepth 20000 in
theorem ggX7_fell_X7_no : GoodIn wsX7_fell wsX7_no := goodIn_r _ [77, 78, 79, 80, 81, 82, 83, 84, 85, 86, 87, 88, 89, 90, 91, 92, 93, 94, 95, 96, 97, 98, 99, 100, 101, 102, 103, 104, 105, 106, 107] (by decide +kernel) (by decide +kernel)
set_option maxRecDepth 20000 in
theorem gX7_fell_X7_no : GoodIn wsX7_fell (wsV RX7 82 RX7 yX7_no wsX7_no) := goodIn_app (goodIn_of _ (by decide +kernel)) ggX7_fell_X7_no
theorem dX7_fell_0 : decode cX7_fell 0 = .ok (.aload_n 0, 1) := by decide +kernel
theorem dX7_fell_1 : decode cX7_fell 1 = .ok (.iload_n 1, 1) := by decide +kernel
theorem dX7_fell_2 : decode cX7_fell 2 = .ok (.iload_n 2, 1) := by decide +kernel
theorem dX7_fell_3 : decode cX7_fell 3 = .ok (.invokevirtual 180, 3) := by decide +kernel
theorem dX7_fell_6 : decode cX7_fell 6 = .ok (.ifCond .eq 16, 3) := by decide +kernel
theorem dX7_fell_9 : decode cX7_fell 9 = .ok (.aload_n 0, 1) := by decide +kernel
theorem dX7_fell_10 : decode cX7_fell 10 = .ok (.bipush 6, 2) := by decide +kernel
theorem dX7_fell_12 : decode cX7_fell 12 = .ok (.iload_n 1, 1) := by decide +kernel
theorem dX7_fell_13 : decode cX7_fell 13 = .ok (.imul, 1) := by decide +kernel
theorem dX7_fell_14 : decode cX7_fell 14 = .ok (.iload_n 2, 1) := by decide +kernel
theorem dX7_fell_15 : decode cX7_fell 15 = .ok (.iadd, 1) := by decide +kernel
theorem dX7_fell_16 : decode cX7_fell 16 = .ok (.invokevirtual 211, 3) := by decide +kernel
theorem dX7_fell_19 : decode cX7_fell 19 = .ok (.goto 8, 3) := by decide +kernel
theorem dX7_fell_22 : decode cX7_fell 22 = .ok (.aload_n 0, 1) := by decide +kernel
theorem dX7_fell_23 : decode cX7_fell 23 = .ok (.iconst (-1), 1) := by decide +kernel
theorem dX7_fell_24 : decode cX7_fell 24 = .ok (.invokevirtual 82, 3) := by decide +kernel
theorem dX7_fell_27 : decode cX7_fell 27 = .ok (.ireturn, 1) := by decide +kernel
set_option maxRecDepth 20000 in
theorem ggX7_whose_X7_isPiece : GoodIn wsX7_whose wsX7_isPiece := goodIn_r _ [6, 7, 8, 9, 5, 10, 75, 76, 77, 78, 79, 80, 81, 82, 83, 84, 85, 86, 87, 88, 89, 90, 91, 92, 93, 94, 95, 96, 97, 98, 99, 100, 101, 102, 103] (by decide +kernel) (by decide +kernel)
set_option maxRecDepth 20000 in
theorem gX7_whose_X7_isPiece : GoodIn wsX7_whose (wsV RX7 180 RX7 yX7_isPiece wsX7_isPiece) := goodIn_app (goodIn_of _ (by decide +kernel)) ggX7_whose_X7_isPiece
set_option maxRecDepth 20000 in
theorem ggX7_whose_X7_no : GoodIn wsX7_whose wsX7_no := goodIn_r _ [14, 15, 75, 76, 77, 78, 79, 80, 81, 82, 83, 84, 85, 86, 87, 88, 89, 90, 91, 92, 93, 94, 95, 96, 97, 98, 99, 100, 101, 102, 103] (by decide +kernel) (by decide +kernel)
set_option maxRecDepth 20000 in
theorem gX7_whose_X7_no : GoodIn wsX7_whose (wsV RX7 82 RX7 yX7_no wsX7_no) := goodIn_app (goodIn_of _ (by decide +kernel)) ggX7_whose_X7_no
set_option maxRecDepth 20000 in
theorem ggX7_whose_X7_isShift : GoodIn wsX7_whose wsX7_isShift := goodIn_r _ [19, 20, 75, 76, 77, 78, 79, 80, 81, 82, 83, 84, 85, 86, 87, 88, 89, 90, 91, 92, 93, 94, 95, 96, 97, 98, 99, 100, 101, 102, 103] (by decide +kernel) (by decide +kernel)
set_option maxRecDepth 20000 in
theorem gX7_whose_X7_isShift : GoodIn wsX7_whose (wsV RX7 196 RX7 yX7_isShift wsX7_isShift) := goodIn_app (goodIn_of _ (by decide +kernel)) ggX7_whose_X7_isShift
set_option maxRecDepth 20000 in
theorem ggX7_whose_X7_caught : GoodIn wsX7_whose wsX7_caught := goodIn_r _ [24, 1, 20, 25, 26, 27, 28, 5, 29, 30, 31, 32, 33, 34, 35, 36, 37, 38, 39, 40, 41, 42, 43, 75, 76, 77, 78, 79, 80, 81, 82, 83, 84, 85, 86, 87, 88, 89, 90, 91, 92, 93, 94, 95, 96, 97, 98, 99, 100, 101, 102, 103] (by decide +kernel) (by decide +kernel)
set_option maxRecDepth 20000 in
theorem gX7_whose_X7_caught : GoodIn wsX7_whose (wsV RX7 199 RX7 yX7_caught wsX7_caught) := goodIn_app (goodIn_of _ (by decide +kernel)) ggX7_whose_X7_caught
set_option maxRecDepth 20000 in
theorem ggX7_whose_X7_spare : GoodIn wsX7_whose wsX7_spare := goodIn_r _ [47, 48, 49, 50, 51, 5, 52, 53, 54, 55, 56, 57, 58, 34, 59, 60, 61, 62, 63, 64, 65, 25, 66, 20, 39, 67, 68, 69, 70, 1, 71, 72, 73, 74, 75, 76, 77, 78, 79, 80, 81, 82, 83, 84, 85, 86, 87, 88, 89, 90, 91, 92, 93, 94, 95, 96, 97, 98, 99, 100, 101, 102, 103] (by decide +kernel) (by decide +kernel)
set_option maxRecDepth 20000 in
theorem gX7_whose_X7_spare : GoodIn wsX7_whose (wsV RX7 202 RX7 yX7_spare wsX7_spare) := goodIn_app (goodIn_of _ (by decide +kernel)) ggX7_whose_X7_spare
theorem dX7_whose_0 : decode cX7_whose 0 = .ok (.aload_n 0, 1) := by decide +kernel
theorem dX7_whose_1 : decode cX7_whose 1 = .ok (.iload_n 1, 1) := by decide +kernel
theorem dX7_whose_2 : decode cX7_whose 2 = .ok (.iload_n 2, 1) := by decide +kernel
theorem dX7_whose_3 : decode cX7_whose 3 = .ok (.invokevirtual 180, 3) := by decide +kernel
theorem dX7_whose_6 : decode cX7_whose 6 = .ok (.ifCond .ne 9, 3) := by decide +kernel
theorem dX7_whose_9 : decode cX7_whose 9 = .ok (.aload_n 0, 1) := by decide +kernel
theorem dX7_whose_10 : decode cX7_whose 10 = .ok (.iconst (-1), 1) := by decide +kernel
theorem dX7_whose_11 : decode cX7_whose 11 = .ok (.invokevirtual 82, 3) := by decide +kernel
theorem dX7_whose_14 : decode cX7_whose 14 = .ok (.ireturn, 1) := by decide +kernel
theorem dX7_whose_15 : decode cX7_whose 15 = .ok (.bipush 6, 2) := by decide +kernel
theorem dX7_whose_17 : decode cX7_whose 17 = .ok (.iload_n 1, 1) := by decide +kernel
theorem dX7_whose_18 : decode cX7_whose 18 = .ok (.imul, 1) := by decide +kernel
theorem dX7_whose_19 : decode cX7_whose 19 = .ok (.iload_n 2, 1) := by decide +kernel
theorem dX7_whose_20 : decode cX7_whose 20 = .ok (.iadd, 1) := by decide +kernel
theorem dX7_whose_21 : decode cX7_whose 21 = .ok (.istore_n 3, 1) := by decide +kernel
theorem dX7_whose_22 : decode cX7_whose 22 = .ok (.aload_n 0, 1) := by decide +kernel
theorem dX7_whose_23 : decode cX7_whose 23 = .ok (.iload_n 3, 1) := by decide +kernel
theorem dX7_whose_24 : decode cX7_whose 24 = .ok (.invokevirtual 196, 3) := by decide +kernel
theorem dX7_whose_27 : decode cX7_whose 27 = .ok (.ifCond .ne 9, 3) := by decide +kernel
theorem dX7_whose_30 : decode cX7_whose 30 = .ok (.aload_n 0, 1) := by decide +kernel
theorem dX7_whose_31 : decode cX7_whose 31 = .ok (.iload_n 3, 1) := by decide +kernel
theorem dX7_whose_32 : decode cX7_whose 32 = .ok (.invokevirtual 199, 3) := by decide +kernel
theorem dX7_whose_35 : decode cX7_whose 35 = .ok (.ireturn, 1) := by decide +kernel
theorem dX7_whose_36 : decode cX7_whose 36 = .ok (.bipush (-9), 2) := by decide +kernel
theorem dX7_whose_38 : decode cX7_whose 38 = .ok (.istore 4, 2) := by decide +kernel
theorem dX7_whose_40 : decode cX7_whose 40 = .ok (.iconst 0, 1) := by decide +kernel
theorem dX7_whose_41 : decode cX7_whose 41 = .ok (.istore 5, 2) := by decide +kernel
theorem dX7_whose_43 : decode cX7_whose 43 = .ok (.iload 5, 2) := by decide +kernel
theorem dX7_whose_45 : decode cX7_whose 45 = .ok (.aload_n 0, 1) := by decide +kernel
theorem dX7_whose_46 : decode cX7_whose 46 = .ok (.getfield 67, 3) := by decide +kernel
theorem dX7_whose_49 : decode cX7_whose 49 = .ok (.if_icmp .ge 45, 3) := by decide +kernel
theorem dX7_whose_52 : decode cX7_whose 52 = .ok (.aload_n 0, 1) := by decide +kernel
theorem dX7_whose_53 : decode cX7_whose 53 = .ok (.iload_n 3, 1) := by decide +kernel
theorem dX7_whose_54 : decode cX7_whose 54 = .ok (.iload 5, 2) := by decide +kernel
theorem dX7_whose_56 : decode cX7_whose 56 = .ok (.invokevirtual 202, 3) := by decide +kernel
theorem dX7_whose_59 : decode cX7_whose 59 = .ok (.ifCond .ge 29, 3) := by decide +kernel
theorem dX7_whose_62 : decode cX7_whose 62 = .ok (.iload 4, 2) := by decide +kernel
theorem dX7_whose_64 : decode cX7_whose 64 = .ok (.ifCond .lt 20, 3) := by decide +kernel
theorem dX7_whose_67 : decode cX7_whose 67 = .ok (.aload_n 0, 1) := by decide +kernel
theorem dX7_whose_68 : decode cX7_whose 68 = .ok (.iload_n 3, 1) := by decide +kernel
theorem dX7_whose_69 : decode cX7_whose 69 = .ok (.iload 5, 2) := by decide +kernel
theorem dX7_whose_71 : decode cX7_whose 71 = .ok (.invokevirtual 202, 3) := by decide +kernel
theorem dX7_whose_74 : decode cX7_whose 74 = .ok (.aload_n 0, 1) := by decide +kernel
theorem dX7_whose_75 : decode cX7_whose 75 = .ok (.iload_n 3, 1) := by decide +kernel
theorem dX7_whose_76 : decode cX7_whose 76 = .ok (.iload 4, 2) := by decide +kernel
theorem dX7_whose_78 : decode cX7_whose 78 = .ok (.invokevirtual 202, 3) := by decide +kernel
theorem dX7_whose_81 : decode cX7_whose 81 = .ok (.if_icmp .le 7, 3) := by decide +kernel
theorem dX7_whose_84 : decode cX7_whose 84 = .ok (.iload 5, 2) := by decide +kernel
theorem dX7_whose_86 : decode cX7_whose 86 = .ok (.istore 4, 2) := by decide +kernel
theorem dX7_whose_88 : decode cX7_whose 88 = .ok (.iinc 5 1, 3) := by decide +kernel
theorem dX7_whose_91 : decode cX7_whose 91 = .ok (.goto (-48), 3) := by decide +kernel
theorem dX7_whose_94 : decode cX7_whose 94 = .ok (.iload 4, 2) := by decide +kernel
theorem dX7_whose_96 : decode cX7_whose 96 = .ok (.ireturn, 1) := by decide +kernel
theorem dX7_areTwos_0 : decode cX7_areTwos 0 = .ok (.iconst 1, 1) := by decide +kernel
theorem dX7_areTwos_1 : decode cX7_areTwos 1 = .ok (.istore_n 1, 1) := by decide +kernel
theorem dX7_areTwos_2 : decode cX7_areTwos 2 = .ok (.iload_n 1, 1) := by decide +kernel
theorem dX7_areTwos_3 : decode cX7_areTwos 3 = .ok (.aload_n 0, 1) := by decide +kernel
theorem dX7_areTwos_4 : decode cX7_areTwos 4 = .ok (.getfield 262, 3) := by decide +kernel
theorem dX7_areTwos_7 : decode cX7_areTwos 7 = .ok (.if_icmp .ge 21, 3) := by decide +kernel
theorem dX7_areTwos_10 : decode cX7_areTwos 10 = .ok (.aload_n 0, 1) := by decide +kernel
theorem dX7_areTwos_11 : decode cX7_areTwos 11 = .ok (.getfield 61, 3) := by decide +kernel
theorem dX7_areTwos_14 : decode cX7_areTwos 14 = .ok (.iload_n 1, 1) := by decide +kernel
theorem dX7_areTwos_15 : decode cX7_areTwos 15 = .ok (.iaload, 1) := by decide +kernel
theorem dX7_areTwos_16 : decode cX7_areTwos 16 = .ok (.iconst 1, 1) := by decide +kernel
theorem dX7_areTwos_17 : decode cX7_areTwos 17 = .ok (.if_icmp .le 5, 3) := by decide +kernel
theorem dX7_areTwos_20 : decode cX7_areTwos 20 = .ok (.iconst 0, 1) := by decide +kernel
theorem dX7_areTwos_21 : decode cX7_areTwos 21 = .ok (.ireturn, 1) := by decide +kernel
theorem dX7_areTwos_22 : decode cX7_areTwos 22 = .ok (.iinc 1 2, 3) := by decide +kernel
theorem dX7_areTwos_25 : decode cX7_areTwos 25 = .ok (.goto (-23), 3) := by decide +kernel
theorem dX7_areTwos_28 : decode cX7_areTwos 28 = .ok (.aload_n 0, 1) := by decide +kernel
theorem dX7_areTwos_29 : decode cX7_areTwos 29 = .ok (.getfield 262, 3) := by decide +kernel
theorem dX7_areTwos_32 : decode cX7_areTwos 32 = .ok (.iconst 2, 1) := by decide +kernel
theorem dX7_areTwos_33 : decode cX7_areTwos 33 = .ok (.irem, 1) := by decide +kernel
theorem dX7_areTwos_34 : decode cX7_areTwos 34 = .ok (.ifCond .ne 7, 3) := by decide +kernel
theorem dX7_areTwos_37 : decode cX7_areTwos 37 = .ok (.iconst 1, 1) := by decide +kernel
theorem dX7_areTwos_38 : decode cX7_areTwos 38 = .ok (.goto 4, 3) := by decide +kernel
theorem dX7_areTwos_41 : decode cX7_areTwos 41 = .ok (.iconst 0, 1) := by decide +kernel
theorem dX7_areTwos_42 : decode cX7_areTwos 42 = .ok (.ireturn, 1) := by decide +kernel
theorem dX7_isBoundBy_0 : decode cX7_isBoundBy 0 = .ok (.iconst 0, 1) := by decide +kernel
theorem dX7_isBoundBy_1 : decode cX7_isBoundBy 1 = .ok (.istore_n 3, 1) := by decide +kernel
theorem dX7_isBoundBy_2 : decode cX7_isBoundBy 2 = .ok (.iload_n 3, 1) := by decide +kernel
theorem dX7_isBoundBy_3 : decode cX7_isBoundBy 3 = .ok (.aload_n 0, 1) := by decide +kernel
theorem dX7_isBoundBy_4 : decode cX7_isBoundBy 4 = .ok (.getfield 262, 3) := by decide +kernel
theorem dX7_isBoundBy_7 : decode cX7_isBoundBy 7 = .ok (.if_icmp .ge 48, 3) := by decide +kernel
theorem dX7_isBoundBy_10 : decode cX7_isBoundBy 10 = .ok (.aload_n 0, 1) := by decide +kernel
theorem dX7_isBoundBy_11 : decode cX7_isBoundBy 11 = .ok (.getfield 61, 3) := by decide +kernel
theorem dX7_isBoundBy_14 : decode cX7_isBoundBy 14 = .ok (.iload_n 3, 1) := by decide +kernel
theorem dX7_isBoundBy_15 : decode cX7_isBoundBy 15 = .ok (.iaload, 1) := by decide +kernel
theorem dX7_isBoundBy_16 : decode cX7_isBoundBy 16 = .ok (.iload_n 1, 1) := by decide +kernel
theorem dX7_isBoundBy_17 : decode cX7_isBoundBy 17 = .ok (.imul, 1) := by decide +kernel
theorem dX7_isBoundBy_18 : decode cX7_isBoundBy 18 = .ok (.iload_n 2, 1) := by decide +kernel
theorem dX7_isBoundBy_19 : decode cX7_isBoundBy 19 = .ok (.if_icmp .lt 7, 3) := by decide +kernel
theorem dX7_isBoundBy_22 : decode cX7_isBoundBy 22 = .ok (.iconst 1, 1) := by decide +kernel
theorem dX7_isBoundBy_23 : decode cX7_isBoundBy 23 = .ok (.goto 4, 3) := by decide +kernel
theorem dX7_isBoundBy_26 : decode cX7_isBoundBy 26 = .ok (.iconst 0, 1) := by decide +kernel
theorem dX7_isBoundBy_27 : decode cX7_isBoundBy 27 = .ok (.aload_n 0, 1) := by decide +kernel
theorem dX7_isBoundBy_28 : decode cX7_isBoundBy 28 = .ok (.getfield 61, 3) := by decide +kernel
theorem dX7_isBoundBy_31 : decode cX7_isBoundBy 31 = .ok (.iload_n 3, 1) := by decide +kernel
theorem dX7_isBoundBy_32 : decode cX7_isBoundBy 32 = .ok (.iconst 1, 1) := by decide +kernel
theorem dX7_isBoundBy_33 : decode cX7_isBoundBy 33 = .ok (.iadd, 1) := by decide +kernel
theorem dX7_isBoundBy_34 : decode cX7_isBoundBy 34 = .ok (.iaload, 1) := by decide +kernel
theorem dX7_isBoundBy_35 : decode cX7_isBoundBy 35 = .ok (.iconst 1, 1) := by decide +kernel
theorem dX7_isBoundBy_36 : decode cX7_isBoundBy 36 = .ok (.if_icmp .ne 7, 3) := by decide +kernel
theorem dX7_isBoundBy_39 : decode cX7_isBoundBy 39 = .ok (.iconst 1, 1) := by decide +kernel
theorem dX7_isBoundBy_40 : decode cX7_isBoundBy 40 = .ok (.goto 4, 3) := by decide +kernel
theorem dX7_isBoundBy_43 : decode cX7_isBoundBy 43 = .ok (.iconst 0, 1) := by decide +kernel
theorem dX7_isBoundBy_44 : decode cX7_isBoundBy 44 = .ok (.if_icmp .eq 5, 3) := by decide +kernel
theorem dX7_isBoundBy_47 : decode cX7_isBoundBy 47 = .ok (.iconst 0, 1) := by decide +kernel
theorem dX7_isBoundBy_48 : decode cX7_isBoundBy 48 = .ok (.ireturn, 1) := by decide +kernel
theorem dX7_isBoundBy_49 : decode cX7_isBoundBy 49 = .ok (.iinc 3 2, 3) := by decide +kernel
theorem dX7_isBoundBy_52 : decode cX7_isBoundBy 52 = .ok (.goto (-50), 3) := by decide +kernel
theorem dX7_isBoundBy_55 : decode cX7_isBoundBy 55 = .ok (.iconst 1, 1) := by decide +kernel
theorem dX7_isBoundBy_56 : decode cX7_isBoundBy 56 = .ok (.ireturn, 1) := by decide +kernel
set_option maxRecDepth 20000 in
theorem ggX7_boundBy_X7_bound : GoodIn wsX7_boundBy wsX7_bound := goodIn_r _ [4] (by decide +kernel) (by decide +kernel)
set_option maxRecDepth 20000 in
theorem gX7_boundBy_X7_bound : GoodIn wsX7_boundBy (va_wsS RX7 75 yX7_bound wsX7_bound) := goodIn_app (goodIn_of _ (by decide +kernel)) ggX7_boundBy_X7_bound
set_option maxRecDepth 20000 in
theorem ggX7_boundBy_X7_isIn : GoodIn wsX7_boundBy wsX7_isIn := goodIn_r _ [7] (by decide +kernel) (by decide +kernel)
set_option maxRecDepth 20000 in
theorem gX7_boundBy_X7_isIn : GoodIn wsX7_boundBy (va_wsS RX7 93 yX7_isIn wsX7_isIn) := goodIn_app (goodIn_of _ (by decide +kernel)) ggX7_boundBy_X7_isIn
set_option maxRecDepth 20000 in
theorem ggX7_boundBy_X7_areTwos : GoodIn wsX7_boundBy wsX7_areTwos := goodIn_r _ [11, 12, 13, 23, 24, 25, 26, 27, 28, 29, 30, 31, 32, 33, 34, 35, 36, 37, 38, 39, 40, 41, 42, 43, 44, 45, 46, 47, 48, 49, 50, 51] (by decide +kernel) (by decide +kernel)
set_option maxRecDepth 20000 in
theorem gX7_boundBy_X7_areTwos : GoodIn wsX7_boundBy (wsV RX7 265 RX7 yX7_areTwos wsX7_areTwos) := goodIn_app (goodIn_of _ (by decide +kernel)) ggX7_boundBy_X7_areTwos
set_option maxRecDepth 20000 in
theorem ggX7_boundBy_X7_no : GoodIn wsX7_boundBy wsX7_no := goodIn_r _ [17, 18, 23, 24, 25, 26, 27, 28, 29, 30, 31, 32, 33, 34, 35, 36, 37, 38, 39, 40, 41, 42, 43, 44, 45, 46, 47, 48, 49, 50, 51] (by decide +kernel) (by decide +kernel)
set_option maxRecDepth 20000 in
theorem gX7_boundBy_X7_no : GoodIn wsX7_boundBy (wsV RX7 82 RX7 yX7_no wsX7_no) := goodIn_app (goodIn_of _ (by decide +kernel)) ggX7_boundBy_X7_no
set_option maxRecDepth 20000 in
theorem ggX7_boundBy_X7_isBoundBy : GoodIn wsX7_boundBy wsX7_isBoundBy := goodIn_r _ [22, 12, 13, 23, 24, 25, 26, 27, 28, 29, 30, 31, 32, 33, 34, 35, 36, 37, 38, 39, 40, 41, 42, 43, 44, 45, 46, 47, 48, 49, 50, 51] (by decide +kernel) (by decide +kernel)
set_option maxRecDepth 20000 in
theorem gX7_boundBy_X7_isBoundBy : GoodIn wsX7_boundBy (wsV RX7 268 RX7 yX7_isBoundBy wsX7_isBoundBy) := goodIn_app (goodIn_of _ (by decide +kernel)) ggX7_boundBy_X7_isBoundBy
theorem dX7_boundBy_0 : decode cX7_boundBy 0 = .ok (.iload_n 1, 1) := by decide +kernel
theorem dX7_boundBy_1 : decode cX7_boundBy 1 = .ok (.iconst 0, 1) := by decide +kernel
theorem dX7_boundBy_2 : decode cX7_boundBy 2 = .ok (.sipush 999, 3) := by decide +kernel
theorem dX7_boundBy_5 : decode cX7_boundBy 5 = .ok (.invokestatic 75, 3) := by decide +kernel
theorem dX7_boundBy_8 : decode cX7_boundBy 8 = .ok (.istore_n 3, 1) := by decide +kernel
theorem dX7_boundBy_9 : decode cX7_boundBy 9 = .ok (.iload_n 3, 1) := by decide +kernel
theorem dX7_boundBy_10 : decode cX7_boundBy 10 = .ok (.ifCond .ne 31, 3) := by decide +kernel
theorem dX7_boundBy_13 : decode cX7_boundBy 13 = .ok (.iload_n 2, 1) := by decide +kernel
theorem dX7_boundBy_14 : decode cX7_boundBy 14 = .ok (.iconst 0, 1) := by decide +kernel
theorem dX7_boundBy_15 : decode cX7_boundBy 15 = .ok (.iconst 1, 1) := by decide +kernel
theorem dX7_boundBy_16 : decode cX7_boundBy 16 = .ok (.invokestatic 93, 3) := by decide +kernel
theorem dX7_boundBy_19 : decode cX7_boundBy 19 = .ok (.ifCond .ne 8, 3) := by decide +kernel
theorem dX7_boundBy_22 : decode cX7_boundBy 22 = .ok (.bipush (-2), 2) := by decide +kernel
theorem dX7_boundBy_24 : decode cX7_boundBy 24 = .ok (.goto 16, 3) := by decide +kernel
theorem dX7_boundBy_27 : decode cX7_boundBy 27 = .ok (.aload_n 0, 1) := by decide +kernel
theorem dX7_boundBy_28 : decode cX7_boundBy 28 = .ok (.invokevirtual 265, 3) := by decide +kernel
theorem dX7_boundBy_31 : decode cX7_boundBy 31 = .ok (.ifCond .ne 8, 3) := by decide +kernel
theorem dX7_boundBy_34 : decode cX7_boundBy 34 = .ok (.bipush (-3), 2) := by decide +kernel
theorem dX7_boundBy_36 : decode cX7_boundBy 36 = .ok (.goto 4, 3) := by decide +kernel
theorem dX7_boundBy_39 : decode cX7_boundBy 39 = .ok (.iconst 0, 1) := by decide +kernel
theorem dX7_boundBy_40 : decode cX7_boundBy 40 = .ok (.istore_n 3, 1) := by decide +kernel
theorem dX7_boundBy_41 : decode cX7_boundBy 41 = .ok (.iload_n 3, 1) := by decide +kernel
theorem dX7_boundBy_42 : decode cX7_boundBy 42 = .ok (.ifCond .eq 9, 3) := by decide +kernel
theorem dX7_boundBy_45 : decode cX7_boundBy 45 = .ok (.aload_n 0, 1) := by decide +kernel
theorem dX7_boundBy_46 : decode cX7_boundBy 46 = .ok (.iload_n 3, 1) := by decide +kernel
theorem dX7_boundBy_47 : decode cX7_boundBy 47 = .ok (.invokevirtual 82, 3) := by decide +kernel
theorem dX7_boundBy_50 : decode cX7_boundBy 50 = .ok (.ireturn, 1) := by decide +kernel
theorem dX7_boundBy_51 : decode cX7_boundBy 51 = .ok (.bipush (-9), 2) := by decide +kernel
theorem dX7_boundBy_53 : decode cX7_boundBy 53 = .ok (.istore 4, 2) := by decide +kernel
theorem dX7_boundBy_55 : decode cX7_boundBy 55 = .ok (.iconst 0, 1) := by decide +kernel
theorem dX7_boundBy_56 : decode cX7_boundBy 56 = .ok (.istore 5, 2) := by decide +kernel
theorem dX7_boundBy_58 : decode cX7_boundBy 58 = .ok (.iload 5, 2) := by decide +kernel
theorem dX7_boundBy_60 : decode cX7_boundBy 60 = .ok (.bipush 21, 2) := by decide +kernel
theorem dX7_boundBy_62 : decode cX7_boundBy 62 = .ok (.if_icmp .ge 33, 3) := by decide +kernel
theorem dX7_boundBy_65 : decode cX7_boundBy 65 = .ok (.aload_n 0, 1) := by decide +kernel
theorem dX7_boundBy_66 : decode cX7_boundBy 66 = .ok (.iload 5, 2) := by decide +kernel
theorem dX7_boundBy_68 : decode cX7_boundBy 68 = .ok (.iload_n 1, 1) := by decide +kernel
theorem dX7_boundBy_69 : decode cX7_boundBy 69 = .ok (.invokevirtual 268, 3) := by decide +kernel
theorem dX7_boundBy_72 : decode cX7_boundBy 72 = .ok (.ifCond .eq 17, 3) := by decide +kernel
theorem dX7_boundBy_75 : decode cX7_boundBy 75 = .ok (.iload_n 2, 1) := by decide +kernel
theorem dX7_boundBy_76 : decode cX7_boundBy 76 = .ok (.iconst 1, 1) := by decide +kernel
theorem dX7_boundBy_77 : decode cX7_boundBy 77 = .ok (.if_icmp .eq 8, 3) := by decide +kernel
theorem dX7_boundBy_80 : decode cX7_boundBy 80 = .ok (.iload 4, 2) := by decide +kernel
theorem dX7_boundBy_82 : decode cX7_boundBy 82 = .ok (.ifCond .ge 7, 3) := by decide +kernel
theorem dX7_boundBy_85 : decode cX7_boundBy 85 = .ok (.iload 5, 2) := by decide +kernel
theorem dX7_boundBy_87 : decode cX7_boundBy 87 = .ok (.istore 4, 2) := by decide +kernel
theorem dX7_boundBy_89 : decode cX7_boundBy 89 = .ok (.iinc 5 1, 3) := by decide +kernel
theorem dX7_boundBy_92 : decode cX7_boundBy 92 = .ok (.goto (-34), 3) := by decide +kernel
theorem dX7_boundBy_95 : decode cX7_boundBy 95 = .ok (.iload 4, 2) := by decide +kernel
theorem dX7_boundBy_97 : decode cX7_boundBy 97 = .ok (.ireturn, 1) := by decide +kernel
set_option maxRecDepth 20000 in
theorem ggX7_row_X7_bound : GoodIn wsX7_row wsX7_bound := goodIn_r _ [6] (by decide +kernel) (by decide +kernel)
set_option maxRecDepth 20000 in
theorem gX7_row_X7_bound : GoodIn wsX7_row (va_wsS RX7 75 yX7_bound wsX7_bound) := goodIn_app (goodIn_of _ (by decide +kernel)) ggX7_row_X7_bound
set_option maxRecDepth 20000 in
theorem ggX7_row_X7_no : GoodIn wsX7_row wsX7_no := goodIn_r _ [10, 11, 12, 13, 14, 15, 16, 17, 18, 19, 20, 21, 22, 23, 24, 25, 26, 27, 28, 29, 30, 31, 32, 33, 34, 35, 36, 37, 38, 39, 40] (by decide +kernel) (by decide +kernel)
set_option maxRecDepth 20000 in
theorem gX7_row_X7_no : GoodIn wsX7_row (wsV RX7 82 RX7 yX7_no wsX7_no) := goodIn_app (goodIn_of _ (by decide +kernel)) ggX7_row_X7_no
theorem dX7_row_0 : decode cX7_row 0 = .ok (.iload_n 1, 1) := by decide +kernel
theorem dX7_row_1 : decode cX7_row 1 = .ok (.iconst 0, 1) := by decide +kernel
theorem dX7_row_2 : decode cX7_row 2 = .ok (.bipush 99, 2) := by decide +kernel
theorem dX7_row_4 : decode cX7_row 4 = .ok (.invokestatic 75, 3) := by decide +kernel
theorem dX7_row_7 : decode cX7_row 7 = .ok (.istore_n 2, 1) := by decide +kernel
theorem dX7_row_8 : decode cX7_row 8 = .ok (.iload_n 2, 1) := by decide +kernel
theorem dX7_row_9 : decode cX7_row 9 = .ok (.ifCond .ne 15, 3) := by decide +kernel
theorem dX7_row_12 : decode cX7_row 12 = .ok (.aload_n 0, 1) := by decide +kernel
theorem dX7_row_13 : decode cX7_row 13 = .ok (.getfield 262, 3) := by decide +kernel
theorem dX7_row_16 : decode cX7_row 16 = .ok (.bipush 12, 2) := by decide +kernel
theorem dX7_row_18 : decode cX7_row 18 = .ok (.if_icmp .ne 6, 3) := by decide +kernel
theorem dX7_row_21 : decode cX7_row 21 = .ok (.bipush (-6), 2) := by decide +kernel
theorem dX7_row_23 : decode cX7_row 23 = .ok (.istore_n 2, 1) := by decide +kernel
theorem dX7_row_24 : decode cX7_row 24 = .ok (.iload_n 2, 1) := by decide +kernel
theorem dX7_row_25 : decode cX7_row 25 = .ok (.ifCond .eq 9, 3) := by decide +kernel
theorem dX7_row_28 : decode cX7_row 28 = .ok (.aload_n 0, 1) := by decide +kernel
theorem dX7_row_29 : decode cX7_row 29 = .ok (.iload_n 2, 1) := by decide +kernel
theorem dX7_row_30 : decode cX7_row 30 = .ok (.invokevirtual 82, 3) := by decide +kernel
theorem dX7_row_33 : decode cX7_row 33 = .ok (.ireturn, 1) := by decide +kernel
theorem dX7_row_34 : decode cX7_row 34 = .ok (.aload_n 0, 1) := by decide +kernel
theorem dX7_row_35 : decode cX7_row 35 = .ok (.getfield 61, 3) := by decide +kernel
theorem dX7_row_38 : decode cX7_row 38 = .ok (.aload_n 0, 1) := by decide +kernel
theorem dX7_row_39 : decode cX7_row 39 = .ok (.getfield 262, 3) := by decide +kernel
theorem dX7_row_42 : decode cX7_row 42 = .ok (.iload_n 1, 1) := by decide +kernel
theorem dX7_row_43 : decode cX7_row 43 = .ok (.iastore, 1) := by decide +kernel
theorem dX7_row_44 : decode cX7_row 44 = .ok (.aload_n 0, 1) := by decide +kernel
theorem dX7_row_45 : decode cX7_row 45 = .ok (.dup, 1) := by decide +kernel
theorem dX7_row_46 : decode cX7_row 46 = .ok (.getfield 262, 3) := by decide +kernel
theorem dX7_row_49 : decode cX7_row 49 = .ok (.iconst 1, 1) := by decide +kernel
theorem dX7_row_50 : decode cX7_row 50 = .ok (.iadd, 1) := by decide +kernel
theorem dX7_row_51 : decode cX7_row 51 = .ok (.putfield 262, 3) := by decide +kernel
theorem dX7_row_54 : decode cX7_row 54 = .ok (.aload_n 0, 1) := by decide +kernel
theorem dX7_row_55 : decode cX7_row 55 = .ok (.getfield 262, 3) := by decide +kernel
theorem dX7_row_58 : decode cX7_row 58 = .ok (.ireturn, 1) := by decide +kernel
set_option maxRecDepth 20000 in
theorem ggX7_judge_X7_isWay : GoodIn wsX7_judge wsX7_isWay := goodIn_r _ [8] (by decide +kernel) (by decide +kernel)
set_option maxRecDepth 20000 in
theorem gX7_judge_X7_isWay : GoodIn wsX7_judge (va_wsS RX7 71 yX7_isWay wsX7_isWay) := goodIn_app (goodIn_of _ (by decide +kernel)) ggX7_judge_X7_isWay
set_option maxRecDepth 20000 in
theorem ggX7_judge_X7_no : GoodIn wsX7_judge wsX7_no := goodIn_r _ [12, 13, 83, 84, 85, 86, 87, 88, 89, 90, 91, 92, 93, 94, 95, 96, 97, 98, 99, 100, 101, 102, 103, 104, 105, 106, 107, 108, 109, 110, 111] (by decide +kernel) (by decide +kernel)
set_option maxRecDepth 20000 in
theorem gX7_judge_X7_no : GoodIn wsX7_judge (wsV RX7 82 RX7 yX7_no wsX7_no) := goodIn_app (goodIn_of _ (by decide +kernel)) ggX7_judge_X7_no
set_option maxRecDepth 20000 in
theorem ggX7_judge_X7_findSlip : GoodIn wsX7_judge wsX7_findSlip := goodIn_r _ [17, 18, 3, 19, 20, 21, 22, 7, 23, 24, 25, 26, 27, 28, 29, 30, 31, 32, 33, 34, 35, 36, 37, 38, 39, 40, 41, 42, 43, 44, 45, 46, 47, 48, 49, 50, 51, 52, 53, 54, 55, 56, 2, 57, 58, 59, 60, 61, 62, 63, 64, 65, 66, 67, 68, 69, 70, 71, 72, 73, 74, 75, 76, 77, 78, 79, 80, 81, 82, 83, 84, 85, 86, 87, 88, 89, 90, 91, 92, 93, 94, 95, 96, 97, 98, 99, 100, 101, 102, 103, 104, 105, 106, 107, 108, 109, 110, 111] (by decide +kernel) (by decide +kernel)
set_option maxRecDepth 20000 in
theorem gX7_judge_X7_findSlip : GoodIn wsX7_judge (wsV RX7 214 RX7 yX7_findSlip wsX7_findSlip) := goodIn_app (goodIn_of _ (by decide +kernel)) ggX7_judge_X7_findSlip
theorem dX7_judge_0 : decode cX7_judge 0 = .ok (.iload_n 1, 1) := by decide +kernel
theorem dX7_judge_1 : decode cX7_judge 1 = .ok (.invokestatic 71, 3) := by decide +kernel
theorem dX7_judge_4 : decode cX7_judge 4 = .ok (.ifCond .ne 9, 3) := by decide +kernel
theorem dX7_judge_7 : decode cX7_judge 7 = .ok (.aload_n 0, 1) := by decide +kernel
theorem dX7_judge_8 : decode cX7_judge 8 = .ok (.iconst (-1), 1) := by decide +kernel
theorem dX7_judge_9 : decode cX7_judge 9 = .ok (.invokevirtual 82, 3) := by decide +kernel
theorem dX7_judge_12 : decode cX7_judge 12 = .ok (.ireturn, 1) := by decide +kernel
theorem dX7_judge_13 : decode cX7_judge 13 = .ok (.aload_n 0, 1) := by decide +kernel
theorem dX7_judge_14 : decode cX7_judge 14 = .ok (.getfield 262, 3) := by decide +kernel
theorem dX7_judge_17 : decode cX7_judge 17 = .ok (.istore_n 2, 1) := by decide +kernel
theorem dX7_judge_18 : decode cX7_judge 18 = .ok (.aload_n 0, 1) := by decide +kernel
theorem dX7_judge_19 : decode cX7_judge 19 = .ok (.iconst 0, 1) := by decide +kernel
theorem dX7_judge_20 : decode cX7_judge 20 = .ok (.putfield 262, 3) := by decide +kernel
theorem dX7_judge_23 : decode cX7_judge 23 = .ok (.aload_n 0, 1) := by decide +kernel
theorem dX7_judge_24 : decode cX7_judge 24 = .ok (.getfield 13, 3) := by decide +kernel
theorem dX7_judge_27 : decode cX7_judge 27 = .ok (.iconst 0, 1) := by decide +kernel
theorem dX7_judge_28 : decode cX7_judge 28 = .ok (.iaload, 1) := by decide +kernel
theorem dX7_judge_29 : decode cX7_judge 29 = .ok (.istore_n 3, 1) := by decide +kernel
theorem dX7_judge_30 : decode cX7_judge 30 = .ok (.bipush (-9), 2) := by decide +kernel
theorem dX7_judge_32 : decode cX7_judge 32 = .ok (.istore 4, 2) := by decide +kernel
theorem dX7_judge_34 : decode cX7_judge 34 = .ok (.iconst 0, 1) := by decide +kernel
theorem dX7_judge_35 : decode cX7_judge 35 = .ok (.istore 5, 2) := by decide +kernel
theorem dX7_judge_37 : decode cX7_judge 37 = .ok (.iload 5, 2) := by decide +kernel
theorem dX7_judge_39 : decode cX7_judge 39 = .ok (.iload_n 2, 1) := by decide +kernel
theorem dX7_judge_40 : decode cX7_judge 40 = .ok (.if_icmp .ge 62, 3) := by decide +kernel
theorem dX7_judge_43 : decode cX7_judge 43 = .ok (.iload 4, 2) := by decide +kernel
theorem dX7_judge_45 : decode cX7_judge 45 = .ok (.ifCond .ge 57, 3) := by decide +kernel
theorem dX7_judge_48 : decode cX7_judge 48 = .ok (.aload_n 0, 1) := by decide +kernel
theorem dX7_judge_49 : decode cX7_judge 49 = .ok (.getfield 13, 3) := by decide +kernel
theorem dX7_judge_52 : decode cX7_judge 52 = .ok (.iconst 0, 1) := by decide +kernel
theorem dX7_judge_53 : decode cX7_judge 53 = .ok (.iload 5, 2) := by decide +kernel
theorem dX7_judge_55 : decode cX7_judge 55 = .ok (.iastore, 1) := by decide +kernel
theorem dX7_judge_56 : decode cX7_judge 56 = .ok (.aload_n 0, 1) := by decide +kernel
theorem dX7_judge_57 : decode cX7_judge 57 = .ok (.iload_n 1, 1) := by decide +kernel
theorem dX7_judge_58 : decode cX7_judge 58 = .ok (.invokevirtual 214, 3) := by decide +kernel
theorem dX7_judge_61 : decode cX7_judge 61 = .ok (.aload_n 0, 1) := by decide +kernel
theorem dX7_judge_62 : decode cX7_judge 62 = .ok (.getfield 208, 3) := by decide +kernel
theorem dX7_judge_65 : decode cX7_judge 65 = .ok (.ifCond .ge 8, 3) := by decide +kernel
theorem dX7_judge_68 : decode cX7_judge 68 = .ok (.bipush 99, 2) := by decide +kernel
theorem dX7_judge_70 : decode cX7_judge 70 = .ok (.goto 7, 3) := by decide +kernel
theorem dX7_judge_73 : decode cX7_judge 73 = .ok (.aload_n 0, 1) := by decide +kernel
theorem dX7_judge_74 : decode cX7_judge 74 = .ok (.getfield 208, 3) := by decide +kernel
theorem dX7_judge_77 : decode cX7_judge 77 = .ok (.aload_n 0, 1) := by decide +kernel
theorem dX7_judge_78 : decode cX7_judge 78 = .ok (.getfield 61, 3) := by decide +kernel
theorem dX7_judge_81 : decode cX7_judge 81 = .ok (.iload 5, 2) := by decide +kernel
theorem dX7_judge_83 : decode cX7_judge 83 = .ok (.iaload, 1) := by decide +kernel
theorem dX7_judge_84 : decode cX7_judge 84 = .ok (.if_icmp .ne 8, 3) := by decide +kernel
theorem dX7_judge_87 : decode cX7_judge 87 = .ok (.bipush (-9), 2) := by decide +kernel
theorem dX7_judge_89 : decode cX7_judge 89 = .ok (.goto 5, 3) := by decide +kernel
theorem dX7_judge_92 : decode cX7_judge 92 = .ok (.iload 5, 2) := by decide +kernel
theorem dX7_judge_94 : decode cX7_judge 94 = .ok (.istore 4, 2) := by decide +kernel
theorem dX7_judge_96 : decode cX7_judge 96 = .ok (.iinc 5 1, 3) := by decide +kernel
theorem dX7_judge_99 : decode cX7_judge 99 = .ok (.goto (-62), 3) := by decide +kernel
theorem dX7_judge_102 : decode cX7_judge 102 = .ok (.aload_n 0, 1) := by decide +kernel
theorem dX7_judge_103 : decode cX7_judge 103 = .ok (.getfield 13, 3) := by decide +kernel
theorem dX7_judge_106 : decode cX7_judge 106 = .ok (.iconst 0, 1) := by decide +kernel
theorem dX7_judge_107 : decode cX7_judge 107 = .ok (.iload_n 3, 1) := by decide +kernel
theorem dX7_judge_108 : decode cX7_judge 108 = .ok (.iastore, 1) := by decide +kernel
theorem dX7_judge_109 : decode cX7_judge 109 = .ok (.iload 4, 2) := by decide +kernel
theorem dX7_judge_111 : decode cX7_judge 111 = .ok (.ireturn, 1) := by decide +kernel
theorem dX7_draw_0 : decode cX7_draw 0 = .ok (.aload_n 0, 1) := by decide +kernel
theorem dX7_draw_1 : decode cX7_draw 1 = .ok (.aload_n 0, 1) := by decide +kernel
theorem dX7_draw_2 : decode cX7_draw 2 = .ok (.getfield 271, 3) := by decide +kernel
theorem dX7_draw_5 : decode cX7_draw 5 = .ok (.ldc_w 274, 3) := by decide +kernel
theorem dX7_draw_8 : decode cX7_draw 8 = .ok (.imul, 1) := by decide +kernel
theorem dX7_draw_9 : decode cX7_draw 9 = .ok (.ldc_w 275, 3) := by decide +kernel
theorem dX7_draw_12 : decode cX7_draw 12 = .ok (.iadd, 1) := by decide +kernel
theorem dX7_draw_13 : decode cX7_draw 13 = .ok (.putfield 271, 3) := by decide +kernel
theorem dX7_draw_16 : decode cX7_draw 16 = .ok (.aload_n 0, 1) := by decide +kernel
theorem dX7_draw_17 : decode cX7_draw 17 = .ok (.getfield 271, 3) := by decide +kernel
theorem dX7_draw_20 : decode cX7_draw 20 = .ok (.ldc_w 276, 3) := by decide +kernel
theorem dX7_draw_23 : decode cX7_draw 23 = .ok (.iand, 1) := by decide +kernel
theorem dX7_draw_24 : decode cX7_draw 24 = .ok (.sipush 256, 3) := by decide +kernel
theorem dX7_draw_27 : decode cX7_draw 27 = .ok (.idiv, 1) := by decide +kernel
theorem dX7_draw_28 : decode cX7_draw 28 = .ok (.iload_n 1, 1) := by decide +kernel
theorem dX7_draw_29 : decode cX7_draw 29 = .ok (.irem, 1) := by decide +kernel
theorem dX7_draw_30 : decode cX7_draw 30 = .ok (.ireturn, 1) := by decide +kernel
set_option maxRecDepth 20000 in
theorem ggX7_lots_X7_isWay : GoodIn wsX7_lots wsX7_isWay := goodIn_r _ [8] (by decide +kernel) (by decide +kernel)
set_option maxRecDepth 20000 in
theorem gX7_lots_X7_isWay : GoodIn wsX7_lots (va_wsS RX7 71 yX7_isWay wsX7_isWay) := goodIn_app (goodIn_of _ (by decide +kernel)) ggX7_lots_X7_isWay
set_option maxRecDepth 20000 in
theorem ggX7_lots_X7_bound : GoodIn wsX7_lots wsX7_bound := goodIn_r _ [11] (by decide +kernel) (by decide +kernel)
set_option maxRecDepth 20000 in
theorem gX7_lots_X7_bound : GoodIn wsX7_lots (va_wsS RX7 75 yX7_bound wsX7_bound) := goodIn_app (goodIn_of _ (by decide +kernel)) ggX7_lots_X7_bound
set_option maxRecDepth 20000 in
theorem ggX7_lots_X7_no : GoodIn wsX7_lots wsX7_no := goodIn_r _ [15, 16, 112, 113, 114, 115, 116, 117, 118, 119, 120, 121, 122, 123, 124, 125, 126, 127, 128, 129, 130, 131, 132, 133, 134, 135, 136, 137, 138, 139, 140] (by decide +kernel) (by decide +kernel)
set_option maxRecDepth 20000 in
theorem gX7_lots_X7_no : GoodIn wsX7_lots (wsV RX7 82 RX7 yX7_no wsX7_no) := goodIn_app (goodIn_of _ (by decide +kernel)) ggX7_lots_X7_no
set_option maxRecDepth 20000 in
theorem ggX7_lots_X7_passesAll : GoodIn wsX7_lots wsX7_passesAll := goodIn_r _ [20, 21, 22, 23, 24, 25, 3, 4, 26, 27, 28, 29, 30, 2, 31, 32, 33, 7, 34, 35, 36, 37, 38, 39, 112, 113, 114, 115, 116, 117, 118, 119, 120, 121, 122, 123, 124, 125, 126, 127, 128, 129, 130, 131, 132, 133, 134, 135, 136, 137, 138, 139, 140] (by decide +kernel) (by decide +kernel)
set_option maxRecDepth 20000 in
theorem gX7_lots_X7_passesAll : GoodIn wsX7_lots (wsV RX7 129 RX7 yX7_passesAll wsX7_passesAll) := goodIn_app (goodIn_of _ (by decide +kernel)) ggX7_lots_X7_passesAll
set_option maxRecDepth 20000 in
theorem ggX7_lots_X7_draw : GoodIn wsX7_lots wsX7_draw := goodIn_r _ [43, 1, 44, 45, 46, 112, 113, 114, 115, 116, 117, 118, 119, 120, 121, 122, 123, 124, 125, 126, 127, 128, 129, 130, 131, 132, 133, 134, 135, 136, 137, 138, 139, 140] (by decide +kernel) (by decide +kernel)
set_option maxRecDepth 20000 in
theorem gX7_lots_X7_draw : GoodIn wsX7_lots (wsV RX7 277 RX7 yX7_draw wsX7_draw) := goodIn_app (goodIn_of _ (by decide +kernel)) ggX7_lots_X7_draw
set_option maxRecDepth 20000 in
theorem ggX7_lots_X7_doesHold : GoodIn wsX7_lots wsX7_doesHold := goodIn_r _ [50, 51, 52, 53, 54, 7, 55, 56, 30, 57, 58, 59, 60, 2, 61, 62, 63, 64, 27, 65, 66, 67, 68, 28, 69, 70, 71, 72, 73, 74, 75, 76, 24, 77, 78, 79, 80, 3, 81, 82, 83, 84, 85, 86, 87, 88, 23, 89, 90, 91, 92, 26, 93, 94, 95, 96, 25, 97, 98, 99, 100, 101, 102, 103, 4, 104, 105, 106, 107, 108, 109, 110, 111, 112, 113, 114, 115, 116, 117, 118, 119, 120, 121, 122, 123, 124, 125, 126, 127, 128, 129, 130, 131, 132, 133, 134, 135, 136, 137, 138, 139, 140] (by decide +kernel) (by decide +kernel)
set_option maxRecDepth 20000 in
theorem gX7_lots_X7_doesHold : GoodIn wsX7_lots (wsV RX7 221 RX7 yX7_doesHold wsX7_doesHold) := goodIn_app (goodIn_of _ (by decide +kernel)) ggX7_lots_X7_doesHold
theorem dX7_lots_0 : decode cX7_lots 0 = .ok (.iload_n 1, 1) := by decide +kernel
theorem dX7_lots_1 : decode cX7_lots 1 = .ok (.invokestatic 71, 3) := by decide +kernel
theorem dX7_lots_4 : decode cX7_lots 4 = .ok (.ifCond .ne 7, 3) := by decide +kernel
theorem dX7_lots_7 : decode cX7_lots 7 = .ok (.iconst (-1), 1) := by decide +kernel
theorem dX7_lots_8 : decode cX7_lots 8 = .ok (.goto 10, 3) := by decide +kernel
theorem dX7_lots_11 : decode cX7_lots 11 = .ok (.iload_n 2, 1) := by decide +kernel
theorem dX7_lots_12 : decode cX7_lots 12 = .ok (.iconst 1, 1) := by decide +kernel
theorem dX7_lots_13 : decode cX7_lots 13 = .ok (.bipush 30, 2) := by decide +kernel
theorem dX7_lots_15 : decode cX7_lots 15 = .ok (.invokestatic 75, 3) := by decide +kernel
theorem dX7_lots_18 : decode cX7_lots 18 = .ok (.istore 4, 2) := by decide +kernel
theorem dX7_lots_20 : decode cX7_lots 20 = .ok (.iload 4, 2) := by decide +kernel
theorem dX7_lots_22 : decode cX7_lots 22 = .ok (.ifCond .eq 10, 3) := by decide +kernel
theorem dX7_lots_25 : decode cX7_lots 25 = .ok (.aload_n 0, 1) := by decide +kernel
theorem dX7_lots_26 : decode cX7_lots 26 = .ok (.iload 4, 2) := by decide +kernel
theorem dX7_lots_28 : decode cX7_lots 28 = .ok (.invokevirtual 82, 3) := by decide +kernel
theorem dX7_lots_31 : decode cX7_lots 31 = .ok (.ireturn, 1) := by decide +kernel
theorem dX7_lots_32 : decode cX7_lots 32 = .ok (.aload_n 0, 1) := by decide +kernel
theorem dX7_lots_33 : decode cX7_lots 33 = .ok (.iconst 1, 1) := by decide +kernel
theorem dX7_lots_34 : decode cX7_lots 34 = .ok (.iconst 1, 1) := by decide +kernel
theorem dX7_lots_35 : decode cX7_lots 35 = .ok (.invokevirtual 129, 3) := by decide +kernel
theorem dX7_lots_38 : decode cX7_lots 38 = .ok (.aload_n 0, 1) := by decide +kernel
theorem dX7_lots_39 : decode cX7_lots 39 = .ok (.iload_n 3, 1) := by decide +kernel
theorem dX7_lots_40 : decode cX7_lots 40 = .ok (.putfield 271, 3) := by decide +kernel
theorem dX7_lots_43 : decode cX7_lots 43 = .ok (.iconst 0, 1) := by decide +kernel
theorem dX7_lots_44 : decode cX7_lots 44 = .ok (.istore 5, 2) := by decide +kernel
theorem dX7_lots_46 : decode cX7_lots 46 = .ok (.iconst 0, 1) := by decide +kernel
theorem dX7_lots_47 : decode cX7_lots 47 = .ok (.istore 6, 2) := by decide +kernel
theorem dX7_lots_49 : decode cX7_lots 49 = .ok (.iload 6, 2) := by decide +kernel
theorem dX7_lots_51 : decode cX7_lots 51 = .ok (.iload_n 2, 1) := by decide +kernel
theorem dX7_lots_52 : decode cX7_lots 52 = .ok (.if_icmp .ge 73, 3) := by decide +kernel
theorem dX7_lots_55 : decode cX7_lots 55 = .ok (.iconst 0, 1) := by decide +kernel
theorem dX7_lots_56 : decode cX7_lots 56 = .ok (.istore 7, 2) := by decide +kernel
theorem dX7_lots_58 : decode cX7_lots 58 = .ok (.iload 7, 2) := by decide +kernel
theorem dX7_lots_60 : decode cX7_lots 60 = .ok (.aload_n 0, 1) := by decide +kernel
theorem dX7_lots_61 : decode cX7_lots 61 = .ok (.getfield 67, 3) := by decide +kernel
theorem dX7_lots_64 : decode cX7_lots 64 = .ok (.if_icmp .ge 37, 3) := by decide +kernel
theorem dX7_lots_67 : decode cX7_lots 67 = .ok (.aload_n 0, 1) := by decide +kernel
theorem dX7_lots_68 : decode cX7_lots 68 = .ok (.getfield 22, 3) := by decide +kernel
theorem dX7_lots_71 : decode cX7_lots 71 = .ok (.iload 7, 2) := by decide +kernel
theorem dX7_lots_73 : decode cX7_lots 73 = .ok (.aload_n 0, 1) := by decide +kernel
theorem dX7_lots_74 : decode cX7_lots 74 = .ok (.bipush 10, 2) := by decide +kernel
theorem dX7_lots_76 : decode cX7_lots 76 = .ok (.invokevirtual 277, 3) := by decide +kernel
theorem dX7_lots_79 : decode cX7_lots 79 = .ok (.iastore, 1) := by decide +kernel
theorem dX7_lots_80 : decode cX7_lots 80 = .ok (.aload_n 0, 1) := by decide +kernel
theorem dX7_lots_81 : decode cX7_lots 81 = .ok (.getfield 25, 3) := by decide +kernel
theorem dX7_lots_84 : decode cX7_lots 84 = .ok (.iload 7, 2) := by decide +kernel
theorem dX7_lots_86 : decode cX7_lots 86 = .ok (.aload_n 0, 1) := by decide +kernel
theorem dX7_lots_87 : decode cX7_lots 87 = .ok (.bipush 11, 2) := by decide +kernel
theorem dX7_lots_89 : decode cX7_lots 89 = .ok (.invokevirtual 277, 3) := by decide +kernel
theorem dX7_lots_92 : decode cX7_lots 92 = .ok (.iconst 5, 1) := by decide +kernel
theorem dX7_lots_93 : decode cX7_lots 93 = .ok (.isub, 1) := by decide +kernel
theorem dX7_lots_94 : decode cX7_lots 94 = .ok (.iastore, 1) := by decide +kernel
theorem dX7_lots_95 : decode cX7_lots 95 = .ok (.iinc 7 1, 3) := by decide +kernel
theorem dX7_lots_98 : decode cX7_lots 98 = .ok (.goto (-40), 3) := by decide +kernel
theorem dX7_lots_101 : decode cX7_lots 101 = .ok (.iload 5, 2) := by decide +kernel
theorem dX7_lots_103 : decode cX7_lots 103 = .ok (.aload_n 0, 1) := by decide +kernel
theorem dX7_lots_104 : decode cX7_lots 104 = .ok (.iload_n 1, 1) := by decide +kernel
theorem dX7_lots_105 : decode cX7_lots 105 = .ok (.invokevirtual 221, 3) := by decide +kernel
theorem dX7_lots_108 : decode cX7_lots 108 = .ok (.ifCond .eq 7, 3) := by decide +kernel
theorem dX7_lots_111 : decode cX7_lots 111 = .ok (.iconst 1, 1) := by decide +kernel
theorem dX7_lots_112 : decode cX7_lots 112 = .ok (.goto 4, 3) := by decide +kernel
theorem dX7_lots_115 : decode cX7_lots 115 = .ok (.iconst 0, 1) := by decide +kernel
theorem dX7_lots_116 : decode cX7_lots 116 = .ok (.iadd, 1) := by decide +kernel
theorem dX7_lots_117 : decode cX7_lots 117 = .ok (.istore 5, 2) := by decide +kernel
theorem dX7_lots_119 : decode cX7_lots 119 = .ok (.iinc 6 1, 3) := by decide +kernel
theorem dX7_lots_122 : decode cX7_lots 122 = .ok (.goto (-73), 3) := by decide +kernel
theorem dX7_lots_125 : decode cX7_lots 125 = .ok (.aload_n 0, 1) := by decide +kernel
theorem dX7_lots_126 : decode cX7_lots 126 = .ok (.iconst 1, 1) := by decide +kernel
theorem dX7_lots_127 : decode cX7_lots 127 = .ok (.iconst 0, 1) := by decide +kernel
theorem dX7_lots_128 : decode cX7_lots 128 = .ok (.invokevirtual 129, 3) := by decide +kernel
theorem dX7_lots_131 : decode cX7_lots 131 = .ok (.iload 5, 2) := by decide +kernel
theorem dX7_lots_133 : decode cX7_lots 133 = .ok (.ireturn, 1) := by decide +kernel
set_option maxRecDepth 20000 in
theorem ggX7_allWeight_X7_loadOf : GoodIn wsX7_allWeight wsX7_loadOf := goodIn_r _ [6, 1, 7, 8, 9, 5, 10, 11, 12, 13, 14, 15, 16, 17, 18, 19, 20, 21, 22, 23, 24, 25, 26, 27, 28, 29, 30, 31, 32, 33, 34, 35, 36, 37, 38, 39, 40, 41] (by decide +kernel) (by decide +kernel)
set_option maxRecDepth 20000 in
theorem gX7_allWeight_X7_loadOf : GoodIn wsX7_allWeight (wsV RX7 177 RX7 yX7_loadOf wsX7_loadOf) := goodIn_app (goodIn_of _ (by decide +kernel)) ggX7_allWeight_X7_loadOf
theorem dX7_allWeight_0 : decode cX7_allWeight 0 = .ok (.aload_n 0, 1) := by decide +kernel
theorem dX7_allWeight_1 : decode cX7_allWeight 1 = .ok (.getfield 67, 3) := by decide +kernel
theorem dX7_allWeight_4 : decode cX7_allWeight 4 = .ok (.ifCond .ne 7, 3) := by decide +kernel
theorem dX7_allWeight_7 : decode cX7_allWeight 7 = .ok (.iconst 0, 1) := by decide +kernel
theorem dX7_allWeight_8 : decode cX7_allWeight 8 = .ok (.goto 8, 3) := by decide +kernel
theorem dX7_allWeight_11 : decode cX7_allWeight 11 = .ok (.aload_n 0, 1) := by decide +kernel
theorem dX7_allWeight_12 : decode cX7_allWeight 12 = .ok (.iconst 0, 1) := by decide +kernel
theorem dX7_allWeight_13 : decode cX7_allWeight 13 = .ok (.invokevirtual 177, 3) := by decide +kernel
theorem dX7_allWeight_16 : decode cX7_allWeight 16 = .ok (.ireturn, 1) := by decide +kernel
set_option maxRecDepth 20000 in
theorem ggX7_count_X7_isIn : GoodIn wsX7_count wsX7_isIn := goodIn_r _ [10] (by decide +kernel) (by decide +kernel)
set_option maxRecDepth 20000 in
theorem gX7_count_X7_isIn : GoodIn wsX7_count (va_wsS RX7 93 yX7_isIn wsX7_isIn) := goodIn_app (goodIn_of _ (by decide +kernel)) ggX7_count_X7_isIn
set_option maxRecDepth 20000 in
theorem ggX7_count_X7_heightNow : GoodIn wsX7_count wsX7_heightNow := goodIn_r _ [14, 2, 15, 16, 17, 9, 18, 19, 46, 47, 48, 49, 50, 51, 52, 53, 54, 55, 56, 57, 58, 59, 60, 61, 62, 63, 64, 65, 66, 67, 68, 69, 70, 71, 72, 73, 74] (by decide +kernel) (by decide +kernel)
set_option maxRecDepth 20000 in
theorem gX7_count_X7_heightNow : GoodIn wsX7_count (wsV RX7 190 RX7 yX7_heightNow wsX7_heightNow) := goodIn_app (goodIn_of _ (by decide +kernel)) ggX7_count_X7_heightNow
set_option maxRecDepth 20000 in
theorem ggX7_count_X7_widthNow : GoodIn wsX7_count wsX7_widthNow := goodIn_r _ [23, 2, 24, 25, 26, 27, 9, 28, 46, 47, 48, 49, 50, 51, 52, 53, 54, 55, 56, 57, 58, 59, 60, 61, 62, 63, 64, 65, 66, 67, 68, 69, 70, 71, 72, 73, 74] (by decide +kernel) (by decide +kernel)
set_option maxRecDepth 20000 in
theorem gX7_count_X7_widthNow : GoodIn wsX7_count (wsV RX7 193 RX7 yX7_widthNow wsX7_widthNow) := goodIn_app (goodIn_of _ (by decide +kernel)) ggX7_count_X7_widthNow
set_option maxRecDepth 20000 in
theorem ggX7_count_X7_allWeight : GoodIn wsX7_count wsX7_allWeight := goodIn_r _ [32, 2, 33, 34, 35, 9, 36, 37, 38, 39, 40, 19, 41, 46, 47, 48, 49, 50, 51, 52, 53, 54, 55, 56, 57, 58, 59, 60, 61, 62, 63, 64, 65, 66, 67, 68, 69, 70, 71, 72, 73, 74] (by decide +kernel) (by decide +kernel)
set_option maxRecDepth 20000 in
theorem gX7_count_X7_allWeight : GoodIn wsX7_count (wsV RX7 280 RX7 yX7_allWeight wsX7_allWeight) := goodIn_app (goodIn_of _ (by decide +kernel)) ggX7_count_X7_allWeight
set_option maxRecDepth 20000 in
theorem ggX7_count_X7_allSheaves : GoodIn wsX7_count wsX7_allSheaves := goodIn_r _ [45, 2, 41, 46, 47, 48, 49, 50, 51, 52, 53, 54, 55, 56, 57, 58, 59, 60, 61, 62, 63, 64, 65, 66, 67, 68, 69, 70, 71, 72, 73, 74] (by decide +kernel) (by decide +kernel)
set_option maxRecDepth 20000 in
theorem gX7_count_X7_allSheaves : GoodIn wsX7_count (wsV RX7 236 RX7 yX7_allSheaves wsX7_allSheaves) := goodIn_app (goodIn_of _ (by decide +kernel)) ggX7_count_X7_allSheaves
theorem dX7_count_0 : decode cX7_count 0 = .ok (.iload_n 1, 1) := by decide +kernel
theorem dX7_count_1 : decode cX7_count 1 = .ok (.bipush 11, 2) := by decide +kernel
theorem dX7_count_3 : decode cX7_count 3 = .ok (.bipush 16, 2) := by decide +kernel
theorem dX7_count_5 : decode cX7_count 5 = .ok (.invokestatic 93, 3) := by decide +kernel
theorem dX7_count_8 : decode cX7_count 8 = .ok (.ifCond .eq 13, 3) := by decide +kernel
theorem dX7_count_11 : decode cX7_count 11 = .ok (.aload_n 0, 1) := by decide +kernel
theorem dX7_count_12 : decode cX7_count 12 = .ok (.getfield 7, 3) := by decide +kernel
theorem dX7_count_15 : decode cX7_count 15 = .ok (.iload_n 1, 1) := by decide +kernel
theorem dX7_count_16 : decode cX7_count 16 = .ok (.bipush 10, 2) := by decide +kernel
theorem dX7_count_18 : decode cX7_count 18 = .ok (.isub, 1) := by decide +kernel
theorem dX7_count_19 : decode cX7_count 19 = .ok (.iaload, 1) := by decide +kernel
theorem dX7_count_20 : decode cX7_count 20 = .ok (.ireturn, 1) := by decide +kernel
theorem dX7_count_21 : decode cX7_count 21 = .ok (.iload_n 1, 1) := by decide +kernel
theorem dX7_count_22 : decode cX7_count 22 = .ok (.tableswitch 105 0 9 #[54, 59, 59, 68, 73, 78, 83, 88, 95, 100], 54) := by decide +kernel
theorem dX7_count_76 : decode cX7_count 76 = .ok (.aload_n 0, 1) := by decide +kernel
theorem dX7_count_77 : decode cX7_count 77 = .ok (.getfield 67, 3) := by decide +kernel
theorem dX7_count_80 : decode cX7_count 80 = .ok (.ireturn, 1) := by decide +kernel
theorem dX7_count_81 : decode cX7_count 81 = .ok (.aload_n 0, 1) := by decide +kernel
theorem dX7_count_82 : decode cX7_count 82 = .ok (.getfield 40, 3) := by decide +kernel
theorem dX7_count_85 : decode cX7_count 85 = .ok (.iload_n 1, 1) := by decide +kernel
theorem dX7_count_86 : decode cX7_count 86 = .ok (.iconst 1, 1) := by decide +kernel
theorem dX7_count_87 : decode cX7_count 87 = .ok (.isub, 1) := by decide +kernel
theorem dX7_count_88 : decode cX7_count 88 = .ok (.iaload, 1) := by decide +kernel
theorem dX7_count_89 : decode cX7_count 89 = .ok (.ireturn, 1) := by decide +kernel
theorem dX7_count_90 : decode cX7_count 90 = .ok (.aload_n 0, 1) := by decide +kernel
theorem dX7_count_91 : decode cX7_count 91 = .ok (.invokevirtual 190, 3) := by decide +kernel
theorem dX7_count_94 : decode cX7_count 94 = .ok (.ireturn, 1) := by decide +kernel
theorem dX7_count_95 : decode cX7_count 95 = .ok (.aload_n 0, 1) := by decide +kernel
theorem dX7_count_96 : decode cX7_count 96 = .ok (.invokevirtual 193, 3) := by decide +kernel
theorem dX7_count_99 : decode cX7_count 99 = .ok (.ireturn, 1) := by decide +kernel
theorem dX7_count_100 : decode cX7_count 100 = .ok (.aload_n 0, 1) := by decide +kernel
theorem dX7_count_101 : decode cX7_count 101 = .ok (.invokevirtual 280, 3) := by decide +kernel
theorem dX7_count_104 : decode cX7_count 104 = .ok (.ireturn, 1) := by decide +kernel
theorem dX7_count_105 : decode cX7_count 105 = .ok (.aload_n 0, 1) := by decide +kernel
theorem dX7_count_106 : decode cX7_count 106 = .ok (.invokevirtual 236, 3) := by decide +kernel
theorem dX7_count_109 : decode cX7_count 109 = .ok (.ireturn, 1) := by decide +kernel
theorem dX7_count_110 : decode cX7_count 110 = .ok (.aload_n 0, 1) := by decide +kernel
theorem dX7_count_111 : decode cX7_count 111 = .ok (.getfield 13, 3) := by decide +kernel
theorem dX7_count_114 : decode cX7_count 114 = .ok (.iconst 0, 1) := by decide +kernel
theorem dX7_count_115 : decode cX7_count 115 = .ok (.iaload, 1) := by decide +kernel
theorem dX7_count_116 : decode cX7_count 116 = .ok (.ireturn, 1) := by decide +kernel
theorem dX7_count_117 : decode cX7_count 117 = .ok (.aload_n 0, 1) := by decide +kernel
theorem dX7_count_118 : decode cX7_count 118 = .ok (.getfield 262, 3) := by decide +kernel
theorem dX7_count_121 : decode cX7_count 121 = .ok (.ireturn, 1) := by decide +kernel
theorem dX7_count_122 : decode cX7_count 122 = .ok (.aload_n 0, 1) := by decide +kernel
theorem dX7_count_123 : decode cX7_count 123 = .ok (.getfield 79, 3) := by decide +kernel
theorem dX7_count_126 : decode cX7_count 126 = .ok (.ireturn, 1) := by decide +kernel
theorem dX7_count_127 : decode cX7_count 127 = .ok (.bipush (-9), 2) := by decide +kernel
theorem dX7_count_129 : decode cX7_count 129 = .ok (.ireturn, 1) := by decide +kernel
