set_option maxRecDepth 20000 in
theorem ggX7_init_X7_begins : GoodIn wsX7_init wsX7_begins := goodIn_r _ [31, 6, 13, 14, 57, 58, 59, 60, 61, 62, 63, 64, 65, 66, 67, 68, 69, 70, 71, 72, 73, 74, 75, 76, 77, 78, 79, 80, 81, 82, 83, 84, 85, 86, 87, 88, 89, 90, 91] rfl (by decide +kernel)
set_option maxRecDepth 20000 in
theorem gX7_init_X7_begins : GoodIn wsX7_init (wsV RX7 74 RX7 yX7_begins wsX7_begins) := goodIn_app (goodIn_of _ (by decide +kernel)) ggX7_init_X7_begins
set_option maxRecDepth 20000 in
theorem ggX7_init_X7_settles : GoodIn wsX7_init wsX7_settles := goodIn_r _ [35, 6, 16, 7, 8, 9, 10, 11, 12, 13, 14, 36, 37, 38, 39, 19, 40, 41, 42, 30, 43, 44, 45, 46, 47, 48, 15, 49, 50, 51, 52, 53, 54, 55, 56, 57, 58, 59, 60, 61, 62, 63, 64, 65, 66, 67, 68, 69, 70, 71, 72, 73, 74, 75, 76, 77, 78, 79, 80, 81, 82, 83, 84, 85, 86, 87, 88, 89, 90, 91] rfl (by decide +kernel)
set_option maxRecDepth 20000 in
theorem gX7_init_X7_settles : GoodIn wsX7_init (wsV RX7 77 RX7 yX7_settles wsX7_settles) := goodIn_app (goodIn_of _ (by decide +kernel)) ggX7_init_X7_settles
theorem dX7_init_0 : decode cX7_init 0 = .ok (.aload_n 0, 1) := by decide +kernel
theorem dX7_init_1 : decode cX7_init 1 = .ok (.invokespecial 1, 3) := by decide +kernel
theorem dX7_init_4 : decode cX7_init 4 = .ok (.aload_n 0, 1) := by decide +kernel
theorem dX7_init_5 : decode cX7_init 5 = .ok (.sipush 180, 3) := by decide +kernel
theorem dX7_init_8 : decode cX7_init 8 = .ok (.newarray .int, 2) := by decide +kernel
theorem dX7_init_10 : decode cX7_init 10 = .ok (.putfield 7, 3) := by decide +kernel
theorem dX7_init_13 : decode cX7_init 13 = .ok (.aload_n 0, 1) := by decide +kernel
theorem dX7_init_14 : decode cX7_init 14 = .ok (.iconst 4, 1) := by decide +kernel
theorem dX7_init_15 : decode cX7_init 15 = .ok (.newarray .int, 2) := by decide +kernel
theorem dX7_init_17 : decode cX7_init 17 = .ok (.putfield 13, 3) := by decide +kernel
theorem dX7_init_20 : decode cX7_init 20 = .ok (.aload_n 0, 1) := by decide +kernel
theorem dX7_init_21 : decode cX7_init 21 = .ok (.bipush 18, 2) := by decide +kernel
theorem dX7_init_23 : decode cX7_init 23 = .ok (.newarray .int, 2) := by decide +kernel
theorem dX7_init_25 : decode cX7_init 25 = .ok (.putfield 16, 3) := by decide +kernel
theorem dX7_init_28 : decode cX7_init 28 = .ok (.aload_n 0, 1) := by decide +kernel
theorem dX7_init_29 : decode cX7_init 29 = .ok (.bipush 18, 2) := by decide +kernel
theorem dX7_init_31 : decode cX7_init 31 = .ok (.newarray .int, 2) := by decide +kernel
theorem dX7_init_33 : decode cX7_init 33 = .ok (.putfield 19, 3) := by decide +kernel
theorem dX7_init_36 : decode cX7_init 36 = .ok (.aload_n 0, 1) := by decide +kernel
theorem dX7_init_37 : decode cX7_init 37 = .ok (.bipush 18, 2) := by decide +kernel
theorem dX7_init_39 : decode cX7_init 39 = .ok (.newarray .int, 2) := by decide +kernel
theorem dX7_init_41 : decode cX7_init 41 = .ok (.putfield 22, 3) := by decide +kernel
theorem dX7_init_44 : decode cX7_init 44 = .ok (.aload_n 0, 1) := by decide +kernel
theorem dX7_init_45 : decode cX7_init 45 = .ok (.bipush 12, 2) := by decide +kernel
theorem dX7_init_47 : decode cX7_init 47 = .ok (.newarray .int, 2) := by decide +kernel
theorem dX7_init_49 : decode cX7_init 49 = .ok (.putfield 25, 3) := by decide +kernel
theorem dX7_init_52 : decode cX7_init 52 = .ok (.aload_n 0, 1) := by decide +kernel
theorem dX7_init_53 : decode cX7_init 53 = .ok (.bipush 12, 2) := by decide +kernel
theorem dX7_init_55 : decode cX7_init 55 = .ok (.newarray .int, 2) := by decide +kernel
theorem dX7_init_57 : decode cX7_init 57 = .ok (.putfield 28, 3) := by decide +kernel
theorem dX7_init_60 : decode cX7_init 60 = .ok (.aload_n 0, 1) := by decide +kernel
theorem dX7_init_61 : decode cX7_init 61 = .ok (.bipush 12, 2) := by decide +kernel
theorem dX7_init_63 : decode cX7_init 63 = .ok (.newarray .int, 2) := by decide +kernel
theorem dX7_init_65 : decode cX7_init 65 = .ok (.putfield 31, 3) := by decide +kernel
theorem dX7_init_68 : decode cX7_init 68 = .ok (.aload_n 0, 1) := by decide +kernel
theorem dX7_init_69 : decode cX7_init 69 = .ok (.bipush 10, 2) := by decide +kernel
theorem dX7_init_71 : decode cX7_init 71 = .ok (.newarray .int, 2) := by decide +kernel
theorem dX7_init_73 : decode cX7_init 73 = .ok (.putfield 34, 3) := by decide +kernel
theorem dX7_init_76 : decode cX7_init 76 = .ok (.aload_n 0, 1) := by decide +kernel
theorem dX7_init_77 : decode cX7_init 77 = .ok (.bipush 10, 2) := by decide +kernel
theorem dX7_init_79 : decode cX7_init 79 = .ok (.newarray .int, 2) := by decide +kernel
theorem dX7_init_81 : decode cX7_init 81 = .ok (.putfield 37, 3) := by decide +kernel
theorem dX7_init_84 : decode cX7_init 84 = .ok (.aload_n 0, 1) := by decide +kernel
theorem dX7_init_85 : decode cX7_init 85 = .ok (.iconst 5, 1) := by decide +kernel
theorem dX7_init_86 : decode cX7_init 86 = .ok (.newarray .int, 2) := by decide +kernel
theorem dX7_init_88 : decode cX7_init 88 = .ok (.putfield 40, 3) := by decide +kernel
theorem dX7_init_91 : decode cX7_init 91 = .ok (.aload_n 0, 1) := by decide +kernel
theorem dX7_init_92 : decode cX7_init 92 = .ok (.bipush 23, 2) := by decide +kernel
theorem dX7_init_94 : decode cX7_init 94 = .ok (.newarray .int, 2) := by decide +kernel
theorem dX7_init_96 : decode cX7_init 96 = .ok (.putfield 43, 3) := by decide +kernel
theorem dX7_init_99 : decode cX7_init 99 = .ok (.aload_n 0, 1) := by decide +kernel
theorem dX7_init_100 : decode cX7_init 100 = .ok (.bipush 46, 2) := by decide +kernel
theorem dX7_init_102 : decode cX7_init 102 = .ok (.newarray .int, 2) := by decide +kernel
theorem dX7_init_104 : decode cX7_init 104 = .ok (.putfield 46, 3) := by decide +kernel
theorem dX7_init_107 : decode cX7_init 107 = .ok (.aload_n 0, 1) := by decide +kernel
theorem dX7_init_108 : decode cX7_init 108 = .ok (.iconst 2, 1) := by decide +kernel
theorem dX7_init_109 : decode cX7_init 109 = .ok (.newarray .boolean, 2) := by decide +kernel
theorem dX7_init_111 : decode cX7_init 111 = .ok (.putfield 49, 3) := by decide +kernel
theorem dX7_init_114 : decode cX7_init 114 = .ok (.aload_n 0, 1) := by decide +kernel
theorem dX7_init_115 : decode cX7_init 115 = .ok (.sipush 230, 3) := by decide +kernel
theorem dX7_init_118 : decode cX7_init 118 = .ok (.newarray .int, 2) := by decide +kernel
theorem dX7_init_120 : decode cX7_init 120 = .ok (.putfield 53, 3) := by decide +kernel
theorem dX7_init_123 : decode cX7_init 123 = .ok (.aload_n 0, 1) := by decide +kernel
theorem dX7_init_124 : decode cX7_init 124 = .ok (.bipush 6, 2) := by decide +kernel
theorem dX7_init_126 : decode cX7_init 126 = .ok (.newarray .int, 2) := by decide +kernel
theorem dX7_init_128 : decode cX7_init 128 = .ok (.putfield 56, 3) := by decide +kernel
theorem dX7_init_131 : decode cX7_init 131 = .ok (.aload_n 0, 1) := by decide +kernel
theorem dX7_init_132 : decode cX7_init 132 = .ok (.bipush 6, 2) := by decide +kernel
theorem dX7_init_134 : decode cX7_init 134 = .ok (.newarray .int, 2) := by decide +kernel
theorem dX7_init_136 : decode cX7_init 136 = .ok (.putfield 59, 3) := by decide +kernel
theorem dX7_init_139 : decode cX7_init 139 = .ok (.aload_n 0, 1) := by decide +kernel
theorem dX7_init_140 : decode cX7_init 140 = .ok (.bipush 6, 2) := by decide +kernel
theorem dX7_init_142 : decode cX7_init 142 = .ok (.newarray .int, 2) := by decide +kernel
theorem dX7_init_144 : decode cX7_init 144 = .ok (.putfield 62, 3) := by decide +kernel
theorem dX7_init_147 : decode cX7_init 147 = .ok (.aload_n 0, 1) := by decide +kernel
theorem dX7_init_148 : decode cX7_init 148 = .ok (.iconst 5, 1) := by decide +kernel
theorem dX7_init_149 : decode cX7_init 149 = .ok (.newarray .int, 2) := by decide +kernel
theorem dX7_init_151 : decode cX7_init 151 = .ok (.putfield 65, 3) := by decide +kernel
theorem dX7_init_154 : decode cX7_init 154 = .ok (.aload_n 0, 1) := by decide +kernel
theorem dX7_init_155 : decode cX7_init 155 = .ok (.iconst 5, 1) := by decide +kernel
theorem dX7_init_156 : decode cX7_init 156 = .ok (.newarray .int, 2) := by decide +kernel
theorem dX7_init_158 : decode cX7_init 158 = .ok (.putfield 68, 3) := by decide +kernel
theorem dX7_init_161 : decode cX7_init 161 = .ok (.aload_n 0, 1) := by decide +kernel
theorem dX7_init_162 : decode cX7_init 162 = .ok (.sipush 3584, 3) := by decide +kernel
theorem dX7_init_165 : decode cX7_init 165 = .ok (.newarray .int, 2) := by decide +kernel
theorem dX7_init_167 : decode cX7_init 167 = .ok (.putfield 71, 3) := by decide +kernel
theorem dX7_init_170 : decode cX7_init 170 = .ok (.aload_n 0, 1) := by decide +kernel
theorem dX7_init_171 : decode cX7_init 171 = .ok (.invokevirtual 74, 3) := by decide +kernel
theorem dX7_init_174 : decode cX7_init 174 = .ok (.aload_n 0, 1) := by decide +kernel
theorem dX7_init_175 : decode cX7_init 175 = .ok (.invokevirtual 77, 3) := by decide +kernel
theorem dX7_init_178 : decode cX7_init 178 = .ok (.return_, 1) := by decide +kernel
theorem dX7_in_0 : decode cX7_in 0 = .ok (.iload_n 0, 1) := by decide +kernel
theorem dX7_in_1 : decode cX7_in 1 = .ok (.iload_n 1, 1) := by decide +kernel
theorem dX7_in_2 : decode cX7_in 2 = .ok (.if_icmp .lt 12, 3) := by decide +kernel
theorem dX7_in_5 : decode cX7_in 5 = .ok (.iload_n 0, 1) := by decide +kernel
theorem dX7_in_6 : decode cX7_in 6 = .ok (.iload_n 2, 1) := by decide +kernel
theorem dX7_in_7 : decode cX7_in 7 = .ok (.if_icmp .gt 7, 3) := by decide +kernel
theorem dX7_in_10 : decode cX7_in 10 = .ok (.iconst 1, 1) := by decide +kernel
theorem dX7_in_11 : decode cX7_in 11 = .ok (.goto 4, 3) := by decide +kernel
theorem dX7_in_14 : decode cX7_in 14 = .ok (.iconst 0, 1) := by decide +kernel
theorem dX7_in_15 : decode cX7_in 15 = .ok (.ireturn, 1) := by decide +kernel
theorem dX7_ones_0 : decode cX7_ones 0 = .ok (.iconst 0, 1) := by decide +kernel
theorem dX7_ones_1 : decode cX7_ones 1 = .ok (.istore_n 1, 1) := by decide +kernel
theorem dX7_ones_2 : decode cX7_ones 2 = .ok (.iconst 0, 1) := by decide +kernel
theorem dX7_ones_3 : decode cX7_ones 3 = .ok (.istore_n 2, 1) := by decide +kernel
theorem dX7_ones_4 : decode cX7_ones 4 = .ok (.iload_n 2, 1) := by decide +kernel
theorem dX7_ones_5 : decode cX7_ones 5 = .ok (.bipush 9, 2) := by decide +kernel
theorem dX7_ones_7 : decode cX7_ones 7 = .ok (.if_icmp .ge 17, 3) := by decide +kernel
theorem dX7_ones_10 : decode cX7_ones 10 = .ok (.iload_n 1, 1) := by decide +kernel
theorem dX7_ones_11 : decode cX7_ones 11 = .ok (.iload_n 0, 1) := by decide +kernel
theorem dX7_ones_12 : decode cX7_ones 12 = .ok (.iload_n 2, 1) := by decide +kernel
theorem dX7_ones_13 : decode cX7_ones 13 = .ok (.ishr, 1) := by decide +kernel
theorem dX7_ones_14 : decode cX7_ones 14 = .ok (.iconst 1, 1) := by decide +kernel
theorem dX7_ones_15 : decode cX7_ones 15 = .ok (.iand, 1) := by decide +kernel
theorem dX7_ones_16 : decode cX7_ones 16 = .ok (.iadd, 1) := by decide +kernel
theorem dX7_ones_17 : decode cX7_ones 17 = .ok (.istore_n 1, 1) := by decide +kernel
theorem dX7_ones_18 : decode cX7_ones 18 = .ok (.iinc 2 1, 3) := by decide +kernel
theorem dX7_ones_21 : decode cX7_ones 21 = .ok (.goto (-17), 3) := by decide +kernel
theorem dX7_ones_24 : decode cX7_ones 24 = .ok (.iload_n 1, 1) := by decide +kernel
theorem dX7_ones_25 : decode cX7_ones 25 = .ok (.ireturn, 1) := by decide +kernel
set_option maxRecDepth 20000 in
theorem ggX7_type_X7_in : GoodIn wsX7_type wsX7_in := goodIn_r _ [7] rfl (by decide +kernel)
set_option maxRecDepth 20000 in
theorem gX7_type_X7_in : GoodIn wsX7_type (va_wsS RX7 84 yX7_in wsX7_in) := goodIn_app (goodIn_of _ (by decide +kernel)) ggX7_type_X7_in
theorem dX7_type_0 : decode cX7_type 0 = .ok (.aload_n 0, 1) := by decide +kernel
theorem dX7_type_1 : decode cX7_type 1 = .ok (.iconst 0, 1) := by decide +kernel
theorem dX7_type_2 : decode cX7_type 2 = .ok (.putfield 80, 3) := by decide +kernel
theorem dX7_type_5 : decode cX7_type 5 = .ok (.iload_n 1, 1) := by decide +kernel
theorem dX7_type_6 : decode cX7_type 6 = .ok (.iconst 0, 1) := by decide +kernel
theorem dX7_type_7 : decode cX7_type 7 = .ok (.sipush 255, 3) := by decide +kernel
theorem dX7_type_10 : decode cX7_type 10 = .ok (.invokestatic 84, 3) := by decide +kernel
theorem dX7_type_13 : decode cX7_type 13 = .ok (.ifCond .ne 5, 3) := by decide +kernel
theorem dX7_type_16 : decode cX7_type 16 = .ok (.iconst (-1), 1) := by decide +kernel
theorem dX7_type_17 : decode cX7_type 17 = .ok (.ireturn, 1) := by decide +kernel
theorem dX7_type_18 : decode cX7_type 18 = .ok (.aload_n 0, 1) := by decide +kernel
theorem dX7_type_19 : decode cX7_type 19 = .ok (.getfield 88, 3) := by decide +kernel
theorem dX7_type_22 : decode cX7_type 22 = .ok (.sipush 180, 3) := by decide +kernel
theorem dX7_type_25 : decode cX7_type 25 = .ok (.if_icmp .ne 6, 3) := by decide +kernel
theorem dX7_type_28 : decode cX7_type 28 = .ok (.bipush (-3), 2) := by decide +kernel
theorem dX7_type_30 : decode cX7_type 30 = .ok (.ireturn, 1) := by decide +kernel
theorem dX7_type_31 : decode cX7_type 31 = .ok (.aload_n 0, 1) := by decide +kernel
theorem dX7_type_32 : decode cX7_type 32 = .ok (.getfield 7, 3) := by decide +kernel
theorem dX7_type_35 : decode cX7_type 35 = .ok (.aload_n 0, 1) := by decide +kernel
theorem dX7_type_36 : decode cX7_type 36 = .ok (.getfield 88, 3) := by decide +kernel
theorem dX7_type_39 : decode cX7_type 39 = .ok (.iload_n 1, 1) := by decide +kernel
theorem dX7_type_40 : decode cX7_type 40 = .ok (.iastore, 1) := by decide +kernel
theorem dX7_type_41 : decode cX7_type 41 = .ok (.aload_n 0, 1) := by decide +kernel
theorem dX7_type_42 : decode cX7_type 42 = .ok (.dup, 1) := by decide +kernel
theorem dX7_type_43 : decode cX7_type 43 = .ok (.getfield 88, 3) := by decide +kernel
theorem dX7_type_46 : decode cX7_type 46 = .ok (.iconst 1, 1) := by decide +kernel
theorem dX7_type_47 : decode cX7_type 47 = .ok (.iadd, 1) := by decide +kernel
theorem dX7_type_48 : decode cX7_type 48 = .ok (.putfield 88, 3) := by decide +kernel
theorem dX7_type_51 : decode cX7_type 51 = .ok (.aload_n 0, 1) := by decide +kernel
theorem dX7_type_52 : decode cX7_type 52 = .ok (.getfield 88, 3) := by decide +kernel
theorem dX7_type_55 : decode cX7_type 55 = .ok (.ireturn, 1) := by decide +kernel
theorem dX7_clear_0 : decode cX7_clear 0 = .ok (.aload_n 0, 1) := by decide +kernel
theorem dX7_clear_1 : decode cX7_clear 1 = .ok (.iconst 0, 1) := by decide +kernel
theorem dX7_clear_2 : decode cX7_clear 2 = .ok (.putfield 80, 3) := by decide +kernel
theorem dX7_clear_5 : decode cX7_clear 5 = .ok (.aload_n 0, 1) := by decide +kernel
theorem dX7_clear_6 : decode cX7_clear 6 = .ok (.getfield 88, 3) := by decide +kernel
theorem dX7_clear_9 : decode cX7_clear 9 = .ok (.istore_n 1, 1) := by decide +kernel
theorem dX7_clear_10 : decode cX7_clear 10 = .ok (.aload_n 0, 1) := by decide +kernel
theorem dX7_clear_11 : decode cX7_clear 11 = .ok (.iconst 0, 1) := by decide +kernel
theorem dX7_clear_12 : decode cX7_clear 12 = .ok (.putfield 88, 3) := by decide +kernel
theorem dX7_clear_15 : decode cX7_clear 15 = .ok (.iload_n 1, 1) := by decide +kernel
theorem dX7_clear_16 : decode cX7_clear 16 = .ok (.ireturn, 1) := by decide +kernel
theorem dX7_letterAt_0 : decode cX7_letterAt 0 = .ok (.iload_n 1, 1) := by decide +kernel
theorem dX7_letterAt_1 : decode cX7_letterAt 1 = .ok (.aload_n 0, 1) := by decide +kernel
theorem dX7_letterAt_2 : decode cX7_letterAt 2 = .ok (.getfield 88, 3) := by decide +kernel
theorem dX7_letterAt_5 : decode cX7_letterAt 5 = .ok (.if_icmp .ge 12, 3) := by decide +kernel
theorem dX7_letterAt_8 : decode cX7_letterAt 8 = .ok (.aload_n 0, 1) := by decide +kernel
theorem dX7_letterAt_9 : decode cX7_letterAt 9 = .ok (.getfield 7, 3) := by decide +kernel
theorem dX7_letterAt_12 : decode cX7_letterAt 12 = .ok (.iload_n 1, 1) := by decide +kernel
theorem dX7_letterAt_13 : decode cX7_letterAt 13 = .ok (.iaload, 1) := by decide +kernel
theorem dX7_letterAt_14 : decode cX7_letterAt 14 = .ok (.goto 4, 3) := by decide +kernel
theorem dX7_letterAt_17 : decode cX7_letterAt 17 = .ok (.iconst (-1), 1) := by decide +kernel
theorem dX7_letterAt_18 : decode cX7_letterAt 18 = .ok (.ireturn, 1) := by decide +kernel
set_option maxRecDepth 20000 in
theorem ggX7_advances_X7_letterAt : GoodIn wsX7_advances wsX7_letterAt := goodIn_r _ [9, 10, 11, 15, 16, 17, 18, 19, 20, 21, 22, 23, 24, 25, 26, 27, 28, 29, 30, 31, 32, 33, 34, 35, 36, 37, 38, 39, 40, 41, 42, 43, 44, 45, 46, 47, 48, 49] rfl (by decide +kernel)
set_option maxRecDepth 20000 in
theorem gX7_advances_X7_letterAt : GoodIn wsX7_advances (wsV RX7 94 RX7 yX7_letterAt wsX7_letterAt) := goodIn_app (goodIn_of _ (by decide +kernel)) ggX7_advances_X7_letterAt
set_option maxRecDepth 20000 in
theorem ggX7_advances_X7_in : GoodIn wsX7_advances wsX7_in := goodIn_r _ [14] rfl (by decide +kernel)
set_option maxRecDepth 20000 in
theorem gX7_advances_X7_in : GoodIn wsX7_advances (va_wsS RX7 84 yX7_in wsX7_in) := goodIn_app (goodIn_of _ (by decide +kernel)) ggX7_advances_X7_in
theorem dX7_advances_0 : decode cX7_advances 0 = .ok (.aload_n 0, 1) := by decide +kernel
theorem dX7_advances_1 : decode cX7_advances 1 = .ok (.aload_n 0, 1) := by decide +kernel
theorem dX7_advances_2 : decode cX7_advances 2 = .ok (.getfield 91, 3) := by decide +kernel
theorem dX7_advances_5 : decode cX7_advances 5 = .ok (.invokevirtual 94, 3) := by decide +kernel
theorem dX7_advances_8 : decode cX7_advances 8 = .ok (.bipush 32, 2) := by decide +kernel
theorem dX7_advances_10 : decode cX7_advances 10 = .ok (.if_icmp .ne 16, 3) := by decide +kernel
theorem dX7_advances_13 : decode cX7_advances 13 = .ok (.aload_n 0, 1) := by decide +kernel
theorem dX7_advances_14 : decode cX7_advances 14 = .ok (.dup, 1) := by decide +kernel
theorem dX7_advances_15 : decode cX7_advances 15 = .ok (.getfield 91, 3) := by decide +kernel
theorem dX7_advances_18 : decode cX7_advances 18 = .ok (.iconst 1, 1) := by decide +kernel
theorem dX7_advances_19 : decode cX7_advances 19 = .ok (.iadd, 1) := by decide +kernel
theorem dX7_advances_20 : decode cX7_advances 20 = .ok (.putfield 91, 3) := by decide +kernel
theorem dX7_advances_23 : decode cX7_advances 23 = .ok (.goto (-23), 3) := by decide +kernel
theorem dX7_advances_26 : decode cX7_advances 26 = .ok (.aload_n 0, 1) := by decide +kernel
theorem dX7_advances_27 : decode cX7_advances 27 = .ok (.aload_n 0, 1) := by decide +kernel
theorem dX7_advances_28 : decode cX7_advances 28 = .ok (.getfield 91, 3) := by decide +kernel
theorem dX7_advances_31 : decode cX7_advances 31 = .ok (.putfield 98, 3) := by decide +kernel
theorem dX7_advances_34 : decode cX7_advances 34 = .ok (.aload_n 0, 1) := by decide +kernel
theorem dX7_advances_35 : decode cX7_advances 35 = .ok (.aload_n 0, 1) := by decide +kernel
theorem dX7_advances_36 : decode cX7_advances 36 = .ok (.getfield 91, 3) := by decide +kernel
theorem dX7_advances_39 : decode cX7_advances 39 = .ok (.invokevirtual 94, 3) := by decide +kernel
theorem dX7_advances_42 : decode cX7_advances 42 = .ok (.istore_n 1, 1) := by decide +kernel
theorem dX7_advances_43 : decode cX7_advances 43 = .ok (.iload_n 1, 1) := by decide +kernel
theorem dX7_advances_44 : decode cX7_advances 44 = .ok (.ifCond .ge 11, 3) := by decide +kernel
theorem dX7_advances_47 : decode cX7_advances 47 = .ok (.aload_n 0, 1) := by decide +kernel
theorem dX7_advances_48 : decode cX7_advances 48 = .ok (.iconst 0, 1) := by decide +kernel
theorem dX7_advances_49 : decode cX7_advances 49 = .ok (.putfield 101, 3) := by decide +kernel
theorem dX7_advances_52 : decode cX7_advances 52 = .ok (.goto 187, 3) := by decide +kernel
theorem dX7_advances_55 : decode cX7_advances 55 = .ok (.iload_n 1, 1) := by decide +kernel
theorem dX7_advances_56 : decode cX7_advances 56 = .ok (.bipush 48, 2) := by decide +kernel
theorem dX7_advances_58 : decode cX7_advances 58 = .ok (.bipush 57, 2) := by decide +kernel
theorem dX7_advances_60 : decode cX7_advances 60 = .ok (.invokestatic 84, 3) := by decide +kernel
theorem dX7_advances_63 : decode cX7_advances 63 = .ok (.ifCond .eq 118, 3) := by decide +kernel
theorem dX7_advances_66 : decode cX7_advances 66 = .ok (.aload_n 0, 1) := by decide +kernel
theorem dX7_advances_67 : decode cX7_advances 67 = .ok (.iconst 0, 1) := by decide +kernel
theorem dX7_advances_68 : decode cX7_advances 68 = .ok (.putfield 104, 3) := by decide +kernel
theorem dX7_advances_71 : decode cX7_advances 71 = .ok (.aload_n 0, 1) := by decide +kernel
theorem dX7_advances_72 : decode cX7_advances 72 = .ok (.aload_n 0, 1) := by decide +kernel
theorem dX7_advances_73 : decode cX7_advances 73 = .ok (.getfield 91, 3) := by decide +kernel
theorem dX7_advances_76 : decode cX7_advances 76 = .ok (.invokevirtual 94, 3) := by decide +kernel
theorem dX7_advances_79 : decode cX7_advances 79 = .ok (.bipush 48, 2) := by decide +kernel
theorem dX7_advances_81 : decode cX7_advances 81 = .ok (.bipush 57, 2) := by decide +kernel
theorem dX7_advances_83 : decode cX7_advances 83 = .ok (.invokestatic 84, 3) := by decide +kernel
theorem dX7_advances_86 : decode cX7_advances 86 = .ok (.ifCond .eq 55, 3) := by decide +kernel
theorem dX7_advances_89 : decode cX7_advances 89 = .ok (.aload_n 0, 1) := by decide +kernel
theorem dX7_advances_90 : decode cX7_advances 90 = .ok (.aload_n 0, 1) := by decide +kernel
theorem dX7_advances_91 : decode cX7_advances 91 = .ok (.getfield 104, 3) := by decide +kernel
theorem dX7_advances_94 : decode cX7_advances 94 = .ok (.bipush 99, 2) := by decide +kernel
theorem dX7_advances_96 : decode cX7_advances 96 = .ok (.if_icmp .le 10, 3) := by decide +kernel
theorem dX7_advances_99 : decode cX7_advances 99 = .ok (.aload_n 0, 1) := by decide +kernel
theorem dX7_advances_100 : decode cX7_advances 100 = .ok (.getfield 104, 3) := by decide +kernel
theorem dX7_advances_103 : decode cX7_advances 103 = .ok (.goto 22, 3) := by decide +kernel
theorem dX7_advances_106 : decode cX7_advances 106 = .ok (.bipush 10, 2) := by decide +kernel
theorem dX7_advances_108 : decode cX7_advances 108 = .ok (.aload_n 0, 1) := by decide +kernel
theorem dX7_advances_109 : decode cX7_advances 109 = .ok (.getfield 104, 3) := by decide +kernel
theorem dX7_advances_112 : decode cX7_advances 112 = .ok (.imul, 1) := by decide +kernel
theorem dX7_advances_113 : decode cX7_advances 113 = .ok (.aload_n 0, 1) := by decide +kernel
theorem dX7_advances_114 : decode cX7_advances 114 = .ok (.aload_n 0, 1) := by decide +kernel
theorem dX7_advances_115 : decode cX7_advances 115 = .ok (.getfield 91, 3) := by decide +kernel
theorem dX7_advances_118 : decode cX7_advances 118 = .ok (.invokevirtual 94, 3) := by decide +kernel
theorem dX7_advances_121 : decode cX7_advances 121 = .ok (.iadd, 1) := by decide +kernel
theorem dX7_advances_122 : decode cX7_advances 122 = .ok (.bipush 48, 2) := by decide +kernel
theorem dX7_advances_124 : decode cX7_advances 124 = .ok (.isub, 1) := by decide +kernel
theorem dX7_advances_125 : decode cX7_advances 125 = .ok (.putfield 104, 3) := by decide +kernel
theorem dX7_advances_128 : decode cX7_advances 128 = .ok (.aload_n 0, 1) := by decide +kernel
theorem dX7_advances_129 : decode cX7_advances 129 = .ok (.dup, 1) := by decide +kernel
theorem dX7_advances_130 : decode cX7_advances 130 = .ok (.getfield 91, 3) := by decide +kernel
theorem dX7_advances_133 : decode cX7_advances 133 = .ok (.iconst 1, 1) := by decide +kernel
theorem dX7_advances_134 : decode cX7_advances 134 = .ok (.iadd, 1) := by decide +kernel
theorem dX7_advances_135 : decode cX7_advances 135 = .ok (.putfield 91, 3) := by decide +kernel
theorem dX7_advances_138 : decode cX7_advances 138 = .ok (.goto (-67), 3) := by decide +kernel
theorem dX7_advances_141 : decode cX7_advances 141 = .ok (.aload_n 0, 1) := by decide +kernel
theorem dX7_advances_142 : decode cX7_advances 142 = .ok (.aload_n 0, 1) := by decide +kernel
theorem dX7_advances_143 : decode cX7_advances 143 = .ok (.getfield 104, 3) := by decide +kernel
theorem dX7_advances_146 : decode cX7_advances 146 = .ok (.bipush 99, 2) := by decide +kernel
theorem dX7_advances_148 : decode cX7_advances 148 = .ok (.if_icmp .gt 22, 3) := by decide +kernel
theorem dX7_advances_151 : decode cX7_advances 151 = .ok (.iload_n 1, 1) := by decide +kernel
theorem dX7_advances_152 : decode cX7_advances 152 = .ok (.bipush 48, 2) := by decide +kernel
theorem dX7_advances_154 : decode cX7_advances 154 = .ok (.if_icmp .ne 20, 3) := by decide +kernel
theorem dX7_advances_157 : decode cX7_advances 157 = .ok (.aload_n 0, 1) := by decide +kernel
theorem dX7_advances_158 : decode cX7_advances 158 = .ok (.getfield 91, 3) := by decide +kernel
theorem dX7_advances_161 : decode cX7_advances 161 = .ok (.aload_n 0, 1) := by decide +kernel
theorem dX7_advances_162 : decode cX7_advances 162 = .ok (.getfield 98, 3) := by decide +kernel
theorem dX7_advances_165 : decode cX7_advances 165 = .ok (.isub, 1) := by decide +kernel
theorem dX7_advances_166 : decode cX7_advances 166 = .ok (.iconst 1, 1) := by decide +kernel
theorem dX7_advances_167 : decode cX7_advances 167 = .ok (.if_icmp .le 7, 3) := by decide +kernel
theorem dX7_advances_170 : decode cX7_advances 170 = .ok (.iconst 4, 1) := by decide +kernel
theorem dX7_advances_171 : decode cX7_advances 171 = .ok (.goto 4, 3) := by decide +kernel
theorem dX7_advances_174 : decode cX7_advances 174 = .ok (.iconst 2, 1) := by decide +kernel
theorem dX7_advances_175 : decode cX7_advances 175 = .ok (.putfield 101, 3) := by decide +kernel
theorem dX7_advances_178 : decode cX7_advances 178 = .ok (.goto 61, 3) := by decide +kernel
theorem dX7_advances_181 : decode cX7_advances 181 = .ok (.aload_n 0, 1) := by decide +kernel
theorem dX7_advances_182 : decode cX7_advances 182 = .ok (.dup, 1) := by decide +kernel
theorem dX7_advances_183 : decode cX7_advances 183 = .ok (.getfield 91, 3) := by decide +kernel
theorem dX7_advances_186 : decode cX7_advances 186 = .ok (.iconst 1, 1) := by decide +kernel
theorem dX7_advances_187 : decode cX7_advances 187 = .ok (.iadd, 1) := by decide +kernel
theorem dX7_advances_188 : decode cX7_advances 188 = .ok (.putfield 91, 3) := by decide +kernel
theorem dX7_advances_191 : decode cX7_advances 191 = .ok (.aload_n 0, 1) := by decide +kernel
theorem dX7_advances_192 : decode cX7_advances 192 = .ok (.iload_n 1, 1) := by decide +kernel
theorem dX7_advances_193 : decode cX7_advances 193 = .ok (.putfield 104, 3) := by decide +kernel
theorem dX7_advances_196 : decode cX7_advances 196 = .ok (.aload_n 0, 1) := by decide +kernel
theorem dX7_advances_197 : decode cX7_advances 197 = .ok (.iload_n 1, 1) := by decide +kernel
theorem dX7_advances_198 : decode cX7_advances 198 = .ok (.bipush 59, 2) := by decide +kernel
theorem dX7_advances_200 : decode cX7_advances 200 = .ok (.if_icmp .ne 7, 3) := by decide +kernel
theorem dX7_advances_203 : decode cX7_advances 203 = .ok (.iconst 3, 1) := by decide +kernel
theorem dX7_advances_204 : decode cX7_advances 204 = .ok (.goto 32, 3) := by decide +kernel
theorem dX7_advances_207 : decode cX7_advances 207 = .ok (.iload_n 1, 1) := by decide +kernel
theorem dX7_advances_208 : decode cX7_advances 208 = .ok (.bipush 107, 2) := by decide +kernel
theorem dX7_advances_210 : decode cX7_advances 210 = .ok (.if_icmp .eq 21, 3) := by decide +kernel
theorem dX7_advances_213 : decode cX7_advances 213 = .ok (.iload_n 1, 1) := by decide +kernel
theorem dX7_advances_214 : decode cX7_advances 214 = .ok (.bipush 112, 2) := by decide +kernel
theorem dX7_advances_216 : decode cX7_advances 216 = .ok (.if_icmp .eq 15, 3) := by decide +kernel
theorem dX7_advances_219 : decode cX7_advances 219 = .ok (.iload_n 1, 1) := by decide +kernel
theorem dX7_advances_220 : decode cX7_advances 220 = .ok (.bipush 120, 2) := by decide +kernel
theorem dX7_advances_222 : decode cX7_advances 222 = .ok (.if_icmp .eq 9, 3) := by decide +kernel
theorem dX7_advances_225 : decode cX7_advances 225 = .ok (.iload_n 1, 1) := by decide +kernel
theorem dX7_advances_226 : decode cX7_advances 226 = .ok (.bipush 111, 2) := by decide +kernel
theorem dX7_advances_228 : decode cX7_advances 228 = .ok (.if_icmp .ne 7, 3) := by decide +kernel
theorem dX7_advances_231 : decode cX7_advances 231 = .ok (.iconst 1, 1) := by decide +kernel
theorem dX7_advances_232 : decode cX7_advances 232 = .ok (.goto 4, 3) := by decide +kernel
theorem dX7_advances_235 : decode cX7_advances 235 = .ok (.iconst 4, 1) := by decide +kernel
theorem dX7_advances_236 : decode cX7_advances 236 = .ok (.putfield 101, 3) := by decide +kernel
theorem dX7_advances_239 : decode cX7_advances 239 = .ok (.return_, 1) := by decide +kernel
theorem dX7_isWell_0 : decode cX7_isWell 0 = .ok (.aload_n 0, 1) := by decide +kernel
theorem dX7_isWell_1 : decode cX7_isWell 1 = .ok (.getfield 107, 3) := by decide +kernel
theorem dX7_isWell_4 : decode cX7_isWell 4 = .ok (.ifCond .ge 7, 3) := by decide +kernel
theorem dX7_isWell_7 : decode cX7_isWell 7 = .ok (.iconst 1, 1) := by decide +kernel
theorem dX7_isWell_8 : decode cX7_isWell 8 = .ok (.goto 4, 3) := by decide +kernel
theorem dX7_isWell_11 : decode cX7_isWell 11 = .ok (.iconst 0, 1) := by decide +kernel
theorem dX7_isWell_12 : decode cX7_isWell 12 = .ok (.ireturn, 1) := by decide +kernel
set_option maxRecDepth 20000 in
theorem ggX7_takes_X7_isWell : GoodIn wsX7_takes wsX7_isWell := goodIn_r _ [8, 2, 24, 25, 26, 27, 28, 29, 30, 31, 32, 33, 34, 35, 36, 37, 38, 39, 40, 41, 42, 43, 44, 45, 46, 47, 48, 49, 50, 51, 52, 53, 54, 55, 56, 57, 58] rfl (by decide +kernel)
set_option maxRecDepth 20000 in
theorem gX7_takes_X7_isWell : GoodIn wsX7_takes (wsV RX7 110 RX7 yX7_isWell wsX7_isWell) := goodIn_app (goodIn_of _ (by decide +kernel)) ggX7_takes_X7_isWell
set_option maxRecDepth 20000 in
theorem ggX7_takes_X7_advances : GoodIn wsX7_takes wsX7_advances := goodIn_r _ [12, 13, 1, 14, 3, 15, 16, 17, 7, 18, 19, 20, 21, 22, 23, 24, 25, 26, 27, 28, 29, 30, 31, 32, 33, 34, 35, 36, 37, 38, 39, 40, 41, 42, 43, 44, 45, 46, 47, 48, 49, 50, 51, 52, 53, 54, 55, 56, 57, 58] rfl (by decide +kernel)
set_option maxRecDepth 20000 in
theorem gX7_takes_X7_advances : GoodIn wsX7_takes (wsV RX7 114 RX7 yX7_advances wsX7_advances) := goodIn_app (goodIn_of _ (by decide +kernel)) ggX7_takes_X7_advances
theorem dX7_takes_0 : decode cX7_takes 0 = .ok (.aload_n 0, 1) := by decide +kernel
theorem dX7_takes_1 : decode cX7_takes 1 = .ok (.invokevirtual 110, 3) := by decide +kernel
theorem dX7_takes_4 : decode cX7_takes 4 = .ok (.ifCond .ne 5, 3) := by decide +kernel
theorem dX7_takes_7 : decode cX7_takes 7 = .ok (.iconst 0, 1) := by decide +kernel
theorem dX7_takes_8 : decode cX7_takes 8 = .ok (.ireturn, 1) := by decide +kernel
theorem dX7_takes_9 : decode cX7_takes 9 = .ok (.iload_n 1, 1) := by decide +kernel
theorem dX7_takes_10 : decode cX7_takes 10 = .ok (.ifCond .ne 13, 3) := by decide +kernel
theorem dX7_takes_13 : decode cX7_takes 13 = .ok (.aload_n 0, 1) := by decide +kernel
theorem dX7_takes_14 : decode cX7_takes 14 = .ok (.aload_n 0, 1) := by decide +kernel
theorem dX7_takes_15 : decode cX7_takes 15 = .ok (.getfield 98, 3) := by decide +kernel
theorem dX7_takes_18 : decode cX7_takes 18 = .ok (.putfield 107, 3) := by decide +kernel
theorem dX7_takes_21 : decode cX7_takes 21 = .ok (.iconst 0, 1) := by decide +kernel
theorem dX7_takes_22 : decode cX7_takes 22 = .ok (.ireturn, 1) := by decide +kernel
theorem dX7_takes_23 : decode cX7_takes 23 = .ok (.aload_n 0, 1) := by decide +kernel
theorem dX7_takes_24 : decode cX7_takes 24 = .ok (.getfield 104, 3) := by decide +kernel
theorem dX7_takes_27 : decode cX7_takes 27 = .ok (.istore_n 2, 1) := by decide +kernel
theorem dX7_takes_28 : decode cX7_takes 28 = .ok (.aload_n 0, 1) := by decide +kernel
theorem dX7_takes_29 : decode cX7_takes 29 = .ok (.invokevirtual 114, 3) := by decide +kernel
theorem dX7_takes_32 : decode cX7_takes 32 = .ok (.iload_n 2, 1) := by decide +kernel
theorem dX7_takes_33 : decode cX7_takes 33 = .ok (.ireturn, 1) := by decide +kernel
set_option maxRecDepth 20000 in
theorem ggX7_number_X7_in : GoodIn wsX7_number wsX7_in := goodIn_r _ [6] rfl (by decide +kernel)
set_option maxRecDepth 20000 in
theorem gX7_number_X7_in : GoodIn wsX7_number (va_wsS RX7 84 yX7_in wsX7_in) := goodIn_app (goodIn_of _ (by decide +kernel)) ggX7_number_X7_in
set_option maxRecDepth 20000 in
theorem ggX7_number_X7_takes : GoodIn wsX7_number wsX7_takes := goodIn_r _ [10, 11, 12, 2, 13, 14, 15, 5, 16, 17, 18, 19, 20, 21, 1, 22, 23, 24, 25, 26, 27, 3, 4, 6, 28, 29, 30, 31, 32, 33, 34, 35, 36, 37, 38, 39, 40, 41, 42, 43, 44, 45, 46, 47, 48, 49, 50, 51, 52, 53, 54, 55, 56, 57, 58, 59, 60, 61, 62] rfl (by decide +kernel)
set_option maxRecDepth 20000 in
theorem gX7_number_X7_takes : GoodIn wsX7_number (wsV RX7 117 RX7 yX7_takes wsX7_takes) := goodIn_app (goodIn_of _ (by decide +kernel)) ggX7_number_X7_takes
theorem dX7_number_0 : decode cX7_number 0 = .ok (.aload_n 0, 1) := by decide +kernel
theorem dX7_number_1 : decode cX7_number 1 = .ok (.aload_n 0, 1) := by decide +kernel
theorem dX7_number_2 : decode cX7_number 2 = .ok (.getfield 101, 3) := by decide +kernel
theorem dX7_number_5 : decode cX7_number 5 = .ok (.iconst 2, 1) := by decide +kernel
theorem dX7_number_6 : decode cX7_number 6 = .ok (.if_icmp .ne 19, 3) := by decide +kernel
theorem dX7_number_9 : decode cX7_number 9 = .ok (.aload_n 0, 1) := by decide +kernel
theorem dX7_number_10 : decode cX7_number 10 = .ok (.getfield 104, 3) := by decide +kernel
theorem dX7_number_13 : decode cX7_number 13 = .ok (.iload_n 1, 1) := by decide +kernel
theorem dX7_number_14 : decode cX7_number 14 = .ok (.iload_n 2, 1) := by decide +kernel
theorem dX7_number_15 : decode cX7_number 15 = .ok (.invokestatic 84, 3) := by decide +kernel
theorem dX7_number_18 : decode cX7_number 18 = .ok (.ifCond .eq 7, 3) := by decide +kernel
theorem dX7_number_21 : decode cX7_number 21 = .ok (.iconst 1, 1) := by decide +kernel
theorem dX7_number_22 : decode cX7_number 22 = .ok (.goto 4, 3) := by decide +kernel
theorem dX7_number_25 : decode cX7_number 25 = .ok (.iconst 0, 1) := by decide +kernel
theorem dX7_number_26 : decode cX7_number 26 = .ok (.invokevirtual 117, 3) := by decide +kernel
theorem dX7_number_29 : decode cX7_number 29 = .ok (.ireturn, 1) := by decide +kernel
theorem dX7_begins_0 : decode cX7_begins 0 = .ok (.aload_n 0, 1) := by decide +kernel
theorem dX7_begins_1 : decode cX7_begins 1 = .ok (.getfield 13, 3) := by decide +kernel
theorem dX7_begins_4 : decode cX7_begins 4 = .ok (.iconst 2, 1) := by decide +kernel
theorem dX7_begins_5 : decode cX7_begins 5 = .ok (.iconst 0, 1) := by decide +kernel
theorem dX7_begins_6 : decode cX7_begins 6 = .ok (.iastore, 1) := by decide +kernel
theorem dX7_begins_7 : decode cX7_begins 7 = .ok (.aload_n 0, 1) := by decide +kernel
theorem dX7_begins_8 : decode cX7_begins 8 = .ok (.getfield 13, 3) := by decide +kernel
theorem dX7_begins_11 : decode cX7_begins 11 = .ok (.iconst 3, 1) := by decide +kernel
theorem dX7_begins_12 : decode cX7_begins 12 = .ok (.iconst 0, 1) := by decide +kernel
theorem dX7_begins_13 : decode cX7_begins 13 = .ok (.iastore, 1) := by decide +kernel
theorem dX7_begins_14 : decode cX7_begins 14 = .ok (.iconst 5, 1) := by decide +kernel
theorem dX7_begins_15 : decode cX7_begins 15 = .ok (.istore_n 1, 1) := by decide +kernel
theorem dX7_begins_16 : decode cX7_begins 16 = .ok (.iload_n 1, 1) := by decide +kernel
theorem dX7_begins_17 : decode cX7_begins 17 = .ok (.bipush 10, 2) := by decide +kernel
theorem dX7_begins_19 : decode cX7_begins 19 = .ok (.if_icmp .ge 23, 3) := by decide +kernel
theorem dX7_begins_22 : decode cX7_begins 22 = .ok (.aload_n 0, 1) := by decide +kernel
theorem dX7_begins_23 : decode cX7_begins 23 = .ok (.getfield 34, 3) := by decide +kernel
theorem dX7_begins_26 : decode cX7_begins 26 = .ok (.iload_n 1, 1) := by decide +kernel
theorem dX7_begins_27 : decode cX7_begins 27 = .ok (.iconst 0, 1) := by decide +kernel
theorem dX7_begins_28 : decode cX7_begins 28 = .ok (.iastore, 1) := by decide +kernel
theorem dX7_begins_29 : decode cX7_begins 29 = .ok (.aload_n 0, 1) := by decide +kernel
theorem dX7_begins_30 : decode cX7_begins 30 = .ok (.getfield 37, 3) := by decide +kernel
theorem dX7_begins_33 : decode cX7_begins 33 = .ok (.iload_n 1, 1) := by decide +kernel
theorem dX7_begins_34 : decode cX7_begins 34 = .ok (.iconst 1, 1) := by decide +kernel
theorem dX7_begins_35 : decode cX7_begins 35 = .ok (.iastore, 1) := by decide +kernel
theorem dX7_begins_36 : decode cX7_begins 36 = .ok (.iinc 1 1, 3) := by decide +kernel
theorem dX7_begins_39 : decode cX7_begins 39 = .ok (.goto (-23), 3) := by decide +kernel
theorem dX7_begins_42 : decode cX7_begins 42 = .ok (.return_, 1) := by decide +kernel
theorem dX7_mayBegin_0 : decode cX7_mayBegin 0 = .ok (.aload_n 0, 1) := by decide +kernel
theorem dX7_mayBegin_1 : decode cX7_mayBegin 1 = .ok (.getfield 104, 3) := by decide +kernel
theorem dX7_mayBegin_4 : decode cX7_mayBegin 4 = .ok (.bipush 107, 2) := by decide +kernel
theorem dX7_mayBegin_6 : decode cX7_mayBegin 6 = .ok (.if_icmp .ne 22, 3) := by decide +kernel
theorem dX7_mayBegin_9 : decode cX7_mayBegin 9 = .ok (.aload_n 0, 1) := by decide +kernel
theorem dX7_mayBegin_10 : decode cX7_mayBegin 10 = .ok (.getfield 13, 3) := by decide +kernel
theorem dX7_mayBegin_13 : decode cX7_mayBegin 13 = .ok (.iconst 2, 1) := by decide +kernel
theorem dX7_mayBegin_14 : decode cX7_mayBegin 14 = .ok (.iaload, 1) := by decide +kernel
theorem dX7_mayBegin_15 : decode cX7_mayBegin 15 = .ok (.bipush 9, 2) := by decide +kernel
theorem dX7_mayBegin_17 : decode cX7_mayBegin 17 = .ok (.if_icmp .ge 7, 3) := by decide +kernel
theorem dX7_mayBegin_20 : decode cX7_mayBegin 20 = .ok (.iconst 1, 1) := by decide +kernel
theorem dX7_mayBegin_21 : decode cX7_mayBegin 21 = .ok (.goto 32, 3) := by decide +kernel
theorem dX7_mayBegin_24 : decode cX7_mayBegin 24 = .ok (.iconst 0, 1) := by decide +kernel
theorem dX7_mayBegin_25 : decode cX7_mayBegin 25 = .ok (.goto 28, 3) := by decide +kernel
theorem dX7_mayBegin_28 : decode cX7_mayBegin 28 = .ok (.aload_n 0, 1) := by decide +kernel
theorem dX7_mayBegin_29 : decode cX7_mayBegin 29 = .ok (.getfield 104, 3) := by decide +kernel
theorem dX7_mayBegin_32 : decode cX7_mayBegin 32 = .ok (.bipush 112, 2) := by decide +kernel
theorem dX7_mayBegin_34 : decode cX7_mayBegin 34 = .ok (.if_icmp .ne 14, 3) := by decide +kernel
theorem dX7_mayBegin_37 : decode cX7_mayBegin 37 = .ok (.aload_n 0, 1) := by decide +kernel
theorem dX7_mayBegin_38 : decode cX7_mayBegin 38 = .ok (.getfield 13, 3) := by decide +kernel
theorem dX7_mayBegin_41 : decode cX7_mayBegin 41 = .ok (.iconst 3, 1) := by decide +kernel
theorem dX7_mayBegin_42 : decode cX7_mayBegin 42 = .ok (.iaload, 1) := by decide +kernel
theorem dX7_mayBegin_43 : decode cX7_mayBegin 43 = .ok (.bipush 6, 2) := by decide +kernel
theorem dX7_mayBegin_45 : decode cX7_mayBegin 45 = .ok (.if_icmp .ge 7, 3) := by decide +kernel
theorem dX7_mayBegin_48 : decode cX7_mayBegin 48 = .ok (.iconst 1, 1) := by decide +kernel
theorem dX7_mayBegin_49 : decode cX7_mayBegin 49 = .ok (.goto 4, 3) := by decide +kernel
theorem dX7_mayBegin_52 : decode cX7_mayBegin 52 = .ok (.iconst 0, 1) := by decide +kernel
theorem dX7_mayBegin_53 : decode cX7_mayBegin 53 = .ok (.ireturn, 1) := by decide +kernel
set_option maxRecDepth 20000 in
theorem ggX7_readsFeud_X7_number : GoodIn wsX7_readsFeud wsX7_number := goodIn_r _ [8, 1, 2, 9, 10, 7, 11, 12, 13, 14, 15, 16, 17, 18, 19, 20, 21, 22, 23, 24, 25, 26, 27, 28, 29, 30, 31, 32, 33, 34, 35, 36, 37, 38, 39, 40, 41, 42, 43, 44, 45, 46, 47, 48, 49, 50, 51, 52, 53, 54, 55, 56, 57, 58, 59, 60, 61, 62, 63, 64, 65, 66, 67] rfl (by decide +kernel)
set_option maxRecDepth 20000 in
theorem gX7_readsFeud_X7_number : GoodIn wsX7_readsFeud (wsV RX7 121 RX7 yX7_number wsX7_number) := goodIn_app (goodIn_of _ (by decide +kernel)) ggX7_readsFeud_X7_number
set_option maxRecDepth 20000 in
theorem ggX7_readsFeud_X7_in : GoodIn wsX7_readsFeud wsX7_in := goodIn_r _ [11] rfl (by decide +kernel)
set_option maxRecDepth 20000 in
theorem gX7_readsFeud_X7_in : GoodIn wsX7_readsFeud (va_wsS RX7 84 yX7_in wsX7_in) := goodIn_app (goodIn_of _ (by decide +kernel)) ggX7_readsFeud_X7_in
set_option maxRecDepth 20000 in
theorem ggX7_readsFeud_X7_takes : GoodIn wsX7_readsFeud wsX7_takes := goodIn_r _ [15, 16, 17, 2, 18, 19, 20, 7, 21, 22, 23, 24, 25, 26, 1, 27, 28, 29, 30, 31, 32, 9, 10, 11, 33, 34, 35, 36, 37, 38, 39, 40, 41, 42, 43, 44, 45, 46, 47, 48, 49, 50, 51, 52, 53, 54, 55, 56, 57, 58, 59, 60, 61, 62, 63, 64, 65, 66, 67] rfl (by decide +kernel)
set_option maxRecDepth 20000 in
theorem gX7_readsFeud_X7_takes : GoodIn wsX7_readsFeud (wsV RX7 117 RX7 yX7_takes wsX7_takes) := goodIn_app (goodIn_of _ (by decide +kernel)) ggX7_readsFeud_X7_takes
set_option maxRecDepth 20000 in
theorem ggX7_readsFeud_X7_isWell : GoodIn wsX7_readsFeud wsX7_isWell := goodIn_r _ [21, 17, 33, 34, 35, 36, 37, 38, 39, 40, 41, 42, 43, 44, 45, 46, 47, 48, 49, 50, 51, 52, 53, 54, 55, 56, 57, 58, 59, 60, 61, 62, 63, 64, 65, 66, 67] rfl (by decide +kernel)
set_option maxRecDepth 20000 in
theorem gX7_readsFeud_X7_isWell : GoodIn wsX7_readsFeud (wsV RX7 110 RX7 yX7_isWell wsX7_isWell) := goodIn_app (goodIn_of _ (by decide +kernel)) ggX7_readsFeud_X7_isWell
theorem dX7_readsFeud_0 : decode cX7_readsFeud 0 = .ok (.aload_n 0, 1) := by decide +kernel
theorem dX7_readsFeud_1 : decode cX7_readsFeud 1 = .ok (.iconst 0, 1) := by decide +kernel
theorem dX7_readsFeud_2 : decode cX7_readsFeud 2 = .ok (.iconst 4, 1) := by decide +kernel
theorem dX7_readsFeud_3 : decode cX7_readsFeud 3 = .ok (.invokevirtual 121, 3) := by decide +kernel
theorem dX7_readsFeud_6 : decode cX7_readsFeud 6 = .ok (.istore_n 1, 1) := by decide +kernel
theorem dX7_readsFeud_7 : decode cX7_readsFeud 7 = .ok (.aload_n 0, 1) := by decide +kernel
theorem dX7_readsFeud_8 : decode cX7_readsFeud 8 = .ok (.aload_n 0, 1) := by decide +kernel
theorem dX7_readsFeud_9 : decode cX7_readsFeud 9 = .ok (.getfield 101, 3) := by decide +kernel
theorem dX7_readsFeud_12 : decode cX7_readsFeud 12 = .ok (.iconst 2, 1) := by decide +kernel
theorem dX7_readsFeud_13 : decode cX7_readsFeud 13 = .ok (.if_icmp .ne 27, 3) := by decide +kernel
theorem dX7_readsFeud_16 : decode cX7_readsFeud 16 = .ok (.aload_n 0, 1) := by decide +kernel
theorem dX7_readsFeud_17 : decode cX7_readsFeud 17 = .ok (.getfield 104, 3) := by decide +kernel
theorem dX7_readsFeud_20 : decode cX7_readsFeud 20 = .ok (.iconst 0, 1) := by decide +kernel
theorem dX7_readsFeud_21 : decode cX7_readsFeud 21 = .ok (.iconst 4, 1) := by decide +kernel
theorem dX7_readsFeud_22 : decode cX7_readsFeud 22 = .ok (.invokestatic 84, 3) := by decide +kernel
theorem dX7_readsFeud_25 : decode cX7_readsFeud 25 = .ok (.ifCond .eq 15, 3) := by decide +kernel
theorem dX7_readsFeud_28 : decode cX7_readsFeud 28 = .ok (.aload_n 0, 1) := by decide +kernel
theorem dX7_readsFeud_29 : decode cX7_readsFeud 29 = .ok (.getfield 104, 3) := by decide +kernel
theorem dX7_readsFeud_32 : decode cX7_readsFeud 32 = .ok (.iload_n 1, 1) := by decide +kernel
theorem dX7_readsFeud_33 : decode cX7_readsFeud 33 = .ok (.if_icmp .eq 7, 3) := by decide +kernel
theorem dX7_readsFeud_36 : decode cX7_readsFeud 36 = .ok (.iconst 1, 1) := by decide +kernel
theorem dX7_readsFeud_37 : decode cX7_readsFeud 37 = .ok (.goto 4, 3) := by decide +kernel
theorem dX7_readsFeud_40 : decode cX7_readsFeud 40 = .ok (.iconst 0, 1) := by decide +kernel
theorem dX7_readsFeud_41 : decode cX7_readsFeud 41 = .ok (.invokevirtual 117, 3) := by decide +kernel
theorem dX7_readsFeud_44 : decode cX7_readsFeud 44 = .ok (.istore_n 2, 1) := by decide +kernel
theorem dX7_readsFeud_45 : decode cX7_readsFeud 45 = .ok (.aload_n 0, 1) := by decide +kernel
theorem dX7_readsFeud_46 : decode cX7_readsFeud 46 = .ok (.invokevirtual 110, 3) := by decide +kernel
theorem dX7_readsFeud_49 : decode cX7_readsFeud 49 = .ok (.ifCond .eq 31, 3) := by decide +kernel
theorem dX7_readsFeud_52 : decode cX7_readsFeud 52 = .ok (.aload_n 0, 1) := by decide +kernel
theorem dX7_readsFeud_53 : decode cX7_readsFeud 53 = .ok (.getfield 34, 3) := by decide +kernel
theorem dX7_readsFeud_56 : decode cX7_readsFeud 56 = .ok (.iconst 5, 1) := by decide +kernel
theorem dX7_readsFeud_57 : decode cX7_readsFeud 57 = .ok (.iload_n 1, 1) := by decide +kernel
theorem dX7_readsFeud_58 : decode cX7_readsFeud 58 = .ok (.iadd, 1) := by decide +kernel
theorem dX7_readsFeud_59 : decode cX7_readsFeud 59 = .ok (.dup2, 1) := by decide +kernel
theorem dX7_readsFeud_60 : decode cX7_readsFeud 60 = .ok (.iaload, 1) := by decide +kernel
theorem dX7_readsFeud_61 : decode cX7_readsFeud 61 = .ok (.iconst 1, 1) := by decide +kernel
theorem dX7_readsFeud_62 : decode cX7_readsFeud 62 = .ok (.iload_n 2, 1) := by decide +kernel
theorem dX7_readsFeud_63 : decode cX7_readsFeud 63 = .ok (.ishl, 1) := by decide +kernel
theorem dX7_readsFeud_64 : decode cX7_readsFeud 64 = .ok (.ior, 1) := by decide +kernel
theorem dX7_readsFeud_65 : decode cX7_readsFeud 65 = .ok (.iastore, 1) := by decide +kernel
theorem dX7_readsFeud_66 : decode cX7_readsFeud 66 = .ok (.aload_n 0, 1) := by decide +kernel
theorem dX7_readsFeud_67 : decode cX7_readsFeud 67 = .ok (.getfield 34, 3) := by decide +kernel
theorem dX7_readsFeud_70 : decode cX7_readsFeud 70 = .ok (.iconst 5, 1) := by decide +kernel
theorem dX7_readsFeud_71 : decode cX7_readsFeud 71 = .ok (.iload_n 2, 1) := by decide +kernel
theorem dX7_readsFeud_72 : decode cX7_readsFeud 72 = .ok (.iadd, 1) := by decide +kernel
theorem dX7_readsFeud_73 : decode cX7_readsFeud 73 = .ok (.dup2, 1) := by decide +kernel
theorem dX7_readsFeud_74 : decode cX7_readsFeud 74 = .ok (.iaload, 1) := by decide +kernel
theorem dX7_readsFeud_75 : decode cX7_readsFeud 75 = .ok (.iconst 1, 1) := by decide +kernel
theorem dX7_readsFeud_76 : decode cX7_readsFeud 76 = .ok (.iload_n 1, 1) := by decide +kernel
theorem dX7_readsFeud_77 : decode cX7_readsFeud 77 = .ok (.ishl, 1) := by decide +kernel
theorem dX7_readsFeud_78 : decode cX7_readsFeud 78 = .ok (.ior, 1) := by decide +kernel
theorem dX7_readsFeud_79 : decode cX7_readsFeud 79 = .ok (.iastore, 1) := by decide +kernel
theorem dX7_readsFeud_80 : decode cX7_readsFeud 80 = .ok (.return_, 1) := by decide +kernel
set_option maxRecDepth 20000 in
theorem ggX7_readsItem_X7_number : GoodIn wsX7_readsItem wsX7_number := goodIn_r _ [13, 14, 15, 16, 17, 12, 18, 19, 20, 21, 22, 23, 24, 25, 26, 27, 28, 29, 30, 31, 32, 33, 34, 35, 36, 37, 38, 39, 45, 46, 47, 48, 49, 50, 51, 52, 53, 54, 55, 56, 57, 58, 59, 60, 61, 62, 63, 64, 65, 66, 67, 68, 69, 70, 71, 72, 73, 74, 75, 76, 77, 78, 79] rfl (by decide +kernel)
set_option maxRecDepth 20000 in
theorem gX7_readsItem_X7_number : GoodIn wsX7_readsItem (wsV RX7 121 RX7 yX7_number wsX7_number) := goodIn_app (goodIn_of _ (by decide +kernel)) ggX7_readsItem_X7_number
set_option maxRecDepth 20000 in
theorem ggX7_readsItem_X7_readsFeud : GoodIn wsX7_readsItem wsX7_readsFeud := goodIn_r _ [43, 14, 15, 44, 9, 10, 11, 12, 13, 16, 17, 18, 19, 20, 21, 22, 23, 24, 25, 26, 27, 28, 29, 30, 31, 32, 33, 34, 35, 36, 37, 38, 39, 45, 46, 47, 48, 49, 50, 51, 52, 53, 54, 55, 56, 57, 58, 59, 60, 61, 62, 63, 64, 65, 66, 67, 68, 69, 70, 71, 72, 73, 74, 75, 76, 77, 78, 79] rfl (by decide +kernel)
set_option maxRecDepth 20000 in
theorem gX7_readsItem_X7_readsFeud : GoodIn wsX7_readsItem (wsV RX7 125 RX7 yX7_readsFeud wsX7_readsFeud) := goodIn_app (goodIn_of _ (by decide +kernel)) ggX7_readsItem_X7_readsFeud
theorem dX7_readsItem_0 : decode cX7_readsItem 0 = .ok (.iload_n 1, 1) := by decide +kernel
theorem dX7_readsItem_1 : decode cX7_readsItem 1 = .ok (.bipush 107, 2) := by decide +kernel
theorem dX7_readsItem_3 : decode cX7_readsItem 3 = .ok (.if_icmp .ne 63, 3) := by decide +kernel
theorem dX7_readsItem_6 : decode cX7_readsItem 6 = .ok (.bipush 9, 2) := by decide +kernel
theorem dX7_readsItem_8 : decode cX7_readsItem 8 = .ok (.aload_n 0, 1) := by decide +kernel
theorem dX7_readsItem_9 : decode cX7_readsItem 9 = .ok (.getfield 13, 3) := by decide +kernel
theorem dX7_readsItem_12 : decode cX7_readsItem 12 = .ok (.iconst 2, 1) := by decide +kernel
theorem dX7_readsItem_13 : decode cX7_readsItem 13 = .ok (.iaload, 1) := by decide +kernel
theorem dX7_readsItem_14 : decode cX7_readsItem 14 = .ok (.iadd, 1) := by decide +kernel
theorem dX7_readsItem_15 : decode cX7_readsItem 15 = .ok (.istore_n 2, 1) := by decide +kernel
theorem dX7_readsItem_16 : decode cX7_readsItem 16 = .ok (.aload_n 0, 1) := by decide +kernel
theorem dX7_readsItem_17 : decode cX7_readsItem 17 = .ok (.getfield 16, 3) := by decide +kernel
theorem dX7_readsItem_20 : decode cX7_readsItem 20 = .ok (.iload_n 2, 1) := by decide +kernel
theorem dX7_readsItem_21 : decode cX7_readsItem 21 = .ok (.aload_n 0, 1) := by decide +kernel
theorem dX7_readsItem_22 : decode cX7_readsItem 22 = .ok (.iconst 0, 1) := by decide +kernel
theorem dX7_readsItem_23 : decode cX7_readsItem 23 = .ok (.iconst 1, 1) := by decide +kernel
theorem dX7_readsItem_24 : decode cX7_readsItem 24 = .ok (.invokevirtual 121, 3) := by decide +kernel
theorem dX7_readsItem_27 : decode cX7_readsItem 27 = .ok (.iastore, 1) := by decide +kernel
theorem dX7_readsItem_28 : decode cX7_readsItem 28 = .ok (.aload_n 0, 1) := by decide +kernel
theorem dX7_readsItem_29 : decode cX7_readsItem 29 = .ok (.getfield 19, 3) := by decide +kernel
theorem dX7_readsItem_32 : decode cX7_readsItem 32 = .ok (.iload_n 2, 1) := by decide +kernel
theorem dX7_readsItem_33 : decode cX7_readsItem 33 = .ok (.aload_n 0, 1) := by decide +kernel
theorem dX7_readsItem_34 : decode cX7_readsItem 34 = .ok (.iconst 0, 1) := by decide +kernel
theorem dX7_readsItem_35 : decode cX7_readsItem 35 = .ok (.iconst 4, 1) := by decide +kernel
theorem dX7_readsItem_36 : decode cX7_readsItem 36 = .ok (.invokevirtual 121, 3) := by decide +kernel
theorem dX7_readsItem_39 : decode cX7_readsItem 39 = .ok (.iastore, 1) := by decide +kernel
theorem dX7_readsItem_40 : decode cX7_readsItem 40 = .ok (.aload_n 0, 1) := by decide +kernel
theorem dX7_readsItem_41 : decode cX7_readsItem 41 = .ok (.getfield 22, 3) := by decide +kernel
theorem dX7_readsItem_44 : decode cX7_readsItem 44 = .ok (.iload_n 2, 1) := by decide +kernel
theorem dX7_readsItem_45 : decode cX7_readsItem 45 = .ok (.aload_n 0, 1) := by decide +kernel
theorem dX7_readsItem_46 : decode cX7_readsItem 46 = .ok (.iconst 1, 1) := by decide +kernel
theorem dX7_readsItem_47 : decode cX7_readsItem 47 = .ok (.bipush 60, 2) := by decide +kernel
theorem dX7_readsItem_49 : decode cX7_readsItem 49 = .ok (.invokevirtual 121, 3) := by decide +kernel
theorem dX7_readsItem_52 : decode cX7_readsItem 52 = .ok (.iastore, 1) := by decide +kernel
theorem dX7_readsItem_53 : decode cX7_readsItem 53 = .ok (.aload_n 0, 1) := by decide +kernel
theorem dX7_readsItem_54 : decode cX7_readsItem 54 = .ok (.getfield 13, 3) := by decide +kernel
theorem dX7_readsItem_57 : decode cX7_readsItem 57 = .ok (.iconst 2, 1) := by decide +kernel
theorem dX7_readsItem_58 : decode cX7_readsItem 58 = .ok (.dup2, 1) := by decide +kernel
theorem dX7_readsItem_59 : decode cX7_readsItem 59 = .ok (.iaload, 1) := by decide +kernel
theorem dX7_readsItem_60 : decode cX7_readsItem 60 = .ok (.iconst 1, 1) := by decide +kernel
theorem dX7_readsItem_61 : decode cX7_readsItem 61 = .ok (.iadd, 1) := by decide +kernel
theorem dX7_readsItem_62 : decode cX7_readsItem 62 = .ok (.iastore, 1) := by decide +kernel
theorem dX7_readsItem_63 : decode cX7_readsItem 63 = .ok (.goto 107, 3) := by decide +kernel
theorem dX7_readsItem_66 : decode cX7_readsItem 66 = .ok (.iload_n 1, 1) := by decide +kernel
theorem dX7_readsItem_67 : decode cX7_readsItem 67 = .ok (.bipush 112, 2) := by decide +kernel
theorem dX7_readsItem_69 : decode cX7_readsItem 69 = .ok (.if_icmp .ne 64, 3) := by decide +kernel
theorem dX7_readsItem_72 : decode cX7_readsItem 72 = .ok (.bipush 6, 2) := by decide +kernel
theorem dX7_readsItem_74 : decode cX7_readsItem 74 = .ok (.aload_n 0, 1) := by decide +kernel
theorem dX7_readsItem_75 : decode cX7_readsItem 75 = .ok (.getfield 13, 3) := by decide +kernel
theorem dX7_readsItem_78 : decode cX7_readsItem 78 = .ok (.iconst 3, 1) := by decide +kernel
theorem dX7_readsItem_79 : decode cX7_readsItem 79 = .ok (.iaload, 1) := by decide +kernel
theorem dX7_readsItem_80 : decode cX7_readsItem 80 = .ok (.iadd, 1) := by decide +kernel
theorem dX7_readsItem_81 : decode cX7_readsItem 81 = .ok (.istore_n 2, 1) := by decide +kernel
theorem dX7_readsItem_82 : decode cX7_readsItem 82 = .ok (.aload_n 0, 1) := by decide +kernel
theorem dX7_readsItem_83 : decode cX7_readsItem 83 = .ok (.getfield 25, 3) := by decide +kernel
theorem dX7_readsItem_86 : decode cX7_readsItem 86 = .ok (.iload_n 2, 1) := by decide +kernel
theorem dX7_readsItem_87 : decode cX7_readsItem 87 = .ok (.aload_n 0, 1) := by decide +kernel
theorem dX7_readsItem_88 : decode cX7_readsItem 88 = .ok (.iconst 1, 1) := by decide +kernel
theorem dX7_readsItem_89 : decode cX7_readsItem 89 = .ok (.iconst 3, 1) := by decide +kernel
theorem dX7_readsItem_90 : decode cX7_readsItem 90 = .ok (.invokevirtual 121, 3) := by decide +kernel
theorem dX7_readsItem_93 : decode cX7_readsItem 93 = .ok (.iastore, 1) := by decide +kernel
theorem dX7_readsItem_94 : decode cX7_readsItem 94 = .ok (.aload_n 0, 1) := by decide +kernel
theorem dX7_readsItem_95 : decode cX7_readsItem 95 = .ok (.getfield 28, 3) := by decide +kernel
theorem dX7_readsItem_98 : decode cX7_readsItem 98 = .ok (.iload_n 2, 1) := by decide +kernel
theorem dX7_readsItem_99 : decode cX7_readsItem 99 = .ok (.aload_n 0, 1) := by decide +kernel
theorem dX7_readsItem_100 : decode cX7_readsItem 100 = .ok (.iconst 0, 1) := by decide +kernel
theorem dX7_readsItem_101 : decode cX7_readsItem 101 = .ok (.bipush 20, 2) := by decide +kernel
theorem dX7_readsItem_103 : decode cX7_readsItem 103 = .ok (.invokevirtual 121, 3) := by decide +kernel
theorem dX7_readsItem_106 : decode cX7_readsItem 106 = .ok (.iastore, 1) := by decide +kernel
theorem dX7_readsItem_107 : decode cX7_readsItem 107 = .ok (.aload_n 0, 1) := by decide +kernel
theorem dX7_readsItem_108 : decode cX7_readsItem 108 = .ok (.getfield 31, 3) := by decide +kernel
theorem dX7_readsItem_111 : decode cX7_readsItem 111 = .ok (.iload_n 2, 1) := by decide +kernel
theorem dX7_readsItem_112 : decode cX7_readsItem 112 = .ok (.aload_n 0, 1) := by decide +kernel
theorem dX7_readsItem_113 : decode cX7_readsItem 113 = .ok (.iconst 0, 1) := by decide +kernel
theorem dX7_readsItem_114 : decode cX7_readsItem 114 = .ok (.bipush 20, 2) := by decide +kernel
theorem dX7_readsItem_116 : decode cX7_readsItem 116 = .ok (.invokevirtual 121, 3) := by decide +kernel
theorem dX7_readsItem_119 : decode cX7_readsItem 119 = .ok (.iastore, 1) := by decide +kernel
theorem dX7_readsItem_120 : decode cX7_readsItem 120 = .ok (.aload_n 0, 1) := by decide +kernel
theorem dX7_readsItem_121 : decode cX7_readsItem 121 = .ok (.getfield 13, 3) := by decide +kernel
theorem dX7_readsItem_124 : decode cX7_readsItem 124 = .ok (.iconst 3, 1) := by decide +kernel
theorem dX7_readsItem_125 : decode cX7_readsItem 125 = .ok (.dup2, 1) := by decide +kernel
theorem dX7_readsItem_126 : decode cX7_readsItem 126 = .ok (.iaload, 1) := by decide +kernel
theorem dX7_readsItem_127 : decode cX7_readsItem 127 = .ok (.iconst 1, 1) := by decide +kernel
theorem dX7_readsItem_128 : decode cX7_readsItem 128 = .ok (.iadd, 1) := by decide +kernel
theorem dX7_readsItem_129 : decode cX7_readsItem 129 = .ok (.iastore, 1) := by decide +kernel
theorem dX7_readsItem_130 : decode cX7_readsItem 130 = .ok (.goto 40, 3) := by decide +kernel
theorem dX7_readsItem_133 : decode cX7_readsItem 133 = .ok (.iload_n 1, 1) := by decide +kernel
theorem dX7_readsItem_134 : decode cX7_readsItem 134 = .ok (.bipush 120, 2) := by decide +kernel
theorem dX7_readsItem_136 : decode cX7_readsItem 136 = .ok (.if_icmp .ne 10, 3) := by decide +kernel
theorem dX7_readsItem_139 : decode cX7_readsItem 139 = .ok (.aload_n 0, 1) := by decide +kernel
theorem dX7_readsItem_140 : decode cX7_readsItem 140 = .ok (.invokevirtual 125, 3) := by decide +kernel
theorem dX7_readsItem_143 : decode cX7_readsItem 143 = .ok (.goto 27, 3) := by decide +kernel
theorem dX7_readsItem_146 : decode cX7_readsItem 146 = .ok (.aload_n 0, 1) := by decide +kernel
theorem dX7_readsItem_147 : decode cX7_readsItem 147 = .ok (.iconst 0, 1) := by decide +kernel
theorem dX7_readsItem_148 : decode cX7_readsItem 148 = .ok (.iconst 4, 1) := by decide +kernel
theorem dX7_readsItem_149 : decode cX7_readsItem 149 = .ok (.invokevirtual 121, 3) := by decide +kernel
theorem dX7_readsItem_152 : decode cX7_readsItem 152 = .ok (.istore_n 2, 1) := by decide +kernel
theorem dX7_readsItem_153 : decode cX7_readsItem 153 = .ok (.aload_n 0, 1) := by decide +kernel
theorem dX7_readsItem_154 : decode cX7_readsItem 154 = .ok (.iconst 0, 1) := by decide +kernel
theorem dX7_readsItem_155 : decode cX7_readsItem 155 = .ok (.bipush 9, 2) := by decide +kernel
theorem dX7_readsItem_157 : decode cX7_readsItem 157 = .ok (.invokevirtual 121, 3) := by decide +kernel
theorem dX7_readsItem_160 : decode cX7_readsItem 160 = .ok (.istore_n 3, 1) := by decide +kernel
theorem dX7_readsItem_161 : decode cX7_readsItem 161 = .ok (.aload_n 0, 1) := by decide +kernel
theorem dX7_readsItem_162 : decode cX7_readsItem 162 = .ok (.getfield 37, 3) := by decide +kernel
theorem dX7_readsItem_165 : decode cX7_readsItem 165 = .ok (.iconst 5, 1) := by decide +kernel
theorem dX7_readsItem_166 : decode cX7_readsItem 166 = .ok (.iload_n 2, 1) := by decide +kernel
theorem dX7_readsItem_167 : decode cX7_readsItem 167 = .ok (.iadd, 1) := by decide +kernel
theorem dX7_readsItem_168 : decode cX7_readsItem 168 = .ok (.iload_n 3, 1) := by decide +kernel
theorem dX7_readsItem_169 : decode cX7_readsItem 169 = .ok (.iastore, 1) := by decide +kernel
theorem dX7_readsItem_170 : decode cX7_readsItem 170 = .ok (.return_, 1) := by decide +kernel
set_option maxRecDepth 20000 in
theorem ggX7_parish_X7_begins : GoodIn wsX7_parish wsX7_begins := goodIn_r _ [9, 10, 11, 12, 85, 86, 87, 88, 89, 90, 91, 92, 93, 94, 95, 96, 97, 98, 99, 100, 101, 102, 103, 104, 105, 106, 107, 108, 109, 110, 111, 112, 113, 114, 115, 116, 117, 118, 119] rfl (by decide +kernel)
set_option maxRecDepth 20000 in
theorem gX7_parish_X7_begins : GoodIn wsX7_parish (wsV RX7 74 RX7 yX7_begins wsX7_begins) := goodIn_app (goodIn_of _ (by decide +kernel)) ggX7_parish_X7_begins
set_option maxRecDepth 20000 in
theorem ggX7_parish_X7_advances : GoodIn wsX7_parish wsX7_advances := goodIn_r _ [16, 3, 17, 4, 18, 19, 20, 21, 8, 22, 23, 24, 25, 26, 27, 85, 86, 87, 88, 89, 90, 91, 92, 93, 94, 95, 96, 97, 98, 99, 100, 101, 102, 103, 104, 105, 106, 107, 108, 109, 110, 111, 112, 113, 114, 115, 116, 117, 118, 119] rfl (by decide +kernel)
set_option maxRecDepth 20000 in
theorem gX7_parish_X7_advances : GoodIn wsX7_parish (wsV RX7 114 RX7 yX7_advances wsX7_advances) := goodIn_app (goodIn_of _ (by decide +kernel)) ggX7_parish_X7_advances
set_option maxRecDepth 20000 in
theorem ggX7_parish_X7_isWell : GoodIn wsX7_parish wsX7_isWell := goodIn_r _ [31, 2, 85, 86, 87, 88, 89, 90, 91, 92, 93, 94, 95, 96, 97, 98, 99, 100, 101, 102, 103, 104, 105, 106, 107, 108, 109, 110, 111, 112, 113, 114, 115, 116, 117, 118, 119] rfl (by decide +kernel)
set_option maxRecDepth 20000 in
theorem gX7_parish_X7_isWell : GoodIn wsX7_parish (wsV RX7 110 RX7 yX7_isWell wsX7_isWell) := goodIn_app (goodIn_of _ (by decide +kernel)) ggX7_parish_X7_isWell
set_option maxRecDepth 20000 in
theorem ggX7_parish_X7_mayBegin : GoodIn wsX7_parish wsX7_mayBegin := goodIn_r _ [35, 18, 10, 85, 86, 87, 88, 89, 90, 91, 92, 93, 94, 95, 96, 97, 98, 99, 100, 101, 102, 103, 104, 105, 106, 107, 108, 109, 110, 111, 112, 113, 114, 115, 116, 117, 118, 119] rfl (by decide +kernel)
set_option maxRecDepth 20000 in
theorem gX7_parish_X7_mayBegin : GoodIn wsX7_parish (wsV RX7 128 RX7 yX7_mayBegin wsX7_mayBegin) := goodIn_app (goodIn_of _ (by decide +kernel)) ggX7_parish_X7_mayBegin
set_option maxRecDepth 20000 in
theorem ggX7_parish_X7_takes : GoodIn wsX7_parish wsX7_takes := goodIn_r _ [39, 17, 2, 18, 28, 29, 30, 8, 31, 13, 14, 15, 16, 3, 4, 19, 20, 21, 22, 23, 24, 25, 26, 27, 85, 86, 87, 88, 89, 90, 91, 92, 93, 94, 95, 96, 97, 98, 99, 100, 101, 102, 103, 104, 105, 106, 107, 108, 109, 110, 111, 112, 113, 114, 115, 116, 117, 118, 119] rfl (by decide +kernel)
set_option maxRecDepth 20000 in
theorem gX7_parish_X7_takes : GoodIn wsX7_parish (wsV RX7 117 RX7 yX7_takes wsX7_takes) := goodIn_app (goodIn_of _ (by decide +kernel)) ggX7_parish_X7_takes
set_option maxRecDepth 20000 in
theorem ggX7_parish_X7_readsItem : GoodIn wsX7_parish wsX7_readsItem := goodIn_r _ [43, 10, 44, 45, 46, 47, 48, 49, 12, 50, 51, 52, 8, 53, 4, 18, 25, 26, 27, 36, 37, 38, 39, 17, 2, 28, 29, 30, 31, 13, 14, 15, 16, 3, 19, 20, 21, 22, 23, 24, 54, 55, 56, 57, 11, 85, 86, 87, 88, 89, 90, 91, 92, 93, 94, 95, 96, 97, 98, 99, 100, 101, 102, 103, 104, 105, 106, 107, 108, 109, 110, 111, 112, 113, 114, 115, 116, 117, 118, 119] rfl (by decide +kernel)
set_option maxRecDepth 20000 in
theorem gX7_parish_X7_readsItem : GoodIn wsX7_parish (wsV RX7 131 RX7 yX7_readsItem wsX7_readsItem) := goodIn_app (goodIn_of _ (by decide +kernel)) ggX7_parish_X7_readsItem
set_option maxRecDepth 20000 in
theorem ggX7_parish_X7_settles : GoodIn wsX7_parish wsX7_settles := goodIn_r _ [61, 10, 62, 44, 45, 46, 47, 48, 49, 11, 12, 23, 63, 64, 65, 66, 67, 68, 69, 8, 70, 71, 72, 73, 74, 75, 76, 77, 78, 79, 80, 81, 82, 83, 84, 85, 86, 87, 88, 89, 90, 91, 92, 93, 94, 95, 96, 97, 98, 99, 100, 101, 102, 103, 104, 105, 106, 107, 108, 109, 110, 111, 112, 113, 114, 115, 116, 117, 118, 119] rfl (by decide +kernel)
set_option maxRecDepth 20000 in
theorem gX7_parish_X7_settles : GoodIn wsX7_parish (wsV RX7 77 RX7 yX7_settles wsX7_settles) := goodIn_app (goodIn_of _ (by decide +kernel)) ggX7_parish_X7_settles
theorem dX7_parish_0 : decode cX7_parish 0 = .ok (.aload_n 0, 1) := by decide +kernel
theorem dX7_parish_1 : decode cX7_parish 1 = .ok (.iconst 0, 1) := by decide +kernel
theorem dX7_parish_2 : decode cX7_parish 2 = .ok (.putfield 80, 3) := by decide +kernel
theorem dX7_parish_5 : decode cX7_parish 5 = .ok (.aload_n 0, 1) := by decide +kernel
theorem dX7_parish_6 : decode cX7_parish 6 = .ok (.iconst (-1), 1) := by decide +kernel
theorem dX7_parish_7 : decode cX7_parish 7 = .ok (.putfield 107, 3) := by decide +kernel
theorem dX7_parish_10 : decode cX7_parish 10 = .ok (.aload_n 0, 1) := by decide +kernel
theorem dX7_parish_11 : decode cX7_parish 11 = .ok (.iconst 0, 1) := by decide +kernel
theorem dX7_parish_12 : decode cX7_parish 12 = .ok (.putfield 91, 3) := by decide +kernel
theorem dX7_parish_15 : decode cX7_parish 15 = .ok (.aload_n 0, 1) := by decide +kernel
theorem dX7_parish_16 : decode cX7_parish 16 = .ok (.invokevirtual 74, 3) := by decide +kernel
theorem dX7_parish_19 : decode cX7_parish 19 = .ok (.iconst 0, 1) := by decide +kernel
theorem dX7_parish_20 : decode cX7_parish 20 = .ok (.istore_n 1, 1) := by decide +kernel
theorem dX7_parish_21 : decode cX7_parish 21 = .ok (.aload_n 0, 1) := by decide +kernel
theorem dX7_parish_22 : decode cX7_parish 22 = .ok (.invokevirtual 114, 3) := by decide +kernel
theorem dX7_parish_25 : decode cX7_parish 25 = .ok (.aload_n 0, 1) := by decide +kernel
theorem dX7_parish_26 : decode cX7_parish 26 = .ok (.invokevirtual 110, 3) := by decide +kernel
theorem dX7_parish_29 : decode cX7_parish 29 = .ok (.ifCond .eq 71, 3) := by decide +kernel
theorem dX7_parish_32 : decode cX7_parish 32 = .ok (.aload_n 0, 1) := by decide +kernel
theorem dX7_parish_33 : decode cX7_parish 33 = .ok (.getfield 101, 3) := by decide +kernel
theorem dX7_parish_36 : decode cX7_parish 36 = .ok (.ifCond .eq 64, 3) := by decide +kernel
theorem dX7_parish_39 : decode cX7_parish 39 = .ok (.aload_n 0, 1) := by decide +kernel
theorem dX7_parish_40 : decode cX7_parish 40 = .ok (.aload_n 0, 1) := by decide +kernel
theorem dX7_parish_41 : decode cX7_parish 41 = .ok (.getfield 101, 3) := by decide +kernel
theorem dX7_parish_44 : decode cX7_parish 44 = .ok (.iconst 1, 1) := by decide +kernel
theorem dX7_parish_45 : decode cX7_parish 45 = .ok (.if_icmp .ne 14, 3) := by decide +kernel
theorem dX7_parish_48 : decode cX7_parish 48 = .ok (.aload_n 0, 1) := by decide +kernel
theorem dX7_parish_49 : decode cX7_parish 49 = .ok (.invokevirtual 128, 3) := by decide +kernel
theorem dX7_parish_52 : decode cX7_parish 52 = .ok (.ifCond .eq 7, 3) := by decide +kernel
theorem dX7_parish_55 : decode cX7_parish 55 = .ok (.iconst 1, 1) := by decide +kernel
theorem dX7_parish_56 : decode cX7_parish 56 = .ok (.goto 4, 3) := by decide +kernel
theorem dX7_parish_59 : decode cX7_parish 59 = .ok (.iconst 0, 1) := by decide +kernel
theorem dX7_parish_60 : decode cX7_parish 60 = .ok (.invokevirtual 117, 3) := by decide +kernel
theorem dX7_parish_63 : decode cX7_parish 63 = .ok (.istore_n 2, 1) := by decide +kernel
theorem dX7_parish_64 : decode cX7_parish 64 = .ok (.aload_n 0, 1) := by decide +kernel
theorem dX7_parish_65 : decode cX7_parish 65 = .ok (.invokevirtual 110, 3) := by decide +kernel
theorem dX7_parish_68 : decode cX7_parish 68 = .ok (.ifCond .eq 8, 3) := by decide +kernel
theorem dX7_parish_71 : decode cX7_parish 71 = .ok (.aload_n 0, 1) := by decide +kernel
theorem dX7_parish_72 : decode cX7_parish 72 = .ok (.iload_n 2, 1) := by decide +kernel
theorem dX7_parish_73 : decode cX7_parish 73 = .ok (.invokevirtual 131, 3) := by decide +kernel
theorem dX7_parish_76 : decode cX7_parish 76 = .ok (.aload_n 0, 1) := by decide +kernel
theorem dX7_parish_77 : decode cX7_parish 77 = .ok (.aload_n 0, 1) := by decide +kernel
theorem dX7_parish_78 : decode cX7_parish 78 = .ok (.getfield 101, 3) := by decide +kernel
theorem dX7_parish_81 : decode cX7_parish 81 = .ok (.iconst 3, 1) := by decide +kernel
theorem dX7_parish_82 : decode cX7_parish 82 = .ok (.if_icmp .ne 7, 3) := by decide +kernel
theorem dX7_parish_85 : decode cX7_parish 85 = .ok (.iconst 1, 1) := by decide +kernel
theorem dX7_parish_86 : decode cX7_parish 86 = .ok (.goto 4, 3) := by decide +kernel
theorem dX7_parish_89 : decode cX7_parish 89 = .ok (.iconst 0, 1) := by decide +kernel
theorem dX7_parish_90 : decode cX7_parish 90 = .ok (.invokevirtual 117, 3) := by decide +kernel
theorem dX7_parish_93 : decode cX7_parish 93 = .ok (.pop, 1) := by decide +kernel
theorem dX7_parish_94 : decode cX7_parish 94 = .ok (.iinc 1 1, 3) := by decide +kernel
theorem dX7_parish_97 : decode cX7_parish 97 = .ok (.goto (-72), 3) := by decide +kernel
theorem dX7_parish_100 : decode cX7_parish 100 = .ok (.aload_n 0, 1) := by decide +kernel
theorem dX7_parish_101 : decode cX7_parish 101 = .ok (.invokevirtual 110, 3) := by decide +kernel
theorem dX7_parish_104 : decode cX7_parish 104 = .ok (.ifCond .ne 11, 3) := by decide +kernel
theorem dX7_parish_107 : decode cX7_parish 107 = .ok (.bipush (-10), 2) := by decide +kernel
theorem dX7_parish_109 : decode cX7_parish 109 = .ok (.aload_n 0, 1) := by decide +kernel
theorem dX7_parish_110 : decode cX7_parish 110 = .ok (.getfield 107, 3) := by decide +kernel
theorem dX7_parish_113 : decode cX7_parish 113 = .ok (.isub, 1) := by decide +kernel
theorem dX7_parish_114 : decode cX7_parish 114 = .ok (.ireturn, 1) := by decide +kernel
theorem dX7_parish_115 : decode cX7_parish 115 = .ok (.aload_n 0, 1) := by decide +kernel
theorem dX7_parish_116 : decode cX7_parish 116 = .ok (.invokevirtual 77, 3) := by decide +kernel
theorem dX7_parish_119 : decode cX7_parish 119 = .ok (.iload_n 1, 1) := by decide +kernel
theorem dX7_parish_120 : decode cX7_parish 120 = .ok (.ireturn, 1) := by decide +kernel
set_option maxRecDepth 20000 in
theorem ggX7_settles_X7_seats : GoodIn wsX7_settles wsX7_seats := goodIn_r _ [20, 21, 22, 23, 24, 19, 25, 26, 27, 28, 29, 30, 1, 4, 31, 32, 33, 34, 9, 35, 36, 37, 38, 39, 40, 41, 42, 43, 44, 45, 46, 47, 48, 49, 50, 51, 52, 53, 54, 55, 56, 57, 58, 59, 60, 61, 62, 63, 64, 65, 66, 67, 68, 69] rfl (by decide +kernel)
set_option maxRecDepth 20000 in
theorem gX7_settles_X7_seats : GoodIn wsX7_settles (wsV RX7 144 RX7 yX7_seats wsX7_seats) := goodIn_app (goodIn_of _ (by decide +kernel)) ggX7_settles_X7_seats
theorem dX7_settles_0 : decode cX7_settles 0 = .ok (.aload_n 0, 1) := by decide +kernel
theorem dX7_settles_1 : decode cX7_settles 1 = .ok (.getfield 13, 3) := by decide +kernel
theorem dX7_settles_4 : decode cX7_settles 4 = .ok (.iconst 0, 1) := by decide +kernel
theorem dX7_settles_5 : decode cX7_settles 5 = .ok (.aload_n 0, 1) := by decide +kernel
theorem dX7_settles_6 : decode cX7_settles 6 = .ok (.getfield 13, 3) := by decide +kernel
theorem dX7_settles_9 : decode cX7_settles 9 = .ok (.iconst 2, 1) := by decide +kernel
theorem dX7_settles_10 : decode cX7_settles 10 = .ok (.iaload, 1) := by decide +kernel
theorem dX7_settles_11 : decode cX7_settles 11 = .ok (.iastore, 1) := by decide +kernel
theorem dX7_settles_12 : decode cX7_settles 12 = .ok (.aload_n 0, 1) := by decide +kernel
theorem dX7_settles_13 : decode cX7_settles 13 = .ok (.getfield 13, 3) := by decide +kernel
theorem dX7_settles_16 : decode cX7_settles 16 = .ok (.iconst 1, 1) := by decide +kernel
theorem dX7_settles_17 : decode cX7_settles 17 = .ok (.aload_n 0, 1) := by decide +kernel
theorem dX7_settles_18 : decode cX7_settles 18 = .ok (.getfield 13, 3) := by decide +kernel
theorem dX7_settles_21 : decode cX7_settles 21 = .ok (.iconst 3, 1) := by decide +kernel
theorem dX7_settles_22 : decode cX7_settles 22 = .ok (.iaload, 1) := by decide +kernel
theorem dX7_settles_23 : decode cX7_settles 23 = .ok (.iastore, 1) := by decide +kernel
theorem dX7_settles_24 : decode cX7_settles 24 = .ok (.iconst 0, 1) := by decide +kernel
theorem dX7_settles_25 : decode cX7_settles 25 = .ok (.istore_n 1, 1) := by decide +kernel
theorem dX7_settles_26 : decode cX7_settles 26 = .ok (.iload_n 1, 1) := by decide +kernel
theorem dX7_settles_27 : decode cX7_settles 27 = .ok (.bipush 23, 2) := by decide +kernel
theorem dX7_settles_29 : decode cX7_settles 29 = .ok (.if_icmp .ge 16, 3) := by decide +kernel
theorem dX7_settles_32 : decode cX7_settles 32 = .ok (.aload_n 0, 1) := by decide +kernel
theorem dX7_settles_33 : decode cX7_settles 33 = .ok (.getfield 43, 3) := by decide +kernel
theorem dX7_settles_36 : decode cX7_settles 36 = .ok (.iload_n 1, 1) := by decide +kernel
theorem dX7_settles_37 : decode cX7_settles 37 = .ok (.iconst 0, 1) := by decide +kernel
theorem dX7_settles_38 : decode cX7_settles 38 = .ok (.iastore, 1) := by decide +kernel
theorem dX7_settles_39 : decode cX7_settles 39 = .ok (.iinc 1 1, 3) := by decide +kernel
theorem dX7_settles_42 : decode cX7_settles 42 = .ok (.goto (-16), 3) := by decide +kernel
theorem dX7_settles_45 : decode cX7_settles 45 = .ok (.iconst 0, 1) := by decide +kernel
theorem dX7_settles_46 : decode cX7_settles 46 = .ok (.istore_n 1, 1) := by decide +kernel
theorem dX7_settles_47 : decode cX7_settles 47 = .ok (.iload_n 1, 1) := by decide +kernel
theorem dX7_settles_48 : decode cX7_settles 48 = .ok (.bipush 9, 2) := by decide +kernel
theorem dX7_settles_50 : decode cX7_settles 50 = .ok (.if_icmp .ge 83, 3) := by decide +kernel
theorem dX7_settles_53 : decode cX7_settles 53 = .ok (.aload_n 0, 1) := by decide +kernel
theorem dX7_settles_54 : decode cX7_settles 54 = .ok (.getfield 16, 3) := by decide +kernel
theorem dX7_settles_57 : decode cX7_settles 57 = .ok (.iload_n 1, 1) := by decide +kernel
theorem dX7_settles_58 : decode cX7_settles 58 = .ok (.aload_n 0, 1) := by decide +kernel
theorem dX7_settles_59 : decode cX7_settles 59 = .ok (.getfield 16, 3) := by decide +kernel
theorem dX7_settles_62 : decode cX7_settles 62 = .ok (.bipush 9, 2) := by decide +kernel
theorem dX7_settles_64 : decode cX7_settles 64 = .ok (.iload_n 1, 1) := by decide +kernel
theorem dX7_settles_65 : decode cX7_settles 65 = .ok (.iadd, 1) := by decide +kernel
theorem dX7_settles_66 : decode cX7_settles 66 = .ok (.iaload, 1) := by decide +kernel
theorem dX7_settles_67 : decode cX7_settles 67 = .ok (.iastore, 1) := by decide +kernel
theorem dX7_settles_68 : decode cX7_settles 68 = .ok (.aload_n 0, 1) := by decide +kernel
theorem dX7_settles_69 : decode cX7_settles 69 = .ok (.getfield 19, 3) := by decide +kernel
theorem dX7_settles_72 : decode cX7_settles 72 = .ok (.iload_n 1, 1) := by decide +kernel
theorem dX7_settles_73 : decode cX7_settles 73 = .ok (.aload_n 0, 1) := by decide +kernel
theorem dX7_settles_74 : decode cX7_settles 74 = .ok (.getfield 19, 3) := by decide +kernel
theorem dX7_settles_77 : decode cX7_settles 77 = .ok (.bipush 9, 2) := by decide +kernel
theorem dX7_settles_79 : decode cX7_settles 79 = .ok (.iload_n 1, 1) := by decide +kernel
theorem dX7_settles_80 : decode cX7_settles 80 = .ok (.iadd, 1) := by decide +kernel
theorem dX7_settles_81 : decode cX7_settles 81 = .ok (.iaload, 1) := by decide +kernel
theorem dX7_settles_82 : decode cX7_settles 82 = .ok (.iastore, 1) := by decide +kernel
theorem dX7_settles_83 : decode cX7_settles 83 = .ok (.aload_n 0, 1) := by decide +kernel
theorem dX7_settles_84 : decode cX7_settles 84 = .ok (.getfield 22, 3) := by decide +kernel
theorem dX7_settles_87 : decode cX7_settles 87 = .ok (.iload_n 1, 1) := by decide +kernel
theorem dX7_settles_88 : decode cX7_settles 88 = .ok (.aload_n 0, 1) := by decide +kernel
theorem dX7_settles_89 : decode cX7_settles 89 = .ok (.getfield 22, 3) := by decide +kernel
theorem dX7_settles_92 : decode cX7_settles 92 = .ok (.bipush 9, 2) := by decide +kernel
theorem dX7_settles_94 : decode cX7_settles 94 = .ok (.iload_n 1, 1) := by decide +kernel
theorem dX7_settles_95 : decode cX7_settles 95 = .ok (.iadd, 1) := by decide +kernel
theorem dX7_settles_96 : decode cX7_settles 96 = .ok (.iaload, 1) := by decide +kernel
theorem dX7_settles_97 : decode cX7_settles 97 = .ok (.iastore, 1) := by decide +kernel
theorem dX7_settles_98 : decode cX7_settles 98 = .ok (.aload_n 0, 1) := by decide +kernel
theorem dX7_settles_99 : decode cX7_settles 99 = .ok (.getfield 43, 3) := by decide +kernel
theorem dX7_settles_102 : decode cX7_settles 102 = .ok (.bipush 11, 2) := by decide +kernel
theorem dX7_settles_104 : decode cX7_settles 104 = .ok (.iload_n 1, 1) := by decide +kernel
theorem dX7_settles_105 : decode cX7_settles 105 = .ok (.iadd, 1) := by decide +kernel
theorem dX7_settles_106 : decode cX7_settles 106 = .ok (.iload_n 1, 1) := by decide +kernel
theorem dX7_settles_107 : decode cX7_settles 107 = .ok (.aload_n 0, 1) := by decide +kernel
theorem dX7_settles_108 : decode cX7_settles 108 = .ok (.getfield 13, 3) := by decide +kernel
theorem dX7_settles_111 : decode cX7_settles 111 = .ok (.iconst 0, 1) := by decide +kernel
theorem dX7_settles_112 : decode cX7_settles 112 = .ok (.iaload, 1) := by decide +kernel
theorem dX7_settles_113 : decode cX7_settles 113 = .ok (.if_icmp .ge 12, 3) := by decide +kernel
theorem dX7_settles_116 : decode cX7_settles 116 = .ok (.aload_n 0, 1) := by decide +kernel
theorem dX7_settles_117 : decode cX7_settles 117 = .ok (.getfield 22, 3) := by decide +kernel
theorem dX7_settles_120 : decode cX7_settles 120 = .ok (.iload_n 1, 1) := by decide +kernel
theorem dX7_settles_121 : decode cX7_settles 121 = .ok (.iaload, 1) := by decide +kernel
theorem dX7_settles_122 : decode cX7_settles 122 = .ok (.goto 4, 3) := by decide +kernel
theorem dX7_settles_125 : decode cX7_settles 125 = .ok (.iconst 0, 1) := by decide +kernel
theorem dX7_settles_126 : decode cX7_settles 126 = .ok (.iastore, 1) := by decide +kernel
theorem dX7_settles_127 : decode cX7_settles 127 = .ok (.iinc 1 1, 3) := by decide +kernel
theorem dX7_settles_130 : decode cX7_settles 130 = .ok (.goto (-83), 3) := by decide +kernel
theorem dX7_settles_133 : decode cX7_settles 133 = .ok (.iconst 0, 1) := by decide +kernel
theorem dX7_settles_134 : decode cX7_settles 134 = .ok (.istore_n 1, 1) := by decide +kernel
theorem dX7_settles_135 : decode cX7_settles 135 = .ok (.iload_n 1, 1) := by decide +kernel
theorem dX7_settles_136 : decode cX7_settles 136 = .ok (.bipush 6, 2) := by decide +kernel
theorem dX7_settles_138 : decode cX7_settles 138 = .ok (.if_icmp .ge 54, 3) := by decide +kernel
theorem dX7_settles_141 : decode cX7_settles 141 = .ok (.aload_n 0, 1) := by decide +kernel
theorem dX7_settles_142 : decode cX7_settles 142 = .ok (.getfield 25, 3) := by decide +kernel
theorem dX7_settles_145 : decode cX7_settles 145 = .ok (.iload_n 1, 1) := by decide +kernel
theorem dX7_settles_146 : decode cX7_settles 146 = .ok (.aload_n 0, 1) := by decide +kernel
theorem dX7_settles_147 : decode cX7_settles 147 = .ok (.getfield 25, 3) := by decide +kernel
theorem dX7_settles_150 : decode cX7_settles 150 = .ok (.bipush 6, 2) := by decide +kernel
theorem dX7_settles_152 : decode cX7_settles 152 = .ok (.iload_n 1, 1) := by decide +kernel
theorem dX7_settles_153 : decode cX7_settles 153 = .ok (.iadd, 1) := by decide +kernel
theorem dX7_settles_154 : decode cX7_settles 154 = .ok (.iaload, 1) := by decide +kernel
theorem dX7_settles_155 : decode cX7_settles 155 = .ok (.iastore, 1) := by decide +kernel
theorem dX7_settles_156 : decode cX7_settles 156 = .ok (.aload_n 0, 1) := by decide +kernel
theorem dX7_settles_157 : decode cX7_settles 157 = .ok (.getfield 28, 3) := by decide +kernel
theorem dX7_settles_160 : decode cX7_settles 160 = .ok (.iload_n 1, 1) := by decide +kernel
theorem dX7_settles_161 : decode cX7_settles 161 = .ok (.aload_n 0, 1) := by decide +kernel
theorem dX7_settles_162 : decode cX7_settles 162 = .ok (.getfield 28, 3) := by decide +kernel
theorem dX7_settles_165 : decode cX7_settles 165 = .ok (.bipush 6, 2) := by decide +kernel
theorem dX7_settles_167 : decode cX7_settles 167 = .ok (.iload_n 1, 1) := by decide +kernel
theorem dX7_settles_168 : decode cX7_settles 168 = .ok (.iadd, 1) := by decide +kernel
theorem dX7_settles_169 : decode cX7_settles 169 = .ok (.iaload, 1) := by decide +kernel
theorem dX7_settles_170 : decode cX7_settles 170 = .ok (.iastore, 1) := by decide +kernel
theorem dX7_settles_171 : decode cX7_settles 171 = .ok (.aload_n 0, 1) := by decide +kernel
theorem dX7_settles_172 : decode cX7_settles 172 = .ok (.getfield 31, 3) := by decide +kernel
theorem dX7_settles_175 : decode cX7_settles 175 = .ok (.iload_n 1, 1) := by decide +kernel
theorem dX7_settles_176 : decode cX7_settles 176 = .ok (.aload_n 0, 1) := by decide +kernel
theorem dX7_settles_177 : decode cX7_settles 177 = .ok (.getfield 31, 3) := by decide +kernel
theorem dX7_settles_180 : decode cX7_settles 180 = .ok (.bipush 6, 2) := by decide +kernel
theorem dX7_settles_182 : decode cX7_settles 182 = .ok (.iload_n 1, 1) := by decide +kernel
theorem dX7_settles_183 : decode cX7_settles 183 = .ok (.iadd, 1) := by decide +kernel
theorem dX7_settles_184 : decode cX7_settles 184 = .ok (.iaload, 1) := by decide +kernel
theorem dX7_settles_185 : decode cX7_settles 185 = .ok (.iastore, 1) := by decide +kernel
theorem dX7_settles_186 : decode cX7_settles 186 = .ok (.iinc 1 1, 3) := by decide +kernel
theorem dX7_settles_189 : decode cX7_settles 189 = .ok (.goto (-54), 3) := by decide +kernel
theorem dX7_settles_192 : decode cX7_settles 192 = .ok (.iconst 0, 1) := by decide +kernel
theorem dX7_settles_193 : decode cX7_settles 193 = .ok (.istore_n 1, 1) := by decide +kernel
theorem dX7_settles_194 : decode cX7_settles 194 = .ok (.iload_n 1, 1) := by decide +kernel
theorem dX7_settles_195 : decode cX7_settles 195 = .ok (.iconst 5, 1) := by decide +kernel
theorem dX7_settles_196 : decode cX7_settles 196 = .ok (.if_icmp .ge 37, 3) := by decide +kernel
theorem dX7_settles_199 : decode cX7_settles 199 = .ok (.aload_n 0, 1) := by decide +kernel
theorem dX7_settles_200 : decode cX7_settles 200 = .ok (.getfield 34, 3) := by decide +kernel
theorem dX7_settles_203 : decode cX7_settles 203 = .ok (.iload_n 1, 1) := by decide +kernel
theorem dX7_settles_204 : decode cX7_settles 204 = .ok (.aload_n 0, 1) := by decide +kernel
theorem dX7_settles_205 : decode cX7_settles 205 = .ok (.getfield 34, 3) := by decide +kernel
theorem dX7_settles_208 : decode cX7_settles 208 = .ok (.iconst 5, 1) := by decide +kernel
theorem dX7_settles_209 : decode cX7_settles 209 = .ok (.iload_n 1, 1) := by decide +kernel
theorem dX7_settles_210 : decode cX7_settles 210 = .ok (.iadd, 1) := by decide +kernel
theorem dX7_settles_211 : decode cX7_settles 211 = .ok (.iaload, 1) := by decide +kernel
theorem dX7_settles_212 : decode cX7_settles 212 = .ok (.iastore, 1) := by decide +kernel
theorem dX7_settles_213 : decode cX7_settles 213 = .ok (.aload_n 0, 1) := by decide +kernel
theorem dX7_settles_214 : decode cX7_settles 214 = .ok (.getfield 37, 3) := by decide +kernel
theorem dX7_settles_217 : decode cX7_settles 217 = .ok (.iload_n 1, 1) := by decide +kernel
theorem dX7_settles_218 : decode cX7_settles 218 = .ok (.aload_n 0, 1) := by decide +kernel
theorem dX7_settles_219 : decode cX7_settles 219 = .ok (.getfield 37, 3) := by decide +kernel
theorem dX7_settles_222 : decode cX7_settles 222 = .ok (.iconst 5, 1) := by decide +kernel
theorem dX7_settles_223 : decode cX7_settles 223 = .ok (.iload_n 1, 1) := by decide +kernel
theorem dX7_settles_224 : decode cX7_settles 224 = .ok (.iadd, 1) := by decide +kernel
theorem dX7_settles_225 : decode cX7_settles 225 = .ok (.iaload, 1) := by decide +kernel
theorem dX7_settles_226 : decode cX7_settles 226 = .ok (.iastore, 1) := by decide +kernel
theorem dX7_settles_227 : decode cX7_settles 227 = .ok (.iinc 1 1, 3) := by decide +kernel
theorem dX7_settles_230 : decode cX7_settles 230 = .ok (.goto (-36), 3) := by decide +kernel
theorem dX7_settles_233 : decode cX7_settles 233 = .ok (.aload_n 0, 1) := by decide +kernel
theorem dX7_settles_234 : decode cX7_settles 234 = .ok (.iconst 0, 1) := by decide +kernel
theorem dX7_settles_235 : decode cX7_settles 235 = .ok (.putfield 88, 3) := by decide +kernel
theorem dX7_settles_238 : decode cX7_settles 238 = .ok (.aload_n 0, 1) := by decide +kernel
theorem dX7_settles_239 : decode cX7_settles 239 = .ok (.iconst 0, 1) := by decide +kernel
theorem dX7_settles_240 : decode cX7_settles 240 = .ok (.putfield 135, 3) := by decide +kernel
theorem dX7_settles_243 : decode cX7_settles 243 = .ok (.aload_n 0, 1) := by decide +kernel
theorem dX7_settles_244 : decode cX7_settles 244 = .ok (.iconst 0, 1) := by decide +kernel
theorem dX7_settles_245 : decode cX7_settles 245 = .ok (.putfield 138, 3) := by decide +kernel
theorem dX7_settles_248 : decode cX7_settles 248 = .ok (.aload_n 0, 1) := by decide +kernel
theorem dX7_settles_249 : decode cX7_settles 249 = .ok (.iconst 0, 1) := by decide +kernel
theorem dX7_settles_250 : decode cX7_settles 250 = .ok (.putfield 141, 3) := by decide +kernel
theorem dX7_settles_253 : decode cX7_settles 253 = .ok (.aload_n 0, 1) := by decide +kernel
theorem dX7_settles_254 : decode cX7_settles 254 = .ok (.getfield 49, 3) := by decide +kernel
theorem dX7_settles_257 : decode cX7_settles 257 = .ok (.iconst 0, 1) := by decide +kernel
theorem dX7_settles_258 : decode cX7_settles 258 = .ok (.iconst 0, 1) := by decide +kernel
theorem dX7_settles_259 : decode cX7_settles 259 = .ok (.bastore, 1) := by decide +kernel
theorem dX7_settles_260 : decode cX7_settles 260 = .ok (.aload_n 0, 1) := by decide +kernel
theorem dX7_settles_261 : decode cX7_settles 261 = .ok (.getfield 49, 3) := by decide +kernel
theorem dX7_settles_264 : decode cX7_settles 264 = .ok (.iconst 1, 1) := by decide +kernel
theorem dX7_settles_265 : decode cX7_settles 265 = .ok (.iconst 0, 1) := by decide +kernel
theorem dX7_settles_266 : decode cX7_settles 266 = .ok (.bastore, 1) := by decide +kernel
theorem dX7_settles_267 : decode cX7_settles 267 = .ok (.aload_n 0, 1) := by decide +kernel
theorem dX7_settles_268 : decode cX7_settles 268 = .ok (.invokevirtual 144, 3) := by decide +kernel
theorem dX7_settles_271 : decode cX7_settles 271 = .ok (.return_, 1) := by decide +kernel
set_option maxRecDepth 20000 in
theorem ggX7_isKnee_X7_in : GoodIn wsX7_isKnee wsX7_in := goodIn_r _ [5] rfl (by decide +kernel)
set_option maxRecDepth 20000 in
theorem gX7_isKnee_X7_in : GoodIn wsX7_isKnee (va_wsS RX7 84 yX7_in wsX7_in) := goodIn_app (goodIn_of _ (by decide +kernel)) ggX7_isKnee_X7_in
theorem dX7_isKnee_0 : decode cX7_isKnee 0 = .ok (.iload_n 1, 1) := by decide +kernel
theorem dX7_isKnee_1 : decode cX7_isKnee 1 = .ok (.iconst 0, 1) := by decide +kernel
theorem dX7_isKnee_2 : decode cX7_isKnee 2 = .ok (.aload_n 0, 1) := by decide +kernel
theorem dX7_isKnee_3 : decode cX7_isKnee 3 = .ok (.getfield 13, 3) := by decide +kernel
theorem dX7_isKnee_6 : decode cX7_isKnee 6 = .ok (.iconst 0, 1) := by decide +kernel
theorem dX7_isKnee_7 : decode cX7_isKnee 7 = .ok (.iaload, 1) := by decide +kernel
theorem dX7_isKnee_8 : decode cX7_isKnee 8 = .ok (.iconst 1, 1) := by decide +kernel
theorem dX7_isKnee_9 : decode cX7_isKnee 9 = .ok (.isub, 1) := by decide +kernel
theorem dX7_isKnee_10 : decode cX7_isKnee 10 = .ok (.invokestatic 84, 3) := by decide +kernel
theorem dX7_isKnee_13 : decode cX7_isKnee 13 = .ok (.ireturn, 1) := by decide +kernel
set_option maxRecDepth 20000 in
theorem ggX7_isPerson_X7_in : GoodIn wsX7_isPerson wsX7_in := goodIn_r _ [5] rfl (by decide +kernel)
set_option maxRecDepth 20000 in
theorem gX7_isPerson_X7_in : GoodIn wsX7_isPerson (va_wsS RX7 84 yX7_in wsX7_in) := goodIn_app (goodIn_of _ (by decide +kernel)) ggX7_isPerson_X7_in
theorem dX7_isPerson_0 : decode cX7_isPerson 0 = .ok (.iload_n 1, 1) := by decide +kernel
theorem dX7_isPerson_1 : decode cX7_isPerson 1 = .ok (.iconst 0, 1) := by decide +kernel
theorem dX7_isPerson_2 : decode cX7_isPerson 2 = .ok (.aload_n 0, 1) := by decide +kernel
theorem dX7_isPerson_3 : decode cX7_isPerson 3 = .ok (.getfield 13, 3) := by decide +kernel
theorem dX7_isPerson_6 : decode cX7_isPerson 6 = .ok (.iconst 1, 1) := by decide +kernel
theorem dX7_isPerson_7 : decode cX7_isPerson 7 = .ok (.iaload, 1) := by decide +kernel
theorem dX7_isPerson_8 : decode cX7_isPerson 8 = .ok (.iconst 1, 1) := by decide +kernel
theorem dX7_isPerson_9 : decode cX7_isPerson 9 = .ok (.isub, 1) := by decide +kernel
theorem dX7_isPerson_10 : decode cX7_isPerson 10 = .ok (.invokestatic 84, 3) := by decide +kernel
theorem dX7_isPerson_13 : decode cX7_isPerson 13 = .ok (.ireturn, 1) := by decide +kernel
theorem dX7_speak_0 : decode cX7_speak 0 = .ok (.aload_n 0, 1) := by decide +kernel
theorem dX7_speak_1 : decode cX7_speak 1 = .ok (.getfield 34, 3) := by decide +kernel
theorem dX7_speak_4 : decode cX7_speak 4 = .ok (.iload_n 1, 1) := by decide +kernel
theorem dX7_speak_5 : decode cX7_speak 5 = .ok (.iaload, 1) := by decide +kernel
theorem dX7_speak_6 : decode cX7_speak 6 = .ok (.iload_n 2, 1) := by decide +kernel
theorem dX7_speak_7 : decode cX7_speak 7 = .ok (.ishr, 1) := by decide +kernel
theorem dX7_speak_8 : decode cX7_speak 8 = .ok (.iconst 1, 1) := by decide +kernel
theorem dX7_speak_9 : decode cX7_speak 9 = .ok (.iand, 1) := by decide +kernel
theorem dX7_speak_10 : decode cX7_speak 10 = .ok (.ifCond .ne 7, 3) := by decide +kernel
theorem dX7_speak_13 : decode cX7_speak 13 = .ok (.iconst 1, 1) := by decide +kernel
theorem dX7_speak_14 : decode cX7_speak 14 = .ok (.goto 4, 3) := by decide +kernel
theorem dX7_speak_17 : decode cX7_speak 17 = .ok (.iconst 0, 1) := by decide +kernel
theorem dX7_speak_18 : decode cX7_speak 18 = .ok (.ireturn, 1) := by decide +kernel
theorem dX7_kneesOf_0 : decode cX7_kneesOf 0 = .ok (.iconst 0, 1) := by decide +kernel
theorem dX7_kneesOf_1 : decode cX7_kneesOf 1 = .ok (.istore_n 2, 1) := by decide +kernel
theorem dX7_kneesOf_2 : decode cX7_kneesOf 2 = .ok (.iconst 0, 1) := by decide +kernel
theorem dX7_kneesOf_3 : decode cX7_kneesOf 3 = .ok (.istore_n 3, 1) := by decide +kernel
theorem dX7_kneesOf_4 : decode cX7_kneesOf 4 = .ok (.iload_n 3, 1) := by decide +kernel
theorem dX7_kneesOf_5 : decode cX7_kneesOf 5 = .ok (.aload_n 0, 1) := by decide +kernel
theorem dX7_kneesOf_6 : decode cX7_kneesOf 6 = .ok (.getfield 13, 3) := by decide +kernel
theorem dX7_kneesOf_9 : decode cX7_kneesOf 9 = .ok (.iconst 0, 1) := by decide +kernel
theorem dX7_kneesOf_10 : decode cX7_kneesOf 10 = .ok (.iaload, 1) := by decide +kernel
theorem dX7_kneesOf_11 : decode cX7_kneesOf 11 = .ok (.if_icmp .ge 29, 3) := by decide +kernel
theorem dX7_kneesOf_14 : decode cX7_kneesOf 14 = .ok (.iload_n 2, 1) := by decide +kernel
theorem dX7_kneesOf_15 : decode cX7_kneesOf 15 = .ok (.aload_n 0, 1) := by decide +kernel
theorem dX7_kneesOf_16 : decode cX7_kneesOf 16 = .ok (.getfield 19, 3) := by decide +kernel
theorem dX7_kneesOf_19 : decode cX7_kneesOf 19 = .ok (.iload_n 3, 1) := by decide +kernel
theorem dX7_kneesOf_20 : decode cX7_kneesOf 20 = .ok (.iaload, 1) := by decide +kernel
theorem dX7_kneesOf_21 : decode cX7_kneesOf 21 = .ok (.iload_n 1, 1) := by decide +kernel
theorem dX7_kneesOf_22 : decode cX7_kneesOf 22 = .ok (.if_icmp .ne 9, 3) := by decide +kernel
theorem dX7_kneesOf_25 : decode cX7_kneesOf 25 = .ok (.iconst 1, 1) := by decide +kernel
theorem dX7_kneesOf_26 : decode cX7_kneesOf 26 = .ok (.iload_n 3, 1) := by decide +kernel
theorem dX7_kneesOf_27 : decode cX7_kneesOf 27 = .ok (.ishl, 1) := by decide +kernel
theorem dX7_kneesOf_28 : decode cX7_kneesOf 28 = .ok (.goto 4, 3) := by decide +kernel
theorem dX7_kneesOf_31 : decode cX7_kneesOf 31 = .ok (.iconst 0, 1) := by decide +kernel
theorem dX7_kneesOf_32 : decode cX7_kneesOf 32 = .ok (.ior, 1) := by decide +kernel
theorem dX7_kneesOf_33 : decode cX7_kneesOf 33 = .ok (.istore_n 2, 1) := by decide +kernel
theorem dX7_kneesOf_34 : decode cX7_kneesOf 34 = .ok (.iinc 3 1, 3) := by decide +kernel
theorem dX7_kneesOf_37 : decode cX7_kneesOf 37 = .ok (.goto (-33), 3) := by decide +kernel
theorem dX7_kneesOf_40 : decode cX7_kneesOf 40 = .ok (.iload_n 2, 1) := by decide +kernel
theorem dX7_kneesOf_41 : decode cX7_kneesOf 41 = .ok (.ireturn, 1) := by decide +kernel
set_option maxRecDepth 20000 in
theorem ggX7_seats_X7_seatsAt : GoodIn wsX7_seats wsX7_seatsAt := goodIn_r _ [6, 7, 1, 8, 9, 10, 5, 11, 12, 13, 14, 15, 16, 17, 18, 19, 20, 21, 22, 23, 24, 25, 26, 27, 28, 29, 30, 31, 32, 33, 34, 35, 36, 37, 38, 39, 40, 41, 42, 43, 44, 45, 46, 47, 48, 49, 50, 51, 52, 53] rfl (by decide +kernel)
set_option maxRecDepth 20000 in
theorem gX7_seats_X7_seatsAt : GoodIn wsX7_seats (wsV RX7 150 RX7 yX7_seatsAt wsX7_seatsAt) := goodIn_app (goodIn_of _ (by decide +kernel)) ggX7_seats_X7_seatsAt
theorem dX7_seats_0 : decode cX7_seats 0 = .ok (.aload_n 0, 1) := by decide +kernel
theorem dX7_seats_1 : decode cX7_seats 1 = .ok (.iconst 0, 1) := by decide +kernel
theorem dX7_seats_2 : decode cX7_seats 2 = .ok (.putfield 147, 3) := by decide +kernel
theorem dX7_seats_5 : decode cX7_seats 5 = .ok (.aload_n 0, 1) := by decide +kernel
theorem dX7_seats_6 : decode cX7_seats 6 = .ok (.invokevirtual 150, 3) := by decide +kernel
theorem dX7_seats_9 : decode cX7_seats 9 = .ok (.istore_n 1, 1) := by decide +kernel
theorem dX7_seats_10 : decode cX7_seats 10 = .ok (.iload_n 1, 1) := by decide +kernel
theorem dX7_seats_11 : decode cX7_seats 11 = .ok (.ifCond .ne 21, 3) := by decide +kernel
theorem dX7_seats_14 : decode cX7_seats 14 = .ok (.aload_n 0, 1) := by decide +kernel
theorem dX7_seats_15 : decode cX7_seats 15 = .ok (.dup, 1) := by decide +kernel
theorem dX7_seats_16 : decode cX7_seats 16 = .ok (.getfield 147, 3) := by decide +kernel
theorem dX7_seats_19 : decode cX7_seats 19 = .ok (.iconst 1, 1) := by decide +kernel
theorem dX7_seats_20 : decode cX7_seats 20 = .ok (.iadd, 1) := by decide +kernel
theorem dX7_seats_21 : decode cX7_seats 21 = .ok (.putfield 147, 3) := by decide +kernel
theorem dX7_seats_24 : decode cX7_seats 24 = .ok (.aload_n 0, 1) := by decide +kernel
theorem dX7_seats_25 : decode cX7_seats 25 = .ok (.invokevirtual 150, 3) := by decide +kernel
theorem dX7_seats_28 : decode cX7_seats 28 = .ok (.istore_n 1, 1) := by decide +kernel
theorem dX7_seats_29 : decode cX7_seats 29 = .ok (.goto (-19), 3) := by decide +kernel
theorem dX7_seats_32 : decode cX7_seats 32 = .ok (.return_, 1) := by decide +kernel
set_option maxRecDepth 20000 in
theorem ggX7_seatsAt_X7_kneesOf : GoodIn wsX7_seatsAt wsX7_kneesOf := goodIn_r _ [7, 8, 9, 15, 16, 17, 18, 19, 20, 21, 22, 23, 24, 25, 26, 27, 28, 29, 30, 31, 32, 33, 34, 35, 36, 37, 38, 39, 40, 41, 42, 43, 44, 45, 46, 47, 48, 49] rfl (by decide +kernel)
set_option maxRecDepth 20000 in
theorem gX7_seatsAt_X7_kneesOf : GoodIn wsX7_seatsAt (wsV RX7 153 RX7 yX7_kneesOf wsX7_kneesOf) := goodIn_app (goodIn_of _ (by decide +kernel)) ggX7_seatsAt_X7_kneesOf
set_option maxRecDepth 20000 in
theorem ggX7_seatsAt_X7_speak : GoodIn wsX7_seatsAt wsX7_speak := goodIn_r _ [13, 14, 15, 16, 17, 18, 19, 20, 21, 22, 23, 24, 25, 26, 27, 28, 29, 30, 31, 32, 33, 34, 35, 36, 37, 38, 39, 40, 41, 42, 43, 44, 45, 46, 47, 48, 49] rfl (by decide +kernel)
set_option maxRecDepth 20000 in
theorem gX7_seatsAt_X7_speak : GoodIn wsX7_seatsAt (wsV RX7 156 RX7 yX7_speak wsX7_speak) := goodIn_app (goodIn_of _ (by decide +kernel)) ggX7_seatsAt_X7_speak
theorem dX7_seatsAt_0 : decode cX7_seatsAt 0 = .ok (.iconst 0, 1) := by decide +kernel
theorem dX7_seatsAt_1 : decode cX7_seatsAt 1 = .ok (.istore_n 1, 1) := by decide +kernel
theorem dX7_seatsAt_2 : decode cX7_seatsAt 2 = .ok (.iload_n 1, 1) := by decide +kernel
theorem dX7_seatsAt_3 : decode cX7_seatsAt 3 = .ok (.sipush 3125, 3) := by decide +kernel
theorem dX7_seatsAt_6 : decode cX7_seatsAt 6 = .ok (.if_icmp .ge 197, 3) := by decide +kernel
theorem dX7_seatsAt_9 : decode cX7_seatsAt 9 = .ok (.iconst 1, 1) := by decide +kernel
theorem dX7_seatsAt_10 : decode cX7_seatsAt 10 = .ok (.istore_n 2, 1) := by decide +kernel
theorem dX7_seatsAt_11 : decode cX7_seatsAt 11 = .ok (.iconst 0, 1) := by decide +kernel
theorem dX7_seatsAt_12 : decode cX7_seatsAt 12 = .ok (.istore_n 3, 1) := by decide +kernel
theorem dX7_seatsAt_13 : decode cX7_seatsAt 13 = .ok (.iload_n 3, 1) := by decide +kernel
theorem dX7_seatsAt_14 : decode cX7_seatsAt 14 = .ok (.iconst 5, 1) := by decide +kernel
theorem dX7_seatsAt_15 : decode cX7_seatsAt 15 = .ok (.if_icmp .ge 176, 3) := by decide +kernel
theorem dX7_seatsAt_18 : decode cX7_seatsAt 18 = .ok (.aload_n 0, 1) := by decide +kernel
theorem dX7_seatsAt_19 : decode cX7_seatsAt 19 = .ok (.getfield 40, 3) := by decide +kernel
theorem dX7_seatsAt_22 : decode cX7_seatsAt 22 = .ok (.iload_n 3, 1) := by decide +kernel
theorem dX7_seatsAt_23 : decode cX7_seatsAt 23 = .ok (.iload_n 3, 1) := by decide +kernel
theorem dX7_seatsAt_24 : decode cX7_seatsAt 24 = .ok (.ifCond .ne 11, 3) := by decide +kernel
theorem dX7_seatsAt_27 : decode cX7_seatsAt 27 = .ok (.iload_n 1, 1) := by decide +kernel
theorem dX7_seatsAt_28 : decode cX7_seatsAt 28 = .ok (.sipush 625, 3) := by decide +kernel
theorem dX7_seatsAt_31 : decode cX7_seatsAt 31 = .ok (.idiv, 1) := by decide +kernel
theorem dX7_seatsAt_32 : decode cX7_seatsAt 32 = .ok (.goto 39, 3) := by decide +kernel
theorem dX7_seatsAt_35 : decode cX7_seatsAt 35 = .ok (.iload_n 3, 1) := by decide +kernel
theorem dX7_seatsAt_36 : decode cX7_seatsAt 36 = .ok (.iconst 1, 1) := by decide +kernel
theorem dX7_seatsAt_37 : decode cX7_seatsAt 37 = .ok (.if_icmp .ne 10, 3) := by decide +kernel
theorem dX7_seatsAt_40 : decode cX7_seatsAt 40 = .ok (.iload_n 1, 1) := by decide +kernel
theorem dX7_seatsAt_41 : decode cX7_seatsAt 41 = .ok (.bipush 125, 2) := by decide +kernel
theorem dX7_seatsAt_43 : decode cX7_seatsAt 43 = .ok (.idiv, 1) := by decide +kernel
theorem dX7_seatsAt_44 : decode cX7_seatsAt 44 = .ok (.goto 27, 3) := by decide +kernel
theorem dX7_seatsAt_47 : decode cX7_seatsAt 47 = .ok (.iload_n 3, 1) := by decide +kernel
theorem dX7_seatsAt_48 : decode cX7_seatsAt 48 = .ok (.iconst 2, 1) := by decide +kernel
theorem dX7_seatsAt_49 : decode cX7_seatsAt 49 = .ok (.if_icmp .ne 10, 3) := by decide +kernel
theorem dX7_seatsAt_52 : decode cX7_seatsAt 52 = .ok (.iload_n 1, 1) := by decide +kernel
theorem dX7_seatsAt_53 : decode cX7_seatsAt 53 = .ok (.bipush 25, 2) := by decide +kernel
theorem dX7_seatsAt_55 : decode cX7_seatsAt 55 = .ok (.idiv, 1) := by decide +kernel
theorem dX7_seatsAt_56 : decode cX7_seatsAt 56 = .ok (.goto 15, 3) := by decide +kernel
theorem dX7_seatsAt_59 : decode cX7_seatsAt 59 = .ok (.iload_n 3, 1) := by decide +kernel
theorem dX7_seatsAt_60 : decode cX7_seatsAt 60 = .ok (.iconst 3, 1) := by decide +kernel
theorem dX7_seatsAt_61 : decode cX7_seatsAt 61 = .ok (.if_icmp .ne 9, 3) := by decide +kernel
theorem dX7_seatsAt_64 : decode cX7_seatsAt 64 = .ok (.iload_n 1, 1) := by decide +kernel
theorem dX7_seatsAt_65 : decode cX7_seatsAt 65 = .ok (.iconst 5, 1) := by decide +kernel
theorem dX7_seatsAt_66 : decode cX7_seatsAt 66 = .ok (.idiv, 1) := by decide +kernel
theorem dX7_seatsAt_67 : decode cX7_seatsAt 67 = .ok (.goto 4, 3) := by decide +kernel
theorem dX7_seatsAt_70 : decode cX7_seatsAt 70 = .ok (.iload_n 1, 1) := by decide +kernel
theorem dX7_seatsAt_71 : decode cX7_seatsAt 71 = .ok (.iconst 5, 1) := by decide +kernel
theorem dX7_seatsAt_72 : decode cX7_seatsAt 72 = .ok (.irem, 1) := by decide +kernel
theorem dX7_seatsAt_73 : decode cX7_seatsAt 73 = .ok (.iastore, 1) := by decide +kernel
theorem dX7_seatsAt_74 : decode cX7_seatsAt 74 = .ok (.iload_n 2, 1) := by decide +kernel
theorem dX7_seatsAt_75 : decode cX7_seatsAt 75 = .ok (.ifCond .eq 40, 3) := by decide +kernel
theorem dX7_seatsAt_78 : decode cX7_seatsAt 78 = .ok (.aload_n 0, 1) := by decide +kernel
theorem dX7_seatsAt_79 : decode cX7_seatsAt 79 = .ok (.iload_n 3, 1) := by decide +kernel
theorem dX7_seatsAt_80 : decode cX7_seatsAt 80 = .ok (.invokevirtual 153, 3) := by decide +kernel
theorem dX7_seatsAt_83 : decode cX7_seatsAt 83 = .ok (.ifCond .ne 15, 3) := by decide +kernel
theorem dX7_seatsAt_86 : decode cX7_seatsAt 86 = .ok (.aload_n 0, 1) := by decide +kernel
theorem dX7_seatsAt_87 : decode cX7_seatsAt 87 = .ok (.getfield 40, 3) := by decide +kernel
theorem dX7_seatsAt_90 : decode cX7_seatsAt 90 = .ok (.iload_n 3, 1) := by decide +kernel
theorem dX7_seatsAt_91 : decode cX7_seatsAt 91 = .ok (.iaload, 1) := by decide +kernel
theorem dX7_seatsAt_92 : decode cX7_seatsAt 92 = .ok (.ifCond .ne 23, 3) := by decide +kernel
theorem dX7_seatsAt_95 : decode cX7_seatsAt 95 = .ok (.goto 16, 3) := by decide +kernel
theorem dX7_seatsAt_98 : decode cX7_seatsAt 98 = .ok (.aload_n 0, 1) := by decide +kernel
theorem dX7_seatsAt_99 : decode cX7_seatsAt 99 = .ok (.getfield 40, 3) := by decide +kernel
theorem dX7_seatsAt_102 : decode cX7_seatsAt 102 = .ok (.iload_n 3, 1) := by decide +kernel
theorem dX7_seatsAt_103 : decode cX7_seatsAt 103 = .ok (.iaload, 1) := by decide +kernel
theorem dX7_seatsAt_104 : decode cX7_seatsAt 104 = .ok (.aload_n 0, 1) := by decide +kernel
theorem dX7_seatsAt_105 : decode cX7_seatsAt 105 = .ok (.getfield 147, 3) := by decide +kernel
theorem dX7_seatsAt_108 : decode cX7_seatsAt 108 = .ok (.if_icmp .ge 7, 3) := by decide +kernel
theorem dX7_seatsAt_111 : decode cX7_seatsAt 111 = .ok (.iconst 1, 1) := by decide +kernel
theorem dX7_seatsAt_112 : decode cX7_seatsAt 112 = .ok (.goto 4, 3) := by decide +kernel
theorem dX7_seatsAt_115 : decode cX7_seatsAt 115 = .ok (.iconst 0, 1) := by decide +kernel
theorem dX7_seatsAt_116 : decode cX7_seatsAt 116 = .ok (.istore_n 2, 1) := by decide +kernel
theorem dX7_seatsAt_117 : decode cX7_seatsAt 117 = .ok (.iconst 0, 1) := by decide +kernel
theorem dX7_seatsAt_118 : decode cX7_seatsAt 118 = .ok (.istore 4, 2) := by decide +kernel
theorem dX7_seatsAt_120 : decode cX7_seatsAt 120 = .ok (.iload 4, 2) := by decide +kernel
theorem dX7_seatsAt_122 : decode cX7_seatsAt 122 = .ok (.iload_n 3, 1) := by decide +kernel
theorem dX7_seatsAt_123 : decode cX7_seatsAt 123 = .ok (.if_icmp .ge 62, 3) := by decide +kernel
theorem dX7_seatsAt_126 : decode cX7_seatsAt 126 = .ok (.iload_n 2, 1) := by decide +kernel
theorem dX7_seatsAt_127 : decode cX7_seatsAt 127 = .ok (.ifCond .eq 50, 3) := by decide +kernel
theorem dX7_seatsAt_130 : decode cX7_seatsAt 130 = .ok (.aload_n 0, 1) := by decide +kernel
theorem dX7_seatsAt_131 : decode cX7_seatsAt 131 = .ok (.iload_n 3, 1) := by decide +kernel
theorem dX7_seatsAt_132 : decode cX7_seatsAt 132 = .ok (.invokevirtual 153, 3) := by decide +kernel
theorem dX7_seatsAt_135 : decode cX7_seatsAt 135 = .ok (.ifCond .eq 38, 3) := by decide +kernel
theorem dX7_seatsAt_138 : decode cX7_seatsAt 138 = .ok (.aload_n 0, 1) := by decide +kernel
theorem dX7_seatsAt_139 : decode cX7_seatsAt 139 = .ok (.iload 4, 2) := by decide +kernel
theorem dX7_seatsAt_141 : decode cX7_seatsAt 141 = .ok (.invokevirtual 153, 3) := by decide +kernel
theorem dX7_seatsAt_144 : decode cX7_seatsAt 144 = .ok (.ifCond .eq 29, 3) := by decide +kernel
theorem dX7_seatsAt_147 : decode cX7_seatsAt 147 = .ok (.aload_n 0, 1) := by decide +kernel
theorem dX7_seatsAt_148 : decode cX7_seatsAt 148 = .ok (.getfield 40, 3) := by decide +kernel
theorem dX7_seatsAt_151 : decode cX7_seatsAt 151 = .ok (.iload_n 3, 1) := by decide +kernel
theorem dX7_seatsAt_152 : decode cX7_seatsAt 152 = .ok (.iaload, 1) := by decide +kernel
theorem dX7_seatsAt_153 : decode cX7_seatsAt 153 = .ok (.aload_n 0, 1) := by decide +kernel
theorem dX7_seatsAt_154 : decode cX7_seatsAt 154 = .ok (.getfield 40, 3) := by decide +kernel
theorem dX7_seatsAt_157 : decode cX7_seatsAt 157 = .ok (.iload 4, 2) := by decide +kernel
theorem dX7_seatsAt_159 : decode cX7_seatsAt 159 = .ok (.iaload, 1) := by decide +kernel
theorem dX7_seatsAt_160 : decode cX7_seatsAt 160 = .ok (.if_icmp .ne 13, 3) := by decide +kernel
theorem dX7_seatsAt_163 : decode cX7_seatsAt 163 = .ok (.aload_n 0, 1) := by decide +kernel
theorem dX7_seatsAt_164 : decode cX7_seatsAt 164 = .ok (.iload_n 3, 1) := by decide +kernel
theorem dX7_seatsAt_165 : decode cX7_seatsAt 165 = .ok (.iload 4, 2) := by decide +kernel
theorem dX7_seatsAt_167 : decode cX7_seatsAt 167 = .ok (.invokevirtual 156, 3) := by decide +kernel
theorem dX7_seatsAt_170 : decode cX7_seatsAt 170 = .ok (.ifCond .eq 7, 3) := by decide +kernel
theorem dX7_seatsAt_173 : decode cX7_seatsAt 173 = .ok (.iconst 1, 1) := by decide +kernel
theorem dX7_seatsAt_174 : decode cX7_seatsAt 174 = .ok (.goto 4, 3) := by decide +kernel
theorem dX7_seatsAt_177 : decode cX7_seatsAt 177 = .ok (.iconst 0, 1) := by decide +kernel
theorem dX7_seatsAt_178 : decode cX7_seatsAt 178 = .ok (.istore_n 2, 1) := by decide +kernel
theorem dX7_seatsAt_179 : decode cX7_seatsAt 179 = .ok (.iinc 4 1, 3) := by decide +kernel
theorem dX7_seatsAt_182 : decode cX7_seatsAt 182 = .ok (.goto (-62), 3) := by decide +kernel
theorem dX7_seatsAt_185 : decode cX7_seatsAt 185 = .ok (.iinc 3 1, 3) := by decide +kernel
theorem dX7_seatsAt_188 : decode cX7_seatsAt 188 = .ok (.goto (-175), 3) := by decide +kernel
theorem dX7_seatsAt_191 : decode cX7_seatsAt 191 = .ok (.iload_n 2, 1) := by decide +kernel
theorem dX7_seatsAt_192 : decode cX7_seatsAt 192 = .ok (.ifCond .eq 5, 3) := by decide +kernel
theorem dX7_seatsAt_195 : decode cX7_seatsAt 195 = .ok (.iconst 1, 1) := by decide +kernel
theorem dX7_seatsAt_196 : decode cX7_seatsAt 196 = .ok (.ireturn, 1) := by decide +kernel
theorem dX7_seatsAt_197 : decode cX7_seatsAt 197 = .ok (.iinc 1 1, 3) := by decide +kernel
theorem dX7_seatsAt_200 : decode cX7_seatsAt 200 = .ok (.goto (-198), 3) := by decide +kernel
theorem dX7_seatsAt_203 : decode cX7_seatsAt 203 = .ok (.iconst 0, 1) := by decide +kernel
theorem dX7_seatsAt_204 : decode cX7_seatsAt 204 = .ok (.ireturn, 1) := by decide +kernel
theorem dX7_kneeOn_0 : decode cX7_kneeOn 0 = .ok (.bipush (-9), 2) := by decide +kernel
theorem dX7_kneeOn_2 : decode cX7_kneeOn 2 = .ok (.istore_n 3, 1) := by decide +kernel
theorem dX7_kneeOn_3 : decode cX7_kneeOn 3 = .ok (.iconst 0, 1) := by decide +kernel
theorem dX7_kneeOn_4 : decode cX7_kneeOn 4 = .ok (.istore 4, 2) := by decide +kernel
theorem dX7_kneeOn_6 : decode cX7_kneeOn 6 = .ok (.iload 4, 2) := by decide +kernel
theorem dX7_kneeOn_8 : decode cX7_kneeOn 8 = .ok (.aload_n 0, 1) := by decide +kernel
theorem dX7_kneeOn_9 : decode cX7_kneeOn 9 = .ok (.getfield 13, 3) := by decide +kernel
theorem dX7_kneeOn_12 : decode cX7_kneeOn 12 = .ok (.iconst 0, 1) := by decide +kernel
theorem dX7_kneeOn_13 : decode cX7_kneeOn 13 = .ok (.iaload, 1) := by decide +kernel
theorem dX7_kneeOn_14 : decode cX7_kneeOn 14 = .ok (.if_icmp .ge 42, 3) := by decide +kernel
theorem dX7_kneeOn_17 : decode cX7_kneeOn 17 = .ok (.aload_n 0, 1) := by decide +kernel
theorem dX7_kneeOn_18 : decode cX7_kneeOn 18 = .ok (.getfield 43, 3) := by decide +kernel
theorem dX7_kneeOn_21 : decode cX7_kneeOn 21 = .ok (.iconst 1, 1) := by decide +kernel
theorem dX7_kneeOn_22 : decode cX7_kneeOn 22 = .ok (.iload 4, 2) := by decide +kernel
theorem dX7_kneeOn_24 : decode cX7_kneeOn 24 = .ok (.iadd, 1) := by decide +kernel
theorem dX7_kneeOn_25 : decode cX7_kneeOn 25 = .ok (.iaload, 1) := by decide +kernel
theorem dX7_kneeOn_26 : decode cX7_kneeOn 26 = .ok (.iload_n 1, 1) := by decide +kernel
theorem dX7_kneeOn_27 : decode cX7_kneeOn 27 = .ok (.iconst 1, 1) := by decide +kernel
theorem dX7_kneeOn_28 : decode cX7_kneeOn 28 = .ok (.iadd, 1) := by decide +kernel
theorem dX7_kneeOn_29 : decode cX7_kneeOn 29 = .ok (.if_icmp .ne 19, 3) := by decide +kernel
theorem dX7_kneeOn_32 : decode cX7_kneeOn 32 = .ok (.aload_n 0, 1) := by decide +kernel
theorem dX7_kneeOn_33 : decode cX7_kneeOn 33 = .ok (.getfield 16, 3) := by decide +kernel
theorem dX7_kneeOn_36 : decode cX7_kneeOn 36 = .ok (.iload 4, 2) := by decide +kernel
theorem dX7_kneeOn_38 : decode cX7_kneeOn 38 = .ok (.iaload, 1) := by decide +kernel
theorem dX7_kneeOn_39 : decode cX7_kneeOn 39 = .ok (.iload_n 2, 1) := by decide +kernel
theorem dX7_kneeOn_40 : decode cX7_kneeOn 40 = .ok (.if_icmp .ne 8, 3) := by decide +kernel
theorem dX7_kneeOn_43 : decode cX7_kneeOn 43 = .ok (.iload 4, 2) := by decide +kernel
theorem dX7_kneeOn_45 : decode cX7_kneeOn 45 = .ok (.goto 4, 3) := by decide +kernel
theorem dX7_kneeOn_48 : decode cX7_kneeOn 48 = .ok (.iload_n 3, 1) := by decide +kernel
theorem dX7_kneeOn_49 : decode cX7_kneeOn 49 = .ok (.istore_n 3, 1) := by decide +kernel
theorem dX7_kneeOn_50 : decode cX7_kneeOn 50 = .ok (.iinc 4 1, 3) := by decide +kernel
theorem dX7_kneeOn_53 : decode cX7_kneeOn 53 = .ok (.goto (-47), 3) := by decide +kernel
theorem dX7_kneeOn_56 : decode cX7_kneeOn 56 = .ok (.iload_n 3, 1) := by decide +kernel
theorem dX7_kneeOn_57 : decode cX7_kneeOn 57 = .ok (.ireturn, 1) := by decide +kernel
theorem dX7_wants_0 : decode cX7_wants 0 = .ok (.aload_n 0, 1) := by decide +kernel
theorem dX7_wants_1 : decode cX7_wants 1 = .ok (.getfield 25, 3) := by decide +kernel
theorem dX7_wants_4 : decode cX7_wants 4 = .ok (.iload_n 1, 1) := by decide +kernel
theorem dX7_wants_5 : decode cX7_wants 5 = .ok (.iaload, 1) := by decide +kernel
theorem dX7_wants_6 : decode cX7_wants 6 = .ok (.iload_n 2, 1) := by decide +kernel
theorem dX7_wants_7 : decode cX7_wants 7 = .ok (.ishr, 1) := by decide +kernel
theorem dX7_wants_8 : decode cX7_wants 8 = .ok (.iconst 1, 1) := by decide +kernel
theorem dX7_wants_9 : decode cX7_wants 9 = .ok (.iand, 1) := by decide +kernel
theorem dX7_wants_10 : decode cX7_wants 10 = .ok (.iconst 1, 1) := by decide +kernel
theorem dX7_wants_11 : decode cX7_wants 11 = .ok (.if_icmp .ne 7, 3) := by decide +kernel
theorem dX7_wants_14 : decode cX7_wants 14 = .ok (.iconst 1, 1) := by decide +kernel
theorem dX7_wants_15 : decode cX7_wants 15 = .ok (.goto 4, 3) := by decide +kernel
theorem dX7_wants_18 : decode cX7_wants 18 = .ok (.iconst 0, 1) := by decide +kernel
theorem dX7_wants_19 : decode cX7_wants 19 = .ok (.ireturn, 1) := by decide +kernel
set_option maxRecDepth 20000 in
theorem ggX7_isReady_X7_wants : GoodIn wsX7_isReady wsX7_wants := goodIn_r _ [5, 6, 14, 15, 16, 17, 18, 19, 20, 21, 22, 23, 24, 25, 26, 27, 28, 29, 30, 31, 32, 33, 34, 35, 36, 37, 38, 39, 40, 41, 42, 43, 44, 45, 46, 47, 48] rfl (by decide +kernel)
set_option maxRecDepth 20000 in
theorem gX7_isReady_X7_wants : GoodIn wsX7_isReady (wsV RX7 160 RX7 yX7_wants wsX7_wants) := goodIn_app (goodIn_of _ (by decide +kernel)) ggX7_isReady_X7_wants
set_option maxRecDepth 20000 in
theorem ggX7_isReady_X7_kneeOn : GoodIn wsX7_isReady wsX7_kneeOn := goodIn_r _ [10, 11, 12, 13, 14, 15, 16, 17, 18, 19, 20, 21, 22, 23, 24, 25, 26, 27, 28, 29, 30, 31, 32, 33, 34, 35, 36, 37, 38, 39, 40, 41, 42, 43, 44, 45, 46, 47, 48] rfl (by decide +kernel)
set_option maxRecDepth 20000 in
theorem gX7_isReady_X7_kneeOn : GoodIn wsX7_isReady (wsV RX7 163 RX7 yX7_kneeOn wsX7_kneeOn) := goodIn_app (goodIn_of _ (by decide +kernel)) ggX7_isReady_X7_kneeOn
theorem dX7_isReady_0 : decode cX7_isReady 0 = .ok (.aload_n 0, 1) := by decide +kernel
theorem dX7_isReady_1 : decode cX7_isReady 1 = .ok (.iload_n 1, 1) := by decide +kernel
theorem dX7_isReady_2 : decode cX7_isReady 2 = .ok (.iconst 0, 1) := by decide +kernel
theorem dX7_isReady_3 : decode cX7_isReady 3 = .ok (.invokevirtual 160, 3) := by decide +kernel
theorem dX7_isReady_6 : decode cX7_isReady 6 = .ok (.ifCond .eq 14, 3) := by decide +kernel
theorem dX7_isReady_9 : decode cX7_isReady 9 = .ok (.aload_n 0, 1) := by decide +kernel
theorem dX7_isReady_10 : decode cX7_isReady 10 = .ok (.iload_n 1, 1) := by decide +kernel
theorem dX7_isReady_11 : decode cX7_isReady 11 = .ok (.iconst 0, 1) := by decide +kernel
theorem dX7_isReady_12 : decode cX7_isReady 12 = .ok (.invokevirtual 163, 3) := by decide +kernel
theorem dX7_isReady_15 : decode cX7_isReady 15 = .ok (.bipush (-9), 2) := by decide +kernel
theorem dX7_isReady_17 : decode cX7_isReady 17 = .ok (.if_icmp .eq 27, 3) := by decide +kernel
theorem dX7_isReady_20 : decode cX7_isReady 20 = .ok (.aload_n 0, 1) := by decide +kernel
theorem dX7_isReady_21 : decode cX7_isReady 21 = .ok (.iload_n 1, 1) := by decide +kernel
theorem dX7_isReady_22 : decode cX7_isReady 22 = .ok (.iconst 1, 1) := by decide +kernel
theorem dX7_isReady_23 : decode cX7_isReady 23 = .ok (.invokevirtual 160, 3) := by decide +kernel
theorem dX7_isReady_26 : decode cX7_isReady 26 = .ok (.ifCond .eq 14, 3) := by decide +kernel
theorem dX7_isReady_29 : decode cX7_isReady 29 = .ok (.aload_n 0, 1) := by decide +kernel
theorem dX7_isReady_30 : decode cX7_isReady 30 = .ok (.iload_n 1, 1) := by decide +kernel
theorem dX7_isReady_31 : decode cX7_isReady 31 = .ok (.iconst 1, 1) := by decide +kernel
theorem dX7_isReady_32 : decode cX7_isReady 32 = .ok (.invokevirtual 163, 3) := by decide +kernel
theorem dX7_isReady_35 : decode cX7_isReady 35 = .ok (.bipush (-9), 2) := by decide +kernel
theorem dX7_isReady_37 : decode cX7_isReady 37 = .ok (.if_icmp .eq 7, 3) := by decide +kernel
theorem dX7_isReady_40 : decode cX7_isReady 40 = .ok (.iconst 1, 1) := by decide +kernel
theorem dX7_isReady_41 : decode cX7_isReady 41 = .ok (.goto 4, 3) := by decide +kernel
theorem dX7_isReady_44 : decode cX7_isReady 44 = .ok (.iconst 0, 1) := by decide +kernel
theorem dX7_isReady_45 : decode cX7_isReady 45 = .ok (.ireturn, 1) := by decide +kernel
theorem dX7_isPledged_0 : decode cX7_isPledged 0 = .ok (.aload_n 0, 1) := by decide +kernel
theorem dX7_isPledged_1 : decode cX7_isPledged 1 = .ok (.getfield 43, 3) := by decide +kernel
theorem dX7_isPledged_4 : decode cX7_isPledged 4 = .ok (.bipush 10, 2) := by decide +kernel
theorem dX7_isPledged_6 : decode cX7_isPledged 6 = .ok (.iaload, 1) := by decide +kernel
theorem dX7_isPledged_7 : decode cX7_isPledged 7 = .ok (.iload_n 1, 1) := by decide +kernel
theorem dX7_isPledged_8 : decode cX7_isPledged 8 = .ok (.ishr, 1) := by decide +kernel
theorem dX7_isPledged_9 : decode cX7_isPledged 9 = .ok (.iconst 1, 1) := by decide +kernel
theorem dX7_isPledged_10 : decode cX7_isPledged 10 = .ok (.iand, 1) := by decide +kernel
theorem dX7_isPledged_11 : decode cX7_isPledged 11 = .ok (.iconst 1, 1) := by decide +kernel
theorem dX7_isPledged_12 : decode cX7_isPledged 12 = .ok (.if_icmp .ne 7, 3) := by decide +kernel
theorem dX7_isPledged_15 : decode cX7_isPledged 15 = .ok (.iconst 1, 1) := by decide +kernel
theorem dX7_isPledged_16 : decode cX7_isPledged 16 = .ok (.goto 4, 3) := by decide +kernel
theorem dX7_isPledged_19 : decode cX7_isPledged 19 = .ok (.iconst 0, 1) := by decide +kernel
theorem dX7_isPledged_20 : decode cX7_isPledged 20 = .ok (.ireturn, 1) := by decide +kernel
set_option maxRecDepth 20000 in
theorem ggX7_isFreeAtHome_X7_isPledged : GoodIn wsX7_isFreeAtHome wsX7_isPledged := goodIn_r _ [6, 1, 7, 8, 9, 10, 11, 12, 13, 14, 15, 16, 17, 18, 19, 20, 21, 22, 23, 24, 25, 26, 27, 28, 29, 30, 31, 32, 33, 34, 35, 36, 37, 38, 39, 40, 41] rfl (by decide +kernel)
set_option maxRecDepth 20000 in
theorem gX7_isFreeAtHome_X7_isPledged : GoodIn wsX7_isFreeAtHome (wsV RX7 166 RX7 yX7_isPledged wsX7_isPledged) := goodIn_app (goodIn_of _ (by decide +kernel)) ggX7_isFreeAtHome_X7_isPledged
theorem dX7_isFreeAtHome_0 : decode cX7_isFreeAtHome 0 = .ok (.aload_n 0, 1) := by decide +kernel
theorem dX7_isFreeAtHome_1 : decode cX7_isFreeAtHome 1 = .ok (.getfield 43, 3) := by decide +kernel
theorem dX7_isFreeAtHome_4 : decode cX7_isFreeAtHome 4 = .ok (.iconst 1, 1) := by decide +kernel
theorem dX7_isFreeAtHome_5 : decode cX7_isFreeAtHome 5 = .ok (.iload_n 1, 1) := by decide +kernel
theorem dX7_isFreeAtHome_6 : decode cX7_isFreeAtHome 6 = .ok (.iadd, 1) := by decide +kernel
theorem dX7_isFreeAtHome_7 : decode cX7_isFreeAtHome 7 = .ok (.iaload, 1) := by decide +kernel
theorem dX7_isFreeAtHome_8 : decode cX7_isFreeAtHome 8 = .ok (.ifCond .ne 15, 3) := by decide +kernel
theorem dX7_isFreeAtHome_11 : decode cX7_isFreeAtHome 11 = .ok (.aload_n 0, 1) := by decide +kernel
theorem dX7_isFreeAtHome_12 : decode cX7_isFreeAtHome 12 = .ok (.iload_n 1, 1) := by decide +kernel
theorem dX7_isFreeAtHome_13 : decode cX7_isFreeAtHome 13 = .ok (.invokevirtual 166, 3) := by decide +kernel
theorem dX7_isFreeAtHome_16 : decode cX7_isFreeAtHome 16 = .ok (.ifCond .ne 7, 3) := by decide +kernel
theorem dX7_isFreeAtHome_19 : decode cX7_isFreeAtHome 19 = .ok (.iconst 1, 1) := by decide +kernel
theorem dX7_isFreeAtHome_20 : decode cX7_isFreeAtHome 20 = .ok (.goto 4, 3) := by decide +kernel
theorem dX7_isFreeAtHome_23 : decode cX7_isFreeAtHome 23 = .ok (.iconst 0, 1) := by decide +kernel
theorem dX7_isFreeAtHome_24 : decode cX7_isFreeAtHome 24 = .ok (.ireturn, 1) := by decide +kernel
set_option maxRecDepth 20000 in
theorem ggX7_knee_X7_isKnee : GoodIn wsX7_knee wsX7_isKnee := goodIn_r _ [9, 10, 11, 12, 8, 13, 14, 15, 16, 17, 18, 19, 20, 21, 22, 23, 24, 25, 26, 27, 28, 29, 30, 31, 32, 33, 34, 35, 36, 37, 38, 39, 40, 41, 42, 43, 44, 45, 46, 47, 48] rfl (by decide +kernel)
set_option maxRecDepth 20000 in
theorem gX7_knee_X7_isKnee : GoodIn wsX7_knee (wsV RX7 170 RX7 yX7_isKnee wsX7_isKnee) := goodIn_app (goodIn_of _ (by decide +kernel)) ggX7_knee_X7_isKnee
set_option maxRecDepth 20000 in
theorem ggX7_knee_X7_in : GoodIn wsX7_knee wsX7_in := goodIn_r _ [13] rfl (by decide +kernel)
set_option maxRecDepth 20000 in
theorem gX7_knee_X7_in : GoodIn wsX7_knee (va_wsS RX7 84 yX7_in wsX7_in) := goodIn_app (goodIn_of _ (by decide +kernel)) ggX7_knee_X7_in
theorem dX7_knee_0 : decode cX7_knee 0 = .ok (.aload_n 0, 1) := by decide +kernel
theorem dX7_knee_1 : decode cX7_knee 1 = .ok (.iconst 0, 1) := by decide +kernel
theorem dX7_knee_2 : decode cX7_knee 2 = .ok (.putfield 80, 3) := by decide +kernel
theorem dX7_knee_5 : decode cX7_knee 5 = .ok (.aload_n 0, 1) := by decide +kernel
theorem dX7_knee_6 : decode cX7_knee 6 = .ok (.iload_n 1, 1) := by decide +kernel
theorem dX7_knee_7 : decode cX7_knee 7 = .ok (.invokevirtual 170, 3) := by decide +kernel
theorem dX7_knee_10 : decode cX7_knee 10 = .ok (.ifCond .eq 12, 3) := by decide +kernel
theorem dX7_knee_13 : decode cX7_knee 13 = .ok (.iload_n 2, 1) := by decide +kernel
theorem dX7_knee_14 : decode cX7_knee 14 = .ok (.iconst 0, 1) := by decide +kernel
theorem dX7_knee_15 : decode cX7_knee 15 = .ok (.iconst 4, 1) := by decide +kernel
theorem dX7_knee_16 : decode cX7_knee 16 = .ok (.invokestatic 84, 3) := by decide +kernel
theorem dX7_knee_19 : decode cX7_knee 19 = .ok (.ifCond .ne 5, 3) := by decide +kernel
theorem dX7_knee_22 : decode cX7_knee 22 = .ok (.iconst (-1), 1) := by decide +kernel
theorem dX7_knee_23 : decode cX7_knee 23 = .ok (.ireturn, 1) := by decide +kernel
theorem dX7_knee_24 : decode cX7_knee 24 = .ok (.iload_n 2, 1) := by decide +kernel
theorem dX7_knee_25 : decode cX7_knee 25 = .ok (.iconst 3, 1) := by decide +kernel
theorem dX7_knee_26 : decode cX7_knee 26 = .ok (.if_icmp .ge 40, 3) := by decide +kernel
theorem dX7_knee_29 : decode cX7_knee 29 = .ok (.iload_n 2, 1) := by decide +kernel
theorem dX7_knee_30 : decode cX7_knee 30 = .ok (.ifCond .ne 12, 3) := by decide +kernel
theorem dX7_knee_33 : decode cX7_knee 33 = .ok (.aload_n 0, 1) := by decide +kernel
theorem dX7_knee_34 : decode cX7_knee 34 = .ok (.getfield 16, 3) := by decide +kernel
theorem dX7_knee_37 : decode cX7_knee 37 = .ok (.iload_n 1, 1) := by decide +kernel
theorem dX7_knee_38 : decode cX7_knee 38 = .ok (.iaload, 1) := by decide +kernel
theorem dX7_knee_39 : decode cX7_knee 39 = .ok (.goto 26, 3) := by decide +kernel
theorem dX7_knee_42 : decode cX7_knee 42 = .ok (.iload_n 2, 1) := by decide +kernel
theorem dX7_knee_43 : decode cX7_knee 43 = .ok (.iconst 1, 1) := by decide +kernel
theorem dX7_knee_44 : decode cX7_knee 44 = .ok (.if_icmp .ne 12, 3) := by decide +kernel
theorem dX7_knee_47 : decode cX7_knee 47 = .ok (.aload_n 0, 1) := by decide +kernel
theorem dX7_knee_48 : decode cX7_knee 48 = .ok (.getfield 19, 3) := by decide +kernel
theorem dX7_knee_51 : decode cX7_knee 51 = .ok (.iload_n 1, 1) := by decide +kernel
theorem dX7_knee_52 : decode cX7_knee 52 = .ok (.iaload, 1) := by decide +kernel
theorem dX7_knee_53 : decode cX7_knee 53 = .ok (.goto 12, 3) := by decide +kernel
theorem dX7_knee_56 : decode cX7_knee 56 = .ok (.aload_n 0, 1) := by decide +kernel
theorem dX7_knee_57 : decode cX7_knee 57 = .ok (.getfield 43, 3) := by decide +kernel
theorem dX7_knee_60 : decode cX7_knee 60 = .ok (.bipush 11, 2) := by decide +kernel
theorem dX7_knee_62 : decode cX7_knee 62 = .ok (.iload_n 1, 1) := by decide +kernel
theorem dX7_knee_63 : decode cX7_knee 63 = .ok (.iadd, 1) := by decide +kernel
theorem dX7_knee_64 : decode cX7_knee 64 = .ok (.iaload, 1) := by decide +kernel
theorem dX7_knee_65 : decode cX7_knee 65 = .ok (.ireturn, 1) := by decide +kernel
theorem dX7_knee_66 : decode cX7_knee 66 = .ok (.iload_n 2, 1) := by decide +kernel
theorem dX7_knee_67 : decode cX7_knee 67 = .ok (.iconst 4, 1) := by decide +kernel
theorem dX7_knee_68 : decode cX7_knee 68 = .ok (.if_icmp .ne 17, 3) := by decide +kernel
theorem dX7_knee_71 : decode cX7_knee 71 = .ok (.aload_n 0, 1) := by decide +kernel
theorem dX7_knee_72 : decode cX7_knee 72 = .ok (.getfield 43, 3) := by decide +kernel
theorem dX7_knee_75 : decode cX7_knee 75 = .ok (.bipush 10, 2) := by decide +kernel
theorem dX7_knee_77 : decode cX7_knee 77 = .ok (.iaload, 1) := by decide +kernel
theorem dX7_knee_78 : decode cX7_knee 78 = .ok (.iload_n 1, 1) := by decide +kernel
theorem dX7_knee_79 : decode cX7_knee 79 = .ok (.ishr, 1) := by decide +kernel
theorem dX7_knee_80 : decode cX7_knee 80 = .ok (.iconst 1, 1) := by decide +kernel
theorem dX7_knee_81 : decode cX7_knee 81 = .ok (.iand, 1) := by decide +kernel
theorem dX7_knee_82 : decode cX7_knee 82 = .ok (.goto 29, 3) := by decide +kernel
theorem dX7_knee_85 : decode cX7_knee 85 = .ok (.aload_n 0, 1) := by decide +kernel
theorem dX7_knee_86 : decode cX7_knee 86 = .ok (.getfield 43, 3) := by decide +kernel
theorem dX7_knee_89 : decode cX7_knee 89 = .ok (.iconst 1, 1) := by decide +kernel
theorem dX7_knee_90 : decode cX7_knee 90 = .ok (.iload_n 1, 1) := by decide +kernel
theorem dX7_knee_91 : decode cX7_knee 91 = .ok (.iadd, 1) := by decide +kernel
theorem dX7_knee_92 : decode cX7_knee 92 = .ok (.iaload, 1) := by decide +kernel
theorem dX7_knee_93 : decode cX7_knee 93 = .ok (.ifCond .ne 8, 3) := by decide +kernel
theorem dX7_knee_96 : decode cX7_knee 96 = .ok (.bipush (-9), 2) := by decide +kernel
theorem dX7_knee_98 : decode cX7_knee 98 = .ok (.goto 13, 3) := by decide +kernel
theorem dX7_knee_101 : decode cX7_knee 101 = .ok (.aload_n 0, 1) := by decide +kernel
theorem dX7_knee_102 : decode cX7_knee 102 = .ok (.getfield 43, 3) := by decide +kernel
theorem dX7_knee_105 : decode cX7_knee 105 = .ok (.iconst 1, 1) := by decide +kernel
theorem dX7_knee_106 : decode cX7_knee 106 = .ok (.iload_n 1, 1) := by decide +kernel
theorem dX7_knee_107 : decode cX7_knee 107 = .ok (.iadd, 1) := by decide +kernel
theorem dX7_knee_108 : decode cX7_knee 108 = .ok (.iaload, 1) := by decide +kernel
theorem dX7_knee_109 : decode cX7_knee 109 = .ok (.iconst 1, 1) := by decide +kernel
theorem dX7_knee_110 : decode cX7_knee 110 = .ok (.isub, 1) := by decide +kernel
theorem dX7_knee_111 : decode cX7_knee 111 = .ok (.ireturn, 1) := by decide +kernel
set_option maxRecDepth 20000 in
theorem ggX7_person_X7_isPerson : GoodIn wsX7_person wsX7_isPerson := goodIn_r _ [9, 10, 11, 12, 8, 13, 28, 29, 30, 31, 32, 33, 34, 35, 36, 37, 38, 39, 40, 41, 42, 43, 44, 45, 46, 47, 48, 49, 50, 51, 52, 53, 54, 55, 56, 57, 58, 59, 60, 61, 62] rfl (by decide +kernel)
set_option maxRecDepth 20000 in
theorem gX7_person_X7_isPerson : GoodIn wsX7_person (wsV RX7 173 RX7 yX7_isPerson wsX7_isPerson) := goodIn_app (goodIn_of _ (by decide +kernel)) ggX7_person_X7_isPerson
set_option maxRecDepth 20000 in
theorem ggX7_person_X7_in : GoodIn wsX7_person wsX7_in := goodIn_r _ [13] rfl (by decide +kernel)
set_option maxRecDepth 20000 in
theorem gX7_person_X7_in : GoodIn wsX7_person (va_wsS RX7 84 yX7_in wsX7_in) := goodIn_app (goodIn_of _ (by decide +kernel)) ggX7_person_X7_in
set_option maxRecDepth 20000 in
theorem ggX7_person_X7_isReady : GoodIn wsX7_person wsX7_isReady := goodIn_r _ [17, 18, 19, 20, 8, 21, 2, 22, 23, 24, 25, 10, 26, 27, 28, 29, 30, 31, 32, 33, 34, 35, 36, 37, 38, 39, 40, 41, 42, 43, 44, 45, 46, 47, 48, 49, 50, 51, 52, 53, 54, 55, 56, 57, 58, 59, 60, 61, 62] rfl (by decide +kernel)
set_option maxRecDepth 20000 in
theorem gX7_person_X7_isReady : GoodIn wsX7_person (wsV RX7 176 RX7 yX7_isReady wsX7_isReady) := goodIn_app (goodIn_of _ (by decide +kernel)) ggX7_person_X7_isReady
set_option maxRecDepth 20000 in
theorem ggX7_person_X7_kneeOn : GoodIn wsX7_person wsX7_kneeOn := goodIn_r _ [25, 10, 26, 27, 28, 29, 30, 31, 32, 33, 34, 35, 36, 37, 38, 39, 40, 41, 42, 43, 44, 45, 46, 47, 48, 49, 50, 51, 52, 53, 54, 55, 56, 57, 58, 59, 60, 61, 62] rfl (by decide +kernel)
set_option maxRecDepth 20000 in
theorem gX7_person_X7_kneeOn : GoodIn wsX7_person (wsV RX7 163 RX7 yX7_kneeOn wsX7_kneeOn) := goodIn_app (goodIn_of _ (by decide +kernel)) ggX7_person_X7_kneeOn
theorem dX7_person_0 : decode cX7_person 0 = .ok (.aload_n 0, 1) := by decide +kernel
theorem dX7_person_1 : decode cX7_person 1 = .ok (.iconst 0, 1) := by decide +kernel
theorem dX7_person_2 : decode cX7_person 2 = .ok (.putfield 80, 3) := by decide +kernel
theorem dX7_person_5 : decode cX7_person 5 = .ok (.aload_n 0, 1) := by decide +kernel
theorem dX7_person_6 : decode cX7_person 6 = .ok (.iload_n 1, 1) := by decide +kernel
theorem dX7_person_7 : decode cX7_person 7 = .ok (.invokevirtual 173, 3) := by decide +kernel
theorem dX7_person_10 : decode cX7_person 10 = .ok (.ifCond .eq 12, 3) := by decide +kernel
theorem dX7_person_13 : decode cX7_person 13 = .ok (.iload_n 2, 1) := by decide +kernel
theorem dX7_person_14 : decode cX7_person 14 = .ok (.iconst 0, 1) := by decide +kernel
theorem dX7_person_15 : decode cX7_person 15 = .ok (.iconst 5, 1) := by decide +kernel
theorem dX7_person_16 : decode cX7_person 16 = .ok (.invokestatic 84, 3) := by decide +kernel
theorem dX7_person_19 : decode cX7_person 19 = .ok (.ifCond .ne 5, 3) := by decide +kernel
theorem dX7_person_22 : decode cX7_person 22 = .ok (.iconst (-1), 1) := by decide +kernel
theorem dX7_person_23 : decode cX7_person 23 = .ok (.ireturn, 1) := by decide +kernel
theorem dX7_person_24 : decode cX7_person 24 = .ok (.iload_n 2, 1) := by decide +kernel
theorem dX7_person_25 : decode cX7_person 25 = .ok (.iconst 3, 1) := by decide +kernel
theorem dX7_person_26 : decode cX7_person 26 = .ok (.if_icmp .ge 37, 3) := by decide +kernel
theorem dX7_person_29 : decode cX7_person 29 = .ok (.iload_n 2, 1) := by decide +kernel
theorem dX7_person_30 : decode cX7_person 30 = .ok (.ifCond .ne 12, 3) := by decide +kernel
theorem dX7_person_33 : decode cX7_person 33 = .ok (.aload_n 0, 1) := by decide +kernel
theorem dX7_person_34 : decode cX7_person 34 = .ok (.getfield 25, 3) := by decide +kernel
theorem dX7_person_37 : decode cX7_person 37 = .ok (.iload_n 1, 1) := by decide +kernel
theorem dX7_person_38 : decode cX7_person 38 = .ok (.iaload, 1) := by decide +kernel
theorem dX7_person_39 : decode cX7_person 39 = .ok (.goto 23, 3) := by decide +kernel
theorem dX7_person_42 : decode cX7_person 42 = .ok (.iload_n 2, 1) := by decide +kernel
theorem dX7_person_43 : decode cX7_person 43 = .ok (.iconst 1, 1) := by decide +kernel
theorem dX7_person_44 : decode cX7_person 44 = .ok (.if_icmp .ne 12, 3) := by decide +kernel
theorem dX7_person_47 : decode cX7_person 47 = .ok (.aload_n 0, 1) := by decide +kernel
theorem dX7_person_48 : decode cX7_person 48 = .ok (.getfield 28, 3) := by decide +kernel
theorem dX7_person_51 : decode cX7_person 51 = .ok (.iload_n 1, 1) := by decide +kernel
theorem dX7_person_52 : decode cX7_person 52 = .ok (.iaload, 1) := by decide +kernel
theorem dX7_person_53 : decode cX7_person 53 = .ok (.goto 9, 3) := by decide +kernel
theorem dX7_person_56 : decode cX7_person 56 = .ok (.aload_n 0, 1) := by decide +kernel
theorem dX7_person_57 : decode cX7_person 57 = .ok (.getfield 31, 3) := by decide +kernel
theorem dX7_person_60 : decode cX7_person 60 = .ok (.iload_n 1, 1) := by decide +kernel
theorem dX7_person_61 : decode cX7_person 61 = .ok (.iaload, 1) := by decide +kernel
theorem dX7_person_62 : decode cX7_person 62 = .ok (.ireturn, 1) := by decide +kernel
theorem dX7_person_63 : decode cX7_person 63 = .ok (.iload_n 2, 1) := by decide +kernel
theorem dX7_person_64 : decode cX7_person 64 = .ok (.iconst 5, 1) := by decide +kernel
theorem dX7_person_65 : decode cX7_person 65 = .ok (.if_icmp .ne 19, 3) := by decide +kernel
theorem dX7_person_68 : decode cX7_person 68 = .ok (.aload_n 0, 1) := by decide +kernel
theorem dX7_person_69 : decode cX7_person 69 = .ok (.iload_n 1, 1) := by decide +kernel
theorem dX7_person_70 : decode cX7_person 70 = .ok (.invokevirtual 176, 3) := by decide +kernel
theorem dX7_person_73 : decode cX7_person 73 = .ok (.ifCond .eq 7, 3) := by decide +kernel
theorem dX7_person_76 : decode cX7_person 76 = .ok (.iconst 1, 1) := by decide +kernel
theorem dX7_person_77 : decode cX7_person 77 = .ok (.goto 15, 3) := by decide +kernel
theorem dX7_person_80 : decode cX7_person 80 = .ok (.iconst 0, 1) := by decide +kernel
theorem dX7_person_81 : decode cX7_person 81 = .ok (.goto 11, 3) := by decide +kernel
theorem dX7_person_84 : decode cX7_person 84 = .ok (.aload_n 0, 1) := by decide +kernel
theorem dX7_person_85 : decode cX7_person 85 = .ok (.iload_n 1, 1) := by decide +kernel
theorem dX7_person_86 : decode cX7_person 86 = .ok (.iload_n 2, 1) := by decide +kernel
theorem dX7_person_87 : decode cX7_person 87 = .ok (.iconst 3, 1) := by decide +kernel
theorem dX7_person_88 : decode cX7_person 88 = .ok (.isub, 1) := by decide +kernel
theorem dX7_person_89 : decode cX7_person 89 = .ok (.invokevirtual 163, 3) := by decide +kernel
theorem dX7_person_92 : decode cX7_person 92 = .ok (.ireturn, 1) := by decide +kernel
set_option maxRecDepth 20000 in
theorem ggX7_farm_X7_in : GoodIn wsX7_farm wsX7_in := goodIn_r _ [8] rfl (by decide +kernel)
set_option maxRecDepth 20000 in
theorem gX7_farm_X7_in : GoodIn wsX7_farm (va_wsS RX7 84 yX7_in wsX7_in) := goodIn_app (goodIn_of _ (by decide +kernel)) ggX7_farm_X7_in
set_option maxRecDepth 20000 in
theorem ggX7_farm_X7_kneesOf : GoodIn wsX7_farm wsX7_kneesOf := goodIn_r _ [12, 13, 14, 15, 16, 17, 18, 19, 20, 21, 22, 23, 24, 25, 26, 27, 28, 29, 30, 31, 32, 33, 34, 35, 36, 37, 38, 39, 40, 41, 42, 43, 44, 45, 46, 47, 48, 49] rfl (by decide +kernel)
set_option maxRecDepth 20000 in
theorem gX7_farm_X7_kneesOf : GoodIn wsX7_farm (wsV RX7 153 RX7 yX7_kneesOf wsX7_kneesOf) := goodIn_app (goodIn_of _ (by decide +kernel)) ggX7_farm_X7_kneesOf
theorem dX7_farm_0 : decode cX7_farm 0 = .ok (.aload_n 0, 1) := by decide +kernel
theorem dX7_farm_1 : decode cX7_farm 1 = .ok (.iconst 0, 1) := by decide +kernel
theorem dX7_farm_2 : decode cX7_farm 2 = .ok (.putfield 80, 3) := by decide +kernel
theorem dX7_farm_5 : decode cX7_farm 5 = .ok (.iload_n 1, 1) := by decide +kernel
theorem dX7_farm_6 : decode cX7_farm 6 = .ok (.iconst 0, 1) := by decide +kernel
theorem dX7_farm_7 : decode cX7_farm 7 = .ok (.iconst 4, 1) := by decide +kernel
theorem dX7_farm_8 : decode cX7_farm 8 = .ok (.invokestatic 84, 3) := by decide +kernel
theorem dX7_farm_11 : decode cX7_farm 11 = .ok (.ifCond .eq 12, 3) := by decide +kernel
theorem dX7_farm_14 : decode cX7_farm 14 = .ok (.iload_n 2, 1) := by decide +kernel
theorem dX7_farm_15 : decode cX7_farm 15 = .ok (.iconst 0, 1) := by decide +kernel
theorem dX7_farm_16 : decode cX7_farm 16 = .ok (.iconst 3, 1) := by decide +kernel
theorem dX7_farm_17 : decode cX7_farm 17 = .ok (.invokestatic 84, 3) := by decide +kernel
theorem dX7_farm_20 : decode cX7_farm 20 = .ok (.ifCond .ne 5, 3) := by decide +kernel
theorem dX7_farm_23 : decode cX7_farm 23 = .ok (.iconst (-1), 1) := by decide +kernel
theorem dX7_farm_24 : decode cX7_farm 24 = .ok (.ireturn, 1) := by decide +kernel
theorem dX7_farm_25 : decode cX7_farm 25 = .ok (.iload_n 2, 1) := by decide +kernel
theorem dX7_farm_26 : decode cX7_farm 26 = .ok (.ifCond .ne 12, 3) := by decide +kernel
theorem dX7_farm_29 : decode cX7_farm 29 = .ok (.aload_n 0, 1) := by decide +kernel
theorem dX7_farm_30 : decode cX7_farm 30 = .ok (.getfield 37, 3) := by decide +kernel
theorem dX7_farm_33 : decode cX7_farm 33 = .ok (.iload_n 1, 1) := by decide +kernel
theorem dX7_farm_34 : decode cX7_farm 34 = .ok (.iaload, 1) := by decide +kernel
theorem dX7_farm_35 : decode cX7_farm 35 = .ok (.goto 49, 3) := by decide +kernel
theorem dX7_farm_38 : decode cX7_farm 38 = .ok (.iload_n 2, 1) := by decide +kernel
theorem dX7_farm_39 : decode cX7_farm 39 = .ok (.iconst 1, 1) := by decide +kernel
theorem dX7_farm_40 : decode cX7_farm 40 = .ok (.if_icmp .ne 12, 3) := by decide +kernel
theorem dX7_farm_43 : decode cX7_farm 43 = .ok (.aload_n 0, 1) := by decide +kernel
theorem dX7_farm_44 : decode cX7_farm 44 = .ok (.getfield 34, 3) := by decide +kernel
theorem dX7_farm_47 : decode cX7_farm 47 = .ok (.iload_n 1, 1) := by decide +kernel
theorem dX7_farm_48 : decode cX7_farm 48 = .ok (.iaload, 1) := by decide +kernel
theorem dX7_farm_49 : decode cX7_farm 49 = .ok (.goto 35, 3) := by decide +kernel
theorem dX7_farm_52 : decode cX7_farm 52 = .ok (.iload_n 2, 1) := by decide +kernel
theorem dX7_farm_53 : decode cX7_farm 53 = .ok (.iconst 2, 1) := by decide +kernel
theorem dX7_farm_54 : decode cX7_farm 54 = .ok (.if_icmp .ne 11, 3) := by decide +kernel
theorem dX7_farm_57 : decode cX7_farm 57 = .ok (.aload_n 0, 1) := by decide +kernel
theorem dX7_farm_58 : decode cX7_farm 58 = .ok (.iload_n 1, 1) := by decide +kernel
theorem dX7_farm_59 : decode cX7_farm 59 = .ok (.invokevirtual 153, 3) := by decide +kernel
theorem dX7_farm_62 : decode cX7_farm 62 = .ok (.goto 22, 3) := by decide +kernel
theorem dX7_farm_65 : decode cX7_farm 65 = .ok (.aload_n 0, 1) := by decide +kernel
theorem dX7_farm_66 : decode cX7_farm 66 = .ok (.iload_n 1, 1) := by decide +kernel
theorem dX7_farm_67 : decode cX7_farm 67 = .ok (.invokevirtual 153, 3) := by decide +kernel
theorem dX7_farm_70 : decode cX7_farm 70 = .ok (.ifCond .ne 8, 3) := by decide +kernel
theorem dX7_farm_73 : decode cX7_farm 73 = .ok (.bipush (-9), 2) := by decide +kernel
theorem dX7_farm_75 : decode cX7_farm 75 = .ok (.goto 9, 3) := by decide +kernel
theorem dX7_farm_78 : decode cX7_farm 78 = .ok (.aload_n 0, 1) := by decide +kernel
theorem dX7_farm_79 : decode cX7_farm 79 = .ok (.getfield 40, 3) := by decide +kernel
theorem dX7_farm_82 : decode cX7_farm 82 = .ok (.iload_n 1, 1) := by decide +kernel
theorem dX7_farm_83 : decode cX7_farm 83 = .ok (.iaload, 1) := by decide +kernel
theorem dX7_farm_84 : decode cX7_farm 84 = .ok (.ireturn, 1) := by decide +kernel
set_option maxRecDepth 20000 in
theorem ggX7_rest_X7_isFreeAtHome : GoodIn wsX7_rest wsX7_isFreeAtHome := goodIn_r _ [7, 2, 8, 9, 10, 6, 11, 12, 13, 14, 15, 16, 17, 18, 19, 20, 21, 22, 23, 24, 25, 26, 27, 28, 29, 30, 31, 32, 33, 34, 35, 36, 37, 38, 39, 40, 41, 42, 43, 44, 45, 46] rfl (by decide +kernel)
set_option maxRecDepth 20000 in
theorem gX7_rest_X7_isFreeAtHome : GoodIn wsX7_rest (wsV RX7 179 RX7 yX7_isFreeAtHome wsX7_isFreeAtHome) := goodIn_app (goodIn_of _ (by decide +kernel)) ggX7_rest_X7_isFreeAtHome
theorem dX7_rest_0 : decode cX7_rest 0 = .ok (.bipush (-9), 2) := by decide +kernel
theorem dX7_rest_2 : decode cX7_rest 2 = .ok (.istore_n 1, 1) := by decide +kernel
theorem dX7_rest_3 : decode cX7_rest 3 = .ok (.iconst 0, 1) := by decide +kernel
theorem dX7_rest_4 : decode cX7_rest 4 = .ok (.istore_n 2, 1) := by decide +kernel
theorem dX7_rest_5 : decode cX7_rest 5 = .ok (.iload_n 2, 1) := by decide +kernel
theorem dX7_rest_6 : decode cX7_rest 6 = .ok (.aload_n 0, 1) := by decide +kernel
theorem dX7_rest_7 : decode cX7_rest 7 = .ok (.getfield 13, 3) := by decide +kernel
theorem dX7_rest_10 : decode cX7_rest 10 = .ok (.iconst 0, 1) := by decide +kernel
theorem dX7_rest_11 : decode cX7_rest 11 = .ok (.iaload, 1) := by decide +kernel
theorem dX7_rest_12 : decode cX7_rest 12 = .ok (.if_icmp .ge 50, 3) := by decide +kernel
theorem dX7_rest_15 : decode cX7_rest 15 = .ok (.aload_n 0, 1) := by decide +kernel
theorem dX7_rest_16 : decode cX7_rest 16 = .ok (.iload_n 2, 1) := by decide +kernel
theorem dX7_rest_17 : decode cX7_rest 17 = .ok (.invokevirtual 179, 3) := by decide +kernel
theorem dX7_rest_20 : decode cX7_rest 20 = .ok (.ifCond .eq 34, 3) := by decide +kernel
theorem dX7_rest_23 : decode cX7_rest 23 = .ok (.iload_n 1, 1) := by decide +kernel
theorem dX7_rest_24 : decode cX7_rest 24 = .ok (.bipush (-9), 2) := by decide +kernel
theorem dX7_rest_26 : decode cX7_rest 26 = .ok (.if_icmp .eq 24, 3) := by decide +kernel
theorem dX7_rest_29 : decode cX7_rest 29 = .ok (.aload_n 0, 1) := by decide +kernel
theorem dX7_rest_30 : decode cX7_rest 30 = .ok (.getfield 43, 3) := by decide +kernel
theorem dX7_rest_33 : decode cX7_rest 33 = .ok (.bipush 11, 2) := by decide +kernel
theorem dX7_rest_35 : decode cX7_rest 35 = .ok (.iload_n 2, 1) := by decide +kernel
theorem dX7_rest_36 : decode cX7_rest 36 = .ok (.iadd, 1) := by decide +kernel
theorem dX7_rest_37 : decode cX7_rest 37 = .ok (.iaload, 1) := by decide +kernel
theorem dX7_rest_38 : decode cX7_rest 38 = .ok (.aload_n 0, 1) := by decide +kernel
theorem dX7_rest_39 : decode cX7_rest 39 = .ok (.getfield 43, 3) := by decide +kernel
theorem dX7_rest_42 : decode cX7_rest 42 = .ok (.bipush 11, 2) := by decide +kernel
theorem dX7_rest_44 : decode cX7_rest 44 = .ok (.iload_n 1, 1) := by decide +kernel
theorem dX7_rest_45 : decode cX7_rest 45 = .ok (.iadd, 1) := by decide +kernel
theorem dX7_rest_46 : decode cX7_rest 46 = .ok (.iaload, 1) := by decide +kernel
theorem dX7_rest_47 : decode cX7_rest 47 = .ok (.if_icmp .ge 7, 3) := by decide +kernel
theorem dX7_rest_50 : decode cX7_rest 50 = .ok (.iload_n 2, 1) := by decide +kernel
theorem dX7_rest_51 : decode cX7_rest 51 = .ok (.goto 4, 3) := by decide +kernel
theorem dX7_rest_54 : decode cX7_rest 54 = .ok (.iload_n 1, 1) := by decide +kernel
theorem dX7_rest_55 : decode cX7_rest 55 = .ok (.istore_n 1, 1) := by decide +kernel
theorem dX7_rest_56 : decode cX7_rest 56 = .ok (.iinc 2 1, 3) := by decide +kernel
theorem dX7_rest_59 : decode cX7_rest 59 = .ok (.goto (-54), 3) := by decide +kernel
theorem dX7_rest_62 : decode cX7_rest 62 = .ok (.iload_n 1, 1) := by decide +kernel
theorem dX7_rest_63 : decode cX7_rest 63 = .ok (.ireturn, 1) := by decide +kernel
theorem dX7_lentMany_0 : decode cX7_lentMany 0 = .ok (.iconst 0, 1) := by decide +kernel
theorem dX7_lentMany_1 : decode cX7_lentMany 1 = .ok (.istore_n 1, 1) := by decide +kernel
theorem dX7_lentMany_2 : decode cX7_lentMany 2 = .ok (.iconst 0, 1) := by decide +kernel
theorem dX7_lentMany_3 : decode cX7_lentMany 3 = .ok (.istore_n 2, 1) := by decide +kernel
theorem dX7_lentMany_4 : decode cX7_lentMany 4 = .ok (.iload_n 2, 1) := by decide +kernel
theorem dX7_lentMany_5 : decode cX7_lentMany 5 = .ok (.bipush 9, 2) := by decide +kernel
theorem dX7_lentMany_7 : decode cX7_lentMany 7 = .ok (.if_icmp .ge 28, 3) := by decide +kernel
theorem dX7_lentMany_10 : decode cX7_lentMany 10 = .ok (.iload_n 1, 1) := by decide +kernel
theorem dX7_lentMany_11 : decode cX7_lentMany 11 = .ok (.aload_n 0, 1) := by decide +kernel
theorem dX7_lentMany_12 : decode cX7_lentMany 12 = .ok (.getfield 43, 3) := by decide +kernel
theorem dX7_lentMany_15 : decode cX7_lentMany 15 = .ok (.iconst 1, 1) := by decide +kernel
theorem dX7_lentMany_16 : decode cX7_lentMany 16 = .ok (.iload_n 2, 1) := by decide +kernel
theorem dX7_lentMany_17 : decode cX7_lentMany 17 = .ok (.iadd, 1) := by decide +kernel
theorem dX7_lentMany_18 : decode cX7_lentMany 18 = .ok (.iaload, 1) := by decide +kernel
theorem dX7_lentMany_19 : decode cX7_lentMany 19 = .ok (.ifCond .le 7, 3) := by decide +kernel
theorem dX7_lentMany_22 : decode cX7_lentMany 22 = .ok (.iconst 1, 1) := by decide +kernel
theorem dX7_lentMany_23 : decode cX7_lentMany 23 = .ok (.goto 4, 3) := by decide +kernel
theorem dX7_lentMany_26 : decode cX7_lentMany 26 = .ok (.iconst 0, 1) := by decide +kernel
theorem dX7_lentMany_27 : decode cX7_lentMany 27 = .ok (.iadd, 1) := by decide +kernel
theorem dX7_lentMany_28 : decode cX7_lentMany 28 = .ok (.istore_n 1, 1) := by decide +kernel
theorem dX7_lentMany_29 : decode cX7_lentMany 29 = .ok (.iinc 2 1, 3) := by decide +kernel
theorem dX7_lentMany_32 : decode cX7_lentMany 32 = .ok (.goto (-28), 3) := by decide +kernel
theorem dX7_lentMany_35 : decode cX7_lentMany 35 = .ok (.iload_n 1, 1) := by decide +kernel
theorem dX7_lentMany_36 : decode cX7_lentMany 36 = .ok (.ireturn, 1) := by decide +kernel
set_option maxRecDepth 20000 in
theorem ggX7_now_X7_in : GoodIn wsX7_now wsX7_in := goodIn_r _ [9] rfl (by decide +kernel)
set_option maxRecDepth 20000 in
theorem gX7_now_X7_in : GoodIn wsX7_now (va_wsS RX7 84 yX7_in wsX7_in) := goodIn_app (goodIn_of _ (by decide +kernel)) ggX7_now_X7_in
set_option maxRecDepth 20000 in
theorem ggX7_now_X7_rest : GoodIn wsX7_now wsX7_rest := goodIn_r _ [13, 2, 3, 14, 15, 16, 8, 17, 18, 19, 20, 21, 22, 23, 24, 25, 26, 27, 28, 29, 30, 31, 32, 33, 34, 35, 36, 37, 38, 39, 40, 41, 42, 43, 44, 45, 46, 47, 48, 49, 50, 51, 52, 53, 54, 55, 56] rfl (by decide +kernel)
set_option maxRecDepth 20000 in
theorem gX7_now_X7_rest : GoodIn wsX7_now (wsV RX7 182 RX7 yX7_rest wsX7_rest) := goodIn_app (goodIn_of _ (by decide +kernel)) ggX7_now_X7_rest
theorem dX7_now_0 : decode cX7_now 0 = .ok (.aload_n 0, 1) := by decide +kernel
theorem dX7_now_1 : decode cX7_now 1 = .ok (.iconst 0, 1) := by decide +kernel
theorem dX7_now_2 : decode cX7_now 2 = .ok (.putfield 80, 3) := by decide +kernel
theorem dX7_now_5 : decode cX7_now 5 = .ok (.iload_n 1, 1) := by decide +kernel
theorem dX7_now_6 : decode cX7_now 6 = .ok (.iconst 0, 1) := by decide +kernel
theorem dX7_now_7 : decode cX7_now 7 = .ok (.bipush 7, 2) := by decide +kernel
theorem dX7_now_9 : decode cX7_now 9 = .ok (.invokestatic 84, 3) := by decide +kernel
theorem dX7_now_12 : decode cX7_now 12 = .ok (.ifCond .ne 5, 3) := by decide +kernel
theorem dX7_now_15 : decode cX7_now 15 = .ok (.iconst (-1), 1) := by decide +kernel
theorem dX7_now_16 : decode cX7_now 16 = .ok (.ireturn, 1) := by decide +kernel
theorem dX7_now_17 : decode cX7_now 17 = .ok (.iconst 0, 1) := by decide +kernel
theorem dX7_now_18 : decode cX7_now 18 = .ok (.istore_n 2, 1) := by decide +kernel
theorem dX7_now_19 : decode cX7_now 19 = .ok (.iconst 0, 1) := by decide +kernel
theorem dX7_now_20 : decode cX7_now 20 = .ok (.istore_n 3, 1) := by decide +kernel
theorem dX7_now_21 : decode cX7_now 21 = .ok (.iload_n 3, 1) := by decide +kernel
theorem dX7_now_22 : decode cX7_now 22 = .ok (.aload_n 0, 1) := by decide +kernel
theorem dX7_now_23 : decode cX7_now 23 = .ok (.getfield 13, 3) := by decide +kernel
theorem dX7_now_26 : decode cX7_now 26 = .ok (.iconst 0, 1) := by decide +kernel
theorem dX7_now_27 : decode cX7_now 27 = .ok (.iaload, 1) := by decide +kernel
theorem dX7_now_28 : decode cX7_now 28 = .ok (.if_icmp .ge 30, 3) := by decide +kernel
theorem dX7_now_31 : decode cX7_now 31 = .ok (.iload_n 2, 1) := by decide +kernel
theorem dX7_now_32 : decode cX7_now 32 = .ok (.aload_n 0, 1) := by decide +kernel
theorem dX7_now_33 : decode cX7_now 33 = .ok (.getfield 43, 3) := by decide +kernel
theorem dX7_now_36 : decode cX7_now 36 = .ok (.iconst 1, 1) := by decide +kernel
theorem dX7_now_37 : decode cX7_now 37 = .ok (.iload_n 3, 1) := by decide +kernel
theorem dX7_now_38 : decode cX7_now 38 = .ok (.iadd, 1) := by decide +kernel
theorem dX7_now_39 : decode cX7_now 39 = .ok (.iaload, 1) := by decide +kernel
theorem dX7_now_40 : decode cX7_now 40 = .ok (.ifCond .ne 9, 3) := by decide +kernel
theorem dX7_now_43 : decode cX7_now 43 = .ok (.iconst 1, 1) := by decide +kernel
theorem dX7_now_44 : decode cX7_now 44 = .ok (.iload_n 3, 1) := by decide +kernel
theorem dX7_now_45 : decode cX7_now 45 = .ok (.ishl, 1) := by decide +kernel
theorem dX7_now_46 : decode cX7_now 46 = .ok (.goto 4, 3) := by decide +kernel
theorem dX7_now_49 : decode cX7_now 49 = .ok (.iconst 0, 1) := by decide +kernel
theorem dX7_now_50 : decode cX7_now 50 = .ok (.ior, 1) := by decide +kernel
theorem dX7_now_51 : decode cX7_now 51 = .ok (.istore_n 2, 1) := by decide +kernel
theorem dX7_now_52 : decode cX7_now 52 = .ok (.iinc 3 1, 3) := by decide +kernel
theorem dX7_now_55 : decode cX7_now 55 = .ok (.goto (-34), 3) := by decide +kernel
theorem dX7_now_58 : decode cX7_now 58 = .ok (.iload_n 1, 1) := by decide +kernel
theorem dX7_now_59 : decode cX7_now 59 = .ok (.iconst 2, 1) := by decide +kernel
theorem dX7_now_60 : decode cX7_now 60 = .ok (.if_icmp .ge 18, 3) := by decide +kernel
theorem dX7_now_63 : decode cX7_now 63 = .ok (.iload_n 1, 1) := by decide +kernel
theorem dX7_now_64 : decode cX7_now 64 = .ok (.ifCond .ne 12, 3) := by decide +kernel
theorem dX7_now_67 : decode cX7_now 67 = .ok (.aload_n 0, 1) := by decide +kernel
theorem dX7_now_68 : decode cX7_now 68 = .ok (.getfield 43, 3) := by decide +kernel
theorem dX7_now_71 : decode cX7_now 71 = .ok (.iconst 0, 1) := by decide +kernel
theorem dX7_now_72 : decode cX7_now 72 = .ok (.iaload, 1) := by decide +kernel
theorem dX7_now_73 : decode cX7_now 73 = .ok (.goto 4, 3) := by decide +kernel
theorem dX7_now_76 : decode cX7_now 76 = .ok (.iload_n 2, 1) := by decide +kernel
theorem dX7_now_77 : decode cX7_now 77 = .ok (.ireturn, 1) := by decide +kernel
theorem dX7_now_78 : decode cX7_now 78 = .ok (.iload_n 1, 1) := by decide +kernel
theorem dX7_now_79 : decode cX7_now 79 = .ok (.iconst 5, 1) := by decide +kernel
theorem dX7_now_80 : decode cX7_now 80 = .ok (.if_icmp .ge 17, 3) := by decide +kernel
theorem dX7_now_83 : decode cX7_now 83 = .ok (.aload_n 0, 1) := by decide +kernel
theorem dX7_now_84 : decode cX7_now 84 = .ok (.getfield 43, 3) := by decide +kernel
theorem dX7_now_87 : decode cX7_now 87 = .ok (.bipush 20, 2) := by decide +kernel
theorem dX7_now_89 : decode cX7_now 89 = .ok (.iload_n 1, 1) := by decide +kernel
theorem dX7_now_90 : decode cX7_now 90 = .ok (.iadd, 1) := by decide +kernel
theorem dX7_now_91 : decode cX7_now 91 = .ok (.iconst 2, 1) := by decide +kernel
theorem dX7_now_92 : decode cX7_now 92 = .ok (.isub, 1) := by decide +kernel
theorem dX7_now_93 : decode cX7_now 93 = .ok (.iaload, 1) := by decide +kernel
theorem dX7_now_94 : decode cX7_now 94 = .ok (.goto 32, 3) := by decide +kernel
theorem dX7_now_97 : decode cX7_now 97 = .ok (.iload_n 1, 1) := by decide +kernel
theorem dX7_now_98 : decode cX7_now 98 = .ok (.iconst 5, 1) := by decide +kernel
theorem dX7_now_99 : decode cX7_now 99 = .ok (.if_icmp .ne 10, 3) := by decide +kernel
theorem dX7_now_102 : decode cX7_now 102 = .ok (.aload_n 0, 1) := by decide +kernel
theorem dX7_now_103 : decode cX7_now 103 = .ok (.invokevirtual 182, 3) := by decide +kernel
theorem dX7_now_106 : decode cX7_now 106 = .ok (.goto 20, 3) := by decide +kernel
theorem dX7_now_109 : decode cX7_now 109 = .ok (.iload_n 1, 1) := by decide +kernel
theorem dX7_now_110 : decode cX7_now 110 = .ok (.bipush 6, 2) := by decide +kernel
theorem dX7_now_112 : decode cX7_now 112 = .ok (.if_icmp .ne 10, 3) := by decide +kernel
theorem dX7_now_115 : decode cX7_now 115 = .ok (.aload_n 0, 1) := by decide +kernel
theorem dX7_now_116 : decode cX7_now 116 = .ok (.getfield 147, 3) := by decide +kernel
theorem dX7_now_119 : decode cX7_now 119 = .ok (.goto 7, 3) := by decide +kernel
theorem dX7_now_122 : decode cX7_now 122 = .ok (.aload_n 0, 1) := by decide +kernel
theorem dX7_now_123 : decode cX7_now 123 = .ok (.getfield 141, 3) := by decide +kernel
theorem dX7_now_126 : decode cX7_now 126 = .ok (.ireturn, 1) := by decide +kernel
theorem dX7_notes_0 : decode cX7_notes 0 = .ok (.aload_n 0, 1) := by decide +kernel
theorem dX7_notes_1 : decode cX7_notes 1 = .ok (.getfield 141, 3) := by decide +kernel
theorem dX7_notes_4 : decode cX7_notes 4 = .ok (.bipush 10, 2) := by decide +kernel
theorem dX7_notes_6 : decode cX7_notes 6 = .ok (.if_icmp .ne 39, 3) := by decide +kernel
theorem dX7_notes_9 : decode cX7_notes 9 = .ok (.iconst 0, 1) := by decide +kernel
theorem dX7_notes_10 : decode cX7_notes 10 = .ok (.istore_n 1, 1) := by decide +kernel
theorem dX7_notes_11 : decode cX7_notes 11 = .ok (.iload_n 1, 1) := by decide +kernel
theorem dX7_notes_12 : decode cX7_notes 12 = .ok (.sipush 207, 3) := by decide +kernel
theorem dX7_notes_15 : decode cX7_notes 15 = .ok (.if_icmp .ge 24, 3) := by decide +kernel
theorem dX7_notes_18 : decode cX7_notes 18 = .ok (.aload_n 0, 1) := by decide +kernel
theorem dX7_notes_19 : decode cX7_notes 19 = .ok (.getfield 53, 3) := by decide +kernel
theorem dX7_notes_22 : decode cX7_notes 22 = .ok (.iload_n 1, 1) := by decide +kernel
theorem dX7_notes_23 : decode cX7_notes 23 = .ok (.aload_n 0, 1) := by decide +kernel
theorem dX7_notes_24 : decode cX7_notes 24 = .ok (.getfield 53, 3) := by decide +kernel
theorem dX7_notes_27 : decode cX7_notes 27 = .ok (.iload_n 1, 1) := by decide +kernel
theorem dX7_notes_28 : decode cX7_notes 28 = .ok (.bipush 23, 2) := by decide +kernel
theorem dX7_notes_30 : decode cX7_notes 30 = .ok (.iadd, 1) := by decide +kernel
theorem dX7_notes_31 : decode cX7_notes 31 = .ok (.iaload, 1) := by decide +kernel
theorem dX7_notes_32 : decode cX7_notes 32 = .ok (.iastore, 1) := by decide +kernel
theorem dX7_notes_33 : decode cX7_notes 33 = .ok (.iinc 1 1, 3) := by decide +kernel
theorem dX7_notes_36 : decode cX7_notes 36 = .ok (.goto (-25), 3) := by decide +kernel
theorem dX7_notes_39 : decode cX7_notes 39 = .ok (.aload_n 0, 1) := by decide +kernel
theorem dX7_notes_40 : decode cX7_notes 40 = .ok (.bipush 9, 2) := by decide +kernel
theorem dX7_notes_42 : decode cX7_notes 42 = .ok (.putfield 141, 3) := by decide +kernel
theorem dX7_notes_45 : decode cX7_notes 45 = .ok (.iconst 0, 1) := by decide +kernel
theorem dX7_notes_46 : decode cX7_notes 46 = .ok (.istore_n 1, 1) := by decide +kernel
theorem dX7_notes_47 : decode cX7_notes 47 = .ok (.iload_n 1, 1) := by decide +kernel
theorem dX7_notes_48 : decode cX7_notes 48 = .ok (.bipush 23, 2) := by decide +kernel
theorem dX7_notes_50 : decode cX7_notes 50 = .ok (.if_icmp .ge 29, 3) := by decide +kernel
theorem dX7_notes_53 : decode cX7_notes 53 = .ok (.aload_n 0, 1) := by decide +kernel
theorem dX7_notes_54 : decode cX7_notes 54 = .ok (.getfield 53, 3) := by decide +kernel
theorem dX7_notes_57 : decode cX7_notes 57 = .ok (.bipush 23, 2) := by decide +kernel
theorem dX7_notes_59 : decode cX7_notes 59 = .ok (.aload_n 0, 1) := by decide +kernel
theorem dX7_notes_60 : decode cX7_notes 60 = .ok (.getfield 141, 3) := by decide +kernel
theorem dX7_notes_63 : decode cX7_notes 63 = .ok (.imul, 1) := by decide +kernel
theorem dX7_notes_64 : decode cX7_notes 64 = .ok (.iload_n 1, 1) := by decide +kernel
theorem dX7_notes_65 : decode cX7_notes 65 = .ok (.iadd, 1) := by decide +kernel
theorem dX7_notes_66 : decode cX7_notes 66 = .ok (.aload_n 0, 1) := by decide +kernel
theorem dX7_notes_67 : decode cX7_notes 67 = .ok (.getfield 43, 3) := by decide +kernel
theorem dX7_notes_70 : decode cX7_notes 70 = .ok (.iload_n 1, 1) := by decide +kernel
theorem dX7_notes_71 : decode cX7_notes 71 = .ok (.iaload, 1) := by decide +kernel
theorem dX7_notes_72 : decode cX7_notes 72 = .ok (.iastore, 1) := by decide +kernel
theorem dX7_notes_73 : decode cX7_notes 73 = .ok (.iinc 1 1, 3) := by decide +kernel
theorem dX7_notes_76 : decode cX7_notes 76 = .ok (.goto (-29), 3) := by decide +kernel
theorem dX7_notes_79 : decode cX7_notes 79 = .ok (.aload_n 0, 1) := by decide +kernel
theorem dX7_notes_80 : decode cX7_notes 80 = .ok (.dup, 1) := by decide +kernel
theorem dX7_notes_81 : decode cX7_notes 81 = .ok (.getfield 141, 3) := by decide +kernel
theorem dX7_notes_84 : decode cX7_notes 84 = .ok (.iconst 1, 1) := by decide +kernel
theorem dX7_notes_85 : decode cX7_notes 85 = .ok (.iadd, 1) := by decide +kernel
theorem dX7_notes_86 : decode cX7_notes 86 = .ok (.putfield 141, 3) := by decide +kernel
theorem dX7_notes_89 : decode cX7_notes 89 = .ok (.return_, 1) := by decide +kernel
set_option maxRecDepth 20000 in
theorem ggX7_lends_X7_isKnee : GoodIn wsX7_lends wsX7_isKnee := goodIn_r _ [11, 12, 13, 14, 10, 15, 48, 49, 50, 51, 52, 53, 54, 55, 56, 57, 58, 59, 60, 61, 62, 63, 64, 65, 66, 67, 68, 69, 70, 71, 72, 73, 74, 75, 76, 77, 78, 79, 80, 81, 82] rfl (by decide +kernel)
set_option maxRecDepth 20000 in
theorem gX7_lends_X7_isKnee : GoodIn wsX7_lends (wsV RX7 170 RX7 yX7_isKnee wsX7_isKnee) := goodIn_app (goodIn_of _ (by decide +kernel)) ggX7_lends_X7_isKnee
set_option maxRecDepth 20000 in
theorem ggX7_lends_X7_isPerson : GoodIn wsX7_lends wsX7_isPerson := goodIn_r _ [19, 12, 13, 14, 10, 15, 48, 49, 50, 51, 52, 53, 54, 55, 56, 57, 58, 59, 60, 61, 62, 63, 64, 65, 66, 67, 68, 69, 70, 71, 72, 73, 74, 75, 76, 77, 78, 79, 80, 81, 82] rfl (by decide +kernel)
set_option maxRecDepth 20000 in
theorem gX7_lends_X7_isPerson : GoodIn wsX7_lends (wsV RX7 173 RX7 yX7_isPerson wsX7_isPerson) := goodIn_app (goodIn_of _ (by decide +kernel)) ggX7_lends_X7_isPerson
set_option maxRecDepth 20000 in
theorem ggX7_lends_X7_kneeOn : GoodIn wsX7_lends wsX7_kneeOn := goodIn_r _ [23, 12, 3, 2, 48, 49, 50, 51, 52, 53, 54, 55, 56, 57, 58, 59, 60, 61, 62, 63, 64, 65, 66, 67, 68, 69, 70, 71, 72, 73, 74, 75, 76, 77, 78, 79, 80, 81, 82] rfl (by decide +kernel)
set_option maxRecDepth 20000 in
theorem gX7_lends_X7_kneeOn : GoodIn wsX7_lends (wsV RX7 163 RX7 yX7_kneeOn wsX7_kneeOn) := goodIn_app (goodIn_of _ (by decide +kernel)) ggX7_lends_X7_kneeOn
set_option maxRecDepth 20000 in
theorem ggX7_lends_X7_isFreeAtHome : GoodIn wsX7_lends wsX7_isFreeAtHome := goodIn_r _ [27, 3, 28, 29, 30, 10, 31, 48, 49, 50, 51, 52, 53, 54, 55, 56, 57, 58, 59, 60, 61, 62, 63, 64, 65, 66, 67, 68, 69, 70, 71, 72, 73, 74, 75, 76, 77, 78, 79, 80, 81, 82] rfl (by decide +kernel)
set_option maxRecDepth 20000 in
theorem gX7_lends_X7_isFreeAtHome : GoodIn wsX7_lends (wsV RX7 179 RX7 yX7_isFreeAtHome wsX7_isFreeAtHome) := goodIn_app (goodIn_of _ (by decide +kernel)) ggX7_lends_X7_isFreeAtHome
set_option maxRecDepth 20000 in
theorem ggX7_lends_X7_wants : GoodIn wsX7_lends wsX7_wants := goodIn_r _ [35, 36, 48, 49, 50, 51, 52, 53, 54, 55, 56, 57, 58, 59, 60, 61, 62, 63, 64, 65, 66, 67, 68, 69, 70, 71, 72, 73, 74, 75, 76, 77, 78, 79, 80, 81, 82] rfl (by decide +kernel)
set_option maxRecDepth 20000 in
theorem gX7_lends_X7_wants : GoodIn wsX7_lends (wsV RX7 160 RX7 yX7_wants wsX7_wants) := goodIn_app (goodIn_of _ (by decide +kernel)) ggX7_lends_X7_wants
set_option maxRecDepth 20000 in
theorem ggX7_lends_X7_speak : GoodIn wsX7_lends wsX7_speak := goodIn_r _ [40, 41, 48, 49, 50, 51, 52, 53, 54, 55, 56, 57, 58, 59, 60, 61, 62, 63, 64, 65, 66, 67, 68, 69, 70, 71, 72, 73, 74, 75, 76, 77, 78, 79, 80, 81, 82] rfl (by decide +kernel)
set_option maxRecDepth 20000 in
theorem gX7_lends_X7_speak : GoodIn wsX7_lends (wsV RX7 156 RX7 yX7_speak wsX7_speak) := goodIn_app (goodIn_of _ (by decide +kernel)) ggX7_lends_X7_speak
set_option maxRecDepth 20000 in
theorem ggX7_lends_X7_notes : GoodIn wsX7_lends wsX7_notes := goodIn_r _ [45, 46, 47, 3, 48, 49, 50, 51, 52, 53, 54, 55, 56, 57, 58, 59, 60, 61, 62, 63, 64, 65, 66, 67, 68, 69, 70, 71, 72, 73, 74, 75, 76, 77, 78, 79, 80, 81, 82] rfl (by decide +kernel)
set_option maxRecDepth 20000 in
theorem gX7_lends_X7_notes : GoodIn wsX7_lends (wsV RX7 186 RX7 yX7_notes wsX7_notes) := goodIn_app (goodIn_of _ (by decide +kernel)) ggX7_lends_X7_notes
theorem dX7_lends_0 : decode cX7_lends 0 = .ok (.aload_n 0, 1) := by decide +kernel
theorem dX7_lends_1 : decode cX7_lends 1 = .ok (.iconst 0, 1) := by decide +kernel
theorem dX7_lends_2 : decode cX7_lends 2 = .ok (.putfield 80, 3) := by decide +kernel
theorem dX7_lends_5 : decode cX7_lends 5 = .ok (.aload_n 0, 1) := by decide +kernel
theorem dX7_lends_6 : decode cX7_lends 6 = .ok (.iload_n 1, 1) := by decide +kernel
theorem dX7_lends_7 : decode cX7_lends 7 = .ok (.invokevirtual 170, 3) := by decide +kernel
theorem dX7_lends_10 : decode cX7_lends 10 = .ok (.ifCond .eq 11, 3) := by decide +kernel
theorem dX7_lends_13 : decode cX7_lends 13 = .ok (.aload_n 0, 1) := by decide +kernel
theorem dX7_lends_14 : decode cX7_lends 14 = .ok (.iload_n 2, 1) := by decide +kernel
theorem dX7_lends_15 : decode cX7_lends 15 = .ok (.invokevirtual 173, 3) := by decide +kernel
theorem dX7_lends_18 : decode cX7_lends 18 = .ok (.ifCond .ne 5, 3) := by decide +kernel
theorem dX7_lends_21 : decode cX7_lends 21 = .ok (.iconst (-1), 1) := by decide +kernel
theorem dX7_lends_22 : decode cX7_lends 22 = .ok (.ireturn, 1) := by decide +kernel
theorem dX7_lends_23 : decode cX7_lends 23 = .ok (.aload_n 0, 1) := by decide +kernel
theorem dX7_lends_24 : decode cX7_lends 24 = .ok (.iload_n 2, 1) := by decide +kernel
theorem dX7_lends_25 : decode cX7_lends 25 = .ok (.iconst 1, 1) := by decide +kernel
theorem dX7_lends_26 : decode cX7_lends 26 = .ok (.aload_n 0, 1) := by decide +kernel
theorem dX7_lends_27 : decode cX7_lends 27 = .ok (.getfield 16, 3) := by decide +kernel
theorem dX7_lends_30 : decode cX7_lends 30 = .ok (.iload_n 1, 1) := by decide +kernel
theorem dX7_lends_31 : decode cX7_lends 31 = .ok (.iaload, 1) := by decide +kernel
theorem dX7_lends_32 : decode cX7_lends 32 = .ok (.isub, 1) := by decide +kernel
theorem dX7_lends_33 : decode cX7_lends 33 = .ok (.invokevirtual 163, 3) := by decide +kernel
theorem dX7_lends_36 : decode cX7_lends 36 = .ok (.istore_n 3, 1) := by decide +kernel
theorem dX7_lends_37 : decode cX7_lends 37 = .ok (.aload_n 0, 1) := by decide +kernel
theorem dX7_lends_38 : decode cX7_lends 38 = .ok (.iload_n 1, 1) := by decide +kernel
theorem dX7_lends_39 : decode cX7_lends 39 = .ok (.invokevirtual 179, 3) := by decide +kernel
theorem dX7_lends_42 : decode cX7_lends 42 = .ok (.ifCond .eq 49, 3) := by decide +kernel
theorem dX7_lends_45 : decode cX7_lends 45 = .ok (.aload_n 0, 1) := by decide +kernel
theorem dX7_lends_46 : decode cX7_lends 46 = .ok (.getfield 43, 3) := by decide +kernel
theorem dX7_lends_49 : decode cX7_lends 49 = .ok (.bipush 11, 2) := by decide +kernel
theorem dX7_lends_51 : decode cX7_lends 51 = .ok (.iload_n 1, 1) := by decide +kernel
theorem dX7_lends_52 : decode cX7_lends 52 = .ok (.iadd, 1) := by decide +kernel
theorem dX7_lends_53 : decode cX7_lends 53 = .ok (.iaload, 1) := by decide +kernel
theorem dX7_lends_54 : decode cX7_lends 54 = .ok (.ifCond .le 37, 3) := by decide +kernel
theorem dX7_lends_57 : decode cX7_lends 57 = .ok (.aload_n 0, 1) := by decide +kernel
theorem dX7_lends_58 : decode cX7_lends 58 = .ok (.iload_n 2, 1) := by decide +kernel
theorem dX7_lends_59 : decode cX7_lends 59 = .ok (.aload_n 0, 1) := by decide +kernel
theorem dX7_lends_60 : decode cX7_lends 60 = .ok (.getfield 16, 3) := by decide +kernel
theorem dX7_lends_63 : decode cX7_lends 63 = .ok (.iload_n 1, 1) := by decide +kernel
theorem dX7_lends_64 : decode cX7_lends 64 = .ok (.iaload, 1) := by decide +kernel
theorem dX7_lends_65 : decode cX7_lends 65 = .ok (.invokevirtual 160, 3) := by decide +kernel
theorem dX7_lends_68 : decode cX7_lends 68 = .ok (.ifCond .eq 23, 3) := by decide +kernel
theorem dX7_lends_71 : decode cX7_lends 71 = .ok (.aload_n 0, 1) := by decide +kernel
theorem dX7_lends_72 : decode cX7_lends 72 = .ok (.iload_n 2, 1) := by decide +kernel
theorem dX7_lends_73 : decode cX7_lends 73 = .ok (.aload_n 0, 1) := by decide +kernel
theorem dX7_lends_74 : decode cX7_lends 74 = .ok (.getfield 16, 3) := by decide +kernel
theorem dX7_lends_77 : decode cX7_lends 77 = .ok (.iload_n 1, 1) := by decide +kernel
theorem dX7_lends_78 : decode cX7_lends 78 = .ok (.iaload, 1) := by decide +kernel
theorem dX7_lends_79 : decode cX7_lends 79 = .ok (.invokevirtual 163, 3) := by decide +kernel
theorem dX7_lends_82 : decode cX7_lends 82 = .ok (.bipush (-9), 2) := by decide +kernel
theorem dX7_lends_84 : decode cX7_lends 84 = .ok (.if_icmp .ne 7, 3) := by decide +kernel
theorem dX7_lends_87 : decode cX7_lends 87 = .ok (.iconst 1, 1) := by decide +kernel
theorem dX7_lends_88 : decode cX7_lends 88 = .ok (.goto 4, 3) := by decide +kernel
theorem dX7_lends_91 : decode cX7_lends 91 = .ok (.iconst 0, 1) := by decide +kernel
theorem dX7_lends_92 : decode cX7_lends 92 = .ok (.istore 4, 2) := by decide +kernel
theorem dX7_lends_94 : decode cX7_lends 94 = .ok (.iload 4, 2) := by decide +kernel
theorem dX7_lends_96 : decode cX7_lends 96 = .ok (.ifCond .eq 28, 3) := by decide +kernel
theorem dX7_lends_99 : decode cX7_lends 99 = .ok (.iload_n 3, 1) := by decide +kernel
theorem dX7_lends_100 : decode cX7_lends 100 = .ok (.bipush (-9), 2) := by decide +kernel
theorem dX7_lends_102 : decode cX7_lends 102 = .ok (.if_icmp .eq 25, 3) := by decide +kernel
theorem dX7_lends_105 : decode cX7_lends 105 = .ok (.aload_n 0, 1) := by decide +kernel
theorem dX7_lends_106 : decode cX7_lends 106 = .ok (.aload_n 0, 1) := by decide +kernel
theorem dX7_lends_107 : decode cX7_lends 107 = .ok (.getfield 19, 3) := by decide +kernel
theorem dX7_lends_110 : decode cX7_lends 110 = .ok (.iload_n 1, 1) := by decide +kernel
theorem dX7_lends_111 : decode cX7_lends 111 = .ok (.iaload, 1) := by decide +kernel
theorem dX7_lends_112 : decode cX7_lends 112 = .ok (.aload_n 0, 1) := by decide +kernel
theorem dX7_lends_113 : decode cX7_lends 113 = .ok (.getfield 19, 3) := by decide +kernel
theorem dX7_lends_116 : decode cX7_lends 116 = .ok (.iload_n 3, 1) := by decide +kernel
theorem dX7_lends_117 : decode cX7_lends 117 = .ok (.iaload, 1) := by decide +kernel
theorem dX7_lends_118 : decode cX7_lends 118 = .ok (.invokevirtual 156, 3) := by decide +kernel
theorem dX7_lends_121 : decode cX7_lends 121 = .ok (.ifCond .ne 6, 3) := by decide +kernel
theorem dX7_lends_124 : decode cX7_lends 124 = .ok (.bipush (-2), 2) := by decide +kernel
theorem dX7_lends_126 : decode cX7_lends 126 = .ok (.ireturn, 1) := by decide +kernel
theorem dX7_lends_127 : decode cX7_lends 127 = .ok (.aload_n 0, 1) := by decide +kernel
theorem dX7_lends_128 : decode cX7_lends 128 = .ok (.invokevirtual 186, 3) := by decide +kernel
theorem dX7_lends_131 : decode cX7_lends 131 = .ok (.aload_n 0, 1) := by decide +kernel
theorem dX7_lends_132 : decode cX7_lends 132 = .ok (.getfield 43, 3) := by decide +kernel
theorem dX7_lends_135 : decode cX7_lends 135 = .ok (.iconst 1, 1) := by decide +kernel
theorem dX7_lends_136 : decode cX7_lends 136 = .ok (.iload_n 1, 1) := by decide +kernel
theorem dX7_lends_137 : decode cX7_lends 137 = .ok (.iadd, 1) := by decide +kernel
theorem dX7_lends_138 : decode cX7_lends 138 = .ok (.iload_n 2, 1) := by decide +kernel
theorem dX7_lends_139 : decode cX7_lends 139 = .ok (.iconst 1, 1) := by decide +kernel
theorem dX7_lends_140 : decode cX7_lends 140 = .ok (.iadd, 1) := by decide +kernel
theorem dX7_lends_141 : decode cX7_lends 141 = .ok (.iastore, 1) := by decide +kernel
theorem dX7_lends_142 : decode cX7_lends 142 = .ok (.aload_n 0, 1) := by decide +kernel
theorem dX7_lends_143 : decode cX7_lends 143 = .ok (.getfield 43, 3) := by decide +kernel
theorem dX7_lends_146 : decode cX7_lends 146 = .ok (.bipush 20, 2) := by decide +kernel
theorem dX7_lends_148 : decode cX7_lends 148 = .ok (.iaload, 1) := by decide +kernel
theorem dX7_lends_149 : decode cX7_lends 149 = .ok (.aload_n 0, 1) := by decide +kernel
theorem dX7_lends_150 : decode cX7_lends 150 = .ok (.getfield 37, 3) := by decide +kernel
theorem dX7_lends_153 : decode cX7_lends 153 = .ok (.aload_n 0, 1) := by decide +kernel
theorem dX7_lends_154 : decode cX7_lends 154 = .ok (.getfield 19, 3) := by decide +kernel
theorem dX7_lends_157 : decode cX7_lends 157 = .ok (.iload_n 1, 1) := by decide +kernel
theorem dX7_lends_158 : decode cX7_lends 158 = .ok (.iaload, 1) := by decide +kernel
theorem dX7_lends_159 : decode cX7_lends 159 = .ok (.iaload, 1) := by decide +kernel
theorem dX7_lends_160 : decode cX7_lends 160 = .ok (.iadd, 1) := by decide +kernel
theorem dX7_lends_161 : decode cX7_lends 161 = .ok (.istore 5, 2) := by decide +kernel
theorem dX7_lends_163 : decode cX7_lends 163 = .ok (.aload_n 0, 1) := by decide +kernel
theorem dX7_lends_164 : decode cX7_lends 164 = .ok (.getfield 43, 3) := by decide +kernel
theorem dX7_lends_167 : decode cX7_lends 167 = .ok (.bipush 20, 2) := by decide +kernel
theorem dX7_lends_169 : decode cX7_lends 169 = .ok (.iload 5, 2) := by decide +kernel
theorem dX7_lends_171 : decode cX7_lends 171 = .ok (.ldc 189, 2) := by decide +kernel
