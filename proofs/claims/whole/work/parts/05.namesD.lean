theorem dX7_lends_173 : decode cX7_lends 173 = .ok (.if_icmp .le 8, 3) := by decide +kernel
theorem dX7_lends_176 : decode cX7_lends 176 = .ok (.ldc 189, 2) := by decide +kernel
theorem dX7_lends_178 : decode cX7_lends 178 = .ok (.goto 5, 3) := by decide +kernel
theorem dX7_lends_181 : decode cX7_lends 181 = .ok (.iload 5, 2) := by decide +kernel
theorem dX7_lends_183 : decode cX7_lends 183 = .ok (.iastore, 1) := by decide +kernel
theorem dX7_lends_184 : decode cX7_lends 184 = .ok (.aload_n 0, 1) := by decide +kernel
theorem dX7_lends_185 : decode cX7_lends 185 = .ok (.getfield 43, 3) := by decide +kernel
theorem dX7_lends_188 : decode cX7_lends 188 = .ok (.bipush 20, 2) := by decide +kernel
theorem dX7_lends_190 : decode cX7_lends 190 = .ok (.iaload, 1) := by decide +kernel
theorem dX7_lends_191 : decode cX7_lends 191 = .ok (.ireturn, 1) := by decide +kernel
set_option maxRecDepth 20000 in
theorem ggX7_walks_X7_isPerson : GoodIn wsX7_walks wsX7_isPerson := goodIn_r _ [8, 2, 9, 10, 7, 11, 32, 33, 34, 35, 36, 37, 38, 39, 40, 41, 42, 43, 44, 45, 46, 47, 48, 49, 50, 51, 52, 53, 54, 55, 56, 57, 58, 59, 60, 61, 62, 63, 64, 65, 66] rfl (by decide +kernel)
set_option maxRecDepth 20000 in
theorem gX7_walks_X7_isPerson : GoodIn wsX7_walks (wsV RX7 173 RX7 yX7_isPerson wsX7_isPerson) := goodIn_app (goodIn_of _ (by decide +kernel)) ggX7_walks_X7_isPerson
set_option maxRecDepth 20000 in
theorem ggX7_walks_X7_in : GoodIn wsX7_walks wsX7_in := goodIn_r _ [11] rfl (by decide +kernel)
set_option maxRecDepth 20000 in
theorem gX7_walks_X7_in : GoodIn wsX7_walks (va_wsS RX7 84 yX7_in wsX7_in) := goodIn_app (goodIn_of _ (by decide +kernel)) ggX7_walks_X7_in
set_option maxRecDepth 20000 in
theorem ggX7_walks_X7_isReady : GoodIn wsX7_walks wsX7_isReady := goodIn_r _ [15, 16, 17, 18, 7, 19, 20, 21, 22, 23, 24, 2, 3, 25, 32, 33, 34, 35, 36, 37, 38, 39, 40, 41, 42, 43, 44, 45, 46, 47, 48, 49, 50, 51, 52, 53, 54, 55, 56, 57, 58, 59, 60, 61, 62, 63, 64, 65, 66] rfl (by decide +kernel)
set_option maxRecDepth 20000 in
theorem gX7_walks_X7_isReady : GoodIn wsX7_walks (wsV RX7 176 RX7 yX7_isReady wsX7_isReady) := goodIn_app (goodIn_of _ (by decide +kernel)) ggX7_walks_X7_isReady
set_option maxRecDepth 20000 in
theorem ggX7_walks_X7_notes : GoodIn wsX7_walks wsX7_notes := goodIn_r _ [29, 30, 31, 3, 32, 33, 34, 35, 36, 37, 38, 39, 40, 41, 42, 43, 44, 45, 46, 47, 48, 49, 50, 51, 52, 53, 54, 55, 56, 57, 58, 59, 60, 61, 62, 63, 64, 65, 66] rfl (by decide +kernel)
set_option maxRecDepth 20000 in
theorem gX7_walks_X7_notes : GoodIn wsX7_walks (wsV RX7 186 RX7 yX7_notes wsX7_notes) := goodIn_app (goodIn_of _ (by decide +kernel)) ggX7_walks_X7_notes
theorem dX7_walks_0 : decode cX7_walks 0 = .ok (.aload_n 0, 1) := by decide +kernel
theorem dX7_walks_1 : decode cX7_walks 1 = .ok (.iconst 0, 1) := by decide +kernel
theorem dX7_walks_2 : decode cX7_walks 2 = .ok (.putfield 80, 3) := by decide +kernel
theorem dX7_walks_5 : decode cX7_walks 5 = .ok (.aload_n 0, 1) := by decide +kernel
theorem dX7_walks_6 : decode cX7_walks 6 = .ok (.iload_n 1, 1) := by decide +kernel
theorem dX7_walks_7 : decode cX7_walks 7 = .ok (.invokevirtual 173, 3) := by decide +kernel
theorem dX7_walks_10 : decode cX7_walks 10 = .ok (.ifCond .eq 23, 3) := by decide +kernel
theorem dX7_walks_13 : decode cX7_walks 13 = .ok (.iload_n 2, 1) := by decide +kernel
theorem dX7_walks_14 : decode cX7_walks 14 = .ok (.iconst 0, 1) := by decide +kernel
theorem dX7_walks_15 : decode cX7_walks 15 = .ok (.bipush 20, 2) := by decide +kernel
theorem dX7_walks_17 : decode cX7_walks 17 = .ok (.invokestatic 84, 3) := by decide +kernel
theorem dX7_walks_20 : decode cX7_walks 20 = .ok (.ifCond .eq 13, 3) := by decide +kernel
theorem dX7_walks_23 : decode cX7_walks 23 = .ok (.iload_n 3, 1) := by decide +kernel
theorem dX7_walks_24 : decode cX7_walks 24 = .ok (.iconst 0, 1) := by decide +kernel
theorem dX7_walks_25 : decode cX7_walks 25 = .ok (.bipush 20, 2) := by decide +kernel
theorem dX7_walks_27 : decode cX7_walks 27 = .ok (.invokestatic 84, 3) := by decide +kernel
theorem dX7_walks_30 : decode cX7_walks 30 = .ok (.ifCond .ne 5, 3) := by decide +kernel
theorem dX7_walks_33 : decode cX7_walks 33 = .ok (.iconst (-1), 1) := by decide +kernel
theorem dX7_walks_34 : decode cX7_walks 34 = .ok (.ireturn, 1) := by decide +kernel
theorem dX7_walks_35 : decode cX7_walks 35 = .ok (.aload_n 0, 1) := by decide +kernel
theorem dX7_walks_36 : decode cX7_walks 36 = .ok (.iload_n 1, 1) := by decide +kernel
theorem dX7_walks_37 : decode cX7_walks 37 = .ok (.invokevirtual 176, 3) := by decide +kernel
theorem dX7_walks_40 : decode cX7_walks 40 = .ok (.ifCond .ne 6, 3) := by decide +kernel
theorem dX7_walks_43 : decode cX7_walks 43 = .ok (.bipush (-2), 2) := by decide +kernel
theorem dX7_walks_45 : decode cX7_walks 45 = .ok (.ireturn, 1) := by decide +kernel
theorem dX7_walks_46 : decode cX7_walks 46 = .ok (.aload_n 0, 1) := by decide +kernel
theorem dX7_walks_47 : decode cX7_walks 47 = .ok (.invokevirtual 186, 3) := by decide +kernel
theorem dX7_walks_50 : decode cX7_walks 50 = .ok (.iconst 0, 1) := by decide +kernel
theorem dX7_walks_51 : decode cX7_walks 51 = .ok (.istore 4, 2) := by decide +kernel
theorem dX7_walks_53 : decode cX7_walks 53 = .ok (.iconst 0, 1) := by decide +kernel
theorem dX7_walks_54 : decode cX7_walks 54 = .ok (.istore 5, 2) := by decide +kernel
theorem dX7_walks_56 : decode cX7_walks 56 = .ok (.iload 5, 2) := by decide +kernel
theorem dX7_walks_58 : decode cX7_walks 58 = .ok (.aload_n 0, 1) := by decide +kernel
theorem dX7_walks_59 : decode cX7_walks 59 = .ok (.getfield 13, 3) := by decide +kernel
theorem dX7_walks_62 : decode cX7_walks 62 = .ok (.iconst 0, 1) := by decide +kernel
theorem dX7_walks_63 : decode cX7_walks 63 = .ok (.iaload, 1) := by decide +kernel
theorem dX7_walks_64 : decode cX7_walks 64 = .ok (.if_icmp .ge 78, 3) := by decide +kernel
theorem dX7_walks_67 : decode cX7_walks 67 = .ok (.aload_n 0, 1) := by decide +kernel
theorem dX7_walks_68 : decode cX7_walks 68 = .ok (.getfield 43, 3) := by decide +kernel
theorem dX7_walks_71 : decode cX7_walks 71 = .ok (.iconst 1, 1) := by decide +kernel
theorem dX7_walks_72 : decode cX7_walks 72 = .ok (.iload 5, 2) := by decide +kernel
theorem dX7_walks_74 : decode cX7_walks 74 = .ok (.iadd, 1) := by decide +kernel
theorem dX7_walks_75 : decode cX7_walks 75 = .ok (.iaload, 1) := by decide +kernel
theorem dX7_walks_76 : decode cX7_walks 76 = .ok (.iload_n 1, 1) := by decide +kernel
theorem dX7_walks_77 : decode cX7_walks 77 = .ok (.iconst 1, 1) := by decide +kernel
theorem dX7_walks_78 : decode cX7_walks 78 = .ok (.iadd, 1) := by decide +kernel
theorem dX7_walks_79 : decode cX7_walks 79 = .ok (.if_icmp .ne 57, 3) := by decide +kernel
theorem dX7_walks_82 : decode cX7_walks 82 = .ok (.aload_n 0, 1) := by decide +kernel
theorem dX7_walks_83 : decode cX7_walks 83 = .ok (.getfield 43, 3) := by decide +kernel
theorem dX7_walks_86 : decode cX7_walks 86 = .ok (.bipush 11, 2) := by decide +kernel
theorem dX7_walks_88 : decode cX7_walks 88 = .ok (.iload 5, 2) := by decide +kernel
theorem dX7_walks_90 : decode cX7_walks 90 = .ok (.iadd, 1) := by decide +kernel
theorem dX7_walks_91 : decode cX7_walks 91 = .ok (.iaload, 1) := by decide +kernel
theorem dX7_walks_92 : decode cX7_walks 92 = .ok (.iload_n 2, 1) := by decide +kernel
theorem dX7_walks_93 : decode cX7_walks 93 = .ok (.isub, 1) := by decide +kernel
theorem dX7_walks_94 : decode cX7_walks 94 = .ok (.iconst 2, 1) := by decide +kernel
theorem dX7_walks_95 : decode cX7_walks 95 = .ok (.iload_n 3, 1) := by decide +kernel
theorem dX7_walks_96 : decode cX7_walks 96 = .ok (.imul, 1) := by decide +kernel
theorem dX7_walks_97 : decode cX7_walks 97 = .ok (.isub, 1) := by decide +kernel
theorem dX7_walks_98 : decode cX7_walks 98 = .ok (.istore 6, 2) := by decide +kernel
theorem dX7_walks_100 : decode cX7_walks 100 = .ok (.iload 4, 2) := by decide +kernel
theorem dX7_walks_102 : decode cX7_walks 102 = .ok (.iload 6, 2) := by decide +kernel
theorem dX7_walks_104 : decode cX7_walks 104 = .ok (.ifCond .ge 7, 3) := by decide +kernel
theorem dX7_walks_107 : decode cX7_walks 107 = .ok (.iconst 1, 1) := by decide +kernel
theorem dX7_walks_108 : decode cX7_walks 108 = .ok (.goto 4, 3) := by decide +kernel
theorem dX7_walks_111 : decode cX7_walks 111 = .ok (.iconst 0, 1) := by decide +kernel
theorem dX7_walks_112 : decode cX7_walks 112 = .ok (.iadd, 1) := by decide +kernel
theorem dX7_walks_113 : decode cX7_walks 113 = .ok (.istore 4, 2) := by decide +kernel
theorem dX7_walks_115 : decode cX7_walks 115 = .ok (.aload_n 0, 1) := by decide +kernel
theorem dX7_walks_116 : decode cX7_walks 116 = .ok (.getfield 43, 3) := by decide +kernel
theorem dX7_walks_119 : decode cX7_walks 119 = .ok (.bipush 11, 2) := by decide +kernel
theorem dX7_walks_121 : decode cX7_walks 121 = .ok (.iload 5, 2) := by decide +kernel
theorem dX7_walks_123 : decode cX7_walks 123 = .ok (.iadd, 1) := by decide +kernel
theorem dX7_walks_124 : decode cX7_walks 124 = .ok (.iload 6, 2) := by decide +kernel
theorem dX7_walks_126 : decode cX7_walks 126 = .ok (.ifCond .ge 7, 3) := by decide +kernel
theorem dX7_walks_129 : decode cX7_walks 129 = .ok (.iconst 0, 1) := by decide +kernel
theorem dX7_walks_130 : decode cX7_walks 130 = .ok (.goto 5, 3) := by decide +kernel
theorem dX7_walks_133 : decode cX7_walks 133 = .ok (.iload 6, 2) := by decide +kernel
theorem dX7_walks_135 : decode cX7_walks 135 = .ok (.iastore, 1) := by decide +kernel
theorem dX7_walks_136 : decode cX7_walks 136 = .ok (.iinc 5 1, 3) := by decide +kernel
theorem dX7_walks_139 : decode cX7_walks 139 = .ok (.goto (-83), 3) := by decide +kernel
theorem dX7_walks_142 : decode cX7_walks 142 = .ok (.aload_n 0, 1) := by decide +kernel
theorem dX7_walks_143 : decode cX7_walks 143 = .ok (.getfield 43, 3) := by decide +kernel
theorem dX7_walks_146 : decode cX7_walks 146 = .ok (.bipush 22, 2) := by decide +kernel
theorem dX7_walks_148 : decode cX7_walks 148 = .ok (.aload_n 0, 1) := by decide +kernel
theorem dX7_walks_149 : decode cX7_walks 149 = .ok (.getfield 43, 3) := by decide +kernel
theorem dX7_walks_152 : decode cX7_walks 152 = .ok (.bipush 22, 2) := by decide +kernel
theorem dX7_walks_154 : decode cX7_walks 154 = .ok (.iaload, 1) := by decide +kernel
theorem dX7_walks_155 : decode cX7_walks 155 = .ok (.iload 4, 2) := by decide +kernel
theorem dX7_walks_157 : decode cX7_walks 157 = .ok (.iadd, 1) := by decide +kernel
theorem dX7_walks_158 : decode cX7_walks 158 = .ok (.sipush 999, 3) := by decide +kernel
theorem dX7_walks_161 : decode cX7_walks 161 = .ok (.if_icmp .le 9, 3) := by decide +kernel
theorem dX7_walks_164 : decode cX7_walks 164 = .ok (.sipush 999, 3) := by decide +kernel
theorem dX7_walks_167 : decode cX7_walks 167 = .ok (.goto 13, 3) := by decide +kernel
theorem dX7_walks_170 : decode cX7_walks 170 = .ok (.aload_n 0, 1) := by decide +kernel
theorem dX7_walks_171 : decode cX7_walks 171 = .ok (.getfield 43, 3) := by decide +kernel
theorem dX7_walks_174 : decode cX7_walks 174 = .ok (.bipush 22, 2) := by decide +kernel
theorem dX7_walks_176 : decode cX7_walks 176 = .ok (.iaload, 1) := by decide +kernel
theorem dX7_walks_177 : decode cX7_walks 177 = .ok (.iload 4, 2) := by decide +kernel
theorem dX7_walks_179 : decode cX7_walks 179 = .ok (.iadd, 1) := by decide +kernel
theorem dX7_walks_180 : decode cX7_walks 180 = .ok (.iastore, 1) := by decide +kernel
theorem dX7_walks_181 : decode cX7_walks 181 = .ok (.iload 4, 2) := by decide +kernel
theorem dX7_walks_183 : decode cX7_walks 183 = .ok (.ireturn, 1) := by decide +kernel
set_option maxRecDepth 20000 in
theorem ggX7_brings_X7_isKnee : GoodIn wsX7_brings wsX7_isKnee := goodIn_r _ [7, 8, 9, 10, 6, 11, 18, 19, 20, 21, 22, 23, 24, 25, 26, 27, 28, 29, 30, 31, 32, 33, 34, 35, 36, 37, 38, 39, 40, 41, 42, 43, 44, 45, 46, 47, 48, 49, 50, 51, 52] rfl (by decide +kernel)
set_option maxRecDepth 20000 in
theorem gX7_brings_X7_isKnee : GoodIn wsX7_brings (wsV RX7 170 RX7 yX7_isKnee wsX7_isKnee) := goodIn_app (goodIn_of _ (by decide +kernel)) ggX7_brings_X7_isKnee
set_option maxRecDepth 20000 in
theorem ggX7_brings_X7_notes : GoodIn wsX7_brings wsX7_notes := goodIn_r _ [15, 16, 17, 2, 18, 19, 20, 21, 22, 23, 24, 25, 26, 27, 28, 29, 30, 31, 32, 33, 34, 35, 36, 37, 38, 39, 40, 41, 42, 43, 44, 45, 46, 47, 48, 49, 50, 51, 52] rfl (by decide +kernel)
set_option maxRecDepth 20000 in
theorem gX7_brings_X7_notes : GoodIn wsX7_brings (wsV RX7 186 RX7 yX7_notes wsX7_notes) := goodIn_app (goodIn_of _ (by decide +kernel)) ggX7_brings_X7_notes
theorem dX7_brings_0 : decode cX7_brings 0 = .ok (.aload_n 0, 1) := by decide +kernel
theorem dX7_brings_1 : decode cX7_brings 1 = .ok (.iconst 0, 1) := by decide +kernel
theorem dX7_brings_2 : decode cX7_brings 2 = .ok (.putfield 80, 3) := by decide +kernel
theorem dX7_brings_5 : decode cX7_brings 5 = .ok (.aload_n 0, 1) := by decide +kernel
theorem dX7_brings_6 : decode cX7_brings 6 = .ok (.iload_n 1, 1) := by decide +kernel
theorem dX7_brings_7 : decode cX7_brings 7 = .ok (.invokevirtual 170, 3) := by decide +kernel
theorem dX7_brings_10 : decode cX7_brings 10 = .ok (.ifCond .ne 5, 3) := by decide +kernel
theorem dX7_brings_13 : decode cX7_brings 13 = .ok (.iconst (-1), 1) := by decide +kernel
theorem dX7_brings_14 : decode cX7_brings 14 = .ok (.ireturn, 1) := by decide +kernel
theorem dX7_brings_15 : decode cX7_brings 15 = .ok (.aload_n 0, 1) := by decide +kernel
theorem dX7_brings_16 : decode cX7_brings 16 = .ok (.getfield 43, 3) := by decide +kernel
theorem dX7_brings_19 : decode cX7_brings 19 = .ok (.iconst 1, 1) := by decide +kernel
theorem dX7_brings_20 : decode cX7_brings 20 = .ok (.iload_n 1, 1) := by decide +kernel
theorem dX7_brings_21 : decode cX7_brings 21 = .ok (.iadd, 1) := by decide +kernel
theorem dX7_brings_22 : decode cX7_brings 22 = .ok (.iaload, 1) := by decide +kernel
theorem dX7_brings_23 : decode cX7_brings 23 = .ok (.ifCond .ne 6, 3) := by decide +kernel
theorem dX7_brings_26 : decode cX7_brings 26 = .ok (.bipush (-2), 2) := by decide +kernel
theorem dX7_brings_28 : decode cX7_brings 28 = .ok (.ireturn, 1) := by decide +kernel
theorem dX7_brings_29 : decode cX7_brings 29 = .ok (.aload_n 0, 1) := by decide +kernel
theorem dX7_brings_30 : decode cX7_brings 30 = .ok (.invokevirtual 186, 3) := by decide +kernel
theorem dX7_brings_33 : decode cX7_brings 33 = .ok (.aload_n 0, 1) := by decide +kernel
theorem dX7_brings_34 : decode cX7_brings 34 = .ok (.getfield 43, 3) := by decide +kernel
theorem dX7_brings_37 : decode cX7_brings 37 = .ok (.iconst 1, 1) := by decide +kernel
theorem dX7_brings_38 : decode cX7_brings 38 = .ok (.iload_n 1, 1) := by decide +kernel
theorem dX7_brings_39 : decode cX7_brings 39 = .ok (.iadd, 1) := by decide +kernel
theorem dX7_brings_40 : decode cX7_brings 40 = .ok (.iaload, 1) := by decide +kernel
theorem dX7_brings_41 : decode cX7_brings 41 = .ok (.iconst 1, 1) := by decide +kernel
theorem dX7_brings_42 : decode cX7_brings 42 = .ok (.isub, 1) := by decide +kernel
theorem dX7_brings_43 : decode cX7_brings 43 = .ok (.istore_n 2, 1) := by decide +kernel
theorem dX7_brings_44 : decode cX7_brings 44 = .ok (.aload_n 0, 1) := by decide +kernel
theorem dX7_brings_45 : decode cX7_brings 45 = .ok (.getfield 43, 3) := by decide +kernel
theorem dX7_brings_48 : decode cX7_brings 48 = .ok (.iconst 1, 1) := by decide +kernel
theorem dX7_brings_49 : decode cX7_brings 49 = .ok (.iload_n 1, 1) := by decide +kernel
theorem dX7_brings_50 : decode cX7_brings 50 = .ok (.iadd, 1) := by decide +kernel
theorem dX7_brings_51 : decode cX7_brings 51 = .ok (.iconst 0, 1) := by decide +kernel
theorem dX7_brings_52 : decode cX7_brings 52 = .ok (.iastore, 1) := by decide +kernel
theorem dX7_brings_53 : decode cX7_brings 53 = .ok (.iload_n 2, 1) := by decide +kernel
theorem dX7_brings_54 : decode cX7_brings 54 = .ok (.ireturn, 1) := by decide +kernel
set_option maxRecDepth 20000 in
theorem ggX7_pledges_X7_isKnee : GoodIn wsX7_pledges wsX7_isKnee := goodIn_r _ [7, 8, 9, 10, 6, 11, 21, 22, 23, 24, 25, 26, 27, 28, 29, 30, 31, 32, 33, 34, 35, 36, 37, 38, 39, 40, 41, 42, 43, 44, 45, 46, 47, 48, 49, 50, 51, 52, 53, 54, 55] rfl (by decide +kernel)
set_option maxRecDepth 20000 in
theorem gX7_pledges_X7_isKnee : GoodIn wsX7_pledges (wsV RX7 170 RX7 yX7_isKnee wsX7_isKnee) := goodIn_app (goodIn_of _ (by decide +kernel)) ggX7_pledges_X7_isKnee
set_option maxRecDepth 20000 in
theorem ggX7_pledges_X7_in : GoodIn wsX7_pledges wsX7_in := goodIn_r _ [11] rfl (by decide +kernel)
set_option maxRecDepth 20000 in
theorem gX7_pledges_X7_in : GoodIn wsX7_pledges (va_wsS RX7 84 yX7_in wsX7_in) := goodIn_app (goodIn_of _ (by decide +kernel)) ggX7_pledges_X7_in
set_option maxRecDepth 20000 in
theorem ggX7_pledges_X7_notes : GoodIn wsX7_pledges wsX7_notes := goodIn_r _ [15, 16, 17, 2, 21, 22, 23, 24, 25, 26, 27, 28, 29, 30, 31, 32, 33, 34, 35, 36, 37, 38, 39, 40, 41, 42, 43, 44, 45, 46, 47, 48, 49, 50, 51, 52, 53, 54, 55] rfl (by decide +kernel)
set_option maxRecDepth 20000 in
theorem gX7_pledges_X7_notes : GoodIn wsX7_pledges (wsV RX7 186 RX7 yX7_notes wsX7_notes) := goodIn_app (goodIn_of _ (by decide +kernel)) ggX7_pledges_X7_notes
set_option maxRecDepth 20000 in
theorem ggX7_pledges_X7_ones : GoodIn wsX7_pledges wsX7_ones := goodIn_r _ [20] rfl (by decide +kernel)
set_option maxRecDepth 20000 in
theorem gX7_pledges_X7_ones : GoodIn wsX7_pledges (va_wsS RX7 190 yX7_ones wsX7_ones) := goodIn_app (goodIn_of _ (by decide +kernel)) ggX7_pledges_X7_ones
theorem dX7_pledges_0 : decode cX7_pledges 0 = .ok (.aload_n 0, 1) := by decide +kernel
theorem dX7_pledges_1 : decode cX7_pledges 1 = .ok (.iconst 0, 1) := by decide +kernel
theorem dX7_pledges_2 : decode cX7_pledges 2 = .ok (.putfield 80, 3) := by decide +kernel
theorem dX7_pledges_5 : decode cX7_pledges 5 = .ok (.aload_n 0, 1) := by decide +kernel
theorem dX7_pledges_6 : decode cX7_pledges 6 = .ok (.iload_n 1, 1) := by decide +kernel
theorem dX7_pledges_7 : decode cX7_pledges 7 = .ok (.invokevirtual 170, 3) := by decide +kernel
theorem dX7_pledges_10 : decode cX7_pledges 10 = .ok (.ifCond .eq 12, 3) := by decide +kernel
theorem dX7_pledges_13 : decode cX7_pledges 13 = .ok (.iload_n 2, 1) := by decide +kernel
theorem dX7_pledges_14 : decode cX7_pledges 14 = .ok (.iconst 0, 1) := by decide +kernel
theorem dX7_pledges_15 : decode cX7_pledges 15 = .ok (.iconst 1, 1) := by decide +kernel
theorem dX7_pledges_16 : decode cX7_pledges 16 = .ok (.invokestatic 84, 3) := by decide +kernel
theorem dX7_pledges_19 : decode cX7_pledges 19 = .ok (.ifCond .ne 5, 3) := by decide +kernel
theorem dX7_pledges_22 : decode cX7_pledges 22 = .ok (.iconst (-1), 1) := by decide +kernel
theorem dX7_pledges_23 : decode cX7_pledges 23 = .ok (.ireturn, 1) := by decide +kernel
theorem dX7_pledges_24 : decode cX7_pledges 24 = .ok (.aload_n 0, 1) := by decide +kernel
theorem dX7_pledges_25 : decode cX7_pledges 25 = .ok (.getfield 43, 3) := by decide +kernel
theorem dX7_pledges_28 : decode cX7_pledges 28 = .ok (.bipush 10, 2) := by decide +kernel
theorem dX7_pledges_30 : decode cX7_pledges 30 = .ok (.iaload, 1) := by decide +kernel
theorem dX7_pledges_31 : decode cX7_pledges 31 = .ok (.iload_n 1, 1) := by decide +kernel
theorem dX7_pledges_32 : decode cX7_pledges 32 = .ok (.ishr, 1) := by decide +kernel
theorem dX7_pledges_33 : decode cX7_pledges 33 = .ok (.iconst 1, 1) := by decide +kernel
theorem dX7_pledges_34 : decode cX7_pledges 34 = .ok (.iand, 1) := by decide +kernel
theorem dX7_pledges_35 : decode cX7_pledges 35 = .ok (.iload_n 2, 1) := by decide +kernel
theorem dX7_pledges_36 : decode cX7_pledges 36 = .ok (.if_icmp .eq 14, 3) := by decide +kernel
theorem dX7_pledges_39 : decode cX7_pledges 39 = .ok (.aload_n 0, 1) := by decide +kernel
theorem dX7_pledges_40 : decode cX7_pledges 40 = .ok (.getfield 43, 3) := by decide +kernel
theorem dX7_pledges_43 : decode cX7_pledges 43 = .ok (.iconst 1, 1) := by decide +kernel
theorem dX7_pledges_44 : decode cX7_pledges 44 = .ok (.iload_n 1, 1) := by decide +kernel
theorem dX7_pledges_45 : decode cX7_pledges 45 = .ok (.iadd, 1) := by decide +kernel
theorem dX7_pledges_46 : decode cX7_pledges 46 = .ok (.iaload, 1) := by decide +kernel
theorem dX7_pledges_47 : decode cX7_pledges 47 = .ok (.ifCond .le 6, 3) := by decide +kernel
theorem dX7_pledges_50 : decode cX7_pledges 50 = .ok (.bipush (-2), 2) := by decide +kernel
theorem dX7_pledges_52 : decode cX7_pledges 52 = .ok (.ireturn, 1) := by decide +kernel
theorem dX7_pledges_53 : decode cX7_pledges 53 = .ok (.aload_n 0, 1) := by decide +kernel
theorem dX7_pledges_54 : decode cX7_pledges 54 = .ok (.invokevirtual 186, 3) := by decide +kernel
theorem dX7_pledges_57 : decode cX7_pledges 57 = .ok (.aload_n 0, 1) := by decide +kernel
theorem dX7_pledges_58 : decode cX7_pledges 58 = .ok (.getfield 43, 3) := by decide +kernel
theorem dX7_pledges_61 : decode cX7_pledges 61 = .ok (.bipush 10, 2) := by decide +kernel
theorem dX7_pledges_63 : decode cX7_pledges 63 = .ok (.aload_n 0, 1) := by decide +kernel
theorem dX7_pledges_64 : decode cX7_pledges 64 = .ok (.getfield 43, 3) := by decide +kernel
theorem dX7_pledges_67 : decode cX7_pledges 67 = .ok (.bipush 10, 2) := by decide +kernel
theorem dX7_pledges_69 : decode cX7_pledges 69 = .ok (.iaload, 1) := by decide +kernel
theorem dX7_pledges_70 : decode cX7_pledges 70 = .ok (.iconst 1, 1) := by decide +kernel
theorem dX7_pledges_71 : decode cX7_pledges 71 = .ok (.iload_n 1, 1) := by decide +kernel
theorem dX7_pledges_72 : decode cX7_pledges 72 = .ok (.ishl, 1) := by decide +kernel
theorem dX7_pledges_73 : decode cX7_pledges 73 = .ok (.iconst (-1), 1) := by decide +kernel
theorem dX7_pledges_74 : decode cX7_pledges 74 = .ok (.ixor, 1) := by decide +kernel
theorem dX7_pledges_75 : decode cX7_pledges 75 = .ok (.iand, 1) := by decide +kernel
theorem dX7_pledges_76 : decode cX7_pledges 76 = .ok (.iload_n 2, 1) := by decide +kernel
theorem dX7_pledges_77 : decode cX7_pledges 77 = .ok (.iload_n 1, 1) := by decide +kernel
theorem dX7_pledges_78 : decode cX7_pledges 78 = .ok (.ishl, 1) := by decide +kernel
theorem dX7_pledges_79 : decode cX7_pledges 79 = .ok (.ior, 1) := by decide +kernel
theorem dX7_pledges_80 : decode cX7_pledges 80 = .ok (.iastore, 1) := by decide +kernel
theorem dX7_pledges_81 : decode cX7_pledges 81 = .ok (.aload_n 0, 1) := by decide +kernel
theorem dX7_pledges_82 : decode cX7_pledges 82 = .ok (.getfield 43, 3) := by decide +kernel
theorem dX7_pledges_85 : decode cX7_pledges 85 = .ok (.bipush 10, 2) := by decide +kernel
theorem dX7_pledges_87 : decode cX7_pledges 87 = .ok (.iaload, 1) := by decide +kernel
theorem dX7_pledges_88 : decode cX7_pledges 88 = .ok (.invokestatic 190, 3) := by decide +kernel
theorem dX7_pledges_91 : decode cX7_pledges 91 = .ok (.ireturn, 1) := by decide +kernel
set_option maxRecDepth 20000 in
theorem ggX7_bell_X7_notes : GoodIn wsX7_bell wsX7_notes := goodIn_r _ [7, 8, 9, 2, 14, 15, 16, 17, 18, 19, 20, 21, 22, 23, 24, 25, 26, 27, 28, 29, 30, 31, 32, 33, 34, 35, 36, 37, 38, 39, 40, 41, 42, 43, 44, 45, 46, 47, 48] rfl (by decide +kernel)
set_option maxRecDepth 20000 in
theorem gX7_bell_X7_notes : GoodIn wsX7_bell (wsV RX7 186 RX7 yX7_notes wsX7_notes) := goodIn_app (goodIn_of _ (by decide +kernel)) ggX7_bell_X7_notes
set_option maxRecDepth 20000 in
theorem ggX7_bell_X7_lentMany : GoodIn wsX7_bell wsX7_lentMany := goodIn_r _ [13, 2, 14, 15, 16, 17, 18, 19, 20, 21, 22, 23, 24, 25, 26, 27, 28, 29, 30, 31, 32, 33, 34, 35, 36, 37, 38, 39, 40, 41, 42, 43, 44, 45, 46, 47, 48] rfl (by decide +kernel)
set_option maxRecDepth 20000 in
theorem gX7_bell_X7_lentMany : GoodIn wsX7_bell (wsV RX7 193 RX7 yX7_lentMany wsX7_lentMany) := goodIn_app (goodIn_of _ (by decide +kernel)) ggX7_bell_X7_lentMany
theorem dX7_bell_0 : decode cX7_bell 0 = .ok (.aload_n 0, 1) := by decide +kernel
theorem dX7_bell_1 : decode cX7_bell 1 = .ok (.iconst 0, 1) := by decide +kernel
theorem dX7_bell_2 : decode cX7_bell 2 = .ok (.putfield 80, 3) := by decide +kernel
theorem dX7_bell_5 : decode cX7_bell 5 = .ok (.aload_n 0, 1) := by decide +kernel
theorem dX7_bell_6 : decode cX7_bell 6 = .ok (.getfield 43, 3) := by decide +kernel
theorem dX7_bell_9 : decode cX7_bell 9 = .ok (.iconst 0, 1) := by decide +kernel
theorem dX7_bell_10 : decode cX7_bell 10 = .ok (.iaload, 1) := by decide +kernel
theorem dX7_bell_11 : decode cX7_bell 11 = .ok (.sipush 999, 3) := by decide +kernel
theorem dX7_bell_14 : decode cX7_bell 14 = .ok (.if_icmp .ne 6, 3) := by decide +kernel
theorem dX7_bell_17 : decode cX7_bell 17 = .ok (.bipush (-2), 2) := by decide +kernel
theorem dX7_bell_19 : decode cX7_bell 19 = .ok (.ireturn, 1) := by decide +kernel
theorem dX7_bell_20 : decode cX7_bell 20 = .ok (.aload_n 0, 1) := by decide +kernel
theorem dX7_bell_21 : decode cX7_bell 21 = .ok (.invokevirtual 186, 3) := by decide +kernel
theorem dX7_bell_24 : decode cX7_bell 24 = .ok (.aload_n 0, 1) := by decide +kernel
theorem dX7_bell_25 : decode cX7_bell 25 = .ok (.invokevirtual 193, 3) := by decide +kernel
theorem dX7_bell_28 : decode cX7_bell 28 = .ok (.istore_n 1, 1) := by decide +kernel
theorem dX7_bell_29 : decode cX7_bell 29 = .ok (.aload_n 0, 1) := by decide +kernel
theorem dX7_bell_30 : decode cX7_bell 30 = .ok (.getfield 43, 3) := by decide +kernel
theorem dX7_bell_33 : decode cX7_bell 33 = .ok (.bipush 21, 2) := by decide +kernel
theorem dX7_bell_35 : decode cX7_bell 35 = .ok (.aload_n 0, 1) := by decide +kernel
theorem dX7_bell_36 : decode cX7_bell 36 = .ok (.getfield 43, 3) := by decide +kernel
theorem dX7_bell_39 : decode cX7_bell 39 = .ok (.bipush 21, 2) := by decide +kernel
theorem dX7_bell_41 : decode cX7_bell 41 = .ok (.iaload, 1) := by decide +kernel
theorem dX7_bell_42 : decode cX7_bell 42 = .ok (.iload_n 1, 1) := by decide +kernel
theorem dX7_bell_43 : decode cX7_bell 43 = .ok (.iadd, 1) := by decide +kernel
theorem dX7_bell_44 : decode cX7_bell 44 = .ok (.sipush 9999, 3) := by decide +kernel
theorem dX7_bell_47 : decode cX7_bell 47 = .ok (.if_icmp .le 9, 3) := by decide +kernel
theorem dX7_bell_50 : decode cX7_bell 50 = .ok (.sipush 9999, 3) := by decide +kernel
theorem dX7_bell_53 : decode cX7_bell 53 = .ok (.goto 12, 3) := by decide +kernel
theorem dX7_bell_56 : decode cX7_bell 56 = .ok (.aload_n 0, 1) := by decide +kernel
theorem dX7_bell_57 : decode cX7_bell 57 = .ok (.getfield 43, 3) := by decide +kernel
theorem dX7_bell_60 : decode cX7_bell 60 = .ok (.bipush 21, 2) := by decide +kernel
theorem dX7_bell_62 : decode cX7_bell 62 = .ok (.iaload, 1) := by decide +kernel
theorem dX7_bell_63 : decode cX7_bell 63 = .ok (.iload_n 1, 1) := by decide +kernel
theorem dX7_bell_64 : decode cX7_bell 64 = .ok (.iadd, 1) := by decide +kernel
theorem dX7_bell_65 : decode cX7_bell 65 = .ok (.iastore, 1) := by decide +kernel
theorem dX7_bell_66 : decode cX7_bell 66 = .ok (.aload_n 0, 1) := by decide +kernel
theorem dX7_bell_67 : decode cX7_bell 67 = .ok (.getfield 43, 3) := by decide +kernel
theorem dX7_bell_70 : decode cX7_bell 70 = .ok (.iconst 0, 1) := by decide +kernel
theorem dX7_bell_71 : decode cX7_bell 71 = .ok (.dup2, 1) := by decide +kernel
theorem dX7_bell_72 : decode cX7_bell 72 = .ok (.iaload, 1) := by decide +kernel
theorem dX7_bell_73 : decode cX7_bell 73 = .ok (.iconst 1, 1) := by decide +kernel
theorem dX7_bell_74 : decode cX7_bell 74 = .ok (.iadd, 1) := by decide +kernel
theorem dX7_bell_75 : decode cX7_bell 75 = .ok (.iastore, 1) := by decide +kernel
theorem dX7_bell_76 : decode cX7_bell 76 = .ok (.iload_n 1, 1) := by decide +kernel
theorem dX7_bell_77 : decode cX7_bell 77 = .ok (.ireturn, 1) := by decide +kernel
theorem dX7_undo_0 : decode cX7_undo 0 = .ok (.aload_n 0, 1) := by decide +kernel
theorem dX7_undo_1 : decode cX7_undo 1 = .ok (.iconst 0, 1) := by decide +kernel
theorem dX7_undo_2 : decode cX7_undo 2 = .ok (.putfield 80, 3) := by decide +kernel
theorem dX7_undo_5 : decode cX7_undo 5 = .ok (.aload_n 0, 1) := by decide +kernel
theorem dX7_undo_6 : decode cX7_undo 6 = .ok (.getfield 141, 3) := by decide +kernel
theorem dX7_undo_9 : decode cX7_undo 9 = .ok (.ifCond .ne 6, 3) := by decide +kernel
theorem dX7_undo_12 : decode cX7_undo 12 = .ok (.bipush (-2), 2) := by decide +kernel
theorem dX7_undo_14 : decode cX7_undo 14 = .ok (.ireturn, 1) := by decide +kernel
theorem dX7_undo_15 : decode cX7_undo 15 = .ok (.aload_n 0, 1) := by decide +kernel
theorem dX7_undo_16 : decode cX7_undo 16 = .ok (.dup, 1) := by decide +kernel
theorem dX7_undo_17 : decode cX7_undo 17 = .ok (.getfield 141, 3) := by decide +kernel
theorem dX7_undo_20 : decode cX7_undo 20 = .ok (.iconst 1, 1) := by decide +kernel
theorem dX7_undo_21 : decode cX7_undo 21 = .ok (.isub, 1) := by decide +kernel
theorem dX7_undo_22 : decode cX7_undo 22 = .ok (.putfield 141, 3) := by decide +kernel
theorem dX7_undo_25 : decode cX7_undo 25 = .ok (.iconst 0, 1) := by decide +kernel
theorem dX7_undo_26 : decode cX7_undo 26 = .ok (.istore_n 1, 1) := by decide +kernel
theorem dX7_undo_27 : decode cX7_undo 27 = .ok (.iload_n 1, 1) := by decide +kernel
theorem dX7_undo_28 : decode cX7_undo 28 = .ok (.bipush 23, 2) := by decide +kernel
theorem dX7_undo_30 : decode cX7_undo 30 = .ok (.if_icmp .ge 29, 3) := by decide +kernel
theorem dX7_undo_33 : decode cX7_undo 33 = .ok (.aload_n 0, 1) := by decide +kernel
theorem dX7_undo_34 : decode cX7_undo 34 = .ok (.getfield 43, 3) := by decide +kernel
theorem dX7_undo_37 : decode cX7_undo 37 = .ok (.iload_n 1, 1) := by decide +kernel
theorem dX7_undo_38 : decode cX7_undo 38 = .ok (.aload_n 0, 1) := by decide +kernel
theorem dX7_undo_39 : decode cX7_undo 39 = .ok (.getfield 53, 3) := by decide +kernel
theorem dX7_undo_42 : decode cX7_undo 42 = .ok (.bipush 23, 2) := by decide +kernel
theorem dX7_undo_44 : decode cX7_undo 44 = .ok (.aload_n 0, 1) := by decide +kernel
theorem dX7_undo_45 : decode cX7_undo 45 = .ok (.getfield 141, 3) := by decide +kernel
theorem dX7_undo_48 : decode cX7_undo 48 = .ok (.imul, 1) := by decide +kernel
theorem dX7_undo_49 : decode cX7_undo 49 = .ok (.iload_n 1, 1) := by decide +kernel
theorem dX7_undo_50 : decode cX7_undo 50 = .ok (.iadd, 1) := by decide +kernel
theorem dX7_undo_51 : decode cX7_undo 51 = .ok (.iaload, 1) := by decide +kernel
theorem dX7_undo_52 : decode cX7_undo 52 = .ok (.iastore, 1) := by decide +kernel
theorem dX7_undo_53 : decode cX7_undo 53 = .ok (.iinc 1 1, 3) := by decide +kernel
theorem dX7_undo_56 : decode cX7_undo 56 = .ok (.goto (-29), 3) := by decide +kernel
theorem dX7_undo_59 : decode cX7_undo 59 = .ok (.aload_n 0, 1) := by decide +kernel
theorem dX7_undo_60 : decode cX7_undo 60 = .ok (.getfield 141, 3) := by decide +kernel
theorem dX7_undo_63 : decode cX7_undo 63 = .ok (.ireturn, 1) := by decide +kernel
set_option maxRecDepth 20000 in
theorem ggX7_mayGo_X7_wants : GoodIn wsX7_mayGo wsX7_wants := goodIn_r _ [9, 10, 19, 20, 21, 22, 23, 24, 25, 26, 27, 28, 29, 30, 31, 32, 33, 34, 35, 36, 37, 38, 39, 40, 41, 42, 43, 44, 45, 46, 47, 48, 49, 50, 51, 52, 53] rfl (by decide +kernel)
set_option maxRecDepth 20000 in
theorem gX7_mayGo_X7_wants : GoodIn wsX7_mayGo (wsV RX7 160 RX7 yX7_wants wsX7_wants) := goodIn_app (goodIn_of _ (by decide +kernel)) ggX7_mayGo_X7_wants
set_option maxRecDepth 20000 in
theorem ggX7_mayGo_X7_isFreeAtHome : GoodIn wsX7_mayGo wsX7_isFreeAtHome := goodIn_r _ [14, 2, 15, 16, 17, 8, 18, 19, 20, 21, 22, 23, 24, 25, 26, 27, 28, 29, 30, 31, 32, 33, 34, 35, 36, 37, 38, 39, 40, 41, 42, 43, 44, 45, 46, 47, 48, 49, 50, 51, 52, 53] rfl (by decide +kernel)
set_option maxRecDepth 20000 in
theorem gX7_mayGo_X7_isFreeAtHome : GoodIn wsX7_mayGo (wsV RX7 179 RX7 yX7_isFreeAtHome wsX7_isFreeAtHome) := goodIn_app (goodIn_of _ (by decide +kernel)) ggX7_mayGo_X7_isFreeAtHome
theorem dX7_mayGo_0 : decode cX7_mayGo 0 = .ok (.aload_n 0, 1) := by decide +kernel
theorem dX7_mayGo_1 : decode cX7_mayGo 1 = .ok (.iload_n 2, 1) := by decide +kernel
theorem dX7_mayGo_2 : decode cX7_mayGo 2 = .ok (.aload_n 0, 1) := by decide +kernel
theorem dX7_mayGo_3 : decode cX7_mayGo 3 = .ok (.getfield 16, 3) := by decide +kernel
theorem dX7_mayGo_6 : decode cX7_mayGo 6 = .ok (.iload_n 1, 1) := by decide +kernel
theorem dX7_mayGo_7 : decode cX7_mayGo 7 = .ok (.iaload, 1) := by decide +kernel
theorem dX7_mayGo_8 : decode cX7_mayGo 8 = .ok (.invokevirtual 160, 3) := by decide +kernel
theorem dX7_mayGo_11 : decode cX7_mayGo 11 = .ok (.ifCond .eq 42, 3) := by decide +kernel
theorem dX7_mayGo_14 : decode cX7_mayGo 14 = .ok (.aload_n 0, 1) := by decide +kernel
theorem dX7_mayGo_15 : decode cX7_mayGo 15 = .ok (.iload_n 1, 1) := by decide +kernel
theorem dX7_mayGo_16 : decode cX7_mayGo 16 = .ok (.invokevirtual 179, 3) := by decide +kernel
theorem dX7_mayGo_19 : decode cX7_mayGo 19 = .ok (.ifCond .eq 34, 3) := by decide +kernel
theorem dX7_mayGo_22 : decode cX7_mayGo 22 = .ok (.aload_n 0, 1) := by decide +kernel
theorem dX7_mayGo_23 : decode cX7_mayGo 23 = .ok (.getfield 43, 3) := by decide +kernel
theorem dX7_mayGo_26 : decode cX7_mayGo 26 = .ok (.bipush 11, 2) := by decide +kernel
theorem dX7_mayGo_28 : decode cX7_mayGo 28 = .ok (.iload_n 1, 1) := by decide +kernel
theorem dX7_mayGo_29 : decode cX7_mayGo 29 = .ok (.iadd, 1) := by decide +kernel
theorem dX7_mayGo_30 : decode cX7_mayGo 30 = .ok (.iaload, 1) := by decide +kernel
theorem dX7_mayGo_31 : decode cX7_mayGo 31 = .ok (.aload_n 0, 1) := by decide +kernel
theorem dX7_mayGo_32 : decode cX7_mayGo 32 = .ok (.getfield 28, 3) := by decide +kernel
theorem dX7_mayGo_35 : decode cX7_mayGo 35 = .ok (.iload_n 2, 1) := by decide +kernel
theorem dX7_mayGo_36 : decode cX7_mayGo 36 = .ok (.iaload, 1) := by decide +kernel
theorem dX7_mayGo_37 : decode cX7_mayGo 37 = .ok (.iconst 2, 1) := by decide +kernel
theorem dX7_mayGo_38 : decode cX7_mayGo 38 = .ok (.aload_n 0, 1) := by decide +kernel
theorem dX7_mayGo_39 : decode cX7_mayGo 39 = .ok (.getfield 31, 3) := by decide +kernel
theorem dX7_mayGo_42 : decode cX7_mayGo 42 = .ok (.iload_n 2, 1) := by decide +kernel
theorem dX7_mayGo_43 : decode cX7_mayGo 43 = .ok (.iaload, 1) := by decide +kernel
theorem dX7_mayGo_44 : decode cX7_mayGo 44 = .ok (.imul, 1) := by decide +kernel
theorem dX7_mayGo_45 : decode cX7_mayGo 45 = .ok (.iadd, 1) := by decide +kernel
theorem dX7_mayGo_46 : decode cX7_mayGo 46 = .ok (.if_icmp .lt 7, 3) := by decide +kernel
theorem dX7_mayGo_49 : decode cX7_mayGo 49 = .ok (.iconst 1, 1) := by decide +kernel
theorem dX7_mayGo_50 : decode cX7_mayGo 50 = .ok (.goto 4, 3) := by decide +kernel
theorem dX7_mayGo_53 : decode cX7_mayGo 53 = .ok (.iconst 0, 1) := by decide +kernel
theorem dX7_mayGo_54 : decode cX7_mayGo 54 = .ok (.ireturn, 1) := by decide +kernel
set_option maxRecDepth 20000 in
theorem ggX7_canGo_X7_isKnee : GoodIn wsX7_canGo wsX7_isKnee := goodIn_r _ [6, 7, 8, 9, 5, 10, 36, 37, 38, 39, 40, 41, 42, 43, 44, 45, 46, 47, 48, 49, 50, 51, 52, 53, 54, 55, 56, 57, 58, 59, 60, 61, 62, 63, 64, 65, 66, 67, 68, 69, 70] rfl (by decide +kernel)
set_option maxRecDepth 20000 in
theorem gX7_canGo_X7_isKnee : GoodIn wsX7_canGo (wsV RX7 170 RX7 yX7_isKnee wsX7_isKnee) := goodIn_app (goodIn_of _ (by decide +kernel)) ggX7_canGo_X7_isKnee
set_option maxRecDepth 20000 in
theorem ggX7_canGo_X7_isPerson : GoodIn wsX7_canGo wsX7_isPerson := goodIn_r _ [14, 7, 8, 9, 5, 10, 36, 37, 38, 39, 40, 41, 42, 43, 44, 45, 46, 47, 48, 49, 50, 51, 52, 53, 54, 55, 56, 57, 58, 59, 60, 61, 62, 63, 64, 65, 66, 67, 68, 69, 70] rfl (by decide +kernel)
set_option maxRecDepth 20000 in
theorem gX7_canGo_X7_isPerson : GoodIn wsX7_canGo (wsV RX7 173 RX7 yX7_isPerson wsX7_isPerson) := goodIn_app (goodIn_of _ (by decide +kernel)) ggX7_canGo_X7_isPerson
set_option maxRecDepth 20000 in
theorem ggX7_canGo_X7_mayGo : GoodIn wsX7_canGo wsX7_mayGo := goodIn_r _ [18, 19, 20, 21, 22, 23, 24, 25, 5, 26, 27, 28, 29, 30, 31, 32, 33, 34, 35, 36, 37, 38, 39, 40, 41, 42, 43, 44, 45, 46, 47, 48, 49, 50, 51, 52, 53, 54, 55, 56, 57, 58, 59, 60, 61, 62, 63, 64, 65, 66, 67, 68, 69, 70] rfl (by decide +kernel)
set_option maxRecDepth 20000 in
theorem gX7_canGo_X7_mayGo : GoodIn wsX7_canGo (wsV RX7 196 RX7 yX7_mayGo wsX7_mayGo) := goodIn_app (goodIn_of _ (by decide +kernel)) ggX7_canGo_X7_mayGo
theorem dX7_canGo_0 : decode cX7_canGo 0 = .ok (.aload_n 0, 1) := by decide +kernel
theorem dX7_canGo_1 : decode cX7_canGo 1 = .ok (.iconst 0, 1) := by decide +kernel
theorem dX7_canGo_2 : decode cX7_canGo 2 = .ok (.putfield 80, 3) := by decide +kernel
theorem dX7_canGo_5 : decode cX7_canGo 5 = .ok (.aload_n 0, 1) := by decide +kernel
theorem dX7_canGo_6 : decode cX7_canGo 6 = .ok (.iload_n 1, 1) := by decide +kernel
theorem dX7_canGo_7 : decode cX7_canGo 7 = .ok (.invokevirtual 170, 3) := by decide +kernel
theorem dX7_canGo_10 : decode cX7_canGo 10 = .ok (.ifCond .eq 11, 3) := by decide +kernel
theorem dX7_canGo_13 : decode cX7_canGo 13 = .ok (.aload_n 0, 1) := by decide +kernel
theorem dX7_canGo_14 : decode cX7_canGo 14 = .ok (.iload_n 2, 1) := by decide +kernel
theorem dX7_canGo_15 : decode cX7_canGo 15 = .ok (.invokevirtual 173, 3) := by decide +kernel
theorem dX7_canGo_18 : decode cX7_canGo 18 = .ok (.ifCond .ne 5, 3) := by decide +kernel
theorem dX7_canGo_21 : decode cX7_canGo 21 = .ok (.iconst (-1), 1) := by decide +kernel
theorem dX7_canGo_22 : decode cX7_canGo 22 = .ok (.ireturn, 1) := by decide +kernel
theorem dX7_canGo_23 : decode cX7_canGo 23 = .ok (.aload_n 0, 1) := by decide +kernel
theorem dX7_canGo_24 : decode cX7_canGo 24 = .ok (.iload_n 1, 1) := by decide +kernel
theorem dX7_canGo_25 : decode cX7_canGo 25 = .ok (.iload_n 2, 1) := by decide +kernel
theorem dX7_canGo_26 : decode cX7_canGo 26 = .ok (.invokevirtual 196, 3) := by decide +kernel
theorem dX7_canGo_29 : decode cX7_canGo 29 = .ok (.ifCond .eq 7, 3) := by decide +kernel
theorem dX7_canGo_32 : decode cX7_canGo 32 = .ok (.iconst 1, 1) := by decide +kernel
theorem dX7_canGo_33 : decode cX7_canGo 33 = .ok (.goto 4, 3) := by decide +kernel
theorem dX7_canGo_36 : decode cX7_canGo 36 = .ok (.iconst 0, 1) := by decide +kernel
theorem dX7_canGo_37 : decode cX7_canGo 37 = .ok (.ireturn, 1) := by decide +kernel
set_option maxRecDepth 20000 in
theorem ggX7_fits_X7_wants : GoodIn wsX7_fits wsX7_wants := goodIn_r _ [6, 7, 23, 24, 25, 26, 27, 28, 29, 30, 31, 32, 33, 34, 35, 36, 37, 38, 39, 40, 41, 42, 43, 44, 45, 46, 47, 48, 49, 50, 51, 52, 53, 54, 55, 56, 57] rfl (by decide +kernel)
set_option maxRecDepth 20000 in
theorem gX7_fits_X7_wants : GoodIn wsX7_fits (wsV RX7 160 RX7 yX7_wants wsX7_wants) := goodIn_app (goodIn_of _ (by decide +kernel)) ggX7_fits_X7_wants
set_option maxRecDepth 20000 in
theorem ggX7_fits_X7_mayGo : GoodIn wsX7_fits wsX7_mayGo := goodIn_r _ [11, 1, 12, 13, 14, 2, 3, 4, 5, 6, 7, 15, 16, 17, 18, 19, 20, 21, 22, 23, 24, 25, 26, 27, 28, 29, 30, 31, 32, 33, 34, 35, 36, 37, 38, 39, 40, 41, 42, 43, 44, 45, 46, 47, 48, 49, 50, 51, 52, 53, 54, 55, 56, 57] rfl (by decide +kernel)
set_option maxRecDepth 20000 in
theorem gX7_fits_X7_mayGo : GoodIn wsX7_fits (wsV RX7 196 RX7 yX7_mayGo wsX7_mayGo) := goodIn_app (goodIn_of _ (by decide +kernel)) ggX7_fits_X7_mayGo
theorem dX7_fits_0 : decode cX7_fits 0 = .ok (.iload_n 3, 1) := by decide +kernel
theorem dX7_fits_1 : decode cX7_fits 1 = .ok (.ifCond .ne 20, 3) := by decide +kernel
theorem dX7_fits_4 : decode cX7_fits 4 = .ok (.aload_n 0, 1) := by decide +kernel
theorem dX7_fits_5 : decode cX7_fits 5 = .ok (.iload_n 1, 1) := by decide +kernel
theorem dX7_fits_6 : decode cX7_fits 6 = .ok (.iload_n 2, 1) := by decide +kernel
theorem dX7_fits_7 : decode cX7_fits 7 = .ok (.invokevirtual 160, 3) := by decide +kernel
theorem dX7_fits_10 : decode cX7_fits 10 = .ok (.ifCond .ne 7, 3) := by decide +kernel
theorem dX7_fits_13 : decode cX7_fits 13 = .ok (.iconst 1, 1) := by decide +kernel
theorem dX7_fits_14 : decode cX7_fits 14 = .ok (.goto 46, 3) := by decide +kernel
theorem dX7_fits_17 : decode cX7_fits 17 = .ok (.iconst 0, 1) := by decide +kernel
theorem dX7_fits_18 : decode cX7_fits 18 = .ok (.goto 42, 3) := by decide +kernel
theorem dX7_fits_21 : decode cX7_fits 21 = .ok (.aload_n 0, 1) := by decide +kernel
theorem dX7_fits_22 : decode cX7_fits 22 = .ok (.getfield 16, 3) := by decide +kernel
theorem dX7_fits_25 : decode cX7_fits 25 = .ok (.iload_n 3, 1) := by decide +kernel
theorem dX7_fits_26 : decode cX7_fits 26 = .ok (.iconst 1, 1) := by decide +kernel
theorem dX7_fits_27 : decode cX7_fits 27 = .ok (.isub, 1) := by decide +kernel
theorem dX7_fits_28 : decode cX7_fits 28 = .ok (.iaload, 1) := by decide +kernel
theorem dX7_fits_29 : decode cX7_fits 29 = .ok (.iload_n 2, 1) := by decide +kernel
theorem dX7_fits_30 : decode cX7_fits 30 = .ok (.if_icmp .ne 29, 3) := by decide +kernel
theorem dX7_fits_33 : decode cX7_fits 33 = .ok (.aload_n 0, 1) := by decide +kernel
theorem dX7_fits_34 : decode cX7_fits 34 = .ok (.iload_n 3, 1) := by decide +kernel
theorem dX7_fits_35 : decode cX7_fits 35 = .ok (.iconst 1, 1) := by decide +kernel
theorem dX7_fits_36 : decode cX7_fits 36 = .ok (.isub, 1) := by decide +kernel
theorem dX7_fits_37 : decode cX7_fits 37 = .ok (.iload_n 1, 1) := by decide +kernel
theorem dX7_fits_38 : decode cX7_fits 38 = .ok (.invokevirtual 196, 3) := by decide +kernel
theorem dX7_fits_41 : decode cX7_fits 41 = .ok (.ifCond .eq 18, 3) := by decide +kernel
theorem dX7_fits_44 : decode cX7_fits 44 = .ok (.iload 4, 2) := by decide +kernel
theorem dX7_fits_46 : decode cX7_fits 46 = .ok (.iload_n 3, 1) := by decide +kernel
theorem dX7_fits_47 : decode cX7_fits 47 = .ok (.iconst 1, 1) := by decide +kernel
theorem dX7_fits_48 : decode cX7_fits 48 = .ok (.isub, 1) := by decide +kernel
theorem dX7_fits_49 : decode cX7_fits 49 = .ok (.ishr, 1) := by decide +kernel
theorem dX7_fits_50 : decode cX7_fits 50 = .ok (.iconst 1, 1) := by decide +kernel
theorem dX7_fits_51 : decode cX7_fits 51 = .ok (.iand, 1) := by decide +kernel
theorem dX7_fits_52 : decode cX7_fits 52 = .ok (.ifCond .ne 7, 3) := by decide +kernel
theorem dX7_fits_55 : decode cX7_fits 55 = .ok (.iconst 1, 1) := by decide +kernel
theorem dX7_fits_56 : decode cX7_fits 56 = .ok (.goto 4, 3) := by decide +kernel
theorem dX7_fits_59 : decode cX7_fits 59 = .ok (.iconst 0, 1) := by decide +kernel
theorem dX7_fits_60 : decode cX7_fits 60 = .ok (.ireturn, 1) := by decide +kernel
theorem dX7_bitOf_0 : decode cX7_bitOf 0 = .ok (.iload_n 0, 1) := by decide +kernel
theorem dX7_bitOf_1 : decode cX7_bitOf 1 = .ok (.ifCond .ne 7, 3) := by decide +kernel
theorem dX7_bitOf_4 : decode cX7_bitOf 4 = .ok (.iconst 0, 1) := by decide +kernel
theorem dX7_bitOf_5 : decode cX7_bitOf 5 = .ok (.goto 8, 3) := by decide +kernel
theorem dX7_bitOf_8 : decode cX7_bitOf 8 = .ok (.iconst 1, 1) := by decide +kernel
theorem dX7_bitOf_9 : decode cX7_bitOf 9 = .ok (.iload_n 0, 1) := by decide +kernel
theorem dX7_bitOf_10 : decode cX7_bitOf 10 = .ok (.iconst 1, 1) := by decide +kernel
theorem dX7_bitOf_11 : decode cX7_bitOf 11 = .ok (.isub, 1) := by decide +kernel
theorem dX7_bitOf_12 : decode cX7_bitOf 12 = .ok (.ishl, 1) := by decide +kernel
theorem dX7_bitOf_13 : decode cX7_bitOf 13 = .ok (.ireturn, 1) := by decide +kernel
theorem dX7_oilOf_0 : decode cX7_oilOf 0 = .ok (.iload_n 1, 1) := by decide +kernel
theorem dX7_oilOf_1 : decode cX7_oilOf 1 = .ok (.ifCond .ne 7, 3) := by decide +kernel
theorem dX7_oilOf_4 : decode cX7_oilOf 4 = .ok (.iconst 0, 1) := by decide +kernel
theorem dX7_oilOf_5 : decode cX7_oilOf 5 = .ok (.goto 16, 3) := by decide +kernel
theorem dX7_oilOf_8 : decode cX7_oilOf 8 = .ok (.aload_n 0, 1) := by decide +kernel
theorem dX7_oilOf_9 : decode cX7_oilOf 9 = .ok (.getfield 37, 3) := by decide +kernel
theorem dX7_oilOf_12 : decode cX7_oilOf 12 = .ok (.aload_n 0, 1) := by decide +kernel
theorem dX7_oilOf_13 : decode cX7_oilOf 13 = .ok (.getfield 19, 3) := by decide +kernel
theorem dX7_oilOf_16 : decode cX7_oilOf 16 = .ok (.iload_n 1, 1) := by decide +kernel
theorem dX7_oilOf_17 : decode cX7_oilOf 17 = .ok (.iconst 1, 1) := by decide +kernel
theorem dX7_oilOf_18 : decode cX7_oilOf 18 = .ok (.isub, 1) := by decide +kernel
theorem dX7_oilOf_19 : decode cX7_oilOf 19 = .ok (.iaload, 1) := by decide +kernel
theorem dX7_oilOf_20 : decode cX7_oilOf 20 = .ok (.iaload, 1) := by decide +kernel
theorem dX7_oilOf_21 : decode cX7_oilOf 21 = .ok (.ireturn, 1) := by decide +kernel
set_option maxRecDepth 20000 in
theorem ggX7_leastFrom_X7_fits : GoodIn wsX7_leastFrom wsX7_fits := goodIn_r _ [11, 12, 13, 14, 15, 10, 16, 17, 18, 19, 20, 21, 22, 23, 24, 25, 26, 27, 28, 29, 30, 31, 32, 46, 47, 48, 49, 50, 51, 52, 53, 54, 55, 56, 57, 58, 59, 60, 61, 62, 63, 64, 65, 66, 67, 68, 69, 70, 71, 72, 73, 74, 75, 76, 77, 78, 79, 80] rfl (by decide +kernel)
set_option maxRecDepth 20000 in
theorem gX7_leastFrom_X7_fits : GoodIn wsX7_leastFrom (wsV RX7 200 RX7 yX7_fits wsX7_fits) := goodIn_app (goodIn_of _ (by decide +kernel)) ggX7_leastFrom_X7_fits
set_option maxRecDepth 20000 in
theorem ggX7_leastFrom_X7_speak : GoodIn wsX7_leastFrom wsX7_speak := goodIn_r _ [36, 37, 46, 47, 48, 49, 50, 51, 52, 53, 54, 55, 56, 57, 58, 59, 60, 61, 62, 63, 64, 65, 66, 67, 68, 69, 70, 71, 72, 73, 74, 75, 76, 77, 78, 79, 80] rfl (by decide +kernel)
set_option maxRecDepth 20000 in
theorem gX7_leastFrom_X7_speak : GoodIn wsX7_leastFrom (wsV RX7 156 RX7 yX7_speak wsX7_speak) := goodIn_app (goodIn_of _ (by decide +kernel)) ggX7_leastFrom_X7_speak
set_option maxRecDepth 20000 in
theorem ggX7_leastFrom_X7_oilOf : GoodIn wsX7_leastFrom wsX7_oilOf := goodIn_r _ [41, 42, 4, 46, 47, 48, 49, 50, 51, 52, 53, 54, 55, 56, 57, 58, 59, 60, 61, 62, 63, 64, 65, 66, 67, 68, 69, 70, 71, 72, 73, 74, 75, 76, 77, 78, 79, 80] rfl (by decide +kernel)
set_option maxRecDepth 20000 in
theorem gX7_leastFrom_X7_oilOf : GoodIn wsX7_leastFrom (wsV RX7 204 RX7 yX7_oilOf wsX7_oilOf) := goodIn_app (goodIn_of _ (by decide +kernel)) ggX7_leastFrom_X7_oilOf
set_option maxRecDepth 20000 in
theorem ggX7_leastFrom_X7_bitOf : GoodIn wsX7_leastFrom wsX7_bitOf := goodIn_r _ [45] rfl (by decide +kernel)
set_option maxRecDepth 20000 in
theorem gX7_leastFrom_X7_bitOf : GoodIn wsX7_leastFrom (va_wsS RX7 207 yX7_bitOf wsX7_bitOf) := goodIn_app (goodIn_of _ (by decide +kernel)) ggX7_leastFrom_X7_bitOf
theorem dX7_leastFrom_0 : decode cX7_leastFrom 0 = .ok (.iload_n 1, 1) := by decide +kernel
theorem dX7_leastFrom_1 : decode cX7_leastFrom 1 = .ok (.iload_n 2, 1) := by decide +kernel
theorem dX7_leastFrom_2 : decode cX7_leastFrom 2 = .ok (.ishr, 1) := by decide +kernel
theorem dX7_leastFrom_3 : decode cX7_leastFrom 3 = .ok (.iconst 1, 1) := by decide +kernel
theorem dX7_leastFrom_4 : decode cX7_leastFrom 4 = .ok (.iand, 1) := by decide +kernel
theorem dX7_leastFrom_5 : decode cX7_leastFrom 5 = .ok (.ifCond .ne 18, 3) := by decide +kernel
theorem dX7_leastFrom_8 : decode cX7_leastFrom 8 = .ok (.aload_n 0, 1) := by decide +kernel
theorem dX7_leastFrom_9 : decode cX7_leastFrom 9 = .ok (.getfield 71, 3) := by decide +kernel
theorem dX7_leastFrom_12 : decode cX7_leastFrom 12 = .ok (.sipush 512, 3) := by decide +kernel
theorem dX7_leastFrom_15 : decode cX7_leastFrom 15 = .ok (.iload_n 2, 1) := by decide +kernel
theorem dX7_leastFrom_16 : decode cX7_leastFrom 16 = .ok (.iconst 1, 1) := by decide +kernel
theorem dX7_leastFrom_17 : decode cX7_leastFrom 17 = .ok (.iadd, 1) := by decide +kernel
theorem dX7_leastFrom_18 : decode cX7_leastFrom 18 = .ok (.imul, 1) := by decide +kernel
theorem dX7_leastFrom_19 : decode cX7_leastFrom 19 = .ok (.iload_n 3, 1) := by decide +kernel
theorem dX7_leastFrom_20 : decode cX7_leastFrom 20 = .ok (.iadd, 1) := by decide +kernel
theorem dX7_leastFrom_21 : decode cX7_leastFrom 21 = .ok (.iaload, 1) := by decide +kernel
theorem dX7_leastFrom_22 : decode cX7_leastFrom 22 = .ok (.ireturn, 1) := by decide +kernel
theorem dX7_leastFrom_23 : decode cX7_leastFrom 23 = .ok (.ldc 199, 2) := by decide +kernel
theorem dX7_leastFrom_25 : decode cX7_leastFrom 25 = .ok (.istore 4, 2) := by decide +kernel
theorem dX7_leastFrom_27 : decode cX7_leastFrom 27 = .ok (.iconst 0, 1) := by decide +kernel
theorem dX7_leastFrom_28 : decode cX7_leastFrom 28 = .ok (.istore 5, 2) := by decide +kernel
theorem dX7_leastFrom_30 : decode cX7_leastFrom 30 = .ok (.iload 5, 2) := by decide +kernel
theorem dX7_leastFrom_32 : decode cX7_leastFrom 32 = .ok (.aload_n 0, 1) := by decide +kernel
theorem dX7_leastFrom_33 : decode cX7_leastFrom 33 = .ok (.getfield 13, 3) := by decide +kernel
theorem dX7_leastFrom_36 : decode cX7_leastFrom 36 = .ok (.iconst 0, 1) := by decide +kernel
theorem dX7_leastFrom_37 : decode cX7_leastFrom 37 = .ok (.iaload, 1) := by decide +kernel
theorem dX7_leastFrom_38 : decode cX7_leastFrom 38 = .ok (.if_icmp .gt 203, 3) := by decide +kernel
theorem dX7_leastFrom_41 : decode cX7_leastFrom 41 = .ok (.iconst 0, 1) := by decide +kernel
theorem dX7_leastFrom_42 : decode cX7_leastFrom 42 = .ok (.istore 6, 2) := by decide +kernel
theorem dX7_leastFrom_44 : decode cX7_leastFrom 44 = .ok (.iload 6, 2) := by decide +kernel
theorem dX7_leastFrom_46 : decode cX7_leastFrom 46 = .ok (.aload_n 0, 1) := by decide +kernel
theorem dX7_leastFrom_47 : decode cX7_leastFrom 47 = .ok (.getfield 13, 3) := by decide +kernel
theorem dX7_leastFrom_50 : decode cX7_leastFrom 50 = .ok (.iconst 0, 1) := by decide +kernel
theorem dX7_leastFrom_51 : decode cX7_leastFrom 51 = .ok (.iaload, 1) := by decide +kernel
theorem dX7_leastFrom_52 : decode cX7_leastFrom 52 = .ok (.if_icmp .gt 183, 3) := by decide +kernel
theorem dX7_leastFrom_55 : decode cX7_leastFrom 55 = .ok (.aload_n 0, 1) := by decide +kernel
theorem dX7_leastFrom_56 : decode cX7_leastFrom 56 = .ok (.iload_n 2, 1) := by decide +kernel
theorem dX7_leastFrom_57 : decode cX7_leastFrom 57 = .ok (.iconst 0, 1) := by decide +kernel
theorem dX7_leastFrom_58 : decode cX7_leastFrom 58 = .ok (.iload 5, 2) := by decide +kernel
theorem dX7_leastFrom_60 : decode cX7_leastFrom 60 = .ok (.iload_n 3, 1) := by decide +kernel
theorem dX7_leastFrom_61 : decode cX7_leastFrom 61 = .ok (.invokevirtual 200, 3) := by decide +kernel
theorem dX7_leastFrom_64 : decode cX7_leastFrom 64 = .ok (.ifCond .eq 171, 3) := by decide +kernel
theorem dX7_leastFrom_67 : decode cX7_leastFrom 67 = .ok (.aload_n 0, 1) := by decide +kernel
theorem dX7_leastFrom_68 : decode cX7_leastFrom 68 = .ok (.iload_n 2, 1) := by decide +kernel
theorem dX7_leastFrom_69 : decode cX7_leastFrom 69 = .ok (.iconst 1, 1) := by decide +kernel
theorem dX7_leastFrom_70 : decode cX7_leastFrom 70 = .ok (.iload 6, 2) := by decide +kernel
theorem dX7_leastFrom_72 : decode cX7_leastFrom 72 = .ok (.iload_n 3, 1) := by decide +kernel
theorem dX7_leastFrom_73 : decode cX7_leastFrom 73 = .ok (.invokevirtual 200, 3) := by decide +kernel
theorem dX7_leastFrom_76 : decode cX7_leastFrom 76 = .ok (.ifCond .eq 42, 3) := by decide +kernel
theorem dX7_leastFrom_79 : decode cX7_leastFrom 79 = .ok (.iload 5, 2) := by decide +kernel
theorem dX7_leastFrom_81 : decode cX7_leastFrom 81 = .ok (.ifCond .eq 33, 3) := by decide +kernel
theorem dX7_leastFrom_84 : decode cX7_leastFrom 84 = .ok (.iload 6, 2) := by decide +kernel
theorem dX7_leastFrom_86 : decode cX7_leastFrom 86 = .ok (.ifCond .eq 28, 3) := by decide +kernel
theorem dX7_leastFrom_89 : decode cX7_leastFrom 89 = .ok (.aload_n 0, 1) := by decide +kernel
theorem dX7_leastFrom_90 : decode cX7_leastFrom 90 = .ok (.aload_n 0, 1) := by decide +kernel
theorem dX7_leastFrom_91 : decode cX7_leastFrom 91 = .ok (.getfield 19, 3) := by decide +kernel
theorem dX7_leastFrom_94 : decode cX7_leastFrom 94 = .ok (.iload 5, 2) := by decide +kernel
theorem dX7_leastFrom_96 : decode cX7_leastFrom 96 = .ok (.iconst 1, 1) := by decide +kernel
theorem dX7_leastFrom_97 : decode cX7_leastFrom 97 = .ok (.isub, 1) := by decide +kernel
theorem dX7_leastFrom_98 : decode cX7_leastFrom 98 = .ok (.iaload, 1) := by decide +kernel
theorem dX7_leastFrom_99 : decode cX7_leastFrom 99 = .ok (.aload_n 0, 1) := by decide +kernel
theorem dX7_leastFrom_100 : decode cX7_leastFrom 100 = .ok (.getfield 19, 3) := by decide +kernel
theorem dX7_leastFrom_103 : decode cX7_leastFrom 103 = .ok (.iload 6, 2) := by decide +kernel
theorem dX7_leastFrom_105 : decode cX7_leastFrom 105 = .ok (.iconst 1, 1) := by decide +kernel
theorem dX7_leastFrom_106 : decode cX7_leastFrom 106 = .ok (.isub, 1) := by decide +kernel
theorem dX7_leastFrom_107 : decode cX7_leastFrom 107 = .ok (.iaload, 1) := by decide +kernel
theorem dX7_leastFrom_108 : decode cX7_leastFrom 108 = .ok (.invokevirtual 156, 3) := by decide +kernel
theorem dX7_leastFrom_111 : decode cX7_leastFrom 111 = .ok (.ifCond .eq 7, 3) := by decide +kernel
theorem dX7_leastFrom_114 : decode cX7_leastFrom 114 = .ok (.iconst 1, 1) := by decide +kernel
theorem dX7_leastFrom_115 : decode cX7_leastFrom 115 = .ok (.goto 4, 3) := by decide +kernel
theorem dX7_leastFrom_118 : decode cX7_leastFrom 118 = .ok (.iconst 0, 1) := by decide +kernel
theorem dX7_leastFrom_119 : decode cX7_leastFrom 119 = .ok (.istore 7, 2) := by decide +kernel
theorem dX7_leastFrom_121 : decode cX7_leastFrom 121 = .ok (.iload 7, 2) := by decide +kernel
theorem dX7_leastFrom_123 : decode cX7_leastFrom 123 = .ok (.ifCond .eq 46, 3) := by decide +kernel
theorem dX7_leastFrom_126 : decode cX7_leastFrom 126 = .ok (.aload_n 0, 1) := by decide +kernel
theorem dX7_leastFrom_127 : decode cX7_leastFrom 127 = .ok (.iload 5, 2) := by decide +kernel
theorem dX7_leastFrom_129 : decode cX7_leastFrom 129 = .ok (.invokevirtual 204, 3) := by decide +kernel
theorem dX7_leastFrom_132 : decode cX7_leastFrom 132 = .ok (.aload_n 0, 1) := by decide +kernel
theorem dX7_leastFrom_133 : decode cX7_leastFrom 133 = .ok (.iload 6, 2) := by decide +kernel
theorem dX7_leastFrom_135 : decode cX7_leastFrom 135 = .ok (.invokevirtual 204, 3) := by decide +kernel
theorem dX7_leastFrom_138 : decode cX7_leastFrom 138 = .ok (.iadd, 1) := by decide +kernel
theorem dX7_leastFrom_139 : decode cX7_leastFrom 139 = .ok (.aload_n 0, 1) := by decide +kernel
theorem dX7_leastFrom_140 : decode cX7_leastFrom 140 = .ok (.getfield 71, 3) := by decide +kernel
theorem dX7_leastFrom_143 : decode cX7_leastFrom 143 = .ok (.sipush 512, 3) := by decide +kernel
theorem dX7_leastFrom_146 : decode cX7_leastFrom 146 = .ok (.iload_n 2, 1) := by decide +kernel
theorem dX7_leastFrom_147 : decode cX7_leastFrom 147 = .ok (.iconst 1, 1) := by decide +kernel
theorem dX7_leastFrom_148 : decode cX7_leastFrom 148 = .ok (.iadd, 1) := by decide +kernel
theorem dX7_leastFrom_149 : decode cX7_leastFrom 149 = .ok (.imul, 1) := by decide +kernel
theorem dX7_leastFrom_150 : decode cX7_leastFrom 150 = .ok (.iload_n 3, 1) := by decide +kernel
theorem dX7_leastFrom_151 : decode cX7_leastFrom 151 = .ok (.iload 5, 2) := by decide +kernel
theorem dX7_leastFrom_153 : decode cX7_leastFrom 153 = .ok (.invokestatic 207, 3) := by decide +kernel
theorem dX7_leastFrom_156 : decode cX7_leastFrom 156 = .ok (.ior, 1) := by decide +kernel
theorem dX7_leastFrom_157 : decode cX7_leastFrom 157 = .ok (.iload 6, 2) := by decide +kernel
theorem dX7_leastFrom_159 : decode cX7_leastFrom 159 = .ok (.invokestatic 207, 3) := by decide +kernel
theorem dX7_leastFrom_162 : decode cX7_leastFrom 162 = .ok (.ior, 1) := by decide +kernel
theorem dX7_leastFrom_163 : decode cX7_leastFrom 163 = .ok (.iadd, 1) := by decide +kernel
theorem dX7_leastFrom_164 : decode cX7_leastFrom 164 = .ok (.iaload, 1) := by decide +kernel
theorem dX7_leastFrom_165 : decode cX7_leastFrom 165 = .ok (.iadd, 1) := by decide +kernel
theorem dX7_leastFrom_166 : decode cX7_leastFrom 166 = .ok (.goto 5, 3) := by decide +kernel
theorem dX7_leastFrom_169 : decode cX7_leastFrom 169 = .ok (.ldc 199, 2) := by decide +kernel
theorem dX7_leastFrom_171 : decode cX7_leastFrom 171 = .ok (.istore 8, 2) := by decide +kernel
theorem dX7_leastFrom_173 : decode cX7_leastFrom 173 = .ok (.aload_n 0, 1) := by decide +kernel
theorem dX7_leastFrom_174 : decode cX7_leastFrom 174 = .ok (.iload 8, 2) := by decide +kernel
theorem dX7_leastFrom_176 : decode cX7_leastFrom 176 = .ok (.iload 4, 2) := by decide +kernel
theorem dX7_leastFrom_178 : decode cX7_leastFrom 178 = .ok (.if_icmp .ge 8, 3) := by decide +kernel
theorem dX7_leastFrom_181 : decode cX7_leastFrom 181 = .ok (.iload 5, 2) := by decide +kernel
theorem dX7_leastFrom_183 : decode cX7_leastFrom 183 = .ok (.goto 7, 3) := by decide +kernel
theorem dX7_leastFrom_186 : decode cX7_leastFrom 186 = .ok (.aload_n 0, 1) := by decide +kernel
theorem dX7_leastFrom_187 : decode cX7_leastFrom 187 = .ok (.getfield 210, 3) := by decide +kernel
theorem dX7_leastFrom_190 : decode cX7_leastFrom 190 = .ok (.putfield 210, 3) := by decide +kernel
theorem dX7_leastFrom_193 : decode cX7_leastFrom 193 = .ok (.aload_n 0, 1) := by decide +kernel
theorem dX7_leastFrom_194 : decode cX7_leastFrom 194 = .ok (.iload 8, 2) := by decide +kernel
theorem dX7_leastFrom_196 : decode cX7_leastFrom 196 = .ok (.iload 4, 2) := by decide +kernel
theorem dX7_leastFrom_198 : decode cX7_leastFrom 198 = .ok (.if_icmp .ge 8, 3) := by decide +kernel
theorem dX7_leastFrom_201 : decode cX7_leastFrom 201 = .ok (.iload 6, 2) := by decide +kernel
theorem dX7_leastFrom_203 : decode cX7_leastFrom 203 = .ok (.goto 7, 3) := by decide +kernel
theorem dX7_leastFrom_206 : decode cX7_leastFrom 206 = .ok (.aload_n 0, 1) := by decide +kernel
theorem dX7_leastFrom_207 : decode cX7_leastFrom 207 = .ok (.getfield 213, 3) := by decide +kernel
theorem dX7_leastFrom_210 : decode cX7_leastFrom 210 = .ok (.putfield 213, 3) := by decide +kernel
theorem dX7_leastFrom_213 : decode cX7_leastFrom 213 = .ok (.iload 8, 2) := by decide +kernel
theorem dX7_leastFrom_215 : decode cX7_leastFrom 215 = .ok (.iload 4, 2) := by decide +kernel
theorem dX7_leastFrom_217 : decode cX7_leastFrom 217 = .ok (.if_icmp .ge 8, 3) := by decide +kernel
theorem dX7_leastFrom_220 : decode cX7_leastFrom 220 = .ok (.iload 8, 2) := by decide +kernel
theorem dX7_leastFrom_222 : decode cX7_leastFrom 222 = .ok (.goto 5, 3) := by decide +kernel
theorem dX7_leastFrom_225 : decode cX7_leastFrom 225 = .ok (.iload 4, 2) := by decide +kernel
theorem dX7_leastFrom_227 : decode cX7_leastFrom 227 = .ok (.istore 4, 2) := by decide +kernel
theorem dX7_leastFrom_229 : decode cX7_leastFrom 229 = .ok (.iinc 6 1, 3) := by decide +kernel
theorem dX7_leastFrom_232 : decode cX7_leastFrom 232 = .ok (.goto (-188), 3) := by decide +kernel
theorem dX7_leastFrom_235 : decode cX7_leastFrom 235 = .ok (.iinc 5 1, 3) := by decide +kernel
theorem dX7_leastFrom_238 : decode cX7_leastFrom 238 = .ok (.goto (-208), 3) := by decide +kernel
theorem dX7_leastFrom_241 : decode cX7_leastFrom 241 = .ok (.iload 4, 2) := by decide +kernel
theorem dX7_leastFrom_243 : decode cX7_leastFrom 243 = .ok (.ireturn, 1) := by decide +kernel
set_option maxRecDepth 20000 in
theorem ggX7_measures_X7_leastFrom : GoodIn wsX7_measures wsX7_leastFrom := goodIn_r _ [8, 2, 3, 1, 9, 10, 11, 12, 13, 14, 7, 15, 16, 17, 18, 19, 20, 21, 22, 23, 24, 25, 26, 27, 28, 29, 30, 31, 32, 33, 34, 35, 36, 37, 38, 39, 40, 41, 42, 43, 44, 45, 46, 47, 48, 49, 50, 51, 52, 53, 54, 55, 56, 57, 58, 59, 60, 61, 62, 63, 64, 65, 66, 67, 68, 69, 70, 71, 72, 73, 74, 75, 76, 77, 78, 79, 80, 81, 82, 83, 84] rfl (by decide +kernel)
set_option maxRecDepth 20000 in
theorem gX7_measures_X7_leastFrom : GoodIn wsX7_measures (wsV RX7 216 RX7 yX7_leastFrom wsX7_leastFrom) := goodIn_app (goodIn_of _ (by decide +kernel)) ggX7_measures_X7_leastFrom
theorem dX7_measures_0 : decode cX7_measures 0 = .ok (.aload_n 0, 1) := by decide +kernel
theorem dX7_measures_1 : decode cX7_measures 1 = .ok (.getfield 13, 3) := by decide +kernel
theorem dX7_measures_4 : decode cX7_measures 4 = .ok (.iconst 1, 1) := by decide +kernel
theorem dX7_measures_5 : decode cX7_measures 5 = .ok (.iaload, 1) := by decide +kernel
theorem dX7_measures_6 : decode cX7_measures 6 = .ok (.istore_n 2, 1) := by decide +kernel
theorem dX7_measures_7 : decode cX7_measures 7 = .ok (.iconst 0, 1) := by decide +kernel
theorem dX7_measures_8 : decode cX7_measures 8 = .ok (.istore_n 3, 1) := by decide +kernel
theorem dX7_measures_9 : decode cX7_measures 9 = .ok (.iload_n 3, 1) := by decide +kernel
theorem dX7_measures_10 : decode cX7_measures 10 = .ok (.sipush 512, 3) := by decide +kernel
theorem dX7_measures_13 : decode cX7_measures 13 = .ok (.if_icmp .ge 22, 3) := by decide +kernel
theorem dX7_measures_16 : decode cX7_measures 16 = .ok (.aload_n 0, 1) := by decide +kernel
theorem dX7_measures_17 : decode cX7_measures 17 = .ok (.getfield 71, 3) := by decide +kernel
theorem dX7_measures_20 : decode cX7_measures 20 = .ok (.sipush 512, 3) := by decide +kernel
theorem dX7_measures_23 : decode cX7_measures 23 = .ok (.iload_n 2, 1) := by decide +kernel
theorem dX7_measures_24 : decode cX7_measures 24 = .ok (.imul, 1) := by decide +kernel
theorem dX7_measures_25 : decode cX7_measures 25 = .ok (.iload_n 3, 1) := by decide +kernel
theorem dX7_measures_26 : decode cX7_measures 26 = .ok (.iadd, 1) := by decide +kernel
theorem dX7_measures_27 : decode cX7_measures 27 = .ok (.iconst 0, 1) := by decide +kernel
theorem dX7_measures_28 : decode cX7_measures 28 = .ok (.iastore, 1) := by decide +kernel
theorem dX7_measures_29 : decode cX7_measures 29 = .ok (.iinc 3 1, 3) := by decide +kernel
theorem dX7_measures_32 : decode cX7_measures 32 = .ok (.goto (-23), 3) := by decide +kernel
theorem dX7_measures_35 : decode cX7_measures 35 = .ok (.iload_n 2, 1) := by decide +kernel
theorem dX7_measures_36 : decode cX7_measures 36 = .ok (.iconst 1, 1) := by decide +kernel
theorem dX7_measures_37 : decode cX7_measures 37 = .ok (.isub, 1) := by decide +kernel
theorem dX7_measures_38 : decode cX7_measures 38 = .ok (.istore_n 3, 1) := by decide +kernel
theorem dX7_measures_39 : decode cX7_measures 39 = .ok (.iload_n 3, 1) := by decide +kernel
theorem dX7_measures_40 : decode cX7_measures 40 = .ok (.ifCond .lt 52, 3) := by decide +kernel
theorem dX7_measures_43 : decode cX7_measures 43 = .ok (.iconst 0, 1) := by decide +kernel
theorem dX7_measures_44 : decode cX7_measures 44 = .ok (.istore 4, 2) := by decide +kernel
theorem dX7_measures_46 : decode cX7_measures 46 = .ok (.iload 4, 2) := by decide +kernel
theorem dX7_measures_48 : decode cX7_measures 48 = .ok (.iconst 1, 1) := by decide +kernel
theorem dX7_measures_49 : decode cX7_measures 49 = .ok (.aload_n 0, 1) := by decide +kernel
theorem dX7_measures_50 : decode cX7_measures 50 = .ok (.getfield 13, 3) := by decide +kernel
theorem dX7_measures_53 : decode cX7_measures 53 = .ok (.iconst 0, 1) := by decide +kernel
theorem dX7_measures_54 : decode cX7_measures 54 = .ok (.iaload, 1) := by decide +kernel
theorem dX7_measures_55 : decode cX7_measures 55 = .ok (.ishl, 1) := by decide +kernel
theorem dX7_measures_56 : decode cX7_measures 56 = .ok (.if_icmp .ge 30, 3) := by decide +kernel
theorem dX7_measures_59 : decode cX7_measures 59 = .ok (.aload_n 0, 1) := by decide +kernel
theorem dX7_measures_60 : decode cX7_measures 60 = .ok (.getfield 71, 3) := by decide +kernel
theorem dX7_measures_63 : decode cX7_measures 63 = .ok (.sipush 512, 3) := by decide +kernel
theorem dX7_measures_66 : decode cX7_measures 66 = .ok (.iload_n 3, 1) := by decide +kernel
theorem dX7_measures_67 : decode cX7_measures 67 = .ok (.imul, 1) := by decide +kernel
theorem dX7_measures_68 : decode cX7_measures 68 = .ok (.iload 4, 2) := by decide +kernel
theorem dX7_measures_70 : decode cX7_measures 70 = .ok (.iadd, 1) := by decide +kernel
theorem dX7_measures_71 : decode cX7_measures 71 = .ok (.aload_n 0, 1) := by decide +kernel
theorem dX7_measures_72 : decode cX7_measures 72 = .ok (.iload_n 1, 1) := by decide +kernel
theorem dX7_measures_73 : decode cX7_measures 73 = .ok (.iload_n 3, 1) := by decide +kernel
theorem dX7_measures_74 : decode cX7_measures 74 = .ok (.iload 4, 2) := by decide +kernel
theorem dX7_measures_76 : decode cX7_measures 76 = .ok (.invokevirtual 216, 3) := by decide +kernel
theorem dX7_measures_79 : decode cX7_measures 79 = .ok (.iastore, 1) := by decide +kernel
theorem dX7_measures_80 : decode cX7_measures 80 = .ok (.iinc 4 1, 3) := by decide +kernel
theorem dX7_measures_83 : decode cX7_measures 83 = .ok (.goto (-37), 3) := by decide +kernel
theorem dX7_measures_86 : decode cX7_measures 86 = .ok (.iinc 3 (-1), 3) := by decide +kernel
theorem dX7_measures_89 : decode cX7_measures 89 = .ok (.goto (-50), 3) := by decide +kernel
theorem dX7_measures_92 : decode cX7_measures 92 = .ok (.aload_n 0, 1) := by decide +kernel
theorem dX7_measures_93 : decode cX7_measures 93 = .ok (.getfield 71, 3) := by decide +kernel
theorem dX7_measures_96 : decode cX7_measures 96 = .ok (.iconst 0, 1) := by decide +kernel
theorem dX7_measures_97 : decode cX7_measures 97 = .ok (.iaload, 1) := by decide +kernel
theorem dX7_measures_98 : decode cX7_measures 98 = .ok (.ldc 199, 2) := by decide +kernel
theorem dX7_measures_100 : decode cX7_measures 100 = .ok (.if_icmp .ge 12, 3) := by decide +kernel
theorem dX7_measures_103 : decode cX7_measures 103 = .ok (.aload_n 0, 1) := by decide +kernel
theorem dX7_measures_104 : decode cX7_measures 104 = .ok (.getfield 71, 3) := by decide +kernel
theorem dX7_measures_107 : decode cX7_measures 107 = .ok (.iconst 0, 1) := by decide +kernel
theorem dX7_measures_108 : decode cX7_measures 108 = .ok (.iaload, 1) := by decide +kernel
theorem dX7_measures_109 : decode cX7_measures 109 = .ok (.goto 5, 3) := by decide +kernel
theorem dX7_measures_112 : decode cX7_measures 112 = .ok (.ldc 199, 2) := by decide +kernel
theorem dX7_measures_114 : decode cX7_measures 114 = .ok (.ireturn, 1) := by decide +kernel
set_option maxRecDepth 20000 in
theorem ggX7_isSet_X7_in : GoodIn wsX7_isSet wsX7_in := goodIn_r _ [5] rfl (by decide +kernel)
set_option maxRecDepth 20000 in
theorem gX7_isSet_X7_in : GoodIn wsX7_isSet (va_wsS RX7 84 yX7_in wsX7_in) := goodIn_app (goodIn_of _ (by decide +kernel)) ggX7_isSet_X7_in
theorem dX7_isSet_0 : decode cX7_isSet 0 = .ok (.iload_n 1, 1) := by decide +kernel
theorem dX7_isSet_1 : decode cX7_isSet 1 = .ok (.iconst 0, 1) := by decide +kernel
theorem dX7_isSet_2 : decode cX7_isSet 2 = .ok (.iconst 1, 1) := by decide +kernel
theorem dX7_isSet_3 : decode cX7_isSet 3 = .ok (.aload_n 0, 1) := by decide +kernel
theorem dX7_isSet_4 : decode cX7_isSet 4 = .ok (.getfield 13, 3) := by decide +kernel
theorem dX7_isSet_7 : decode cX7_isSet 7 = .ok (.iconst 1, 1) := by decide +kernel
theorem dX7_isSet_8 : decode cX7_isSet 8 = .ok (.iaload, 1) := by decide +kernel
theorem dX7_isSet_9 : decode cX7_isSet 9 = .ok (.ishl, 1) := by decide +kernel
theorem dX7_isSet_10 : decode cX7_isSet 10 = .ok (.iconst 1, 1) := by decide +kernel
theorem dX7_isSet_11 : decode cX7_isSet 11 = .ok (.isub, 1) := by decide +kernel
theorem dX7_isSet_12 : decode cX7_isSet 12 = .ok (.invokestatic 84, 3) := by decide +kernel
theorem dX7_isSet_15 : decode cX7_isSet 15 = .ok (.ireturn, 1) := by decide +kernel
set_option maxRecDepth 20000 in
theorem ggX7_lending_X7_isSet : GoodIn wsX7_lending wsX7_isSet := goodIn_r _ [7, 8, 9, 10, 6, 11, 62, 63, 64, 65, 66, 67, 68, 69, 70, 71, 72, 73, 74, 75, 76, 77, 78, 79, 80, 81, 82, 83, 84, 85, 86, 87, 88, 89, 90, 91, 92, 93, 94, 95, 96] rfl (by decide +kernel)
set_option maxRecDepth 20000 in
theorem gX7_lending_X7_isSet : GoodIn wsX7_lending (wsV RX7 220 RX7 yX7_isSet wsX7_isSet) := goodIn_app (goodIn_of _ (by decide +kernel)) ggX7_lending_X7_isSet
set_option maxRecDepth 20000 in
theorem ggX7_lending_X7_measures : GoodIn wsX7_lending wsX7_measures := goodIn_r _ [15, 8, 16, 2, 17, 18, 19, 6, 20, 21, 22, 23, 24, 25, 26, 27, 28, 29, 30, 31, 32, 33, 34, 35, 36, 37, 38, 39, 40, 41, 42, 43, 44, 45, 46, 47, 48, 49, 50, 51, 52, 53, 54, 55, 56, 57, 58, 59, 60, 61, 62, 63, 64, 65, 66, 67, 68, 69, 70, 71, 72, 73, 74, 75, 76, 77, 78, 79, 80, 81, 82, 83, 84, 85, 86, 87, 88, 89, 90, 91, 92, 93, 94, 95, 96] rfl (by decide +kernel)
set_option maxRecDepth 20000 in
theorem gX7_lending_X7_measures : GoodIn wsX7_lending (wsV RX7 223 RX7 yX7_measures wsX7_measures) := goodIn_app (goodIn_of _ (by decide +kernel)) ggX7_lending_X7_measures
theorem dX7_lending_0 : decode cX7_lending 0 = .ok (.aload_n 0, 1) := by decide +kernel
theorem dX7_lending_1 : decode cX7_lending 1 = .ok (.iconst 0, 1) := by decide +kernel
theorem dX7_lending_2 : decode cX7_lending 2 = .ok (.putfield 80, 3) := by decide +kernel
theorem dX7_lending_5 : decode cX7_lending 5 = .ok (.aload_n 0, 1) := by decide +kernel
theorem dX7_lending_6 : decode cX7_lending 6 = .ok (.iload_n 1, 1) := by decide +kernel
theorem dX7_lending_7 : decode cX7_lending 7 = .ok (.invokevirtual 220, 3) := by decide +kernel
theorem dX7_lending_10 : decode cX7_lending 10 = .ok (.ifCond .ne 5, 3) := by decide +kernel
theorem dX7_lending_13 : decode cX7_lending 13 = .ok (.iconst (-1), 1) := by decide +kernel
theorem dX7_lending_14 : decode cX7_lending 14 = .ok (.ireturn, 1) := by decide +kernel
theorem dX7_lending_15 : decode cX7_lending 15 = .ok (.aload_n 0, 1) := by decide +kernel
theorem dX7_lending_16 : decode cX7_lending 16 = .ok (.iload_n 1, 1) := by decide +kernel
theorem dX7_lending_17 : decode cX7_lending 17 = .ok (.invokevirtual 223, 3) := by decide +kernel
theorem dX7_lending_20 : decode cX7_lending 20 = .ok (.istore_n 2, 1) := by decide +kernel
theorem dX7_lending_21 : decode cX7_lending 21 = .ok (.iload_n 2, 1) := by decide +kernel
theorem dX7_lending_22 : decode cX7_lending 22 = .ok (.ldc 199, 2) := by decide +kernel
theorem dX7_lending_24 : decode cX7_lending 24 = .ok (.if_icmp .ne 8, 3) := by decide +kernel
theorem dX7_lending_27 : decode cX7_lending 27 = .ok (.bipush (-9), 2) := by decide +kernel
theorem dX7_lending_29 : decode cX7_lending 29 = .ok (.goto 4, 3) := by decide +kernel
theorem dX7_lending_32 : decode cX7_lending 32 = .ok (.iload_n 2, 1) := by decide +kernel
theorem dX7_lending_33 : decode cX7_lending 33 = .ok (.ireturn, 1) := by decide +kernel
set_option maxRecDepth 20000 in
theorem ggX7_kneeFor_X7_isSet : GoodIn wsX7_kneeFor wsX7_isSet := goodIn_r _ [9, 10, 11, 12, 8, 13, 66, 67, 68, 69, 70, 71, 72, 73, 74, 75, 76, 77, 78, 79, 80, 81, 82, 83, 84, 85, 86, 87, 88, 89, 90, 91, 92, 93, 94, 95, 96, 97, 98, 99, 100] rfl (by decide +kernel)
set_option maxRecDepth 20000 in
theorem gX7_kneeFor_X7_isSet : GoodIn wsX7_kneeFor (wsV RX7 220 RX7 yX7_isSet wsX7_isSet) := goodIn_app (goodIn_of _ (by decide +kernel)) ggX7_kneeFor_X7_isSet
set_option maxRecDepth 20000 in
theorem ggX7_kneeFor_X7_isPerson : GoodIn wsX7_kneeFor wsX7_isPerson := goodIn_r _ [17, 10, 11, 12, 8, 13, 66, 67, 68, 69, 70, 71, 72, 73, 74, 75, 76, 77, 78, 79, 80, 81, 82, 83, 84, 85, 86, 87, 88, 89, 90, 91, 92, 93, 94, 95, 96, 97, 98, 99, 100] rfl (by decide +kernel)
set_option maxRecDepth 20000 in
theorem gX7_kneeFor_X7_isPerson : GoodIn wsX7_kneeFor (wsV RX7 173 RX7 yX7_isPerson wsX7_isPerson) := goodIn_app (goodIn_of _ (by decide +kernel)) ggX7_kneeFor_X7_isPerson
set_option maxRecDepth 20000 in
theorem ggX7_kneeFor_X7_in : GoodIn wsX7_kneeFor wsX7_in := goodIn_r _ [13] rfl (by decide +kernel)
set_option maxRecDepth 20000 in
theorem gX7_kneeFor_X7_in : GoodIn wsX7_kneeFor (va_wsS RX7 84 yX7_in wsX7_in) := goodIn_app (goodIn_of _ (by decide +kernel)) ggX7_kneeFor_X7_in
set_option maxRecDepth 20000 in
theorem ggX7_kneeFor_X7_measures : GoodIn wsX7_kneeFor wsX7_measures := goodIn_r _ [21, 10, 22, 2, 23, 24, 25, 8, 26, 27, 3, 4, 28, 29, 30, 31, 32, 33, 34, 35, 36, 37, 38, 39, 40, 41, 42, 43, 44, 45, 46, 47, 48, 49, 50, 51, 52, 53, 54, 55, 56, 57, 58, 59, 60, 61, 62, 63, 64, 65, 66, 67, 68, 69, 70, 71, 72, 73, 74, 75, 76, 77, 78, 79, 80, 81, 82, 83, 84, 85, 86, 87, 88, 89, 90, 91, 92, 93, 94, 95, 96, 97, 98, 99, 100] rfl (by decide +kernel)
set_option maxRecDepth 20000 in
theorem gX7_kneeFor_X7_measures : GoodIn wsX7_kneeFor (wsV RX7 223 RX7 yX7_measures wsX7_measures) := goodIn_app (goodIn_of _ (by decide +kernel)) ggX7_kneeFor_X7_measures
set_option maxRecDepth 20000 in
theorem ggX7_kneeFor_X7_leastFrom : GoodIn wsX7_kneeFor wsX7_leastFrom := goodIn_r _ [26, 22, 2, 10, 27, 3, 4, 28, 29, 30, 8, 31, 32, 33, 34, 35, 36, 37, 38, 39, 40, 41, 42, 43, 44, 45, 46, 47, 48, 49, 50, 51, 52, 53, 54, 55, 56, 57, 58, 59, 60, 61, 62, 63, 64, 65, 66, 67, 68, 69, 70, 71, 72, 73, 74, 75, 76, 77, 78, 79, 80, 81, 82, 83, 84, 85, 86, 87, 88, 89, 90, 91, 92, 93, 94, 95, 96, 97, 98, 99, 100] rfl (by decide +kernel)
set_option maxRecDepth 20000 in
theorem gX7_kneeFor_X7_leastFrom : GoodIn wsX7_kneeFor (wsV RX7 216 RX7 yX7_leastFrom wsX7_leastFrom) := goodIn_app (goodIn_of _ (by decide +kernel)) ggX7_kneeFor_X7_leastFrom
set_option maxRecDepth 20000 in
theorem ggX7_kneeFor_X7_bitOf : GoodIn wsX7_kneeFor wsX7_bitOf := goodIn_r _ [65] rfl (by decide +kernel)
set_option maxRecDepth 20000 in
theorem gX7_kneeFor_X7_bitOf : GoodIn wsX7_kneeFor (va_wsS RX7 207 yX7_bitOf wsX7_bitOf) := goodIn_app (goodIn_of _ (by decide +kernel)) ggX7_kneeFor_X7_bitOf
theorem dX7_kneeFor_0 : decode cX7_kneeFor 0 = .ok (.aload_n 0, 1) := by decide +kernel
theorem dX7_kneeFor_1 : decode cX7_kneeFor 1 = .ok (.iconst 0, 1) := by decide +kernel
theorem dX7_kneeFor_2 : decode cX7_kneeFor 2 = .ok (.putfield 80, 3) := by decide +kernel
theorem dX7_kneeFor_5 : decode cX7_kneeFor 5 = .ok (.aload_n 0, 1) := by decide +kernel
theorem dX7_kneeFor_6 : decode cX7_kneeFor 6 = .ok (.iload_n 1, 1) := by decide +kernel
theorem dX7_kneeFor_7 : decode cX7_kneeFor 7 = .ok (.invokevirtual 220, 3) := by decide +kernel
theorem dX7_kneeFor_10 : decode cX7_kneeFor 10 = .ok (.ifCond .eq 20, 3) := by decide +kernel
theorem dX7_kneeFor_13 : decode cX7_kneeFor 13 = .ok (.aload_n 0, 1) := by decide +kernel
theorem dX7_kneeFor_14 : decode cX7_kneeFor 14 = .ok (.iload_n 2, 1) := by decide +kernel
theorem dX7_kneeFor_15 : decode cX7_kneeFor 15 = .ok (.invokevirtual 173, 3) := by decide +kernel
theorem dX7_kneeFor_18 : decode cX7_kneeFor 18 = .ok (.ifCond .eq 12, 3) := by decide +kernel
theorem dX7_kneeFor_21 : decode cX7_kneeFor 21 = .ok (.iload_n 3, 1) := by decide +kernel
theorem dX7_kneeFor_22 : decode cX7_kneeFor 22 = .ok (.iconst 0, 1) := by decide +kernel
theorem dX7_kneeFor_23 : decode cX7_kneeFor 23 = .ok (.iconst 1, 1) := by decide +kernel
theorem dX7_kneeFor_24 : decode cX7_kneeFor 24 = .ok (.invokestatic 84, 3) := by decide +kernel
theorem dX7_kneeFor_27 : decode cX7_kneeFor 27 = .ok (.ifCond .ne 5, 3) := by decide +kernel
theorem dX7_kneeFor_30 : decode cX7_kneeFor 30 = .ok (.iconst (-1), 1) := by decide +kernel
theorem dX7_kneeFor_31 : decode cX7_kneeFor 31 = .ok (.ireturn, 1) := by decide +kernel
theorem dX7_kneeFor_32 : decode cX7_kneeFor 32 = .ok (.iload_n 1, 1) := by decide +kernel
theorem dX7_kneeFor_33 : decode cX7_kneeFor 33 = .ok (.iload_n 2, 1) := by decide +kernel
theorem dX7_kneeFor_34 : decode cX7_kneeFor 34 = .ok (.ishr, 1) := by decide +kernel
theorem dX7_kneeFor_35 : decode cX7_kneeFor 35 = .ok (.iconst 1, 1) := by decide +kernel
theorem dX7_kneeFor_36 : decode cX7_kneeFor 36 = .ok (.iand, 1) := by decide +kernel
theorem dX7_kneeFor_37 : decode cX7_kneeFor 37 = .ok (.ifCond .ne 5, 3) := by decide +kernel
theorem dX7_kneeFor_40 : decode cX7_kneeFor 40 = .ok (.iconst (-1), 1) := by decide +kernel
theorem dX7_kneeFor_41 : decode cX7_kneeFor 41 = .ok (.ireturn, 1) := by decide +kernel
theorem dX7_kneeFor_42 : decode cX7_kneeFor 42 = .ok (.aload_n 0, 1) := by decide +kernel
theorem dX7_kneeFor_43 : decode cX7_kneeFor 43 = .ok (.iload_n 1, 1) := by decide +kernel
theorem dX7_kneeFor_44 : decode cX7_kneeFor 44 = .ok (.invokevirtual 223, 3) := by decide +kernel
theorem dX7_kneeFor_47 : decode cX7_kneeFor 47 = .ok (.ldc 199, 2) := by decide +kernel
theorem dX7_kneeFor_49 : decode cX7_kneeFor 49 = .ok (.if_icmp .ne 6, 3) := by decide +kernel
theorem dX7_kneeFor_52 : decode cX7_kneeFor 52 = .ok (.bipush (-9), 2) := by decide +kernel
theorem dX7_kneeFor_54 : decode cX7_kneeFor 54 = .ok (.ireturn, 1) := by decide +kernel
theorem dX7_kneeFor_55 : decode cX7_kneeFor 55 = .ok (.iconst 0, 1) := by decide +kernel
theorem dX7_kneeFor_56 : decode cX7_kneeFor 56 = .ok (.istore 4, 2) := by decide +kernel
theorem dX7_kneeFor_58 : decode cX7_kneeFor 58 = .ok (.iconst 0, 1) := by decide +kernel
theorem dX7_kneeFor_59 : decode cX7_kneeFor 59 = .ok (.istore 5, 2) := by decide +kernel
theorem dX7_kneeFor_61 : decode cX7_kneeFor 61 = .ok (.iload 5, 2) := by decide +kernel
theorem dX7_kneeFor_63 : decode cX7_kneeFor 63 = .ok (.iload_n 2, 1) := by decide +kernel
theorem dX7_kneeFor_64 : decode cX7_kneeFor 64 = .ok (.if_icmp .gt 49, 3) := by decide +kernel
theorem dX7_kneeFor_67 : decode cX7_kneeFor 67 = .ok (.iload_n 1, 1) := by decide +kernel
theorem dX7_kneeFor_68 : decode cX7_kneeFor 68 = .ok (.iload 5, 2) := by decide +kernel
theorem dX7_kneeFor_70 : decode cX7_kneeFor 70 = .ok (.ishr, 1) := by decide +kernel
theorem dX7_kneeFor_71 : decode cX7_kneeFor 71 = .ok (.iconst 1, 1) := by decide +kernel
theorem dX7_kneeFor_72 : decode cX7_kneeFor 72 = .ok (.iand, 1) := by decide +kernel
theorem dX7_kneeFor_73 : decode cX7_kneeFor 73 = .ok (.iconst 1, 1) := by decide +kernel
theorem dX7_kneeFor_74 : decode cX7_kneeFor 74 = .ok (.if_icmp .ne 33, 3) := by decide +kernel
theorem dX7_kneeFor_77 : decode cX7_kneeFor 77 = .ok (.aload_n 0, 1) := by decide +kernel
theorem dX7_kneeFor_78 : decode cX7_kneeFor 78 = .ok (.iload_n 1, 1) := by decide +kernel
theorem dX7_kneeFor_79 : decode cX7_kneeFor 79 = .ok (.iload 5, 2) := by decide +kernel
theorem dX7_kneeFor_81 : decode cX7_kneeFor 81 = .ok (.iload 4, 2) := by decide +kernel
theorem dX7_kneeFor_83 : decode cX7_kneeFor 83 = .ok (.invokevirtual 216, 3) := by decide +kernel
theorem dX7_kneeFor_86 : decode cX7_kneeFor 86 = .ok (.pop, 1) := by decide +kernel
theorem dX7_kneeFor_87 : decode cX7_kneeFor 87 = .ok (.iload 4, 2) := by decide +kernel
theorem dX7_kneeFor_89 : decode cX7_kneeFor 89 = .ok (.aload_n 0, 1) := by decide +kernel
theorem dX7_kneeFor_90 : decode cX7_kneeFor 90 = .ok (.getfield 210, 3) := by decide +kernel
theorem dX7_kneeFor_93 : decode cX7_kneeFor 93 = .ok (.invokestatic 207, 3) := by decide +kernel
theorem dX7_kneeFor_96 : decode cX7_kneeFor 96 = .ok (.aload_n 0, 1) := by decide +kernel
theorem dX7_kneeFor_97 : decode cX7_kneeFor 97 = .ok (.getfield 213, 3) := by decide +kernel
theorem dX7_kneeFor_100 : decode cX7_kneeFor 100 = .ok (.invokestatic 207, 3) := by decide +kernel
theorem dX7_kneeFor_103 : decode cX7_kneeFor 103 = .ok (.ior, 1) := by decide +kernel
theorem dX7_kneeFor_104 : decode cX7_kneeFor 104 = .ok (.ior, 1) := by decide +kernel
theorem dX7_kneeFor_105 : decode cX7_kneeFor 105 = .ok (.istore 4, 2) := by decide +kernel
theorem dX7_kneeFor_107 : decode cX7_kneeFor 107 = .ok (.iinc 5 1, 3) := by decide +kernel
theorem dX7_kneeFor_110 : decode cX7_kneeFor 110 = .ok (.goto (-49), 3) := by decide +kernel
theorem dX7_kneeFor_113 : decode cX7_kneeFor 113 = .ok (.iload_n 3, 1) := by decide +kernel
theorem dX7_kneeFor_114 : decode cX7_kneeFor 114 = .ok (.ifCond .ne 26, 3) := by decide +kernel
theorem dX7_kneeFor_117 : decode cX7_kneeFor 117 = .ok (.aload_n 0, 1) := by decide +kernel
theorem dX7_kneeFor_118 : decode cX7_kneeFor 118 = .ok (.getfield 210, 3) := by decide +kernel
theorem dX7_kneeFor_121 : decode cX7_kneeFor 121 = .ok (.iconst 1, 1) := by decide +kernel
theorem dX7_kneeFor_122 : decode cX7_kneeFor 122 = .ok (.isub, 1) := by decide +kernel
theorem dX7_kneeFor_123 : decode cX7_kneeFor 123 = .ok (.ifCond .ge 8, 3) := by decide +kernel
theorem dX7_kneeFor_126 : decode cX7_kneeFor 126 = .ok (.bipush (-9), 2) := by decide +kernel
theorem dX7_kneeFor_128 : decode cX7_kneeFor 128 = .ok (.goto 32, 3) := by decide +kernel
theorem dX7_kneeFor_131 : decode cX7_kneeFor 131 = .ok (.aload_n 0, 1) := by decide +kernel
theorem dX7_kneeFor_132 : decode cX7_kneeFor 132 = .ok (.getfield 210, 3) := by decide +kernel
theorem dX7_kneeFor_135 : decode cX7_kneeFor 135 = .ok (.iconst 1, 1) := by decide +kernel
theorem dX7_kneeFor_136 : decode cX7_kneeFor 136 = .ok (.isub, 1) := by decide +kernel
theorem dX7_kneeFor_137 : decode cX7_kneeFor 137 = .ok (.goto 23, 3) := by decide +kernel
theorem dX7_kneeFor_140 : decode cX7_kneeFor 140 = .ok (.aload_n 0, 1) := by decide +kernel
theorem dX7_kneeFor_141 : decode cX7_kneeFor 141 = .ok (.getfield 213, 3) := by decide +kernel
theorem dX7_kneeFor_144 : decode cX7_kneeFor 144 = .ok (.iconst 1, 1) := by decide +kernel
theorem dX7_kneeFor_145 : decode cX7_kneeFor 145 = .ok (.isub, 1) := by decide +kernel
theorem dX7_kneeFor_146 : decode cX7_kneeFor 146 = .ok (.ifCond .ge 8, 3) := by decide +kernel
theorem dX7_kneeFor_149 : decode cX7_kneeFor 149 = .ok (.bipush (-9), 2) := by decide +kernel
theorem dX7_kneeFor_151 : decode cX7_kneeFor 151 = .ok (.goto 9, 3) := by decide +kernel
theorem dX7_kneeFor_154 : decode cX7_kneeFor 154 = .ok (.aload_n 0, 1) := by decide +kernel
theorem dX7_kneeFor_155 : decode cX7_kneeFor 155 = .ok (.getfield 213, 3) := by decide +kernel
theorem dX7_kneeFor_158 : decode cX7_kneeFor 158 = .ok (.iconst 1, 1) := by decide +kernel
theorem dX7_kneeFor_159 : decode cX7_kneeFor 159 = .ok (.isub, 1) := by decide +kernel
theorem dX7_kneeFor_160 : decode cX7_kneeFor 160 = .ok (.ireturn, 1) := by decide +kernel
set_option maxRecDepth 20000 in
theorem ggX7_most_X7_in : GoodIn wsX7_most wsX7_in := goodIn_r _ [7] rfl (by decide +kernel)
set_option maxRecDepth 20000 in
theorem gX7_most_X7_in : GoodIn wsX7_most (va_wsS RX7 84 yX7_in wsX7_in) := goodIn_app (goodIn_of _ (by decide +kernel)) ggX7_most_X7_in
set_option maxRecDepth 20000 in
theorem ggX7_most_X7_ones : GoodIn wsX7_most wsX7_ones := goodIn_r _ [10] rfl (by decide +kernel)
set_option maxRecDepth 20000 in
theorem gX7_most_X7_ones : GoodIn wsX7_most (va_wsS RX7 190 yX7_ones wsX7_ones) := goodIn_app (goodIn_of _ (by decide +kernel)) ggX7_most_X7_ones
set_option maxRecDepth 20000 in
theorem ggX7_most_X7_measures : GoodIn wsX7_most wsX7_measures := goodIn_r _ [14, 3, 15, 2, 16, 17, 18, 6, 19, 20, 21, 22, 23, 24, 25, 26, 27, 28, 29, 30, 31, 32, 33, 34, 35, 36, 37, 38, 39, 40, 41, 42, 43, 44, 45, 46, 47, 48, 49, 50, 51, 52, 53, 54, 55, 56, 57, 58, 59, 60, 61, 62, 63, 64, 65, 66, 67, 68, 69, 70, 71, 72, 73, 74, 75, 76, 77, 78, 79, 80, 81, 82, 83, 84, 85, 86, 87, 88, 89, 90, 91, 92, 93, 94, 95] rfl (by decide +kernel)
set_option maxRecDepth 20000 in
theorem gX7_most_X7_measures : GoodIn wsX7_most (wsV RX7 223 RX7 yX7_measures wsX7_measures) := goodIn_app (goodIn_of _ (by decide +kernel)) ggX7_most_X7_measures
theorem dX7_most_0 : decode cX7_most 0 = .ok (.aload_n 0, 1) := by decide +kernel
theorem dX7_most_1 : decode cX7_most 1 = .ok (.iconst 0, 1) := by decide +kernel
theorem dX7_most_2 : decode cX7_most 2 = .ok (.putfield 80, 3) := by decide +kernel
theorem dX7_most_5 : decode cX7_most 5 = .ok (.iload_n 1, 1) := by decide +kernel
theorem dX7_most_6 : decode cX7_most 6 = .ok (.iconst 0, 1) := by decide +kernel
theorem dX7_most_7 : decode cX7_most 7 = .ok (.iconst 2, 1) := by decide +kernel
theorem dX7_most_8 : decode cX7_most 8 = .ok (.invokestatic 84, 3) := by decide +kernel
theorem dX7_most_11 : decode cX7_most 11 = .ok (.ifCond .ne 5, 3) := by decide +kernel
theorem dX7_most_14 : decode cX7_most 14 = .ok (.iconst (-1), 1) := by decide +kernel
theorem dX7_most_15 : decode cX7_most 15 = .ok (.ireturn, 1) := by decide +kernel
theorem dX7_most_16 : decode cX7_most 16 = .ok (.bipush (-9), 2) := by decide +kernel
theorem dX7_most_18 : decode cX7_most 18 = .ok (.istore_n 2, 1) := by decide +kernel
theorem dX7_most_19 : decode cX7_most 19 = .ok (.ldc 199, 2) := by decide +kernel
theorem dX7_most_21 : decode cX7_most 21 = .ok (.istore_n 3, 1) := by decide +kernel
theorem dX7_most_22 : decode cX7_most 22 = .ok (.aload_n 0, 1) := by decide +kernel
theorem dX7_most_23 : decode cX7_most 23 = .ok (.getfield 13, 3) := by decide +kernel
theorem dX7_most_26 : decode cX7_most 26 = .ok (.iconst 1, 1) := by decide +kernel
theorem dX7_most_27 : decode cX7_most 27 = .ok (.iaload, 1) := by decide +kernel
theorem dX7_most_28 : decode cX7_most 28 = .ok (.istore 4, 2) := by decide +kernel
theorem dX7_most_30 : decode cX7_most 30 = .ok (.iload 4, 2) := by decide +kernel
theorem dX7_most_32 : decode cX7_most 32 = .ok (.ifCond .lt 86, 3) := by decide +kernel
theorem dX7_most_35 : decode cX7_most 35 = .ok (.iload_n 2, 1) := by decide +kernel
theorem dX7_most_36 : decode cX7_most 36 = .ok (.bipush (-9), 2) := by decide +kernel
theorem dX7_most_38 : decode cX7_most 38 = .ok (.if_icmp .ne 80, 3) := by decide +kernel
theorem dX7_most_41 : decode cX7_most 41 = .ok (.iconst 0, 1) := by decide +kernel
theorem dX7_most_42 : decode cX7_most 42 = .ok (.istore 5, 2) := by decide +kernel
theorem dX7_most_44 : decode cX7_most 44 = .ok (.iload 5, 2) := by decide +kernel
theorem dX7_most_46 : decode cX7_most 46 = .ok (.iconst 1, 1) := by decide +kernel
theorem dX7_most_47 : decode cX7_most 47 = .ok (.aload_n 0, 1) := by decide +kernel
theorem dX7_most_48 : decode cX7_most 48 = .ok (.getfield 13, 3) := by decide +kernel
theorem dX7_most_51 : decode cX7_most 51 = .ok (.iconst 1, 1) := by decide +kernel
theorem dX7_most_52 : decode cX7_most 52 = .ok (.iaload, 1) := by decide +kernel
theorem dX7_most_53 : decode cX7_most 53 = .ok (.ishl, 1) := by decide +kernel
theorem dX7_most_54 : decode cX7_most 54 = .ok (.if_icmp .ge 58, 3) := by decide +kernel
theorem dX7_most_57 : decode cX7_most 57 = .ok (.iload 5, 2) := by decide +kernel
theorem dX7_most_59 : decode cX7_most 59 = .ok (.invokestatic 190, 3) := by decide +kernel
theorem dX7_most_62 : decode cX7_most 62 = .ok (.iload 4, 2) := by decide +kernel
theorem dX7_most_64 : decode cX7_most 64 = .ok (.if_icmp .ne 12, 3) := by decide +kernel
theorem dX7_most_67 : decode cX7_most 67 = .ok (.aload_n 0, 1) := by decide +kernel
theorem dX7_most_68 : decode cX7_most 68 = .ok (.iload 5, 2) := by decide +kernel
theorem dX7_most_70 : decode cX7_most 70 = .ok (.invokevirtual 223, 3) := by decide +kernel
theorem dX7_most_73 : decode cX7_most 73 = .ok (.goto 5, 3) := by decide +kernel
theorem dX7_most_76 : decode cX7_most 76 = .ok (.ldc 199, 2) := by decide +kernel
theorem dX7_most_78 : decode cX7_most 78 = .ok (.istore 6, 2) := by decide +kernel
theorem dX7_most_80 : decode cX7_most 80 = .ok (.iload 6, 2) := by decide +kernel
theorem dX7_most_82 : decode cX7_most 82 = .ok (.iload_n 3, 1) := by decide +kernel
theorem dX7_most_83 : decode cX7_most 83 = .ok (.if_icmp .ge 8, 3) := by decide +kernel
theorem dX7_most_86 : decode cX7_most 86 = .ok (.iload 5, 2) := by decide +kernel
theorem dX7_most_88 : decode cX7_most 88 = .ok (.goto 4, 3) := by decide +kernel
theorem dX7_most_91 : decode cX7_most 91 = .ok (.iload_n 2, 1) := by decide +kernel
theorem dX7_most_92 : decode cX7_most 92 = .ok (.istore_n 2, 1) := by decide +kernel
theorem dX7_most_93 : decode cX7_most 93 = .ok (.iload 6, 2) := by decide +kernel
theorem dX7_most_95 : decode cX7_most 95 = .ok (.iload_n 3, 1) := by decide +kernel
theorem dX7_most_96 : decode cX7_most 96 = .ok (.if_icmp .ge 8, 3) := by decide +kernel
theorem dX7_most_99 : decode cX7_most 99 = .ok (.iload 6, 2) := by decide +kernel
theorem dX7_most_101 : decode cX7_most 101 = .ok (.goto 4, 3) := by decide +kernel
theorem dX7_most_104 : decode cX7_most 104 = .ok (.iload_n 3, 1) := by decide +kernel
theorem dX7_most_105 : decode cX7_most 105 = .ok (.istore_n 3, 1) := by decide +kernel
theorem dX7_most_106 : decode cX7_most 106 = .ok (.iinc 5 1, 3) := by decide +kernel
theorem dX7_most_109 : decode cX7_most 109 = .ok (.goto (-65), 3) := by decide +kernel
theorem dX7_most_112 : decode cX7_most 112 = .ok (.iinc 4 (-1), 3) := by decide +kernel
theorem dX7_most_115 : decode cX7_most 115 = .ok (.goto (-85), 3) := by decide +kernel
theorem dX7_most_118 : decode cX7_most 118 = .ok (.iload_n 1, 1) := by decide +kernel
theorem dX7_most_119 : decode cX7_most 119 = .ok (.ifCond .ne 7, 3) := by decide +kernel
theorem dX7_most_122 : decode cX7_most 122 = .ok (.iload_n 2, 1) := by decide +kernel
theorem dX7_most_123 : decode cX7_most 123 = .ok (.goto 16, 3) := by decide +kernel
theorem dX7_most_126 : decode cX7_most 126 = .ok (.iload_n 1, 1) := by decide +kernel
theorem dX7_most_127 : decode cX7_most 127 = .ok (.iconst 1, 1) := by decide +kernel
theorem dX7_most_128 : decode cX7_most 128 = .ok (.if_icmp .ne 10, 3) := by decide +kernel
theorem dX7_most_131 : decode cX7_most 131 = .ok (.iload_n 2, 1) := by decide +kernel
theorem dX7_most_132 : decode cX7_most 132 = .ok (.invokestatic 190, 3) := by decide +kernel
theorem dX7_most_135 : decode cX7_most 135 = .ok (.goto 4, 3) := by decide +kernel
theorem dX7_most_138 : decode cX7_most 138 = .ok (.iload_n 3, 1) := by decide +kernel
theorem dX7_most_139 : decode cX7_most 139 = .ok (.ireturn, 1) := by decide +kernel
set_option maxRecDepth 20000 in
theorem ggX7_span_X7_isKnee : GoodIn wsX7_span wsX7_isKnee := goodIn_r _ [9, 10, 11, 12, 8, 13, 18, 19, 20, 21, 22, 23, 24, 25, 26, 27, 28, 29, 30, 31, 32, 33, 34, 35, 36, 37, 38, 39, 40, 41, 42, 43, 44, 45, 46, 47, 48, 49, 50, 51, 52] rfl (by decide +kernel)
set_option maxRecDepth 20000 in
theorem gX7_span_X7_isKnee : GoodIn wsX7_span (wsV RX7 170 RX7 yX7_isKnee wsX7_isKnee) := goodIn_app (goodIn_of _ (by decide +kernel)) ggX7_span_X7_isKnee
set_option maxRecDepth 20000 in
theorem ggX7_span_X7_isPerson : GoodIn wsX7_span wsX7_isPerson := goodIn_r _ [17, 10, 11, 12, 8, 13, 18, 19, 20, 21, 22, 23, 24, 25, 26, 27, 28, 29, 30, 31, 32, 33, 34, 35, 36, 37, 38, 39, 40, 41, 42, 43, 44, 45, 46, 47, 48, 49, 50, 51, 52] rfl (by decide +kernel)
set_option maxRecDepth 20000 in
theorem gX7_span_X7_isPerson : GoodIn wsX7_span (wsV RX7 173 RX7 yX7_isPerson wsX7_isPerson) := goodIn_app (goodIn_of _ (by decide +kernel)) ggX7_span_X7_isPerson
theorem dX7_span_0 : decode cX7_span 0 = .ok (.aload_n 0, 1) := by decide +kernel
theorem dX7_span_1 : decode cX7_span 1 = .ok (.iconst 0, 1) := by decide +kernel
theorem dX7_span_2 : decode cX7_span 2 = .ok (.putfield 80, 3) := by decide +kernel
theorem dX7_span_5 : decode cX7_span 5 = .ok (.aload_n 0, 1) := by decide +kernel
theorem dX7_span_6 : decode cX7_span 6 = .ok (.iload_n 1, 1) := by decide +kernel
theorem dX7_span_7 : decode cX7_span 7 = .ok (.invokevirtual 170, 3) := by decide +kernel
theorem dX7_span_10 : decode cX7_span 10 = .ok (.ifCond .eq 11, 3) := by decide +kernel
theorem dX7_span_13 : decode cX7_span 13 = .ok (.aload_n 0, 1) := by decide +kernel
theorem dX7_span_14 : decode cX7_span 14 = .ok (.iload_n 2, 1) := by decide +kernel
theorem dX7_span_15 : decode cX7_span 15 = .ok (.invokevirtual 173, 3) := by decide +kernel
theorem dX7_span_18 : decode cX7_span 18 = .ok (.ifCond .ne 5, 3) := by decide +kernel
theorem dX7_span_21 : decode cX7_span 21 = .ok (.iconst (-1), 1) := by decide +kernel
theorem dX7_span_22 : decode cX7_span 22 = .ok (.ireturn, 1) := by decide +kernel
theorem dX7_span_23 : decode cX7_span 23 = .ok (.aload_n 0, 1) := by decide +kernel
theorem dX7_span_24 : decode cX7_span 24 = .ok (.getfield 28, 3) := by decide +kernel
theorem dX7_span_27 : decode cX7_span 27 = .ok (.iload_n 2, 1) := by decide +kernel
theorem dX7_span_28 : decode cX7_span 28 = .ok (.iaload, 1) := by decide +kernel
theorem dX7_span_29 : decode cX7_span 29 = .ok (.iconst 2, 1) := by decide +kernel
theorem dX7_span_30 : decode cX7_span 30 = .ok (.aload_n 0, 1) := by decide +kernel
theorem dX7_span_31 : decode cX7_span 31 = .ok (.getfield 31, 3) := by decide +kernel
theorem dX7_span_34 : decode cX7_span 34 = .ok (.iload_n 2, 1) := by decide +kernel
theorem dX7_span_35 : decode cX7_span 35 = .ok (.iaload, 1) := by decide +kernel
theorem dX7_span_36 : decode cX7_span 36 = .ok (.imul, 1) := by decide +kernel
theorem dX7_span_37 : decode cX7_span 37 = .ok (.iadd, 1) := by decide +kernel
theorem dX7_span_38 : decode cX7_span 38 = .ok (.istore_n 3, 1) := by decide +kernel
theorem dX7_span_39 : decode cX7_span 39 = .ok (.iload_n 3, 1) := by decide +kernel
theorem dX7_span_40 : decode cX7_span 40 = .ok (.ifCond .ne 8, 3) := by decide +kernel
theorem dX7_span_43 : decode cX7_span 43 = .ok (.bipush (-9), 2) := by decide +kernel
theorem dX7_span_45 : decode cX7_span 45 = .ok (.goto 14, 3) := by decide +kernel
theorem dX7_span_48 : decode cX7_span 48 = .ok (.aload_n 0, 1) := by decide +kernel
theorem dX7_span_49 : decode cX7_span 49 = .ok (.getfield 43, 3) := by decide +kernel
theorem dX7_span_52 : decode cX7_span 52 = .ok (.bipush 11, 2) := by decide +kernel
theorem dX7_span_54 : decode cX7_span 54 = .ok (.iload_n 1, 1) := by decide +kernel
theorem dX7_span_55 : decode cX7_span 55 = .ok (.iadd, 1) := by decide +kernel
theorem dX7_span_56 : decode cX7_span 56 = .ok (.iaload, 1) := by decide +kernel
theorem dX7_span_57 : decode cX7_span 57 = .ok (.iload_n 3, 1) := by decide +kernel
theorem dX7_span_58 : decode cX7_span 58 = .ok (.idiv, 1) := by decide +kernel
theorem dX7_span_59 : decode cX7_span 59 = .ok (.ireturn, 1) := by decide +kernel
theorem dX7_gcd_0 : decode cX7_gcd 0 = .ok (.iload_n 0, 1) := by decide +kernel
theorem dX7_gcd_1 : decode cX7_gcd 1 = .ok (.istore_n 2, 1) := by decide +kernel
theorem dX7_gcd_2 : decode cX7_gcd 2 = .ok (.iload_n 1, 1) := by decide +kernel
theorem dX7_gcd_3 : decode cX7_gcd 3 = .ok (.istore_n 3, 1) := by decide +kernel
theorem dX7_gcd_4 : decode cX7_gcd 4 = .ok (.iload_n 3, 1) := by decide +kernel
theorem dX7_gcd_5 : decode cX7_gcd 5 = .ok (.ifCond .eq 16, 3) := by decide +kernel
theorem dX7_gcd_8 : decode cX7_gcd 8 = .ok (.iload_n 2, 1) := by decide +kernel
theorem dX7_gcd_9 : decode cX7_gcd 9 = .ok (.iload_n 3, 1) := by decide +kernel
theorem dX7_gcd_10 : decode cX7_gcd 10 = .ok (.irem, 1) := by decide +kernel
theorem dX7_gcd_11 : decode cX7_gcd 11 = .ok (.istore 4, 2) := by decide +kernel
theorem dX7_gcd_13 : decode cX7_gcd 13 = .ok (.iload_n 3, 1) := by decide +kernel
theorem dX7_gcd_14 : decode cX7_gcd 14 = .ok (.istore_n 2, 1) := by decide +kernel
theorem dX7_gcd_15 : decode cX7_gcd 15 = .ok (.iload 4, 2) := by decide +kernel
theorem dX7_gcd_17 : decode cX7_gcd 17 = .ok (.istore_n 3, 1) := by decide +kernel
theorem dX7_gcd_18 : decode cX7_gcd 18 = .ok (.goto (-14), 3) := by decide +kernel
theorem dX7_gcd_21 : decode cX7_gcd 21 = .ok (.iload_n 2, 1) := by decide +kernel
theorem dX7_gcd_22 : decode cX7_gcd 22 = .ok (.ireturn, 1) := by decide +kernel
set_option maxRecDepth 20000 in
theorem ggX7_gives_X7_isKnee : GoodIn wsX7_gives wsX7_isKnee := goodIn_r _ [7, 8, 9, 10, 6, 11, 15, 16, 17, 18, 19, 20, 21, 22, 23, 24, 25, 26, 27, 28, 29, 30, 31, 32, 33, 34, 35, 36, 37, 38, 39, 40, 41, 42, 43, 44, 45, 46, 47, 48, 49] rfl (by decide +kernel)
set_option maxRecDepth 20000 in
theorem gX7_gives_X7_isKnee : GoodIn wsX7_gives (wsV RX7 170 RX7 yX7_isKnee wsX7_isKnee) := goodIn_app (goodIn_of _ (by decide +kernel)) ggX7_gives_X7_isKnee
set_option maxRecDepth 20000 in
theorem ggX7_gives_X7_in : GoodIn wsX7_gives wsX7_in := goodIn_r _ [11] rfl (by decide +kernel)
set_option maxRecDepth 20000 in
theorem gX7_gives_X7_in : GoodIn wsX7_gives (va_wsS RX7 84 yX7_in wsX7_in) := goodIn_app (goodIn_of _ (by decide +kernel)) ggX7_gives_X7_in
set_option maxRecDepth 20000 in
theorem ggX7_gives_X7_gcd : GoodIn wsX7_gives wsX7_gcd := goodIn_r _ [14] rfl (by decide +kernel)
set_option maxRecDepth 20000 in
theorem gX7_gives_X7_gcd : GoodIn wsX7_gives (va_wsS RX7 226 yX7_gcd wsX7_gcd) := goodIn_app (goodIn_of _ (by decide +kernel)) ggX7_gives_X7_gcd
theorem dX7_gives_0 : decode cX7_gives 0 = .ok (.aload_n 0, 1) := by decide +kernel
theorem dX7_gives_1 : decode cX7_gives 1 = .ok (.iconst 0, 1) := by decide +kernel
theorem dX7_gives_2 : decode cX7_gives 2 = .ok (.putfield 80, 3) := by decide +kernel
theorem dX7_gives_5 : decode cX7_gives 5 = .ok (.aload_n 0, 1) := by decide +kernel
theorem dX7_gives_6 : decode cX7_gives 6 = .ok (.iload_n 1, 1) := by decide +kernel
theorem dX7_gives_7 : decode cX7_gives 7 = .ok (.invokevirtual 170, 3) := by decide +kernel
theorem dX7_gives_10 : decode cX7_gives 10 = .ok (.ifCond .eq 55, 3) := by decide +kernel
theorem dX7_gives_13 : decode cX7_gives 13 = .ok (.iload_n 2, 1) := by decide +kernel
theorem dX7_gives_14 : decode cX7_gives 14 = .ok (.iconst 0, 1) := by decide +kernel
theorem dX7_gives_15 : decode cX7_gives 15 = .ok (.bipush 6, 2) := by decide +kernel
theorem dX7_gives_17 : decode cX7_gives 17 = .ok (.invokestatic 84, 3) := by decide +kernel
theorem dX7_gives_20 : decode cX7_gives 20 = .ok (.ifCond .eq 45, 3) := by decide +kernel
theorem dX7_gives_23 : decode cX7_gives 23 = .ok (.iload_n 3, 1) := by decide +kernel
theorem dX7_gives_24 : decode cX7_gives 24 = .ok (.iconst 0, 1) := by decide +kernel
theorem dX7_gives_25 : decode cX7_gives 25 = .ok (.bipush 30, 2) := by decide +kernel
theorem dX7_gives_27 : decode cX7_gives 27 = .ok (.invokestatic 84, 3) := by decide +kernel
theorem dX7_gives_30 : decode cX7_gives 30 = .ok (.ifCond .eq 35, 3) := by decide +kernel
theorem dX7_gives_33 : decode cX7_gives 33 = .ok (.iload 4, 2) := by decide +kernel
theorem dX7_gives_35 : decode cX7_gives 35 = .ok (.iconst 0, 1) := by decide +kernel
theorem dX7_gives_36 : decode cX7_gives 36 = .ok (.bipush 30, 2) := by decide +kernel
theorem dX7_gives_38 : decode cX7_gives 38 = .ok (.invokestatic 84, 3) := by decide +kernel
theorem dX7_gives_41 : decode cX7_gives 41 = .ok (.ifCond .eq 24, 3) := by decide +kernel
theorem dX7_gives_44 : decode cX7_gives 44 = .ok (.iload 5, 2) := by decide +kernel
theorem dX7_gives_46 : decode cX7_gives 46 = .ok (.iconst 0, 1) := by decide +kernel
theorem dX7_gives_47 : decode cX7_gives 47 = .ok (.bipush 10, 2) := by decide +kernel
theorem dX7_gives_49 : decode cX7_gives 49 = .ok (.invokestatic 84, 3) := by decide +kernel
theorem dX7_gives_52 : decode cX7_gives 52 = .ok (.ifCond .eq 13, 3) := by decide +kernel
theorem dX7_gives_55 : decode cX7_gives 55 = .ok (.iload 6, 2) := by decide +kernel
theorem dX7_gives_57 : decode cX7_gives 57 = .ok (.iconst 0, 1) := by decide +kernel
theorem dX7_gives_58 : decode cX7_gives 58 = .ok (.iconst 1, 1) := by decide +kernel
theorem dX7_gives_59 : decode cX7_gives 59 = .ok (.invokestatic 84, 3) := by decide +kernel
theorem dX7_gives_62 : decode cX7_gives 62 = .ok (.ifCond .ne 5, 3) := by decide +kernel
theorem dX7_gives_65 : decode cX7_gives 65 = .ok (.iconst (-1), 1) := by decide +kernel
theorem dX7_gives_66 : decode cX7_gives 66 = .ok (.ireturn, 1) := by decide +kernel
theorem dX7_gives_67 : decode cX7_gives 67 = .ok (.iconst 0, 1) := by decide +kernel
theorem dX7_gives_68 : decode cX7_gives 68 = .ok (.istore 7, 2) := by decide +kernel
theorem dX7_gives_70 : decode cX7_gives 70 = .ok (.iconst 1, 1) := by decide +kernel
theorem dX7_gives_71 : decode cX7_gives 71 = .ok (.istore 8, 2) := by decide +kernel
theorem dX7_gives_73 : decode cX7_gives 73 = .ok (.iconst 0, 1) := by decide +kernel
theorem dX7_gives_74 : decode cX7_gives 74 = .ok (.istore 9, 2) := by decide +kernel
theorem dX7_gives_76 : decode cX7_gives 76 = .ok (.iload 9, 2) := by decide +kernel
theorem dX7_gives_78 : decode cX7_gives 78 = .ok (.iload_n 2, 1) := by decide +kernel
theorem dX7_gives_79 : decode cX7_gives 79 = .ok (.if_icmp .ge 16, 3) := by decide +kernel
theorem dX7_gives_82 : decode cX7_gives 82 = .ok (.iload 8, 2) := by decide +kernel
theorem dX7_gives_84 : decode cX7_gives 84 = .ok (.bipush 10, 2) := by decide +kernel
theorem dX7_gives_86 : decode cX7_gives 86 = .ok (.imul, 1) := by decide +kernel
theorem dX7_gives_87 : decode cX7_gives 87 = .ok (.istore 8, 2) := by decide +kernel
theorem dX7_gives_89 : decode cX7_gives 89 = .ok (.iinc 9 1, 3) := by decide +kernel
theorem dX7_gives_92 : decode cX7_gives 92 = .ok (.goto (-16), 3) := by decide +kernel
theorem dX7_gives_95 : decode cX7_gives 95 = .ok (.iconst 0, 1) := by decide +kernel
theorem dX7_gives_96 : decode cX7_gives 96 = .ok (.istore 9, 2) := by decide +kernel
theorem dX7_gives_98 : decode cX7_gives 98 = .ok (.iload 9, 2) := by decide +kernel
theorem dX7_gives_100 : decode cX7_gives 100 = .ok (.iconst 1, 1) := by decide +kernel
theorem dX7_gives_101 : decode cX7_gives 101 = .ok (.iload_n 2, 1) := by decide +kernel
theorem dX7_gives_102 : decode cX7_gives 102 = .ok (.ishl, 1) := by decide +kernel
theorem dX7_gives_103 : decode cX7_gives 103 = .ok (.if_icmp .ge 103, 3) := by decide +kernel
theorem dX7_gives_106 : decode cX7_gives 106 = .ok (.iconst 1, 1) := by decide +kernel
theorem dX7_gives_107 : decode cX7_gives 107 = .ok (.istore 10, 2) := by decide +kernel
theorem dX7_gives_109 : decode cX7_gives 109 = .ok (.iconst 0, 1) := by decide +kernel
theorem dX7_gives_110 : decode cX7_gives 110 = .ok (.istore 11, 2) := by decide +kernel
theorem dX7_gives_112 : decode cX7_gives 112 = .ok (.iconst 0, 1) := by decide +kernel
theorem dX7_gives_113 : decode cX7_gives 113 = .ok (.istore 12, 2) := by decide +kernel
theorem dX7_gives_115 : decode cX7_gives 115 = .ok (.iload 12, 2) := by decide +kernel
theorem dX7_gives_117 : decode cX7_gives 117 = .ok (.iload_n 2, 1) := by decide +kernel
theorem dX7_gives_118 : decode cX7_gives 118 = .ok (.if_icmp .ge 57, 3) := by decide +kernel
theorem dX7_gives_121 : decode cX7_gives 121 = .ok (.iload 10, 2) := by decide +kernel
theorem dX7_gives_123 : decode cX7_gives 123 = .ok (.iload 9, 2) := by decide +kernel
theorem dX7_gives_125 : decode cX7_gives 125 = .ok (.iload 12, 2) := by decide +kernel
theorem dX7_gives_127 : decode cX7_gives 127 = .ok (.ishr, 1) := by decide +kernel
theorem dX7_gives_128 : decode cX7_gives 128 = .ok (.iconst 1, 1) := by decide +kernel
theorem dX7_gives_129 : decode cX7_gives 129 = .ok (.iand, 1) := by decide +kernel
theorem dX7_gives_130 : decode cX7_gives 130 = .ok (.iconst 1, 1) := by decide +kernel
theorem dX7_gives_131 : decode cX7_gives 131 = .ok (.if_icmp .ne 8, 3) := by decide +kernel
theorem dX7_gives_134 : decode cX7_gives 134 = .ok (.iload 5, 2) := by decide +kernel
theorem dX7_gives_136 : decode cX7_gives 136 = .ok (.goto 8, 3) := by decide +kernel
theorem dX7_gives_139 : decode cX7_gives 139 = .ok (.bipush 10, 2) := by decide +kernel
theorem dX7_gives_141 : decode cX7_gives 141 = .ok (.iload 5, 2) := by decide +kernel
theorem dX7_gives_143 : decode cX7_gives 143 = .ok (.isub, 1) := by decide +kernel
theorem dX7_gives_144 : decode cX7_gives 144 = .ok (.imul, 1) := by decide +kernel
theorem dX7_gives_145 : decode cX7_gives 145 = .ok (.istore 10, 2) := by decide +kernel
theorem dX7_gives_147 : decode cX7_gives 147 = .ok (.iload 11, 2) := by decide +kernel
theorem dX7_gives_149 : decode cX7_gives 149 = .ok (.iload 9, 2) := by decide +kernel
theorem dX7_gives_151 : decode cX7_gives 151 = .ok (.iload 12, 2) := by decide +kernel
theorem dX7_gives_153 : decode cX7_gives 153 = .ok (.ishr, 1) := by decide +kernel
theorem dX7_gives_154 : decode cX7_gives 154 = .ok (.iconst 1, 1) := by decide +kernel
theorem dX7_gives_155 : decode cX7_gives 155 = .ok (.iand, 1) := by decide +kernel
theorem dX7_gives_156 : decode cX7_gives 156 = .ok (.iconst 1, 1) := by decide +kernel
theorem dX7_gives_157 : decode cX7_gives 157 = .ok (.if_icmp .ne 7, 3) := by decide +kernel
theorem dX7_gives_160 : decode cX7_gives 160 = .ok (.iload_n 3, 1) := by decide +kernel
theorem dX7_gives_161 : decode cX7_gives 161 = .ok (.goto 5, 3) := by decide +kernel
theorem dX7_gives_164 : decode cX7_gives 164 = .ok (.iload 4, 2) := by decide +kernel
theorem dX7_gives_166 : decode cX7_gives 166 = .ok (.iadd, 1) := by decide +kernel
theorem dX7_gives_167 : decode cX7_gives 167 = .ok (.istore 11, 2) := by decide +kernel
theorem dX7_gives_169 : decode cX7_gives 169 = .ok (.iinc 12 1, 3) := by decide +kernel
theorem dX7_gives_172 : decode cX7_gives 172 = .ok (.goto (-57), 3) := by decide +kernel
theorem dX7_gives_175 : decode cX7_gives 175 = .ok (.iload 7, 2) := by decide +kernel
theorem dX7_gives_177 : decode cX7_gives 177 = .ok (.iload 11, 2) := by decide +kernel
theorem dX7_gives_179 : decode cX7_gives 179 = .ok (.aload_n 0, 1) := by decide +kernel
theorem dX7_gives_180 : decode cX7_gives 180 = .ok (.getfield 43, 3) := by decide +kernel
theorem dX7_gives_183 : decode cX7_gives 183 = .ok (.bipush 11, 2) := by decide +kernel
theorem dX7_gives_185 : decode cX7_gives 185 = .ok (.iload_n 1, 1) := by decide +kernel
theorem dX7_gives_186 : decode cX7_gives 186 = .ok (.iadd, 1) := by decide +kernel
theorem dX7_gives_187 : decode cX7_gives 187 = .ok (.iaload, 1) := by decide +kernel
theorem dX7_gives_188 : decode cX7_gives 188 = .ok (.if_icmp .le 8, 3) := by decide +kernel
theorem dX7_gives_191 : decode cX7_gives 191 = .ok (.iload 10, 2) := by decide +kernel
theorem dX7_gives_193 : decode cX7_gives 193 = .ok (.goto 4, 3) := by decide +kernel
theorem dX7_gives_196 : decode cX7_gives 196 = .ok (.iconst 0, 1) := by decide +kernel
theorem dX7_gives_197 : decode cX7_gives 197 = .ok (.iadd, 1) := by decide +kernel
theorem dX7_gives_198 : decode cX7_gives 198 = .ok (.istore 7, 2) := by decide +kernel
theorem dX7_gives_200 : decode cX7_gives 200 = .ok (.iinc 9 1, 3) := by decide +kernel
theorem dX7_gives_203 : decode cX7_gives 203 = .ok (.goto (-105), 3) := by decide +kernel
theorem dX7_gives_206 : decode cX7_gives 206 = .ok (.iload 7, 2) := by decide +kernel
theorem dX7_gives_208 : decode cX7_gives 208 = .ok (.iload 8, 2) := by decide +kernel
theorem dX7_gives_210 : decode cX7_gives 210 = .ok (.invokestatic 226, 3) := by decide +kernel
theorem dX7_gives_213 : decode cX7_gives 213 = .ok (.istore 9, 2) := by decide +kernel
theorem dX7_gives_215 : decode cX7_gives 215 = .ok (.iload 6, 2) := by decide +kernel
theorem dX7_gives_217 : decode cX7_gives 217 = .ok (.ifCond .ne 11, 3) := by decide +kernel
theorem dX7_gives_220 : decode cX7_gives 220 = .ok (.iload 7, 2) := by decide +kernel
theorem dX7_gives_222 : decode cX7_gives 222 = .ok (.iload 9, 2) := by decide +kernel
theorem dX7_gives_224 : decode cX7_gives 224 = .ok (.idiv, 1) := by decide +kernel
theorem dX7_gives_225 : decode cX7_gives 225 = .ok (.goto 8, 3) := by decide +kernel
theorem dX7_gives_228 : decode cX7_gives 228 = .ok (.iload 8, 2) := by decide +kernel
theorem dX7_gives_230 : decode cX7_gives 230 = .ok (.iload 9, 2) := by decide +kernel
theorem dX7_gives_232 : decode cX7_gives 232 = .ok (.idiv, 1) := by decide +kernel
theorem dX7_gives_233 : decode cX7_gives 233 = .ok (.ireturn, 1) := by decide +kernel
set_option maxRecDepth 20000 in
theorem ggX7_tells_X7_isPerson : GoodIn wsX7_tells wsX7_isPerson := goodIn_r _ [10, 11, 12, 13, 9, 14, 15, 16, 17, 18, 19, 20, 21, 22, 23, 24, 25, 26, 27, 28, 29, 30, 31, 32, 33, 34, 35, 36, 37, 38, 39, 40, 41, 42, 43, 44, 45, 46, 47, 48, 49] rfl (by decide +kernel)
set_option maxRecDepth 20000 in
theorem gX7_tells_X7_isPerson : GoodIn wsX7_tells (wsV RX7 173 RX7 yX7_isPerson wsX7_isPerson) := goodIn_app (goodIn_of _ (by decide +kernel)) ggX7_tells_X7_isPerson
set_option maxRecDepth 20000 in
theorem ggX7_tells_X7_in : GoodIn wsX7_tells wsX7_in := goodIn_r _ [14] rfl (by decide +kernel)
set_option maxRecDepth 20000 in
theorem gX7_tells_X7_in : GoodIn wsX7_tells (va_wsS RX7 84 yX7_in wsX7_in) := goodIn_app (goodIn_of _ (by decide +kernel)) ggX7_tells_X7_in
theorem dX7_tells_0 : decode cX7_tells 0 = .ok (.aload_n 0, 1) := by decide +kernel
theorem dX7_tells_1 : decode cX7_tells 1 = .ok (.iconst 0, 1) := by decide +kernel
theorem dX7_tells_2 : decode cX7_tells 2 = .ok (.putfield 80, 3) := by decide +kernel
theorem dX7_tells_5 : decode cX7_tells 5 = .ok (.aload_n 0, 1) := by decide +kernel
theorem dX7_tells_6 : decode cX7_tells 6 = .ok (.iload_n 1, 1) := by decide +kernel
theorem dX7_tells_7 : decode cX7_tells 7 = .ok (.invokevirtual 173, 3) := by decide +kernel
theorem dX7_tells_10 : decode cX7_tells 10 = .ok (.ifCond .eq 23, 3) := by decide +kernel
theorem dX7_tells_13 : decode cX7_tells 13 = .ok (.iload_n 2, 1) := by decide +kernel
theorem dX7_tells_14 : decode cX7_tells 14 = .ok (.iconst 0, 1) := by decide +kernel
theorem dX7_tells_15 : decode cX7_tells 15 = .ok (.bipush 40, 2) := by decide +kernel
theorem dX7_tells_17 : decode cX7_tells 17 = .ok (.invokestatic 84, 3) := by decide +kernel
theorem dX7_tells_20 : decode cX7_tells 20 = .ok (.ifCond .eq 13, 3) := by decide +kernel
theorem dX7_tells_23 : decode cX7_tells 23 = .ok (.iload_n 3, 1) := by decide +kernel
theorem dX7_tells_24 : decode cX7_tells 24 = .ok (.iconst 0, 1) := by decide +kernel
theorem dX7_tells_25 : decode cX7_tells 25 = .ok (.bipush 80, 2) := by decide +kernel
theorem dX7_tells_27 : decode cX7_tells 27 = .ok (.invokestatic 84, 3) := by decide +kernel
theorem dX7_tells_30 : decode cX7_tells 30 = .ok (.ifCond .ne 5, 3) := by decide +kernel
theorem dX7_tells_33 : decode cX7_tells 33 = .ok (.iconst (-1), 1) := by decide +kernel
theorem dX7_tells_34 : decode cX7_tells 34 = .ok (.ireturn, 1) := by decide +kernel
theorem dX7_tells_35 : decode cX7_tells 35 = .ok (.aload_n 0, 1) := by decide +kernel
theorem dX7_tells_36 : decode cX7_tells 36 = .ok (.getfield 135, 3) := by decide +kernel
theorem dX7_tells_39 : decode cX7_tells 39 = .ok (.bipush 6, 2) := by decide +kernel
theorem dX7_tells_41 : decode cX7_tells 41 = .ok (.if_icmp .ne 6, 3) := by decide +kernel
theorem dX7_tells_44 : decode cX7_tells 44 = .ok (.bipush (-3), 2) := by decide +kernel
theorem dX7_tells_46 : decode cX7_tells 46 = .ok (.ireturn, 1) := by decide +kernel
theorem dX7_tells_47 : decode cX7_tells 47 = .ok (.aload_n 0, 1) := by decide +kernel
theorem dX7_tells_48 : decode cX7_tells 48 = .ok (.getfield 56, 3) := by decide +kernel
theorem dX7_tells_51 : decode cX7_tells 51 = .ok (.aload_n 0, 1) := by decide +kernel
theorem dX7_tells_52 : decode cX7_tells 52 = .ok (.getfield 135, 3) := by decide +kernel
theorem dX7_tells_55 : decode cX7_tells 55 = .ok (.iload_n 1, 1) := by decide +kernel
theorem dX7_tells_56 : decode cX7_tells 56 = .ok (.iastore, 1) := by decide +kernel
theorem dX7_tells_57 : decode cX7_tells 57 = .ok (.aload_n 0, 1) := by decide +kernel
theorem dX7_tells_58 : decode cX7_tells 58 = .ok (.getfield 59, 3) := by decide +kernel
theorem dX7_tells_61 : decode cX7_tells 61 = .ok (.aload_n 0, 1) := by decide +kernel
theorem dX7_tells_62 : decode cX7_tells 62 = .ok (.getfield 135, 3) := by decide +kernel
theorem dX7_tells_65 : decode cX7_tells 65 = .ok (.iload_n 2, 1) := by decide +kernel
theorem dX7_tells_66 : decode cX7_tells 66 = .ok (.iastore, 1) := by decide +kernel
theorem dX7_tells_67 : decode cX7_tells 67 = .ok (.aload_n 0, 1) := by decide +kernel
theorem dX7_tells_68 : decode cX7_tells 68 = .ok (.getfield 62, 3) := by decide +kernel
theorem dX7_tells_71 : decode cX7_tells 71 = .ok (.aload_n 0, 1) := by decide +kernel
theorem dX7_tells_72 : decode cX7_tells 72 = .ok (.getfield 135, 3) := by decide +kernel
theorem dX7_tells_75 : decode cX7_tells 75 = .ok (.iload_n 3, 1) := by decide +kernel
theorem dX7_tells_76 : decode cX7_tells 76 = .ok (.iastore, 1) := by decide +kernel
theorem dX7_tells_77 : decode cX7_tells 77 = .ok (.aload_n 0, 1) := by decide +kernel
theorem dX7_tells_78 : decode cX7_tells 78 = .ok (.dup, 1) := by decide +kernel
theorem dX7_tells_79 : decode cX7_tells 79 = .ok (.getfield 135, 3) := by decide +kernel
theorem dX7_tells_82 : decode cX7_tells 82 = .ok (.iconst 1, 1) := by decide +kernel
theorem dX7_tells_83 : decode cX7_tells 83 = .ok (.iadd, 1) := by decide +kernel
theorem dX7_tells_84 : decode cX7_tells 84 = .ok (.putfield 135, 3) := by decide +kernel
theorem dX7_tells_87 : decode cX7_tells 87 = .ok (.aload_n 0, 1) := by decide +kernel
theorem dX7_tells_88 : decode cX7_tells 88 = .ok (.getfield 135, 3) := by decide +kernel
theorem dX7_tells_91 : decode cX7_tells 91 = .ok (.ireturn, 1) := by decide +kernel
set_option maxRecDepth 20000 in
theorem ggX7_downhill_X7_in : GoodIn wsX7_downhill wsX7_in := goodIn_r _ [9] rfl (by decide +kernel)
set_option maxRecDepth 20000 in
theorem gX7_downhill_X7_in : GoodIn wsX7_downhill (va_wsS RX7 84 yX7_in wsX7_in) := goodIn_app (goodIn_of _ (by decide +kernel)) ggX7_downhill_X7_in
theorem dX7_downhill_0 : decode cX7_downhill 0 = .ok (.aload_n 0, 1) := by decide +kernel
theorem dX7_downhill_1 : decode cX7_downhill 1 = .ok (.iconst 0, 1) := by decide +kernel
theorem dX7_downhill_2 : decode cX7_downhill 2 = .ok (.putfield 80, 3) := by decide +kernel
theorem dX7_downhill_5 : decode cX7_downhill 5 = .ok (.iload_n 1, 1) := by decide +kernel
theorem dX7_downhill_6 : decode cX7_downhill 6 = .ok (.iconst 0, 1) := by decide +kernel
theorem dX7_downhill_7 : decode cX7_downhill 7 = .ok (.iconst 1, 1) := by decide +kernel
theorem dX7_downhill_8 : decode cX7_downhill 8 = .ok (.invokestatic 84, 3) := by decide +kernel
theorem dX7_downhill_11 : decode cX7_downhill 11 = .ok (.ifCond .ne 5, 3) := by decide +kernel
theorem dX7_downhill_14 : decode cX7_downhill 14 = .ok (.iconst (-1), 1) := by decide +kernel
theorem dX7_downhill_15 : decode cX7_downhill 15 = .ok (.ireturn, 1) := by decide +kernel
theorem dX7_downhill_16 : decode cX7_downhill 16 = .ok (.iconst 0, 1) := by decide +kernel
theorem dX7_downhill_17 : decode cX7_downhill 17 = .ok (.istore_n 2, 1) := by decide +kernel
theorem dX7_downhill_18 : decode cX7_downhill 18 = .ok (.iconst 0, 1) := by decide +kernel
theorem dX7_downhill_19 : decode cX7_downhill 19 = .ok (.istore_n 3, 1) := by decide +kernel
theorem dX7_downhill_20 : decode cX7_downhill 20 = .ok (.iconst 0, 1) := by decide +kernel
theorem dX7_downhill_21 : decode cX7_downhill 21 = .ok (.istore 4, 2) := by decide +kernel
theorem dX7_downhill_23 : decode cX7_downhill 23 = .ok (.iload 4, 2) := by decide +kernel
theorem dX7_downhill_25 : decode cX7_downhill 25 = .ok (.aload_n 0, 1) := by decide +kernel
theorem dX7_downhill_26 : decode cX7_downhill 26 = .ok (.getfield 135, 3) := by decide +kernel
theorem dX7_downhill_29 : decode cX7_downhill 29 = .ok (.if_icmp .ge 88, 3) := by decide +kernel
theorem dX7_downhill_32 : decode cX7_downhill 32 = .ok (.aload_n 0, 1) := by decide +kernel
theorem dX7_downhill_33 : decode cX7_downhill 33 = .ok (.getfield 62, 3) := by decide +kernel
theorem dX7_downhill_36 : decode cX7_downhill 36 = .ok (.iload 4, 2) := by decide +kernel
theorem dX7_downhill_38 : decode cX7_downhill 38 = .ok (.iaload, 1) := by decide +kernel
theorem dX7_downhill_39 : decode cX7_downhill 39 = .ok (.aload_n 0, 1) := by decide +kernel
theorem dX7_downhill_40 : decode cX7_downhill 40 = .ok (.getfield 59, 3) := by decide +kernel
theorem dX7_downhill_43 : decode cX7_downhill 43 = .ok (.iload 4, 2) := by decide +kernel
theorem dX7_downhill_45 : decode cX7_downhill 45 = .ok (.iaload, 1) := by decide +kernel
theorem dX7_downhill_46 : decode cX7_downhill 46 = .ok (.isub, 1) := by decide +kernel
theorem dX7_downhill_47 : decode cX7_downhill 47 = .ok (.istore 5, 2) := by decide +kernel
theorem dX7_downhill_49 : decode cX7_downhill 49 = .ok (.iload 5, 2) := by decide +kernel
theorem dX7_downhill_51 : decode cX7_downhill 51 = .ok (.iconst 0, 1) := by decide +kernel
theorem dX7_downhill_52 : decode cX7_downhill 52 = .ok (.aload_n 0, 1) := by decide +kernel
theorem dX7_downhill_53 : decode cX7_downhill 53 = .ok (.getfield 59, 3) := by decide +kernel
theorem dX7_downhill_56 : decode cX7_downhill 56 = .ok (.iload 4, 2) := by decide +kernel
theorem dX7_downhill_58 : decode cX7_downhill 58 = .ok (.iaload, 1) := by decide +kernel
theorem dX7_downhill_59 : decode cX7_downhill 59 = .ok (.invokestatic 84, 3) := by decide +kernel
theorem dX7_downhill_62 : decode cX7_downhill 62 = .ok (.istore 6, 2) := by decide +kernel
theorem dX7_downhill_64 : decode cX7_downhill 64 = .ok (.iload_n 2, 1) := by decide +kernel
theorem dX7_downhill_65 : decode cX7_downhill 65 = .ok (.iload 6, 2) := by decide +kernel
theorem dX7_downhill_67 : decode cX7_downhill 67 = .ok (.ifCond .eq 20, 3) := by decide +kernel
theorem dX7_downhill_70 : decode cX7_downhill 70 = .ok (.iload 5, 2) := by decide +kernel
theorem dX7_downhill_72 : decode cX7_downhill 72 = .ok (.ifCond .le 15, 3) := by decide +kernel
theorem dX7_downhill_75 : decode cX7_downhill 75 = .ok (.iconst 1, 1) := by decide +kernel
theorem dX7_downhill_76 : decode cX7_downhill 76 = .ok (.aload_n 0, 1) := by decide +kernel
theorem dX7_downhill_77 : decode cX7_downhill 77 = .ok (.getfield 56, 3) := by decide +kernel
theorem dX7_downhill_80 : decode cX7_downhill 80 = .ok (.iload 4, 2) := by decide +kernel
theorem dX7_downhill_82 : decode cX7_downhill 82 = .ok (.iaload, 1) := by decide +kernel
theorem dX7_downhill_83 : decode cX7_downhill 83 = .ok (.ishl, 1) := by decide +kernel
theorem dX7_downhill_84 : decode cX7_downhill 84 = .ok (.goto 4, 3) := by decide +kernel
theorem dX7_downhill_87 : decode cX7_downhill 87 = .ok (.iconst 0, 1) := by decide +kernel
theorem dX7_downhill_88 : decode cX7_downhill 88 = .ok (.ior, 1) := by decide +kernel
theorem dX7_downhill_89 : decode cX7_downhill 89 = .ok (.istore_n 2, 1) := by decide +kernel
theorem dX7_downhill_90 : decode cX7_downhill 90 = .ok (.iload_n 3, 1) := by decide +kernel
theorem dX7_downhill_91 : decode cX7_downhill 91 = .ok (.iload 6, 2) := by decide +kernel
theorem dX7_downhill_93 : decode cX7_downhill 93 = .ok (.ifCond .eq 7, 3) := by decide +kernel
theorem dX7_downhill_96 : decode cX7_downhill 96 = .ok (.iconst 0, 1) := by decide +kernel
theorem dX7_downhill_97 : decode cX7_downhill 97 = .ok (.goto 12, 3) := by decide +kernel
theorem dX7_downhill_100 : decode cX7_downhill 100 = .ok (.iconst 1, 1) := by decide +kernel
theorem dX7_downhill_101 : decode cX7_downhill 101 = .ok (.aload_n 0, 1) := by decide +kernel
theorem dX7_downhill_102 : decode cX7_downhill 102 = .ok (.getfield 56, 3) := by decide +kernel
theorem dX7_downhill_105 : decode cX7_downhill 105 = .ok (.iload 4, 2) := by decide +kernel
theorem dX7_downhill_107 : decode cX7_downhill 107 = .ok (.iaload, 1) := by decide +kernel
theorem dX7_downhill_108 : decode cX7_downhill 108 = .ok (.ishl, 1) := by decide +kernel
theorem dX7_downhill_109 : decode cX7_downhill 109 = .ok (.ior, 1) := by decide +kernel
theorem dX7_downhill_110 : decode cX7_downhill 110 = .ok (.istore_n 3, 1) := by decide +kernel
theorem dX7_downhill_111 : decode cX7_downhill 111 = .ok (.iinc 4 1, 3) := by decide +kernel
theorem dX7_downhill_114 : decode cX7_downhill 114 = .ok (.goto (-91), 3) := by decide +kernel
theorem dX7_downhill_117 : decode cX7_downhill 117 = .ok (.iload_n 1, 1) := by decide +kernel
theorem dX7_downhill_118 : decode cX7_downhill 118 = .ok (.ifCond .ne 7, 3) := by decide +kernel
theorem dX7_downhill_121 : decode cX7_downhill 121 = .ok (.iload_n 2, 1) := by decide +kernel
theorem dX7_downhill_122 : decode cX7_downhill 122 = .ok (.goto 4, 3) := by decide +kernel
theorem dX7_downhill_125 : decode cX7_downhill 125 = .ok (.iload_n 3, 1) := by decide +kernel
theorem dX7_downhill_126 : decode cX7_downhill 126 = .ok (.ireturn, 1) := by decide +kernel
set_option maxRecDepth 20000 in
theorem ggX7_felt_X7_in : GoodIn wsX7_felt wsX7_in := goodIn_r _ [8] rfl (by decide +kernel)
set_option maxRecDepth 20000 in
theorem gX7_felt_X7_in : GoodIn wsX7_felt (va_wsS RX7 84 yX7_in wsX7_in) := goodIn_app (goodIn_of _ (by decide +kernel)) ggX7_felt_X7_in
theorem dX7_felt_0 : decode cX7_felt 0 = .ok (.aload_n 0, 1) := by decide +kernel
theorem dX7_felt_1 : decode cX7_felt 1 = .ok (.iconst 0, 1) := by decide +kernel
theorem dX7_felt_2 : decode cX7_felt 2 = .ok (.putfield 80, 3) := by decide +kernel
theorem dX7_felt_5 : decode cX7_felt 5 = .ok (.iload_n 1, 1) := by decide +kernel
theorem dX7_felt_6 : decode cX7_felt 6 = .ok (.iconst 0, 1) := by decide +kernel
theorem dX7_felt_7 : decode cX7_felt 7 = .ok (.iconst 4, 1) := by decide +kernel
theorem dX7_felt_8 : decode cX7_felt 8 = .ok (.invokestatic 84, 3) := by decide +kernel
theorem dX7_felt_11 : decode cX7_felt 11 = .ok (.ifCond .eq 12, 3) := by decide +kernel
theorem dX7_felt_14 : decode cX7_felt 14 = .ok (.iload_n 2, 1) := by decide +kernel
theorem dX7_felt_15 : decode cX7_felt 15 = .ok (.iconst 0, 1) := by decide +kernel
theorem dX7_felt_16 : decode cX7_felt 16 = .ok (.iconst 1, 1) := by decide +kernel
theorem dX7_felt_17 : decode cX7_felt 17 = .ok (.invokestatic 84, 3) := by decide +kernel
theorem dX7_felt_20 : decode cX7_felt 20 = .ok (.ifCond .ne 5, 3) := by decide +kernel
theorem dX7_felt_23 : decode cX7_felt 23 = .ok (.iconst (-1), 1) := by decide +kernel
theorem dX7_felt_24 : decode cX7_felt 24 = .ok (.ireturn, 1) := by decide +kernel
theorem dX7_felt_25 : decode cX7_felt 25 = .ok (.aload_n 0, 1) := by decide +kernel
theorem dX7_felt_26 : decode cX7_felt 26 = .ok (.getfield 138, 3) := by decide +kernel
theorem dX7_felt_29 : decode cX7_felt 29 = .ok (.iconst 5, 1) := by decide +kernel
theorem dX7_felt_30 : decode cX7_felt 30 = .ok (.if_icmp .ne 6, 3) := by decide +kernel
theorem dX7_felt_33 : decode cX7_felt 33 = .ok (.bipush (-3), 2) := by decide +kernel
theorem dX7_felt_35 : decode cX7_felt 35 = .ok (.ireturn, 1) := by decide +kernel
theorem dX7_felt_36 : decode cX7_felt 36 = .ok (.aload_n 0, 1) := by decide +kernel
theorem dX7_felt_37 : decode cX7_felt 37 = .ok (.getfield 65, 3) := by decide +kernel
theorem dX7_felt_40 : decode cX7_felt 40 = .ok (.aload_n 0, 1) := by decide +kernel
theorem dX7_felt_41 : decode cX7_felt 41 = .ok (.getfield 138, 3) := by decide +kernel
theorem dX7_felt_44 : decode cX7_felt 44 = .ok (.iload_n 1, 1) := by decide +kernel
theorem dX7_felt_45 : decode cX7_felt 45 = .ok (.iastore, 1) := by decide +kernel
theorem dX7_felt_46 : decode cX7_felt 46 = .ok (.aload_n 0, 1) := by decide +kernel
theorem dX7_felt_47 : decode cX7_felt 47 = .ok (.getfield 68, 3) := by decide +kernel
theorem dX7_felt_50 : decode cX7_felt 50 = .ok (.aload_n 0, 1) := by decide +kernel
theorem dX7_felt_51 : decode cX7_felt 51 = .ok (.getfield 138, 3) := by decide +kernel
theorem dX7_felt_54 : decode cX7_felt 54 = .ok (.iload_n 2, 1) := by decide +kernel
theorem dX7_felt_55 : decode cX7_felt 55 = .ok (.iastore, 1) := by decide +kernel
theorem dX7_felt_56 : decode cX7_felt 56 = .ok (.aload_n 0, 1) := by decide +kernel
theorem dX7_felt_57 : decode cX7_felt 57 = .ok (.dup, 1) := by decide +kernel
theorem dX7_felt_58 : decode cX7_felt 58 = .ok (.getfield 138, 3) := by decide +kernel
theorem dX7_felt_61 : decode cX7_felt 61 = .ok (.iconst 1, 1) := by decide +kernel
theorem dX7_felt_62 : decode cX7_felt 62 = .ok (.iadd, 1) := by decide +kernel
theorem dX7_felt_63 : decode cX7_felt 63 = .ok (.putfield 138, 3) := by decide +kernel
theorem dX7_felt_66 : decode cX7_felt 66 = .ok (.aload_n 0, 1) := by decide +kernel
theorem dX7_felt_67 : decode cX7_felt 67 = .ok (.getfield 138, 3) := by decide +kernel
theorem dX7_felt_70 : decode cX7_felt 70 = .ok (.ireturn, 1) := by decide +kernel
theorem dX7_feels_0 : decode cX7_feels 0 = .ok (.iconst 0, 1) := by decide +kernel
theorem dX7_feels_1 : decode cX7_feels 1 = .ok (.istore_n 3, 1) := by decide +kernel
theorem dX7_feels_2 : decode cX7_feels 2 = .ok (.iconst 0, 1) := by decide +kernel
theorem dX7_feels_3 : decode cX7_feels 3 = .ok (.istore 4, 2) := by decide +kernel
theorem dX7_feels_5 : decode cX7_feels 5 = .ok (.iload 4, 2) := by decide +kernel
theorem dX7_feels_7 : decode cX7_feels 7 = .ok (.aload_n 0, 1) := by decide +kernel
theorem dX7_feels_8 : decode cX7_feels 8 = .ok (.getfield 13, 3) := by decide +kernel
theorem dX7_feels_11 : decode cX7_feels 11 = .ok (.iconst 0, 1) := by decide +kernel
theorem dX7_feels_12 : decode cX7_feels 12 = .ok (.iaload, 1) := by decide +kernel
theorem dX7_feels_13 : decode cX7_feels 13 = .ok (.if_icmp .ge 61, 3) := by decide +kernel
theorem dX7_feels_16 : decode cX7_feels 16 = .ok (.iload_n 3, 1) := by decide +kernel
theorem dX7_feels_17 : decode cX7_feels 17 = .ok (.ifCond .ne 45, 3) := by decide +kernel
theorem dX7_feels_20 : decode cX7_feels 20 = .ok (.aload_n 0, 1) := by decide +kernel
theorem dX7_feels_21 : decode cX7_feels 21 = .ok (.getfield 19, 3) := by decide +kernel
theorem dX7_feels_24 : decode cX7_feels 24 = .ok (.iload 4, 2) := by decide +kernel
theorem dX7_feels_26 : decode cX7_feels 26 = .ok (.iaload, 1) := by decide +kernel
theorem dX7_feels_27 : decode cX7_feels 27 = .ok (.iload_n 1, 1) := by decide +kernel
theorem dX7_feels_28 : decode cX7_feels 28 = .ok (.if_icmp .ne 38, 3) := by decide +kernel
theorem dX7_feels_31 : decode cX7_feels 31 = .ok (.aload_n 0, 1) := by decide +kernel
theorem dX7_feels_32 : decode cX7_feels 32 = .ok (.getfield 43, 3) := by decide +kernel
theorem dX7_feels_35 : decode cX7_feels 35 = .ok (.iconst 1, 1) := by decide +kernel
theorem dX7_feels_36 : decode cX7_feels 36 = .ok (.iload 4, 2) := by decide +kernel
theorem dX7_feels_38 : decode cX7_feels 38 = .ok (.iadd, 1) := by decide +kernel
theorem dX7_feels_39 : decode cX7_feels 39 = .ok (.iaload, 1) := by decide +kernel
theorem dX7_feels_40 : decode cX7_feels 40 = .ok (.ifCond .le 26, 3) := by decide +kernel
theorem dX7_feels_43 : decode cX7_feels 43 = .ok (.iload_n 2, 1) := by decide +kernel
theorem dX7_feels_44 : decode cX7_feels 44 = .ok (.aload_n 0, 1) := by decide +kernel
theorem dX7_feels_45 : decode cX7_feels 45 = .ok (.getfield 43, 3) := by decide +kernel
theorem dX7_feels_48 : decode cX7_feels 48 = .ok (.iconst 1, 1) := by decide +kernel
theorem dX7_feels_49 : decode cX7_feels 49 = .ok (.iload 4, 2) := by decide +kernel
theorem dX7_feels_51 : decode cX7_feels 51 = .ok (.iadd, 1) := by decide +kernel
theorem dX7_feels_52 : decode cX7_feels 52 = .ok (.iaload, 1) := by decide +kernel
theorem dX7_feels_53 : decode cX7_feels 53 = .ok (.iconst 1, 1) := by decide +kernel
theorem dX7_feels_54 : decode cX7_feels 54 = .ok (.isub, 1) := by decide +kernel
theorem dX7_feels_55 : decode cX7_feels 55 = .ok (.ishr, 1) := by decide +kernel
theorem dX7_feels_56 : decode cX7_feels 56 = .ok (.iconst 1, 1) := by decide +kernel
theorem dX7_feels_57 : decode cX7_feels 57 = .ok (.iand, 1) := by decide +kernel
theorem dX7_feels_58 : decode cX7_feels 58 = .ok (.iconst 1, 1) := by decide +kernel
theorem dX7_feels_59 : decode cX7_feels 59 = .ok (.if_icmp .ne 7, 3) := by decide +kernel
theorem dX7_feels_62 : decode cX7_feels 62 = .ok (.iconst 1, 1) := by decide +kernel
theorem dX7_feels_63 : decode cX7_feels 63 = .ok (.goto 4, 3) := by decide +kernel
theorem dX7_feels_66 : decode cX7_feels 66 = .ok (.iconst 0, 1) := by decide +kernel
theorem dX7_feels_67 : decode cX7_feels 67 = .ok (.istore_n 3, 1) := by decide +kernel
theorem dX7_feels_68 : decode cX7_feels 68 = .ok (.iinc 4 1, 3) := by decide +kernel
theorem dX7_feels_71 : decode cX7_feels 71 = .ok (.goto (-66), 3) := by decide +kernel
theorem dX7_feels_74 : decode cX7_feels 74 = .ok (.iload_n 3, 1) := by decide +kernel
theorem dX7_feels_75 : decode cX7_feels 75 = .ok (.ireturn, 1) := by decide +kernel
set_option maxRecDepth 20000 in
theorem ggX7_rain_X7_in : GoodIn wsX7_rain wsX7_in := goodIn_r _ [10] rfl (by decide +kernel)
set_option maxRecDepth 20000 in
theorem gX7_rain_X7_in : GoodIn wsX7_rain (va_wsS RX7 84 yX7_in wsX7_in) := goodIn_app (goodIn_of _ (by decide +kernel)) ggX7_rain_X7_in
set_option maxRecDepth 20000 in
theorem ggX7_rain_X7_feels : GoodIn wsX7_rain wsX7_feels := goodIn_r _ [14, 3, 15, 16, 20, 21, 22, 23, 24, 25, 26, 27, 28, 29, 30, 31, 32, 33, 34, 35, 36, 37, 38, 39, 40, 41, 42, 43, 44, 45, 46, 47, 48, 49, 50, 51, 52, 53, 54] rfl (by decide +kernel)
set_option maxRecDepth 20000 in
theorem gX7_rain_X7_feels : GoodIn wsX7_rain (wsV RX7 229 RX7 yX7_feels wsX7_feels) := goodIn_app (goodIn_of _ (by decide +kernel)) ggX7_rain_X7_feels
set_option maxRecDepth 20000 in
theorem ggX7_rain_X7_ones : GoodIn wsX7_rain wsX7_ones := goodIn_r _ [19] rfl (by decide +kernel)
set_option maxRecDepth 20000 in
theorem gX7_rain_X7_ones : GoodIn wsX7_rain (va_wsS RX7 190 yX7_ones wsX7_ones) := goodIn_app (goodIn_of _ (by decide +kernel)) ggX7_rain_X7_ones
theorem dX7_rain_0 : decode cX7_rain 0 = .ok (.aload_n 0, 1) := by decide +kernel
theorem dX7_rain_1 : decode cX7_rain 1 = .ok (.iconst 0, 1) := by decide +kernel
theorem dX7_rain_2 : decode cX7_rain 2 = .ok (.putfield 80, 3) := by decide +kernel
theorem dX7_rain_5 : decode cX7_rain 5 = .ok (.iload_n 1, 1) := by decide +kernel
theorem dX7_rain_6 : decode cX7_rain 6 = .ok (.iconst 0, 1) := by decide +kernel
theorem dX7_rain_7 : decode cX7_rain 7 = .ok (.iconst 2, 1) := by decide +kernel
theorem dX7_rain_8 : decode cX7_rain 8 = .ok (.invokestatic 84, 3) := by decide +kernel
theorem dX7_rain_11 : decode cX7_rain 11 = .ok (.ifCond .ne 5, 3) := by decide +kernel
theorem dX7_rain_14 : decode cX7_rain 14 = .ok (.iconst (-1), 1) := by decide +kernel
theorem dX7_rain_15 : decode cX7_rain 15 = .ok (.ireturn, 1) := by decide +kernel
theorem dX7_rain_16 : decode cX7_rain 16 = .ok (.iconst 0, 1) := by decide +kernel
theorem dX7_rain_17 : decode cX7_rain 17 = .ok (.istore_n 2, 1) := by decide +kernel
theorem dX7_rain_18 : decode cX7_rain 18 = .ok (.iconst (-1), 1) := by decide +kernel
theorem dX7_rain_19 : decode cX7_rain 19 = .ok (.istore_n 3, 1) := by decide +kernel
theorem dX7_rain_20 : decode cX7_rain 20 = .ok (.ldc 199, 2) := by decide +kernel
theorem dX7_rain_22 : decode cX7_rain 22 = .ok (.istore 4, 2) := by decide +kernel
theorem dX7_rain_24 : decode cX7_rain 24 = .ok (.iconst 0, 1) := by decide +kernel
theorem dX7_rain_25 : decode cX7_rain 25 = .ok (.istore 5, 2) := by decide +kernel
theorem dX7_rain_27 : decode cX7_rain 27 = .ok (.iload 5, 2) := by decide +kernel
theorem dX7_rain_29 : decode cX7_rain 29 = .ok (.iconst 1, 1) := by decide +kernel
theorem dX7_rain_30 : decode cX7_rain 30 = .ok (.aload_n 0, 1) := by decide +kernel
theorem dX7_rain_31 : decode cX7_rain 31 = .ok (.getfield 13, 3) := by decide +kernel
theorem dX7_rain_34 : decode cX7_rain 34 = .ok (.iconst 1, 1) := by decide +kernel
theorem dX7_rain_35 : decode cX7_rain 35 = .ok (.iaload, 1) := by decide +kernel
theorem dX7_rain_36 : decode cX7_rain 36 = .ok (.ishl, 1) := by decide +kernel
theorem dX7_rain_37 : decode cX7_rain 37 = .ok (.if_icmp .ge 109, 3) := by decide +kernel
theorem dX7_rain_40 : decode cX7_rain 40 = .ok (.iconst 1, 1) := by decide +kernel
theorem dX7_rain_41 : decode cX7_rain 41 = .ok (.istore 6, 2) := by decide +kernel
theorem dX7_rain_43 : decode cX7_rain 43 = .ok (.iconst 0, 1) := by decide +kernel
theorem dX7_rain_44 : decode cX7_rain 44 = .ok (.istore 7, 2) := by decide +kernel
theorem dX7_rain_46 : decode cX7_rain 46 = .ok (.iload 7, 2) := by decide +kernel
theorem dX7_rain_48 : decode cX7_rain 48 = .ok (.aload_n 0, 1) := by decide +kernel
theorem dX7_rain_49 : decode cX7_rain 49 = .ok (.getfield 138, 3) := by decide +kernel
theorem dX7_rain_52 : decode cX7_rain 52 = .ok (.if_icmp .ge 53, 3) := by decide +kernel
theorem dX7_rain_55 : decode cX7_rain 55 = .ok (.iload 6, 2) := by decide +kernel
theorem dX7_rain_57 : decode cX7_rain 57 = .ok (.ifCond .eq 39, 3) := by decide +kernel
theorem dX7_rain_60 : decode cX7_rain 60 = .ok (.aload_n 0, 1) := by decide +kernel
theorem dX7_rain_61 : decode cX7_rain 61 = .ok (.aload_n 0, 1) := by decide +kernel
theorem dX7_rain_62 : decode cX7_rain 62 = .ok (.getfield 65, 3) := by decide +kernel
theorem dX7_rain_65 : decode cX7_rain 65 = .ok (.iload 7, 2) := by decide +kernel
theorem dX7_rain_67 : decode cX7_rain 67 = .ok (.iaload, 1) := by decide +kernel
theorem dX7_rain_68 : decode cX7_rain 68 = .ok (.iload 5, 2) := by decide +kernel
theorem dX7_rain_70 : decode cX7_rain 70 = .ok (.invokevirtual 229, 3) := by decide +kernel
theorem dX7_rain_73 : decode cX7_rain 73 = .ok (.aload_n 0, 1) := by decide +kernel
theorem dX7_rain_74 : decode cX7_rain 74 = .ok (.getfield 68, 3) := by decide +kernel
theorem dX7_rain_77 : decode cX7_rain 77 = .ok (.iload 7, 2) := by decide +kernel
theorem dX7_rain_79 : decode cX7_rain 79 = .ok (.iaload, 1) := by decide +kernel
theorem dX7_rain_80 : decode cX7_rain 80 = .ok (.iconst 1, 1) := by decide +kernel
theorem dX7_rain_81 : decode cX7_rain 81 = .ok (.if_icmp .ne 7, 3) := by decide +kernel
theorem dX7_rain_84 : decode cX7_rain 84 = .ok (.iconst 1, 1) := by decide +kernel
theorem dX7_rain_85 : decode cX7_rain 85 = .ok (.goto 4, 3) := by decide +kernel
theorem dX7_rain_88 : decode cX7_rain 88 = .ok (.iconst 0, 1) := by decide +kernel
theorem dX7_rain_89 : decode cX7_rain 89 = .ok (.if_icmp .ne 7, 3) := by decide +kernel
theorem dX7_rain_92 : decode cX7_rain 92 = .ok (.iconst 1, 1) := by decide +kernel
theorem dX7_rain_93 : decode cX7_rain 93 = .ok (.goto 4, 3) := by decide +kernel
theorem dX7_rain_96 : decode cX7_rain 96 = .ok (.iconst 0, 1) := by decide +kernel
theorem dX7_rain_97 : decode cX7_rain 97 = .ok (.istore 6, 2) := by decide +kernel
theorem dX7_rain_99 : decode cX7_rain 99 = .ok (.iinc 7 1, 3) := by decide +kernel
theorem dX7_rain_102 : decode cX7_rain 102 = .ok (.goto (-56), 3) := by decide +kernel
theorem dX7_rain_105 : decode cX7_rain 105 = .ok (.iload 6, 2) := by decide +kernel
theorem dX7_rain_107 : decode cX7_rain 107 = .ok (.ifCond .eq 33, 3) := by decide +kernel
theorem dX7_rain_110 : decode cX7_rain 110 = .ok (.iinc 2 1, 3) := by decide +kernel
theorem dX7_rain_113 : decode cX7_rain 113 = .ok (.iload_n 3, 1) := by decide +kernel
theorem dX7_rain_114 : decode cX7_rain 114 = .ok (.iload 5, 2) := by decide +kernel
theorem dX7_rain_116 : decode cX7_rain 116 = .ok (.iand, 1) := by decide +kernel
theorem dX7_rain_117 : decode cX7_rain 117 = .ok (.istore_n 3, 1) := by decide +kernel
theorem dX7_rain_118 : decode cX7_rain 118 = .ok (.iload 5, 2) := by decide +kernel
theorem dX7_rain_120 : decode cX7_rain 120 = .ok (.invokestatic 190, 3) := by decide +kernel
theorem dX7_rain_123 : decode cX7_rain 123 = .ok (.iload 4, 2) := by decide +kernel
theorem dX7_rain_125 : decode cX7_rain 125 = .ok (.if_icmp .ge 11, 3) := by decide +kernel
theorem dX7_rain_128 : decode cX7_rain 128 = .ok (.iload 5, 2) := by decide +kernel
theorem dX7_rain_130 : decode cX7_rain 130 = .ok (.invokestatic 190, 3) := by decide +kernel
theorem dX7_rain_133 : decode cX7_rain 133 = .ok (.goto 5, 3) := by decide +kernel
theorem dX7_rain_136 : decode cX7_rain 136 = .ok (.iload 4, 2) := by decide +kernel
theorem dX7_rain_138 : decode cX7_rain 138 = .ok (.istore 4, 2) := by decide +kernel
theorem dX7_rain_140 : decode cX7_rain 140 = .ok (.iinc 5 1, 3) := by decide +kernel
theorem dX7_rain_143 : decode cX7_rain 143 = .ok (.goto (-116), 3) := by decide +kernel
theorem dX7_rain_146 : decode cX7_rain 146 = .ok (.iload_n 1, 1) := by decide +kernel
theorem dX7_rain_147 : decode cX7_rain 147 = .ok (.ifCond .ne 7, 3) := by decide +kernel
theorem dX7_rain_150 : decode cX7_rain 150 = .ok (.iload_n 2, 1) := by decide +kernel
theorem dX7_rain_151 : decode cX7_rain 151 = .ok (.goto 23, 3) := by decide +kernel
theorem dX7_rain_154 : decode cX7_rain 154 = .ok (.iload_n 2, 1) := by decide +kernel
theorem dX7_rain_155 : decode cX7_rain 155 = .ok (.ifCond .ne 8, 3) := by decide +kernel
theorem dX7_rain_158 : decode cX7_rain 158 = .ok (.bipush (-9), 2) := by decide +kernel
theorem dX7_rain_160 : decode cX7_rain 160 = .ok (.goto 14, 3) := by decide +kernel
theorem dX7_rain_163 : decode cX7_rain 163 = .ok (.iload_n 1, 1) := by decide +kernel
theorem dX7_rain_164 : decode cX7_rain 164 = .ok (.iconst 1, 1) := by decide +kernel
theorem dX7_rain_165 : decode cX7_rain 165 = .ok (.if_icmp .ne 7, 3) := by decide +kernel
theorem dX7_rain_168 : decode cX7_rain 168 = .ok (.iload_n 3, 1) := by decide +kernel
theorem dX7_rain_169 : decode cX7_rain 169 = .ok (.goto 5, 3) := by decide +kernel
theorem dX7_rain_172 : decode cX7_rain 172 = .ok (.iload 4, 2) := by decide +kernel
theorem dX7_rain_174 : decode cX7_rain 174 = .ok (.ireturn, 1) := by decide +kernel
theorem dX7_forget_0 : decode cX7_forget 0 = .ok (.aload_n 0, 1) := by decide +kernel
theorem dX7_forget_1 : decode cX7_forget 1 = .ok (.iconst 0, 1) := by decide +kernel
theorem dX7_forget_2 : decode cX7_forget 2 = .ok (.putfield 80, 3) := by decide +kernel
theorem dX7_forget_5 : decode cX7_forget 5 = .ok (.aload_n 0, 1) := by decide +kernel
theorem dX7_forget_6 : decode cX7_forget 6 = .ok (.getfield 135, 3) := by decide +kernel
theorem dX7_forget_9 : decode cX7_forget 9 = .ok (.aload_n 0, 1) := by decide +kernel
theorem dX7_forget_10 : decode cX7_forget 10 = .ok (.getfield 138, 3) := by decide +kernel
theorem dX7_forget_13 : decode cX7_forget 13 = .ok (.iadd, 1) := by decide +kernel
theorem dX7_forget_14 : decode cX7_forget 14 = .ok (.istore_n 1, 1) := by decide +kernel
theorem dX7_forget_15 : decode cX7_forget 15 = .ok (.aload_n 0, 1) := by decide +kernel
theorem dX7_forget_16 : decode cX7_forget 16 = .ok (.iconst 0, 1) := by decide +kernel
theorem dX7_forget_17 : decode cX7_forget 17 = .ok (.putfield 135, 3) := by decide +kernel
theorem dX7_forget_20 : decode cX7_forget 20 = .ok (.aload_n 0, 1) := by decide +kernel
theorem dX7_forget_21 : decode cX7_forget 21 = .ok (.iconst 0, 1) := by decide +kernel
theorem dX7_forget_22 : decode cX7_forget 22 = .ok (.putfield 138, 3) := by decide +kernel
theorem dX7_forget_25 : decode cX7_forget 25 = .ok (.iload_n 1, 1) := by decide +kernel
theorem dX7_forget_26 : decode cX7_forget 26 = .ok (.ireturn, 1) := by decide +kernel
set_option maxRecDepth 20000 in
theorem ggX7_rate_X7_in : GoodIn wsX7_rate wsX7_in := goodIn_r _ [16] rfl (by decide +kernel)
set_option maxRecDepth 20000 in
theorem gX7_rate_X7_in : GoodIn wsX7_rate (va_wsS RX7 84 yX7_in wsX7_in) := goodIn_app (goodIn_of _ (by decide +kernel)) ggX7_rate_X7_in
set_option maxRecDepth 20000 in
theorem ggX7_rate_X7_isKnee : GoodIn wsX7_rate wsX7_isKnee := goodIn_r _ [20, 21, 13, 14, 15, 16, 22, 23, 24, 25, 26, 27, 28, 29, 30, 31, 32, 33, 34, 35, 36, 37, 38, 39, 40, 41, 42, 43, 44, 45, 46, 47, 48, 49, 50, 51, 52, 53, 54, 55, 56] rfl (by decide +kernel)
set_option maxRecDepth 20000 in
theorem gX7_rate_X7_isKnee : GoodIn wsX7_rate (wsV RX7 170 RX7 yX7_isKnee wsX7_isKnee) := goodIn_app (goodIn_of _ (by decide +kernel)) ggX7_rate_X7_isKnee
theorem dX7_rate_0 : decode cX7_rate 0 = .ok (.aload_n 0, 1) := by decide +kernel
theorem dX7_rate_1 : decode cX7_rate 1 = .ok (.iconst 0, 1) := by decide +kernel
theorem dX7_rate_2 : decode cX7_rate 2 = .ok (.putfield 80, 3) := by decide +kernel
theorem dX7_rate_5 : decode cX7_rate 5 = .ok (.iload_n 1, 1) := by decide +kernel
theorem dX7_rate_6 : decode cX7_rate 6 = .ok (.iconst 0, 1) := by decide +kernel
theorem dX7_rate_7 : decode cX7_rate 7 = .ok (.iconst 5, 1) := by decide +kernel
theorem dX7_rate_8 : decode cX7_rate 8 = .ok (.invokestatic 84, 3) := by decide +kernel
theorem dX7_rate_11 : decode cX7_rate 11 = .ok (.ifCond .eq 11, 3) := by decide +kernel
theorem dX7_rate_14 : decode cX7_rate 14 = .ok (.aload_n 0, 1) := by decide +kernel
theorem dX7_rate_15 : decode cX7_rate 15 = .ok (.iload_n 2, 1) := by decide +kernel
theorem dX7_rate_16 : decode cX7_rate 16 = .ok (.invokevirtual 170, 3) := by decide +kernel
theorem dX7_rate_19 : decode cX7_rate 19 = .ok (.ifCond .ne 6, 3) := by decide +kernel
theorem dX7_rate_22 : decode cX7_rate 22 = .ok (.ldc 232, 2) := by decide +kernel
theorem dX7_rate_24 : decode cX7_rate 24 = .ok (.ireturn, 1) := by decide +kernel
theorem dX7_rate_25 : decode cX7_rate 25 = .ok (.aload_n 0, 1) := by decide +kernel
theorem dX7_rate_26 : decode cX7_rate 26 = .ok (.getfield 43, 3) := by decide +kernel
theorem dX7_rate_29 : decode cX7_rate 29 = .ok (.bipush 11, 2) := by decide +kernel
theorem dX7_rate_31 : decode cX7_rate 31 = .ok (.iload_n 2, 1) := by decide +kernel
theorem dX7_rate_32 : decode cX7_rate 32 = .ok (.iadd, 1) := by decide +kernel
theorem dX7_rate_33 : decode cX7_rate 33 = .ok (.iaload, 1) := by decide +kernel
theorem dX7_rate_34 : decode cX7_rate 34 = .ok (.istore_n 3, 1) := by decide +kernel
theorem dX7_rate_35 : decode cX7_rate 35 = .ok (.iload_n 3, 1) := by decide +kernel
theorem dX7_rate_36 : decode cX7_rate 36 = .ok (.aload_n 0, 1) := by decide +kernel
theorem dX7_rate_37 : decode cX7_rate 37 = .ok (.getfield 37, 3) := by decide +kernel
theorem dX7_rate_40 : decode cX7_rate 40 = .ok (.aload_n 0, 1) := by decide +kernel
theorem dX7_rate_41 : decode cX7_rate 41 = .ok (.getfield 19, 3) := by decide +kernel
theorem dX7_rate_44 : decode cX7_rate 44 = .ok (.iload_n 2, 1) := by decide +kernel
theorem dX7_rate_45 : decode cX7_rate 45 = .ok (.iaload, 1) := by decide +kernel
theorem dX7_rate_46 : decode cX7_rate 46 = .ok (.iaload, 1) := by decide +kernel
theorem dX7_rate_47 : decode cX7_rate 47 = .ok (.iadd, 1) := by decide +kernel
theorem dX7_rate_48 : decode cX7_rate 48 = .ok (.istore 4, 2) := by decide +kernel
theorem dX7_rate_50 : decode cX7_rate 50 = .ok (.iload_n 3, 1) := by decide +kernel
theorem dX7_rate_51 : decode cX7_rate 51 = .ok (.aload_n 0, 1) := by decide +kernel
theorem dX7_rate_52 : decode cX7_rate 52 = .ok (.getfield 22, 3) := by decide +kernel
theorem dX7_rate_55 : decode cX7_rate 55 = .ok (.iload_n 2, 1) := by decide +kernel
theorem dX7_rate_56 : decode cX7_rate 56 = .ok (.iaload, 1) := by decide +kernel
theorem dX7_rate_57 : decode cX7_rate 57 = .ok (.iload_n 3, 1) := by decide +kernel
theorem dX7_rate_58 : decode cX7_rate 58 = .ok (.isub, 1) := by decide +kernel
theorem dX7_rate_59 : decode cX7_rate 59 = .ok (.isub, 1) := by decide +kernel
theorem dX7_rate_60 : decode cX7_rate 60 = .ok (.istore 5, 2) := by decide +kernel
theorem dX7_rate_62 : decode cX7_rate 62 = .ok (.aload_n 0, 1) := by decide +kernel
theorem dX7_rate_63 : decode cX7_rate 63 = .ok (.dup, 1) := by decide +kernel
theorem dX7_rate_64 : decode cX7_rate 64 = .ok (.getfield 233, 3) := by decide +kernel
theorem dX7_rate_67 : decode cX7_rate 67 = .ok (.iload_n 1, 1) := by decide +kernel
theorem dX7_rate_68 : decode cX7_rate 68 = .ok (.ifCond .ne 7, 3) := by decide +kernel
theorem dX7_rate_71 : decode cX7_rate 71 = .ok (.lconst 1, 1) := by decide +kernel
theorem dX7_rate_72 : decode cX7_rate 72 = .ok (.goto 50, 3) := by decide +kernel
theorem dX7_rate_75 : decode cX7_rate 75 = .ok (.iload_n 1, 1) := by decide +kernel
theorem dX7_rate_76 : decode cX7_rate 76 = .ok (.iconst 1, 1) := by decide +kernel
theorem dX7_rate_77 : decode cX7_rate 77 = .ok (.if_icmp .ne 9, 3) := by decide +kernel
theorem dX7_rate_80 : decode cX7_rate 80 = .ok (.ldc2_w 237, 3) := by decide +kernel
theorem dX7_rate_83 : decode cX7_rate 83 = .ok (.goto 39, 3) := by decide +kernel
theorem dX7_rate_86 : decode cX7_rate 86 = .ok (.iload_n 1, 1) := by decide +kernel
theorem dX7_rate_87 : decode cX7_rate 87 = .ok (.iconst 2, 1) := by decide +kernel
theorem dX7_rate_88 : decode cX7_rate 88 = .ok (.if_icmp .ne 9, 3) := by decide +kernel
theorem dX7_rate_91 : decode cX7_rate 91 = .ok (.ldc2_w 239, 3) := by decide +kernel
theorem dX7_rate_94 : decode cX7_rate 94 = .ok (.goto 28, 3) := by decide +kernel
theorem dX7_rate_97 : decode cX7_rate 97 = .ok (.iload_n 1, 1) := by decide +kernel
theorem dX7_rate_98 : decode cX7_rate 98 = .ok (.iconst 3, 1) := by decide +kernel
theorem dX7_rate_99 : decode cX7_rate 99 = .ok (.if_icmp .ne 9, 3) := by decide +kernel
theorem dX7_rate_102 : decode cX7_rate 102 = .ok (.ldc2_w 241, 3) := by decide +kernel
theorem dX7_rate_105 : decode cX7_rate 105 = .ok (.goto 17, 3) := by decide +kernel
theorem dX7_rate_108 : decode cX7_rate 108 = .ok (.iload_n 1, 1) := by decide +kernel
theorem dX7_rate_109 : decode cX7_rate 109 = .ok (.iconst 4, 1) := by decide +kernel
theorem dX7_rate_110 : decode cX7_rate 110 = .ok (.if_icmp .ne 9, 3) := by decide +kernel
theorem dX7_rate_113 : decode cX7_rate 113 = .ok (.ldc2_w 243, 3) := by decide +kernel
theorem dX7_rate_116 : decode cX7_rate 116 = .ok (.goto 6, 3) := by decide +kernel
theorem dX7_rate_119 : decode cX7_rate 119 = .ok (.ldc2_w 245, 3) := by decide +kernel
theorem dX7_rate_122 : decode cX7_rate 122 = .ok (.ladd, 1) := by decide +kernel
theorem dX7_rate_123 : decode cX7_rate 123 = .ok (.putfield 233, 3) := by decide +kernel
theorem dX7_rate_126 : decode cX7_rate 126 = .ok (.iload_n 1, 1) := by decide +kernel
theorem dX7_rate_127 : decode cX7_rate 127 = .ok (.ifCond .ne 7, 3) := by decide +kernel
theorem dX7_rate_130 : decode cX7_rate 130 = .ok (.iload_n 3, 1) := by decide +kernel
theorem dX7_rate_131 : decode cX7_rate 131 = .ok (.goto 56, 3) := by decide +kernel
theorem dX7_rate_134 : decode cX7_rate 134 = .ok (.iload_n 1, 1) := by decide +kernel
theorem dX7_rate_135 : decode cX7_rate 135 = .ok (.iconst 1, 1) := by decide +kernel
theorem dX7_rate_136 : decode cX7_rate 136 = .ok (.if_icmp .ne 8, 3) := by decide +kernel
theorem dX7_rate_139 : decode cX7_rate 139 = .ok (.iload 4, 2) := by decide +kernel
theorem dX7_rate_141 : decode cX7_rate 141 = .ok (.goto 46, 3) := by decide +kernel
theorem dX7_rate_144 : decode cX7_rate 144 = .ok (.iload_n 1, 1) := by decide +kernel
theorem dX7_rate_145 : decode cX7_rate 145 = .ok (.iconst 2, 1) := by decide +kernel
theorem dX7_rate_146 : decode cX7_rate 146 = .ok (.if_icmp .ne 8, 3) := by decide +kernel
theorem dX7_rate_149 : decode cX7_rate 149 = .ok (.iload 5, 2) := by decide +kernel
theorem dX7_rate_151 : decode cX7_rate 151 = .ok (.goto 36, 3) := by decide +kernel
theorem dX7_rate_154 : decode cX7_rate 154 = .ok (.iload_n 1, 1) := by decide +kernel
theorem dX7_rate_155 : decode cX7_rate 155 = .ok (.iconst 3, 1) := by decide +kernel
theorem dX7_rate_156 : decode cX7_rate 156 = .ok (.if_icmp .ne 10, 3) := by decide +kernel
theorem dX7_rate_159 : decode cX7_rate 159 = .ok (.iconst 2, 1) := by decide +kernel
theorem dX7_rate_160 : decode cX7_rate 160 = .ok (.iload 4, 2) := by decide +kernel
theorem dX7_rate_162 : decode cX7_rate 162 = .ok (.imul, 1) := by decide +kernel
theorem dX7_rate_163 : decode cX7_rate 163 = .ok (.goto 24, 3) := by decide +kernel
theorem dX7_rate_166 : decode cX7_rate 166 = .ok (.iload_n 1, 1) := by decide +kernel
theorem dX7_rate_167 : decode cX7_rate 167 = .ok (.iconst 4, 1) := by decide +kernel
theorem dX7_rate_168 : decode cX7_rate 168 = .ok (.if_icmp .ne 10, 3) := by decide +kernel
theorem dX7_rate_171 : decode cX7_rate 171 = .ok (.iload 5, 2) := by decide +kernel
theorem dX7_rate_173 : decode cX7_rate 173 = .ok (.iload_n 2, 1) := by decide +kernel
theorem dX7_rate_174 : decode cX7_rate 174 = .ok (.iadd, 1) := by decide +kernel
theorem dX7_rate_175 : decode cX7_rate 175 = .ok (.goto 12, 3) := by decide +kernel
theorem dX7_rate_178 : decode cX7_rate 178 = .ok (.iload_n 3, 1) := by decide +kernel
theorem dX7_rate_179 : decode cX7_rate 179 = .ok (.aload_n 0, 1) := by decide +kernel
theorem dX7_rate_180 : decode cX7_rate 180 = .ok (.getfield 43, 3) := by decide +kernel
theorem dX7_rate_183 : decode cX7_rate 183 = .ok (.bipush 21, 2) := by decide +kernel
theorem dX7_rate_185 : decode cX7_rate 185 = .ok (.iaload, 1) := by decide +kernel
theorem dX7_rate_186 : decode cX7_rate 186 = .ok (.iadd, 1) := by decide +kernel
theorem dX7_rate_187 : decode cX7_rate 187 = .ok (.ireturn, 1) := by decide +kernel
set_option maxRecDepth 20000 in
theorem ggX7_keep_X7_in : GoodIn wsX7_keep wsX7_in := goodIn_r _ [8] rfl (by decide +kernel)
set_option maxRecDepth 20000 in
theorem gX7_keep_X7_in : GoodIn wsX7_keep (va_wsS RX7 84 yX7_in wsX7_in) := goodIn_app (goodIn_of _ (by decide +kernel)) ggX7_keep_X7_in
theorem dX7_keep_0 : decode cX7_keep 0 = .ok (.aload_n 0, 1) := by decide +kernel
theorem dX7_keep_1 : decode cX7_keep 1 = .ok (.iconst 0, 1) := by decide +kernel
theorem dX7_keep_2 : decode cX7_keep 2 = .ok (.putfield 80, 3) := by decide +kernel
theorem dX7_keep_5 : decode cX7_keep 5 = .ok (.iload_n 1, 1) := by decide +kernel
theorem dX7_keep_6 : decode cX7_keep 6 = .ok (.iconst 0, 1) := by decide +kernel
theorem dX7_keep_7 : decode cX7_keep 7 = .ok (.iconst 1, 1) := by decide +kernel
theorem dX7_keep_8 : decode cX7_keep 8 = .ok (.invokestatic 84, 3) := by decide +kernel
theorem dX7_keep_11 : decode cX7_keep 11 = .ok (.ifCond .ne 5, 3) := by decide +kernel
theorem dX7_keep_14 : decode cX7_keep 14 = .ok (.iconst (-1), 1) := by decide +kernel
theorem dX7_keep_15 : decode cX7_keep 15 = .ok (.ireturn, 1) := by decide +kernel
theorem dX7_keep_16 : decode cX7_keep 16 = .ok (.iconst 0, 1) := by decide +kernel
theorem dX7_keep_17 : decode cX7_keep 17 = .ok (.istore_n 2, 1) := by decide +kernel
theorem dX7_keep_18 : decode cX7_keep 18 = .ok (.iload_n 2, 1) := by decide +kernel
theorem dX7_keep_19 : decode cX7_keep 19 = .ok (.bipush 23, 2) := by decide +kernel
theorem dX7_keep_21 : decode cX7_keep 21 = .ok (.if_icmp .ge 26, 3) := by decide +kernel
theorem dX7_keep_24 : decode cX7_keep 24 = .ok (.aload_n 0, 1) := by decide +kernel
theorem dX7_keep_25 : decode cX7_keep 25 = .ok (.getfield 46, 3) := by decide +kernel
theorem dX7_keep_28 : decode cX7_keep 28 = .ok (.bipush 23, 2) := by decide +kernel
theorem dX7_keep_30 : decode cX7_keep 30 = .ok (.iload_n 1, 1) := by decide +kernel
theorem dX7_keep_31 : decode cX7_keep 31 = .ok (.imul, 1) := by decide +kernel
theorem dX7_keep_32 : decode cX7_keep 32 = .ok (.iload_n 2, 1) := by decide +kernel
theorem dX7_keep_33 : decode cX7_keep 33 = .ok (.iadd, 1) := by decide +kernel
theorem dX7_keep_34 : decode cX7_keep 34 = .ok (.aload_n 0, 1) := by decide +kernel
theorem dX7_keep_35 : decode cX7_keep 35 = .ok (.getfield 43, 3) := by decide +kernel
theorem dX7_keep_38 : decode cX7_keep 38 = .ok (.iload_n 2, 1) := by decide +kernel
theorem dX7_keep_39 : decode cX7_keep 39 = .ok (.iaload, 1) := by decide +kernel
theorem dX7_keep_40 : decode cX7_keep 40 = .ok (.iastore, 1) := by decide +kernel
theorem dX7_keep_41 : decode cX7_keep 41 = .ok (.iinc 2 1, 3) := by decide +kernel
theorem dX7_keep_44 : decode cX7_keep 44 = .ok (.goto (-26), 3) := by decide +kernel
theorem dX7_keep_47 : decode cX7_keep 47 = .ok (.aload_n 0, 1) := by decide +kernel
theorem dX7_keep_48 : decode cX7_keep 48 = .ok (.getfield 49, 3) := by decide +kernel
theorem dX7_keep_51 : decode cX7_keep 51 = .ok (.iload_n 1, 1) := by decide +kernel
theorem dX7_keep_52 : decode cX7_keep 52 = .ok (.iconst 1, 1) := by decide +kernel
theorem dX7_keep_53 : decode cX7_keep 53 = .ok (.bastore, 1) := by decide +kernel
theorem dX7_keep_54 : decode cX7_keep 54 = .ok (.aload_n 0, 1) := by decide +kernel
theorem dX7_keep_55 : decode cX7_keep 55 = .ok (.getfield 43, 3) := by decide +kernel
theorem dX7_keep_58 : decode cX7_keep 58 = .ok (.iconst 0, 1) := by decide +kernel
theorem dX7_keep_59 : decode cX7_keep 59 = .ok (.iaload, 1) := by decide +kernel
theorem dX7_keep_60 : decode cX7_keep 60 = .ok (.ireturn, 1) := by decide +kernel
set_option maxRecDepth 20000 in
theorem ggX7_back_X7_in : GoodIn wsX7_back wsX7_in := goodIn_r _ [9] rfl (by decide +kernel)
set_option maxRecDepth 20000 in
theorem gX7_back_X7_in : GoodIn wsX7_back (va_wsS RX7 84 yX7_in wsX7_in) := goodIn_app (goodIn_of _ (by decide +kernel)) ggX7_back_X7_in
theorem dX7_back_0 : decode cX7_back 0 = .ok (.aload_n 0, 1) := by decide +kernel
theorem dX7_back_1 : decode cX7_back 1 = .ok (.iconst 0, 1) := by decide +kernel
theorem dX7_back_2 : decode cX7_back 2 = .ok (.putfield 80, 3) := by decide +kernel
theorem dX7_back_5 : decode cX7_back 5 = .ok (.iload_n 1, 1) := by decide +kernel
theorem dX7_back_6 : decode cX7_back 6 = .ok (.iconst 0, 1) := by decide +kernel
theorem dX7_back_7 : decode cX7_back 7 = .ok (.iconst 1, 1) := by decide +kernel
theorem dX7_back_8 : decode cX7_back 8 = .ok (.invokestatic 84, 3) := by decide +kernel
theorem dX7_back_11 : decode cX7_back 11 = .ok (.ifCond .ne 5, 3) := by decide +kernel
theorem dX7_back_14 : decode cX7_back 14 = .ok (.iconst (-1), 1) := by decide +kernel
theorem dX7_back_15 : decode cX7_back 15 = .ok (.ireturn, 1) := by decide +kernel
theorem dX7_back_16 : decode cX7_back 16 = .ok (.aload_n 0, 1) := by decide +kernel
theorem dX7_back_17 : decode cX7_back 17 = .ok (.getfield 49, 3) := by decide +kernel
theorem dX7_back_20 : decode cX7_back 20 = .ok (.iload_n 1, 1) := by decide +kernel
theorem dX7_back_21 : decode cX7_back 21 = .ok (.baload, 1) := by decide +kernel
theorem dX7_back_22 : decode cX7_back 22 = .ok (.ifCond .ne 6, 3) := by decide +kernel
theorem dX7_back_25 : decode cX7_back 25 = .ok (.bipush (-2), 2) := by decide +kernel
theorem dX7_back_27 : decode cX7_back 27 = .ok (.ireturn, 1) := by decide +kernel
theorem dX7_back_28 : decode cX7_back 28 = .ok (.iconst 0, 1) := by decide +kernel
theorem dX7_back_29 : decode cX7_back 29 = .ok (.istore_n 2, 1) := by decide +kernel
theorem dX7_back_30 : decode cX7_back 30 = .ok (.iload_n 2, 1) := by decide +kernel
theorem dX7_back_31 : decode cX7_back 31 = .ok (.bipush 23, 2) := by decide +kernel
theorem dX7_back_33 : decode cX7_back 33 = .ok (.if_icmp .ge 26, 3) := by decide +kernel
theorem dX7_back_36 : decode cX7_back 36 = .ok (.aload_n 0, 1) := by decide +kernel
theorem dX7_back_37 : decode cX7_back 37 = .ok (.getfield 43, 3) := by decide +kernel
theorem dX7_back_40 : decode cX7_back 40 = .ok (.iload_n 2, 1) := by decide +kernel
theorem dX7_back_41 : decode cX7_back 41 = .ok (.aload_n 0, 1) := by decide +kernel
theorem dX7_back_42 : decode cX7_back 42 = .ok (.getfield 46, 3) := by decide +kernel
theorem dX7_back_45 : decode cX7_back 45 = .ok (.bipush 23, 2) := by decide +kernel
theorem dX7_back_47 : decode cX7_back 47 = .ok (.iload_n 1, 1) := by decide +kernel
theorem dX7_back_48 : decode cX7_back 48 = .ok (.imul, 1) := by decide +kernel
theorem dX7_back_49 : decode cX7_back 49 = .ok (.iload_n 2, 1) := by decide +kernel
theorem dX7_back_50 : decode cX7_back 50 = .ok (.iadd, 1) := by decide +kernel
theorem dX7_back_51 : decode cX7_back 51 = .ok (.iaload, 1) := by decide +kernel
theorem dX7_back_52 : decode cX7_back 52 = .ok (.iastore, 1) := by decide +kernel
theorem dX7_back_53 : decode cX7_back 53 = .ok (.iinc 2 1, 3) := by decide +kernel
theorem dX7_back_56 : decode cX7_back 56 = .ok (.goto (-26), 3) := by decide +kernel
theorem dX7_back_59 : decode cX7_back 59 = .ok (.aload_n 0, 1) := by decide +kernel
theorem dX7_back_60 : decode cX7_back 60 = .ok (.iconst 0, 1) := by decide +kernel
theorem dX7_back_61 : decode cX7_back 61 = .ok (.putfield 141, 3) := by decide +kernel
theorem dX7_back_64 : decode cX7_back 64 = .ok (.aload_n 0, 1) := by decide +kernel
theorem dX7_back_65 : decode cX7_back 65 = .ok (.getfield 43, 3) := by decide +kernel
theorem dX7_back_68 : decode cX7_back 68 = .ok (.iconst 0, 1) := by decide +kernel
theorem dX7_back_69 : decode cX7_back 69 = .ok (.iaload, 1) := by decide +kernel
theorem dX7_back_70 : decode cX7_back 70 = .ok (.ireturn, 1) := by decide +kernel
set_option maxRecDepth 20000 in
theorem ggX7_count_X7_in : GoodIn wsX7_count wsX7_in := goodIn_r _ [9] rfl (by decide +kernel)
set_option maxRecDepth 20000 in
theorem gX7_count_X7_in : GoodIn wsX7_count (va_wsS RX7 84 yX7_in wsX7_in) := goodIn_app (goodIn_of _ (by decide +kernel)) ggX7_count_X7_in
theorem dX7_count_0 : decode cX7_count 0 = .ok (.aload_n 0, 1) := by decide +kernel
theorem dX7_count_1 : decode cX7_count 1 = .ok (.iconst 0, 1) := by decide +kernel
theorem dX7_count_2 : decode cX7_count 2 = .ok (.putfield 80, 3) := by decide +kernel
theorem dX7_count_5 : decode cX7_count 5 = .ok (.iload_n 1, 1) := by decide +kernel
theorem dX7_count_6 : decode cX7_count 6 = .ok (.iconst 0, 1) := by decide +kernel
theorem dX7_count_7 : decode cX7_count 7 = .ok (.iconst 1, 1) := by decide +kernel
theorem dX7_count_8 : decode cX7_count 8 = .ok (.invokestatic 84, 3) := by decide +kernel
theorem dX7_count_11 : decode cX7_count 11 = .ok (.ifCond .eq 12, 3) := by decide +kernel
theorem dX7_count_14 : decode cX7_count 14 = .ok (.aload_n 0, 1) := by decide +kernel
theorem dX7_count_15 : decode cX7_count 15 = .ok (.getfield 13, 3) := by decide +kernel
theorem dX7_count_18 : decode cX7_count 18 = .ok (.iload_n 1, 1) := by decide +kernel
theorem dX7_count_19 : decode cX7_count 19 = .ok (.iaload, 1) := by decide +kernel
theorem dX7_count_20 : decode cX7_count 20 = .ok (.goto 40, 3) := by decide +kernel
theorem dX7_count_23 : decode cX7_count 23 = .ok (.iload_n 1, 1) := by decide +kernel
theorem dX7_count_24 : decode cX7_count 24 = .ok (.iconst 2, 1) := by decide +kernel
theorem dX7_count_25 : decode cX7_count 25 = .ok (.if_icmp .ne 10, 3) := by decide +kernel
theorem dX7_count_28 : decode cX7_count 28 = .ok (.aload_n 0, 1) := by decide +kernel
theorem dX7_count_29 : decode cX7_count 29 = .ok (.getfield 135, 3) := by decide +kernel
theorem dX7_count_32 : decode cX7_count 32 = .ok (.goto 28, 3) := by decide +kernel
theorem dX7_count_35 : decode cX7_count 35 = .ok (.iload_n 1, 1) := by decide +kernel
theorem dX7_count_36 : decode cX7_count 36 = .ok (.iconst 3, 1) := by decide +kernel
theorem dX7_count_37 : decode cX7_count 37 = .ok (.if_icmp .ne 10, 3) := by decide +kernel
theorem dX7_count_40 : decode cX7_count 40 = .ok (.aload_n 0, 1) := by decide +kernel
theorem dX7_count_41 : decode cX7_count 41 = .ok (.getfield 138, 3) := by decide +kernel
theorem dX7_count_44 : decode cX7_count 44 = .ok (.goto 16, 3) := by decide +kernel
theorem dX7_count_47 : decode cX7_count 47 = .ok (.iload_n 1, 1) := by decide +kernel
theorem dX7_count_48 : decode cX7_count 48 = .ok (.iconst 4, 1) := by decide +kernel
theorem dX7_count_49 : decode cX7_count 49 = .ok (.if_icmp .ne 10, 3) := by decide +kernel
theorem dX7_count_52 : decode cX7_count 52 = .ok (.aload_n 0, 1) := by decide +kernel
theorem dX7_count_53 : decode cX7_count 53 = .ok (.getfield 88, 3) := by decide +kernel
theorem dX7_count_56 : decode cX7_count 56 = .ok (.goto 4, 3) := by decide +kernel
theorem dX7_count_59 : decode cX7_count 59 = .ok (.iconst (-1), 1) := by decide +kernel
theorem dX7_count_60 : decode cX7_count 60 = .ok (.ireturn, 1) := by decide +kernel
theorem dX7_trace_0 : decode cX7_trace 0 = .ok (.aload_n 0, 1) := by decide +kernel
theorem dX7_trace_1 : decode cX7_trace 1 = .ok (.iconst 0, 1) := by decide +kernel
theorem dX7_trace_2 : decode cX7_trace 2 = .ok (.putfield 80, 3) := by decide +kernel
theorem dX7_trace_5 : decode cX7_trace 5 = .ok (.aload_n 0, 1) := by decide +kernel
theorem dX7_trace_6 : decode cX7_trace 6 = .ok (.getfield 233, 3) := by decide +kernel
theorem dX7_trace_9 : decode cX7_trace 9 = .ok (.lreturn, 1) := by decide +kernel
