set_option maxRecDepth 20000 in
theorem ggX6_init_X5_init : GoodIn wsX6_init wsX5_init := goodIn_r _ [37, 38, 2, 3, 39, 40, 41, 42, 43, 44, 45, 46, 47, 48, 121, 122, 123, 124, 125, 126, 127, 128, 129] rfl (by decide +kernel)
set_option maxRecDepth 20000 in
theorem gX6_init_X5_init_n19 : GoodIn wsX6_init (wsX5_init) := ggX6_init_X5_init
set_option maxRecDepth 20000 in
theorem ggX6_init_X4_init : GoodIn wsX6_init wsX4_init := goodIn_r _ [51, 52, 2, 3, 53, 43, 54, 55, 56, 57, 58, 59, 60, 61, 62, 63, 64, 65, 66, 67, 13, 68, 69, 70, 71, 72, 130, 131, 132, 133, 134, 135, 136, 137, 138, 139, 140, 141] rfl (by decide +kernel)
set_option maxRecDepth 20000 in
theorem gX6_init_X4_init : GoodIn wsX6_init (wsX4_init) := ggX6_init_X4_init
set_option maxRecDepth 20000 in
theorem ggX6_init_X3_init : GoodIn wsX6_init wsX3_init := goodIn_r _ [74, 75, 2, 3, 76, 77, 78, 79, 80, 43, 81, 82, 142, 143, 144, 145, 146, 147, 148] rfl (by decide +kernel)
set_option maxRecDepth 20000 in
theorem gX6_init_X3_init_n36 : GoodIn wsX6_init (wsX3_init) := ggX6_init_X3_init
set_option maxRecDepth 20000 in
theorem ggX6_init_X0_init : GoodIn wsX6_init wsX0_init := goodIn_r _ [85, 86, 2, 3, 87, 88, 89, 90, 17, 18, 73, 74, 75, 76, 77, 78, 79, 80, 43, 81, 82, 149, 150, 151, 142, 143, 144, 145, 146, 147, 148] rfl (by decide +kernel)
set_option maxRecDepth 20000 in
theorem gX6_init_X0_init : GoodIn wsX6_init (wsX0_init) := ggX6_init_X0_init
set_option maxRecDepth 20000 in
theorem ggX6_init_X1_init : GoodIn wsX6_init wsX1_init := goodIn_r _ [92, 93, 2, 3, 94, 95, 96, 97, 98, 99, 152, 153, 154, 155, 156, 157] rfl (by decide +kernel)
set_option maxRecDepth 20000 in
theorem gX6_init_X1_init_n50 : GoodIn wsX6_init (wsX1_init) := ggX6_init_X1_init
set_option maxRecDepth 20000 in
theorem ggX6_init_X2_init : GoodIn wsX6_init wsX2_init := goodIn_r _ [101, 102, 2, 3, 43, 103, 104, 105, 106, 107, 108, 158, 159, 160, 161, 162, 163] rfl (by decide +kernel)
set_option maxRecDepth 20000 in
theorem gX6_init_X2_init_n57 : GoodIn wsX6_init (wsX2_init) := ggX6_init_X2_init
theorem dX6_init_0 : decode cX6_init 0 = .ok (.aload_n 0, 1) := by decide +kernel
theorem dX6_init_1 : decode cX6_init 1 = .ok (.invokespecial 1, 3) := by decide +kernel
theorem dX6_init_4 : decode cX6_init 4 = .ok (.aload_n 0, 1) := by decide +kernel
theorem dX6_init_5 : decode cX6_init 5 = .ok (.sipush 180, 3) := by decide +kernel
theorem dX6_init_8 : decode cX6_init 8 = .ok (.newarray .char, 2) := by decide +kernel
theorem dX6_init_10 : decode cX6_init 10 = .ok (.putfield 9, 3) := by decide +kernel
theorem dX6_init_13 : decode cX6_init 13 = .ok (.aload_n 0, 1) := by decide +kernel
theorem dX6_init_14 : decode cX6_init 14 = .ok (.iconst 0, 1) := by decide +kernel
theorem dX6_init_15 : decode cX6_init 15 = .ok (.putfield 13, 3) := by decide +kernel
theorem dX6_init_18 : decode cX6_init 18 = .ok (.aload_n 0, 1) := by decide +kernel
theorem dX6_init_19 : decode cX6_init 19 = .ok (.new 17, 3) := by decide +kernel
theorem dX6_init_22 : decode cX6_init 22 = .ok (.dup, 1) := by decide +kernel
theorem dX6_init_23 : decode cX6_init 23 = .ok (.invokespecial 19, 3) := by decide +kernel
theorem dX6_init_26 : decode cX6_init 26 = .ok (.putfield 20, 3) := by decide +kernel
theorem dX6_init_29 : decode cX6_init 29 = .ok (.aload_n 0, 1) := by decide +kernel
theorem dX6_init_30 : decode cX6_init 30 = .ok (.new 24, 3) := by decide +kernel
theorem dX6_init_33 : decode cX6_init 33 = .ok (.dup, 1) := by decide +kernel
theorem dX6_init_34 : decode cX6_init 34 = .ok (.invokespecial 26, 3) := by decide +kernel
theorem dX6_init_37 : decode cX6_init 37 = .ok (.putfield 27, 3) := by decide +kernel
theorem dX6_init_40 : decode cX6_init 40 = .ok (.aload_n 0, 1) := by decide +kernel
theorem dX6_init_41 : decode cX6_init 41 = .ok (.new 24, 3) := by decide +kernel
theorem dX6_init_44 : decode cX6_init 44 = .ok (.dup, 1) := by decide +kernel
theorem dX6_init_45 : decode cX6_init 45 = .ok (.invokespecial 26, 3) := by decide +kernel
theorem dX6_init_48 : decode cX6_init 48 = .ok (.putfield 31, 3) := by decide +kernel
theorem dX6_init_51 : decode cX6_init 51 = .ok (.aload_n 0, 1) := by decide +kernel
theorem dX6_init_52 : decode cX6_init 52 = .ok (.new 34, 3) := by decide +kernel
theorem dX6_init_55 : decode cX6_init 55 = .ok (.dup, 1) := by decide +kernel
theorem dX6_init_56 : decode cX6_init 56 = .ok (.invokespecial 36, 3) := by decide +kernel
theorem dX6_init_59 : decode cX6_init 59 = .ok (.putfield 37, 3) := by decide +kernel
theorem dX6_init_62 : decode cX6_init 62 = .ok (.aload_n 0, 1) := by decide +kernel
theorem dX6_init_63 : decode cX6_init 63 = .ok (.new 41, 3) := by decide +kernel
theorem dX6_init_66 : decode cX6_init 66 = .ok (.dup, 1) := by decide +kernel
theorem dX6_init_67 : decode cX6_init 67 = .ok (.invokespecial 43, 3) := by decide +kernel
theorem dX6_init_70 : decode cX6_init 70 = .ok (.putfield 44, 3) := by decide +kernel
theorem dX6_init_73 : decode cX6_init 73 = .ok (.aload_n 0, 1) := by decide +kernel
theorem dX6_init_74 : decode cX6_init 74 = .ok (.new 48, 3) := by decide +kernel
theorem dX6_init_77 : decode cX6_init 77 = .ok (.dup, 1) := by decide +kernel
theorem dX6_init_78 : decode cX6_init 78 = .ok (.invokespecial 50, 3) := by decide +kernel
theorem dX6_init_81 : decode cX6_init 81 = .ok (.putfield 51, 3) := by decide +kernel
theorem dX6_init_84 : decode cX6_init 84 = .ok (.aload_n 0, 1) := by decide +kernel
theorem dX6_init_85 : decode cX6_init 85 = .ok (.new 55, 3) := by decide +kernel
theorem dX6_init_88 : decode cX6_init 88 = .ok (.dup, 1) := by decide +kernel
theorem dX6_init_89 : decode cX6_init 89 = .ok (.invokespecial 57, 3) := by decide +kernel
theorem dX6_init_92 : decode cX6_init 92 = .ok (.putfield 58, 3) := by decide +kernel
theorem dX6_init_95 : decode cX6_init 95 = .ok (.aload_n 0, 1) := by decide +kernel
theorem dX6_init_96 : decode cX6_init 96 = .ok (.iconst 2, 1) := by decide +kernel
theorem dX6_init_97 : decode cX6_init 97 = .ok (.anewarray 34, 3) := by decide +kernel
theorem dX6_init_100 : decode cX6_init 100 = .ok (.putfield 62, 3) := by decide +kernel
theorem dX6_init_103 : decode cX6_init 103 = .ok (.aload_n 0, 1) := by decide +kernel
theorem dX6_init_104 : decode cX6_init 104 = .ok (.iconst 2, 1) := by decide +kernel
theorem dX6_init_105 : decode cX6_init 105 = .ok (.newarray .boolean, 2) := by decide +kernel
theorem dX6_init_107 : decode cX6_init 107 = .ok (.putfield 66, 3) := by decide +kernel
theorem dX6_init_110 : decode cX6_init 110 = .ok (.aload_n 0, 1) := by decide +kernel
theorem dX6_init_111 : decode cX6_init 111 = .ok (.lconst 0, 1) := by decide +kernel
theorem dX6_init_112 : decode cX6_init 112 = .ok (.putfield 70, 3) := by decide +kernel
theorem dX6_init_115 : decode cX6_init 115 = .ok (.iconst 0, 1) := by decide +kernel
theorem dX6_init_116 : decode cX6_init 116 = .ok (.istore_n 1, 1) := by decide +kernel
theorem dX6_init_117 : decode cX6_init 117 = .ok (.iload_n 1, 1) := by decide +kernel
theorem dX6_init_118 : decode cX6_init 118 = .ok (.iconst 2, 1) := by decide +kernel
theorem dX6_init_119 : decode cX6_init 119 = .ok (.if_icmp .ge 22, 3) := by decide +kernel
theorem dX6_init_122 : decode cX6_init 122 = .ok (.aload_n 0, 1) := by decide +kernel
theorem dX6_init_123 : decode cX6_init 123 = .ok (.getfield 62, 3) := by decide +kernel
theorem dX6_init_126 : decode cX6_init 126 = .ok (.iload_n 1, 1) := by decide +kernel
theorem dX6_init_127 : decode cX6_init 127 = .ok (.new 34, 3) := by decide +kernel
theorem dX6_init_130 : decode cX6_init 130 = .ok (.dup, 1) := by decide +kernel
theorem dX6_init_131 : decode cX6_init 131 = .ok (.invokespecial 36, 3) := by decide +kernel
theorem dX6_init_134 : decode cX6_init 134 = .ok (.aastore, 1) := by decide +kernel
theorem dX6_init_135 : decode cX6_init 135 = .ok (.iinc 1 1, 3) := by decide +kernel
theorem dX6_init_138 : decode cX6_init 138 = .ok (.goto (-21), 3) := by decide +kernel
theorem dX6_init_141 : decode cX6_init 141 = .ok (.return_, 1) := by decide +kernel
set_option maxRecDepth 20000 in
theorem ggX6_type_X6_within : GoodIn wsX6_type wsX6_within := goodIn_r _ [6] rfl (by decide +kernel)
set_option maxRecDepth 20000 in
theorem gX6_type_X6_within : GoodIn wsX6_type (va_wsS RX6 74 yX6_within wsX6_within) := goodIn_app (goodIn_of _ (by decide +kernel)) ggX6_type_X6_within
theorem dX6_type_0 : decode cX6_type 0 = .ok (.iload_n 1, 1) := by decide +kernel
theorem dX6_type_1 : decode cX6_type 1 = .ok (.iconst 0, 1) := by decide +kernel
theorem dX6_type_2 : decode cX6_type 2 = .ok (.sipush 255, 3) := by decide +kernel
theorem dX6_type_5 : decode cX6_type 5 = .ok (.invokestatic 74, 3) := by decide +kernel
theorem dX6_type_8 : decode cX6_type 8 = .ok (.ifCond .ne 5, 3) := by decide +kernel
theorem dX6_type_11 : decode cX6_type 11 = .ok (.iconst (-1), 1) := by decide +kernel
theorem dX6_type_12 : decode cX6_type 12 = .ok (.ireturn, 1) := by decide +kernel
theorem dX6_type_13 : decode cX6_type 13 = .ok (.aload_n 0, 1) := by decide +kernel
theorem dX6_type_14 : decode cX6_type 14 = .ok (.getfield 13, 3) := by decide +kernel
theorem dX6_type_17 : decode cX6_type 17 = .ok (.sipush 180, 3) := by decide +kernel
theorem dX6_type_20 : decode cX6_type 20 = .ok (.if_icmp .lt 6, 3) := by decide +kernel
theorem dX6_type_23 : decode cX6_type 23 = .ok (.bipush (-3), 2) := by decide +kernel
theorem dX6_type_25 : decode cX6_type 25 = .ok (.ireturn, 1) := by decide +kernel
theorem dX6_type_26 : decode cX6_type 26 = .ok (.aload_n 0, 1) := by decide +kernel
theorem dX6_type_27 : decode cX6_type 27 = .ok (.getfield 9, 3) := by decide +kernel
theorem dX6_type_30 : decode cX6_type 30 = .ok (.aload_n 0, 1) := by decide +kernel
theorem dX6_type_31 : decode cX6_type 31 = .ok (.getfield 13, 3) := by decide +kernel
theorem dX6_type_34 : decode cX6_type 34 = .ok (.iload_n 1, 1) := by decide +kernel
theorem dX6_type_35 : decode cX6_type 35 = .ok (.i2c, 1) := by decide +kernel
theorem dX6_type_36 : decode cX6_type 36 = .ok (.castore, 1) := by decide +kernel
theorem dX6_type_37 : decode cX6_type 37 = .ok (.aload_n 0, 1) := by decide +kernel
theorem dX6_type_38 : decode cX6_type 38 = .ok (.dup, 1) := by decide +kernel
theorem dX6_type_39 : decode cX6_type 39 = .ok (.getfield 13, 3) := by decide +kernel
theorem dX6_type_42 : decode cX6_type 42 = .ok (.iconst 1, 1) := by decide +kernel
theorem dX6_type_43 : decode cX6_type 43 = .ok (.iadd, 1) := by decide +kernel
theorem dX6_type_44 : decode cX6_type 44 = .ok (.putfield 13, 3) := by decide +kernel
theorem dX6_type_47 : decode cX6_type 47 = .ok (.aload_n 0, 1) := by decide +kernel
theorem dX6_type_48 : decode cX6_type 48 = .ok (.getfield 13, 3) := by decide +kernel
theorem dX6_type_51 : decode cX6_type 51 = .ok (.ireturn, 1) := by decide +kernel
theorem dX6_clear_0 : decode cX6_clear 0 = .ok (.aload_n 0, 1) := by decide +kernel
theorem dX6_clear_1 : decode cX6_clear 1 = .ok (.getfield 13, 3) := by decide +kernel
theorem dX6_clear_4 : decode cX6_clear 4 = .ok (.istore_n 1, 1) := by decide +kernel
theorem dX6_clear_5 : decode cX6_clear 5 = .ok (.aload_n 0, 1) := by decide +kernel
theorem dX6_clear_6 : decode cX6_clear 6 = .ok (.iconst 0, 1) := by decide +kernel
theorem dX6_clear_7 : decode cX6_clear 7 = .ok (.putfield 13, 3) := by decide +kernel
theorem dX6_clear_10 : decode cX6_clear 10 = .ok (.iload_n 1, 1) := by decide +kernel
theorem dX6_clear_11 : decode cX6_clear 11 = .ok (.ireturn, 1) := by decide +kernel
set_option maxRecDepth 20000 in
theorem ggX6_parish_X5_reads : GoodIn wsX6_parish wsX5_reads := goodIn_r _ [17, 18, 19, 20, 21, 22, 23, 24, 25, 26, 27, 28, 29, 30, 31, 32, 33, 34, 35, 36, 37, 38, 39, 40, 41, 42, 43, 16, 44, 45, 46, 47, 48, 49, 50, 51, 52, 53, 54, 55, 56, 57, 58, 59, 60, 61, 62, 63, 64, 65, 66, 67, 68, 69, 70, 71, 72, 73, 74, 75, 76, 77, 78, 79, 80, 81, 82, 83, 84, 85, 86, 87, 88, 89, 90, 91, 92, 93, 94, 156, 157, 158, 159, 160, 161, 162, 163, 164, 168, 169, 170, 171, 172, 173, 174, 175, 176, 177, 178, 179] rfl (by decide +kernel)
set_option maxRecDepth 20000 in
theorem gX6_parish_X5_reads : GoodIn wsX6_parish (wsV RX6 78 RX5 yX5_reads wsX5_reads) := goodIn_app (goodIn_of _ (by decide +kernel)) ggX6_parish_X5_reads
set_option maxRecDepth 20000 in
theorem ggX6_parish_X4_seatFarms : GoodIn wsX6_parish wsX4_seatFarms := goodIn_r _ [98, 99, 100, 101, 102, 31, 103, 104, 105, 106, 107, 108, 33, 82, 109, 110, 111, 112, 35, 113, 75, 114, 168, 169, 170, 171, 172, 173, 174, 175, 176, 177, 178, 179] rfl (by decide +kernel)
set_option maxRecDepth 20000 in
theorem gX6_parish_X4_seatFarms : GoodIn wsX6_parish (wsV RX6 85 RX4 yX4_seatFarms wsX4_seatFarms) := goodIn_app (goodIn_of _ (by decide +kernel)) ggX6_parish_X4_seatFarms
set_option maxRecDepth 20000 in
theorem ggX6_parish_X3_begin : GoodIn wsX6_parish wsX3_begin := goodIn_r _ [119, 120, 121, 122, 123, 124, 125, 126, 127, 128, 129, 130, 131, 132, 38, 39, 40, 180, 181, 182, 183, 184, 185, 186, 168, 169, 170, 171, 172, 173, 174, 175, 176, 177, 178, 179] rfl (by decide +kernel)
set_option maxRecDepth 20000 in
theorem gX6_parish_X3_begin : GoodIn wsX6_parish (wsV RX6 88 RX3 yX3_begin wsX3_begin) := goodIn_app (goodIn_of _ (by decide +kernel)) ggX6_parish_X3_begin
set_option maxRecDepth 20000 in
theorem ggX6_parish_X1_silence : GoodIn wsX6_parish wsX1_silence := goodIn_r _ [137, 138, 139, 140, 141, 142, 143, 187, 188, 189, 190, 191, 192] rfl (by decide +kernel)
set_option maxRecDepth 20000 in
theorem gX6_parish_X1_silence : GoodIn wsX6_parish (wsV RX6 95 RX1 yX1_silence wsX1_silence) := goodIn_app (goodIn_of _ (by decide +kernel)) ggX6_parish_X1_silence
theorem dX6_parish_0 : decode cX6_parish 0 = .ok (.aload_n 0, 1) := by decide +kernel
theorem dX6_parish_1 : decode cX6_parish 1 = .ok (.getfield 20, 3) := by decide +kernel
theorem dX6_parish_4 : decode cX6_parish 4 = .ok (.aload_n 0, 1) := by decide +kernel
theorem dX6_parish_5 : decode cX6_parish 5 = .ok (.getfield 9, 3) := by decide +kernel
theorem dX6_parish_8 : decode cX6_parish 8 = .ok (.aload_n 0, 1) := by decide +kernel
theorem dX6_parish_9 : decode cX6_parish 9 = .ok (.getfield 13, 3) := by decide +kernel
theorem dX6_parish_12 : decode cX6_parish 12 = .ok (.aload_n 0, 1) := by decide +kernel
theorem dX6_parish_13 : decode cX6_parish 13 = .ok (.getfield 31, 3) := by decide +kernel
theorem dX6_parish_16 : decode cX6_parish 16 = .ok (.invokevirtual 78, 3) := by decide +kernel
theorem dX6_parish_19 : decode cX6_parish 19 = .ok (.ifCond .ne 14, 3) := by decide +kernel
theorem dX6_parish_22 : decode cX6_parish 22 = .ok (.bipush (-10), 2) := by decide +kernel
theorem dX6_parish_24 : decode cX6_parish 24 = .ok (.aload_n 0, 1) := by decide +kernel
theorem dX6_parish_25 : decode cX6_parish 25 = .ok (.getfield 20, 3) := by decide +kernel
theorem dX6_parish_28 : decode cX6_parish 28 = .ok (.getfield 82, 3) := by decide +kernel
theorem dX6_parish_31 : decode cX6_parish 31 = .ok (.isub, 1) := by decide +kernel
theorem dX6_parish_32 : decode cX6_parish 32 = .ok (.ireturn, 1) := by decide +kernel
theorem dX6_parish_33 : decode cX6_parish 33 = .ok (.aload_n 0, 1) := by decide +kernel
theorem dX6_parish_34 : decode cX6_parish 34 = .ok (.getfield 27, 3) := by decide +kernel
theorem dX6_parish_37 : decode cX6_parish 37 = .ok (.astore_n 1, 1) := by decide +kernel
theorem dX6_parish_38 : decode cX6_parish 38 = .ok (.aload_n 0, 1) := by decide +kernel
theorem dX6_parish_39 : decode cX6_parish 39 = .ok (.aload_n 0, 1) := by decide +kernel
theorem dX6_parish_40 : decode cX6_parish 40 = .ok (.getfield 31, 3) := by decide +kernel
theorem dX6_parish_43 : decode cX6_parish 43 = .ok (.putfield 27, 3) := by decide +kernel
theorem dX6_parish_46 : decode cX6_parish 46 = .ok (.aload_n 0, 1) := by decide +kernel
theorem dX6_parish_47 : decode cX6_parish 47 = .ok (.aload_n 1, 1) := by decide +kernel
theorem dX6_parish_48 : decode cX6_parish 48 = .ok (.putfield 31, 3) := by decide +kernel
theorem dX6_parish_51 : decode cX6_parish 51 = .ok (.aload_n 0, 1) := by decide +kernel
theorem dX6_parish_52 : decode cX6_parish 52 = .ok (.getfield 27, 3) := by decide +kernel
theorem dX6_parish_55 : decode cX6_parish 55 = .ok (.invokevirtual 85, 3) := by decide +kernel
theorem dX6_parish_58 : decode cX6_parish 58 = .ok (.aload_n 0, 1) := by decide +kernel
theorem dX6_parish_59 : decode cX6_parish 59 = .ok (.iconst 0, 1) := by decide +kernel
theorem dX6_parish_60 : decode cX6_parish 60 = .ok (.putfield 13, 3) := by decide +kernel
theorem dX6_parish_63 : decode cX6_parish 63 = .ok (.aload_n 0, 1) := by decide +kernel
theorem dX6_parish_64 : decode cX6_parish 64 = .ok (.getfield 37, 3) := by decide +kernel
theorem dX6_parish_67 : decode cX6_parish 67 = .ok (.aload_n 0, 1) := by decide +kernel
theorem dX6_parish_68 : decode cX6_parish 68 = .ok (.getfield 27, 3) := by decide +kernel
theorem dX6_parish_71 : decode cX6_parish 71 = .ok (.invokevirtual 88, 3) := by decide +kernel
theorem dX6_parish_74 : decode cX6_parish 74 = .ok (.aload_n 0, 1) := by decide +kernel
theorem dX6_parish_75 : decode cX6_parish 75 = .ok (.getfield 44, 3) := by decide +kernel
theorem dX6_parish_78 : decode cX6_parish 78 = .ok (.iconst 0, 1) := by decide +kernel
theorem dX6_parish_79 : decode cX6_parish 79 = .ok (.putfield 92, 3) := by decide +kernel
theorem dX6_parish_82 : decode cX6_parish 82 = .ok (.aload_n 0, 1) := by decide +kernel
theorem dX6_parish_83 : decode cX6_parish 83 = .ok (.getfield 51, 3) := by decide +kernel
theorem dX6_parish_86 : decode cX6_parish 86 = .ok (.invokevirtual 95, 3) := by decide +kernel
theorem dX6_parish_89 : decode cX6_parish 89 = .ok (.iconst 0, 1) := by decide +kernel
theorem dX6_parish_90 : decode cX6_parish 90 = .ok (.istore_n 2, 1) := by decide +kernel
theorem dX6_parish_91 : decode cX6_parish 91 = .ok (.iload_n 2, 1) := by decide +kernel
theorem dX6_parish_92 : decode cX6_parish 92 = .ok (.iconst 2, 1) := by decide +kernel
theorem dX6_parish_93 : decode cX6_parish 93 = .ok (.if_icmp .ge 16, 3) := by decide +kernel
theorem dX6_parish_96 : decode cX6_parish 96 = .ok (.aload_n 0, 1) := by decide +kernel
theorem dX6_parish_97 : decode cX6_parish 97 = .ok (.getfield 66, 3) := by decide +kernel
theorem dX6_parish_100 : decode cX6_parish 100 = .ok (.iload_n 2, 1) := by decide +kernel
theorem dX6_parish_101 : decode cX6_parish 101 = .ok (.iconst 0, 1) := by decide +kernel
theorem dX6_parish_102 : decode cX6_parish 102 = .ok (.bastore, 1) := by decide +kernel
theorem dX6_parish_103 : decode cX6_parish 103 = .ok (.iinc 2 1, 3) := by decide +kernel
theorem dX6_parish_106 : decode cX6_parish 106 = .ok (.goto (-15), 3) := by decide +kernel
theorem dX6_parish_109 : decode cX6_parish 109 = .ok (.aload_n 0, 1) := by decide +kernel
theorem dX6_parish_110 : decode cX6_parish 110 = .ok (.getfield 20, 3) := by decide +kernel
theorem dX6_parish_113 : decode cX6_parish 113 = .ok (.getfield 98, 3) := by decide +kernel
theorem dX6_parish_116 : decode cX6_parish 116 = .ok (.ireturn, 1) := by decide +kernel
set_option maxRecDepth 20000 in
theorem ggX6_knee_X4_hasKnee : GoodIn wsX6_knee wsX4_hasKnee := goodIn_r _ [12, 13, 14, 15, 16, 32, 33, 34, 35, 36, 37, 38, 39, 40, 41, 42, 43] rfl (by decide +kernel)
set_option maxRecDepth 20000 in
theorem gX6_knee_X4_hasKnee : GoodIn wsX6_knee (wsV RX6 101 RX4 yX4_hasKnee wsX4_hasKnee) := goodIn_app (goodIn_of _ (by decide +kernel)) ggX6_knee_X4_hasKnee
set_option maxRecDepth 20000 in
theorem ggX6_knee_X6_bit : GoodIn wsX6_knee wsX6_bit := goodIn_r _ [19] rfl (by decide +kernel)
set_option maxRecDepth 20000 in
theorem gX6_knee_X6_bit : GoodIn wsX6_knee (va_wsS RX6 121 yX6_bit wsX6_bit) := goodIn_app (goodIn_of _ (by decide +kernel)) ggX6_knee_X6_bit
theorem dX6_knee_0 : decode cX6_knee 0 = .ok (.aload_n 0, 1) := by decide +kernel
theorem dX6_knee_1 : decode cX6_knee 1 = .ok (.getfield 27, 3) := by decide +kernel
theorem dX6_knee_4 : decode cX6_knee 4 = .ok (.iload_n 1, 1) := by decide +kernel
theorem dX6_knee_5 : decode cX6_knee 5 = .ok (.invokevirtual 101, 3) := by decide +kernel
theorem dX6_knee_8 : decode cX6_knee 8 = .ok (.ifCond .ne 5, 3) := by decide +kernel
theorem dX6_knee_11 : decode cX6_knee 11 = .ok (.iconst (-1), 1) := by decide +kernel
theorem dX6_knee_12 : decode cX6_knee 12 = .ok (.ireturn, 1) := by decide +kernel
theorem dX6_knee_13 : decode cX6_knee 13 = .ok (.iload_n 2, 1) := by decide +kernel
theorem dX6_knee_14 : decode cX6_knee 14 = .ok (.tableswitch 86 0 4 #[34, 44, 54, 64, 74], 34) := by decide +kernel
theorem dX6_knee_48 : decode cX6_knee 48 = .ok (.aload_n 0, 1) := by decide +kernel
theorem dX6_knee_49 : decode cX6_knee 49 = .ok (.getfield 27, 3) := by decide +kernel
theorem dX6_knee_52 : decode cX6_knee 52 = .ok (.getfield 105, 3) := by decide +kernel
theorem dX6_knee_55 : decode cX6_knee 55 = .ok (.iload_n 1, 1) := by decide +kernel
theorem dX6_knee_56 : decode cX6_knee 56 = .ok (.iaload, 1) := by decide +kernel
theorem dX6_knee_57 : decode cX6_knee 57 = .ok (.ireturn, 1) := by decide +kernel
theorem dX6_knee_58 : decode cX6_knee 58 = .ok (.aload_n 0, 1) := by decide +kernel
theorem dX6_knee_59 : decode cX6_knee 59 = .ok (.getfield 27, 3) := by decide +kernel
theorem dX6_knee_62 : decode cX6_knee 62 = .ok (.getfield 109, 3) := by decide +kernel
theorem dX6_knee_65 : decode cX6_knee 65 = .ok (.iload_n 1, 1) := by decide +kernel
theorem dX6_knee_66 : decode cX6_knee 66 = .ok (.iaload, 1) := by decide +kernel
theorem dX6_knee_67 : decode cX6_knee 67 = .ok (.ireturn, 1) := by decide +kernel
theorem dX6_knee_68 : decode cX6_knee 68 = .ok (.aload_n 0, 1) := by decide +kernel
theorem dX6_knee_69 : decode cX6_knee 69 = .ok (.getfield 37, 3) := by decide +kernel
theorem dX6_knee_72 : decode cX6_knee 72 = .ok (.getfield 112, 3) := by decide +kernel
theorem dX6_knee_75 : decode cX6_knee 75 = .ok (.iload_n 1, 1) := by decide +kernel
theorem dX6_knee_76 : decode cX6_knee 76 = .ok (.iaload, 1) := by decide +kernel
theorem dX6_knee_77 : decode cX6_knee 77 = .ok (.ireturn, 1) := by decide +kernel
theorem dX6_knee_78 : decode cX6_knee 78 = .ok (.aload_n 0, 1) := by decide +kernel
theorem dX6_knee_79 : decode cX6_knee 79 = .ok (.getfield 37, 3) := by decide +kernel
theorem dX6_knee_82 : decode cX6_knee 82 = .ok (.getfield 115, 3) := by decide +kernel
theorem dX6_knee_85 : decode cX6_knee 85 = .ok (.iload_n 1, 1) := by decide +kernel
theorem dX6_knee_86 : decode cX6_knee 86 = .ok (.iaload, 1) := by decide +kernel
theorem dX6_knee_87 : decode cX6_knee 87 = .ok (.ireturn, 1) := by decide +kernel
theorem dX6_knee_88 : decode cX6_knee 88 = .ok (.aload_n 0, 1) := by decide +kernel
theorem dX6_knee_89 : decode cX6_knee 89 = .ok (.getfield 37, 3) := by decide +kernel
theorem dX6_knee_92 : decode cX6_knee 92 = .ok (.getfield 118, 3) := by decide +kernel
theorem dX6_knee_95 : decode cX6_knee 95 = .ok (.iload_n 1, 1) := by decide +kernel
theorem dX6_knee_96 : decode cX6_knee 96 = .ok (.invokestatic 121, 3) := by decide +kernel
theorem dX6_knee_99 : decode cX6_knee 99 = .ok (.ireturn, 1) := by decide +kernel
theorem dX6_knee_100 : decode cX6_knee 100 = .ok (.iconst (-1), 1) := by decide +kernel
theorem dX6_knee_101 : decode cX6_knee 101 = .ok (.ireturn, 1) := by decide +kernel
set_option maxRecDepth 20000 in
theorem ggX6_person_X4_hasPerson : GoodIn wsX6_person wsX4_hasPerson := goodIn_r _ [9, 10, 11, 12, 13, 45, 46, 47, 48, 49, 50, 51, 52, 53, 54, 55, 56] rfl (by decide +kernel)
set_option maxRecDepth 20000 in
theorem gX6_person_X4_hasPerson : GoodIn wsX6_person (wsV RX6 125 RX4 yX4_hasPerson wsX4_hasPerson) := goodIn_app (goodIn_of _ (by decide +kernel)) ggX6_person_X4_hasPerson
set_option maxRecDepth 20000 in
theorem ggX6_person_X6_kneeHeld : GoodIn wsX6_person wsX6_kneeHeld := goodIn_r _ [17, 1, 18, 19, 20, 21, 33, 34, 35, 36, 37, 38, 39, 40, 41, 42, 43, 44, 45, 46, 47, 48, 49, 50, 51, 52, 53, 54, 55, 56, 57, 58, 59, 60, 61, 62, 63] rfl (by decide +kernel)
set_option maxRecDepth 20000 in
theorem gX6_person_X6_kneeHeld : GoodIn wsX6_person (wsV RX6 137 RX6 yX6_kneeHeld wsX6_kneeHeld) := goodIn_app (goodIn_of _ (by decide +kernel)) ggX6_person_X6_kneeHeld
set_option maxRecDepth 20000 in
theorem ggX6_person_X6_isReady : GoodIn wsX6_person wsX6_isReady := goodIn_r _ [25, 1, 26, 27, 28, 8, 29, 30, 31, 12, 32, 14, 15, 16, 17, 18, 19, 20, 21, 33, 34, 35, 36, 37, 38, 39, 40, 41, 42, 43, 44, 45, 46, 47, 48, 49, 50, 51, 52, 53, 54, 55, 56, 57, 58, 59, 60, 61, 62, 63] rfl (by decide +kernel)
set_option maxRecDepth 20000 in
theorem gX6_person_X6_isReady : GoodIn wsX6_person (wsV RX6 140 RX6 yX6_isReady wsX6_isReady) := goodIn_app (goodIn_of _ (by decide +kernel)) ggX6_person_X6_isReady
theorem dX6_person_0 : decode cX6_person 0 = .ok (.aload_n 0, 1) := by decide +kernel
theorem dX6_person_1 : decode cX6_person 1 = .ok (.getfield 27, 3) := by decide +kernel
theorem dX6_person_4 : decode cX6_person 4 = .ok (.iload_n 1, 1) := by decide +kernel
theorem dX6_person_5 : decode cX6_person 5 = .ok (.invokevirtual 125, 3) := by decide +kernel
theorem dX6_person_8 : decode cX6_person 8 = .ok (.ifCond .ne 5, 3) := by decide +kernel
theorem dX6_person_11 : decode cX6_person 11 = .ok (.iconst (-1), 1) := by decide +kernel
theorem dX6_person_12 : decode cX6_person 12 = .ok (.ireturn, 1) := by decide +kernel
theorem dX6_person_13 : decode cX6_person 13 = .ok (.iload_n 2, 1) := by decide +kernel
theorem dX6_person_14 : decode cX6_person 14 = .ok (.tableswitch 96 0 5 #[38, 48, 58, 68, 75, 82], 38) := by decide +kernel
theorem dX6_person_52 : decode cX6_person 52 = .ok (.aload_n 0, 1) := by decide +kernel
theorem dX6_person_53 : decode cX6_person 53 = .ok (.getfield 27, 3) := by decide +kernel
theorem dX6_person_56 : decode cX6_person 56 = .ok (.getfield 128, 3) := by decide +kernel
theorem dX6_person_59 : decode cX6_person 59 = .ok (.iload_n 1, 1) := by decide +kernel
theorem dX6_person_60 : decode cX6_person 60 = .ok (.iaload, 1) := by decide +kernel
theorem dX6_person_61 : decode cX6_person 61 = .ok (.ireturn, 1) := by decide +kernel
theorem dX6_person_62 : decode cX6_person 62 = .ok (.aload_n 0, 1) := by decide +kernel
theorem dX6_person_63 : decode cX6_person 63 = .ok (.getfield 27, 3) := by decide +kernel
theorem dX6_person_66 : decode cX6_person 66 = .ok (.getfield 131, 3) := by decide +kernel
theorem dX6_person_69 : decode cX6_person 69 = .ok (.iload_n 1, 1) := by decide +kernel
theorem dX6_person_70 : decode cX6_person 70 = .ok (.iaload, 1) := by decide +kernel
theorem dX6_person_71 : decode cX6_person 71 = .ok (.ireturn, 1) := by decide +kernel
theorem dX6_person_72 : decode cX6_person 72 = .ok (.aload_n 0, 1) := by decide +kernel
theorem dX6_person_73 : decode cX6_person 73 = .ok (.getfield 27, 3) := by decide +kernel
theorem dX6_person_76 : decode cX6_person 76 = .ok (.getfield 134, 3) := by decide +kernel
theorem dX6_person_79 : decode cX6_person 79 = .ok (.iload_n 1, 1) := by decide +kernel
theorem dX6_person_80 : decode cX6_person 80 = .ok (.iaload, 1) := by decide +kernel
theorem dX6_person_81 : decode cX6_person 81 = .ok (.ireturn, 1) := by decide +kernel
theorem dX6_person_82 : decode cX6_person 82 = .ok (.aload_n 0, 1) := by decide +kernel
theorem dX6_person_83 : decode cX6_person 83 = .ok (.iload_n 1, 1) := by decide +kernel
theorem dX6_person_84 : decode cX6_person 84 = .ok (.iconst 0, 1) := by decide +kernel
theorem dX6_person_85 : decode cX6_person 85 = .ok (.invokevirtual 137, 3) := by decide +kernel
theorem dX6_person_88 : decode cX6_person 88 = .ok (.ireturn, 1) := by decide +kernel
theorem dX6_person_89 : decode cX6_person 89 = .ok (.aload_n 0, 1) := by decide +kernel
theorem dX6_person_90 : decode cX6_person 90 = .ok (.iload_n 1, 1) := by decide +kernel
theorem dX6_person_91 : decode cX6_person 91 = .ok (.iconst 1, 1) := by decide +kernel
theorem dX6_person_92 : decode cX6_person 92 = .ok (.invokevirtual 137, 3) := by decide +kernel
theorem dX6_person_95 : decode cX6_person 95 = .ok (.ireturn, 1) := by decide +kernel
theorem dX6_person_96 : decode cX6_person 96 = .ok (.aload_n 0, 1) := by decide +kernel
theorem dX6_person_97 : decode cX6_person 97 = .ok (.iload_n 1, 1) := by decide +kernel
theorem dX6_person_98 : decode cX6_person 98 = .ok (.invokevirtual 140, 3) := by decide +kernel
theorem dX6_person_101 : decode cX6_person 101 = .ok (.ifCond .eq 7, 3) := by decide +kernel
theorem dX6_person_104 : decode cX6_person 104 = .ok (.iconst 1, 1) := by decide +kernel
theorem dX6_person_105 : decode cX6_person 105 = .ok (.goto 4, 3) := by decide +kernel
theorem dX6_person_108 : decode cX6_person 108 = .ok (.iconst 0, 1) := by decide +kernel
theorem dX6_person_109 : decode cX6_person 109 = .ok (.ireturn, 1) := by decide +kernel
theorem dX6_person_110 : decode cX6_person 110 = .ok (.iconst (-1), 1) := by decide +kernel
theorem dX6_person_111 : decode cX6_person 111 = .ok (.ireturn, 1) := by decide +kernel
set_option maxRecDepth 20000 in
theorem ggX6_farm_X6_within : GoodIn wsX6_farm wsX6_within := goodIn_r _ [8] rfl (by decide +kernel)
set_option maxRecDepth 20000 in
theorem gX6_farm_X6_within : GoodIn wsX6_farm (va_wsS RX6 74 yX6_within wsX6_within) := goodIn_app (goodIn_of _ (by decide +kernel)) ggX6_farm_X6_within
set_option maxRecDepth 20000 in
theorem ggX6_farm_X4_kneesOf : GoodIn wsX6_farm wsX4_kneesOf := goodIn_r _ [13, 14, 15, 28, 29, 30, 31, 32, 33, 34, 35, 36, 37, 38, 39] rfl (by decide +kernel)
set_option maxRecDepth 20000 in
theorem gX6_farm_X4_kneesOf : GoodIn wsX6_farm (wsV RX6 149 RX4 yX4_kneesOf wsX4_kneesOf) := goodIn_app (goodIn_of _ (by decide +kernel)) ggX6_farm_X4_kneesOf
theorem dX6_farm_0 : decode cX6_farm 0 = .ok (.iload_n 1, 1) := by decide +kernel
theorem dX6_farm_1 : decode cX6_farm 1 = .ok (.iconst 0, 1) := by decide +kernel
theorem dX6_farm_2 : decode cX6_farm 2 = .ok (.iconst 4, 1) := by decide +kernel
theorem dX6_farm_3 : decode cX6_farm 3 = .ok (.invokestatic 74, 3) := by decide +kernel
theorem dX6_farm_6 : decode cX6_farm 6 = .ok (.ifCond .ne 5, 3) := by decide +kernel
theorem dX6_farm_9 : decode cX6_farm 9 = .ok (.iconst (-1), 1) := by decide +kernel
theorem dX6_farm_10 : decode cX6_farm 10 = .ok (.ireturn, 1) := by decide +kernel
theorem dX6_farm_11 : decode cX6_farm 11 = .ok (.iload_n 2, 1) := by decide +kernel
theorem dX6_farm_12 : decode cX6_farm 12 = .ok (.tableswitch 71 0 3 #[32, 42, 52, 61], 32) := by decide +kernel
theorem dX6_farm_44 : decode cX6_farm 44 = .ok (.aload_n 0, 1) := by decide +kernel
theorem dX6_farm_45 : decode cX6_farm 45 = .ok (.getfield 27, 3) := by decide +kernel
theorem dX6_farm_48 : decode cX6_farm 48 = .ok (.getfield 143, 3) := by decide +kernel
theorem dX6_farm_51 : decode cX6_farm 51 = .ok (.iload_n 1, 1) := by decide +kernel
theorem dX6_farm_52 : decode cX6_farm 52 = .ok (.iaload, 1) := by decide +kernel
theorem dX6_farm_53 : decode cX6_farm 53 = .ok (.ireturn, 1) := by decide +kernel
theorem dX6_farm_54 : decode cX6_farm 54 = .ok (.aload_n 0, 1) := by decide +kernel
theorem dX6_farm_55 : decode cX6_farm 55 = .ok (.getfield 27, 3) := by decide +kernel
theorem dX6_farm_58 : decode cX6_farm 58 = .ok (.getfield 146, 3) := by decide +kernel
theorem dX6_farm_61 : decode cX6_farm 61 = .ok (.iload_n 1, 1) := by decide +kernel
theorem dX6_farm_62 : decode cX6_farm 62 = .ok (.iaload, 1) := by decide +kernel
theorem dX6_farm_63 : decode cX6_farm 63 = .ok (.ireturn, 1) := by decide +kernel
theorem dX6_farm_64 : decode cX6_farm 64 = .ok (.aload_n 0, 1) := by decide +kernel
theorem dX6_farm_65 : decode cX6_farm 65 = .ok (.getfield 27, 3) := by decide +kernel
theorem dX6_farm_68 : decode cX6_farm 68 = .ok (.iload_n 1, 1) := by decide +kernel
theorem dX6_farm_69 : decode cX6_farm 69 = .ok (.invokevirtual 149, 3) := by decide +kernel
theorem dX6_farm_72 : decode cX6_farm 72 = .ok (.ireturn, 1) := by decide +kernel
theorem dX6_farm_73 : decode cX6_farm 73 = .ok (.aload_n 0, 1) := by decide +kernel
theorem dX6_farm_74 : decode cX6_farm 74 = .ok (.getfield 27, 3) := by decide +kernel
theorem dX6_farm_77 : decode cX6_farm 77 = .ok (.getfield 153, 3) := by decide +kernel
theorem dX6_farm_80 : decode cX6_farm 80 = .ok (.iload_n 1, 1) := by decide +kernel
theorem dX6_farm_81 : decode cX6_farm 81 = .ok (.iaload, 1) := by decide +kernel
theorem dX6_farm_82 : decode cX6_farm 82 = .ok (.ireturn, 1) := by decide +kernel
theorem dX6_farm_83 : decode cX6_farm 83 = .ok (.iconst (-1), 1) := by decide +kernel
theorem dX6_farm_84 : decode cX6_farm 84 = .ok (.ireturn, 1) := by decide +kernel
set_option maxRecDepth 20000 in
theorem ggX6_now_X6_kneesAtHome : GoodIn wsX6_now wsX6_kneesAtHome := goodIn_r _ [14, 6, 15, 1, 16, 31, 32, 33, 34, 35, 36, 37, 38, 39, 40, 41, 42, 50, 51, 52, 53, 54, 55, 56, 57, 58, 59, 60, 61, 43, 44, 45, 46, 47, 48, 49] rfl (by decide +kernel)
set_option maxRecDepth 20000 in
theorem gX6_now_X6_kneesAtHome : GoodIn wsX6_now (wsV RX6 159 RX6 yX6_kneesAtHome wsX6_kneesAtHome) := goodIn_app (goodIn_of _ (by decide +kernel)) ggX6_now_X6_kneesAtHome
set_option maxRecDepth 20000 in
theorem ggX6_now_X6_restingKnee : GoodIn wsX6_now wsX6_restingKnee := goodIn_r _ [20, 6, 15, 1, 21, 22, 23, 24, 25, 26, 27, 28, 29, 13, 30, 31, 32, 33, 34, 35, 36, 37, 38, 39, 40, 41, 42, 50, 51, 52, 53, 54, 55, 56, 57, 58, 59, 60, 61, 43, 44, 45, 46, 47, 48, 49] rfl (by decide +kernel)
set_option maxRecDepth 20000 in
theorem gX6_now_X6_restingKnee : GoodIn wsX6_now (wsV RX6 171 RX6 yX6_restingKnee wsX6_restingKnee) := goodIn_app (goodIn_of _ (by decide +kernel)) ggX6_now_X6_restingKnee
theorem dX6_now_0 : decode cX6_now 0 = .ok (.iload_n 1, 1) := by decide +kernel
theorem dX6_now_1 : decode cX6_now 1 = .ok (.tableswitch 105 0 7 #[47, 55, 60, 68, 76, 84, 89, 97], 47) := by decide +kernel
theorem dX6_now_48 : decode cX6_now 48 = .ok (.aload_n 0, 1) := by decide +kernel
theorem dX6_now_49 : decode cX6_now 49 = .ok (.getfield 37, 3) := by decide +kernel
theorem dX6_now_52 : decode cX6_now 52 = .ok (.getfield 156, 3) := by decide +kernel
theorem dX6_now_55 : decode cX6_now 55 = .ok (.ireturn, 1) := by decide +kernel
theorem dX6_now_56 : decode cX6_now 56 = .ok (.aload_n 0, 1) := by decide +kernel
theorem dX6_now_57 : decode cX6_now 57 = .ok (.invokevirtual 159, 3) := by decide +kernel
theorem dX6_now_60 : decode cX6_now 60 = .ok (.ireturn, 1) := by decide +kernel
theorem dX6_now_61 : decode cX6_now 61 = .ok (.aload_n 0, 1) := by decide +kernel
theorem dX6_now_62 : decode cX6_now 62 = .ok (.getfield 37, 3) := by decide +kernel
theorem dX6_now_65 : decode cX6_now 65 = .ok (.getfield 163, 3) := by decide +kernel
theorem dX6_now_68 : decode cX6_now 68 = .ok (.ireturn, 1) := by decide +kernel
theorem dX6_now_69 : decode cX6_now 69 = .ok (.aload_n 0, 1) := by decide +kernel
theorem dX6_now_70 : decode cX6_now 70 = .ok (.getfield 37, 3) := by decide +kernel
theorem dX6_now_73 : decode cX6_now 73 = .ok (.getfield 165, 3) := by decide +kernel
theorem dX6_now_76 : decode cX6_now 76 = .ok (.ireturn, 1) := by decide +kernel
theorem dX6_now_77 : decode cX6_now 77 = .ok (.aload_n 0, 1) := by decide +kernel
theorem dX6_now_78 : decode cX6_now 78 = .ok (.getfield 37, 3) := by decide +kernel
theorem dX6_now_81 : decode cX6_now 81 = .ok (.getfield 168, 3) := by decide +kernel
theorem dX6_now_84 : decode cX6_now 84 = .ok (.ireturn, 1) := by decide +kernel
theorem dX6_now_85 : decode cX6_now 85 = .ok (.aload_n 0, 1) := by decide +kernel
theorem dX6_now_86 : decode cX6_now 86 = .ok (.invokevirtual 171, 3) := by decide +kernel
theorem dX6_now_89 : decode cX6_now 89 = .ok (.ireturn, 1) := by decide +kernel
theorem dX6_now_90 : decode cX6_now 90 = .ok (.aload_n 0, 1) := by decide +kernel
theorem dX6_now_91 : decode cX6_now 91 = .ok (.getfield 27, 3) := by decide +kernel
theorem dX6_now_94 : decode cX6_now 94 = .ok (.getfield 174, 3) := by decide +kernel
theorem dX6_now_97 : decode cX6_now 97 = .ok (.ireturn, 1) := by decide +kernel
theorem dX6_now_98 : decode cX6_now 98 = .ok (.aload_n 0, 1) := by decide +kernel
theorem dX6_now_99 : decode cX6_now 99 = .ok (.getfield 44, 3) := by decide +kernel
theorem dX6_now_102 : decode cX6_now 102 = .ok (.getfield 92, 3) := by decide +kernel
theorem dX6_now_105 : decode cX6_now 105 = .ok (.ireturn, 1) := by decide +kernel
theorem dX6_now_106 : decode cX6_now 106 = .ok (.iconst (-1), 1) := by decide +kernel
theorem dX6_now_107 : decode cX6_now 107 = .ok (.ireturn, 1) := by decide +kernel
set_option maxRecDepth 20000 in
theorem ggX6_lends_X4_hasKnee : GoodIn wsX6_lends wsX4_hasKnee := goodIn_r _ [17, 18, 19, 20, 21, 99, 100, 101, 102, 103, 104, 105, 106, 107, 108, 109, 110] rfl (by decide +kernel)
set_option maxRecDepth 20000 in
theorem gX6_lends_X4_hasKnee : GoodIn wsX6_lends (wsV RX6 101 RX4 yX4_hasKnee wsX4_hasKnee) := goodIn_app (goodIn_of _ (by decide +kernel)) ggX6_lends_X4_hasKnee
set_option maxRecDepth 20000 in
theorem ggX6_lends_X4_hasPerson : GoodIn wsX6_lends wsX4_hasPerson := goodIn_r _ [25, 26, 19, 20, 21, 99, 100, 101, 102, 103, 104, 105, 106, 107, 108, 109, 110] rfl (by decide +kernel)
set_option maxRecDepth 20000 in
theorem gX6_lends_X4_hasPerson : GoodIn wsX6_lends (wsV RX6 125 RX4 yX4_hasPerson wsX4_hasPerson) := goodIn_app (goodIn_of _ (by decide +kernel)) ggX6_lends_X4_hasPerson
set_option maxRecDepth 20000 in
theorem ggX6_lends_X6_mayBeLent : GoodIn wsX6_lends wsX6_mayBeLent := goodIn_r _ [30, 1, 31, 3, 32, 33, 34, 35, 36, 37, 38, 39, 40, 20, 41, 42, 43, 44, 16, 45, 46, 47, 48, 49, 50, 51, 4, 52, 53, 54, 55, 56, 57, 80, 81, 82, 83, 84, 85, 86, 87, 88, 89, 90, 91, 99, 100, 101, 102, 103, 104, 105, 106, 107, 108, 109, 110, 92, 93, 94, 95, 96, 97, 98] rfl (by decide +kernel)
set_option maxRecDepth 20000 in
theorem gX6_lends_X6_mayBeLent : GoodIn wsX6_lends (wsV RX6 177 RX6 yX6_mayBeLent wsX6_mayBeLent) := goodIn_app (goodIn_of _ (by decide +kernel)) ggX6_lends_X6_mayBeLent
set_option maxRecDepth 20000 in
theorem ggX6_lends_X0_remember : GoodIn wsX6_lends wsX0_remember := goodIn_r _ [62, 63, 64, 65, 66, 10, 11, 12, 67, 68, 69, 36, 70, 71, 72, 73, 74, 39, 38, 75, 76, 77, 78, 79, 111, 112, 113, 92, 93, 94, 95, 96, 97, 98] rfl (by decide +kernel)
set_option maxRecDepth 20000 in
theorem gX6_lends_X0_remember : GoodIn wsX6_lends (wsV RX6 181 RX0 yX0_remember wsX0_remember) := goodIn_app (goodIn_of _ (by decide +kernel)) ggX6_lends_X0_remember
theorem dX6_lends_0 : decode cX6_lends 0 = .ok (.aload_n 0, 1) := by decide +kernel
theorem dX6_lends_1 : decode cX6_lends 1 = .ok (.getfield 27, 3) := by decide +kernel
theorem dX6_lends_4 : decode cX6_lends 4 = .ok (.iload_n 1, 1) := by decide +kernel
theorem dX6_lends_5 : decode cX6_lends 5 = .ok (.invokevirtual 101, 3) := by decide +kernel
theorem dX6_lends_8 : decode cX6_lends 8 = .ok (.ifCond .eq 14, 3) := by decide +kernel
theorem dX6_lends_11 : decode cX6_lends 11 = .ok (.aload_n 0, 1) := by decide +kernel
theorem dX6_lends_12 : decode cX6_lends 12 = .ok (.getfield 27, 3) := by decide +kernel
theorem dX6_lends_15 : decode cX6_lends 15 = .ok (.iload_n 2, 1) := by decide +kernel
theorem dX6_lends_16 : decode cX6_lends 16 = .ok (.invokevirtual 125, 3) := by decide +kernel
theorem dX6_lends_19 : decode cX6_lends 19 = .ok (.ifCond .ne 5, 3) := by decide +kernel
theorem dX6_lends_22 : decode cX6_lends 22 = .ok (.iconst (-1), 1) := by decide +kernel
theorem dX6_lends_23 : decode cX6_lends 23 = .ok (.ireturn, 1) := by decide +kernel
theorem dX6_lends_24 : decode cX6_lends 24 = .ok (.aload_n 0, 1) := by decide +kernel
theorem dX6_lends_25 : decode cX6_lends 25 = .ok (.iload_n 1, 1) := by decide +kernel
theorem dX6_lends_26 : decode cX6_lends 26 = .ok (.iload_n 2, 1) := by decide +kernel
theorem dX6_lends_27 : decode cX6_lends 27 = .ok (.invokevirtual 177, 3) := by decide +kernel
theorem dX6_lends_30 : decode cX6_lends 30 = .ok (.ifCond .ne 6, 3) := by decide +kernel
theorem dX6_lends_33 : decode cX6_lends 33 = .ok (.bipush (-2), 2) := by decide +kernel
theorem dX6_lends_35 : decode cX6_lends 35 = .ok (.ireturn, 1) := by decide +kernel
theorem dX6_lends_36 : decode cX6_lends 36 = .ok (.aload_n 0, 1) := by decide +kernel
theorem dX6_lends_37 : decode cX6_lends 37 = .ok (.getfield 44, 3) := by decide +kernel
theorem dX6_lends_40 : decode cX6_lends 40 = .ok (.aload_n 0, 1) := by decide +kernel
theorem dX6_lends_41 : decode cX6_lends 41 = .ok (.getfield 37, 3) := by decide +kernel
theorem dX6_lends_44 : decode cX6_lends 44 = .ok (.invokevirtual 181, 3) := by decide +kernel
theorem dX6_lends_47 : decode cX6_lends 47 = .ok (.aload_n 0, 1) := by decide +kernel
theorem dX6_lends_48 : decode cX6_lends 48 = .ok (.getfield 37, 3) := by decide +kernel
theorem dX6_lends_51 : decode cX6_lends 51 = .ok (.getfield 115, 3) := by decide +kernel
theorem dX6_lends_54 : decode cX6_lends 54 = .ok (.iload_n 1, 1) := by decide +kernel
theorem dX6_lends_55 : decode cX6_lends 55 = .ok (.iload_n 2, 1) := by decide +kernel
theorem dX6_lends_56 : decode cX6_lends 56 = .ok (.iastore, 1) := by decide +kernel
theorem dX6_lends_57 : decode cX6_lends 57 = .ok (.aload_n 0, 1) := by decide +kernel
theorem dX6_lends_58 : decode cX6_lends 58 = .ok (.getfield 37, 3) := by decide +kernel
theorem dX6_lends_61 : decode cX6_lends 61 = .ok (.ldc 185, 2) := by decide +kernel
theorem dX6_lends_63 : decode cX6_lends 63 = .ok (.aload_n 0, 1) := by decide +kernel
theorem dX6_lends_64 : decode cX6_lends 64 = .ok (.getfield 37, 3) := by decide +kernel
theorem dX6_lends_67 : decode cX6_lends 67 = .ok (.getfield 163, 3) := by decide +kernel
theorem dX6_lends_70 : decode cX6_lends 70 = .ok (.aload_n 0, 1) := by decide +kernel
theorem dX6_lends_71 : decode cX6_lends 71 = .ok (.getfield 27, 3) := by decide +kernel
theorem dX6_lends_74 : decode cX6_lends 74 = .ok (.getfield 143, 3) := by decide +kernel
theorem dX6_lends_77 : decode cX6_lends 77 = .ok (.aload_n 0, 1) := by decide +kernel
theorem dX6_lends_78 : decode cX6_lends 78 = .ok (.getfield 27, 3) := by decide +kernel
theorem dX6_lends_81 : decode cX6_lends 81 = .ok (.getfield 109, 3) := by decide +kernel
theorem dX6_lends_84 : decode cX6_lends 84 = .ok (.iload_n 1, 1) := by decide +kernel
theorem dX6_lends_85 : decode cX6_lends 85 = .ok (.iaload, 1) := by decide +kernel
theorem dX6_lends_86 : decode cX6_lends 86 = .ok (.iaload, 1) := by decide +kernel
theorem dX6_lends_87 : decode cX6_lends 87 = .ok (.iadd, 1) := by decide +kernel
theorem dX6_lends_88 : decode cX6_lends 88 = .ok (.invokestatic 186, 3) := by decide +kernel
theorem dX6_lends_91 : decode cX6_lends 91 = .ok (.putfield 163, 3) := by decide +kernel
theorem dX6_lends_94 : decode cX6_lends 94 = .ok (.aload_n 0, 1) := by decide +kernel
theorem dX6_lends_95 : decode cX6_lends 95 = .ok (.getfield 37, 3) := by decide +kernel
theorem dX6_lends_98 : decode cX6_lends 98 = .ok (.getfield 163, 3) := by decide +kernel
theorem dX6_lends_101 : decode cX6_lends 101 = .ok (.ireturn, 1) := by decide +kernel
set_option maxRecDepth 20000 in
theorem ggX6_walks_X4_hasPerson : GoodIn wsX6_walks wsX4_hasPerson := goodIn_r _ [15, 16, 17, 18, 19, 81, 82, 83, 84, 85, 86, 87, 88, 89, 90, 91, 92] rfl (by decide +kernel)
set_option maxRecDepth 20000 in
theorem gX6_walks_X4_hasPerson : GoodIn wsX6_walks (wsV RX6 125 RX4 yX4_hasPerson wsX4_hasPerson) := goodIn_app (goodIn_of _ (by decide +kernel)) ggX6_walks_X4_hasPerson
set_option maxRecDepth 20000 in
theorem ggX6_walks_X6_within : GoodIn wsX6_walks wsX6_within := goodIn_r _ [19] rfl (by decide +kernel)
set_option maxRecDepth 20000 in
theorem gX6_walks_X6_within : GoodIn wsX6_walks (va_wsS RX6 74 yX6_within wsX6_within) := goodIn_app (goodIn_of _ (by decide +kernel)) ggX6_walks_X6_within
set_option maxRecDepth 20000 in
theorem ggX6_walks_X6_isReady : GoodIn wsX6_walks wsX6_isReady := goodIn_r _ [24, 1, 25, 26, 27, 14, 28, 29, 30, 18, 31, 32, 33, 34, 35, 4, 3, 5, 36, 69, 70, 71, 72, 73, 74, 75, 76, 77, 78, 79, 80, 81, 82, 83, 84, 85, 86, 87, 88, 89, 90, 91, 92, 93, 94, 95, 96, 97, 98, 99] rfl (by decide +kernel)
set_option maxRecDepth 20000 in
theorem gX6_walks_X6_isReady : GoodIn wsX6_walks (wsV RX6 140 RX6 yX6_isReady wsX6_isReady) := goodIn_app (goodIn_of _ (by decide +kernel)) ggX6_walks_X6_isReady
set_option maxRecDepth 20000 in
theorem ggX6_walks_X0_remember : GoodIn wsX6_walks wsX0_remember := goodIn_r _ [41, 42, 43, 44, 45, 8, 9, 10, 46, 47, 48, 49, 50, 51, 52, 53, 54, 55, 56, 57, 58, 59, 60, 61, 100, 101, 102, 93, 94, 95, 96, 97, 98, 99] rfl (by decide +kernel)
set_option maxRecDepth 20000 in
theorem gX6_walks_X0_remember : GoodIn wsX6_walks (wsV RX6 181 RX0 yX0_remember wsX0_remember) := goodIn_app (goodIn_of _ (by decide +kernel)) ggX6_walks_X0_remember
set_option maxRecDepth 20000 in
theorem ggX6_walks_X6_wear : GoodIn wsX6_walks wsX6_wear := goodIn_r _ [64] rfl (by decide +kernel)
set_option maxRecDepth 20000 in
theorem gX6_walks_X6_wear : GoodIn wsX6_walks (va_wsS RX6 194 yX6_wear wsX6_wear) := goodIn_app (goodIn_of _ (by decide +kernel)) ggX6_walks_X6_wear
set_option maxRecDepth 20000 in
theorem ggX6_walks_X3_bears : GoodIn wsX6_walks wsX3_bears := goodIn_r _ [68, 61, 93, 94, 95, 96, 97, 98, 99] rfl (by decide +kernel)
set_option maxRecDepth 20000 in
theorem gX6_walks_X3_bears : GoodIn wsX6_walks (wsV RX6 197 RX3 yX3_bears wsX3_bears) := goodIn_app (goodIn_of _ (by decide +kernel)) ggX6_walks_X3_bears
theorem dX6_walks_0 : decode cX6_walks 0 = .ok (.aload_n 0, 1) := by decide +kernel
theorem dX6_walks_1 : decode cX6_walks 1 = .ok (.getfield 27, 3) := by decide +kernel
theorem dX6_walks_4 : decode cX6_walks 4 = .ok (.iload_n 1, 1) := by decide +kernel
theorem dX6_walks_5 : decode cX6_walks 5 = .ok (.invokevirtual 125, 3) := by decide +kernel
theorem dX6_walks_8 : decode cX6_walks 8 = .ok (.ifCond .eq 23, 3) := by decide +kernel
theorem dX6_walks_11 : decode cX6_walks 11 = .ok (.iload_n 2, 1) := by decide +kernel
theorem dX6_walks_12 : decode cX6_walks 12 = .ok (.iconst 0, 1) := by decide +kernel
theorem dX6_walks_13 : decode cX6_walks 13 = .ok (.bipush 20, 2) := by decide +kernel
theorem dX6_walks_15 : decode cX6_walks 15 = .ok (.invokestatic 74, 3) := by decide +kernel
theorem dX6_walks_18 : decode cX6_walks 18 = .ok (.ifCond .eq 13, 3) := by decide +kernel
theorem dX6_walks_21 : decode cX6_walks 21 = .ok (.iload_n 3, 1) := by decide +kernel
theorem dX6_walks_22 : decode cX6_walks 22 = .ok (.iconst 0, 1) := by decide +kernel
theorem dX6_walks_23 : decode cX6_walks 23 = .ok (.bipush 20, 2) := by decide +kernel
theorem dX6_walks_25 : decode cX6_walks 25 = .ok (.invokestatic 74, 3) := by decide +kernel
theorem dX6_walks_28 : decode cX6_walks 28 = .ok (.ifCond .ne 5, 3) := by decide +kernel
theorem dX6_walks_31 : decode cX6_walks 31 = .ok (.iconst (-1), 1) := by decide +kernel
theorem dX6_walks_32 : decode cX6_walks 32 = .ok (.ireturn, 1) := by decide +kernel
theorem dX6_walks_33 : decode cX6_walks 33 = .ok (.aload_n 0, 1) := by decide +kernel
theorem dX6_walks_34 : decode cX6_walks 34 = .ok (.iload_n 1, 1) := by decide +kernel
theorem dX6_walks_35 : decode cX6_walks 35 = .ok (.invokevirtual 140, 3) := by decide +kernel
theorem dX6_walks_38 : decode cX6_walks 38 = .ok (.ifCond .ne 6, 3) := by decide +kernel
theorem dX6_walks_41 : decode cX6_walks 41 = .ok (.bipush (-2), 2) := by decide +kernel
theorem dX6_walks_43 : decode cX6_walks 43 = .ok (.ireturn, 1) := by decide +kernel
theorem dX6_walks_44 : decode cX6_walks 44 = .ok (.aload_n 0, 1) := by decide +kernel
theorem dX6_walks_45 : decode cX6_walks 45 = .ok (.getfield 44, 3) := by decide +kernel
theorem dX6_walks_48 : decode cX6_walks 48 = .ok (.aload_n 0, 1) := by decide +kernel
theorem dX6_walks_49 : decode cX6_walks 49 = .ok (.getfield 37, 3) := by decide +kernel
theorem dX6_walks_52 : decode cX6_walks 52 = .ok (.invokevirtual 181, 3) := by decide +kernel
theorem dX6_walks_55 : decode cX6_walks 55 = .ok (.iconst 0, 1) := by decide +kernel
theorem dX6_walks_56 : decode cX6_walks 56 = .ok (.istore 4, 2) := by decide +kernel
theorem dX6_walks_58 : decode cX6_walks 58 = .ok (.iconst 0, 1) := by decide +kernel
theorem dX6_walks_59 : decode cX6_walks 59 = .ok (.istore 5, 2) := by decide +kernel
theorem dX6_walks_61 : decode cX6_walks 61 = .ok (.iload 5, 2) := by decide +kernel
theorem dX6_walks_63 : decode cX6_walks 63 = .ok (.aload_n 0, 1) := by decide +kernel
theorem dX6_walks_64 : decode cX6_walks 64 = .ok (.getfield 27, 3) := by decide +kernel
theorem dX6_walks_67 : decode cX6_walks 67 = .ok (.getfield 191, 3) := by decide +kernel
theorem dX6_walks_70 : decode cX6_walks 70 = .ok (.if_icmp .ge 43, 3) := by decide +kernel
theorem dX6_walks_73 : decode cX6_walks 73 = .ok (.aload_n 0, 1) := by decide +kernel
theorem dX6_walks_74 : decode cX6_walks 74 = .ok (.getfield 37, 3) := by decide +kernel
theorem dX6_walks_77 : decode cX6_walks 77 = .ok (.getfield 115, 3) := by decide +kernel
theorem dX6_walks_80 : decode cX6_walks 80 = .ok (.iload 5, 2) := by decide +kernel
theorem dX6_walks_82 : decode cX6_walks 82 = .ok (.iaload, 1) := by decide +kernel
theorem dX6_walks_83 : decode cX6_walks 83 = .ok (.iload_n 1, 1) := by decide +kernel
theorem dX6_walks_84 : decode cX6_walks 84 = .ok (.if_icmp .ne 23, 3) := by decide +kernel
theorem dX6_walks_87 : decode cX6_walks 87 = .ok (.aload_n 0, 1) := by decide +kernel
theorem dX6_walks_88 : decode cX6_walks 88 = .ok (.getfield 37, 3) := by decide +kernel
theorem dX6_walks_91 : decode cX6_walks 91 = .ok (.iload 5, 2) := by decide +kernel
theorem dX6_walks_93 : decode cX6_walks 93 = .ok (.iload_n 2, 1) := by decide +kernel
theorem dX6_walks_94 : decode cX6_walks 94 = .ok (.iload_n 3, 1) := by decide +kernel
theorem dX6_walks_95 : decode cX6_walks 95 = .ok (.invokestatic 194, 3) := by decide +kernel
theorem dX6_walks_98 : decode cX6_walks 98 = .ok (.invokevirtual 197, 3) := by decide +kernel
theorem dX6_walks_101 : decode cX6_walks 101 = .ok (.ifCond .ne 6, 3) := by decide +kernel
theorem dX6_walks_104 : decode cX6_walks 104 = .ok (.iinc 4 1, 3) := by decide +kernel
theorem dX6_walks_107 : decode cX6_walks 107 = .ok (.iinc 5 1, 3) := by decide +kernel
theorem dX6_walks_110 : decode cX6_walks 110 = .ok (.goto (-49), 3) := by decide +kernel
theorem dX6_walks_113 : decode cX6_walks 113 = .ok (.aload_n 0, 1) := by decide +kernel
theorem dX6_walks_114 : decode cX6_walks 114 = .ok (.getfield 37, 3) := by decide +kernel
theorem dX6_walks_117 : decode cX6_walks 117 = .ok (.sipush 999, 3) := by decide +kernel
theorem dX6_walks_120 : decode cX6_walks 120 = .ok (.aload_n 0, 1) := by decide +kernel
theorem dX6_walks_121 : decode cX6_walks 121 = .ok (.getfield 37, 3) := by decide +kernel
theorem dX6_walks_124 : decode cX6_walks 124 = .ok (.getfield 168, 3) := by decide +kernel
theorem dX6_walks_127 : decode cX6_walks 127 = .ok (.iload 4, 2) := by decide +kernel
theorem dX6_walks_129 : decode cX6_walks 129 = .ok (.iadd, 1) := by decide +kernel
theorem dX6_walks_130 : decode cX6_walks 130 = .ok (.invokestatic 186, 3) := by decide +kernel
theorem dX6_walks_133 : decode cX6_walks 133 = .ok (.putfield 168, 3) := by decide +kernel
theorem dX6_walks_136 : decode cX6_walks 136 = .ok (.iload 4, 2) := by decide +kernel
theorem dX6_walks_138 : decode cX6_walks 138 = .ok (.ireturn, 1) := by decide +kernel
set_option maxRecDepth 20000 in
theorem ggX6_brings_X4_hasKnee : GoodIn wsX6_brings wsX4_hasKnee := goodIn_r _ [9, 10, 11, 12, 13, 61, 62, 63, 64, 65, 66, 67, 68, 69, 70, 71, 72] rfl (by decide +kernel)
set_option maxRecDepth 20000 in
theorem gX6_brings_X4_hasKnee : GoodIn wsX6_brings (wsV RX6 101 RX4 yX4_hasKnee wsX4_hasKnee) := goodIn_app (goodIn_of _ (by decide +kernel)) ggX6_brings_X4_hasKnee
set_option maxRecDepth 20000 in
theorem ggX6_brings_X0_remember : GoodIn wsX6_brings wsX0_remember := goodIn_r _ [18, 19, 20, 21, 22, 23, 24, 25, 26, 27, 28, 29, 30, 31, 32, 33, 34, 35, 36, 37, 38, 39, 40, 41, 73, 74, 75, 54, 55, 56, 57, 58, 59, 60] rfl (by decide +kernel)
set_option maxRecDepth 20000 in
theorem gX6_brings_X0_remember : GoodIn wsX6_brings (wsV RX6 181 RX0 yX0_remember wsX0_remember) := goodIn_app (goodIn_of _ (by decide +kernel)) ggX6_brings_X0_remember
theorem dX6_brings_0 : decode cX6_brings 0 = .ok (.aload_n 0, 1) := by decide +kernel
theorem dX6_brings_1 : decode cX6_brings 1 = .ok (.getfield 27, 3) := by decide +kernel
theorem dX6_brings_4 : decode cX6_brings 4 = .ok (.iload_n 1, 1) := by decide +kernel
theorem dX6_brings_5 : decode cX6_brings 5 = .ok (.invokevirtual 101, 3) := by decide +kernel
theorem dX6_brings_8 : decode cX6_brings 8 = .ok (.ifCond .ne 5, 3) := by decide +kernel
theorem dX6_brings_11 : decode cX6_brings 11 = .ok (.iconst (-1), 1) := by decide +kernel
theorem dX6_brings_12 : decode cX6_brings 12 = .ok (.ireturn, 1) := by decide +kernel
theorem dX6_brings_13 : decode cX6_brings 13 = .ok (.aload_n 0, 1) := by decide +kernel
theorem dX6_brings_14 : decode cX6_brings 14 = .ok (.getfield 37, 3) := by decide +kernel
theorem dX6_brings_17 : decode cX6_brings 17 = .ok (.getfield 115, 3) := by decide +kernel
theorem dX6_brings_20 : decode cX6_brings 20 = .ok (.iload_n 1, 1) := by decide +kernel
theorem dX6_brings_21 : decode cX6_brings 21 = .ok (.iaload, 1) := by decide +kernel
theorem dX6_brings_22 : decode cX6_brings 22 = .ok (.istore_n 2, 1) := by decide +kernel
theorem dX6_brings_23 : decode cX6_brings 23 = .ok (.iload_n 2, 1) := by decide +kernel
theorem dX6_brings_24 : decode cX6_brings 24 = .ok (.bipush (-9), 2) := by decide +kernel
theorem dX6_brings_26 : decode cX6_brings 26 = .ok (.if_icmp .ne 6, 3) := by decide +kernel
theorem dX6_brings_29 : decode cX6_brings 29 = .ok (.bipush (-2), 2) := by decide +kernel
theorem dX6_brings_31 : decode cX6_brings 31 = .ok (.ireturn, 1) := by decide +kernel
theorem dX6_brings_32 : decode cX6_brings 32 = .ok (.aload_n 0, 1) := by decide +kernel
theorem dX6_brings_33 : decode cX6_brings 33 = .ok (.getfield 44, 3) := by decide +kernel
theorem dX6_brings_36 : decode cX6_brings 36 = .ok (.aload_n 0, 1) := by decide +kernel
theorem dX6_brings_37 : decode cX6_brings 37 = .ok (.getfield 37, 3) := by decide +kernel
theorem dX6_brings_40 : decode cX6_brings 40 = .ok (.invokevirtual 181, 3) := by decide +kernel
theorem dX6_brings_43 : decode cX6_brings 43 = .ok (.aload_n 0, 1) := by decide +kernel
theorem dX6_brings_44 : decode cX6_brings 44 = .ok (.getfield 37, 3) := by decide +kernel
theorem dX6_brings_47 : decode cX6_brings 47 = .ok (.getfield 115, 3) := by decide +kernel
theorem dX6_brings_50 : decode cX6_brings 50 = .ok (.iload_n 1, 1) := by decide +kernel
theorem dX6_brings_51 : decode cX6_brings 51 = .ok (.bipush (-9), 2) := by decide +kernel
theorem dX6_brings_53 : decode cX6_brings 53 = .ok (.iastore, 1) := by decide +kernel
theorem dX6_brings_54 : decode cX6_brings 54 = .ok (.iload_n 2, 1) := by decide +kernel
theorem dX6_brings_55 : decode cX6_brings 55 = .ok (.ireturn, 1) := by decide +kernel
set_option maxRecDepth 20000 in
theorem ggX6_pledges_X4_hasKnee : GoodIn wsX6_pledges wsX4_hasKnee := goodIn_r _ [10, 11, 12, 13, 14, 73, 74, 75, 76, 77, 78, 79, 80, 81, 82, 83, 84] rfl (by decide +kernel)
set_option maxRecDepth 20000 in
theorem gX6_pledges_X4_hasKnee : GoodIn wsX6_pledges (wsV RX6 101 RX4 yX4_hasKnee wsX4_hasKnee) := goodIn_app (goodIn_of _ (by decide +kernel)) ggX6_pledges_X4_hasKnee
set_option maxRecDepth 20000 in
theorem ggX6_pledges_X6_within : GoodIn wsX6_pledges wsX6_within := goodIn_r _ [14] rfl (by decide +kernel)
set_option maxRecDepth 20000 in
theorem gX6_pledges_X6_within : GoodIn wsX6_pledges (va_wsS RX6 74 yX6_within wsX6_within) := goodIn_app (goodIn_of _ (by decide +kernel)) ggX6_pledges_X6_within
set_option maxRecDepth 20000 in
theorem ggX6_pledges_X6_bit : GoodIn wsX6_pledges wsX6_bit := goodIn_r _ [18] rfl (by decide +kernel)
set_option maxRecDepth 20000 in
theorem gX6_pledges_X6_bit : GoodIn wsX6_pledges (va_wsS RX6 121 yX6_bit wsX6_bit) := goodIn_app (goodIn_of _ (by decide +kernel)) ggX6_pledges_X6_bit
set_option maxRecDepth 20000 in
theorem ggX6_pledges_X0_remember : GoodIn wsX6_pledges wsX0_remember := goodIn_r _ [23, 24, 25, 26, 27, 28, 29, 30, 31, 32, 33, 34, 35, 36, 37, 38, 39, 40, 41, 42, 43, 44, 45, 46, 85, 86, 87, 66, 67, 68, 69, 70, 71, 72] rfl (by decide +kernel)
set_option maxRecDepth 20000 in
theorem gX6_pledges_X0_remember : GoodIn wsX6_pledges (wsV RX6 181 RX0 yX0_remember wsX0_remember) := goodIn_app (goodIn_of _ (by decide +kernel)) ggX6_pledges_X0_remember
set_option maxRecDepth 20000 in
theorem ggX6_pledges_J6_bitCount_0f7a4 : GoodIn wsX6_pledges wsJ6_bitCount_0f7a4 := goodIn_r _ [50, 51, 52, 53] rfl (by decide +kernel)
set_option maxRecDepth 20000 in
theorem gX6_pledges_J6_bitCount_0f7a4 : GoodIn wsX6_pledges (va_wsS RX6 200 yJ6_bitCount_0f7a4 wsJ6_bitCount_0f7a4) := goodIn_app (goodIn_of _ (by decide +kernel)) ggX6_pledges_J6_bitCount_0f7a4
theorem dX6_pledges_0 : decode cX6_pledges 0 = .ok (.aload_n 0, 1) := by decide +kernel
theorem dX6_pledges_1 : decode cX6_pledges 1 = .ok (.getfield 27, 3) := by decide +kernel
theorem dX6_pledges_4 : decode cX6_pledges 4 = .ok (.iload_n 1, 1) := by decide +kernel
theorem dX6_pledges_5 : decode cX6_pledges 5 = .ok (.invokevirtual 101, 3) := by decide +kernel
theorem dX6_pledges_8 : decode cX6_pledges 8 = .ok (.ifCond .eq 12, 3) := by decide +kernel
theorem dX6_pledges_11 : decode cX6_pledges 11 = .ok (.iload_n 2, 1) := by decide +kernel
theorem dX6_pledges_12 : decode cX6_pledges 12 = .ok (.iconst 0, 1) := by decide +kernel
theorem dX6_pledges_13 : decode cX6_pledges 13 = .ok (.iconst 1, 1) := by decide +kernel
theorem dX6_pledges_14 : decode cX6_pledges 14 = .ok (.invokestatic 74, 3) := by decide +kernel
theorem dX6_pledges_17 : decode cX6_pledges 17 = .ok (.ifCond .ne 5, 3) := by decide +kernel
theorem dX6_pledges_20 : decode cX6_pledges 20 = .ok (.iconst (-1), 1) := by decide +kernel
theorem dX6_pledges_21 : decode cX6_pledges 21 = .ok (.ireturn, 1) := by decide +kernel
theorem dX6_pledges_22 : decode cX6_pledges 22 = .ok (.aload_n 0, 1) := by decide +kernel
theorem dX6_pledges_23 : decode cX6_pledges 23 = .ok (.getfield 37, 3) := by decide +kernel
theorem dX6_pledges_26 : decode cX6_pledges 26 = .ok (.getfield 118, 3) := by decide +kernel
theorem dX6_pledges_29 : decode cX6_pledges 29 = .ok (.iload_n 1, 1) := by decide +kernel
theorem dX6_pledges_30 : decode cX6_pledges 30 = .ok (.invokestatic 121, 3) := by decide +kernel
theorem dX6_pledges_33 : decode cX6_pledges 33 = .ok (.iload_n 2, 1) := by decide +kernel
theorem dX6_pledges_34 : decode cX6_pledges 34 = .ok (.if_icmp .eq 17, 3) := by decide +kernel
theorem dX6_pledges_37 : decode cX6_pledges 37 = .ok (.aload_n 0, 1) := by decide +kernel
theorem dX6_pledges_38 : decode cX6_pledges 38 = .ok (.getfield 37, 3) := by decide +kernel
theorem dX6_pledges_41 : decode cX6_pledges 41 = .ok (.getfield 115, 3) := by decide +kernel
theorem dX6_pledges_44 : decode cX6_pledges 44 = .ok (.iload_n 1, 1) := by decide +kernel
theorem dX6_pledges_45 : decode cX6_pledges 45 = .ok (.iaload, 1) := by decide +kernel
theorem dX6_pledges_46 : decode cX6_pledges 46 = .ok (.bipush (-9), 2) := by decide +kernel
theorem dX6_pledges_48 : decode cX6_pledges 48 = .ok (.if_icmp .eq 6, 3) := by decide +kernel
theorem dX6_pledges_51 : decode cX6_pledges 51 = .ok (.bipush (-2), 2) := by decide +kernel
theorem dX6_pledges_53 : decode cX6_pledges 53 = .ok (.ireturn, 1) := by decide +kernel
theorem dX6_pledges_54 : decode cX6_pledges 54 = .ok (.aload_n 0, 1) := by decide +kernel
theorem dX6_pledges_55 : decode cX6_pledges 55 = .ok (.getfield 44, 3) := by decide +kernel
theorem dX6_pledges_58 : decode cX6_pledges 58 = .ok (.aload_n 0, 1) := by decide +kernel
theorem dX6_pledges_59 : decode cX6_pledges 59 = .ok (.getfield 37, 3) := by decide +kernel
theorem dX6_pledges_62 : decode cX6_pledges 62 = .ok (.invokevirtual 181, 3) := by decide +kernel
theorem dX6_pledges_65 : decode cX6_pledges 65 = .ok (.aload_n 0, 1) := by decide +kernel
theorem dX6_pledges_66 : decode cX6_pledges 66 = .ok (.getfield 37, 3) := by decide +kernel
theorem dX6_pledges_69 : decode cX6_pledges 69 = .ok (.dup, 1) := by decide +kernel
theorem dX6_pledges_70 : decode cX6_pledges 70 = .ok (.getfield 118, 3) := by decide +kernel
theorem dX6_pledges_73 : decode cX6_pledges 73 = .ok (.iconst 1, 1) := by decide +kernel
theorem dX6_pledges_74 : decode cX6_pledges 74 = .ok (.iload_n 1, 1) := by decide +kernel
theorem dX6_pledges_75 : decode cX6_pledges 75 = .ok (.ishl, 1) := by decide +kernel
theorem dX6_pledges_76 : decode cX6_pledges 76 = .ok (.ixor, 1) := by decide +kernel
theorem dX6_pledges_77 : decode cX6_pledges 77 = .ok (.putfield 118, 3) := by decide +kernel
theorem dX6_pledges_80 : decode cX6_pledges 80 = .ok (.aload_n 0, 1) := by decide +kernel
theorem dX6_pledges_81 : decode cX6_pledges 81 = .ok (.getfield 37, 3) := by decide +kernel
theorem dX6_pledges_84 : decode cX6_pledges 84 = .ok (.getfield 118, 3) := by decide +kernel
theorem dX6_pledges_87 : decode cX6_pledges 87 = .ok (.invokestatic 200, 3) := by decide +kernel
theorem dX6_pledges_90 : decode cX6_pledges 90 = .ok (.ireturn, 1) := by decide +kernel
set_option maxRecDepth 20000 in
theorem ggX6_bell_X0_remember : GoodIn wsX6_bell wsX0_remember := goodIn_r _ [15, 16, 17, 18, 19, 8, 9, 10, 20, 21, 22, 23, 24, 25, 26, 27, 28, 29, 30, 31, 32, 33, 34, 35, 80, 81, 82, 61, 62, 63, 64, 65, 66, 67] rfl (by decide +kernel)
set_option maxRecDepth 20000 in
theorem gX6_bell_X0_remember : GoodIn wsX6_bell (wsV RX6 181 RX0 yX0_remember wsX0_remember) := goodIn_app (goodIn_of _ (by decide +kernel)) ggX6_bell_X0_remember
set_option maxRecDepth 20000 in
theorem ggX6_bell_X6_kneesAtHome : GoodIn wsX6_bell wsX6_kneesAtHome := goodIn_r _ [40, 4, 5, 1, 41, 49, 50, 51, 52, 53, 54, 55, 56, 57, 58, 59, 60, 68, 69, 70, 71, 72, 73, 74, 75, 76, 77, 78, 79, 61, 62, 63, 64, 65, 66, 67] rfl (by decide +kernel)
set_option maxRecDepth 20000 in
theorem gX6_bell_X6_kneesAtHome : GoodIn wsX6_bell (wsV RX6 159 RX6 yX6_kneesAtHome wsX6_kneesAtHome) := goodIn_app (goodIn_of _ (by decide +kernel)) ggX6_bell_X6_kneesAtHome
set_option maxRecDepth 20000 in
theorem ggX6_bell_J6_bitCount_0f7a4 : GoodIn wsX6_bell wsJ6_bitCount_0f7a4 := goodIn_r _ [45, 46, 47, 48] rfl (by decide +kernel)
set_option maxRecDepth 20000 in
theorem gX6_bell_J6_bitCount_0f7a4 : GoodIn wsX6_bell (va_wsS RX6 200 yJ6_bitCount_0f7a4 wsJ6_bitCount_0f7a4) := goodIn_app (goodIn_of _ (by decide +kernel)) ggX6_bell_J6_bitCount_0f7a4
theorem dX6_bell_0 : decode cX6_bell 0 = .ok (.aload_n 0, 1) := by decide +kernel
theorem dX6_bell_1 : decode cX6_bell 1 = .ok (.getfield 37, 3) := by decide +kernel
theorem dX6_bell_4 : decode cX6_bell 4 = .ok (.getfield 156, 3) := by decide +kernel
theorem dX6_bell_7 : decode cX6_bell 7 = .ok (.sipush 999, 3) := by decide +kernel
theorem dX6_bell_10 : decode cX6_bell 10 = .ok (.if_icmp .lt 6, 3) := by decide +kernel
theorem dX6_bell_13 : decode cX6_bell 13 = .ok (.bipush (-2), 2) := by decide +kernel
theorem dX6_bell_15 : decode cX6_bell 15 = .ok (.ireturn, 1) := by decide +kernel
theorem dX6_bell_16 : decode cX6_bell 16 = .ok (.aload_n 0, 1) := by decide +kernel
theorem dX6_bell_17 : decode cX6_bell 17 = .ok (.getfield 44, 3) := by decide +kernel
theorem dX6_bell_20 : decode cX6_bell 20 = .ok (.aload_n 0, 1) := by decide +kernel
theorem dX6_bell_21 : decode cX6_bell 21 = .ok (.getfield 37, 3) := by decide +kernel
theorem dX6_bell_24 : decode cX6_bell 24 = .ok (.invokevirtual 181, 3) := by decide +kernel
theorem dX6_bell_27 : decode cX6_bell 27 = .ok (.aload_n 0, 1) := by decide +kernel
theorem dX6_bell_28 : decode cX6_bell 28 = .ok (.getfield 27, 3) := by decide +kernel
theorem dX6_bell_31 : decode cX6_bell 31 = .ok (.getfield 191, 3) := by decide +kernel
theorem dX6_bell_34 : decode cX6_bell 34 = .ok (.aload_n 0, 1) := by decide +kernel
theorem dX6_bell_35 : decode cX6_bell 35 = .ok (.invokevirtual 159, 3) := by decide +kernel
theorem dX6_bell_38 : decode cX6_bell 38 = .ok (.invokestatic 200, 3) := by decide +kernel
theorem dX6_bell_41 : decode cX6_bell 41 = .ok (.isub, 1) := by decide +kernel
theorem dX6_bell_42 : decode cX6_bell 42 = .ok (.istore_n 1, 1) := by decide +kernel
theorem dX6_bell_43 : decode cX6_bell 43 = .ok (.aload_n 0, 1) := by decide +kernel
theorem dX6_bell_44 : decode cX6_bell 44 = .ok (.getfield 37, 3) := by decide +kernel
theorem dX6_bell_47 : decode cX6_bell 47 = .ok (.dup, 1) := by decide +kernel
theorem dX6_bell_48 : decode cX6_bell 48 = .ok (.getfield 156, 3) := by decide +kernel
theorem dX6_bell_51 : decode cX6_bell 51 = .ok (.iconst 1, 1) := by decide +kernel
theorem dX6_bell_52 : decode cX6_bell 52 = .ok (.iadd, 1) := by decide +kernel
theorem dX6_bell_53 : decode cX6_bell 53 = .ok (.putfield 156, 3) := by decide +kernel
theorem dX6_bell_56 : decode cX6_bell 56 = .ok (.aload_n 0, 1) := by decide +kernel
theorem dX6_bell_57 : decode cX6_bell 57 = .ok (.getfield 37, 3) := by decide +kernel
theorem dX6_bell_60 : decode cX6_bell 60 = .ok (.sipush 9999, 3) := by decide +kernel
theorem dX6_bell_63 : decode cX6_bell 63 = .ok (.aload_n 0, 1) := by decide +kernel
theorem dX6_bell_64 : decode cX6_bell 64 = .ok (.getfield 37, 3) := by decide +kernel
theorem dX6_bell_67 : decode cX6_bell 67 = .ok (.getfield 165, 3) := by decide +kernel
theorem dX6_bell_70 : decode cX6_bell 70 = .ok (.iload_n 1, 1) := by decide +kernel
theorem dX6_bell_71 : decode cX6_bell 71 = .ok (.iadd, 1) := by decide +kernel
theorem dX6_bell_72 : decode cX6_bell 72 = .ok (.invokestatic 186, 3) := by decide +kernel
theorem dX6_bell_75 : decode cX6_bell 75 = .ok (.putfield 165, 3) := by decide +kernel
theorem dX6_bell_78 : decode cX6_bell 78 = .ok (.iload_n 1, 1) := by decide +kernel
theorem dX6_bell_79 : decode cX6_bell 79 = .ok (.ireturn, 1) := by decide +kernel
set_option maxRecDepth 20000 in
theorem ggX6_undo_X0_takeBack : GoodIn wsX6_undo wsX0_takeBack := goodIn_r _ [8, 9, 10, 11, 12, 13, 14, 15, 16, 17, 18, 19, 20, 21, 22, 23, 24, 25, 26, 27, 40, 41, 42, 43, 44, 45, 46, 47, 48, 49] rfl (by decide +kernel)
set_option maxRecDepth 20000 in
theorem gX6_undo_X0_takeBack : GoodIn wsX6_undo (wsV RX6 205 RX0 yX0_takeBack wsX0_takeBack) := goodIn_app (goodIn_of _ (by decide +kernel)) ggX6_undo_X0_takeBack
theorem dX6_undo_0 : decode cX6_undo 0 = .ok (.aload_n 0, 1) := by decide +kernel
theorem dX6_undo_1 : decode cX6_undo 1 = .ok (.getfield 44, 3) := by decide +kernel
theorem dX6_undo_4 : decode cX6_undo 4 = .ok (.getfield 92, 3) := by decide +kernel
theorem dX6_undo_7 : decode cX6_undo 7 = .ok (.ifCond .ne 6, 3) := by decide +kernel
theorem dX6_undo_10 : decode cX6_undo 10 = .ok (.bipush (-2), 2) := by decide +kernel
theorem dX6_undo_12 : decode cX6_undo 12 = .ok (.ireturn, 1) := by decide +kernel
theorem dX6_undo_13 : decode cX6_undo 13 = .ok (.aload_n 0, 1) := by decide +kernel
theorem dX6_undo_14 : decode cX6_undo 14 = .ok (.getfield 44, 3) := by decide +kernel
theorem dX6_undo_17 : decode cX6_undo 17 = .ok (.aload_n 0, 1) := by decide +kernel
theorem dX6_undo_18 : decode cX6_undo 18 = .ok (.getfield 37, 3) := by decide +kernel
theorem dX6_undo_21 : decode cX6_undo 21 = .ok (.invokevirtual 205, 3) := by decide +kernel
theorem dX6_undo_24 : decode cX6_undo 24 = .ok (.aload_n 0, 1) := by decide +kernel
theorem dX6_undo_25 : decode cX6_undo 25 = .ok (.getfield 44, 3) := by decide +kernel
theorem dX6_undo_28 : decode cX6_undo 28 = .ok (.getfield 92, 3) := by decide +kernel
theorem dX6_undo_31 : decode cX6_undo 31 = .ok (.ireturn, 1) := by decide +kernel
set_option maxRecDepth 20000 in
theorem ggX6_canGo_X4_hasKnee : GoodIn wsX6_canGo wsX4_hasKnee := goodIn_r _ [7, 8, 9, 10, 11, 57, 58, 59, 60, 61, 62, 63, 64, 65, 66, 67, 68] rfl (by decide +kernel)
set_option maxRecDepth 20000 in
theorem gX6_canGo_X4_hasKnee : GoodIn wsX6_canGo (wsV RX6 101 RX4 yX4_hasKnee wsX4_hasKnee) := goodIn_app (goodIn_of _ (by decide +kernel)) ggX6_canGo_X4_hasKnee
set_option maxRecDepth 20000 in
theorem ggX6_canGo_X4_hasPerson : GoodIn wsX6_canGo wsX4_hasPerson := goodIn_r _ [15, 16, 9, 10, 11, 57, 58, 59, 60, 61, 62, 63, 64, 65, 66, 67, 68] rfl (by decide +kernel)
set_option maxRecDepth 20000 in
theorem gX6_canGo_X4_hasPerson : GoodIn wsX6_canGo (wsV RX6 125 RX4 yX4_hasPerson wsX4_hasPerson) := goodIn_app (goodIn_of _ (by decide +kernel)) ggX6_canGo_X4_hasPerson
set_option maxRecDepth 20000 in
theorem ggX6_canGo_X3_offers : GoodIn wsX6_canGo wsX3_offers := goodIn_r _ [21, 22, 23, 24, 25, 26, 20, 27, 28, 29, 30, 10, 31, 32, 33, 34, 6, 35, 36, 37, 38, 39, 40, 41, 42, 43, 44, 57, 58, 59, 60, 61, 62, 63, 64, 65, 66, 67, 68, 69, 70, 71, 72, 73, 74, 75] rfl (by decide +kernel)
set_option maxRecDepth 20000 in
theorem gX6_canGo_X3_offers : GoodIn wsX6_canGo (wsV RX6 208 RX3 yX3_offers wsX3_offers) := goodIn_app (goodIn_of _ (by decide +kernel)) ggX6_canGo_X3_offers
theorem dX6_canGo_0 : decode cX6_canGo 0 = .ok (.aload_n 0, 1) := by decide +kernel
theorem dX6_canGo_1 : decode cX6_canGo 1 = .ok (.getfield 27, 3) := by decide +kernel
theorem dX6_canGo_4 : decode cX6_canGo 4 = .ok (.iload_n 1, 1) := by decide +kernel
theorem dX6_canGo_5 : decode cX6_canGo 5 = .ok (.invokevirtual 101, 3) := by decide +kernel
theorem dX6_canGo_8 : decode cX6_canGo 8 = .ok (.ifCond .eq 14, 3) := by decide +kernel
theorem dX6_canGo_11 : decode cX6_canGo 11 = .ok (.aload_n 0, 1) := by decide +kernel
theorem dX6_canGo_12 : decode cX6_canGo 12 = .ok (.getfield 27, 3) := by decide +kernel
theorem dX6_canGo_15 : decode cX6_canGo 15 = .ok (.iload_n 2, 1) := by decide +kernel
theorem dX6_canGo_16 : decode cX6_canGo 16 = .ok (.invokevirtual 125, 3) := by decide +kernel
theorem dX6_canGo_19 : decode cX6_canGo 19 = .ok (.ifCond .ne 5, 3) := by decide +kernel
theorem dX6_canGo_22 : decode cX6_canGo 22 = .ok (.iconst (-1), 1) := by decide +kernel
theorem dX6_canGo_23 : decode cX6_canGo 23 = .ok (.ireturn, 1) := by decide +kernel
theorem dX6_canGo_24 : decode cX6_canGo 24 = .ok (.aload_n 0, 1) := by decide +kernel
theorem dX6_canGo_25 : decode cX6_canGo 25 = .ok (.getfield 37, 3) := by decide +kernel
theorem dX6_canGo_28 : decode cX6_canGo 28 = .ok (.aload_n 0, 1) := by decide +kernel
theorem dX6_canGo_29 : decode cX6_canGo 29 = .ok (.getfield 27, 3) := by decide +kernel
theorem dX6_canGo_32 : decode cX6_canGo 32 = .ok (.iload_n 1, 1) := by decide +kernel
theorem dX6_canGo_33 : decode cX6_canGo 33 = .ok (.iload_n 2, 1) := by decide +kernel
theorem dX6_canGo_34 : decode cX6_canGo 34 = .ok (.invokevirtual 208, 3) := by decide +kernel
theorem dX6_canGo_37 : decode cX6_canGo 37 = .ok (.ifCond .eq 7, 3) := by decide +kernel
theorem dX6_canGo_40 : decode cX6_canGo 40 = .ok (.iconst 1, 1) := by decide +kernel
theorem dX6_canGo_41 : decode cX6_canGo 41 = .ok (.goto 4, 3) := by decide +kernel
theorem dX6_canGo_44 : decode cX6_canGo 44 = .ok (.iconst 0, 1) := by decide +kernel
theorem dX6_canGo_45 : decode cX6_canGo 45 = .ok (.ireturn, 1) := by decide +kernel
set_option maxRecDepth 20000 in
theorem ggX6_lending_X4_everybody : GoodIn wsX6_lending wsX4_everybody := goodIn_r _ [8, 9, 123, 124, 125, 126, 127, 128, 129, 130, 131, 132, 133, 134] rfl (by decide +kernel)
set_option maxRecDepth 20000 in
theorem gX6_lending_X4_everybody : GoodIn wsX6_lending (wsV RX6 212 RX4 yX4_everybody wsX4_everybody) := goodIn_app (goodIn_of _ (by decide +kernel)) ggX6_lending_X4_everybody
set_option maxRecDepth 20000 in
theorem ggX6_lending_X6_within : GoodIn wsX6_lending wsX6_within := goodIn_r _ [13] rfl (by decide +kernel)
set_option maxRecDepth 20000 in
theorem gX6_lending_X6_within : GoodIn wsX6_lending (va_wsS RX6 74 yX6_within wsX6_within) := goodIn_app (goodIn_of _ (by decide +kernel)) ggX6_lending_X6_within
set_option maxRecDepth 20000 in
theorem ggX6_lending_X2_weigh : GoodIn wsX6_lending wsX2_weigh := goodIn_r _ [18, 19, 20, 21, 22, 23, 24, 25, 26, 27, 28, 29, 30, 31, 32, 33, 34, 35, 17, 36, 37, 38, 39, 40, 41, 7, 42, 43, 44, 12, 45, 46, 47, 48, 49, 50, 51, 52, 53, 54, 55, 56, 57, 58, 59, 60, 61, 62, 63, 64, 65, 66, 67, 68, 69, 70, 71, 72, 73, 74, 75, 76, 77, 78, 79, 80, 81, 82, 83, 84, 85, 86, 87, 88, 89, 90, 91, 92, 93, 94, 95, 96, 97, 98, 99, 100, 101, 102, 135, 136, 137, 138, 139, 140, 123, 124, 125, 126, 127, 128, 129, 130, 131, 132, 133, 134, 141, 142, 143, 144, 145, 146, 147] rfl (by decide +kernel)
set_option maxRecDepth 20000 in
theorem gX6_lending_X2_weigh : GoodIn wsX6_lending (wsV RX6 215 RX2 yX2_weigh wsX2_weigh) := goodIn_app (goodIn_of _ (by decide +kernel)) ggX6_lending_X2_weigh
set_option maxRecDepth 20000 in
theorem ggX6_lending_X2_goers : GoodIn wsX6_lending wsX2_goers := goodIn_r _ [106, 25, 135, 136, 137, 138, 139, 140] rfl (by decide +kernel)
set_option maxRecDepth 20000 in
theorem gX6_lending_X2_goers : GoodIn wsX6_lending (wsV RX6 219 RX2 yX2_goers wsX2_goers) := goodIn_app (goodIn_of _ (by decide +kernel)) ggX6_lending_X2_goers
set_option maxRecDepth 20000 in
theorem ggX6_lending_X2_leastOil : GoodIn wsX6_lending wsX2_leastOil := goodIn_r _ [110, 25, 135, 136, 137, 138, 139, 140] rfl (by decide +kernel)
set_option maxRecDepth 20000 in
theorem gX6_lending_X2_leastOil : GoodIn wsX6_lending (wsV RX6 222 RX2 yX2_leastOil wsX2_leastOil) := goodIn_app (goodIn_of _ (by decide +kernel)) ggX6_lending_X2_leastOil
theorem dX6_lending_0 : decode cX6_lending 0 = .ok (.iload_n 1, 1) := by decide +kernel
theorem dX6_lending_1 : decode cX6_lending 1 = .ok (.iconst 0, 1) := by decide +kernel
theorem dX6_lending_2 : decode cX6_lending 2 = .ok (.aload_n 0, 1) := by decide +kernel
theorem dX6_lending_3 : decode cX6_lending 3 = .ok (.getfield 27, 3) := by decide +kernel
theorem dX6_lending_6 : decode cX6_lending 6 = .ok (.invokevirtual 212, 3) := by decide +kernel
theorem dX6_lending_9 : decode cX6_lending 9 = .ok (.invokestatic 74, 3) := by decide +kernel
theorem dX6_lending_12 : decode cX6_lending 12 = .ok (.ifCond .ne 5, 3) := by decide +kernel
theorem dX6_lending_15 : decode cX6_lending 15 = .ok (.iconst (-1), 1) := by decide +kernel
theorem dX6_lending_16 : decode cX6_lending 16 = .ok (.ireturn, 1) := by decide +kernel
theorem dX6_lending_17 : decode cX6_lending 17 = .ok (.aload_n 0, 1) := by decide +kernel
theorem dX6_lending_18 : decode cX6_lending 18 = .ok (.getfield 58, 3) := by decide +kernel
theorem dX6_lending_21 : decode cX6_lending 21 = .ok (.aload_n 0, 1) := by decide +kernel
theorem dX6_lending_22 : decode cX6_lending 22 = .ok (.getfield 27, 3) := by decide +kernel
theorem dX6_lending_25 : decode cX6_lending 25 = .ok (.aload_n 0, 1) := by decide +kernel
theorem dX6_lending_26 : decode cX6_lending 26 = .ok (.getfield 37, 3) := by decide +kernel
theorem dX6_lending_29 : decode cX6_lending 29 = .ok (.iload_n 1, 1) := by decide +kernel
theorem dX6_lending_30 : decode cX6_lending 30 = .ok (.invokevirtual 215, 3) := by decide +kernel
theorem dX6_lending_33 : decode cX6_lending 33 = .ok (.aload_n 0, 1) := by decide +kernel
theorem dX6_lending_34 : decode cX6_lending 34 = .ok (.getfield 58, 3) := by decide +kernel
theorem dX6_lending_37 : decode cX6_lending 37 = .ok (.invokevirtual 219, 3) := by decide +kernel
theorem dX6_lending_40 : decode cX6_lending 40 = .ok (.iload_n 1, 1) := by decide +kernel
theorem dX6_lending_41 : decode cX6_lending 41 = .ok (.if_icmp .ne 13, 3) := by decide +kernel
theorem dX6_lending_44 : decode cX6_lending 44 = .ok (.aload_n 0, 1) := by decide +kernel
theorem dX6_lending_45 : decode cX6_lending 45 = .ok (.getfield 58, 3) := by decide +kernel
theorem dX6_lending_48 : decode cX6_lending 48 = .ok (.invokevirtual 222, 3) := by decide +kernel
theorem dX6_lending_51 : decode cX6_lending 51 = .ok (.goto 5, 3) := by decide +kernel
theorem dX6_lending_54 : decode cX6_lending 54 = .ok (.bipush (-9), 2) := by decide +kernel
theorem dX6_lending_56 : decode cX6_lending 56 = .ok (.ireturn, 1) := by decide +kernel
set_option maxRecDepth 20000 in
theorem ggX6_kneeFor_X4_everybody : GoodIn wsX6_kneeFor wsX4_everybody := goodIn_r _ [8, 9, 136, 137, 138, 139, 140, 141, 142, 143, 144, 145, 146, 147] rfl (by decide +kernel)
set_option maxRecDepth 20000 in
theorem gX6_kneeFor_X4_everybody : GoodIn wsX6_kneeFor (wsV RX6 212 RX4 yX4_everybody wsX4_everybody) := goodIn_app (goodIn_of _ (by decide +kernel)) ggX6_kneeFor_X4_everybody
set_option maxRecDepth 20000 in
theorem ggX6_kneeFor_X6_within : GoodIn wsX6_kneeFor wsX6_within := goodIn_r _ [13] rfl (by decide +kernel)
set_option maxRecDepth 20000 in
theorem gX6_kneeFor_X6_within : GoodIn wsX6_kneeFor (va_wsS RX6 74 yX6_within wsX6_within) := goodIn_app (goodIn_of _ (by decide +kernel)) ggX6_kneeFor_X6_within
set_option maxRecDepth 20000 in
theorem ggX6_kneeFor_X4_hasPerson : GoodIn wsX6_kneeFor wsX4_hasPerson := goodIn_r _ [17, 9, 11, 12, 13, 136, 137, 138, 139, 140, 141, 142, 143, 144, 145, 146, 147] rfl (by decide +kernel)
set_option maxRecDepth 20000 in
theorem gX6_kneeFor_X4_hasPerson : GoodIn wsX6_kneeFor (wsV RX6 125 RX4 yX4_hasPerson wsX4_hasPerson) := goodIn_app (goodIn_of _ (by decide +kernel)) ggX6_kneeFor_X4_hasPerson
set_option maxRecDepth 20000 in
theorem ggX6_kneeFor_X6_bit : GoodIn wsX6_kneeFor wsX6_bit := goodIn_r _ [20] rfl (by decide +kernel)
set_option maxRecDepth 20000 in
theorem gX6_kneeFor_X6_bit : GoodIn wsX6_kneeFor (va_wsS RX6 121 yX6_bit wsX6_bit) := goodIn_app (goodIn_of _ (by decide +kernel)) ggX6_kneeFor_X6_bit
set_option maxRecDepth 20000 in
theorem ggX6_kneeFor_X2_weigh : GoodIn wsX6_kneeFor wsX2_weigh := goodIn_r _ [25, 26, 27, 28, 29, 30, 31, 32, 33, 34, 35, 36, 37, 38, 39, 40, 41, 42, 24, 43, 44, 45, 46, 47, 48, 7, 49, 50, 19, 12, 20, 51, 52, 53, 54, 55, 56, 57, 58, 59, 60, 61, 62, 63, 64, 65, 66, 67, 68, 69, 70, 71, 72, 73, 74, 75, 76, 77, 78, 79, 80, 81, 82, 83, 84, 85, 86, 87, 88, 89, 90, 91, 92, 93, 94, 95, 96, 97, 98, 99, 100, 101, 102, 103, 104, 105, 106, 107, 148, 149, 150, 151, 152, 153, 136, 137, 138, 139, 140, 141, 142, 143, 144, 145, 146, 147, 154, 155, 156, 157, 158, 159, 160] rfl (by decide +kernel)
set_option maxRecDepth 20000 in
theorem gX6_kneeFor_X2_weigh : GoodIn wsX6_kneeFor (wsV RX6 215 RX2 yX2_weigh wsX2_weigh) := goodIn_app (goodIn_of _ (by decide +kernel)) ggX6_kneeFor_X2_weigh
set_option maxRecDepth 20000 in
theorem ggX6_kneeFor_X2_goers : GoodIn wsX6_kneeFor wsX2_goers := goodIn_r _ [111, 32, 148, 149, 150, 151, 152, 153] rfl (by decide +kernel)
set_option maxRecDepth 20000 in
theorem gX6_kneeFor_X2_goers : GoodIn wsX6_kneeFor (wsV RX6 219 RX2 yX2_goers wsX2_goers) := goodIn_app (goodIn_of _ (by decide +kernel)) ggX6_kneeFor_X2_goers
set_option maxRecDepth 20000 in
theorem ggX6_kneeFor_X2_kneeChosen : GoodIn wsX6_kneeFor wsX2_kneeChosen := goodIn_r _ [115, 26, 29, 27, 19, 12, 20, 116, 117, 118, 24, 119, 120, 121, 122, 123, 73, 74, 75, 76, 28, 77, 78, 79, 80, 30, 81, 82, 83, 84, 85, 86, 87, 88, 31, 89, 90, 91, 7, 92, 93, 94, 95, 96, 97, 98, 99, 100, 101, 102, 103, 104, 105, 106, 107, 148, 149, 150, 151, 152, 153, 136, 137, 138, 139, 140, 141, 142, 143, 144, 145, 146, 147] rfl (by decide +kernel)
set_option maxRecDepth 20000 in
theorem gX6_kneeFor_X2_kneeChosen : GoodIn wsX6_kneeFor (wsV RX6 225 RX2 yX2_kneeChosen wsX2_kneeChosen) := goodIn_app (goodIn_of _ (by decide +kernel)) ggX6_kneeFor_X2_kneeChosen
theorem dX6_kneeFor_0 : decode cX6_kneeFor 0 = .ok (.iload_n 1, 1) := by decide +kernel
theorem dX6_kneeFor_1 : decode cX6_kneeFor 1 = .ok (.iconst 0, 1) := by decide +kernel
theorem dX6_kneeFor_2 : decode cX6_kneeFor 2 = .ok (.aload_n 0, 1) := by decide +kernel
theorem dX6_kneeFor_3 : decode cX6_kneeFor 3 = .ok (.getfield 27, 3) := by decide +kernel
theorem dX6_kneeFor_6 : decode cX6_kneeFor 6 = .ok (.invokevirtual 212, 3) := by decide +kernel
theorem dX6_kneeFor_9 : decode cX6_kneeFor 9 = .ok (.invokestatic 74, 3) := by decide +kernel
theorem dX6_kneeFor_12 : decode cX6_kneeFor 12 = .ok (.ifCond .eq 23, 3) := by decide +kernel
theorem dX6_kneeFor_15 : decode cX6_kneeFor 15 = .ok (.aload_n 0, 1) := by decide +kernel
theorem dX6_kneeFor_16 : decode cX6_kneeFor 16 = .ok (.getfield 27, 3) := by decide +kernel
theorem dX6_kneeFor_19 : decode cX6_kneeFor 19 = .ok (.iload_n 2, 1) := by decide +kernel
theorem dX6_kneeFor_20 : decode cX6_kneeFor 20 = .ok (.invokevirtual 125, 3) := by decide +kernel
theorem dX6_kneeFor_23 : decode cX6_kneeFor 23 = .ok (.ifCond .eq 12, 3) := by decide +kernel
theorem dX6_kneeFor_26 : decode cX6_kneeFor 26 = .ok (.iload_n 3, 1) := by decide +kernel
theorem dX6_kneeFor_27 : decode cX6_kneeFor 27 = .ok (.iconst 0, 1) := by decide +kernel
theorem dX6_kneeFor_28 : decode cX6_kneeFor 28 = .ok (.iconst 1, 1) := by decide +kernel
theorem dX6_kneeFor_29 : decode cX6_kneeFor 29 = .ok (.invokestatic 74, 3) := by decide +kernel
theorem dX6_kneeFor_32 : decode cX6_kneeFor 32 = .ok (.ifCond .ne 5, 3) := by decide +kernel
theorem dX6_kneeFor_35 : decode cX6_kneeFor 35 = .ok (.iconst (-1), 1) := by decide +kernel
theorem dX6_kneeFor_36 : decode cX6_kneeFor 36 = .ok (.ireturn, 1) := by decide +kernel
theorem dX6_kneeFor_37 : decode cX6_kneeFor 37 = .ok (.iload_n 1, 1) := by decide +kernel
theorem dX6_kneeFor_38 : decode cX6_kneeFor 38 = .ok (.iload_n 2, 1) := by decide +kernel
theorem dX6_kneeFor_39 : decode cX6_kneeFor 39 = .ok (.invokestatic 121, 3) := by decide +kernel
theorem dX6_kneeFor_42 : decode cX6_kneeFor 42 = .ok (.ifCond .ne 5, 3) := by decide +kernel
theorem dX6_kneeFor_45 : decode cX6_kneeFor 45 = .ok (.iconst (-1), 1) := by decide +kernel
theorem dX6_kneeFor_46 : decode cX6_kneeFor 46 = .ok (.ireturn, 1) := by decide +kernel
theorem dX6_kneeFor_47 : decode cX6_kneeFor 47 = .ok (.aload_n 0, 1) := by decide +kernel
theorem dX6_kneeFor_48 : decode cX6_kneeFor 48 = .ok (.getfield 58, 3) := by decide +kernel
theorem dX6_kneeFor_51 : decode cX6_kneeFor 51 = .ok (.aload_n 0, 1) := by decide +kernel
theorem dX6_kneeFor_52 : decode cX6_kneeFor 52 = .ok (.getfield 27, 3) := by decide +kernel
theorem dX6_kneeFor_55 : decode cX6_kneeFor 55 = .ok (.aload_n 0, 1) := by decide +kernel
theorem dX6_kneeFor_56 : decode cX6_kneeFor 56 = .ok (.getfield 37, 3) := by decide +kernel
theorem dX6_kneeFor_59 : decode cX6_kneeFor 59 = .ok (.iload_n 1, 1) := by decide +kernel
theorem dX6_kneeFor_60 : decode cX6_kneeFor 60 = .ok (.invokevirtual 215, 3) := by decide +kernel
theorem dX6_kneeFor_63 : decode cX6_kneeFor 63 = .ok (.aload_n 0, 1) := by decide +kernel
theorem dX6_kneeFor_64 : decode cX6_kneeFor 64 = .ok (.getfield 58, 3) := by decide +kernel
theorem dX6_kneeFor_67 : decode cX6_kneeFor 67 = .ok (.invokevirtual 219, 3) := by decide +kernel
theorem dX6_kneeFor_70 : decode cX6_kneeFor 70 = .ok (.iload_n 1, 1) := by decide +kernel
theorem dX6_kneeFor_71 : decode cX6_kneeFor 71 = .ok (.if_icmp .ne 15, 3) := by decide +kernel
theorem dX6_kneeFor_74 : decode cX6_kneeFor 74 = .ok (.aload_n 0, 1) := by decide +kernel
theorem dX6_kneeFor_75 : decode cX6_kneeFor 75 = .ok (.getfield 58, 3) := by decide +kernel
theorem dX6_kneeFor_78 : decode cX6_kneeFor 78 = .ok (.iload_n 2, 1) := by decide +kernel
theorem dX6_kneeFor_79 : decode cX6_kneeFor 79 = .ok (.iload_n 3, 1) := by decide +kernel
theorem dX6_kneeFor_80 : decode cX6_kneeFor 80 = .ok (.invokevirtual 225, 3) := by decide +kernel
theorem dX6_kneeFor_83 : decode cX6_kneeFor 83 = .ok (.goto 5, 3) := by decide +kernel
theorem dX6_kneeFor_86 : decode cX6_kneeFor 86 = .ok (.bipush (-9), 2) := by decide +kernel
theorem dX6_kneeFor_88 : decode cX6_kneeFor 88 = .ok (.ireturn, 1) := by decide +kernel
set_option maxRecDepth 20000 in
theorem ggX6_most_X6_within : GoodIn wsX6_most wsX6_within := goodIn_r _ [7] rfl (by decide +kernel)
set_option maxRecDepth 20000 in
theorem gX6_most_X6_within : GoodIn wsX6_most (va_wsS RX6 74 yX6_within wsX6_within) := goodIn_app (goodIn_of _ (by decide +kernel)) ggX6_most_X6_within
set_option maxRecDepth 20000 in
theorem ggX6_most_X4_everybody : GoodIn wsX6_most wsX4_everybody := goodIn_r _ [12, 13, 130, 131, 132, 133, 134, 135, 136, 137, 138, 139, 140, 141] rfl (by decide +kernel)
set_option maxRecDepth 20000 in
theorem gX6_most_X4_everybody : GoodIn wsX6_most (wsV RX6 212 RX4 yX4_everybody wsX4_everybody) := goodIn_app (goodIn_of _ (by decide +kernel)) ggX6_most_X4_everybody
set_option maxRecDepth 20000 in
theorem ggX6_most_X2_weigh : GoodIn wsX6_most wsX2_weigh := goodIn_r _ [18, 19, 20, 21, 22, 23, 24, 25, 26, 27, 28, 29, 30, 31, 32, 33, 34, 35, 17, 36, 37, 38, 39, 40, 41, 11, 42, 43, 44, 6, 45, 46, 47, 48, 49, 50, 51, 52, 53, 54, 55, 56, 57, 58, 59, 60, 61, 62, 63, 64, 65, 66, 67, 68, 69, 70, 71, 72, 73, 74, 75, 76, 77, 78, 79, 80, 81, 82, 83, 84, 85, 86, 87, 88, 89, 90, 91, 92, 93, 94, 95, 96, 97, 98, 99, 100, 101, 102, 142, 143, 144, 145, 146, 147, 130, 131, 132, 133, 134, 135, 136, 137, 138, 139, 140, 141, 148, 149, 150, 151, 152, 153, 154] rfl (by decide +kernel)
set_option maxRecDepth 20000 in
theorem gX6_most_X2_weigh : GoodIn wsX6_most (wsV RX6 215 RX2 yX2_weigh wsX2_weigh) := goodIn_app (goodIn_of _ (by decide +kernel)) ggX6_most_X2_weigh
set_option maxRecDepth 20000 in
theorem ggX6_most_X2_goers : GoodIn wsX6_most wsX2_goers := goodIn_r _ [106, 25, 142, 143, 144, 145, 146, 147] rfl (by decide +kernel)
set_option maxRecDepth 20000 in
theorem gX6_most_X2_goers : GoodIn wsX6_most (wsV RX6 219 RX2 yX2_goers wsX2_goers) := goodIn_app (goodIn_of _ (by decide +kernel)) ggX6_most_X2_goers
set_option maxRecDepth 20000 in
theorem ggX6_most_J6_bitCount_0f7a4 : GoodIn wsX6_most wsJ6_bitCount_0f7a4 := goodIn_r _ [110, 111, 112, 113] rfl (by decide +kernel)
set_option maxRecDepth 20000 in
theorem gX6_most_J6_bitCount_0f7a4 : GoodIn wsX6_most (va_wsS RX6 200 yJ6_bitCount_0f7a4 wsJ6_bitCount_0f7a4) := goodIn_app (goodIn_of _ (by decide +kernel)) ggX6_most_J6_bitCount_0f7a4
set_option maxRecDepth 20000 in
theorem ggX6_most_X2_leastOil : GoodIn wsX6_most wsX2_leastOil := goodIn_r _ [117, 25, 142, 143, 144, 145, 146, 147] rfl (by decide +kernel)
set_option maxRecDepth 20000 in
theorem gX6_most_X2_leastOil : GoodIn wsX6_most (wsV RX6 222 RX2 yX2_leastOil wsX2_leastOil) := goodIn_app (goodIn_of _ (by decide +kernel)) ggX6_most_X2_leastOil
theorem dX6_most_0 : decode cX6_most 0 = .ok (.iload_n 1, 1) := by decide +kernel
theorem dX6_most_1 : decode cX6_most 1 = .ok (.iconst 0, 1) := by decide +kernel
theorem dX6_most_2 : decode cX6_most 2 = .ok (.iconst 2, 1) := by decide +kernel
theorem dX6_most_3 : decode cX6_most 3 = .ok (.invokestatic 74, 3) := by decide +kernel
theorem dX6_most_6 : decode cX6_most 6 = .ok (.ifCond .ne 5, 3) := by decide +kernel
theorem dX6_most_9 : decode cX6_most 9 = .ok (.iconst (-1), 1) := by decide +kernel
theorem dX6_most_10 : decode cX6_most 10 = .ok (.ireturn, 1) := by decide +kernel
theorem dX6_most_11 : decode cX6_most 11 = .ok (.aload_n 0, 1) := by decide +kernel
theorem dX6_most_12 : decode cX6_most 12 = .ok (.getfield 58, 3) := by decide +kernel
theorem dX6_most_15 : decode cX6_most 15 = .ok (.aload_n 0, 1) := by decide +kernel
theorem dX6_most_16 : decode cX6_most 16 = .ok (.getfield 27, 3) := by decide +kernel
theorem dX6_most_19 : decode cX6_most 19 = .ok (.aload_n 0, 1) := by decide +kernel
theorem dX6_most_20 : decode cX6_most 20 = .ok (.getfield 37, 3) := by decide +kernel
theorem dX6_most_23 : decode cX6_most 23 = .ok (.aload_n 0, 1) := by decide +kernel
theorem dX6_most_24 : decode cX6_most 24 = .ok (.getfield 27, 3) := by decide +kernel
theorem dX6_most_27 : decode cX6_most 27 = .ok (.invokevirtual 212, 3) := by decide +kernel
theorem dX6_most_30 : decode cX6_most 30 = .ok (.invokevirtual 215, 3) := by decide +kernel
theorem dX6_most_33 : decode cX6_most 33 = .ok (.iload_n 1, 1) := by decide +kernel
theorem dX6_most_34 : decode cX6_most 34 = .ok (.lookupswitch 45 #[(0, 26), (1, 34)], 26) := by decide +kernel
theorem dX6_most_60 : decode cX6_most 60 = .ok (.aload_n 0, 1) := by decide +kernel
theorem dX6_most_61 : decode cX6_most 61 = .ok (.getfield 58, 3) := by decide +kernel
theorem dX6_most_64 : decode cX6_most 64 = .ok (.invokevirtual 219, 3) := by decide +kernel
theorem dX6_most_67 : decode cX6_most 67 = .ok (.ireturn, 1) := by decide +kernel
theorem dX6_most_68 : decode cX6_most 68 = .ok (.aload_n 0, 1) := by decide +kernel
theorem dX6_most_69 : decode cX6_most 69 = .ok (.getfield 58, 3) := by decide +kernel
theorem dX6_most_72 : decode cX6_most 72 = .ok (.invokevirtual 219, 3) := by decide +kernel
theorem dX6_most_75 : decode cX6_most 75 = .ok (.invokestatic 200, 3) := by decide +kernel
theorem dX6_most_78 : decode cX6_most 78 = .ok (.ireturn, 1) := by decide +kernel
theorem dX6_most_79 : decode cX6_most 79 = .ok (.aload_n 0, 1) := by decide +kernel
theorem dX6_most_80 : decode cX6_most 80 = .ok (.getfield 58, 3) := by decide +kernel
theorem dX6_most_83 : decode cX6_most 83 = .ok (.invokevirtual 222, 3) := by decide +kernel
theorem dX6_most_86 : decode cX6_most 86 = .ok (.ireturn, 1) := by decide +kernel
set_option maxRecDepth 20000 in
theorem ggX6_span_X4_hasKnee : GoodIn wsX6_span wsX4_hasKnee := goodIn_r _ [8, 9, 10, 11, 12, 45, 46, 47, 48, 49, 50, 51, 52, 53, 54, 55, 56] rfl (by decide +kernel)
set_option maxRecDepth 20000 in
theorem gX6_span_X4_hasKnee : GoodIn wsX6_span (wsV RX6 101 RX4 yX4_hasKnee wsX4_hasKnee) := goodIn_app (goodIn_of _ (by decide +kernel)) ggX6_span_X4_hasKnee
set_option maxRecDepth 20000 in
theorem ggX6_span_X4_hasPerson : GoodIn wsX6_span wsX4_hasPerson := goodIn_r _ [16, 17, 10, 11, 12, 45, 46, 47, 48, 49, 50, 51, 52, 53, 54, 55, 56] rfl (by decide +kernel)
set_option maxRecDepth 20000 in
theorem gX6_span_X4_hasPerson : GoodIn wsX6_span (wsV RX6 125 RX4 yX4_hasPerson wsX4_hasPerson) := goodIn_app (goodIn_of _ (by decide +kernel)) ggX6_span_X4_hasPerson
set_option maxRecDepth 20000 in
theorem ggX6_span_X4_wearOf : GoodIn wsX6_span wsX4_wearOf := goodIn_r _ [21, 22, 23, 24, 11, 25, 45, 46, 47, 48, 49, 50, 51, 52, 53, 54, 55, 56] rfl (by decide +kernel)
set_option maxRecDepth 20000 in
theorem gX6_span_X4_wearOf : GoodIn wsX6_span (wsV RX6 228 RX4 yX4_wearOf wsX4_wearOf) := goodIn_app (goodIn_of _ (by decide +kernel)) ggX6_span_X4_wearOf
theorem dX6_span_0 : decode cX6_span 0 = .ok (.aload_n 0, 1) := by decide +kernel
theorem dX6_span_1 : decode cX6_span 1 = .ok (.getfield 27, 3) := by decide +kernel
theorem dX6_span_4 : decode cX6_span 4 = .ok (.iload_n 1, 1) := by decide +kernel
theorem dX6_span_5 : decode cX6_span 5 = .ok (.invokevirtual 101, 3) := by decide +kernel
theorem dX6_span_8 : decode cX6_span 8 = .ok (.ifCond .eq 14, 3) := by decide +kernel
theorem dX6_span_11 : decode cX6_span 11 = .ok (.aload_n 0, 1) := by decide +kernel
theorem dX6_span_12 : decode cX6_span 12 = .ok (.getfield 27, 3) := by decide +kernel
theorem dX6_span_15 : decode cX6_span 15 = .ok (.iload_n 2, 1) := by decide +kernel
theorem dX6_span_16 : decode cX6_span 16 = .ok (.invokevirtual 125, 3) := by decide +kernel
theorem dX6_span_19 : decode cX6_span 19 = .ok (.ifCond .ne 5, 3) := by decide +kernel
theorem dX6_span_22 : decode cX6_span 22 = .ok (.iconst (-1), 1) := by decide +kernel
theorem dX6_span_23 : decode cX6_span 23 = .ok (.ireturn, 1) := by decide +kernel
theorem dX6_span_24 : decode cX6_span 24 = .ok (.aload_n 0, 1) := by decide +kernel
theorem dX6_span_25 : decode cX6_span 25 = .ok (.getfield 27, 3) := by decide +kernel
theorem dX6_span_28 : decode cX6_span 28 = .ok (.iload_n 2, 1) := by decide +kernel
theorem dX6_span_29 : decode cX6_span 29 = .ok (.invokevirtual 228, 3) := by decide +kernel
theorem dX6_span_32 : decode cX6_span 32 = .ok (.istore_n 3, 1) := by decide +kernel
theorem dX6_span_33 : decode cX6_span 33 = .ok (.iload_n 3, 1) := by decide +kernel
theorem dX6_span_34 : decode cX6_span 34 = .ok (.ifCond .ne 8, 3) := by decide +kernel
theorem dX6_span_37 : decode cX6_span 37 = .ok (.bipush (-9), 2) := by decide +kernel
theorem dX6_span_39 : decode cX6_span 39 = .ok (.goto 14, 3) := by decide +kernel
theorem dX6_span_42 : decode cX6_span 42 = .ok (.aload_n 0, 1) := by decide +kernel
theorem dX6_span_43 : decode cX6_span 43 = .ok (.getfield 37, 3) := by decide +kernel
theorem dX6_span_46 : decode cX6_span 46 = .ok (.getfield 112, 3) := by decide +kernel
theorem dX6_span_49 : decode cX6_span 49 = .ok (.iload_n 1, 1) := by decide +kernel
theorem dX6_span_50 : decode cX6_span 50 = .ok (.iaload, 1) := by decide +kernel
theorem dX6_span_51 : decode cX6_span 51 = .ok (.iload_n 3, 1) := by decide +kernel
theorem dX6_span_52 : decode cX6_span 52 = .ok (.idiv, 1) := by decide +kernel
theorem dX6_span_53 : decode cX6_span 53 = .ok (.ireturn, 1) := by decide +kernel
set_option maxRecDepth 20000 in
theorem ggX6_gives_X4_hasKnee : GoodIn wsX6_gives wsX4_hasKnee := goodIn_r _ [8, 9, 10, 11, 12, 39, 40, 41, 42, 43, 44, 45, 46, 47, 48, 49, 50] rfl (by decide +kernel)
set_option maxRecDepth 20000 in
theorem gX6_gives_X4_hasKnee : GoodIn wsX6_gives (wsV RX6 101 RX4 yX4_hasKnee wsX4_hasKnee) := goodIn_app (goodIn_of _ (by decide +kernel)) ggX6_gives_X4_hasKnee
set_option maxRecDepth 20000 in
theorem ggX6_gives_X6_within : GoodIn wsX6_gives wsX6_within := goodIn_r _ [12] rfl (by decide +kernel)
set_option maxRecDepth 20000 in
theorem gX6_gives_X6_within : GoodIn wsX6_gives (va_wsS RX6 74 yX6_within wsX6_within) := goodIn_app (goodIn_of _ (by decide +kernel)) ggX6_gives_X6_within
set_option maxRecDepth 20000 in
theorem ggX6_gives_X6_waysToGive : GoodIn wsX6_gives wsX6_waysToGive := goodIn_r _ [16, 14, 15, 11] rfl (by decide +kernel)
set_option maxRecDepth 20000 in
theorem gX6_gives_X6_waysToGive : GoodIn wsX6_gives (va_wsS RX6 231 yX6_waysToGive wsX6_waysToGive) := goodIn_app (goodIn_of _ (by decide +kernel)) ggX6_gives_X6_waysToGive
set_option maxRecDepth 20000 in
theorem ggX6_gives_X6_sharedOfTens : GoodIn wsX6_gives wsX6_sharedOfTens := goodIn_r _ [19] rfl (by decide +kernel)
set_option maxRecDepth 20000 in
theorem gX6_gives_X6_sharedOfTens : GoodIn wsX6_gives (va_wsS RX6 235 yX6_sharedOfTens wsX6_sharedOfTens) := goodIn_app (goodIn_of _ (by decide +kernel)) ggX6_gives_X6_sharedOfTens
theorem dX6_gives_0 : decode cX6_gives 0 = .ok (.aload_n 0, 1) := by decide +kernel
theorem dX6_gives_1 : decode cX6_gives 1 = .ok (.getfield 27, 3) := by decide +kernel
theorem dX6_gives_4 : decode cX6_gives 4 = .ok (.iload_n 1, 1) := by decide +kernel
theorem dX6_gives_5 : decode cX6_gives 5 = .ok (.invokevirtual 101, 3) := by decide +kernel
theorem dX6_gives_8 : decode cX6_gives 8 = .ok (.ifCond .eq 34, 3) := by decide +kernel
theorem dX6_gives_11 : decode cX6_gives 11 = .ok (.iload_n 2, 1) := by decide +kernel
theorem dX6_gives_12 : decode cX6_gives 12 = .ok (.iconst 0, 1) := by decide +kernel
theorem dX6_gives_13 : decode cX6_gives 13 = .ok (.bipush 6, 2) := by decide +kernel
theorem dX6_gives_15 : decode cX6_gives 15 = .ok (.invokestatic 74, 3) := by decide +kernel
theorem dX6_gives_18 : decode cX6_gives 18 = .ok (.ifCond .eq 24, 3) := by decide +kernel
theorem dX6_gives_21 : decode cX6_gives 21 = .ok (.iload_n 3, 1) := by decide +kernel
theorem dX6_gives_22 : decode cX6_gives 22 = .ok (.iconst 0, 1) := by decide +kernel
theorem dX6_gives_23 : decode cX6_gives 23 = .ok (.bipush 30, 2) := by decide +kernel
theorem dX6_gives_25 : decode cX6_gives 25 = .ok (.invokestatic 74, 3) := by decide +kernel
theorem dX6_gives_28 : decode cX6_gives 28 = .ok (.ifCond .eq 14, 3) := by decide +kernel
theorem dX6_gives_31 : decode cX6_gives 31 = .ok (.iload 4, 2) := by decide +kernel
theorem dX6_gives_33 : decode cX6_gives 33 = .ok (.iconst 0, 1) := by decide +kernel
theorem dX6_gives_34 : decode cX6_gives 34 = .ok (.bipush 30, 2) := by decide +kernel
theorem dX6_gives_36 : decode cX6_gives 36 = .ok (.invokestatic 74, 3) := by decide +kernel
theorem dX6_gives_39 : decode cX6_gives 39 = .ok (.ifCond .ne 5, 3) := by decide +kernel
theorem dX6_gives_42 : decode cX6_gives 42 = .ok (.iconst (-1), 1) := by decide +kernel
theorem dX6_gives_43 : decode cX6_gives 43 = .ok (.ireturn, 1) := by decide +kernel
theorem dX6_gives_44 : decode cX6_gives 44 = .ok (.iload 5, 2) := by decide +kernel
theorem dX6_gives_46 : decode cX6_gives 46 = .ok (.iconst 0, 1) := by decide +kernel
theorem dX6_gives_47 : decode cX6_gives 47 = .ok (.bipush 10, 2) := by decide +kernel
theorem dX6_gives_49 : decode cX6_gives 49 = .ok (.invokestatic 74, 3) := by decide +kernel
theorem dX6_gives_52 : decode cX6_gives 52 = .ok (.ifCond .eq 13, 3) := by decide +kernel
theorem dX6_gives_55 : decode cX6_gives 55 = .ok (.iload 6, 2) := by decide +kernel
theorem dX6_gives_57 : decode cX6_gives 57 = .ok (.iconst 0, 1) := by decide +kernel
theorem dX6_gives_58 : decode cX6_gives 58 = .ok (.iconst 1, 1) := by decide +kernel
theorem dX6_gives_59 : decode cX6_gives 59 = .ok (.invokestatic 74, 3) := by decide +kernel
theorem dX6_gives_62 : decode cX6_gives 62 = .ok (.ifCond .ne 5, 3) := by decide +kernel
theorem dX6_gives_65 : decode cX6_gives 65 = .ok (.iconst (-1), 1) := by decide +kernel
theorem dX6_gives_66 : decode cX6_gives 66 = .ok (.ireturn, 1) := by decide +kernel
theorem dX6_gives_67 : decode cX6_gives 67 = .ok (.iload_n 2, 1) := by decide +kernel
theorem dX6_gives_68 : decode cX6_gives 68 = .ok (.iload_n 3, 1) := by decide +kernel
theorem dX6_gives_69 : decode cX6_gives 69 = .ok (.iload 4, 2) := by decide +kernel
theorem dX6_gives_71 : decode cX6_gives 71 = .ok (.iload 5, 2) := by decide +kernel
theorem dX6_gives_73 : decode cX6_gives 73 = .ok (.aload_n 0, 1) := by decide +kernel
theorem dX6_gives_74 : decode cX6_gives 74 = .ok (.getfield 37, 3) := by decide +kernel
theorem dX6_gives_77 : decode cX6_gives 77 = .ok (.getfield 112, 3) := by decide +kernel
theorem dX6_gives_80 : decode cX6_gives 80 = .ok (.iload_n 1, 1) := by decide +kernel
theorem dX6_gives_81 : decode cX6_gives 81 = .ok (.iaload, 1) := by decide +kernel
theorem dX6_gives_82 : decode cX6_gives 82 = .ok (.invokestatic 231, 3) := by decide +kernel
theorem dX6_gives_85 : decode cX6_gives 85 = .ok (.istore 7, 2) := by decide +kernel
theorem dX6_gives_87 : decode cX6_gives 87 = .ok (.iconst 1, 1) := by decide +kernel
theorem dX6_gives_88 : decode cX6_gives 88 = .ok (.istore 8, 2) := by decide +kernel
theorem dX6_gives_90 : decode cX6_gives 90 = .ok (.iconst 0, 1) := by decide +kernel
theorem dX6_gives_91 : decode cX6_gives 91 = .ok (.istore 9, 2) := by decide +kernel
theorem dX6_gives_93 : decode cX6_gives 93 = .ok (.iload 9, 2) := by decide +kernel
theorem dX6_gives_95 : decode cX6_gives 95 = .ok (.iload_n 2, 1) := by decide +kernel
theorem dX6_gives_96 : decode cX6_gives 96 = .ok (.if_icmp .ge 16, 3) := by decide +kernel
theorem dX6_gives_99 : decode cX6_gives 99 = .ok (.iload 8, 2) := by decide +kernel
theorem dX6_gives_101 : decode cX6_gives 101 = .ok (.bipush 10, 2) := by decide +kernel
theorem dX6_gives_103 : decode cX6_gives 103 = .ok (.imul, 1) := by decide +kernel
theorem dX6_gives_104 : decode cX6_gives 104 = .ok (.istore 8, 2) := by decide +kernel
theorem dX6_gives_106 : decode cX6_gives 106 = .ok (.iinc 9 1, 3) := by decide +kernel
theorem dX6_gives_109 : decode cX6_gives 109 = .ok (.goto (-16), 3) := by decide +kernel
theorem dX6_gives_112 : decode cX6_gives 112 = .ok (.iload 7, 2) := by decide +kernel
theorem dX6_gives_114 : decode cX6_gives 114 = .ok (.iload_n 2, 1) := by decide +kernel
theorem dX6_gives_115 : decode cX6_gives 115 = .ok (.iconst 2, 1) := by decide +kernel
theorem dX6_gives_116 : decode cX6_gives 116 = .ok (.invokestatic 235, 3) := by decide +kernel
theorem dX6_gives_119 : decode cX6_gives 119 = .ok (.iload 7, 2) := by decide +kernel
theorem dX6_gives_121 : decode cX6_gives 121 = .ok (.iload_n 2, 1) := by decide +kernel
theorem dX6_gives_122 : decode cX6_gives 122 = .ok (.iconst 5, 1) := by decide +kernel
theorem dX6_gives_123 : decode cX6_gives 123 = .ok (.invokestatic 235, 3) := by decide +kernel
theorem dX6_gives_126 : decode cX6_gives 126 = .ok (.imul, 1) := by decide +kernel
theorem dX6_gives_127 : decode cX6_gives 127 = .ok (.istore 9, 2) := by decide +kernel
theorem dX6_gives_129 : decode cX6_gives 129 = .ok (.iload 6, 2) := by decide +kernel
theorem dX6_gives_131 : decode cX6_gives 131 = .ok (.ifCond .ne 8, 3) := by decide +kernel
theorem dX6_gives_134 : decode cX6_gives 134 = .ok (.iload 7, 2) := by decide +kernel
theorem dX6_gives_136 : decode cX6_gives 136 = .ok (.goto 5, 3) := by decide +kernel
theorem dX6_gives_139 : decode cX6_gives 139 = .ok (.iload 8, 2) := by decide +kernel
theorem dX6_gives_141 : decode cX6_gives 141 = .ok (.iload 9, 2) := by decide +kernel
theorem dX6_gives_143 : decode cX6_gives 143 = .ok (.idiv, 1) := by decide +kernel
theorem dX6_gives_144 : decode cX6_gives 144 = .ok (.ireturn, 1) := by decide +kernel
set_option maxRecDepth 20000 in
theorem ggX6_tells_X4_hasPerson : GoodIn wsX6_tells wsX4_hasPerson := goodIn_r _ [8, 9, 10, 11, 12, 40, 41, 42, 43, 44, 45, 46, 47, 48, 49, 50, 51] rfl (by decide +kernel)
set_option maxRecDepth 20000 in
theorem gX6_tells_X4_hasPerson : GoodIn wsX6_tells (wsV RX6 125 RX4 yX4_hasPerson wsX4_hasPerson) := goodIn_app (goodIn_of _ (by decide +kernel)) ggX6_tells_X4_hasPerson
set_option maxRecDepth 20000 in
theorem ggX6_tells_X6_within : GoodIn wsX6_tells wsX6_within := goodIn_r _ [12] rfl (by decide +kernel)
set_option maxRecDepth 20000 in
theorem gX6_tells_X6_within : GoodIn wsX6_tells (va_wsS RX6 74 yX6_within wsX6_within) := goodIn_app (goodIn_of _ (by decide +kernel)) ggX6_tells_X6_within
set_option maxRecDepth 20000 in
theorem ggX6_tells_X1_hearSteps : GoodIn wsX6_tells wsX1_hearSteps := goodIn_r _ [18, 19, 20, 21, 10, 11, 12, 34, 35, 36, 37, 38, 39] rfl (by decide +kernel)
set_option maxRecDepth 20000 in
theorem gX6_tells_X1_hearSteps : GoodIn wsX6_tells (wsV RX6 242 RX1 yX1_hearSteps wsX1_hearSteps) := goodIn_app (goodIn_of _ (by decide +kernel)) ggX6_tells_X1_hearSteps
theorem dX6_tells_0 : decode cX6_tells 0 = .ok (.aload_n 0, 1) := by decide +kernel
theorem dX6_tells_1 : decode cX6_tells 1 = .ok (.getfield 27, 3) := by decide +kernel
theorem dX6_tells_4 : decode cX6_tells 4 = .ok (.iload_n 1, 1) := by decide +kernel
theorem dX6_tells_5 : decode cX6_tells 5 = .ok (.invokevirtual 125, 3) := by decide +kernel
theorem dX6_tells_8 : decode cX6_tells 8 = .ok (.ifCond .eq 23, 3) := by decide +kernel
theorem dX6_tells_11 : decode cX6_tells 11 = .ok (.iload_n 2, 1) := by decide +kernel
theorem dX6_tells_12 : decode cX6_tells 12 = .ok (.iconst 0, 1) := by decide +kernel
theorem dX6_tells_13 : decode cX6_tells 13 = .ok (.bipush 40, 2) := by decide +kernel
theorem dX6_tells_15 : decode cX6_tells 15 = .ok (.invokestatic 74, 3) := by decide +kernel
theorem dX6_tells_18 : decode cX6_tells 18 = .ok (.ifCond .eq 13, 3) := by decide +kernel
theorem dX6_tells_21 : decode cX6_tells 21 = .ok (.iload_n 3, 1) := by decide +kernel
theorem dX6_tells_22 : decode cX6_tells 22 = .ok (.iconst 0, 1) := by decide +kernel
theorem dX6_tells_23 : decode cX6_tells 23 = .ok (.bipush 80, 2) := by decide +kernel
theorem dX6_tells_25 : decode cX6_tells 25 = .ok (.invokestatic 74, 3) := by decide +kernel
theorem dX6_tells_28 : decode cX6_tells 28 = .ok (.ifCond .ne 5, 3) := by decide +kernel
theorem dX6_tells_31 : decode cX6_tells 31 = .ok (.iconst (-1), 1) := by decide +kernel
theorem dX6_tells_32 : decode cX6_tells 32 = .ok (.ireturn, 1) := by decide +kernel
theorem dX6_tells_33 : decode cX6_tells 33 = .ok (.aload_n 0, 1) := by decide +kernel
theorem dX6_tells_34 : decode cX6_tells 34 = .ok (.getfield 51, 3) := by decide +kernel
theorem dX6_tells_37 : decode cX6_tells 37 = .ok (.getfield 239, 3) := by decide +kernel
theorem dX6_tells_40 : decode cX6_tells 40 = .ok (.bipush 6, 2) := by decide +kernel
theorem dX6_tells_42 : decode cX6_tells 42 = .ok (.if_icmp .lt 6, 3) := by decide +kernel
theorem dX6_tells_45 : decode cX6_tells 45 = .ok (.bipush (-3), 2) := by decide +kernel
theorem dX6_tells_47 : decode cX6_tells 47 = .ok (.ireturn, 1) := by decide +kernel
theorem dX6_tells_48 : decode cX6_tells 48 = .ok (.aload_n 0, 1) := by decide +kernel
theorem dX6_tells_49 : decode cX6_tells 49 = .ok (.getfield 51, 3) := by decide +kernel
theorem dX6_tells_52 : decode cX6_tells 52 = .ok (.iload_n 1, 1) := by decide +kernel
theorem dX6_tells_53 : decode cX6_tells 53 = .ok (.iload_n 2, 1) := by decide +kernel
theorem dX6_tells_54 : decode cX6_tells 54 = .ok (.iload_n 3, 1) := by decide +kernel
theorem dX6_tells_55 : decode cX6_tells 55 = .ok (.invokevirtual 242, 3) := by decide +kernel
theorem dX6_tells_58 : decode cX6_tells 58 = .ok (.aload_n 0, 1) := by decide +kernel
theorem dX6_tells_59 : decode cX6_tells 59 = .ok (.getfield 51, 3) := by decide +kernel
theorem dX6_tells_62 : decode cX6_tells 62 = .ok (.getfield 239, 3) := by decide +kernel
theorem dX6_tells_65 : decode cX6_tells 65 = .ok (.ireturn, 1) := by decide +kernel
theorem dX6_downhill_0 : decode cX6_downhill 0 = .ok (.iload_n 1, 1) := by decide +kernel
theorem dX6_downhill_1 : decode cX6_downhill 1 = .ok (.lookupswitch 43 #[(0, 27), (1, 35)], 27) := by decide +kernel
theorem dX6_downhill_28 : decode cX6_downhill 28 = .ok (.aload_n 0, 1) := by decide +kernel
theorem dX6_downhill_29 : decode cX6_downhill 29 = .ok (.getfield 51, 3) := by decide +kernel
theorem dX6_downhill_32 : decode cX6_downhill 32 = .ok (.getfield 246, 3) := by decide +kernel
theorem dX6_downhill_35 : decode cX6_downhill 35 = .ok (.ireturn, 1) := by decide +kernel
theorem dX6_downhill_36 : decode cX6_downhill 36 = .ok (.aload_n 0, 1) := by decide +kernel
theorem dX6_downhill_37 : decode cX6_downhill 37 = .ok (.getfield 51, 3) := by decide +kernel
theorem dX6_downhill_40 : decode cX6_downhill 40 = .ok (.getfield 249, 3) := by decide +kernel
theorem dX6_downhill_43 : decode cX6_downhill 43 = .ok (.ireturn, 1) := by decide +kernel
theorem dX6_downhill_44 : decode cX6_downhill 44 = .ok (.iconst (-1), 1) := by decide +kernel
theorem dX6_downhill_45 : decode cX6_downhill 45 = .ok (.ireturn, 1) := by decide +kernel
set_option maxRecDepth 20000 in
theorem ggX6_felt_X6_within : GoodIn wsX6_felt wsX6_within := goodIn_r _ [6] rfl (by decide +kernel)
set_option maxRecDepth 20000 in
theorem gX6_felt_X6_within : GoodIn wsX6_felt (va_wsS RX6 74 yX6_within wsX6_within) := goodIn_app (goodIn_of _ (by decide +kernel)) ggX6_felt_X6_within
set_option maxRecDepth 20000 in
theorem ggX6_felt_X1_hearRain : GoodIn wsX6_felt wsX1_hearRain := goodIn_r _ [11, 12, 13, 14, 27, 28, 29, 30, 31, 32] rfl (by decide +kernel)
set_option maxRecDepth 20000 in
theorem gX6_felt_X1_hearRain : GoodIn wsX6_felt (wsV RX6 255 RX1 yX1_hearRain wsX1_hearRain) := goodIn_app (goodIn_of _ (by decide +kernel)) ggX6_felt_X1_hearRain
theorem dX6_felt_0 : decode cX6_felt 0 = .ok (.iload_n 1, 1) := by decide +kernel
theorem dX6_felt_1 : decode cX6_felt 1 = .ok (.iconst 0, 1) := by decide +kernel
theorem dX6_felt_2 : decode cX6_felt 2 = .ok (.iconst 4, 1) := by decide +kernel
theorem dX6_felt_3 : decode cX6_felt 3 = .ok (.invokestatic 74, 3) := by decide +kernel
theorem dX6_felt_6 : decode cX6_felt 6 = .ok (.ifCond .eq 12, 3) := by decide +kernel
theorem dX6_felt_9 : decode cX6_felt 9 = .ok (.iload_n 2, 1) := by decide +kernel
theorem dX6_felt_10 : decode cX6_felt 10 = .ok (.iconst 0, 1) := by decide +kernel
theorem dX6_felt_11 : decode cX6_felt 11 = .ok (.iconst 1, 1) := by decide +kernel
theorem dX6_felt_12 : decode cX6_felt 12 = .ok (.invokestatic 74, 3) := by decide +kernel
theorem dX6_felt_15 : decode cX6_felt 15 = .ok (.ifCond .ne 5, 3) := by decide +kernel
theorem dX6_felt_18 : decode cX6_felt 18 = .ok (.iconst (-1), 1) := by decide +kernel
theorem dX6_felt_19 : decode cX6_felt 19 = .ok (.ireturn, 1) := by decide +kernel
theorem dX6_felt_20 : decode cX6_felt 20 = .ok (.aload_n 0, 1) := by decide +kernel
theorem dX6_felt_21 : decode cX6_felt 21 = .ok (.getfield 51, 3) := by decide +kernel
theorem dX6_felt_24 : decode cX6_felt 24 = .ok (.getfield 252, 3) := by decide +kernel
theorem dX6_felt_27 : decode cX6_felt 27 = .ok (.iconst 5, 1) := by decide +kernel
theorem dX6_felt_28 : decode cX6_felt 28 = .ok (.if_icmp .lt 6, 3) := by decide +kernel
theorem dX6_felt_31 : decode cX6_felt 31 = .ok (.bipush (-3), 2) := by decide +kernel
theorem dX6_felt_33 : decode cX6_felt 33 = .ok (.ireturn, 1) := by decide +kernel
theorem dX6_felt_34 : decode cX6_felt 34 = .ok (.aload_n 0, 1) := by decide +kernel
theorem dX6_felt_35 : decode cX6_felt 35 = .ok (.getfield 51, 3) := by decide +kernel
theorem dX6_felt_38 : decode cX6_felt 38 = .ok (.iload_n 1, 1) := by decide +kernel
theorem dX6_felt_39 : decode cX6_felt 39 = .ok (.iload_n 2, 1) := by decide +kernel
theorem dX6_felt_40 : decode cX6_felt 40 = .ok (.invokevirtual 255, 3) := by decide +kernel
theorem dX6_felt_43 : decode cX6_felt 43 = .ok (.aload_n 0, 1) := by decide +kernel
theorem dX6_felt_44 : decode cX6_felt 44 = .ok (.getfield 51, 3) := by decide +kernel
theorem dX6_felt_47 : decode cX6_felt 47 = .ok (.getfield 252, 3) := by decide +kernel
theorem dX6_felt_50 : decode cX6_felt 50 = .ok (.ireturn, 1) := by decide +kernel
set_option maxRecDepth 20000 in
theorem ggX6_rain_X6_within : GoodIn wsX6_rain wsX6_within := goodIn_r _ [10] rfl (by decide +kernel)
set_option maxRecDepth 20000 in
theorem gX6_rain_X6_within : GoodIn wsX6_rain (va_wsS RX6 74 yX6_within wsX6_within) := goodIn_app (goodIn_of _ (by decide +kernel)) ggX6_rain_X6_within
set_option maxRecDepth 20000 in
theorem ggX6_rain_X4_everybody : GoodIn wsX6_rain wsX4_everybody := goodIn_r _ [15, 16, 54, 55, 56, 57, 58, 59, 60, 61, 62, 63, 64, 65] rfl (by decide +kernel)
set_option maxRecDepth 20000 in
theorem gX6_rain_X4_everybody : GoodIn wsX6_rain (wsV RX6 212 RX4 yX4_everybody wsX4_everybody) := goodIn_app (goodIn_of _ (by decide +kernel)) ggX6_rain_X4_everybody
set_option maxRecDepth 20000 in
theorem ggX6_rain_X6_farmsThatFeelRainOn : GoodIn wsX6_rain wsX6_farmsThatFeelRainOn := goodIn_r _ [20, 1, 21, 22, 23, 24, 25, 26, 9, 27, 42, 43, 44, 45, 46, 47, 48, 49, 50, 51, 52, 53, 54, 55, 56, 57, 58, 59, 60, 61, 62, 63, 64, 65, 66, 67, 68, 69, 70, 71, 72] rfl (by decide +kernel)
set_option maxRecDepth 20000 in
theorem gX6_rain_X6_farmsThatFeelRainOn : GoodIn wsX6_rain (wsV RX6 259 RX6 yX6_farmsThatFeelRainOn wsX6_farmsThatFeelRainOn) := goodIn_app (goodIn_of _ (by decide +kernel)) ggX6_rain_X6_farmsThatFeelRainOn
set_option maxRecDepth 20000 in
theorem ggX6_rain_X1_canBeRain : GoodIn wsX6_rain wsX1_canBeRain := goodIn_r _ [32, 33, 34, 73, 74, 75, 76, 77, 78] rfl (by decide +kernel)
set_option maxRecDepth 20000 in
theorem gX6_rain_X1_canBeRain : GoodIn wsX6_rain (wsV RX6 262 RX1 yX1_canBeRain wsX1_canBeRain) := goodIn_app (goodIn_of _ (by decide +kernel)) ggX6_rain_X1_canBeRain
set_option maxRecDepth 20000 in
theorem ggX6_rain_J6_bitCount_0f7a4 : GoodIn wsX6_rain wsJ6_bitCount_0f7a4 := goodIn_r _ [38, 39, 40, 41] rfl (by decide +kernel)
set_option maxRecDepth 20000 in
theorem gX6_rain_J6_bitCount_0f7a4 : GoodIn wsX6_rain (va_wsS RX6 200 yJ6_bitCount_0f7a4 wsJ6_bitCount_0f7a4) := goodIn_app (goodIn_of _ (by decide +kernel)) ggX6_rain_J6_bitCount_0f7a4
theorem dX6_rain_0 : decode cX6_rain 0 = .ok (.iload_n 1, 1) := by decide +kernel
theorem dX6_rain_1 : decode cX6_rain 1 = .ok (.iconst 0, 1) := by decide +kernel
theorem dX6_rain_2 : decode cX6_rain 2 = .ok (.iconst 2, 1) := by decide +kernel
theorem dX6_rain_3 : decode cX6_rain 3 = .ok (.invokestatic 74, 3) := by decide +kernel
theorem dX6_rain_6 : decode cX6_rain 6 = .ok (.ifCond .ne 5, 3) := by decide +kernel
theorem dX6_rain_9 : decode cX6_rain 9 = .ok (.iconst (-1), 1) := by decide +kernel
theorem dX6_rain_10 : decode cX6_rain 10 = .ok (.ireturn, 1) := by decide +kernel
theorem dX6_rain_11 : decode cX6_rain 11 = .ok (.iconst 0, 1) := by decide +kernel
theorem dX6_rain_12 : decode cX6_rain 12 = .ok (.istore_n 2, 1) := by decide +kernel
theorem dX6_rain_13 : decode cX6_rain 13 = .ok (.aload_n 0, 1) := by decide +kernel
theorem dX6_rain_14 : decode cX6_rain 14 = .ok (.getfield 27, 3) := by decide +kernel
theorem dX6_rain_17 : decode cX6_rain 17 = .ok (.invokevirtual 212, 3) := by decide +kernel
theorem dX6_rain_20 : decode cX6_rain 20 = .ok (.istore_n 3, 1) := by decide +kernel
theorem dX6_rain_21 : decode cX6_rain 21 = .ok (.bipush 6, 2) := by decide +kernel
theorem dX6_rain_23 : decode cX6_rain 23 = .ok (.istore 4, 2) := by decide +kernel
theorem dX6_rain_25 : decode cX6_rain 25 = .ok (.iconst 0, 1) := by decide +kernel
theorem dX6_rain_26 : decode cX6_rain 26 = .ok (.istore 5, 2) := by decide +kernel
theorem dX6_rain_28 : decode cX6_rain 28 = .ok (.iload 5, 2) := by decide +kernel
theorem dX6_rain_30 : decode cX6_rain 30 = .ok (.aload_n 0, 1) := by decide +kernel
theorem dX6_rain_31 : decode cX6_rain 31 = .ok (.getfield 27, 3) := by decide +kernel
theorem dX6_rain_34 : decode cX6_rain 34 = .ok (.invokevirtual 212, 3) := by decide +kernel
theorem dX6_rain_37 : decode cX6_rain 37 = .ok (.if_icmp .gt 45, 3) := by decide +kernel
theorem dX6_rain_40 : decode cX6_rain 40 = .ok (.aload_n 0, 1) := by decide +kernel
theorem dX6_rain_41 : decode cX6_rain 41 = .ok (.getfield 51, 3) := by decide +kernel
theorem dX6_rain_44 : decode cX6_rain 44 = .ok (.aload_n 0, 1) := by decide +kernel
theorem dX6_rain_45 : decode cX6_rain 45 = .ok (.iload 5, 2) := by decide +kernel
theorem dX6_rain_47 : decode cX6_rain 47 = .ok (.invokevirtual 259, 3) := by decide +kernel
theorem dX6_rain_50 : decode cX6_rain 50 = .ok (.invokevirtual 262, 3) := by decide +kernel
theorem dX6_rain_53 : decode cX6_rain 53 = .ok (.ifCond .eq 23, 3) := by decide +kernel
theorem dX6_rain_56 : decode cX6_rain 56 = .ok (.iinc 2 1, 3) := by decide +kernel
theorem dX6_rain_59 : decode cX6_rain 59 = .ok (.iload_n 3, 1) := by decide +kernel
theorem dX6_rain_60 : decode cX6_rain 60 = .ok (.iload 5, 2) := by decide +kernel
theorem dX6_rain_62 : decode cX6_rain 62 = .ok (.iand, 1) := by decide +kernel
theorem dX6_rain_63 : decode cX6_rain 63 = .ok (.istore_n 3, 1) := by decide +kernel
theorem dX6_rain_64 : decode cX6_rain 64 = .ok (.iload 4, 2) := by decide +kernel
theorem dX6_rain_66 : decode cX6_rain 66 = .ok (.iload 5, 2) := by decide +kernel
theorem dX6_rain_68 : decode cX6_rain 68 = .ok (.invokestatic 200, 3) := by decide +kernel
theorem dX6_rain_71 : decode cX6_rain 71 = .ok (.invokestatic 186, 3) := by decide +kernel
theorem dX6_rain_74 : decode cX6_rain 74 = .ok (.istore 4, 2) := by decide +kernel
theorem dX6_rain_76 : decode cX6_rain 76 = .ok (.iinc 5 1, 3) := by decide +kernel
theorem dX6_rain_79 : decode cX6_rain 79 = .ok (.goto (-51), 3) := by decide +kernel
theorem dX6_rain_82 : decode cX6_rain 82 = .ok (.iload_n 1, 1) := by decide +kernel
theorem dX6_rain_83 : decode cX6_rain 83 = .ok (.ifCond .ne 5, 3) := by decide +kernel
theorem dX6_rain_86 : decode cX6_rain 86 = .ok (.iload_n 2, 1) := by decide +kernel
theorem dX6_rain_87 : decode cX6_rain 87 = .ok (.ireturn, 1) := by decide +kernel
theorem dX6_rain_88 : decode cX6_rain 88 = .ok (.iload_n 2, 1) := by decide +kernel
theorem dX6_rain_89 : decode cX6_rain 89 = .ok (.ifCond .ne 6, 3) := by decide +kernel
theorem dX6_rain_92 : decode cX6_rain 92 = .ok (.bipush (-9), 2) := by decide +kernel
theorem dX6_rain_94 : decode cX6_rain 94 = .ok (.ireturn, 1) := by decide +kernel
theorem dX6_rain_95 : decode cX6_rain 95 = .ok (.iload_n 1, 1) := by decide +kernel
theorem dX6_rain_96 : decode cX6_rain 96 = .ok (.iconst 1, 1) := by decide +kernel
theorem dX6_rain_97 : decode cX6_rain 97 = .ok (.if_icmp .ne 7, 3) := by decide +kernel
theorem dX6_rain_100 : decode cX6_rain 100 = .ok (.iload_n 3, 1) := by decide +kernel
theorem dX6_rain_101 : decode cX6_rain 101 = .ok (.goto 5, 3) := by decide +kernel
theorem dX6_rain_104 : decode cX6_rain 104 = .ok (.iload 4, 2) := by decide +kernel
theorem dX6_rain_106 : decode cX6_rain 106 = .ok (.ireturn, 1) := by decide +kernel
set_option maxRecDepth 20000 in
theorem ggX6_forget_X1_silence : GoodIn wsX6_forget wsX1_silence := goodIn_r _ [8, 9, 10, 11, 12, 13, 14, 27, 28, 29, 30, 31, 32] rfl (by decide +kernel)
set_option maxRecDepth 20000 in
theorem gX6_forget_X1_silence : GoodIn wsX6_forget (wsV RX6 95 RX1 yX1_silence wsX1_silence) := goodIn_app (goodIn_of _ (by decide +kernel)) ggX6_forget_X1_silence
theorem dX6_forget_0 : decode cX6_forget 0 = .ok (.aload_n 0, 1) := by decide +kernel
theorem dX6_forget_1 : decode cX6_forget 1 = .ok (.getfield 51, 3) := by decide +kernel
theorem dX6_forget_4 : decode cX6_forget 4 = .ok (.getfield 239, 3) := by decide +kernel
theorem dX6_forget_7 : decode cX6_forget 7 = .ok (.aload_n 0, 1) := by decide +kernel
theorem dX6_forget_8 : decode cX6_forget 8 = .ok (.getfield 51, 3) := by decide +kernel
theorem dX6_forget_11 : decode cX6_forget 11 = .ok (.getfield 252, 3) := by decide +kernel
theorem dX6_forget_14 : decode cX6_forget 14 = .ok (.iadd, 1) := by decide +kernel
theorem dX6_forget_15 : decode cX6_forget 15 = .ok (.istore_n 1, 1) := by decide +kernel
theorem dX6_forget_16 : decode cX6_forget 16 = .ok (.aload_n 0, 1) := by decide +kernel
theorem dX6_forget_17 : decode cX6_forget 17 = .ok (.getfield 51, 3) := by decide +kernel
theorem dX6_forget_20 : decode cX6_forget 20 = .ok (.invokevirtual 95, 3) := by decide +kernel
theorem dX6_forget_23 : decode cX6_forget 23 = .ok (.iload_n 1, 1) := by decide +kernel
theorem dX6_forget_24 : decode cX6_forget 24 = .ok (.ireturn, 1) := by decide +kernel
set_option maxRecDepth 20000 in
theorem ggX6_rate_X4_hasKnee : GoodIn wsX6_rate wsX4_hasKnee := goodIn_r _ [7, 8, 9, 10, 11, 60, 61, 62, 63, 64, 65, 66, 67, 68, 69, 70, 71] rfl (by decide +kernel)
set_option maxRecDepth 20000 in
theorem gX6_rate_X4_hasKnee : GoodIn wsX6_rate (wsV RX6 101 RX4 yX4_hasKnee wsX4_hasKnee) := goodIn_app (goodIn_of _ (by decide +kernel)) ggX6_rate_X4_hasKnee
set_option maxRecDepth 20000 in
theorem ggX6_rate_X6_rateAsKnee : GoodIn wsX6_rate wsX6_rateAsKnee := goodIn_r _ [15, 16, 17, 18, 48, 49, 50, 51, 52, 53, 54, 55, 56, 57, 58, 59, 72, 73, 74, 75, 76, 77, 78] rfl (by decide +kernel)
set_option maxRecDepth 20000 in
theorem gX6_rate_X6_rateAsKnee : GoodIn wsX6_rate (wsV RX6 266 RX6 yX6_rateAsKnee wsX6_rateAsKnee) := goodIn_app (goodIn_of _ (by decide +kernel)) ggX6_rate_X6_rateAsKnee
set_option maxRecDepth 20000 in
theorem ggX6_rate_X6_rateAsDance : GoodIn wsX6_rate wsX6_rateAsDance := goodIn_r _ [22, 16, 23, 1, 24, 25, 12, 13, 14, 10, 15, 17, 18, 48, 49, 50, 51, 52, 53, 54, 55, 56, 57, 58, 59, 60, 61, 62, 63, 64, 65, 66, 67, 68, 69, 70, 71, 72, 73, 74, 75, 76, 77, 78] rfl (by decide +kernel)
set_option maxRecDepth 20000 in
theorem gX6_rate_X6_rateAsDance : GoodIn wsX6_rate (wsV RX6 269 RX6 yX6_rateAsDance wsX6_rateAsDance) := goodIn_app (goodIn_of _ (by decide +kernel)) ggX6_rate_X6_rateAsDance
set_option maxRecDepth 20000 in
theorem ggX6_rate_X6_rateAsStair : GoodIn wsX6_rate wsX6_rateAsStair := goodIn_r _ [29, 16, 30, 1, 31, 17, 18, 12, 13, 14, 10, 15, 48, 49, 50, 51, 52, 53, 54, 55, 56, 57, 58, 59, 60, 61, 62, 63, 64, 65, 66, 67, 68, 69, 70, 71, 72, 73, 74, 75, 76, 77, 78] rfl (by decide +kernel)
set_option maxRecDepth 20000 in
theorem gX6_rate_X6_rateAsStair : GoodIn wsX6_rate (wsV RX6 272 RX6 yX6_rateAsStair wsX6_rateAsStair) := goodIn_app (goodIn_of _ (by decide +kernel)) ggX6_rate_X6_rateAsStair
set_option maxRecDepth 20000 in
theorem ggX6_rate_X6_rateAsGroom : GoodIn wsX6_rate wsX6_rateAsGroom := goodIn_r _ [35, 16, 36, 19, 20, 21, 10, 22, 23, 1, 24, 25, 12, 13, 14, 15, 17, 18, 48, 49, 50, 51, 52, 53, 54, 55, 56, 57, 58, 59, 60, 61, 62, 63, 64, 65, 66, 67, 68, 69, 70, 71, 72, 73, 74, 75, 76, 77, 78] rfl (by decide +kernel)
set_option maxRecDepth 20000 in
theorem gX6_rate_X6_rateAsGroom : GoodIn wsX6_rate (wsV RX6 275 RX6 yX6_rateAsGroom wsX6_rateAsGroom) := goodIn_app (goodIn_of _ (by decide +kernel)) ggX6_rate_X6_rateAsGroom
set_option maxRecDepth 20000 in
theorem ggX6_rate_X6_rateAsPriest : GoodIn wsX6_rate wsX6_rateAsPriest := goodIn_r _ [40, 16, 41, 26, 27, 28, 10, 29, 30, 1, 31, 17, 18, 12, 13, 14, 15, 48, 49, 50, 51, 52, 53, 54, 55, 56, 57, 58, 59, 60, 61, 62, 63, 64, 65, 66, 67, 68, 69, 70, 71, 72, 73, 74, 75, 76, 77, 78] rfl (by decide +kernel)
set_option maxRecDepth 20000 in
theorem gX6_rate_X6_rateAsPriest : GoodIn wsX6_rate (wsV RX6 278 RX6 yX6_rateAsPriest wsX6_rateAsPriest) := goodIn_app (goodIn_of _ (by decide +kernel)) ggX6_rate_X6_rateAsPriest
set_option maxRecDepth 20000 in
theorem ggX6_rate_X6_rateAsBell : GoodIn wsX6_rate wsX6_rateAsBell := goodIn_r _ [45, 16, 46, 17, 47, 12, 13, 14, 10, 15, 18, 48, 49, 50, 51, 52, 53, 54, 55, 56, 57, 58, 59, 72, 73, 74, 75, 76, 77, 78] rfl (by decide +kernel)
set_option maxRecDepth 20000 in
theorem gX6_rate_X6_rateAsBell : GoodIn wsX6_rate (wsV RX6 281 RX6 yX6_rateAsBell wsX6_rateAsBell) := goodIn_app (goodIn_of _ (by decide +kernel)) ggX6_rate_X6_rateAsBell
theorem dX6_rate_0 : decode cX6_rate 0 = .ok (.aload_n 0, 1) := by decide +kernel
theorem dX6_rate_1 : decode cX6_rate 1 = .ok (.getfield 27, 3) := by decide +kernel
theorem dX6_rate_4 : decode cX6_rate 4 = .ok (.iload_n 2, 1) := by decide +kernel
theorem dX6_rate_5 : decode cX6_rate 5 = .ok (.invokevirtual 101, 3) := by decide +kernel
theorem dX6_rate_8 : decode cX6_rate 8 = .ok (.ifCond .ne 7, 3) := by decide +kernel
theorem dX6_rate_11 : decode cX6_rate 11 = .ok (.ldc_w 265, 3) := by decide +kernel
theorem dX6_rate_14 : decode cX6_rate 14 = .ok (.ireturn, 1) := by decide +kernel
theorem dX6_rate_15 : decode cX6_rate 15 = .ok (.iload_n 1, 1) := by decide +kernel
theorem dX6_rate_16 : decode cX6_rate 16 = .ok (.tableswitch 76 0 5 #[40, 46, 52, 58, 64, 70], 40) := by decide +kernel
theorem dX6_rate_56 : decode cX6_rate 56 = .ok (.aload_n 0, 1) := by decide +kernel
theorem dX6_rate_57 : decode cX6_rate 57 = .ok (.iload_n 2, 1) := by decide +kernel
theorem dX6_rate_58 : decode cX6_rate 58 = .ok (.invokevirtual 266, 3) := by decide +kernel
theorem dX6_rate_61 : decode cX6_rate 61 = .ok (.ireturn, 1) := by decide +kernel
theorem dX6_rate_62 : decode cX6_rate 62 = .ok (.aload_n 0, 1) := by decide +kernel
theorem dX6_rate_63 : decode cX6_rate 63 = .ok (.iload_n 2, 1) := by decide +kernel
theorem dX6_rate_64 : decode cX6_rate 64 = .ok (.invokevirtual 269, 3) := by decide +kernel
theorem dX6_rate_67 : decode cX6_rate 67 = .ok (.ireturn, 1) := by decide +kernel
theorem dX6_rate_68 : decode cX6_rate 68 = .ok (.aload_n 0, 1) := by decide +kernel
theorem dX6_rate_69 : decode cX6_rate 69 = .ok (.iload_n 2, 1) := by decide +kernel
theorem dX6_rate_70 : decode cX6_rate 70 = .ok (.invokevirtual 272, 3) := by decide +kernel
theorem dX6_rate_73 : decode cX6_rate 73 = .ok (.ireturn, 1) := by decide +kernel
theorem dX6_rate_74 : decode cX6_rate 74 = .ok (.aload_n 0, 1) := by decide +kernel
theorem dX6_rate_75 : decode cX6_rate 75 = .ok (.iload_n 2, 1) := by decide +kernel
theorem dX6_rate_76 : decode cX6_rate 76 = .ok (.invokevirtual 275, 3) := by decide +kernel
theorem dX6_rate_79 : decode cX6_rate 79 = .ok (.ireturn, 1) := by decide +kernel
theorem dX6_rate_80 : decode cX6_rate 80 = .ok (.aload_n 0, 1) := by decide +kernel
theorem dX6_rate_81 : decode cX6_rate 81 = .ok (.iload_n 2, 1) := by decide +kernel
theorem dX6_rate_82 : decode cX6_rate 82 = .ok (.invokevirtual 278, 3) := by decide +kernel
theorem dX6_rate_85 : decode cX6_rate 85 = .ok (.ireturn, 1) := by decide +kernel
theorem dX6_rate_86 : decode cX6_rate 86 = .ok (.aload_n 0, 1) := by decide +kernel
theorem dX6_rate_87 : decode cX6_rate 87 = .ok (.iload_n 2, 1) := by decide +kernel
theorem dX6_rate_88 : decode cX6_rate 88 = .ok (.invokevirtual 281, 3) := by decide +kernel
theorem dX6_rate_91 : decode cX6_rate 91 = .ok (.ireturn, 1) := by decide +kernel
theorem dX6_rate_92 : decode cX6_rate 92 = .ok (.ldc_w 265, 3) := by decide +kernel
theorem dX6_rate_95 : decode cX6_rate 95 = .ok (.ireturn, 1) := by decide +kernel
set_option maxRecDepth 20000 in
theorem ggX6_keep_X6_within : GoodIn wsX6_keep wsX6_within := goodIn_r _ [8] rfl (by decide +kernel)
set_option maxRecDepth 20000 in
theorem gX6_keep_X6_within : GoodIn wsX6_keep (va_wsS RX6 74 yX6_within wsX6_within) := goodIn_app (goodIn_of _ (by decide +kernel)) ggX6_keep_X6_within
set_option maxRecDepth 20000 in
theorem ggX6_keep_X3_copy : GoodIn wsX6_keep wsX3_copy := goodIn_r _ [13, 14, 15, 16, 17, 18, 19, 20, 21, 22, 23, 24, 37, 38, 39, 40, 41, 42, 43] rfl (by decide +kernel)
set_option maxRecDepth 20000 in
theorem gX6_keep_X3_copy : GoodIn wsX6_keep (wsV RX6 284 RX3 yX3_copy wsX3_copy) := goodIn_app (goodIn_of _ (by decide +kernel)) ggX6_keep_X3_copy
theorem dX6_keep_0 : decode cX6_keep 0 = .ok (.iload_n 1, 1) := by decide +kernel
theorem dX6_keep_1 : decode cX6_keep 1 = .ok (.iconst 0, 1) := by decide +kernel
theorem dX6_keep_2 : decode cX6_keep 2 = .ok (.iconst 1, 1) := by decide +kernel
theorem dX6_keep_3 : decode cX6_keep 3 = .ok (.invokestatic 74, 3) := by decide +kernel
theorem dX6_keep_6 : decode cX6_keep 6 = .ok (.ifCond .ne 5, 3) := by decide +kernel
theorem dX6_keep_9 : decode cX6_keep 9 = .ok (.iconst (-1), 1) := by decide +kernel
theorem dX6_keep_10 : decode cX6_keep 10 = .ok (.ireturn, 1) := by decide +kernel
theorem dX6_keep_11 : decode cX6_keep 11 = .ok (.aload_n 0, 1) := by decide +kernel
theorem dX6_keep_12 : decode cX6_keep 12 = .ok (.getfield 62, 3) := by decide +kernel
theorem dX6_keep_15 : decode cX6_keep 15 = .ok (.iload_n 1, 1) := by decide +kernel
theorem dX6_keep_16 : decode cX6_keep 16 = .ok (.aaload, 1) := by decide +kernel
theorem dX6_keep_17 : decode cX6_keep 17 = .ok (.aload_n 0, 1) := by decide +kernel
theorem dX6_keep_18 : decode cX6_keep 18 = .ok (.getfield 37, 3) := by decide +kernel
theorem dX6_keep_21 : decode cX6_keep 21 = .ok (.invokevirtual 284, 3) := by decide +kernel
theorem dX6_keep_24 : decode cX6_keep 24 = .ok (.aload_n 0, 1) := by decide +kernel
theorem dX6_keep_25 : decode cX6_keep 25 = .ok (.getfield 66, 3) := by decide +kernel
theorem dX6_keep_28 : decode cX6_keep 28 = .ok (.iload_n 1, 1) := by decide +kernel
theorem dX6_keep_29 : decode cX6_keep 29 = .ok (.iconst 1, 1) := by decide +kernel
theorem dX6_keep_30 : decode cX6_keep 30 = .ok (.bastore, 1) := by decide +kernel
theorem dX6_keep_31 : decode cX6_keep 31 = .ok (.aload_n 0, 1) := by decide +kernel
theorem dX6_keep_32 : decode cX6_keep 32 = .ok (.getfield 37, 3) := by decide +kernel
theorem dX6_keep_35 : decode cX6_keep 35 = .ok (.getfield 156, 3) := by decide +kernel
theorem dX6_keep_38 : decode cX6_keep 38 = .ok (.ireturn, 1) := by decide +kernel
set_option maxRecDepth 20000 in
theorem ggX6_back_X6_within : GoodIn wsX6_back wsX6_within := goodIn_r _ [10] rfl (by decide +kernel)
set_option maxRecDepth 20000 in
theorem gX6_back_X6_within : GoodIn wsX6_back (va_wsS RX6 74 yX6_within wsX6_within) := goodIn_app (goodIn_of _ (by decide +kernel)) ggX6_back_X6_within
set_option maxRecDepth 20000 in
theorem ggX6_back_X3_copy : GoodIn wsX6_back wsX3_copy := goodIn_r _ [15, 16, 17, 18, 19, 20, 21, 22, 23, 24, 25, 26, 42, 43, 44, 45, 46, 47, 48] rfl (by decide +kernel)
set_option maxRecDepth 20000 in
theorem gX6_back_X3_copy : GoodIn wsX6_back (wsV RX6 284 RX3 yX3_copy wsX3_copy) := goodIn_app (goodIn_of _ (by decide +kernel)) ggX6_back_X3_copy
theorem dX6_back_0 : decode cX6_back 0 = .ok (.iload_n 1, 1) := by decide +kernel
theorem dX6_back_1 : decode cX6_back 1 = .ok (.iconst 0, 1) := by decide +kernel
theorem dX6_back_2 : decode cX6_back 2 = .ok (.iconst 1, 1) := by decide +kernel
theorem dX6_back_3 : decode cX6_back 3 = .ok (.invokestatic 74, 3) := by decide +kernel
theorem dX6_back_6 : decode cX6_back 6 = .ok (.ifCond .ne 5, 3) := by decide +kernel
theorem dX6_back_9 : decode cX6_back 9 = .ok (.iconst (-1), 1) := by decide +kernel
theorem dX6_back_10 : decode cX6_back 10 = .ok (.ireturn, 1) := by decide +kernel
theorem dX6_back_11 : decode cX6_back 11 = .ok (.aload_n 0, 1) := by decide +kernel
theorem dX6_back_12 : decode cX6_back 12 = .ok (.getfield 66, 3) := by decide +kernel
theorem dX6_back_15 : decode cX6_back 15 = .ok (.iload_n 1, 1) := by decide +kernel
theorem dX6_back_16 : decode cX6_back 16 = .ok (.baload, 1) := by decide +kernel
theorem dX6_back_17 : decode cX6_back 17 = .ok (.ifCond .ne 6, 3) := by decide +kernel
theorem dX6_back_20 : decode cX6_back 20 = .ok (.bipush (-2), 2) := by decide +kernel
theorem dX6_back_22 : decode cX6_back 22 = .ok (.ireturn, 1) := by decide +kernel
theorem dX6_back_23 : decode cX6_back 23 = .ok (.aload_n 0, 1) := by decide +kernel
theorem dX6_back_24 : decode cX6_back 24 = .ok (.getfield 37, 3) := by decide +kernel
theorem dX6_back_27 : decode cX6_back 27 = .ok (.aload_n 0, 1) := by decide +kernel
theorem dX6_back_28 : decode cX6_back 28 = .ok (.getfield 62, 3) := by decide +kernel
theorem dX6_back_31 : decode cX6_back 31 = .ok (.iload_n 1, 1) := by decide +kernel
theorem dX6_back_32 : decode cX6_back 32 = .ok (.aaload, 1) := by decide +kernel
theorem dX6_back_33 : decode cX6_back 33 = .ok (.invokevirtual 284, 3) := by decide +kernel
theorem dX6_back_36 : decode cX6_back 36 = .ok (.aload_n 0, 1) := by decide +kernel
theorem dX6_back_37 : decode cX6_back 37 = .ok (.getfield 44, 3) := by decide +kernel
theorem dX6_back_40 : decode cX6_back 40 = .ok (.iconst 0, 1) := by decide +kernel
theorem dX6_back_41 : decode cX6_back 41 = .ok (.putfield 92, 3) := by decide +kernel
theorem dX6_back_44 : decode cX6_back 44 = .ok (.aload_n 0, 1) := by decide +kernel
theorem dX6_back_45 : decode cX6_back 45 = .ok (.getfield 37, 3) := by decide +kernel
theorem dX6_back_48 : decode cX6_back 48 = .ok (.getfield 156, 3) := by decide +kernel
theorem dX6_back_51 : decode cX6_back 51 = .ok (.ireturn, 1) := by decide +kernel
theorem dX6_count_0 : decode cX6_count 0 = .ok (.iload_n 1, 1) := by decide +kernel
theorem dX6_count_1 : decode cX6_count 1 = .ok (.tableswitch 72 0 4 #[35, 43, 51, 59, 67], 35) := by decide +kernel
theorem dX6_count_36 : decode cX6_count 36 = .ok (.aload_n 0, 1) := by decide +kernel
theorem dX6_count_37 : decode cX6_count 37 = .ok (.getfield 27, 3) := by decide +kernel
theorem dX6_count_40 : decode cX6_count 40 = .ok (.getfield 191, 3) := by decide +kernel
theorem dX6_count_43 : decode cX6_count 43 = .ok (.ireturn, 1) := by decide +kernel
theorem dX6_count_44 : decode cX6_count 44 = .ok (.aload_n 0, 1) := by decide +kernel
theorem dX6_count_45 : decode cX6_count 45 = .ok (.getfield 27, 3) := by decide +kernel
theorem dX6_count_48 : decode cX6_count 48 = .ok (.getfield 287, 3) := by decide +kernel
theorem dX6_count_51 : decode cX6_count 51 = .ok (.ireturn, 1) := by decide +kernel
theorem dX6_count_52 : decode cX6_count 52 = .ok (.aload_n 0, 1) := by decide +kernel
theorem dX6_count_53 : decode cX6_count 53 = .ok (.getfield 51, 3) := by decide +kernel
theorem dX6_count_56 : decode cX6_count 56 = .ok (.getfield 239, 3) := by decide +kernel
theorem dX6_count_59 : decode cX6_count 59 = .ok (.ireturn, 1) := by decide +kernel
theorem dX6_count_60 : decode cX6_count 60 = .ok (.aload_n 0, 1) := by decide +kernel
theorem dX6_count_61 : decode cX6_count 61 = .ok (.getfield 51, 3) := by decide +kernel
theorem dX6_count_64 : decode cX6_count 64 = .ok (.getfield 252, 3) := by decide +kernel
theorem dX6_count_67 : decode cX6_count 67 = .ok (.ireturn, 1) := by decide +kernel
theorem dX6_count_68 : decode cX6_count 68 = .ok (.aload_n 0, 1) := by decide +kernel
theorem dX6_count_69 : decode cX6_count 69 = .ok (.getfield 13, 3) := by decide +kernel
theorem dX6_count_72 : decode cX6_count 72 = .ok (.ireturn, 1) := by decide +kernel
theorem dX6_count_73 : decode cX6_count 73 = .ok (.iconst (-1), 1) := by decide +kernel
theorem dX6_count_74 : decode cX6_count 74 = .ok (.ireturn, 1) := by decide +kernel
theorem dX6_trace_0 : decode cX6_trace 0 = .ok (.aload_n 0, 1) := by decide +kernel
theorem dX6_trace_1 : decode cX6_trace 1 = .ok (.getfield 70, 3) := by decide +kernel
theorem dX6_trace_4 : decode cX6_trace 4 = .ok (.lreturn, 1) := by decide +kernel
theorem dX6_within_0 : decode cX6_within 0 = .ok (.iload_n 0, 1) := by decide +kernel
theorem dX6_within_1 : decode cX6_within 1 = .ok (.iload_n 1, 1) := by decide +kernel
theorem dX6_within_2 : decode cX6_within 2 = .ok (.if_icmp .lt 12, 3) := by decide +kernel
theorem dX6_within_5 : decode cX6_within 5 = .ok (.iload_n 0, 1) := by decide +kernel
theorem dX6_within_6 : decode cX6_within 6 = .ok (.iload_n 2, 1) := by decide +kernel
theorem dX6_within_7 : decode cX6_within 7 = .ok (.if_icmp .gt 7, 3) := by decide +kernel
theorem dX6_within_10 : decode cX6_within 10 = .ok (.iconst 1, 1) := by decide +kernel
theorem dX6_within_11 : decode cX6_within 11 = .ok (.goto 4, 3) := by decide +kernel
theorem dX6_within_14 : decode cX6_within 14 = .ok (.iconst 0, 1) := by decide +kernel
theorem dX6_within_15 : decode cX6_within 15 = .ok (.ireturn, 1) := by decide +kernel
theorem dX6_bit_0 : decode cX6_bit 0 = .ok (.iload_n 0, 1) := by decide +kernel
theorem dX6_bit_1 : decode cX6_bit 1 = .ok (.iload_n 1, 1) := by decide +kernel
theorem dX6_bit_2 : decode cX6_bit 2 = .ok (.ishr, 1) := by decide +kernel
theorem dX6_bit_3 : decode cX6_bit 3 = .ok (.iconst 1, 1) := by decide +kernel
theorem dX6_bit_4 : decode cX6_bit 4 = .ok (.iand, 1) := by decide +kernel
theorem dX6_bit_5 : decode cX6_bit 5 = .ok (.ireturn, 1) := by decide +kernel
theorem dX6_wear_0 : decode cX6_wear 0 = .ok (.iload_n 0, 1) := by decide +kernel
theorem dX6_wear_1 : decode cX6_wear 1 = .ok (.iconst 2, 1) := by decide +kernel
theorem dX6_wear_2 : decode cX6_wear 2 = .ok (.iload_n 1, 1) := by decide +kernel
theorem dX6_wear_3 : decode cX6_wear 3 = .ok (.imul, 1) := by decide +kernel
theorem dX6_wear_4 : decode cX6_wear 4 = .ok (.iadd, 1) := by decide +kernel
theorem dX6_wear_5 : decode cX6_wear 5 = .ok (.ireturn, 1) := by decide +kernel
theorem dX6_kneeHeld_0 : decode cX6_kneeHeld 0 = .ok (.iconst 0, 1) := by decide +kernel
theorem dX6_kneeHeld_1 : decode cX6_kneeHeld 1 = .ok (.istore_n 3, 1) := by decide +kernel
theorem dX6_kneeHeld_2 : decode cX6_kneeHeld 2 = .ok (.iload_n 3, 1) := by decide +kernel
theorem dX6_kneeHeld_3 : decode cX6_kneeHeld 3 = .ok (.aload_n 0, 1) := by decide +kernel
theorem dX6_kneeHeld_4 : decode cX6_kneeHeld 4 = .ok (.getfield 27, 3) := by decide +kernel
theorem dX6_kneeHeld_7 : decode cX6_kneeHeld 7 = .ok (.getfield 191, 3) := by decide +kernel
theorem dX6_kneeHeld_10 : decode cX6_kneeHeld 10 = .ok (.if_icmp .ge 37, 3) := by decide +kernel
theorem dX6_kneeHeld_13 : decode cX6_kneeHeld 13 = .ok (.aload_n 0, 1) := by decide +kernel
theorem dX6_kneeHeld_14 : decode cX6_kneeHeld 14 = .ok (.getfield 37, 3) := by decide +kernel
theorem dX6_kneeHeld_17 : decode cX6_kneeHeld 17 = .ok (.getfield 115, 3) := by decide +kernel
theorem dX6_kneeHeld_20 : decode cX6_kneeHeld 20 = .ok (.iload_n 3, 1) := by decide +kernel
theorem dX6_kneeHeld_21 : decode cX6_kneeHeld 21 = .ok (.iaload, 1) := by decide +kernel
theorem dX6_kneeHeld_22 : decode cX6_kneeHeld 22 = .ok (.iload_n 1, 1) := by decide +kernel
theorem dX6_kneeHeld_23 : decode cX6_kneeHeld 23 = .ok (.if_icmp .ne 18, 3) := by decide +kernel
theorem dX6_kneeHeld_26 : decode cX6_kneeHeld 26 = .ok (.aload_n 0, 1) := by decide +kernel
theorem dX6_kneeHeld_27 : decode cX6_kneeHeld 27 = .ok (.getfield 27, 3) := by decide +kernel
theorem dX6_kneeHeld_30 : decode cX6_kneeHeld 30 = .ok (.getfield 105, 3) := by decide +kernel
theorem dX6_kneeHeld_33 : decode cX6_kneeHeld 33 = .ok (.iload_n 3, 1) := by decide +kernel
theorem dX6_kneeHeld_34 : decode cX6_kneeHeld 34 = .ok (.iaload, 1) := by decide +kernel
theorem dX6_kneeHeld_35 : decode cX6_kneeHeld 35 = .ok (.iload_n 2, 1) := by decide +kernel
theorem dX6_kneeHeld_36 : decode cX6_kneeHeld 36 = .ok (.if_icmp .ne 5, 3) := by decide +kernel
theorem dX6_kneeHeld_39 : decode cX6_kneeHeld 39 = .ok (.iload_n 3, 1) := by decide +kernel
theorem dX6_kneeHeld_40 : decode cX6_kneeHeld 40 = .ok (.ireturn, 1) := by decide +kernel
theorem dX6_kneeHeld_41 : decode cX6_kneeHeld 41 = .ok (.iinc 3 1, 3) := by decide +kernel
theorem dX6_kneeHeld_44 : decode cX6_kneeHeld 44 = .ok (.goto (-42), 3) := by decide +kernel
theorem dX6_kneeHeld_47 : decode cX6_kneeHeld 47 = .ok (.bipush (-9), 2) := by decide +kernel
theorem dX6_kneeHeld_49 : decode cX6_kneeHeld 49 = .ok (.ireturn, 1) := by decide +kernel
set_option maxRecDepth 20000 in
theorem ggX6_isReady_X4_needsSide : GoodIn wsX6_isReady wsX4_needsSide := goodIn_r _ [6, 7, 8, 9, 10, 31, 32, 33, 34, 35, 36, 37, 38, 39, 40, 41, 42] rfl (by decide +kernel)
set_option maxRecDepth 20000 in
theorem gX6_isReady_X4_needsSide : GoodIn wsX6_isReady (wsV RX6 290 RX4 yX4_needsSide wsX4_needsSide) := goodIn_app (goodIn_of _ (by decide +kernel)) ggX6_isReady_X4_needsSide
set_option maxRecDepth 20000 in
theorem ggX6_isReady_X6_kneeHeld : GoodIn wsX6_isReady wsX6_kneeHeld := goodIn_r _ [14, 1, 15, 16, 17, 18, 19, 20, 21, 22, 23, 24, 25, 26, 27, 28, 29, 30, 31, 32, 33, 34, 35, 36, 37, 38, 39, 40, 41, 42, 43, 44, 45, 46, 47, 48, 49] rfl (by decide +kernel)
set_option maxRecDepth 20000 in
theorem gX6_isReady_X6_kneeHeld : GoodIn wsX6_isReady (wsV RX6 137 RX6 yX6_kneeHeld wsX6_kneeHeld) := goodIn_app (goodIn_of _ (by decide +kernel)) ggX6_isReady_X6_kneeHeld
theorem dX6_isReady_0 : decode cX6_isReady 0 = .ok (.iconst 0, 1) := by decide +kernel
theorem dX6_isReady_1 : decode cX6_isReady 1 = .ok (.istore_n 2, 1) := by decide +kernel
theorem dX6_isReady_2 : decode cX6_isReady 2 = .ok (.iload_n 2, 1) := by decide +kernel
theorem dX6_isReady_3 : decode cX6_isReady 3 = .ok (.iconst 2, 1) := by decide +kernel
theorem dX6_isReady_4 : decode cX6_isReady 4 = .ok (.if_icmp .ge 34, 3) := by decide +kernel
theorem dX6_isReady_7 : decode cX6_isReady 7 = .ok (.aload_n 0, 1) := by decide +kernel
theorem dX6_isReady_8 : decode cX6_isReady 8 = .ok (.getfield 27, 3) := by decide +kernel
theorem dX6_isReady_11 : decode cX6_isReady 11 = .ok (.iload_n 1, 1) := by decide +kernel
theorem dX6_isReady_12 : decode cX6_isReady 12 = .ok (.iload_n 2, 1) := by decide +kernel
theorem dX6_isReady_13 : decode cX6_isReady 13 = .ok (.invokevirtual 290, 3) := by decide +kernel
theorem dX6_isReady_16 : decode cX6_isReady 16 = .ok (.ifCond .eq 16, 3) := by decide +kernel
theorem dX6_isReady_19 : decode cX6_isReady 19 = .ok (.aload_n 0, 1) := by decide +kernel
theorem dX6_isReady_20 : decode cX6_isReady 20 = .ok (.iload_n 1, 1) := by decide +kernel
theorem dX6_isReady_21 : decode cX6_isReady 21 = .ok (.iload_n 2, 1) := by decide +kernel
theorem dX6_isReady_22 : decode cX6_isReady 22 = .ok (.invokevirtual 137, 3) := by decide +kernel
theorem dX6_isReady_25 : decode cX6_isReady 25 = .ok (.bipush (-9), 2) := by decide +kernel
theorem dX6_isReady_27 : decode cX6_isReady 27 = .ok (.if_icmp .ne 5, 3) := by decide +kernel
theorem dX6_isReady_30 : decode cX6_isReady 30 = .ok (.iconst 0, 1) := by decide +kernel
theorem dX6_isReady_31 : decode cX6_isReady 31 = .ok (.ireturn, 1) := by decide +kernel
theorem dX6_isReady_32 : decode cX6_isReady 32 = .ok (.iinc 2 1, 3) := by decide +kernel
theorem dX6_isReady_35 : decode cX6_isReady 35 = .ok (.goto (-33), 3) := by decide +kernel
theorem dX6_isReady_38 : decode cX6_isReady 38 = .ok (.iconst 1, 1) := by decide +kernel
theorem dX6_isReady_39 : decode cX6_isReady 39 = .ok (.ireturn, 1) := by decide +kernel
set_option maxRecDepth 20000 in
theorem ggX6_mayBeLent_X3_isFree : GoodIn wsX6_mayBeLent wsX3_isFree := goodIn_r _ [9, 10, 11, 12, 13, 14, 57, 58, 59, 60, 61, 62, 63] rfl (by decide +kernel)
set_option maxRecDepth 20000 in
theorem gX6_mayBeLent_X3_isFree : GoodIn wsX6_mayBeLent (wsV RX6 293 RX3 yX3_isFree wsX3_isFree) := goodIn_app (goodIn_of _ (by decide +kernel)) ggX6_mayBeLent_X3_isFree
set_option maxRecDepth 20000 in
theorem ggX6_mayBeLent_X4_needsSide : GoodIn wsX6_mayBeLent wsX4_needsSide := goodIn_r _ [19, 20, 12, 13, 14, 45, 46, 47, 48, 49, 50, 51, 52, 53, 54, 55, 56] rfl (by decide +kernel)
set_option maxRecDepth 20000 in
theorem gX6_mayBeLent_X4_needsSide : GoodIn wsX6_mayBeLent (wsV RX6 290 RX4 yX4_needsSide wsX4_needsSide) := goodIn_app (goodIn_of _ (by decide +kernel)) ggX6_mayBeLent_X4_needsSide
set_option maxRecDepth 20000 in
theorem ggX6_mayBeLent_X6_kneeHeld : GoodIn wsX6_mayBeLent wsX6_kneeHeld := goodIn_r _ [24, 1, 25, 3, 26, 2, 33, 34, 35, 36, 37, 38, 39, 40, 41, 42, 43, 44, 45, 46, 47, 48, 49, 50, 51, 52, 53, 54, 55, 56, 57, 58, 59, 60, 61, 62, 63] rfl (by decide +kernel)
set_option maxRecDepth 20000 in
theorem gX6_mayBeLent_X6_kneeHeld : GoodIn wsX6_mayBeLent (wsV RX6 137 RX6 yX6_kneeHeld wsX6_kneeHeld) := goodIn_app (goodIn_of _ (by decide +kernel)) ggX6_mayBeLent_X6_kneeHeld
set_option maxRecDepth 20000 in
theorem ggX6_mayBeLent_X4_speak : GoodIn wsX6_mayBeLent wsX4_speak := goodIn_r _ [30, 31, 32, 12, 13, 14, 45, 46, 47, 48, 49, 50, 51, 52, 53, 54, 55, 56] rfl (by decide +kernel)
set_option maxRecDepth 20000 in
theorem gX6_mayBeLent_X4_speak : GoodIn wsX6_mayBeLent (wsV RX6 296 RX4 yX4_speak wsX4_speak) := goodIn_app (goodIn_of _ (by decide +kernel)) ggX6_mayBeLent_X4_speak
theorem dX6_mayBeLent_0 : decode cX6_mayBeLent 0 = .ok (.aload_n 0, 1) := by decide +kernel
theorem dX6_mayBeLent_1 : decode cX6_mayBeLent 1 = .ok (.getfield 27, 3) := by decide +kernel
theorem dX6_mayBeLent_4 : decode cX6_mayBeLent 4 = .ok (.getfield 105, 3) := by decide +kernel
theorem dX6_mayBeLent_7 : decode cX6_mayBeLent 7 = .ok (.iload_n 1, 1) := by decide +kernel
theorem dX6_mayBeLent_8 : decode cX6_mayBeLent 8 = .ok (.iaload, 1) := by decide +kernel
theorem dX6_mayBeLent_9 : decode cX6_mayBeLent 9 = .ok (.istore_n 3, 1) := by decide +kernel
theorem dX6_mayBeLent_10 : decode cX6_mayBeLent 10 = .ok (.aload_n 0, 1) := by decide +kernel
theorem dX6_mayBeLent_11 : decode cX6_mayBeLent 11 = .ok (.getfield 37, 3) := by decide +kernel
theorem dX6_mayBeLent_14 : decode cX6_mayBeLent 14 = .ok (.iload_n 1, 1) := by decide +kernel
theorem dX6_mayBeLent_15 : decode cX6_mayBeLent 15 = .ok (.invokevirtual 293, 3) := by decide +kernel
theorem dX6_mayBeLent_18 : decode cX6_mayBeLent 18 = .ok (.ifCond .eq 27, 3) := by decide +kernel
theorem dX6_mayBeLent_21 : decode cX6_mayBeLent 21 = .ok (.aload_n 0, 1) := by decide +kernel
theorem dX6_mayBeLent_22 : decode cX6_mayBeLent 22 = .ok (.getfield 37, 3) := by decide +kernel
theorem dX6_mayBeLent_25 : decode cX6_mayBeLent 25 = .ok (.getfield 112, 3) := by decide +kernel
theorem dX6_mayBeLent_28 : decode cX6_mayBeLent 28 = .ok (.iload_n 1, 1) := by decide +kernel
theorem dX6_mayBeLent_29 : decode cX6_mayBeLent 29 = .ok (.iaload, 1) := by decide +kernel
theorem dX6_mayBeLent_30 : decode cX6_mayBeLent 30 = .ok (.ifCond .eq 15, 3) := by decide +kernel
theorem dX6_mayBeLent_33 : decode cX6_mayBeLent 33 = .ok (.aload_n 0, 1) := by decide +kernel
theorem dX6_mayBeLent_34 : decode cX6_mayBeLent 34 = .ok (.getfield 27, 3) := by decide +kernel
theorem dX6_mayBeLent_37 : decode cX6_mayBeLent 37 = .ok (.iload_n 2, 1) := by decide +kernel
theorem dX6_mayBeLent_38 : decode cX6_mayBeLent 38 = .ok (.iload_n 3, 1) := by decide +kernel
theorem dX6_mayBeLent_39 : decode cX6_mayBeLent 39 = .ok (.invokevirtual 290, 3) := by decide +kernel
theorem dX6_mayBeLent_42 : decode cX6_mayBeLent 42 = .ok (.ifCond .ne 5, 3) := by decide +kernel
theorem dX6_mayBeLent_45 : decode cX6_mayBeLent 45 = .ok (.iconst 0, 1) := by decide +kernel
theorem dX6_mayBeLent_46 : decode cX6_mayBeLent 46 = .ok (.ireturn, 1) := by decide +kernel
theorem dX6_mayBeLent_47 : decode cX6_mayBeLent 47 = .ok (.aload_n 0, 1) := by decide +kernel
theorem dX6_mayBeLent_48 : decode cX6_mayBeLent 48 = .ok (.iload_n 2, 1) := by decide +kernel
theorem dX6_mayBeLent_49 : decode cX6_mayBeLent 49 = .ok (.iconst 1, 1) := by decide +kernel
theorem dX6_mayBeLent_50 : decode cX6_mayBeLent 50 = .ok (.iload_n 3, 1) := by decide +kernel
theorem dX6_mayBeLent_51 : decode cX6_mayBeLent 51 = .ok (.isub, 1) := by decide +kernel
theorem dX6_mayBeLent_52 : decode cX6_mayBeLent 52 = .ok (.invokevirtual 137, 3) := by decide +kernel
theorem dX6_mayBeLent_55 : decode cX6_mayBeLent 55 = .ok (.istore 4, 2) := by decide +kernel
theorem dX6_mayBeLent_57 : decode cX6_mayBeLent 57 = .ok (.aload_n 0, 1) := by decide +kernel
theorem dX6_mayBeLent_58 : decode cX6_mayBeLent 58 = .ok (.iload_n 2, 1) := by decide +kernel
theorem dX6_mayBeLent_59 : decode cX6_mayBeLent 59 = .ok (.iload_n 3, 1) := by decide +kernel
theorem dX6_mayBeLent_60 : decode cX6_mayBeLent 60 = .ok (.invokevirtual 137, 3) := by decide +kernel
theorem dX6_mayBeLent_63 : decode cX6_mayBeLent 63 = .ok (.bipush (-9), 2) := by decide +kernel
theorem dX6_mayBeLent_65 : decode cX6_mayBeLent 65 = .ok (.if_icmp .ne 27, 3) := by decide +kernel
theorem dX6_mayBeLent_68 : decode cX6_mayBeLent 68 = .ok (.iload 4, 2) := by decide +kernel
theorem dX6_mayBeLent_70 : decode cX6_mayBeLent 70 = .ok (.bipush (-9), 2) := by decide +kernel
theorem dX6_mayBeLent_72 : decode cX6_mayBeLent 72 = .ok (.if_icmp .eq 16, 3) := by decide +kernel
theorem dX6_mayBeLent_75 : decode cX6_mayBeLent 75 = .ok (.aload_n 0, 1) := by decide +kernel
theorem dX6_mayBeLent_76 : decode cX6_mayBeLent 76 = .ok (.getfield 27, 3) := by decide +kernel
theorem dX6_mayBeLent_79 : decode cX6_mayBeLent 79 = .ok (.iload_n 1, 1) := by decide +kernel
theorem dX6_mayBeLent_80 : decode cX6_mayBeLent 80 = .ok (.iload 4, 2) := by decide +kernel
theorem dX6_mayBeLent_82 : decode cX6_mayBeLent 82 = .ok (.invokevirtual 296, 3) := by decide +kernel
theorem dX6_mayBeLent_85 : decode cX6_mayBeLent 85 = .ok (.ifCond .eq 7, 3) := by decide +kernel
theorem dX6_mayBeLent_88 : decode cX6_mayBeLent 88 = .ok (.iconst 1, 1) := by decide +kernel
theorem dX6_mayBeLent_89 : decode cX6_mayBeLent 89 = .ok (.goto 4, 3) := by decide +kernel
theorem dX6_mayBeLent_92 : decode cX6_mayBeLent 92 = .ok (.iconst 0, 1) := by decide +kernel
theorem dX6_mayBeLent_93 : decode cX6_mayBeLent 93 = .ok (.ireturn, 1) := by decide +kernel
theorem dX6_kneesAtHome_0 : decode cX6_kneesAtHome 0 = .ok (.iconst 0, 1) := by decide +kernel
theorem dX6_kneesAtHome_1 : decode cX6_kneesAtHome 1 = .ok (.istore_n 1, 1) := by decide +kernel
theorem dX6_kneesAtHome_2 : decode cX6_kneesAtHome 2 = .ok (.iconst 0, 1) := by decide +kernel
theorem dX6_kneesAtHome_3 : decode cX6_kneesAtHome 3 = .ok (.istore_n 2, 1) := by decide +kernel
theorem dX6_kneesAtHome_4 : decode cX6_kneesAtHome 4 = .ok (.iload_n 2, 1) := by decide +kernel
theorem dX6_kneesAtHome_5 : decode cX6_kneesAtHome 5 = .ok (.aload_n 0, 1) := by decide +kernel
theorem dX6_kneesAtHome_6 : decode cX6_kneesAtHome 6 = .ok (.getfield 27, 3) := by decide +kernel
theorem dX6_kneesAtHome_9 : decode cX6_kneesAtHome 9 = .ok (.getfield 191, 3) := by decide +kernel
theorem dX6_kneesAtHome_12 : decode cX6_kneesAtHome 12 = .ok (.if_icmp .ge 29, 3) := by decide +kernel
theorem dX6_kneesAtHome_15 : decode cX6_kneesAtHome 15 = .ok (.aload_n 0, 1) := by decide +kernel
theorem dX6_kneesAtHome_16 : decode cX6_kneesAtHome 16 = .ok (.getfield 37, 3) := by decide +kernel
theorem dX6_kneesAtHome_19 : decode cX6_kneesAtHome 19 = .ok (.getfield 115, 3) := by decide +kernel
theorem dX6_kneesAtHome_22 : decode cX6_kneesAtHome 22 = .ok (.iload_n 2, 1) := by decide +kernel
theorem dX6_kneesAtHome_23 : decode cX6_kneesAtHome 23 = .ok (.iaload, 1) := by decide +kernel
theorem dX6_kneesAtHome_24 : decode cX6_kneesAtHome 24 = .ok (.bipush (-9), 2) := by decide +kernel
theorem dX6_kneesAtHome_26 : decode cX6_kneesAtHome 26 = .ok (.if_icmp .ne 9, 3) := by decide +kernel
theorem dX6_kneesAtHome_29 : decode cX6_kneesAtHome 29 = .ok (.iload_n 1, 1) := by decide +kernel
theorem dX6_kneesAtHome_30 : decode cX6_kneesAtHome 30 = .ok (.iconst 1, 1) := by decide +kernel
theorem dX6_kneesAtHome_31 : decode cX6_kneesAtHome 31 = .ok (.iload_n 2, 1) := by decide +kernel
theorem dX6_kneesAtHome_32 : decode cX6_kneesAtHome 32 = .ok (.ishl, 1) := by decide +kernel
theorem dX6_kneesAtHome_33 : decode cX6_kneesAtHome 33 = .ok (.ior, 1) := by decide +kernel
theorem dX6_kneesAtHome_34 : decode cX6_kneesAtHome 34 = .ok (.istore_n 1, 1) := by decide +kernel
theorem dX6_kneesAtHome_35 : decode cX6_kneesAtHome 35 = .ok (.iinc 2 1, 3) := by decide +kernel
theorem dX6_kneesAtHome_38 : decode cX6_kneesAtHome 38 = .ok (.goto (-34), 3) := by decide +kernel
theorem dX6_kneesAtHome_41 : decode cX6_kneesAtHome 41 = .ok (.iload_n 1, 1) := by decide +kernel
theorem dX6_kneesAtHome_42 : decode cX6_kneesAtHome 42 = .ok (.ireturn, 1) := by decide +kernel
set_option maxRecDepth 20000 in
theorem ggX6_restingKnee_X3_isFree : GoodIn wsX6_restingKnee wsX3_isFree := goodIn_r _ [9, 10, 11, 12, 13, 14, 39, 40, 41, 42, 43, 44, 45] rfl (by decide +kernel)
set_option maxRecDepth 20000 in
theorem gX6_restingKnee_X3_isFree : GoodIn wsX6_restingKnee (wsV RX6 293 RX3 yX3_isFree wsX3_isFree) := goodIn_app (goodIn_of _ (by decide +kernel)) ggX6_restingKnee_X3_isFree
theorem dX6_restingKnee_0 : decode cX6_restingKnee 0 = .ok (.bipush (-9), 2) := by decide +kernel
theorem dX6_restingKnee_2 : decode cX6_restingKnee 2 = .ok (.istore_n 1, 1) := by decide +kernel
theorem dX6_restingKnee_3 : decode cX6_restingKnee 3 = .ok (.iconst 0, 1) := by decide +kernel
theorem dX6_restingKnee_4 : decode cX6_restingKnee 4 = .ok (.istore_n 2, 1) := by decide +kernel
theorem dX6_restingKnee_5 : decode cX6_restingKnee 5 = .ok (.iload_n 2, 1) := by decide +kernel
theorem dX6_restingKnee_6 : decode cX6_restingKnee 6 = .ok (.aload_n 0, 1) := by decide +kernel
theorem dX6_restingKnee_7 : decode cX6_restingKnee 7 = .ok (.getfield 27, 3) := by decide +kernel
theorem dX6_restingKnee_10 : decode cX6_restingKnee 10 = .ok (.getfield 191, 3) := by decide +kernel
theorem dX6_restingKnee_13 : decode cX6_restingKnee 13 = .ok (.if_icmp .ge 49, 3) := by decide +kernel
theorem dX6_restingKnee_16 : decode cX6_restingKnee 16 = .ok (.aload_n 0, 1) := by decide +kernel
theorem dX6_restingKnee_17 : decode cX6_restingKnee 17 = .ok (.getfield 37, 3) := by decide +kernel
theorem dX6_restingKnee_20 : decode cX6_restingKnee 20 = .ok (.iload_n 2, 1) := by decide +kernel
theorem dX6_restingKnee_21 : decode cX6_restingKnee 21 = .ok (.invokevirtual 293, 3) := by decide +kernel
theorem dX6_restingKnee_24 : decode cX6_restingKnee 24 = .ok (.ifCond .eq 32, 3) := by decide +kernel
theorem dX6_restingKnee_27 : decode cX6_restingKnee 27 = .ok (.iload_n 1, 1) := by decide +kernel
theorem dX6_restingKnee_28 : decode cX6_restingKnee 28 = .ok (.bipush (-9), 2) := by decide +kernel
theorem dX6_restingKnee_30 : decode cX6_restingKnee 30 = .ok (.if_icmp .eq 24, 3) := by decide +kernel
theorem dX6_restingKnee_33 : decode cX6_restingKnee 33 = .ok (.aload_n 0, 1) := by decide +kernel
theorem dX6_restingKnee_34 : decode cX6_restingKnee 34 = .ok (.getfield 37, 3) := by decide +kernel
theorem dX6_restingKnee_37 : decode cX6_restingKnee 37 = .ok (.getfield 112, 3) := by decide +kernel
theorem dX6_restingKnee_40 : decode cX6_restingKnee 40 = .ok (.iload_n 2, 1) := by decide +kernel
theorem dX6_restingKnee_41 : decode cX6_restingKnee 41 = .ok (.iaload, 1) := by decide +kernel
theorem dX6_restingKnee_42 : decode cX6_restingKnee 42 = .ok (.aload_n 0, 1) := by decide +kernel
theorem dX6_restingKnee_43 : decode cX6_restingKnee 43 = .ok (.getfield 37, 3) := by decide +kernel
theorem dX6_restingKnee_46 : decode cX6_restingKnee 46 = .ok (.getfield 112, 3) := by decide +kernel
theorem dX6_restingKnee_49 : decode cX6_restingKnee 49 = .ok (.iload_n 1, 1) := by decide +kernel
theorem dX6_restingKnee_50 : decode cX6_restingKnee 50 = .ok (.iaload, 1) := by decide +kernel
theorem dX6_restingKnee_51 : decode cX6_restingKnee 51 = .ok (.if_icmp .ge 5, 3) := by decide +kernel
theorem dX6_restingKnee_54 : decode cX6_restingKnee 54 = .ok (.iload_n 2, 1) := by decide +kernel
theorem dX6_restingKnee_55 : decode cX6_restingKnee 55 = .ok (.istore_n 1, 1) := by decide +kernel
theorem dX6_restingKnee_56 : decode cX6_restingKnee 56 = .ok (.iinc 2 1, 3) := by decide +kernel
theorem dX6_restingKnee_59 : decode cX6_restingKnee 59 = .ok (.goto (-54), 3) := by decide +kernel
theorem dX6_restingKnee_62 : decode cX6_restingKnee 62 = .ok (.iload_n 1, 1) := by decide +kernel
theorem dX6_restingKnee_63 : decode cX6_restingKnee 63 = .ok (.ireturn, 1) := by decide +kernel
set_option maxRecDepth 20000 in
theorem ggX6_farmsThatFeelRainOn_X6_bit : GoodIn wsX6_farmsThatFeelRainOn wsX6_bit := goodIn_r _ [9] rfl (by decide +kernel)
set_option maxRecDepth 20000 in
theorem gX6_farmsThatFeelRainOn_X6_bit : GoodIn wsX6_farmsThatFeelRainOn (va_wsS RX6 121 yX6_bit wsX6_bit) := goodIn_app (goodIn_of _ (by decide +kernel)) ggX6_farmsThatFeelRainOn_X6_bit
theorem dX6_farmsThatFeelRainOn_0 : decode cX6_farmsThatFeelRainOn 0 = .ok (.iconst 0, 1) := by decide +kernel
theorem dX6_farmsThatFeelRainOn_1 : decode cX6_farmsThatFeelRainOn 1 = .ok (.istore_n 2, 1) := by decide +kernel
theorem dX6_farmsThatFeelRainOn_2 : decode cX6_farmsThatFeelRainOn 2 = .ok (.iconst 0, 1) := by decide +kernel
theorem dX6_farmsThatFeelRainOn_3 : decode cX6_farmsThatFeelRainOn 3 = .ok (.istore_n 3, 1) := by decide +kernel
theorem dX6_farmsThatFeelRainOn_4 : decode cX6_farmsThatFeelRainOn 4 = .ok (.iload_n 3, 1) := by decide +kernel
theorem dX6_farmsThatFeelRainOn_5 : decode cX6_farmsThatFeelRainOn 5 = .ok (.aload_n 0, 1) := by decide +kernel
theorem dX6_farmsThatFeelRainOn_6 : decode cX6_farmsThatFeelRainOn 6 = .ok (.getfield 27, 3) := by decide +kernel
theorem dX6_farmsThatFeelRainOn_9 : decode cX6_farmsThatFeelRainOn 9 = .ok (.getfield 191, 3) := by decide +kernel
theorem dX6_farmsThatFeelRainOn_12 : decode cX6_farmsThatFeelRainOn 12 = .ok (.if_icmp .ge 54, 3) := by decide +kernel
theorem dX6_farmsThatFeelRainOn_15 : decode cX6_farmsThatFeelRainOn 15 = .ok (.aload_n 0, 1) := by decide +kernel
theorem dX6_farmsThatFeelRainOn_16 : decode cX6_farmsThatFeelRainOn 16 = .ok (.getfield 37, 3) := by decide +kernel
theorem dX6_farmsThatFeelRainOn_19 : decode cX6_farmsThatFeelRainOn 19 = .ok (.getfield 115, 3) := by decide +kernel
theorem dX6_farmsThatFeelRainOn_22 : decode cX6_farmsThatFeelRainOn 22 = .ok (.iload_n 3, 1) := by decide +kernel
theorem dX6_farmsThatFeelRainOn_23 : decode cX6_farmsThatFeelRainOn 23 = .ok (.iaload, 1) := by decide +kernel
theorem dX6_farmsThatFeelRainOn_24 : decode cX6_farmsThatFeelRainOn 24 = .ok (.bipush (-9), 2) := by decide +kernel
theorem dX6_farmsThatFeelRainOn_26 : decode cX6_farmsThatFeelRainOn 26 = .ok (.if_icmp .eq 34, 3) := by decide +kernel
theorem dX6_farmsThatFeelRainOn_29 : decode cX6_farmsThatFeelRainOn 29 = .ok (.iload_n 1, 1) := by decide +kernel
theorem dX6_farmsThatFeelRainOn_30 : decode cX6_farmsThatFeelRainOn 30 = .ok (.aload_n 0, 1) := by decide +kernel
theorem dX6_farmsThatFeelRainOn_31 : decode cX6_farmsThatFeelRainOn 31 = .ok (.getfield 37, 3) := by decide +kernel
theorem dX6_farmsThatFeelRainOn_34 : decode cX6_farmsThatFeelRainOn 34 = .ok (.getfield 115, 3) := by decide +kernel
theorem dX6_farmsThatFeelRainOn_37 : decode cX6_farmsThatFeelRainOn 37 = .ok (.iload_n 3, 1) := by decide +kernel
theorem dX6_farmsThatFeelRainOn_38 : decode cX6_farmsThatFeelRainOn 38 = .ok (.iaload, 1) := by decide +kernel
theorem dX6_farmsThatFeelRainOn_39 : decode cX6_farmsThatFeelRainOn 39 = .ok (.invokestatic 121, 3) := by decide +kernel
theorem dX6_farmsThatFeelRainOn_42 : decode cX6_farmsThatFeelRainOn 42 = .ok (.iconst 1, 1) := by decide +kernel
theorem dX6_farmsThatFeelRainOn_43 : decode cX6_farmsThatFeelRainOn 43 = .ok (.if_icmp .ne 17, 3) := by decide +kernel
theorem dX6_farmsThatFeelRainOn_46 : decode cX6_farmsThatFeelRainOn 46 = .ok (.iload_n 2, 1) := by decide +kernel
theorem dX6_farmsThatFeelRainOn_47 : decode cX6_farmsThatFeelRainOn 47 = .ok (.iconst 1, 1) := by decide +kernel
theorem dX6_farmsThatFeelRainOn_48 : decode cX6_farmsThatFeelRainOn 48 = .ok (.aload_n 0, 1) := by decide +kernel
theorem dX6_farmsThatFeelRainOn_49 : decode cX6_farmsThatFeelRainOn 49 = .ok (.getfield 27, 3) := by decide +kernel
theorem dX6_farmsThatFeelRainOn_52 : decode cX6_farmsThatFeelRainOn 52 = .ok (.getfield 109, 3) := by decide +kernel
theorem dX6_farmsThatFeelRainOn_55 : decode cX6_farmsThatFeelRainOn 55 = .ok (.iload_n 3, 1) := by decide +kernel
theorem dX6_farmsThatFeelRainOn_56 : decode cX6_farmsThatFeelRainOn 56 = .ok (.iaload, 1) := by decide +kernel
theorem dX6_farmsThatFeelRainOn_57 : decode cX6_farmsThatFeelRainOn 57 = .ok (.ishl, 1) := by decide +kernel
theorem dX6_farmsThatFeelRainOn_58 : decode cX6_farmsThatFeelRainOn 58 = .ok (.ior, 1) := by decide +kernel
theorem dX6_farmsThatFeelRainOn_59 : decode cX6_farmsThatFeelRainOn 59 = .ok (.istore_n 2, 1) := by decide +kernel
theorem dX6_farmsThatFeelRainOn_60 : decode cX6_farmsThatFeelRainOn 60 = .ok (.iinc 3 1, 3) := by decide +kernel
theorem dX6_farmsThatFeelRainOn_63 : decode cX6_farmsThatFeelRainOn 63 = .ok (.goto (-59), 3) := by decide +kernel
theorem dX6_farmsThatFeelRainOn_66 : decode cX6_farmsThatFeelRainOn 66 = .ok (.iload_n 2, 1) := by decide +kernel
theorem dX6_farmsThatFeelRainOn_67 : decode cX6_farmsThatFeelRainOn 67 = .ok (.ireturn, 1) := by decide +kernel
set_option maxRecDepth 20000 in
theorem ggX6_waysToGive_X6_waysToGive : GoodIn wsX6_waysToGive wsX6_waysToGive := goodIn_r _ [0, 1, 2, 3] rfl (by decide +kernel)
set_option maxRecDepth 20000 in
theorem gX6_waysToGive_X6_waysToGive : GoodIn wsX6_waysToGive (va_wsS RX6 231 yX6_waysToGive wsX6_waysToGive) := goodIn_app (goodIn_of _ (by decide +kernel)) ggX6_waysToGive_X6_waysToGive
theorem dX6_waysToGive_0 : decode cX6_waysToGive 0 = .ok (.iload_n 0, 1) := by decide +kernel
theorem dX6_waysToGive_1 : decode cX6_waysToGive 1 = .ok (.ifCond .gt 14, 3) := by decide +kernel
theorem dX6_waysToGive_4 : decode cX6_waysToGive 4 = .ok (.iload 4, 2) := by decide +kernel
theorem dX6_waysToGive_6 : decode cX6_waysToGive 6 = .ok (.ifCond .ge 7, 3) := by decide +kernel
theorem dX6_waysToGive_9 : decode cX6_waysToGive 9 = .ok (.iconst 1, 1) := by decide +kernel
theorem dX6_waysToGive_10 : decode cX6_waysToGive 10 = .ok (.goto 4, 3) := by decide +kernel
theorem dX6_waysToGive_13 : decode cX6_waysToGive 13 = .ok (.iconst 0, 1) := by decide +kernel
theorem dX6_waysToGive_14 : decode cX6_waysToGive 14 = .ok (.ireturn, 1) := by decide +kernel
theorem dX6_waysToGive_15 : decode cX6_waysToGive 15 = .ok (.iload_n 3, 1) := by decide +kernel
theorem dX6_waysToGive_16 : decode cX6_waysToGive 16 = .ok (.iload_n 0, 1) := by decide +kernel
theorem dX6_waysToGive_17 : decode cX6_waysToGive 17 = .ok (.iconst 1, 1) := by decide +kernel
theorem dX6_waysToGive_18 : decode cX6_waysToGive 18 = .ok (.isub, 1) := by decide +kernel
theorem dX6_waysToGive_19 : decode cX6_waysToGive 19 = .ok (.iload_n 1, 1) := by decide +kernel
theorem dX6_waysToGive_20 : decode cX6_waysToGive 20 = .ok (.iload_n 2, 1) := by decide +kernel
theorem dX6_waysToGive_21 : decode cX6_waysToGive 21 = .ok (.iload_n 3, 1) := by decide +kernel
theorem dX6_waysToGive_22 : decode cX6_waysToGive 22 = .ok (.iload 4, 2) := by decide +kernel
theorem dX6_waysToGive_24 : decode cX6_waysToGive 24 = .ok (.iload_n 1, 1) := by decide +kernel
theorem dX6_waysToGive_25 : decode cX6_waysToGive 25 = .ok (.isub, 1) := by decide +kernel
theorem dX6_waysToGive_26 : decode cX6_waysToGive 26 = .ok (.invokestatic 231, 3) := by decide +kernel
theorem dX6_waysToGive_29 : decode cX6_waysToGive 29 = .ok (.imul, 1) := by decide +kernel
theorem dX6_waysToGive_30 : decode cX6_waysToGive 30 = .ok (.bipush 10, 2) := by decide +kernel
theorem dX6_waysToGive_32 : decode cX6_waysToGive 32 = .ok (.iload_n 3, 1) := by decide +kernel
theorem dX6_waysToGive_33 : decode cX6_waysToGive 33 = .ok (.isub, 1) := by decide +kernel
theorem dX6_waysToGive_34 : decode cX6_waysToGive 34 = .ok (.iload_n 0, 1) := by decide +kernel
theorem dX6_waysToGive_35 : decode cX6_waysToGive 35 = .ok (.iconst 1, 1) := by decide +kernel
theorem dX6_waysToGive_36 : decode cX6_waysToGive 36 = .ok (.isub, 1) := by decide +kernel
theorem dX6_waysToGive_37 : decode cX6_waysToGive 37 = .ok (.iload_n 1, 1) := by decide +kernel
theorem dX6_waysToGive_38 : decode cX6_waysToGive 38 = .ok (.iload_n 2, 1) := by decide +kernel
theorem dX6_waysToGive_39 : decode cX6_waysToGive 39 = .ok (.iload_n 3, 1) := by decide +kernel
theorem dX6_waysToGive_40 : decode cX6_waysToGive 40 = .ok (.iload 4, 2) := by decide +kernel
theorem dX6_waysToGive_42 : decode cX6_waysToGive 42 = .ok (.iload_n 2, 1) := by decide +kernel
theorem dX6_waysToGive_43 : decode cX6_waysToGive 43 = .ok (.isub, 1) := by decide +kernel
theorem dX6_waysToGive_44 : decode cX6_waysToGive 44 = .ok (.invokestatic 231, 3) := by decide +kernel
theorem dX6_waysToGive_47 : decode cX6_waysToGive 47 = .ok (.imul, 1) := by decide +kernel
theorem dX6_waysToGive_48 : decode cX6_waysToGive 48 = .ok (.iadd, 1) := by decide +kernel
theorem dX6_waysToGive_49 : decode cX6_waysToGive 49 = .ok (.ireturn, 1) := by decide +kernel
theorem dX6_sharedOfTens_0 : decode cX6_sharedOfTens 0 = .ok (.iconst 1, 1) := by decide +kernel
theorem dX6_sharedOfTens_1 : decode cX6_sharedOfTens 1 = .ok (.istore_n 3, 1) := by decide +kernel
theorem dX6_sharedOfTens_2 : decode cX6_sharedOfTens 2 = .ok (.iconst 0, 1) := by decide +kernel
theorem dX6_sharedOfTens_3 : decode cX6_sharedOfTens 3 = .ok (.istore 4, 2) := by decide +kernel
theorem dX6_sharedOfTens_5 : decode cX6_sharedOfTens 5 = .ok (.iload 4, 2) := by decide +kernel
theorem dX6_sharedOfTens_7 : decode cX6_sharedOfTens 7 = .ok (.iload_n 1, 1) := by decide +kernel
theorem dX6_sharedOfTens_8 : decode cX6_sharedOfTens 8 = .ok (.if_icmp .ge 21, 3) := by decide +kernel
theorem dX6_sharedOfTens_11 : decode cX6_sharedOfTens 11 = .ok (.iload_n 0, 1) := by decide +kernel
theorem dX6_sharedOfTens_12 : decode cX6_sharedOfTens 12 = .ok (.iload_n 3, 1) := by decide +kernel
theorem dX6_sharedOfTens_13 : decode cX6_sharedOfTens 13 = .ok (.iload_n 2, 1) := by decide +kernel
theorem dX6_sharedOfTens_14 : decode cX6_sharedOfTens 14 = .ok (.imul, 1) := by decide +kernel
theorem dX6_sharedOfTens_15 : decode cX6_sharedOfTens 15 = .ok (.irem, 1) := by decide +kernel
theorem dX6_sharedOfTens_16 : decode cX6_sharedOfTens 16 = .ok (.ifCond .ne 13, 3) := by decide +kernel
theorem dX6_sharedOfTens_19 : decode cX6_sharedOfTens 19 = .ok (.iload_n 3, 1) := by decide +kernel
theorem dX6_sharedOfTens_20 : decode cX6_sharedOfTens 20 = .ok (.iload_n 2, 1) := by decide +kernel
theorem dX6_sharedOfTens_21 : decode cX6_sharedOfTens 21 = .ok (.imul, 1) := by decide +kernel
theorem dX6_sharedOfTens_22 : decode cX6_sharedOfTens 22 = .ok (.istore_n 3, 1) := by decide +kernel
theorem dX6_sharedOfTens_23 : decode cX6_sharedOfTens 23 = .ok (.iinc 4 1, 3) := by decide +kernel
theorem dX6_sharedOfTens_26 : decode cX6_sharedOfTens 26 = .ok (.goto (-21), 3) := by decide +kernel
theorem dX6_sharedOfTens_29 : decode cX6_sharedOfTens 29 = .ok (.iload_n 3, 1) := by decide +kernel
theorem dX6_sharedOfTens_30 : decode cX6_sharedOfTens 30 = .ok (.ireturn, 1) := by decide +kernel
theorem dX6_rateAsKnee_0 : decode cX6_rateAsKnee 0 = .ok (.aload_n 0, 1) := by decide +kernel
theorem dX6_rateAsKnee_1 : decode cX6_rateAsKnee 1 = .ok (.dup, 1) := by decide +kernel
theorem dX6_rateAsKnee_2 : decode cX6_rateAsKnee 2 = .ok (.getfield 70, 3) := by decide +kernel
theorem dX6_rateAsKnee_5 : decode cX6_rateAsKnee 5 = .ok (.lconst 1, 1) := by decide +kernel
theorem dX6_rateAsKnee_6 : decode cX6_rateAsKnee 6 = .ok (.ladd, 1) := by decide +kernel
theorem dX6_rateAsKnee_7 : decode cX6_rateAsKnee 7 = .ok (.putfield 70, 3) := by decide +kernel
theorem dX6_rateAsKnee_10 : decode cX6_rateAsKnee 10 = .ok (.aload_n 0, 1) := by decide +kernel
theorem dX6_rateAsKnee_11 : decode cX6_rateAsKnee 11 = .ok (.getfield 37, 3) := by decide +kernel
theorem dX6_rateAsKnee_14 : decode cX6_rateAsKnee 14 = .ok (.getfield 112, 3) := by decide +kernel
theorem dX6_rateAsKnee_17 : decode cX6_rateAsKnee 17 = .ok (.iload_n 1, 1) := by decide +kernel
theorem dX6_rateAsKnee_18 : decode cX6_rateAsKnee 18 = .ok (.iaload, 1) := by decide +kernel
theorem dX6_rateAsKnee_19 : decode cX6_rateAsKnee 19 = .ok (.ireturn, 1) := by decide +kernel
set_option maxRecDepth 20000 in
theorem ggX6_rateAsDance_X6_rateAsKnee : GoodIn wsX6_rateAsDance wsX6_rateAsKnee := goodIn_r _ [10, 1, 11, 12, 13, 14, 15, 16, 17, 18, 19, 20, 21, 22, 23, 24, 37, 38, 39, 40, 41, 42, 43] rfl (by decide +kernel)
set_option maxRecDepth 20000 in
theorem gX6_rateAsDance_X6_rateAsKnee : GoodIn wsX6_rateAsDance (wsV RX6 266 RX6 yX6_rateAsKnee wsX6_rateAsKnee) := goodIn_app (goodIn_of _ (by decide +kernel)) ggX6_rateAsDance_X6_rateAsKnee
theorem dX6_rateAsDance_0 : decode cX6_rateAsDance 0 = .ok (.aload_n 0, 1) := by decide +kernel
theorem dX6_rateAsDance_1 : decode cX6_rateAsDance 1 = .ok (.dup, 1) := by decide +kernel
theorem dX6_rateAsDance_2 : decode cX6_rateAsDance 2 = .ok (.getfield 70, 3) := by decide +kernel
theorem dX6_rateAsDance_5 : decode cX6_rateAsDance 5 = .ok (.ldc2_w 299, 3) := by decide +kernel
theorem dX6_rateAsDance_8 : decode cX6_rateAsDance 8 = .ok (.ladd, 1) := by decide +kernel
theorem dX6_rateAsDance_9 : decode cX6_rateAsDance 9 = .ok (.putfield 70, 3) := by decide +kernel
theorem dX6_rateAsDance_12 : decode cX6_rateAsDance 12 = .ok (.aload_n 0, 1) := by decide +kernel
theorem dX6_rateAsDance_13 : decode cX6_rateAsDance 13 = .ok (.iload_n 1, 1) := by decide +kernel
theorem dX6_rateAsDance_14 : decode cX6_rateAsDance 14 = .ok (.invokevirtual 266, 3) := by decide +kernel
theorem dX6_rateAsDance_17 : decode cX6_rateAsDance 17 = .ok (.aload_n 0, 1) := by decide +kernel
theorem dX6_rateAsDance_18 : decode cX6_rateAsDance 18 = .ok (.getfield 27, 3) := by decide +kernel
theorem dX6_rateAsDance_21 : decode cX6_rateAsDance 21 = .ok (.getfield 143, 3) := by decide +kernel
theorem dX6_rateAsDance_24 : decode cX6_rateAsDance 24 = .ok (.aload_n 0, 1) := by decide +kernel
theorem dX6_rateAsDance_25 : decode cX6_rateAsDance 25 = .ok (.getfield 27, 3) := by decide +kernel
theorem dX6_rateAsDance_28 : decode cX6_rateAsDance 28 = .ok (.getfield 109, 3) := by decide +kernel
theorem dX6_rateAsDance_31 : decode cX6_rateAsDance 31 = .ok (.iload_n 1, 1) := by decide +kernel
theorem dX6_rateAsDance_32 : decode cX6_rateAsDance 32 = .ok (.iaload, 1) := by decide +kernel
theorem dX6_rateAsDance_33 : decode cX6_rateAsDance 33 = .ok (.iaload, 1) := by decide +kernel
theorem dX6_rateAsDance_34 : decode cX6_rateAsDance 34 = .ok (.iadd, 1) := by decide +kernel
theorem dX6_rateAsDance_35 : decode cX6_rateAsDance 35 = .ok (.ireturn, 1) := by decide +kernel
set_option maxRecDepth 20000 in
theorem ggX6_rateAsStair_X6_rateAsKnee : GoodIn wsX6_rateAsStair wsX6_rateAsKnee := goodIn_r _ [11, 1, 5, 6, 12, 13, 14, 15, 16, 17, 18, 19, 20, 21, 22, 23, 36, 37, 38, 39, 40, 41, 42] rfl (by decide +kernel)
set_option maxRecDepth 20000 in
theorem gX6_rateAsStair_X6_rateAsKnee : GoodIn wsX6_rateAsStair (wsV RX6 266 RX6 yX6_rateAsKnee wsX6_rateAsKnee) := goodIn_app (goodIn_of _ (by decide +kernel)) ggX6_rateAsStair_X6_rateAsKnee
theorem dX6_rateAsStair_0 : decode cX6_rateAsStair 0 = .ok (.aload_n 0, 1) := by decide +kernel
theorem dX6_rateAsStair_1 : decode cX6_rateAsStair 1 = .ok (.dup, 1) := by decide +kernel
theorem dX6_rateAsStair_2 : decode cX6_rateAsStair 2 = .ok (.getfield 70, 3) := by decide +kernel
theorem dX6_rateAsStair_5 : decode cX6_rateAsStair 5 = .ok (.ldc2_w 301, 3) := by decide +kernel
theorem dX6_rateAsStair_8 : decode cX6_rateAsStair 8 = .ok (.ladd, 1) := by decide +kernel
theorem dX6_rateAsStair_9 : decode cX6_rateAsStair 9 = .ok (.putfield 70, 3) := by decide +kernel
theorem dX6_rateAsStair_12 : decode cX6_rateAsStair 12 = .ok (.aload_n 0, 1) := by decide +kernel
theorem dX6_rateAsStair_13 : decode cX6_rateAsStair 13 = .ok (.iload_n 1, 1) := by decide +kernel
theorem dX6_rateAsStair_14 : decode cX6_rateAsStair 14 = .ok (.invokevirtual 266, 3) := by decide +kernel
theorem dX6_rateAsStair_17 : decode cX6_rateAsStair 17 = .ok (.aload_n 0, 1) := by decide +kernel
theorem dX6_rateAsStair_18 : decode cX6_rateAsStair 18 = .ok (.getfield 27, 3) := by decide +kernel
theorem dX6_rateAsStair_21 : decode cX6_rateAsStair 21 = .ok (.getfield 303, 3) := by decide +kernel
theorem dX6_rateAsStair_24 : decode cX6_rateAsStair 24 = .ok (.iload_n 1, 1) := by decide +kernel
theorem dX6_rateAsStair_25 : decode cX6_rateAsStair 25 = .ok (.iaload, 1) := by decide +kernel
theorem dX6_rateAsStair_26 : decode cX6_rateAsStair 26 = .ok (.aload_n 0, 1) := by decide +kernel
theorem dX6_rateAsStair_27 : decode cX6_rateAsStair 27 = .ok (.getfield 37, 3) := by decide +kernel
theorem dX6_rateAsStair_30 : decode cX6_rateAsStair 30 = .ok (.getfield 112, 3) := by decide +kernel
theorem dX6_rateAsStair_33 : decode cX6_rateAsStair 33 = .ok (.iload_n 1, 1) := by decide +kernel
theorem dX6_rateAsStair_34 : decode cX6_rateAsStair 34 = .ok (.iaload, 1) := by decide +kernel
theorem dX6_rateAsStair_35 : decode cX6_rateAsStair 35 = .ok (.isub, 1) := by decide +kernel
theorem dX6_rateAsStair_36 : decode cX6_rateAsStair 36 = .ok (.isub, 1) := by decide +kernel
theorem dX6_rateAsStair_37 : decode cX6_rateAsStair 37 = .ok (.ireturn, 1) := by decide +kernel
set_option maxRecDepth 20000 in
theorem ggX6_rateAsGroom_X6_rateAsDance : GoodIn wsX6_rateAsGroom wsX6_rateAsDance := goodIn_r _ [7, 1, 8, 9, 10, 11, 12, 13, 14, 6, 15, 16, 17, 18, 19, 20, 21, 22, 23, 24, 25, 26, 27, 28, 29, 30, 31, 32, 33, 34, 35, 36, 37, 38, 39, 40, 41, 42, 43, 44, 45, 46, 47, 48] rfl (by decide +kernel)
set_option maxRecDepth 20000 in
theorem gX6_rateAsGroom_X6_rateAsDance : GoodIn wsX6_rateAsGroom (wsV RX6 269 RX6 yX6_rateAsDance wsX6_rateAsDance) := goodIn_app (goodIn_of _ (by decide +kernel)) ggX6_rateAsGroom_X6_rateAsDance
theorem dX6_rateAsGroom_0 : decode cX6_rateAsGroom 0 = .ok (.aload_n 0, 1) := by decide +kernel
theorem dX6_rateAsGroom_1 : decode cX6_rateAsGroom 1 = .ok (.dup, 1) := by decide +kernel
theorem dX6_rateAsGroom_2 : decode cX6_rateAsGroom 2 = .ok (.getfield 70, 3) := by decide +kernel
theorem dX6_rateAsGroom_5 : decode cX6_rateAsGroom 5 = .ok (.ldc2_w 306, 3) := by decide +kernel
theorem dX6_rateAsGroom_8 : decode cX6_rateAsGroom 8 = .ok (.ladd, 1) := by decide +kernel
theorem dX6_rateAsGroom_9 : decode cX6_rateAsGroom 9 = .ok (.putfield 70, 3) := by decide +kernel
theorem dX6_rateAsGroom_12 : decode cX6_rateAsGroom 12 = .ok (.iconst 2, 1) := by decide +kernel
theorem dX6_rateAsGroom_13 : decode cX6_rateAsGroom 13 = .ok (.aload_n 0, 1) := by decide +kernel
theorem dX6_rateAsGroom_14 : decode cX6_rateAsGroom 14 = .ok (.iload_n 1, 1) := by decide +kernel
theorem dX6_rateAsGroom_15 : decode cX6_rateAsGroom 15 = .ok (.invokevirtual 269, 3) := by decide +kernel
theorem dX6_rateAsGroom_18 : decode cX6_rateAsGroom 18 = .ok (.imul, 1) := by decide +kernel
theorem dX6_rateAsGroom_19 : decode cX6_rateAsGroom 19 = .ok (.ireturn, 1) := by decide +kernel
set_option maxRecDepth 20000 in
theorem ggX6_rateAsPriest_X6_rateAsStair : GoodIn wsX6_rateAsPriest wsX6_rateAsStair := goodIn_r _ [7, 1, 8, 9, 10, 11, 12, 13, 14, 15, 6, 16, 17, 18, 19, 20, 21, 22, 23, 24, 25, 26, 27, 28, 29, 30, 31, 32, 33, 34, 35, 36, 37, 38, 39, 40, 41, 42, 43, 44, 45, 46, 47] rfl (by decide +kernel)
set_option maxRecDepth 20000 in
theorem gX6_rateAsPriest_X6_rateAsStair : GoodIn wsX6_rateAsPriest (wsV RX6 272 RX6 yX6_rateAsStair wsX6_rateAsStair) := goodIn_app (goodIn_of _ (by decide +kernel)) ggX6_rateAsPriest_X6_rateAsStair
theorem dX6_rateAsPriest_0 : decode cX6_rateAsPriest 0 = .ok (.aload_n 0, 1) := by decide +kernel
theorem dX6_rateAsPriest_1 : decode cX6_rateAsPriest 1 = .ok (.dup, 1) := by decide +kernel
theorem dX6_rateAsPriest_2 : decode cX6_rateAsPriest 2 = .ok (.getfield 70, 3) := by decide +kernel
theorem dX6_rateAsPriest_5 : decode cX6_rateAsPriest 5 = .ok (.ldc2_w 308, 3) := by decide +kernel
theorem dX6_rateAsPriest_8 : decode cX6_rateAsPriest 8 = .ok (.ladd, 1) := by decide +kernel
theorem dX6_rateAsPriest_9 : decode cX6_rateAsPriest 9 = .ok (.putfield 70, 3) := by decide +kernel
theorem dX6_rateAsPriest_12 : decode cX6_rateAsPriest 12 = .ok (.aload_n 0, 1) := by decide +kernel
theorem dX6_rateAsPriest_13 : decode cX6_rateAsPriest 13 = .ok (.iload_n 1, 1) := by decide +kernel
theorem dX6_rateAsPriest_14 : decode cX6_rateAsPriest 14 = .ok (.invokevirtual 272, 3) := by decide +kernel
theorem dX6_rateAsPriest_17 : decode cX6_rateAsPriest 17 = .ok (.iload_n 1, 1) := by decide +kernel
theorem dX6_rateAsPriest_18 : decode cX6_rateAsPriest 18 = .ok (.iadd, 1) := by decide +kernel
theorem dX6_rateAsPriest_19 : decode cX6_rateAsPriest 19 = .ok (.ireturn, 1) := by decide +kernel
set_option maxRecDepth 20000 in
theorem ggX6_rateAsBell_X6_rateAsKnee : GoodIn wsX6_rateAsBell wsX6_rateAsKnee := goodIn_r _ [9, 1, 3, 10, 11, 12, 13, 14, 15, 16, 17, 18, 19, 20, 21, 22, 23, 24, 25, 26, 27, 28, 29] rfl (by decide +kernel)
set_option maxRecDepth 20000 in
theorem gX6_rateAsBell_X6_rateAsKnee : GoodIn wsX6_rateAsBell (wsV RX6 266 RX6 yX6_rateAsKnee wsX6_rateAsKnee) := goodIn_app (goodIn_of _ (by decide +kernel)) ggX6_rateAsBell_X6_rateAsKnee
theorem dX6_rateAsBell_0 : decode cX6_rateAsBell 0 = .ok (.aload_n 0, 1) := by decide +kernel
theorem dX6_rateAsBell_1 : decode cX6_rateAsBell 1 = .ok (.dup, 1) := by decide +kernel
theorem dX6_rateAsBell_2 : decode cX6_rateAsBell 2 = .ok (.getfield 70, 3) := by decide +kernel
theorem dX6_rateAsBell_5 : decode cX6_rateAsBell 5 = .ok (.ldc2_w 310, 3) := by decide +kernel
theorem dX6_rateAsBell_8 : decode cX6_rateAsBell 8 = .ok (.ladd, 1) := by decide +kernel
theorem dX6_rateAsBell_9 : decode cX6_rateAsBell 9 = .ok (.putfield 70, 3) := by decide +kernel
theorem dX6_rateAsBell_12 : decode cX6_rateAsBell 12 = .ok (.aload_n 0, 1) := by decide +kernel
theorem dX6_rateAsBell_13 : decode cX6_rateAsBell 13 = .ok (.iload_n 1, 1) := by decide +kernel
theorem dX6_rateAsBell_14 : decode cX6_rateAsBell 14 = .ok (.invokevirtual 266, 3) := by decide +kernel
theorem dX6_rateAsBell_17 : decode cX6_rateAsBell 17 = .ok (.aload_n 0, 1) := by decide +kernel
theorem dX6_rateAsBell_18 : decode cX6_rateAsBell 18 = .ok (.getfield 37, 3) := by decide +kernel
theorem dX6_rateAsBell_21 : decode cX6_rateAsBell 21 = .ok (.getfield 165, 3) := by decide +kernel
theorem dX6_rateAsBell_24 : decode cX6_rateAsBell 24 = .ok (.iadd, 1) := by decide +kernel
theorem dX6_rateAsBell_25 : decode cX6_rateAsBell 25 = .ok (.ireturn, 1) := by decide +kernel
