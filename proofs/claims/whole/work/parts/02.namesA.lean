set_option maxRecDepth 20000 in
theorem ggX0_init_X3_init : GoodIn wsX0_init wsX3_init := goodIn_r _ [11, 12, 2, 3, 13, 14, 15, 16, 17, 18, 19, 20, 24, 25, 26, 27, 28, 29, 30] rfl (by decide +kernel)
set_option maxRecDepth 20000 in
theorem gX0_init_X3_init_n22 : GoodIn wsX0_init (wsX3_init) := ggX0_init_X3_init
theorem dX0_init_0 : decode cX0_init 0 = .ok (.aload_n 0, 1) := by decide +kernel
theorem dX0_init_1 : decode cX0_init 1 = .ok (.invokespecial 1, 3) := by decide +kernel
theorem dX0_init_4 : decode cX0_init 4 = .ok (.aload_n 0, 1) := by decide +kernel
theorem dX0_init_5 : decode cX0_init 5 = .ok (.bipush 10, 2) := by decide +kernel
theorem dX0_init_7 : decode cX0_init 7 = .ok (.anewarray 9, 3) := by decide +kernel
theorem dX0_init_10 : decode cX0_init 10 = .ok (.putfield 11, 3) := by decide +kernel
theorem dX0_init_13 : decode cX0_init 13 = .ok (.aload_n 0, 1) := by decide +kernel
theorem dX0_init_14 : decode cX0_init 14 = .ok (.iconst 0, 1) := by decide +kernel
theorem dX0_init_15 : decode cX0_init 15 = .ok (.putfield 15, 3) := by decide +kernel
theorem dX0_init_18 : decode cX0_init 18 = .ok (.aload_n 0, 1) := by decide +kernel
theorem dX0_init_19 : decode cX0_init 19 = .ok (.iconst 0, 1) := by decide +kernel
theorem dX0_init_20 : decode cX0_init 20 = .ok (.putfield 19, 3) := by decide +kernel
theorem dX0_init_23 : decode cX0_init 23 = .ok (.iconst 0, 1) := by decide +kernel
theorem dX0_init_24 : decode cX0_init 24 = .ok (.istore_n 1, 1) := by decide +kernel
theorem dX0_init_25 : decode cX0_init 25 = .ok (.iload_n 1, 1) := by decide +kernel
theorem dX0_init_26 : decode cX0_init 26 = .ok (.bipush 10, 2) := by decide +kernel
theorem dX0_init_28 : decode cX0_init 28 = .ok (.if_icmp .ge 22, 3) := by decide +kernel
theorem dX0_init_31 : decode cX0_init 31 = .ok (.aload_n 0, 1) := by decide +kernel
theorem dX0_init_32 : decode cX0_init 32 = .ok (.getfield 11, 3) := by decide +kernel
theorem dX0_init_35 : decode cX0_init 35 = .ok (.iload_n 1, 1) := by decide +kernel
theorem dX0_init_36 : decode cX0_init 36 = .ok (.new 9, 3) := by decide +kernel
theorem dX0_init_39 : decode cX0_init 39 = .ok (.dup, 1) := by decide +kernel
theorem dX0_init_40 : decode cX0_init 40 = .ok (.invokespecial 22, 3) := by decide +kernel
theorem dX0_init_43 : decode cX0_init 43 = .ok (.aastore, 1) := by decide +kernel
theorem dX0_init_44 : decode cX0_init 44 = .ok (.iinc 1 1, 3) := by decide +kernel
theorem dX0_init_47 : decode cX0_init 47 = .ok (.goto (-22), 3) := by decide +kernel
theorem dX0_init_50 : decode cX0_init 50 = .ok (.return_, 1) := by decide +kernel
set_option maxRecDepth 20000 in
theorem ggX0_remember_X3_copy : GoodIn wsX0_remember wsX3_copy := goodIn_r _ [12, 13, 14, 15, 16, 17, 18, 19, 20, 21, 22, 23, 27, 28, 29, 30, 31, 32, 33] rfl (by decide +kernel)
set_option maxRecDepth 20000 in
theorem gX0_remember_X3_copy : GoodIn wsX0_remember (wsV RX0 23 RX3 yX3_copy wsX3_copy) := goodIn_app (goodIn_of _ (by decide +kernel)) ggX0_remember_X3_copy
theorem dX0_remember_0 : decode cX0_remember 0 = .ok (.aload_n 0, 1) := by decide +kernel
theorem dX0_remember_1 : decode cX0_remember 1 = .ok (.getfield 11, 3) := by decide +kernel
theorem dX0_remember_4 : decode cX0_remember 4 = .ok (.aload_n 0, 1) := by decide +kernel
theorem dX0_remember_5 : decode cX0_remember 5 = .ok (.getfield 15, 3) := by decide +kernel
theorem dX0_remember_8 : decode cX0_remember 8 = .ok (.aaload, 1) := by decide +kernel
theorem dX0_remember_9 : decode cX0_remember 9 = .ok (.aload_n 1, 1) := by decide +kernel
theorem dX0_remember_10 : decode cX0_remember 10 = .ok (.invokevirtual 23, 3) := by decide +kernel
theorem dX0_remember_13 : decode cX0_remember 13 = .ok (.aload_n 0, 1) := by decide +kernel
theorem dX0_remember_14 : decode cX0_remember 14 = .ok (.aload_n 0, 1) := by decide +kernel
theorem dX0_remember_15 : decode cX0_remember 15 = .ok (.getfield 15, 3) := by decide +kernel
theorem dX0_remember_18 : decode cX0_remember 18 = .ok (.iconst 1, 1) := by decide +kernel
theorem dX0_remember_19 : decode cX0_remember 19 = .ok (.iadd, 1) := by decide +kernel
theorem dX0_remember_20 : decode cX0_remember 20 = .ok (.bipush 10, 2) := by decide +kernel
theorem dX0_remember_22 : decode cX0_remember 22 = .ok (.if_icmp .ge 12, 3) := by decide +kernel
theorem dX0_remember_25 : decode cX0_remember 25 = .ok (.aload_n 0, 1) := by decide +kernel
theorem dX0_remember_26 : decode cX0_remember 26 = .ok (.getfield 15, 3) := by decide +kernel
theorem dX0_remember_29 : decode cX0_remember 29 = .ok (.iconst 1, 1) := by decide +kernel
theorem dX0_remember_30 : decode cX0_remember 30 = .ok (.iadd, 1) := by decide +kernel
theorem dX0_remember_31 : decode cX0_remember 31 = .ok (.goto 4, 3) := by decide +kernel
theorem dX0_remember_34 : decode cX0_remember 34 = .ok (.iconst 0, 1) := by decide +kernel
theorem dX0_remember_35 : decode cX0_remember 35 = .ok (.putfield 15, 3) := by decide +kernel
theorem dX0_remember_38 : decode cX0_remember 38 = .ok (.aload_n 0, 1) := by decide +kernel
theorem dX0_remember_39 : decode cX0_remember 39 = .ok (.bipush 10, 2) := by decide +kernel
theorem dX0_remember_41 : decode cX0_remember 41 = .ok (.aload_n 0, 1) := by decide +kernel
theorem dX0_remember_42 : decode cX0_remember 42 = .ok (.getfield 19, 3) := by decide +kernel
theorem dX0_remember_45 : decode cX0_remember 45 = .ok (.iconst 1, 1) := by decide +kernel
theorem dX0_remember_46 : decode cX0_remember 46 = .ok (.iadd, 1) := by decide +kernel
theorem dX0_remember_47 : decode cX0_remember 47 = .ok (.invokestatic 27, 3) := by decide +kernel
theorem dX0_remember_50 : decode cX0_remember 50 = .ok (.putfield 19, 3) := by decide +kernel
theorem dX0_remember_53 : decode cX0_remember 53 = .ok (.return_, 1) := by decide +kernel
set_option maxRecDepth 20000 in
theorem ggX0_takeBack_X3_copy : GoodIn wsX0_takeBack wsX3_copy := goodIn_r _ [8, 9, 10, 11, 12, 13, 14, 15, 16, 17, 18, 19, 23, 24, 25, 26, 27, 28, 29] rfl (by decide +kernel)
set_option maxRecDepth 20000 in
theorem gX0_takeBack_X3_copy : GoodIn wsX0_takeBack (wsV RX0 23 RX3 yX3_copy wsX3_copy) := goodIn_app (goodIn_of _ (by decide +kernel)) ggX0_takeBack_X3_copy
theorem dX0_takeBack_0 : decode cX0_takeBack 0 = .ok (.aload_n 0, 1) := by decide +kernel
theorem dX0_takeBack_1 : decode cX0_takeBack 1 = .ok (.aload_n 0, 1) := by decide +kernel
theorem dX0_takeBack_2 : decode cX0_takeBack 2 = .ok (.getfield 15, 3) := by decide +kernel
theorem dX0_takeBack_5 : decode cX0_takeBack 5 = .ok (.ifCond .le 12, 3) := by decide +kernel
theorem dX0_takeBack_8 : decode cX0_takeBack 8 = .ok (.aload_n 0, 1) := by decide +kernel
theorem dX0_takeBack_9 : decode cX0_takeBack 9 = .ok (.getfield 15, 3) := by decide +kernel
theorem dX0_takeBack_12 : decode cX0_takeBack 12 = .ok (.iconst 1, 1) := by decide +kernel
theorem dX0_takeBack_13 : decode cX0_takeBack 13 = .ok (.isub, 1) := by decide +kernel
theorem dX0_takeBack_14 : decode cX0_takeBack 14 = .ok (.goto 5, 3) := by decide +kernel
theorem dX0_takeBack_17 : decode cX0_takeBack 17 = .ok (.bipush 9, 2) := by decide +kernel
theorem dX0_takeBack_19 : decode cX0_takeBack 19 = .ok (.putfield 15, 3) := by decide +kernel
theorem dX0_takeBack_22 : decode cX0_takeBack 22 = .ok (.aload_n 1, 1) := by decide +kernel
theorem dX0_takeBack_23 : decode cX0_takeBack 23 = .ok (.aload_n 0, 1) := by decide +kernel
theorem dX0_takeBack_24 : decode cX0_takeBack 24 = .ok (.getfield 11, 3) := by decide +kernel
theorem dX0_takeBack_27 : decode cX0_takeBack 27 = .ok (.aload_n 0, 1) := by decide +kernel
theorem dX0_takeBack_28 : decode cX0_takeBack 28 = .ok (.getfield 15, 3) := by decide +kernel
theorem dX0_takeBack_31 : decode cX0_takeBack 31 = .ok (.aaload, 1) := by decide +kernel
theorem dX0_takeBack_32 : decode cX0_takeBack 32 = .ok (.invokevirtual 23, 3) := by decide +kernel
theorem dX0_takeBack_35 : decode cX0_takeBack 35 = .ok (.aload_n 0, 1) := by decide +kernel
theorem dX0_takeBack_36 : decode cX0_takeBack 36 = .ok (.dup, 1) := by decide +kernel
theorem dX0_takeBack_37 : decode cX0_takeBack 37 = .ok (.getfield 19, 3) := by decide +kernel
theorem dX0_takeBack_40 : decode cX0_takeBack 40 = .ok (.iconst 1, 1) := by decide +kernel
theorem dX0_takeBack_41 : decode cX0_takeBack 41 = .ok (.isub, 1) := by decide +kernel
theorem dX0_takeBack_42 : decode cX0_takeBack 42 = .ok (.putfield 19, 3) := by decide +kernel
theorem dX0_takeBack_45 : decode cX0_takeBack 45 = .ok (.return_, 1) := by decide +kernel
theorem dX1_init_0 : decode cX1_init 0 = .ok (.aload_n 0, 1) := by decide +kernel
theorem dX1_init_1 : decode cX1_init 1 = .ok (.invokespecial 1, 3) := by decide +kernel
theorem dX1_init_4 : decode cX1_init 4 = .ok (.aload_n 0, 1) := by decide +kernel
theorem dX1_init_5 : decode cX1_init 5 = .ok (.iconst 0, 1) := by decide +kernel
theorem dX1_init_6 : decode cX1_init 6 = .ok (.putfield 7, 3) := by decide +kernel
theorem dX1_init_9 : decode cX1_init 9 = .ok (.aload_n 0, 1) := by decide +kernel
theorem dX1_init_10 : decode cX1_init 10 = .ok (.iconst 0, 1) := by decide +kernel
theorem dX1_init_11 : decode cX1_init 11 = .ok (.putfield 13, 3) := by decide +kernel
theorem dX1_init_14 : decode cX1_init 14 = .ok (.aload_n 0, 1) := by decide +kernel
theorem dX1_init_15 : decode cX1_init 15 = .ok (.iconst 0, 1) := by decide +kernel
theorem dX1_init_16 : decode cX1_init 16 = .ok (.putfield 16, 3) := by decide +kernel
theorem dX1_init_19 : decode cX1_init 19 = .ok (.aload_n 0, 1) := by decide +kernel
theorem dX1_init_20 : decode cX1_init 20 = .ok (.iconst 0, 1) := by decide +kernel
theorem dX1_init_21 : decode cX1_init 21 = .ok (.putfield 19, 3) := by decide +kernel
theorem dX1_init_24 : decode cX1_init 24 = .ok (.aload_n 0, 1) := by decide +kernel
theorem dX1_init_25 : decode cX1_init 25 = .ok (.iconst 0, 1) := by decide +kernel
theorem dX1_init_26 : decode cX1_init 26 = .ok (.putfield 22, 3) := by decide +kernel
theorem dX1_init_29 : decode cX1_init 29 = .ok (.aload_n 0, 1) := by decide +kernel
theorem dX1_init_30 : decode cX1_init 30 = .ok (.iconst 0, 1) := by decide +kernel
theorem dX1_init_31 : decode cX1_init 31 = .ok (.putfield 25, 3) := by decide +kernel
theorem dX1_init_34 : decode cX1_init 34 = .ok (.return_, 1) := by decide +kernel
theorem dX1_silence_0 : decode cX1_silence 0 = .ok (.aload_n 0, 1) := by decide +kernel
theorem dX1_silence_1 : decode cX1_silence 1 = .ok (.iconst 0, 1) := by decide +kernel
theorem dX1_silence_2 : decode cX1_silence 2 = .ok (.putfield 7, 3) := by decide +kernel
theorem dX1_silence_5 : decode cX1_silence 5 = .ok (.aload_n 0, 1) := by decide +kernel
theorem dX1_silence_6 : decode cX1_silence 6 = .ok (.iconst 0, 1) := by decide +kernel
theorem dX1_silence_7 : decode cX1_silence 7 = .ok (.putfield 13, 3) := by decide +kernel
theorem dX1_silence_10 : decode cX1_silence 10 = .ok (.aload_n 0, 1) := by decide +kernel
theorem dX1_silence_11 : decode cX1_silence 11 = .ok (.iconst 0, 1) := by decide +kernel
theorem dX1_silence_12 : decode cX1_silence 12 = .ok (.putfield 16, 3) := by decide +kernel
theorem dX1_silence_15 : decode cX1_silence 15 = .ok (.aload_n 0, 1) := by decide +kernel
theorem dX1_silence_16 : decode cX1_silence 16 = .ok (.iconst 0, 1) := by decide +kernel
theorem dX1_silence_17 : decode cX1_silence 17 = .ok (.putfield 19, 3) := by decide +kernel
theorem dX1_silence_20 : decode cX1_silence 20 = .ok (.aload_n 0, 1) := by decide +kernel
theorem dX1_silence_21 : decode cX1_silence 21 = .ok (.iconst 0, 1) := by decide +kernel
theorem dX1_silence_22 : decode cX1_silence 22 = .ok (.putfield 22, 3) := by decide +kernel
theorem dX1_silence_25 : decode cX1_silence 25 = .ok (.aload_n 0, 1) := by decide +kernel
theorem dX1_silence_26 : decode cX1_silence 26 = .ok (.iconst 0, 1) := by decide +kernel
theorem dX1_silence_27 : decode cX1_silence 27 = .ok (.putfield 25, 3) := by decide +kernel
theorem dX1_silence_30 : decode cX1_silence 30 = .ok (.return_, 1) := by decide +kernel
set_option maxRecDepth 20000 in
theorem ggX1_hearSteps_X6_within : GoodIn wsX1_hearSteps wsX6_within := goodIn_r _ [6] rfl (by decide +kernel)
set_option maxRecDepth 20000 in
theorem gX1_hearSteps_X6_within_n28 : GoodIn wsX1_hearSteps (wsX6_within) := ggX1_hearSteps_X6_within
theorem dX1_hearSteps_0 : decode cX1_hearSteps 0 = .ok (.aload_n 0, 1) := by decide +kernel
theorem dX1_hearSteps_1 : decode cX1_hearSteps 1 = .ok (.dup, 1) := by decide +kernel
theorem dX1_hearSteps_2 : decode cX1_hearSteps 2 = .ok (.getfield 7, 3) := by decide +kernel
theorem dX1_hearSteps_5 : decode cX1_hearSteps 5 = .ok (.iconst 1, 1) := by decide +kernel
theorem dX1_hearSteps_6 : decode cX1_hearSteps 6 = .ok (.iadd, 1) := by decide +kernel
theorem dX1_hearSteps_7 : decode cX1_hearSteps 7 = .ok (.putfield 7, 3) := by decide +kernel
theorem dX1_hearSteps_10 : decode cX1_hearSteps 10 = .ok (.iload_n 3, 1) := by decide +kernel
theorem dX1_hearSteps_11 : decode cX1_hearSteps 11 = .ok (.iload_n 2, 1) := by decide +kernel
theorem dX1_hearSteps_12 : decode cX1_hearSteps 12 = .ok (.isub, 1) := by decide +kernel
theorem dX1_hearSteps_13 : decode cX1_hearSteps 13 = .ok (.istore 4, 2) := by decide +kernel
theorem dX1_hearSteps_15 : decode cX1_hearSteps 15 = .ok (.iload 4, 2) := by decide +kernel
theorem dX1_hearSteps_17 : decode cX1_hearSteps 17 = .ok (.iconst 0, 1) := by decide +kernel
theorem dX1_hearSteps_18 : decode cX1_hearSteps 18 = .ok (.iload_n 2, 1) := by decide +kernel
theorem dX1_hearSteps_19 : decode cX1_hearSteps 19 = .ok (.invokestatic 28, 3) := by decide +kernel
theorem dX1_hearSteps_22 : decode cX1_hearSteps 22 = .ok (.ifCond .ne 18, 3) := by decide +kernel
theorem dX1_hearSteps_25 : decode cX1_hearSteps 25 = .ok (.aload_n 0, 1) := by decide +kernel
theorem dX1_hearSteps_26 : decode cX1_hearSteps 26 = .ok (.dup, 1) := by decide +kernel
theorem dX1_hearSteps_27 : decode cX1_hearSteps 27 = .ok (.getfield 16, 3) := by decide +kernel
theorem dX1_hearSteps_30 : decode cX1_hearSteps 30 = .ok (.iconst 1, 1) := by decide +kernel
theorem dX1_hearSteps_31 : decode cX1_hearSteps 31 = .ok (.iload_n 1, 1) := by decide +kernel
theorem dX1_hearSteps_32 : decode cX1_hearSteps 32 = .ok (.ishl, 1) := by decide +kernel
theorem dX1_hearSteps_33 : decode cX1_hearSteps 33 = .ok (.ior, 1) := by decide +kernel
theorem dX1_hearSteps_34 : decode cX1_hearSteps 34 = .ok (.putfield 16, 3) := by decide +kernel
theorem dX1_hearSteps_37 : decode cX1_hearSteps 37 = .ok (.goto 20, 3) := by decide +kernel
theorem dX1_hearSteps_40 : decode cX1_hearSteps 40 = .ok (.iload 4, 2) := by decide +kernel
theorem dX1_hearSteps_42 : decode cX1_hearSteps 42 = .ok (.ifCond .le 15, 3) := by decide +kernel
theorem dX1_hearSteps_45 : decode cX1_hearSteps 45 = .ok (.aload_n 0, 1) := by decide +kernel
theorem dX1_hearSteps_46 : decode cX1_hearSteps 46 = .ok (.dup, 1) := by decide +kernel
theorem dX1_hearSteps_47 : decode cX1_hearSteps 47 = .ok (.getfield 13, 3) := by decide +kernel
theorem dX1_hearSteps_50 : decode cX1_hearSteps 50 = .ok (.iconst 1, 1) := by decide +kernel
theorem dX1_hearSteps_51 : decode cX1_hearSteps 51 = .ok (.iload_n 1, 1) := by decide +kernel
theorem dX1_hearSteps_52 : decode cX1_hearSteps 52 = .ok (.ishl, 1) := by decide +kernel
theorem dX1_hearSteps_53 : decode cX1_hearSteps 53 = .ok (.ior, 1) := by decide +kernel
theorem dX1_hearSteps_54 : decode cX1_hearSteps 54 = .ok (.putfield 13, 3) := by decide +kernel
theorem dX1_hearSteps_57 : decode cX1_hearSteps 57 = .ok (.return_, 1) := by decide +kernel
theorem dX1_hearRain_0 : decode cX1_hearRain 0 = .ok (.aload_n 0, 1) := by decide +kernel
theorem dX1_hearRain_1 : decode cX1_hearRain 1 = .ok (.dup, 1) := by decide +kernel
theorem dX1_hearRain_2 : decode cX1_hearRain 2 = .ok (.getfield 19, 3) := by decide +kernel
theorem dX1_hearRain_5 : decode cX1_hearRain 5 = .ok (.iconst 1, 1) := by decide +kernel
theorem dX1_hearRain_6 : decode cX1_hearRain 6 = .ok (.iadd, 1) := by decide +kernel
theorem dX1_hearRain_7 : decode cX1_hearRain 7 = .ok (.putfield 19, 3) := by decide +kernel
theorem dX1_hearRain_10 : decode cX1_hearRain 10 = .ok (.iload_n 2, 1) := by decide +kernel
theorem dX1_hearRain_11 : decode cX1_hearRain 11 = .ok (.iconst 1, 1) := by decide +kernel
theorem dX1_hearRain_12 : decode cX1_hearRain 12 = .ok (.if_icmp .ne 18, 3) := by decide +kernel
theorem dX1_hearRain_15 : decode cX1_hearRain 15 = .ok (.aload_n 0, 1) := by decide +kernel
theorem dX1_hearRain_16 : decode cX1_hearRain 16 = .ok (.dup, 1) := by decide +kernel
theorem dX1_hearRain_17 : decode cX1_hearRain 17 = .ok (.getfield 22, 3) := by decide +kernel
theorem dX1_hearRain_20 : decode cX1_hearRain 20 = .ok (.iconst 1, 1) := by decide +kernel
theorem dX1_hearRain_21 : decode cX1_hearRain 21 = .ok (.iload_n 1, 1) := by decide +kernel
theorem dX1_hearRain_22 : decode cX1_hearRain 22 = .ok (.ishl, 1) := by decide +kernel
theorem dX1_hearRain_23 : decode cX1_hearRain 23 = .ok (.ior, 1) := by decide +kernel
theorem dX1_hearRain_24 : decode cX1_hearRain 24 = .ok (.putfield 22, 3) := by decide +kernel
theorem dX1_hearRain_27 : decode cX1_hearRain 27 = .ok (.goto 15, 3) := by decide +kernel
theorem dX1_hearRain_30 : decode cX1_hearRain 30 = .ok (.aload_n 0, 1) := by decide +kernel
theorem dX1_hearRain_31 : decode cX1_hearRain 31 = .ok (.dup, 1) := by decide +kernel
theorem dX1_hearRain_32 : decode cX1_hearRain 32 = .ok (.getfield 25, 3) := by decide +kernel
theorem dX1_hearRain_35 : decode cX1_hearRain 35 = .ok (.iconst 1, 1) := by decide +kernel
theorem dX1_hearRain_36 : decode cX1_hearRain 36 = .ok (.iload_n 1, 1) := by decide +kernel
theorem dX1_hearRain_37 : decode cX1_hearRain 37 = .ok (.ishl, 1) := by decide +kernel
theorem dX1_hearRain_38 : decode cX1_hearRain 38 = .ok (.ior, 1) := by decide +kernel
theorem dX1_hearRain_39 : decode cX1_hearRain 39 = .ok (.putfield 25, 3) := by decide +kernel
theorem dX1_hearRain_42 : decode cX1_hearRain 42 = .ok (.return_, 1) := by decide +kernel
theorem dX1_canBeRain_0 : decode cX1_canBeRain 0 = .ok (.iload_n 1, 1) := by decide +kernel
theorem dX1_canBeRain_1 : decode cX1_canBeRain 1 = .ok (.aload_n 0, 1) := by decide +kernel
theorem dX1_canBeRain_2 : decode cX1_canBeRain 2 = .ok (.getfield 22, 3) := by decide +kernel
theorem dX1_canBeRain_5 : decode cX1_canBeRain 5 = .ok (.iand, 1) := by decide +kernel
theorem dX1_canBeRain_6 : decode cX1_canBeRain 6 = .ok (.aload_n 0, 1) := by decide +kernel
theorem dX1_canBeRain_7 : decode cX1_canBeRain 7 = .ok (.getfield 22, 3) := by decide +kernel
theorem dX1_canBeRain_10 : decode cX1_canBeRain 10 = .ok (.if_icmp .ne 16, 3) := by decide +kernel
theorem dX1_canBeRain_13 : decode cX1_canBeRain 13 = .ok (.iload_n 1, 1) := by decide +kernel
theorem dX1_canBeRain_14 : decode cX1_canBeRain 14 = .ok (.aload_n 0, 1) := by decide +kernel
theorem dX1_canBeRain_15 : decode cX1_canBeRain 15 = .ok (.getfield 25, 3) := by decide +kernel
theorem dX1_canBeRain_18 : decode cX1_canBeRain 18 = .ok (.iand, 1) := by decide +kernel
theorem dX1_canBeRain_19 : decode cX1_canBeRain 19 = .ok (.ifCond .ne 7, 3) := by decide +kernel
theorem dX1_canBeRain_22 : decode cX1_canBeRain 22 = .ok (.iconst 1, 1) := by decide +kernel
theorem dX1_canBeRain_23 : decode cX1_canBeRain 23 = .ok (.goto 4, 3) := by decide +kernel
theorem dX1_canBeRain_26 : decode cX1_canBeRain 26 = .ok (.iconst 0, 1) := by decide +kernel
theorem dX1_canBeRain_27 : decode cX1_canBeRain 27 = .ok (.ireturn, 1) := by decide +kernel
theorem dX2_init_0 : decode cX2_init 0 = .ok (.aload_n 0, 1) := by decide +kernel
theorem dX2_init_1 : decode cX2_init 1 = .ok (.invokespecial 3, 3) := by decide +kernel
theorem dX2_init_4 : decode cX2_init 4 = .ok (.aload_n 0, 1) := by decide +kernel
theorem dX2_init_5 : decode cX2_init 5 = .ok (.sipush 3072, 3) := by decide +kernel
theorem dX2_init_8 : decode cX2_init 8 = .ok (.newarray .int, 2) := by decide +kernel
theorem dX2_init_10 : decode cX2_init 10 = .ok (.putfield 11, 3) := by decide +kernel
theorem dX2_init_13 : decode cX2_init 13 = .ok (.aload_n 0, 1) := by decide +kernel
theorem dX2_init_14 : decode cX2_init 14 = .ok (.bipush 6, 2) := by decide +kernel
theorem dX2_init_16 : decode cX2_init 16 = .ok (.newarray .int, 2) := by decide +kernel
theorem dX2_init_18 : decode cX2_init 18 = .ok (.putfield 15, 3) := by decide +kernel
theorem dX2_init_21 : decode cX2_init 21 = .ok (.aload_n 0, 1) := by decide +kernel
theorem dX2_init_22 : decode cX2_init 22 = .ok (.bipush 6, 2) := by decide +kernel
theorem dX2_init_24 : decode cX2_init 24 = .ok (.newarray .int, 2) := by decide +kernel
theorem dX2_init_26 : decode cX2_init 26 = .ok (.putfield 18, 3) := by decide +kernel
theorem dX2_init_29 : decode cX2_init 29 = .ok (.aload_n 0, 1) := by decide +kernel
theorem dX2_init_30 : decode cX2_init 30 = .ok (.aconst_null, 1) := by decide +kernel
theorem dX2_init_31 : decode cX2_init 31 = .ok (.putfield 21, 3) := by decide +kernel
theorem dX2_init_34 : decode cX2_init 34 = .ok (.aload_n 0, 1) := by decide +kernel
theorem dX2_init_35 : decode cX2_init 35 = .ok (.iconst 0, 1) := by decide +kernel
theorem dX2_init_36 : decode cX2_init 36 = .ok (.putfield 25, 3) := by decide +kernel
theorem dX2_init_39 : decode cX2_init 39 = .ok (.aload_n 0, 1) := by decide +kernel
theorem dX2_init_40 : decode cX2_init 40 = .ok (.iconst 0, 1) := by decide +kernel
theorem dX2_init_41 : decode cX2_init 41 = .ok (.putfield 29, 3) := by decide +kernel
theorem dX2_init_44 : decode cX2_init 44 = .ok (.return_, 1) := by decide +kernel
set_option maxRecDepth 20000 in
theorem ggX2_weigh_J7_fill_fda19 : GoodIn wsX2_weigh wsJ7_fill_fda19 := goodIn_r _ [11, 12, 13, 10, 14] rfl (by decide +kernel)
set_option maxRecDepth 20000 in
theorem gX2_weigh_J7_fill_fda19 : GoodIn wsX2_weigh (va_wsS RX2 37 yJ7_fill_fda19 wsJ7_fill_fda19) := goodIn_app (goodIn_of _ (by decide +kernel)) ggX2_weigh_J7_fill_fda19
set_option maxRecDepth 20000 in
theorem ggX2_weigh_X2_offered : GoodIn wsX2_weigh wsX2_offered := goodIn_r _ [19, 1, 20, 21, 22, 23, 24, 25, 26, 27, 28, 29, 30, 31, 32, 33, 34, 35, 36, 37, 38, 39, 40, 41, 42, 43, 44, 45, 46, 47, 48, 49, 50, 51, 52, 88, 89, 90, 91, 92, 93, 94, 95, 96, 97, 98, 99, 100, 101, 102, 103, 104, 105, 106, 107, 108, 109, 110, 111, 112] rfl (by decide +kernel)
set_option maxRecDepth 20000 in
theorem gX2_weigh_X2_offered : GoodIn wsX2_weigh (wsV RX2 43 RX2 yX2_offered wsX2_offered) := goodIn_app (goodIn_of _ (by decide +kernel)) ggX2_weigh_X2_offered
set_option maxRecDepth 20000 in
theorem ggX2_weigh_X2_worthFrom : GoodIn wsX2_weigh wsX2_worthFrom := goodIn_r _ [56, 1, 4, 3, 2, 28, 29, 30, 57, 58, 59, 18, 53, 54, 55, 60, 5, 61, 62, 63, 64, 65, 66, 67, 68, 6, 69, 70, 71, 25, 72, 73, 74, 75, 76, 77, 78, 79, 80, 81, 82, 83, 84, 85, 86, 87, 88, 89, 90, 91, 92, 93, 94, 95, 96, 97, 98, 99, 100, 101, 102, 103, 104, 105] rfl (by decide +kernel)
set_option maxRecDepth 20000 in
theorem gX2_weigh_X2_worthFrom : GoodIn wsX2_weigh (wsV RX2 47 RX2 yX2_worthFrom wsX2_worthFrom) := goodIn_app (goodIn_of _ (by decide +kernel)) ggX2_weigh_X2_worthFrom
theorem dX2_weigh_0 : decode cX2_weigh 0 = .ok (.aload_n 0, 1) := by decide +kernel
theorem dX2_weigh_1 : decode cX2_weigh 1 = .ok (.aload_n 1, 1) := by decide +kernel
theorem dX2_weigh_2 : decode cX2_weigh 2 = .ok (.putfield 21, 3) := by decide +kernel
theorem dX2_weigh_5 : decode cX2_weigh 5 = .ok (.aload_n 0, 1) := by decide +kernel
theorem dX2_weigh_6 : decode cX2_weigh 6 = .ok (.iload_n 3, 1) := by decide +kernel
theorem dX2_weigh_7 : decode cX2_weigh 7 = .ok (.putfield 25, 3) := by decide +kernel
theorem dX2_weigh_10 : decode cX2_weigh 10 = .ok (.aload_n 0, 1) := by decide +kernel
theorem dX2_weigh_11 : decode cX2_weigh 11 = .ok (.getfield 11, 3) := by decide +kernel
theorem dX2_weigh_14 : decode cX2_weigh 14 = .ok (.iconst 0, 1) := by decide +kernel
theorem dX2_weigh_15 : decode cX2_weigh 15 = .ok (.aload_n 0, 1) := by decide +kernel
theorem dX2_weigh_16 : decode cX2_weigh 16 = .ok (.getfield 21, 3) := by decide +kernel
theorem dX2_weigh_19 : decode cX2_weigh 19 = .ok (.getfield 32, 3) := by decide +kernel
theorem dX2_weigh_22 : decode cX2_weigh 22 = .ok (.sipush 512, 3) := by decide +kernel
theorem dX2_weigh_25 : decode cX2_weigh 25 = .ok (.imul, 1) := by decide +kernel
theorem dX2_weigh_26 : decode cX2_weigh 26 = .ok (.iconst (-1), 1) := by decide +kernel
theorem dX2_weigh_27 : decode cX2_weigh 27 = .ok (.invokestatic 37, 3) := by decide +kernel
theorem dX2_weigh_30 : decode cX2_weigh 30 = .ok (.iconst 0, 1) := by decide +kernel
theorem dX2_weigh_31 : decode cX2_weigh 31 = .ok (.istore 4, 2) := by decide +kernel
theorem dX2_weigh_33 : decode cX2_weigh 33 = .ok (.iload 4, 2) := by decide +kernel
theorem dX2_weigh_35 : decode cX2_weigh 35 = .ok (.aload_n 0, 1) := by decide +kernel
theorem dX2_weigh_36 : decode cX2_weigh 36 = .ok (.getfield 21, 3) := by decide +kernel
theorem dX2_weigh_39 : decode cX2_weigh 39 = .ok (.getfield 32, 3) := by decide +kernel
theorem dX2_weigh_42 : decode cX2_weigh 42 = .ok (.if_icmp .ge 39, 3) := by decide +kernel
theorem dX2_weigh_45 : decode cX2_weigh 45 = .ok (.aload_n 0, 1) := by decide +kernel
theorem dX2_weigh_46 : decode cX2_weigh 46 = .ok (.getfield 15, 3) := by decide +kernel
theorem dX2_weigh_49 : decode cX2_weigh 49 = .ok (.iload 4, 2) := by decide +kernel
theorem dX2_weigh_51 : decode cX2_weigh 51 = .ok (.aload_n 0, 1) := by decide +kernel
theorem dX2_weigh_52 : decode cX2_weigh 52 = .ok (.aload_n 2, 1) := by decide +kernel
theorem dX2_weigh_53 : decode cX2_weigh 53 = .ok (.iload 4, 2) := by decide +kernel
theorem dX2_weigh_55 : decode cX2_weigh 55 = .ok (.iconst 0, 1) := by decide +kernel
theorem dX2_weigh_56 : decode cX2_weigh 56 = .ok (.invokevirtual 43, 3) := by decide +kernel
theorem dX2_weigh_59 : decode cX2_weigh 59 = .ok (.iastore, 1) := by decide +kernel
theorem dX2_weigh_60 : decode cX2_weigh 60 = .ok (.aload_n 0, 1) := by decide +kernel
theorem dX2_weigh_61 : decode cX2_weigh 61 = .ok (.getfield 18, 3) := by decide +kernel
theorem dX2_weigh_64 : decode cX2_weigh 64 = .ok (.iload 4, 2) := by decide +kernel
theorem dX2_weigh_66 : decode cX2_weigh 66 = .ok (.aload_n 0, 1) := by decide +kernel
theorem dX2_weigh_67 : decode cX2_weigh 67 = .ok (.aload_n 2, 1) := by decide +kernel
theorem dX2_weigh_68 : decode cX2_weigh 68 = .ok (.iload 4, 2) := by decide +kernel
theorem dX2_weigh_70 : decode cX2_weigh 70 = .ok (.iconst 1, 1) := by decide +kernel
theorem dX2_weigh_71 : decode cX2_weigh 71 = .ok (.invokevirtual 43, 3) := by decide +kernel
theorem dX2_weigh_74 : decode cX2_weigh 74 = .ok (.iastore, 1) := by decide +kernel
theorem dX2_weigh_75 : decode cX2_weigh 75 = .ok (.iinc 4 1, 3) := by decide +kernel
theorem dX2_weigh_78 : decode cX2_weigh 78 = .ok (.goto (-45), 3) := by decide +kernel
theorem dX2_weigh_81 : decode cX2_weigh 81 = .ok (.aload_n 0, 1) := by decide +kernel
theorem dX2_weigh_82 : decode cX2_weigh 82 = .ok (.aload_n 0, 1) := by decide +kernel
theorem dX2_weigh_83 : decode cX2_weigh 83 = .ok (.iconst 0, 1) := by decide +kernel
theorem dX2_weigh_84 : decode cX2_weigh 84 = .ok (.iconst 0, 1) := by decide +kernel
theorem dX2_weigh_85 : decode cX2_weigh 85 = .ok (.invokevirtual 47, 3) := by decide +kernel
theorem dX2_weigh_88 : decode cX2_weigh 88 = .ok (.putfield 29, 3) := by decide +kernel
theorem dX2_weigh_91 : decode cX2_weigh 91 = .ok (.return_, 1) := by decide +kernel
theorem dX2_goers_0 : decode cX2_goers 0 = .ok (.aload_n 0, 1) := by decide +kernel
theorem dX2_goers_1 : decode cX2_goers 1 = .ok (.getfield 29, 3) := by decide +kernel
theorem dX2_goers_4 : decode cX2_goers 4 = .ok (.bipush 63, 2) := by decide +kernel
theorem dX2_goers_6 : decode cX2_goers 6 = .ok (.iand, 1) := by decide +kernel
theorem dX2_goers_7 : decode cX2_goers 7 = .ok (.ireturn, 1) := by decide +kernel
theorem dX2_leastOil_0 : decode cX2_leastOil 0 = .ok (.aload_n 0, 1) := by decide +kernel
theorem dX2_leastOil_1 : decode cX2_leastOil 1 = .ok (.getfield 29, 3) := by decide +kernel
theorem dX2_leastOil_4 : decode cX2_leastOil 4 = .ok (.bipush 64, 2) := by decide +kernel
theorem dX2_leastOil_6 : decode cX2_leastOil 6 = .ok (.idiv, 1) := by decide +kernel
theorem dX2_leastOil_7 : decode cX2_leastOil 7 = .ok (.bipush 127, 2) := by decide +kernel
theorem dX2_leastOil_9 : decode cX2_leastOil 9 = .ok (.iand, 1) := by decide +kernel
theorem dX2_leastOil_10 : decode cX2_leastOil 10 = .ok (.ireturn, 1) := by decide +kernel
set_option maxRecDepth 20000 in
theorem ggX2_kneeChosen_X6_bit : GoodIn wsX2_kneeChosen wsX6_bit := goodIn_r _ [6] rfl (by decide +kernel)
set_option maxRecDepth 20000 in
theorem gX2_kneeChosen_X6_bit_n51 : GoodIn wsX2_kneeChosen (wsX6_bit) := ggX2_kneeChosen_X6_bit
set_option maxRecDepth 20000 in
theorem ggX2_kneeChosen_X2_firstLeft : GoodIn wsX2_kneeChosen wsX2_firstLeft := goodIn_r _ [11, 12, 13, 14, 10, 15, 16, 17, 18, 19, 1, 2, 20, 3, 4, 5, 6, 21, 22, 23, 24, 25, 26, 27, 28, 29, 30, 31, 32, 33, 34, 35, 36, 37, 38, 39, 40, 41, 42, 43, 44, 45, 46, 47, 48, 49, 50, 51, 52, 53, 54, 55, 56, 57, 58, 59, 60, 61, 62, 63, 64, 65, 66, 67, 68, 69, 70, 71, 72] rfl (by decide +kernel)
set_option maxRecDepth 20000 in
theorem gX2_kneeChosen_X2_firstLeft : GoodIn wsX2_kneeChosen (wsV RX2 54 RX2 yX2_firstLeft wsX2_firstLeft) := goodIn_app (goodIn_of _ (by decide +kernel)) ggX2_kneeChosen_X2_firstLeft
set_option maxRecDepth 20000 in
theorem ggX2_kneeChosen_X2_firstRight : GoodIn wsX2_kneeChosen wsX2_firstRight := goodIn_r _ [15, 16, 17, 18, 10, 19, 1, 2, 20, 3, 4, 5, 6, 21, 22, 23, 24, 25, 26, 27, 28, 29, 30, 31, 32, 33, 34, 35, 36, 37, 38, 39, 40, 41, 42, 43, 44, 45, 46, 47, 48, 49, 50, 51, 52, 53, 54, 55, 56, 57, 58, 59, 60, 61, 62, 63, 64, 65, 66, 67, 68, 69, 70, 71, 72] rfl (by decide +kernel)
set_option maxRecDepth 20000 in
theorem gX2_kneeChosen_X2_firstRight : GoodIn wsX2_kneeChosen (wsV RX2 57 RX2 yX2_firstRight wsX2_firstRight) := goodIn_app (goodIn_of _ (by decide +kernel)) ggX2_kneeChosen_X2_firstRight
set_option maxRecDepth 20000 in
theorem ggX2_kneeChosen_X2_kneeBits : GoodIn wsX2_kneeChosen wsX2_kneeBits := goodIn_r _ [54] rfl (by decide +kernel)
set_option maxRecDepth 20000 in
theorem gX2_kneeChosen_X2_kneeBits : GoodIn wsX2_kneeChosen (va_wsS RX2 61 yX2_kneeBits wsX2_kneeBits) := goodIn_app (goodIn_of _ (by decide +kernel)) ggX2_kneeChosen_X2_kneeBits
theorem dX2_kneeChosen_0 : decode cX2_kneeChosen 0 = .ok (.iconst 0, 1) := by decide +kernel
theorem dX2_kneeChosen_1 : decode cX2_kneeChosen 1 = .ok (.istore_n 3, 1) := by decide +kernel
theorem dX2_kneeChosen_2 : decode cX2_kneeChosen 2 = .ok (.iconst 0, 1) := by decide +kernel
theorem dX2_kneeChosen_3 : decode cX2_kneeChosen 3 = .ok (.istore 4, 2) := by decide +kernel
theorem dX2_kneeChosen_5 : decode cX2_kneeChosen 5 = .ok (.iload 4, 2) := by decide +kernel
theorem dX2_kneeChosen_7 : decode cX2_kneeChosen 7 = .ok (.aload_n 0, 1) := by decide +kernel
theorem dX2_kneeChosen_8 : decode cX2_kneeChosen 8 = .ok (.getfield 21, 3) := by decide +kernel
theorem dX2_kneeChosen_11 : decode cX2_kneeChosen 11 = .ok (.getfield 32, 3) := by decide +kernel
theorem dX2_kneeChosen_14 : decode cX2_kneeChosen 14 = .ok (.if_icmp .ge 86, 3) := by decide +kernel
theorem dX2_kneeChosen_17 : decode cX2_kneeChosen 17 = .ok (.aload_n 0, 1) := by decide +kernel
theorem dX2_kneeChosen_18 : decode cX2_kneeChosen 18 = .ok (.getfield 25, 3) := by decide +kernel
theorem dX2_kneeChosen_21 : decode cX2_kneeChosen 21 = .ok (.iload 4, 2) := by decide +kernel
theorem dX2_kneeChosen_23 : decode cX2_kneeChosen 23 = .ok (.invokestatic 51, 3) := by decide +kernel
theorem dX2_kneeChosen_26 : decode cX2_kneeChosen 26 = .ok (.iconst 1, 1) := by decide +kernel
theorem dX2_kneeChosen_27 : decode cX2_kneeChosen 27 = .ok (.if_icmp .ne 67, 3) := by decide +kernel
theorem dX2_kneeChosen_30 : decode cX2_kneeChosen 30 = .ok (.aload_n 0, 1) := by decide +kernel
theorem dX2_kneeChosen_31 : decode cX2_kneeChosen 31 = .ok (.iload 4, 2) := by decide +kernel
theorem dX2_kneeChosen_33 : decode cX2_kneeChosen 33 = .ok (.iload_n 3, 1) := by decide +kernel
theorem dX2_kneeChosen_34 : decode cX2_kneeChosen 34 = .ok (.invokevirtual 54, 3) := by decide +kernel
theorem dX2_kneeChosen_37 : decode cX2_kneeChosen 37 = .ok (.istore 5, 2) := by decide +kernel
theorem dX2_kneeChosen_39 : decode cX2_kneeChosen 39 = .ok (.aload_n 0, 1) := by decide +kernel
theorem dX2_kneeChosen_40 : decode cX2_kneeChosen 40 = .ok (.iload 4, 2) := by decide +kernel
theorem dX2_kneeChosen_42 : decode cX2_kneeChosen 42 = .ok (.iload 5, 2) := by decide +kernel
theorem dX2_kneeChosen_44 : decode cX2_kneeChosen 44 = .ok (.iload_n 3, 1) := by decide +kernel
theorem dX2_kneeChosen_45 : decode cX2_kneeChosen 45 = .ok (.invokevirtual 57, 3) := by decide +kernel
theorem dX2_kneeChosen_48 : decode cX2_kneeChosen 48 = .ok (.istore 6, 2) := by decide +kernel
theorem dX2_kneeChosen_50 : decode cX2_kneeChosen 50 = .ok (.iload 4, 2) := by decide +kernel
theorem dX2_kneeChosen_52 : decode cX2_kneeChosen 52 = .ok (.iload_n 1, 1) := by decide +kernel
theorem dX2_kneeChosen_53 : decode cX2_kneeChosen 53 = .ok (.if_icmp .ne 31, 3) := by decide +kernel
theorem dX2_kneeChosen_56 : decode cX2_kneeChosen 56 = .ok (.iload_n 2, 1) := by decide +kernel
theorem dX2_kneeChosen_57 : decode cX2_kneeChosen 57 = .ok (.ifCond .ne 8, 3) := by decide +kernel
theorem dX2_kneeChosen_60 : decode cX2_kneeChosen 60 = .ok (.iload 5, 2) := by decide +kernel
theorem dX2_kneeChosen_62 : decode cX2_kneeChosen 62 = .ok (.goto 5, 3) := by decide +kernel
theorem dX2_kneeChosen_65 : decode cX2_kneeChosen 65 = .ok (.iload 6, 2) := by decide +kernel
theorem dX2_kneeChosen_67 : decode cX2_kneeChosen 67 = .ok (.istore 7, 2) := by decide +kernel
theorem dX2_kneeChosen_69 : decode cX2_kneeChosen 69 = .ok (.iload 7, 2) := by decide +kernel
theorem dX2_kneeChosen_71 : decode cX2_kneeChosen 71 = .ok (.bipush 9, 2) := by decide +kernel
theorem dX2_kneeChosen_73 : decode cX2_kneeChosen 73 = .ok (.if_icmp .ne 8, 3) := by decide +kernel
theorem dX2_kneeChosen_76 : decode cX2_kneeChosen 76 = .ok (.bipush (-9), 2) := by decide +kernel
theorem dX2_kneeChosen_78 : decode cX2_kneeChosen 78 = .ok (.goto 5, 3) := by decide +kernel
theorem dX2_kneeChosen_81 : decode cX2_kneeChosen 81 = .ok (.iload 7, 2) := by decide +kernel
theorem dX2_kneeChosen_83 : decode cX2_kneeChosen 83 = .ok (.ireturn, 1) := by decide +kernel
theorem dX2_kneeChosen_84 : decode cX2_kneeChosen 84 = .ok (.iload_n 3, 1) := by decide +kernel
theorem dX2_kneeChosen_85 : decode cX2_kneeChosen 85 = .ok (.iload 5, 2) := by decide +kernel
theorem dX2_kneeChosen_87 : decode cX2_kneeChosen 87 = .ok (.iload 6, 2) := by decide +kernel
theorem dX2_kneeChosen_89 : decode cX2_kneeChosen 89 = .ok (.invokestatic 61, 3) := by decide +kernel
theorem dX2_kneeChosen_92 : decode cX2_kneeChosen 92 = .ok (.ior, 1) := by decide +kernel
theorem dX2_kneeChosen_93 : decode cX2_kneeChosen 93 = .ok (.istore_n 3, 1) := by decide +kernel
theorem dX2_kneeChosen_94 : decode cX2_kneeChosen 94 = .ok (.iinc 4 1, 3) := by decide +kernel
theorem dX2_kneeChosen_97 : decode cX2_kneeChosen 97 = .ok (.goto (-92), 3) := by decide +kernel
theorem dX2_kneeChosen_100 : decode cX2_kneeChosen 100 = .ok (.bipush (-9), 2) := by decide +kernel
theorem dX2_kneeChosen_102 : decode cX2_kneeChosen 102 = .ok (.ireturn, 1) := by decide +kernel
set_option maxRecDepth 20000 in
theorem ggX2_firstLeft_X2_firstRight : GoodIn wsX2_firstLeft wsX2_firstRight := goodIn_r _ [5, 6, 7, 8, 4, 9, 10, 11, 12, 13, 14, 15, 16, 17, 18, 19, 20, 21, 22, 23, 24, 25, 26, 27, 28, 29, 30, 31, 32, 33, 34, 35, 36, 37, 38, 39, 40, 41, 42, 43, 44, 45, 46, 47, 48, 49, 50, 51, 52, 53, 54, 55, 56, 57, 58, 59, 60, 61, 62, 63, 64, 65, 66, 67, 68] rfl (by decide +kernel)
set_option maxRecDepth 20000 in
theorem gX2_firstLeft_X2_firstRight : GoodIn wsX2_firstLeft (wsV RX2 57 RX2 yX2_firstRight wsX2_firstRight) := goodIn_app (goodIn_of _ (by decide +kernel)) ggX2_firstLeft_X2_firstRight
theorem dX2_firstLeft_0 : decode cX2_firstLeft 0 = .ok (.iconst 0, 1) := by decide +kernel
theorem dX2_firstLeft_1 : decode cX2_firstLeft 1 = .ok (.istore_n 3, 1) := by decide +kernel
theorem dX2_firstLeft_2 : decode cX2_firstLeft 2 = .ok (.iload_n 3, 1) := by decide +kernel
theorem dX2_firstLeft_3 : decode cX2_firstLeft 3 = .ok (.bipush 9, 2) := by decide +kernel
theorem dX2_firstLeft_5 : decode cX2_firstLeft 5 = .ok (.if_icmp .ge 22, 3) := by decide +kernel
theorem dX2_firstLeft_8 : decode cX2_firstLeft 8 = .ok (.aload_n 0, 1) := by decide +kernel
theorem dX2_firstLeft_9 : decode cX2_firstLeft 9 = .ok (.iload_n 1, 1) := by decide +kernel
theorem dX2_firstLeft_10 : decode cX2_firstLeft 10 = .ok (.iload_n 3, 1) := by decide +kernel
theorem dX2_firstLeft_11 : decode cX2_firstLeft 11 = .ok (.iload_n 2, 1) := by decide +kernel
theorem dX2_firstLeft_12 : decode cX2_firstLeft 12 = .ok (.invokevirtual 57, 3) := by decide +kernel
theorem dX2_firstLeft_15 : decode cX2_firstLeft 15 = .ok (.iconst (-1), 1) := by decide +kernel
theorem dX2_firstLeft_16 : decode cX2_firstLeft 16 = .ok (.if_icmp .eq 5, 3) := by decide +kernel
theorem dX2_firstLeft_19 : decode cX2_firstLeft 19 = .ok (.iload_n 3, 1) := by decide +kernel
theorem dX2_firstLeft_20 : decode cX2_firstLeft 20 = .ok (.ireturn, 1) := by decide +kernel
theorem dX2_firstLeft_21 : decode cX2_firstLeft 21 = .ok (.iinc 3 1, 3) := by decide +kernel
theorem dX2_firstLeft_24 : decode cX2_firstLeft 24 = .ok (.goto (-22), 3) := by decide +kernel
theorem dX2_firstLeft_27 : decode cX2_firstLeft 27 = .ok (.bipush 9, 2) := by decide +kernel
theorem dX2_firstLeft_29 : decode cX2_firstLeft 29 = .ok (.ireturn, 1) := by decide +kernel
set_option maxRecDepth 20000 in
theorem ggX2_firstRight_X2_worthFrom : GoodIn wsX2_firstRight wsX2_worthFrom := goodIn_r _ [5, 6, 7, 8, 9, 10, 11, 12, 13, 14, 15, 4, 1, 2, 3, 16, 17, 18, 19, 20, 21, 22, 23, 24, 25, 26, 27, 28, 29, 30, 31, 32, 33, 34, 35, 36, 37, 38, 39, 40, 41, 42, 43, 44, 45, 46, 47, 48, 49, 50, 51, 52, 53, 54, 55, 56, 57, 58, 59, 60, 61, 62, 63, 64] rfl (by decide +kernel)
set_option maxRecDepth 20000 in
theorem gX2_firstRight_X2_worthFrom : GoodIn wsX2_firstRight (wsV RX2 47 RX2 yX2_worthFrom wsX2_worthFrom) := goodIn_app (goodIn_of _ (by decide +kernel)) ggX2_firstRight_X2_worthFrom
set_option maxRecDepth 20000 in
theorem ggX2_firstRight_X2_mayHave : GoodIn wsX2_firstRight wsX2_mayHave := goodIn_r _ [25, 17, 26, 6, 10, 11, 12, 27, 28, 29, 30, 31, 32, 33, 47, 48, 49, 50, 51, 52, 53, 54, 55, 56, 57, 58, 59, 60, 61, 62, 63, 64] rfl (by decide +kernel)
set_option maxRecDepth 20000 in
theorem gX2_firstRight_X2_mayHave : GoodIn wsX2_firstRight (wsV RX2 64 RX2 yX2_mayHave wsX2_mayHave) := goodIn_app (goodIn_of _ (by decide +kernel)) ggX2_firstRight_X2_mayHave
set_option maxRecDepth 20000 in
theorem ggX2_firstRight_X2_worthWith : GoodIn wsX2_firstRight wsX2_worthWith := goodIn_r _ [37, 38, 39, 40, 4, 41, 6, 42, 43, 44, 45, 46, 1, 2, 3, 16, 17, 18, 19, 20, 21, 10, 11, 12, 22, 23, 24, 25, 26, 27, 28, 29, 30, 31, 32, 33, 34, 35, 36, 5, 7, 8, 9, 13, 14, 15, 47, 48, 49, 50, 51, 52, 53, 54, 55, 56, 57, 58, 59, 60, 61, 62, 63, 64] rfl (by decide +kernel)
set_option maxRecDepth 20000 in
theorem gX2_firstRight_X2_worthWith : GoodIn wsX2_firstRight (wsV RX2 68 RX2 yX2_worthWith wsX2_worthWith) := goodIn_app (goodIn_of _ (by decide +kernel)) ggX2_firstRight_X2_worthWith
theorem dX2_firstRight_0 : decode cX2_firstRight 0 = .ok (.aload_n 0, 1) := by decide +kernel
theorem dX2_firstRight_1 : decode cX2_firstRight 1 = .ok (.iload_n 1, 1) := by decide +kernel
theorem dX2_firstRight_2 : decode cX2_firstRight 2 = .ok (.iload_n 3, 1) := by decide +kernel
theorem dX2_firstRight_3 : decode cX2_firstRight 3 = .ok (.invokevirtual 47, 3) := by decide +kernel
theorem dX2_firstRight_6 : decode cX2_firstRight 6 = .ok (.istore 4, 2) := by decide +kernel
theorem dX2_firstRight_8 : decode cX2_firstRight 8 = .ok (.iconst 0, 1) := by decide +kernel
theorem dX2_firstRight_9 : decode cX2_firstRight 9 = .ok (.istore 5, 2) := by decide +kernel
theorem dX2_firstRight_11 : decode cX2_firstRight 11 = .ok (.iload 5, 2) := by decide +kernel
theorem dX2_firstRight_13 : decode cX2_firstRight 13 = .ok (.bipush 9, 2) := by decide +kernel
theorem dX2_firstRight_15 : decode cX2_firstRight 15 = .ok (.if_icmp .gt 38, 3) := by decide +kernel
theorem dX2_firstRight_18 : decode cX2_firstRight 18 = .ok (.aload_n 0, 1) := by decide +kernel
theorem dX2_firstRight_19 : decode cX2_firstRight 19 = .ok (.iload_n 1, 1) := by decide +kernel
theorem dX2_firstRight_20 : decode cX2_firstRight 20 = .ok (.iload_n 2, 1) := by decide +kernel
theorem dX2_firstRight_21 : decode cX2_firstRight 21 = .ok (.iload 5, 2) := by decide +kernel
theorem dX2_firstRight_23 : decode cX2_firstRight 23 = .ok (.iload_n 3, 1) := by decide +kernel
theorem dX2_firstRight_24 : decode cX2_firstRight 24 = .ok (.invokevirtual 64, 3) := by decide +kernel
theorem dX2_firstRight_27 : decode cX2_firstRight 27 = .ok (.ifCond .eq 20, 3) := by decide +kernel
theorem dX2_firstRight_30 : decode cX2_firstRight 30 = .ok (.aload_n 0, 1) := by decide +kernel
theorem dX2_firstRight_31 : decode cX2_firstRight 31 = .ok (.iload_n 1, 1) := by decide +kernel
theorem dX2_firstRight_32 : decode cX2_firstRight 32 = .ok (.iload_n 2, 1) := by decide +kernel
theorem dX2_firstRight_33 : decode cX2_firstRight 33 = .ok (.iload 5, 2) := by decide +kernel
theorem dX2_firstRight_35 : decode cX2_firstRight 35 = .ok (.iload_n 3, 1) := by decide +kernel
theorem dX2_firstRight_36 : decode cX2_firstRight 36 = .ok (.invokevirtual 68, 3) := by decide +kernel
theorem dX2_firstRight_39 : decode cX2_firstRight 39 = .ok (.iload 4, 2) := by decide +kernel
theorem dX2_firstRight_41 : decode cX2_firstRight 41 = .ok (.if_icmp .ne 6, 3) := by decide +kernel
theorem dX2_firstRight_44 : decode cX2_firstRight 44 = .ok (.iload 5, 2) := by decide +kernel
theorem dX2_firstRight_46 : decode cX2_firstRight 46 = .ok (.ireturn, 1) := by decide +kernel
theorem dX2_firstRight_47 : decode cX2_firstRight 47 = .ok (.iinc 5 1, 3) := by decide +kernel
theorem dX2_firstRight_50 : decode cX2_firstRight 50 = .ok (.goto (-39), 3) := by decide +kernel
theorem dX2_firstRight_53 : decode cX2_firstRight 53 = .ok (.iconst (-1), 1) := by decide +kernel
theorem dX2_firstRight_54 : decode cX2_firstRight 54 = .ok (.ireturn, 1) := by decide +kernel
set_option maxRecDepth 20000 in
theorem ggX2_offered_X4_needsSide : GoodIn wsX2_offered wsX4_needsSide := goodIn_r _ [8, 9, 10, 11, 12, 41, 42, 43, 44, 45, 46, 47, 48, 49, 50, 51, 52] rfl (by decide +kernel)
set_option maxRecDepth 20000 in
theorem gX2_offered_X4_needsSide : GoodIn wsX2_offered (wsV RX2 72 RX4 yX4_needsSide wsX4_needsSide) := goodIn_app (goodIn_of _ (by decide +kernel)) ggX2_offered_X4_needsSide
set_option maxRecDepth 20000 in
theorem ggX2_offered_X3_offers : GoodIn wsX2_offered wsX3_offers := goodIn_r _ [17, 18, 19, 20, 21, 22, 16, 23, 24, 25, 10, 11, 12, 26, 5, 6, 7, 8, 9, 27, 28, 29, 30, 31, 32, 33, 34, 41, 42, 43, 44, 45, 46, 47, 48, 49, 50, 51, 52, 53, 54, 55, 56, 57, 58, 59] rfl (by decide +kernel)
set_option maxRecDepth 20000 in
theorem gX2_offered_X3_offers : GoodIn wsX2_offered (wsV RX2 82 RX3 yX3_offers wsX3_offers) := goodIn_app (goodIn_of _ (by decide +kernel)) ggX2_offered_X3_offers
theorem dX2_offered_0 : decode cX2_offered 0 = .ok (.aload_n 0, 1) := by decide +kernel
theorem dX2_offered_1 : decode cX2_offered 1 = .ok (.getfield 21, 3) := by decide +kernel
theorem dX2_offered_4 : decode cX2_offered 4 = .ok (.iload_n 2, 1) := by decide +kernel
theorem dX2_offered_5 : decode cX2_offered 5 = .ok (.iload_n 3, 1) := by decide +kernel
theorem dX2_offered_6 : decode cX2_offered 6 = .ok (.invokevirtual 72, 3) := by decide +kernel
theorem dX2_offered_9 : decode cX2_offered 9 = .ok (.ifCond .ne 7, 3) := by decide +kernel
theorem dX2_offered_12 : decode cX2_offered 12 = .ok (.sipush 512, 3) := by decide +kernel
theorem dX2_offered_15 : decode cX2_offered 15 = .ok (.ireturn, 1) := by decide +kernel
theorem dX2_offered_16 : decode cX2_offered 16 = .ok (.iconst 0, 1) := by decide +kernel
theorem dX2_offered_17 : decode cX2_offered 17 = .ok (.istore 4, 2) := by decide +kernel
theorem dX2_offered_19 : decode cX2_offered 19 = .ok (.iconst 0, 1) := by decide +kernel
theorem dX2_offered_20 : decode cX2_offered 20 = .ok (.istore 5, 2) := by decide +kernel
theorem dX2_offered_22 : decode cX2_offered 22 = .ok (.iload 5, 2) := by decide +kernel
theorem dX2_offered_24 : decode cX2_offered 24 = .ok (.aload_n 0, 1) := by decide +kernel
theorem dX2_offered_25 : decode cX2_offered 25 = .ok (.getfield 21, 3) := by decide +kernel
theorem dX2_offered_28 : decode cX2_offered 28 = .ok (.getfield 76, 3) := by decide +kernel
theorem dX2_offered_31 : decode cX2_offered 31 = .ok (.if_icmp .ge 46, 3) := by decide +kernel
theorem dX2_offered_34 : decode cX2_offered 34 = .ok (.aload_n 0, 1) := by decide +kernel
theorem dX2_offered_35 : decode cX2_offered 35 = .ok (.getfield 21, 3) := by decide +kernel
theorem dX2_offered_38 : decode cX2_offered 38 = .ok (.getfield 79, 3) := by decide +kernel
theorem dX2_offered_41 : decode cX2_offered 41 = .ok (.iload 5, 2) := by decide +kernel
theorem dX2_offered_43 : decode cX2_offered 43 = .ok (.iaload, 1) := by decide +kernel
theorem dX2_offered_44 : decode cX2_offered 44 = .ok (.iload_n 3, 1) := by decide +kernel
theorem dX2_offered_45 : decode cX2_offered 45 = .ok (.if_icmp .ne 26, 3) := by decide +kernel
theorem dX2_offered_48 : decode cX2_offered 48 = .ok (.aload_n 1, 1) := by decide +kernel
theorem dX2_offered_49 : decode cX2_offered 49 = .ok (.aload_n 0, 1) := by decide +kernel
theorem dX2_offered_50 : decode cX2_offered 50 = .ok (.getfield 21, 3) := by decide +kernel
theorem dX2_offered_53 : decode cX2_offered 53 = .ok (.iload 5, 2) := by decide +kernel
theorem dX2_offered_55 : decode cX2_offered 55 = .ok (.iload_n 2, 1) := by decide +kernel
theorem dX2_offered_56 : decode cX2_offered 56 = .ok (.invokevirtual 82, 3) := by decide +kernel
theorem dX2_offered_59 : decode cX2_offered 59 = .ok (.ifCond .eq 12, 3) := by decide +kernel
theorem dX2_offered_62 : decode cX2_offered 62 = .ok (.iload 4, 2) := by decide +kernel
theorem dX2_offered_64 : decode cX2_offered 64 = .ok (.iconst 1, 1) := by decide +kernel
theorem dX2_offered_65 : decode cX2_offered 65 = .ok (.iload 5, 2) := by decide +kernel
theorem dX2_offered_67 : decode cX2_offered 67 = .ok (.ishl, 1) := by decide +kernel
theorem dX2_offered_68 : decode cX2_offered 68 = .ok (.ior, 1) := by decide +kernel
theorem dX2_offered_69 : decode cX2_offered 69 = .ok (.istore 4, 2) := by decide +kernel
theorem dX2_offered_71 : decode cX2_offered 71 = .ok (.iinc 5 1, 3) := by decide +kernel
theorem dX2_offered_74 : decode cX2_offered 74 = .ok (.goto (-52), 3) := by decide +kernel
theorem dX2_offered_77 : decode cX2_offered 77 = .ok (.iload 4, 2) := by decide +kernel
theorem dX2_offered_79 : decode cX2_offered 79 = .ok (.ireturn, 1) := by decide +kernel
set_option maxRecDepth 20000 in
theorem ggX2_worthFrom_X6_bit : GoodIn wsX2_worthFrom wsX6_bit := goodIn_r _ [7] rfl (by decide +kernel)
set_option maxRecDepth 20000 in
theorem gX2_worthFrom_X6_bit_n51 : GoodIn wsX2_worthFrom (wsX6_bit) := ggX2_worthFrom_X6_bit
set_option maxRecDepth 20000 in
theorem ggX2_worthFrom_X2_leastWorth : GoodIn wsX2_worthFrom wsX2_leastWorth := goodIn_r _ [15, 16, 17, 18, 19, 20, 12, 13, 14, 11, 5, 6, 7, 21, 22, 23, 24, 25, 1, 26, 27, 28, 29, 30, 31, 32, 33, 34, 35, 0, 2, 3, 4, 8, 9, 10, 36, 37, 38, 39, 40, 41, 42, 43, 44, 45, 46, 47, 48, 49, 50, 51, 52, 53, 54, 55, 56, 57, 58, 59, 60, 61, 62, 63] rfl (by decide +kernel)
set_option maxRecDepth 20000 in
theorem gX2_worthFrom_X2_leastWorth : GoodIn wsX2_worthFrom (wsV RX2 88 RX2 yX2_leastWorth wsX2_leastWorth) := goodIn_app (goodIn_of _ (by decide +kernel)) ggX2_worthFrom_X2_leastWorth
set_option maxRecDepth 20000 in
theorem ggX2_worthFrom_X2_worthFrom : GoodIn wsX2_worthFrom wsX2_worthFrom := goodIn_r _ [0, 1, 2, 3, 4, 5, 6, 7, 8, 9, 10, 11, 12, 13, 14, 15, 16, 17, 18, 19, 20, 21, 22, 23, 24, 25, 26, 27, 28, 29, 30, 31, 32, 33, 34, 35, 36, 37, 38, 39, 40, 41, 42, 43, 44, 45, 46, 47, 48, 49, 50, 51, 52, 53, 54, 55, 56, 57, 58, 59, 60, 61, 62, 63] rfl (by decide +kernel)
set_option maxRecDepth 20000 in
theorem gX2_worthFrom_X2_worthFrom : GoodIn wsX2_worthFrom (wsV RX2 47 RX2 yX2_worthFrom wsX2_worthFrom) := goodIn_app (goodIn_of _ (by decide +kernel)) ggX2_worthFrom_X2_worthFrom
theorem dX2_worthFrom_0 : decode cX2_worthFrom 0 = .ok (.iload_n 1, 1) := by decide +kernel
theorem dX2_worthFrom_1 : decode cX2_worthFrom 1 = .ok (.aload_n 0, 1) := by decide +kernel
theorem dX2_worthFrom_2 : decode cX2_worthFrom 2 = .ok (.getfield 21, 3) := by decide +kernel
theorem dX2_worthFrom_5 : decode cX2_worthFrom 5 = .ok (.getfield 32, 3) := by decide +kernel
theorem dX2_worthFrom_8 : decode cX2_worthFrom 8 = .ok (.if_icmp .lt 5, 3) := by decide +kernel
theorem dX2_worthFrom_11 : decode cX2_worthFrom 11 = .ok (.iconst 0, 1) := by decide +kernel
theorem dX2_worthFrom_12 : decode cX2_worthFrom 12 = .ok (.ireturn, 1) := by decide +kernel
theorem dX2_worthFrom_13 : decode cX2_worthFrom 13 = .ok (.iload_n 1, 1) := by decide +kernel
theorem dX2_worthFrom_14 : decode cX2_worthFrom 14 = .ok (.sipush 512, 3) := by decide +kernel
theorem dX2_worthFrom_17 : decode cX2_worthFrom 17 = .ok (.imul, 1) := by decide +kernel
theorem dX2_worthFrom_18 : decode cX2_worthFrom 18 = .ok (.iload_n 2, 1) := by decide +kernel
theorem dX2_worthFrom_19 : decode cX2_worthFrom 19 = .ok (.iadd, 1) := by decide +kernel
theorem dX2_worthFrom_20 : decode cX2_worthFrom 20 = .ok (.istore_n 3, 1) := by decide +kernel
theorem dX2_worthFrom_21 : decode cX2_worthFrom 21 = .ok (.aload_n 0, 1) := by decide +kernel
theorem dX2_worthFrom_22 : decode cX2_worthFrom 22 = .ok (.getfield 11, 3) := by decide +kernel
theorem dX2_worthFrom_25 : decode cX2_worthFrom 25 = .ok (.iload_n 3, 1) := by decide +kernel
theorem dX2_worthFrom_26 : decode cX2_worthFrom 26 = .ok (.iaload, 1) := by decide +kernel
theorem dX2_worthFrom_27 : decode cX2_worthFrom 27 = .ok (.iconst (-1), 1) := by decide +kernel
theorem dX2_worthFrom_28 : decode cX2_worthFrom 28 = .ok (.if_icmp .ne 38, 3) := by decide +kernel
theorem dX2_worthFrom_31 : decode cX2_worthFrom 31 = .ok (.aload_n 0, 1) := by decide +kernel
theorem dX2_worthFrom_32 : decode cX2_worthFrom 32 = .ok (.getfield 11, 3) := by decide +kernel
theorem dX2_worthFrom_35 : decode cX2_worthFrom 35 = .ok (.iload_n 3, 1) := by decide +kernel
theorem dX2_worthFrom_36 : decode cX2_worthFrom 36 = .ok (.aload_n 0, 1) := by decide +kernel
theorem dX2_worthFrom_37 : decode cX2_worthFrom 37 = .ok (.getfield 25, 3) := by decide +kernel
theorem dX2_worthFrom_40 : decode cX2_worthFrom 40 = .ok (.iload_n 1, 1) := by decide +kernel
theorem dX2_worthFrom_41 : decode cX2_worthFrom 41 = .ok (.invokestatic 51, 3) := by decide +kernel
theorem dX2_worthFrom_44 : decode cX2_worthFrom 44 = .ok (.iconst 1, 1) := by decide +kernel
theorem dX2_worthFrom_45 : decode cX2_worthFrom 45 = .ok (.if_icmp .ne 12, 3) := by decide +kernel
theorem dX2_worthFrom_48 : decode cX2_worthFrom 48 = .ok (.aload_n 0, 1) := by decide +kernel
theorem dX2_worthFrom_49 : decode cX2_worthFrom 49 = .ok (.iload_n 1, 1) := by decide +kernel
theorem dX2_worthFrom_50 : decode cX2_worthFrom 50 = .ok (.iload_n 2, 1) := by decide +kernel
theorem dX2_worthFrom_51 : decode cX2_worthFrom 51 = .ok (.invokevirtual 88, 3) := by decide +kernel
theorem dX2_worthFrom_54 : decode cX2_worthFrom 54 = .ok (.goto 11, 3) := by decide +kernel
theorem dX2_worthFrom_57 : decode cX2_worthFrom 57 = .ok (.aload_n 0, 1) := by decide +kernel
theorem dX2_worthFrom_58 : decode cX2_worthFrom 58 = .ok (.iload_n 1, 1) := by decide +kernel
theorem dX2_worthFrom_59 : decode cX2_worthFrom 59 = .ok (.iconst 1, 1) := by decide +kernel
theorem dX2_worthFrom_60 : decode cX2_worthFrom 60 = .ok (.iadd, 1) := by decide +kernel
theorem dX2_worthFrom_61 : decode cX2_worthFrom 61 = .ok (.iload_n 2, 1) := by decide +kernel
theorem dX2_worthFrom_62 : decode cX2_worthFrom 62 = .ok (.invokevirtual 47, 3) := by decide +kernel
theorem dX2_worthFrom_65 : decode cX2_worthFrom 65 = .ok (.iastore, 1) := by decide +kernel
theorem dX2_worthFrom_66 : decode cX2_worthFrom 66 = .ok (.aload_n 0, 1) := by decide +kernel
theorem dX2_worthFrom_67 : decode cX2_worthFrom 67 = .ok (.getfield 11, 3) := by decide +kernel
theorem dX2_worthFrom_70 : decode cX2_worthFrom 70 = .ok (.iload_n 3, 1) := by decide +kernel
theorem dX2_worthFrom_71 : decode cX2_worthFrom 71 = .ok (.iaload, 1) := by decide +kernel
theorem dX2_worthFrom_72 : decode cX2_worthFrom 72 = .ok (.ireturn, 1) := by decide +kernel
set_option maxRecDepth 20000 in
theorem ggX2_leastWorth_X2_worthFrom : GoodIn wsX2_leastWorth wsX2_worthFrom := goodIn_r _ [29, 18, 30, 31, 32, 10, 11, 12, 33, 34, 35, 9, 6, 7, 8, 0, 1, 2, 3, 4, 5, 13, 14, 15, 16, 17, 19, 20, 21, 22, 23, 24, 25, 26, 27, 28, 36, 37, 38, 39, 40, 41, 42, 43, 44, 45, 46, 47, 48, 49, 50, 51, 52, 53, 54, 55, 56, 57, 58, 59, 60, 61, 62, 63] rfl (by decide +kernel)
set_option maxRecDepth 20000 in
theorem gX2_leastWorth_X2_worthFrom : GoodIn wsX2_leastWorth (wsV RX2 47 RX2 yX2_worthFrom wsX2_worthFrom) := goodIn_app (goodIn_of _ (by decide +kernel)) ggX2_leastWorth_X2_worthFrom
set_option maxRecDepth 20000 in
theorem ggX2_leastWorth_X6_bit : GoodIn wsX2_leastWorth wsX6_bit := goodIn_r _ [12] rfl (by decide +kernel)
set_option maxRecDepth 20000 in
theorem gX2_leastWorth_X6_bit_n51 : GoodIn wsX2_leastWorth (wsX6_bit) := ggX2_leastWorth_X6_bit
set_option maxRecDepth 20000 in
theorem ggX2_leastWorth_X2_mayHave : GoodIn wsX2_leastWorth wsX2_mayHave := goodIn_r _ [16, 1, 17, 18, 10, 11, 12, 19, 20, 21, 22, 23, 24, 25, 46, 47, 48, 49, 50, 51, 52, 53, 54, 55, 56, 57, 58, 59, 60, 61, 62, 63] rfl (by decide +kernel)
set_option maxRecDepth 20000 in
theorem gX2_leastWorth_X2_mayHave : GoodIn wsX2_leastWorth (wsV RX2 64 RX2 yX2_mayHave wsX2_mayHave) := goodIn_app (goodIn_of _ (by decide +kernel)) ggX2_leastWorth_X2_mayHave
set_option maxRecDepth 20000 in
theorem ggX2_leastWorth_X2_worthWith : GoodIn wsX2_leastWorth wsX2_worthWith := goodIn_r _ [36, 37, 38, 39, 9, 40, 18, 41, 42, 43, 44, 45, 6, 7, 8, 0, 1, 2, 3, 4, 5, 10, 11, 12, 13, 14, 15, 16, 17, 19, 20, 21, 22, 23, 24, 25, 26, 27, 28, 29, 30, 31, 32, 33, 34, 35, 46, 47, 48, 49, 50, 51, 52, 53, 54, 55, 56, 57, 58, 59, 60, 61, 62, 63] rfl (by decide +kernel)
set_option maxRecDepth 20000 in
theorem gX2_leastWorth_X2_worthWith : GoodIn wsX2_leastWorth (wsV RX2 68 RX2 yX2_worthWith wsX2_worthWith) := goodIn_app (goodIn_of _ (by decide +kernel)) ggX2_leastWorth_X2_worthWith
theorem dX2_leastWorth_0 : decode cX2_leastWorth 0 = .ok (.sipush 8192, 3) := by decide +kernel
theorem dX2_leastWorth_3 : decode cX2_leastWorth 3 = .ok (.aload_n 0, 1) := by decide +kernel
theorem dX2_leastWorth_4 : decode cX2_leastWorth 4 = .ok (.iload_n 1, 1) := by decide +kernel
theorem dX2_leastWorth_5 : decode cX2_leastWorth 5 = .ok (.iconst 1, 1) := by decide +kernel
theorem dX2_leastWorth_6 : decode cX2_leastWorth 6 = .ok (.iadd, 1) := by decide +kernel
theorem dX2_leastWorth_7 : decode cX2_leastWorth 7 = .ok (.iload_n 2, 1) := by decide +kernel
theorem dX2_leastWorth_8 : decode cX2_leastWorth 8 = .ok (.invokevirtual 47, 3) := by decide +kernel
theorem dX2_leastWorth_11 : decode cX2_leastWorth 11 = .ok (.iadd, 1) := by decide +kernel
theorem dX2_leastWorth_12 : decode cX2_leastWorth 12 = .ok (.istore_n 3, 1) := by decide +kernel
theorem dX2_leastWorth_13 : decode cX2_leastWorth 13 = .ok (.iconst 0, 1) := by decide +kernel
theorem dX2_leastWorth_14 : decode cX2_leastWorth 14 = .ok (.istore 4, 2) := by decide +kernel
theorem dX2_leastWorth_16 : decode cX2_leastWorth 16 = .ok (.iload 4, 2) := by decide +kernel
theorem dX2_leastWorth_18 : decode cX2_leastWorth 18 = .ok (.bipush 9, 2) := by decide +kernel
theorem dX2_leastWorth_20 : decode cX2_leastWorth 20 = .ok (.if_icmp .gt 72, 3) := by decide +kernel
theorem dX2_leastWorth_23 : decode cX2_leastWorth 23 = .ok (.aload_n 0, 1) := by decide +kernel
theorem dX2_leastWorth_24 : decode cX2_leastWorth 24 = .ok (.getfield 15, 3) := by decide +kernel
theorem dX2_leastWorth_27 : decode cX2_leastWorth 27 = .ok (.iload_n 1, 1) := by decide +kernel
theorem dX2_leastWorth_28 : decode cX2_leastWorth 28 = .ok (.iaload, 1) := by decide +kernel
theorem dX2_leastWorth_29 : decode cX2_leastWorth 29 = .ok (.iload_n 2, 1) := by decide +kernel
theorem dX2_leastWorth_30 : decode cX2_leastWorth 30 = .ok (.iconst (-1), 1) := by decide +kernel
theorem dX2_leastWorth_31 : decode cX2_leastWorth 31 = .ok (.ixor, 1) := by decide +kernel
theorem dX2_leastWorth_32 : decode cX2_leastWorth 32 = .ok (.iand, 1) := by decide +kernel
theorem dX2_leastWorth_33 : decode cX2_leastWorth 33 = .ok (.iload 4, 2) := by decide +kernel
theorem dX2_leastWorth_35 : decode cX2_leastWorth 35 = .ok (.invokestatic 51, 3) := by decide +kernel
theorem dX2_leastWorth_38 : decode cX2_leastWorth 38 = .ok (.iconst 1, 1) := by decide +kernel
theorem dX2_leastWorth_39 : decode cX2_leastWorth 39 = .ok (.if_icmp .ne 47, 3) := by decide +kernel
theorem dX2_leastWorth_42 : decode cX2_leastWorth 42 = .ok (.iconst 0, 1) := by decide +kernel
theorem dX2_leastWorth_43 : decode cX2_leastWorth 43 = .ok (.istore 5, 2) := by decide +kernel
theorem dX2_leastWorth_45 : decode cX2_leastWorth 45 = .ok (.iload 5, 2) := by decide +kernel
theorem dX2_leastWorth_47 : decode cX2_leastWorth 47 = .ok (.bipush 9, 2) := by decide +kernel
theorem dX2_leastWorth_49 : decode cX2_leastWorth 49 = .ok (.if_icmp .gt 37, 3) := by decide +kernel
theorem dX2_leastWorth_52 : decode cX2_leastWorth 52 = .ok (.aload_n 0, 1) := by decide +kernel
theorem dX2_leastWorth_53 : decode cX2_leastWorth 53 = .ok (.iload_n 1, 1) := by decide +kernel
theorem dX2_leastWorth_54 : decode cX2_leastWorth 54 = .ok (.iload 4, 2) := by decide +kernel
theorem dX2_leastWorth_56 : decode cX2_leastWorth 56 = .ok (.iload 5, 2) := by decide +kernel
theorem dX2_leastWorth_58 : decode cX2_leastWorth 58 = .ok (.iload_n 2, 1) := by decide +kernel
theorem dX2_leastWorth_59 : decode cX2_leastWorth 59 = .ok (.invokevirtual 64, 3) := by decide +kernel
theorem dX2_leastWorth_62 : decode cX2_leastWorth 62 = .ok (.ifCond .eq 18, 3) := by decide +kernel
theorem dX2_leastWorth_65 : decode cX2_leastWorth 65 = .ok (.iload_n 3, 1) := by decide +kernel
theorem dX2_leastWorth_66 : decode cX2_leastWorth 66 = .ok (.aload_n 0, 1) := by decide +kernel
theorem dX2_leastWorth_67 : decode cX2_leastWorth 67 = .ok (.iload_n 1, 1) := by decide +kernel
theorem dX2_leastWorth_68 : decode cX2_leastWorth 68 = .ok (.iload 4, 2) := by decide +kernel
theorem dX2_leastWorth_70 : decode cX2_leastWorth 70 = .ok (.iload 5, 2) := by decide +kernel
theorem dX2_leastWorth_72 : decode cX2_leastWorth 72 = .ok (.iload_n 2, 1) := by decide +kernel
theorem dX2_leastWorth_73 : decode cX2_leastWorth 73 = .ok (.invokevirtual 68, 3) := by decide +kernel
theorem dX2_leastWorth_76 : decode cX2_leastWorth 76 = .ok (.invokestatic 91, 3) := by decide +kernel
theorem dX2_leastWorth_79 : decode cX2_leastWorth 79 = .ok (.istore_n 3, 1) := by decide +kernel
theorem dX2_leastWorth_80 : decode cX2_leastWorth 80 = .ok (.iinc 5 1, 3) := by decide +kernel
theorem dX2_leastWorth_83 : decode cX2_leastWorth 83 = .ok (.goto (-38), 3) := by decide +kernel
theorem dX2_leastWorth_86 : decode cX2_leastWorth 86 = .ok (.iinc 4 1, 3) := by decide +kernel
theorem dX2_leastWorth_89 : decode cX2_leastWorth 89 = .ok (.goto (-73), 3) := by decide +kernel
theorem dX2_leastWorth_92 : decode cX2_leastWorth 92 = .ok (.iload_n 3, 1) := by decide +kernel
theorem dX2_leastWorth_93 : decode cX2_leastWorth 93 = .ok (.ireturn, 1) := by decide +kernel
set_option maxRecDepth 20000 in
theorem ggX2_mayHave_X6_bit : GoodIn wsX2_mayHave wsX6_bit := goodIn_r _ [6] rfl (by decide +kernel)
set_option maxRecDepth 20000 in
theorem gX2_mayHave_X6_bit_n51 : GoodIn wsX2_mayHave (wsX6_bit) := ggX2_mayHave_X6_bit
set_option maxRecDepth 20000 in
theorem ggX2_mayHave_X4_speak : GoodIn wsX2_mayHave wsX4_speak := goodIn_r _ [11, 12, 13, 4, 5, 6, 20, 21, 22, 23, 24, 25, 26, 27, 28, 29, 30, 31] rfl (by decide +kernel)
set_option maxRecDepth 20000 in
theorem gX2_mayHave_X4_speak : GoodIn wsX2_mayHave (wsV RX2 96 RX4 yX4_speak wsX4_speak) := goodIn_app (goodIn_of _ (by decide +kernel)) ggX2_mayHave_X4_speak
theorem dX2_mayHave_0 : decode cX2_mayHave 0 = .ok (.aload_n 0, 1) := by decide +kernel
theorem dX2_mayHave_1 : decode cX2_mayHave 1 = .ok (.getfield 15, 3) := by decide +kernel
theorem dX2_mayHave_4 : decode cX2_mayHave 4 = .ok (.iload_n 1, 1) := by decide +kernel
theorem dX2_mayHave_5 : decode cX2_mayHave 5 = .ok (.iaload, 1) := by decide +kernel
theorem dX2_mayHave_6 : decode cX2_mayHave 6 = .ok (.iload 4, 2) := by decide +kernel
theorem dX2_mayHave_8 : decode cX2_mayHave 8 = .ok (.iconst (-1), 1) := by decide +kernel
theorem dX2_mayHave_9 : decode cX2_mayHave 9 = .ok (.ixor, 1) := by decide +kernel
theorem dX2_mayHave_10 : decode cX2_mayHave 10 = .ok (.iand, 1) := by decide +kernel
theorem dX2_mayHave_11 : decode cX2_mayHave 11 = .ok (.iload_n 2, 1) := by decide +kernel
theorem dX2_mayHave_12 : decode cX2_mayHave 12 = .ok (.invokestatic 51, 3) := by decide +kernel
theorem dX2_mayHave_15 : decode cX2_mayHave 15 = .ok (.ifCond .eq 21, 3) := by decide +kernel
theorem dX2_mayHave_18 : decode cX2_mayHave 18 = .ok (.aload_n 0, 1) := by decide +kernel
theorem dX2_mayHave_19 : decode cX2_mayHave 19 = .ok (.getfield 18, 3) := by decide +kernel
theorem dX2_mayHave_22 : decode cX2_mayHave 22 = .ok (.iload_n 1, 1) := by decide +kernel
theorem dX2_mayHave_23 : decode cX2_mayHave 23 = .ok (.iaload, 1) := by decide +kernel
theorem dX2_mayHave_24 : decode cX2_mayHave 24 = .ok (.iload 4, 2) := by decide +kernel
theorem dX2_mayHave_26 : decode cX2_mayHave 26 = .ok (.iconst (-1), 1) := by decide +kernel
theorem dX2_mayHave_27 : decode cX2_mayHave 27 = .ok (.ixor, 1) := by decide +kernel
theorem dX2_mayHave_28 : decode cX2_mayHave 28 = .ok (.iand, 1) := by decide +kernel
theorem dX2_mayHave_29 : decode cX2_mayHave 29 = .ok (.iload_n 3, 1) := by decide +kernel
theorem dX2_mayHave_30 : decode cX2_mayHave 30 = .ok (.invokestatic 51, 3) := by decide +kernel
theorem dX2_mayHave_33 : decode cX2_mayHave 33 = .ok (.ifCond .ne 5, 3) := by decide +kernel
theorem dX2_mayHave_36 : decode cX2_mayHave 36 = .ok (.iconst 0, 1) := by decide +kernel
theorem dX2_mayHave_37 : decode cX2_mayHave 37 = .ok (.ireturn, 1) := by decide +kernel
theorem dX2_mayHave_38 : decode cX2_mayHave 38 = .ok (.iload_n 2, 1) := by decide +kernel
theorem dX2_mayHave_39 : decode cX2_mayHave 39 = .ok (.bipush 9, 2) := by decide +kernel
theorem dX2_mayHave_41 : decode cX2_mayHave 41 = .ok (.if_icmp .eq 21, 3) := by decide +kernel
theorem dX2_mayHave_44 : decode cX2_mayHave 44 = .ok (.iload_n 3, 1) := by decide +kernel
theorem dX2_mayHave_45 : decode cX2_mayHave 45 = .ok (.bipush 9, 2) := by decide +kernel
theorem dX2_mayHave_47 : decode cX2_mayHave 47 = .ok (.if_icmp .eq 15, 3) := by decide +kernel
theorem dX2_mayHave_50 : decode cX2_mayHave 50 = .ok (.aload_n 0, 1) := by decide +kernel
theorem dX2_mayHave_51 : decode cX2_mayHave 51 = .ok (.getfield 21, 3) := by decide +kernel
theorem dX2_mayHave_54 : decode cX2_mayHave 54 = .ok (.iload_n 2, 1) := by decide +kernel
theorem dX2_mayHave_55 : decode cX2_mayHave 55 = .ok (.iload_n 3, 1) := by decide +kernel
theorem dX2_mayHave_56 : decode cX2_mayHave 56 = .ok (.invokevirtual 96, 3) := by decide +kernel
theorem dX2_mayHave_59 : decode cX2_mayHave 59 = .ok (.ifCond .eq 7, 3) := by decide +kernel
theorem dX2_mayHave_62 : decode cX2_mayHave 62 = .ok (.iconst 1, 1) := by decide +kernel
theorem dX2_mayHave_63 : decode cX2_mayHave 63 = .ok (.goto 4, 3) := by decide +kernel
theorem dX2_mayHave_66 : decode cX2_mayHave 66 = .ok (.iconst 0, 1) := by decide +kernel
theorem dX2_mayHave_67 : decode cX2_mayHave 67 = .ok (.ireturn, 1) := by decide +kernel
set_option maxRecDepth 20000 in
theorem ggX2_worthWith_X2_oilOf : GoodIn wsX2_worthWith wsX2_oilOf := goodIn_r _ [5, 6, 7, 8, 46, 47, 48, 49, 50, 51, 52, 53, 54, 55, 56, 57, 58, 59, 60, 61, 62, 63] rfl (by decide +kernel)
set_option maxRecDepth 20000 in
theorem gX2_worthWith_X2_oilOf : GoodIn wsX2_worthWith (wsV RX2 99 RX2 yX2_oilOf wsX2_oilOf) := goodIn_app (goodIn_of _ (by decide +kernel)) ggX2_worthWith_X2_oilOf
set_option maxRecDepth 20000 in
theorem ggX2_worthWith_X2_kneeBits : GoodIn wsX2_worthWith wsX2_kneeBits := goodIn_r _ [11] rfl (by decide +kernel)
set_option maxRecDepth 20000 in
theorem gX2_worthWith_X2_kneeBits : GoodIn wsX2_worthWith (va_wsS RX2 61 yX2_kneeBits wsX2_kneeBits) := goodIn_app (goodIn_of _ (by decide +kernel)) ggX2_worthWith_X2_kneeBits
set_option maxRecDepth 20000 in
theorem ggX2_worthWith_X2_worthFrom : GoodIn wsX2_worthWith wsX2_worthFrom := goodIn_r _ [39, 6, 40, 41, 42, 21, 22, 23, 43, 44, 45, 4, 12, 13, 14, 15, 16, 17, 18, 19, 20, 24, 25, 26, 27, 28, 29, 30, 31, 32, 33, 34, 35, 36, 37, 38, 0, 1, 2, 3, 5, 7, 8, 9, 10, 11, 46, 47, 48, 49, 50, 51, 52, 53, 54, 55, 56, 57, 58, 59, 60, 61, 62, 63] rfl (by decide +kernel)
set_option maxRecDepth 20000 in
theorem gX2_worthWith_X2_worthFrom : GoodIn wsX2_worthWith (wsV RX2 47 RX2 yX2_worthFrom wsX2_worthFrom) := goodIn_app (goodIn_of _ (by decide +kernel)) ggX2_worthWith_X2_worthFrom
theorem dX2_worthWith_0 : decode cX2_worthWith 0 = .ok (.aload_n 0, 1) := by decide +kernel
theorem dX2_worthWith_1 : decode cX2_worthWith 1 = .ok (.iload_n 2, 1) := by decide +kernel
theorem dX2_worthWith_2 : decode cX2_worthWith 2 = .ok (.invokevirtual 99, 3) := by decide +kernel
theorem dX2_worthWith_5 : decode cX2_worthWith 5 = .ok (.aload_n 0, 1) := by decide +kernel
theorem dX2_worthWith_6 : decode cX2_worthWith 6 = .ok (.iload_n 3, 1) := by decide +kernel
theorem dX2_worthWith_7 : decode cX2_worthWith 7 = .ok (.invokevirtual 99, 3) := by decide +kernel
theorem dX2_worthWith_10 : decode cX2_worthWith 10 = .ok (.iadd, 1) := by decide +kernel
theorem dX2_worthWith_11 : decode cX2_worthWith 11 = .ok (.istore 5, 2) := by decide +kernel
theorem dX2_worthWith_13 : decode cX2_worthWith 13 = .ok (.iload 5, 2) := by decide +kernel
theorem dX2_worthWith_15 : decode cX2_worthWith 15 = .ok (.bipush 64, 2) := by decide +kernel
theorem dX2_worthWith_17 : decode cX2_worthWith 17 = .ok (.imul, 1) := by decide +kernel
theorem dX2_worthWith_18 : decode cX2_worthWith 18 = .ok (.iconst 1, 1) := by decide +kernel
theorem dX2_worthWith_19 : decode cX2_worthWith 19 = .ok (.iload_n 1, 1) := by decide +kernel
theorem dX2_worthWith_20 : decode cX2_worthWith 20 = .ok (.ishl, 1) := by decide +kernel
theorem dX2_worthWith_21 : decode cX2_worthWith 21 = .ok (.iadd, 1) := by decide +kernel
theorem dX2_worthWith_22 : decode cX2_worthWith 22 = .ok (.aload_n 0, 1) := by decide +kernel
theorem dX2_worthWith_23 : decode cX2_worthWith 23 = .ok (.iload_n 1, 1) := by decide +kernel
theorem dX2_worthWith_24 : decode cX2_worthWith 24 = .ok (.iconst 1, 1) := by decide +kernel
theorem dX2_worthWith_25 : decode cX2_worthWith 25 = .ok (.iadd, 1) := by decide +kernel
theorem dX2_worthWith_26 : decode cX2_worthWith 26 = .ok (.iload 4, 2) := by decide +kernel
theorem dX2_worthWith_28 : decode cX2_worthWith 28 = .ok (.iload_n 2, 1) := by decide +kernel
theorem dX2_worthWith_29 : decode cX2_worthWith 29 = .ok (.iload_n 3, 1) := by decide +kernel
theorem dX2_worthWith_30 : decode cX2_worthWith 30 = .ok (.invokestatic 61, 3) := by decide +kernel
theorem dX2_worthWith_33 : decode cX2_worthWith 33 = .ok (.ior, 1) := by decide +kernel
theorem dX2_worthWith_34 : decode cX2_worthWith 34 = .ok (.invokevirtual 47, 3) := by decide +kernel
theorem dX2_worthWith_37 : decode cX2_worthWith 37 = .ok (.iadd, 1) := by decide +kernel
theorem dX2_worthWith_38 : decode cX2_worthWith 38 = .ok (.ireturn, 1) := by decide +kernel
theorem dX2_oilOf_0 : decode cX2_oilOf 0 = .ok (.iload_n 1, 1) := by decide +kernel
theorem dX2_oilOf_1 : decode cX2_oilOf 1 = .ok (.bipush 9, 2) := by decide +kernel
theorem dX2_oilOf_3 : decode cX2_oilOf 3 = .ok (.if_icmp .ne 7, 3) := by decide +kernel
theorem dX2_oilOf_6 : decode cX2_oilOf 6 = .ok (.iconst 0, 1) := by decide +kernel
theorem dX2_oilOf_7 : decode cX2_oilOf 7 = .ok (.goto 20, 3) := by decide +kernel
theorem dX2_oilOf_10 : decode cX2_oilOf 10 = .ok (.aload_n 0, 1) := by decide +kernel
theorem dX2_oilOf_11 : decode cX2_oilOf 11 = .ok (.getfield 21, 3) := by decide +kernel
theorem dX2_oilOf_14 : decode cX2_oilOf 14 = .ok (.getfield 103, 3) := by decide +kernel
theorem dX2_oilOf_17 : decode cX2_oilOf 17 = .ok (.aload_n 0, 1) := by decide +kernel
theorem dX2_oilOf_18 : decode cX2_oilOf 18 = .ok (.getfield 21, 3) := by decide +kernel
theorem dX2_oilOf_21 : decode cX2_oilOf 21 = .ok (.getfield 106, 3) := by decide +kernel
theorem dX2_oilOf_24 : decode cX2_oilOf 24 = .ok (.iload_n 1, 1) := by decide +kernel
theorem dX2_oilOf_25 : decode cX2_oilOf 25 = .ok (.iaload, 1) := by decide +kernel
theorem dX2_oilOf_26 : decode cX2_oilOf 26 = .ok (.iaload, 1) := by decide +kernel
theorem dX2_oilOf_27 : decode cX2_oilOf 27 = .ok (.ireturn, 1) := by decide +kernel
theorem dX2_kneeBits_0 : decode cX2_kneeBits 0 = .ok (.iconst 1, 1) := by decide +kernel
theorem dX2_kneeBits_1 : decode cX2_kneeBits 1 = .ok (.iload_n 0, 1) := by decide +kernel
theorem dX2_kneeBits_2 : decode cX2_kneeBits 2 = .ok (.ishl, 1) := by decide +kernel
theorem dX2_kneeBits_3 : decode cX2_kneeBits 3 = .ok (.iconst 1, 1) := by decide +kernel
theorem dX2_kneeBits_4 : decode cX2_kneeBits 4 = .ok (.iload_n 1, 1) := by decide +kernel
theorem dX2_kneeBits_5 : decode cX2_kneeBits 5 = .ok (.ishl, 1) := by decide +kernel
theorem dX2_kneeBits_6 : decode cX2_kneeBits 6 = .ok (.ior, 1) := by decide +kernel
theorem dX2_kneeBits_7 : decode cX2_kneeBits 7 = .ok (.sipush 511, 3) := by decide +kernel
theorem dX2_kneeBits_10 : decode cX2_kneeBits 10 = .ok (.iand, 1) := by decide +kernel
theorem dX2_kneeBits_11 : decode cX2_kneeBits 11 = .ok (.ireturn, 1) := by decide +kernel
theorem dX3_init_0 : decode cX3_init 0 = .ok (.aload_n 0, 1) := by decide +kernel
theorem dX3_init_1 : decode cX3_init 1 = .ok (.invokespecial 3, 3) := by decide +kernel
theorem dX3_init_4 : decode cX3_init 4 = .ok (.aload_n 0, 1) := by decide +kernel
theorem dX3_init_5 : decode cX3_init 5 = .ok (.iconst 0, 1) := by decide +kernel
theorem dX3_init_6 : decode cX3_init 6 = .ok (.putfield 9, 3) := by decide +kernel
theorem dX3_init_9 : decode cX3_init 9 = .ok (.aload_n 0, 1) := by decide +kernel
theorem dX3_init_10 : decode cX3_init 10 = .ok (.iconst 0, 1) := by decide +kernel
theorem dX3_init_11 : decode cX3_init 11 = .ok (.putfield 15, 3) := by decide +kernel
theorem dX3_init_14 : decode cX3_init 14 = .ok (.aload_n 0, 1) := by decide +kernel
theorem dX3_init_15 : decode cX3_init 15 = .ok (.iconst 0, 1) := by decide +kernel
theorem dX3_init_16 : decode cX3_init 16 = .ok (.putfield 18, 3) := by decide +kernel
theorem dX3_init_19 : decode cX3_init 19 = .ok (.aload_n 0, 1) := by decide +kernel
theorem dX3_init_20 : decode cX3_init 20 = .ok (.iconst 0, 1) := by decide +kernel
theorem dX3_init_21 : decode cX3_init 21 = .ok (.putfield 21, 3) := by decide +kernel
theorem dX3_init_24 : decode cX3_init 24 = .ok (.aload_n 0, 1) := by decide +kernel
theorem dX3_init_25 : decode cX3_init 25 = .ok (.iconst 0, 1) := by decide +kernel
theorem dX3_init_26 : decode cX3_init 26 = .ok (.putfield 24, 3) := by decide +kernel
theorem dX3_init_29 : decode cX3_init 29 = .ok (.aload_n 0, 1) := by decide +kernel
theorem dX3_init_30 : decode cX3_init 30 = .ok (.bipush 9, 2) := by decide +kernel
theorem dX3_init_32 : decode cX3_init 32 = .ok (.newarray .int, 2) := by decide +kernel
theorem dX3_init_34 : decode cX3_init 34 = .ok (.putfield 27, 3) := by decide +kernel
theorem dX3_init_37 : decode cX3_init 37 = .ok (.aload_n 0, 1) := by decide +kernel
theorem dX3_init_38 : decode cX3_init 38 = .ok (.bipush 9, 2) := by decide +kernel
theorem dX3_init_40 : decode cX3_init 40 = .ok (.newarray .int, 2) := by decide +kernel
theorem dX3_init_42 : decode cX3_init 42 = .ok (.putfield 31, 3) := by decide +kernel
theorem dX3_init_45 : decode cX3_init 45 = .ok (.return_, 1) := by decide +kernel
set_option maxRecDepth 20000 in
theorem ggX3_begin_J7_fill_53178 : GoodIn wsX3_begin wsJ7_fill_53178 := goodIn_r _ [16] rfl (by decide +kernel)
set_option maxRecDepth 20000 in
theorem gX3_begin_J7_fill_53178 : GoodIn wsX3_begin (va_wsS RX3 34 yJ7_fill_53178 wsJ7_fill_53178) := goodIn_app (goodIn_of _ (by decide +kernel)) ggX3_begin_J7_fill_53178
theorem dX3_begin_0 : decode cX3_begin 0 = .ok (.aload_n 0, 1) := by decide +kernel
theorem dX3_begin_1 : decode cX3_begin 1 = .ok (.iconst 0, 1) := by decide +kernel
theorem dX3_begin_2 : decode cX3_begin 2 = .ok (.putfield 9, 3) := by decide +kernel
theorem dX3_begin_5 : decode cX3_begin 5 = .ok (.aload_n 0, 1) := by decide +kernel
theorem dX3_begin_6 : decode cX3_begin 6 = .ok (.iconst 0, 1) := by decide +kernel
theorem dX3_begin_7 : decode cX3_begin 7 = .ok (.putfield 15, 3) := by decide +kernel
theorem dX3_begin_10 : decode cX3_begin 10 = .ok (.aload_n 0, 1) := by decide +kernel
theorem dX3_begin_11 : decode cX3_begin 11 = .ok (.iconst 0, 1) := by decide +kernel
theorem dX3_begin_12 : decode cX3_begin 12 = .ok (.putfield 18, 3) := by decide +kernel
theorem dX3_begin_15 : decode cX3_begin 15 = .ok (.aload_n 0, 1) := by decide +kernel
theorem dX3_begin_16 : decode cX3_begin 16 = .ok (.iconst 0, 1) := by decide +kernel
theorem dX3_begin_17 : decode cX3_begin 17 = .ok (.putfield 21, 3) := by decide +kernel
theorem dX3_begin_20 : decode cX3_begin 20 = .ok (.aload_n 0, 1) := by decide +kernel
theorem dX3_begin_21 : decode cX3_begin 21 = .ok (.iconst 0, 1) := by decide +kernel
theorem dX3_begin_22 : decode cX3_begin 22 = .ok (.putfield 24, 3) := by decide +kernel
theorem dX3_begin_25 : decode cX3_begin 25 = .ok (.aload_n 0, 1) := by decide +kernel
theorem dX3_begin_26 : decode cX3_begin 26 = .ok (.getfield 27, 3) := by decide +kernel
theorem dX3_begin_29 : decode cX3_begin 29 = .ok (.bipush (-9), 2) := by decide +kernel
theorem dX3_begin_31 : decode cX3_begin 31 = .ok (.invokestatic 34, 3) := by decide +kernel
theorem dX3_begin_34 : decode cX3_begin 34 = .ok (.aload_n 1, 1) := by decide +kernel
theorem dX3_begin_35 : decode cX3_begin 35 = .ok (.getfield 40, 3) := by decide +kernel
theorem dX3_begin_38 : decode cX3_begin 38 = .ok (.iconst 0, 1) := by decide +kernel
theorem dX3_begin_39 : decode cX3_begin 39 = .ok (.aload_n 0, 1) := by decide +kernel
theorem dX3_begin_40 : decode cX3_begin 40 = .ok (.getfield 31, 3) := by decide +kernel
theorem dX3_begin_43 : decode cX3_begin 43 = .ok (.iconst 0, 1) := by decide +kernel
theorem dX3_begin_44 : decode cX3_begin 44 = .ok (.bipush 9, 2) := by decide +kernel
theorem dX3_begin_46 : decode cX3_begin 46 = .ok (.invokestatic 45, 3) := by decide +kernel
theorem dX3_begin_49 : decode cX3_begin 49 = .ok (.return_, 1) := by decide +kernel
theorem dX3_copy_0 : decode cX3_copy 0 = .ok (.aload_n 0, 1) := by decide +kernel
theorem dX3_copy_1 : decode cX3_copy 1 = .ok (.aload_n 1, 1) := by decide +kernel
theorem dX3_copy_2 : decode cX3_copy 2 = .ok (.getfield 9, 3) := by decide +kernel
theorem dX3_copy_5 : decode cX3_copy 5 = .ok (.putfield 9, 3) := by decide +kernel
theorem dX3_copy_8 : decode cX3_copy 8 = .ok (.aload_n 0, 1) := by decide +kernel
theorem dX3_copy_9 : decode cX3_copy 9 = .ok (.aload_n 1, 1) := by decide +kernel
theorem dX3_copy_10 : decode cX3_copy 10 = .ok (.getfield 15, 3) := by decide +kernel
theorem dX3_copy_13 : decode cX3_copy 13 = .ok (.putfield 15, 3) := by decide +kernel
theorem dX3_copy_16 : decode cX3_copy 16 = .ok (.aload_n 0, 1) := by decide +kernel
theorem dX3_copy_17 : decode cX3_copy 17 = .ok (.aload_n 1, 1) := by decide +kernel
theorem dX3_copy_18 : decode cX3_copy 18 = .ok (.getfield 18, 3) := by decide +kernel
theorem dX3_copy_21 : decode cX3_copy 21 = .ok (.putfield 18, 3) := by decide +kernel
theorem dX3_copy_24 : decode cX3_copy 24 = .ok (.aload_n 0, 1) := by decide +kernel
theorem dX3_copy_25 : decode cX3_copy 25 = .ok (.aload_n 1, 1) := by decide +kernel
theorem dX3_copy_26 : decode cX3_copy 26 = .ok (.getfield 21, 3) := by decide +kernel
theorem dX3_copy_29 : decode cX3_copy 29 = .ok (.putfield 21, 3) := by decide +kernel
theorem dX3_copy_32 : decode cX3_copy 32 = .ok (.aload_n 0, 1) := by decide +kernel
theorem dX3_copy_33 : decode cX3_copy 33 = .ok (.aload_n 1, 1) := by decide +kernel
theorem dX3_copy_34 : decode cX3_copy 34 = .ok (.getfield 24, 3) := by decide +kernel
theorem dX3_copy_37 : decode cX3_copy 37 = .ok (.putfield 24, 3) := by decide +kernel
theorem dX3_copy_40 : decode cX3_copy 40 = .ok (.aload_n 1, 1) := by decide +kernel
theorem dX3_copy_41 : decode cX3_copy 41 = .ok (.getfield 27, 3) := by decide +kernel
theorem dX3_copy_44 : decode cX3_copy 44 = .ok (.iconst 0, 1) := by decide +kernel
theorem dX3_copy_45 : decode cX3_copy 45 = .ok (.aload_n 0, 1) := by decide +kernel
theorem dX3_copy_46 : decode cX3_copy 46 = .ok (.getfield 27, 3) := by decide +kernel
theorem dX3_copy_49 : decode cX3_copy 49 = .ok (.iconst 0, 1) := by decide +kernel
theorem dX3_copy_50 : decode cX3_copy 50 = .ok (.bipush 9, 2) := by decide +kernel
theorem dX3_copy_52 : decode cX3_copy 52 = .ok (.invokestatic 45, 3) := by decide +kernel
theorem dX3_copy_55 : decode cX3_copy 55 = .ok (.aload_n 1, 1) := by decide +kernel
theorem dX3_copy_56 : decode cX3_copy 56 = .ok (.getfield 31, 3) := by decide +kernel
theorem dX3_copy_59 : decode cX3_copy 59 = .ok (.iconst 0, 1) := by decide +kernel
theorem dX3_copy_60 : decode cX3_copy 60 = .ok (.aload_n 0, 1) := by decide +kernel
theorem dX3_copy_61 : decode cX3_copy 61 = .ok (.getfield 31, 3) := by decide +kernel
theorem dX3_copy_64 : decode cX3_copy 64 = .ok (.iconst 0, 1) := by decide +kernel
theorem dX3_copy_65 : decode cX3_copy 65 = .ok (.bipush 9, 2) := by decide +kernel
theorem dX3_copy_67 : decode cX3_copy 67 = .ok (.invokestatic 45, 3) := by decide +kernel
theorem dX3_copy_70 : decode cX3_copy 70 = .ok (.return_, 1) := by decide +kernel
set_option maxRecDepth 20000 in
theorem ggX3_isFree_X6_bit : GoodIn wsX3_isFree wsX6_bit := goodIn_r _ [5] rfl (by decide +kernel)
set_option maxRecDepth 20000 in
theorem gX3_isFree_X6_bit_n51 : GoodIn wsX3_isFree (wsX6_bit) := ggX3_isFree_X6_bit
theorem dX3_isFree_0 : decode cX3_isFree 0 = .ok (.aload_n 0, 1) := by decide +kernel
theorem dX3_isFree_1 : decode cX3_isFree 1 = .ok (.getfield 27, 3) := by decide +kernel
theorem dX3_isFree_4 : decode cX3_isFree 4 = .ok (.iload_n 1, 1) := by decide +kernel
theorem dX3_isFree_5 : decode cX3_isFree 5 = .ok (.iaload, 1) := by decide +kernel
theorem dX3_isFree_6 : decode cX3_isFree 6 = .ok (.bipush (-9), 2) := by decide +kernel
theorem dX3_isFree_8 : decode cX3_isFree 8 = .ok (.if_icmp .ne 18, 3) := by decide +kernel
theorem dX3_isFree_11 : decode cX3_isFree 11 = .ok (.aload_n 0, 1) := by decide +kernel
theorem dX3_isFree_12 : decode cX3_isFree 12 = .ok (.getfield 24, 3) := by decide +kernel
theorem dX3_isFree_15 : decode cX3_isFree 15 = .ok (.iload_n 1, 1) := by decide +kernel
theorem dX3_isFree_16 : decode cX3_isFree 16 = .ok (.invokestatic 51, 3) := by decide +kernel
theorem dX3_isFree_19 : decode cX3_isFree 19 = .ok (.ifCond .ne 7, 3) := by decide +kernel
theorem dX3_isFree_22 : decode cX3_isFree 22 = .ok (.iconst 1, 1) := by decide +kernel
theorem dX3_isFree_23 : decode cX3_isFree 23 = .ok (.goto 4, 3) := by decide +kernel
theorem dX3_isFree_26 : decode cX3_isFree 26 = .ok (.iconst 0, 1) := by decide +kernel
theorem dX3_isFree_27 : decode cX3_isFree 27 = .ok (.ireturn, 1) := by decide +kernel
set_option maxRecDepth 20000 in
theorem ggX3_offers_X3_isFree : GoodIn wsX3_offers wsX3_isFree := goodIn_r _ [7, 8, 9, 10, 11, 12, 39, 40, 41, 42, 43, 44, 45] rfl (by decide +kernel)
set_option maxRecDepth 20000 in
theorem gX3_offers_X3_isFree : GoodIn wsX3_offers (wsV RX3 55 RX3 yX3_isFree wsX3_isFree) := goodIn_app (goodIn_of _ (by decide +kernel)) ggX3_offers_X3_isFree
set_option maxRecDepth 20000 in
theorem ggX3_offers_X4_needsSide : GoodIn wsX3_offers wsX4_needsSide := goodIn_r _ [17, 18, 10, 11, 12, 27, 28, 29, 30, 31, 32, 33, 34, 35, 36, 37, 38] rfl (by decide +kernel)
set_option maxRecDepth 20000 in
theorem gX3_offers_X4_needsSide : GoodIn wsX3_offers (wsV RX3 62 RX4 yX4_needsSide wsX4_needsSide) := goodIn_app (goodIn_of _ (by decide +kernel)) ggX3_offers_X4_needsSide
set_option maxRecDepth 20000 in
theorem ggX3_offers_X4_wearOf : GoodIn wsX3_offers wsX4_wearOf := goodIn_r _ [22, 23, 24, 25, 11, 26, 27, 28, 29, 30, 31, 32, 33, 34, 35, 36, 37, 38] rfl (by decide +kernel)
set_option maxRecDepth 20000 in
theorem gX3_offers_X4_wearOf : GoodIn wsX3_offers (wsV RX3 66 RX4 yX4_wearOf wsX4_wearOf) := goodIn_app (goodIn_of _ (by decide +kernel)) ggX3_offers_X4_wearOf
theorem dX3_offers_0 : decode cX3_offers 0 = .ok (.aload_n 0, 1) := by decide +kernel
theorem dX3_offers_1 : decode cX3_offers 1 = .ok (.iload_n 2, 1) := by decide +kernel
theorem dX3_offers_2 : decode cX3_offers 2 = .ok (.invokevirtual 55, 3) := by decide +kernel
theorem dX3_offers_5 : decode cX3_offers 5 = .ok (.ifCond .eq 35, 3) := by decide +kernel
theorem dX3_offers_8 : decode cX3_offers 8 = .ok (.aload_n 1, 1) := by decide +kernel
theorem dX3_offers_9 : decode cX3_offers 9 = .ok (.iload_n 3, 1) := by decide +kernel
theorem dX3_offers_10 : decode cX3_offers 10 = .ok (.aload_n 1, 1) := by decide +kernel
theorem dX3_offers_11 : decode cX3_offers 11 = .ok (.getfield 59, 3) := by decide +kernel
theorem dX3_offers_14 : decode cX3_offers 14 = .ok (.iload_n 2, 1) := by decide +kernel
theorem dX3_offers_15 : decode cX3_offers 15 = .ok (.iaload, 1) := by decide +kernel
theorem dX3_offers_16 : decode cX3_offers 16 = .ok (.invokevirtual 62, 3) := by decide +kernel
theorem dX3_offers_19 : decode cX3_offers 19 = .ok (.ifCond .eq 21, 3) := by decide +kernel
theorem dX3_offers_22 : decode cX3_offers 22 = .ok (.aload_n 0, 1) := by decide +kernel
theorem dX3_offers_23 : decode cX3_offers 23 = .ok (.getfield 31, 3) := by decide +kernel
theorem dX3_offers_26 : decode cX3_offers 26 = .ok (.iload_n 2, 1) := by decide +kernel
theorem dX3_offers_27 : decode cX3_offers 27 = .ok (.iaload, 1) := by decide +kernel
theorem dX3_offers_28 : decode cX3_offers 28 = .ok (.aload_n 1, 1) := by decide +kernel
theorem dX3_offers_29 : decode cX3_offers 29 = .ok (.iload_n 3, 1) := by decide +kernel
theorem dX3_offers_30 : decode cX3_offers 30 = .ok (.invokevirtual 66, 3) := by decide +kernel
theorem dX3_offers_33 : decode cX3_offers 33 = .ok (.if_icmp .lt 7, 3) := by decide +kernel
theorem dX3_offers_36 : decode cX3_offers 36 = .ok (.iconst 1, 1) := by decide +kernel
theorem dX3_offers_37 : decode cX3_offers 37 = .ok (.goto 4, 3) := by decide +kernel
theorem dX3_offers_40 : decode cX3_offers 40 = .ok (.iconst 0, 1) := by decide +kernel
theorem dX3_offers_41 : decode cX3_offers 41 = .ok (.ireturn, 1) := by decide +kernel
theorem dX3_bears_0 : decode cX3_bears 0 = .ok (.aload_n 0, 1) := by decide +kernel
theorem dX3_bears_1 : decode cX3_bears 1 = .ok (.getfield 31, 3) := by decide +kernel
theorem dX3_bears_4 : decode cX3_bears 4 = .ok (.iload_n 1, 1) := by decide +kernel
theorem dX3_bears_5 : decode cX3_bears 5 = .ok (.iaload, 1) := by decide +kernel
theorem dX3_bears_6 : decode cX3_bears 6 = .ok (.iload_n 2, 1) := by decide +kernel
theorem dX3_bears_7 : decode cX3_bears 7 = .ok (.if_icmp .lt 7, 3) := by decide +kernel
theorem dX3_bears_10 : decode cX3_bears 10 = .ok (.iconst 1, 1) := by decide +kernel
theorem dX3_bears_11 : decode cX3_bears 11 = .ok (.goto 4, 3) := by decide +kernel
theorem dX3_bears_14 : decode cX3_bears 14 = .ok (.iconst 0, 1) := by decide +kernel
theorem dX3_bears_15 : decode cX3_bears 15 = .ok (.istore_n 3, 1) := by decide +kernel
theorem dX3_bears_16 : decode cX3_bears 16 = .ok (.aload_n 0, 1) := by decide +kernel
theorem dX3_bears_17 : decode cX3_bears 17 = .ok (.getfield 31, 3) := by decide +kernel
theorem dX3_bears_20 : decode cX3_bears 20 = .ok (.iload_n 1, 1) := by decide +kernel
theorem dX3_bears_21 : decode cX3_bears 21 = .ok (.iload_n 3, 1) := by decide +kernel
theorem dX3_bears_22 : decode cX3_bears 22 = .ok (.ifCond .eq 14, 3) := by decide +kernel
theorem dX3_bears_25 : decode cX3_bears 25 = .ok (.aload_n 0, 1) := by decide +kernel
theorem dX3_bears_26 : decode cX3_bears 26 = .ok (.getfield 31, 3) := by decide +kernel
theorem dX3_bears_29 : decode cX3_bears 29 = .ok (.iload_n 1, 1) := by decide +kernel
theorem dX3_bears_30 : decode cX3_bears 30 = .ok (.iaload, 1) := by decide +kernel
theorem dX3_bears_31 : decode cX3_bears 31 = .ok (.iload_n 2, 1) := by decide +kernel
theorem dX3_bears_32 : decode cX3_bears 32 = .ok (.isub, 1) := by decide +kernel
theorem dX3_bears_33 : decode cX3_bears 33 = .ok (.goto 4, 3) := by decide +kernel
theorem dX3_bears_36 : decode cX3_bears 36 = .ok (.iconst 0, 1) := by decide +kernel
theorem dX3_bears_37 : decode cX3_bears 37 = .ok (.iastore, 1) := by decide +kernel
theorem dX3_bears_38 : decode cX3_bears 38 = .ok (.iload_n 3, 1) := by decide +kernel
theorem dX3_bears_39 : decode cX3_bears 39 = .ok (.ireturn, 1) := by decide +kernel
set_option maxRecDepth 20000 in
theorem ggX4_init_X4_desert : GoodIn wsX4_init wsX4_desert := goodIn_r _ [21, 4, 9, 13, 14, 22, 23, 24, 25, 26, 27, 28, 29, 30, 31, 32, 33, 34, 35, 36, 37] rfl (by decide +kernel)
set_option maxRecDepth 20000 in
theorem gX4_init_X4_desert : GoodIn wsX4_init (wsV RX4 49 RX4 yX4_desert wsX4_desert) := goodIn_app (goodIn_of _ (by decide +kernel)) ggX4_init_X4_desert
set_option maxRecDepth 20000 in
theorem ggX4_init_J7_fill_53178 : GoodIn wsX4_init wsJ7_fill_53178 := goodIn_r _ [25] rfl (by decide +kernel)
set_option maxRecDepth 20000 in
theorem gX4_init_J7_fill_53178 : GoodIn wsX4_init (va_wsS RX4 52 yJ7_fill_53178 wsJ7_fill_53178) := goodIn_app (goodIn_of _ (by decide +kernel)) ggX4_init_J7_fill_53178
theorem dX4_init_0 : decode cX4_init 0 = .ok (.aload_n 0, 1) := by decide +kernel
theorem dX4_init_1 : decode cX4_init 1 = .ok (.invokespecial 3, 3) := by decide +kernel
theorem dX4_init_4 : decode cX4_init 4 = .ok (.aload_n 0, 1) := by decide +kernel
theorem dX4_init_5 : decode cX4_init 5 = .ok (.iconst 0, 1) := by decide +kernel
theorem dX4_init_6 : decode cX4_init 6 = .ok (.putfield 9, 3) := by decide +kernel
theorem dX4_init_9 : decode cX4_init 9 = .ok (.aload_n 0, 1) := by decide +kernel
theorem dX4_init_10 : decode cX4_init 10 = .ok (.bipush 9, 2) := by decide +kernel
theorem dX4_init_12 : decode cX4_init 12 = .ok (.newarray .int, 2) := by decide +kernel
theorem dX4_init_14 : decode cX4_init 14 = .ok (.putfield 15, 3) := by decide +kernel
theorem dX4_init_17 : decode cX4_init 17 = .ok (.aload_n 0, 1) := by decide +kernel
theorem dX4_init_18 : decode cX4_init 18 = .ok (.bipush 9, 2) := by decide +kernel
theorem dX4_init_20 : decode cX4_init 20 = .ok (.newarray .int, 2) := by decide +kernel
theorem dX4_init_22 : decode cX4_init 22 = .ok (.putfield 19, 3) := by decide +kernel
theorem dX4_init_25 : decode cX4_init 25 = .ok (.aload_n 0, 1) := by decide +kernel
theorem dX4_init_26 : decode cX4_init 26 = .ok (.bipush 9, 2) := by decide +kernel
theorem dX4_init_28 : decode cX4_init 28 = .ok (.newarray .int, 2) := by decide +kernel
theorem dX4_init_30 : decode cX4_init 30 = .ok (.putfield 22, 3) := by decide +kernel
theorem dX4_init_33 : decode cX4_init 33 = .ok (.aload_n 0, 1) := by decide +kernel
theorem dX4_init_34 : decode cX4_init 34 = .ok (.iconst 0, 1) := by decide +kernel
theorem dX4_init_35 : decode cX4_init 35 = .ok (.putfield 25, 3) := by decide +kernel
theorem dX4_init_38 : decode cX4_init 38 = .ok (.aload_n 0, 1) := by decide +kernel
theorem dX4_init_39 : decode cX4_init 39 = .ok (.bipush 6, 2) := by decide +kernel
theorem dX4_init_41 : decode cX4_init 41 = .ok (.newarray .int, 2) := by decide +kernel
theorem dX4_init_43 : decode cX4_init 43 = .ok (.putfield 28, 3) := by decide +kernel
theorem dX4_init_46 : decode cX4_init 46 = .ok (.aload_n 0, 1) := by decide +kernel
theorem dX4_init_47 : decode cX4_init 47 = .ok (.bipush 6, 2) := by decide +kernel
theorem dX4_init_49 : decode cX4_init 49 = .ok (.newarray .int, 2) := by decide +kernel
theorem dX4_init_51 : decode cX4_init 51 = .ok (.putfield 31, 3) := by decide +kernel
theorem dX4_init_54 : decode cX4_init 54 = .ok (.aload_n 0, 1) := by decide +kernel
theorem dX4_init_55 : decode cX4_init 55 = .ok (.bipush 6, 2) := by decide +kernel
theorem dX4_init_57 : decode cX4_init 57 = .ok (.newarray .int, 2) := by decide +kernel
theorem dX4_init_59 : decode cX4_init 59 = .ok (.putfield 34, 3) := by decide +kernel
theorem dX4_init_62 : decode cX4_init 62 = .ok (.aload_n 0, 1) := by decide +kernel
theorem dX4_init_63 : decode cX4_init 63 = .ok (.iconst 5, 1) := by decide +kernel
theorem dX4_init_64 : decode cX4_init 64 = .ok (.newarray .int, 2) := by decide +kernel
theorem dX4_init_66 : decode cX4_init 66 = .ok (.putfield 37, 3) := by decide +kernel
theorem dX4_init_69 : decode cX4_init 69 = .ok (.aload_n 0, 1) := by decide +kernel
theorem dX4_init_70 : decode cX4_init 70 = .ok (.iconst 5, 1) := by decide +kernel
theorem dX4_init_71 : decode cX4_init 71 = .ok (.newarray .int, 2) := by decide +kernel
theorem dX4_init_73 : decode cX4_init 73 = .ok (.putfield 40, 3) := by decide +kernel
theorem dX4_init_76 : decode cX4_init 76 = .ok (.aload_n 0, 1) := by decide +kernel
theorem dX4_init_77 : decode cX4_init 77 = .ok (.iconst 5, 1) := by decide +kernel
theorem dX4_init_78 : decode cX4_init 78 = .ok (.newarray .int, 2) := by decide +kernel
theorem dX4_init_80 : decode cX4_init 80 = .ok (.putfield 43, 3) := by decide +kernel
theorem dX4_init_83 : decode cX4_init 83 = .ok (.aload_n 0, 1) := by decide +kernel
theorem dX4_init_84 : decode cX4_init 84 = .ok (.iconst 0, 1) := by decide +kernel
theorem dX4_init_85 : decode cX4_init 85 = .ok (.putfield 46, 3) := by decide +kernel
theorem dX4_init_88 : decode cX4_init 88 = .ok (.aload_n 0, 1) := by decide +kernel
theorem dX4_init_89 : decode cX4_init 89 = .ok (.invokevirtual 49, 3) := by decide +kernel
theorem dX4_init_92 : decode cX4_init 92 = .ok (.aload_n 0, 1) := by decide +kernel
theorem dX4_init_93 : decode cX4_init 93 = .ok (.getfield 43, 3) := by decide +kernel
theorem dX4_init_96 : decode cX4_init 96 = .ok (.bipush (-9), 2) := by decide +kernel
theorem dX4_init_98 : decode cX4_init 98 = .ok (.invokestatic 52, 3) := by decide +kernel
theorem dX4_init_101 : decode cX4_init 101 = .ok (.return_, 1) := by decide +kernel
set_option maxRecDepth 20000 in
theorem ggX4_desert_J7_fill_53178 : GoodIn wsX4_desert wsJ7_fill_53178 := goodIn_r _ [8] rfl (by decide +kernel)
set_option maxRecDepth 20000 in
theorem gX4_desert_J7_fill_53178 : GoodIn wsX4_desert (va_wsS RX4 52 yJ7_fill_53178 wsJ7_fill_53178) := goodIn_app (goodIn_of _ (by decide +kernel)) ggX4_desert_J7_fill_53178
theorem dX4_desert_0 : decode cX4_desert 0 = .ok (.aload_n 0, 1) := by decide +kernel
theorem dX4_desert_1 : decode cX4_desert 1 = .ok (.iconst 0, 1) := by decide +kernel
theorem dX4_desert_2 : decode cX4_desert 2 = .ok (.putfield 9, 3) := by decide +kernel
theorem dX4_desert_5 : decode cX4_desert 5 = .ok (.aload_n 0, 1) := by decide +kernel
theorem dX4_desert_6 : decode cX4_desert 6 = .ok (.iconst 0, 1) := by decide +kernel
theorem dX4_desert_7 : decode cX4_desert 7 = .ok (.putfield 25, 3) := by decide +kernel
theorem dX4_desert_10 : decode cX4_desert 10 = .ok (.aload_n 0, 1) := by decide +kernel
theorem dX4_desert_11 : decode cX4_desert 11 = .ok (.getfield 37, 3) := by decide +kernel
theorem dX4_desert_14 : decode cX4_desert 14 = .ok (.iconst 0, 1) := by decide +kernel
theorem dX4_desert_15 : decode cX4_desert 15 = .ok (.invokestatic 52, 3) := by decide +kernel
theorem dX4_desert_18 : decode cX4_desert 18 = .ok (.aload_n 0, 1) := by decide +kernel
theorem dX4_desert_19 : decode cX4_desert 19 = .ok (.getfield 40, 3) := by decide +kernel
theorem dX4_desert_22 : decode cX4_desert 22 = .ok (.iconst 1, 1) := by decide +kernel
theorem dX4_desert_23 : decode cX4_desert 23 = .ok (.invokestatic 52, 3) := by decide +kernel
theorem dX4_desert_26 : decode cX4_desert 26 = .ok (.return_, 1) := by decide +kernel
set_option maxRecDepth 20000 in
theorem ggX4_hasKnee_X6_within : GoodIn wsX4_hasKnee wsX6_within := goodIn_r _ [4] rfl (by decide +kernel)
set_option maxRecDepth 20000 in
theorem gX4_hasKnee_X6_within_n58 : GoodIn wsX4_hasKnee (wsX6_within) := ggX4_hasKnee_X6_within
theorem dX4_hasKnee_0 : decode cX4_hasKnee 0 = .ok (.iload_n 1, 1) := by decide +kernel
theorem dX4_hasKnee_1 : decode cX4_hasKnee 1 = .ok (.iconst 0, 1) := by decide +kernel
theorem dX4_hasKnee_2 : decode cX4_hasKnee 2 = .ok (.aload_n 0, 1) := by decide +kernel
theorem dX4_hasKnee_3 : decode cX4_hasKnee 3 = .ok (.getfield 9, 3) := by decide +kernel
theorem dX4_hasKnee_6 : decode cX4_hasKnee 6 = .ok (.iconst 1, 1) := by decide +kernel
theorem dX4_hasKnee_7 : decode cX4_hasKnee 7 = .ok (.isub, 1) := by decide +kernel
theorem dX4_hasKnee_8 : decode cX4_hasKnee 8 = .ok (.invokestatic 58, 3) := by decide +kernel
theorem dX4_hasKnee_11 : decode cX4_hasKnee 11 = .ok (.ireturn, 1) := by decide +kernel
set_option maxRecDepth 20000 in
theorem ggX4_hasPerson_X6_within : GoodIn wsX4_hasPerson wsX6_within := goodIn_r _ [4] rfl (by decide +kernel)
set_option maxRecDepth 20000 in
theorem gX4_hasPerson_X6_within_n58 : GoodIn wsX4_hasPerson (wsX6_within) := ggX4_hasPerson_X6_within
theorem dX4_hasPerson_0 : decode cX4_hasPerson 0 = .ok (.iload_n 1, 1) := by decide +kernel
theorem dX4_hasPerson_1 : decode cX4_hasPerson 1 = .ok (.iconst 0, 1) := by decide +kernel
theorem dX4_hasPerson_2 : decode cX4_hasPerson 2 = .ok (.aload_n 0, 1) := by decide +kernel
theorem dX4_hasPerson_3 : decode cX4_hasPerson 3 = .ok (.getfield 25, 3) := by decide +kernel
theorem dX4_hasPerson_6 : decode cX4_hasPerson 6 = .ok (.iconst 1, 1) := by decide +kernel
theorem dX4_hasPerson_7 : decode cX4_hasPerson 7 = .ok (.isub, 1) := by decide +kernel
theorem dX4_hasPerson_8 : decode cX4_hasPerson 8 = .ok (.invokestatic 58, 3) := by decide +kernel
theorem dX4_hasPerson_11 : decode cX4_hasPerson 11 = .ok (.ireturn, 1) := by decide +kernel
theorem dX4_everybody_0 : decode cX4_everybody 0 = .ok (.iconst 1, 1) := by decide +kernel
theorem dX4_everybody_1 : decode cX4_everybody 1 = .ok (.aload_n 0, 1) := by decide +kernel
theorem dX4_everybody_2 : decode cX4_everybody 2 = .ok (.getfield 25, 3) := by decide +kernel
theorem dX4_everybody_5 : decode cX4_everybody 5 = .ok (.ishl, 1) := by decide +kernel
theorem dX4_everybody_6 : decode cX4_everybody 6 = .ok (.iconst 1, 1) := by decide +kernel
theorem dX4_everybody_7 : decode cX4_everybody 7 = .ok (.isub, 1) := by decide +kernel
theorem dX4_everybody_8 : decode cX4_everybody 8 = .ok (.ireturn, 1) := by decide +kernel
set_option maxRecDepth 20000 in
theorem ggX4_needsSide_X6_bit : GoodIn wsX4_needsSide wsX6_bit := goodIn_r _ [4] rfl (by decide +kernel)
set_option maxRecDepth 20000 in
theorem gX4_needsSide_X6_bit_n62 : GoodIn wsX4_needsSide (wsX6_bit) := ggX4_needsSide_X6_bit
theorem dX4_needsSide_0 : decode cX4_needsSide 0 = .ok (.aload_n 0, 1) := by decide +kernel
theorem dX4_needsSide_1 : decode cX4_needsSide 1 = .ok (.getfield 28, 3) := by decide +kernel
theorem dX4_needsSide_4 : decode cX4_needsSide 4 = .ok (.iload_n 1, 1) := by decide +kernel
theorem dX4_needsSide_5 : decode cX4_needsSide 5 = .ok (.iaload, 1) := by decide +kernel
theorem dX4_needsSide_6 : decode cX4_needsSide 6 = .ok (.iload_n 2, 1) := by decide +kernel
theorem dX4_needsSide_7 : decode cX4_needsSide 7 = .ok (.invokestatic 62, 3) := by decide +kernel
theorem dX4_needsSide_10 : decode cX4_needsSide 10 = .ok (.iconst 1, 1) := by decide +kernel
theorem dX4_needsSide_11 : decode cX4_needsSide 11 = .ok (.if_icmp .ne 7, 3) := by decide +kernel
theorem dX4_needsSide_14 : decode cX4_needsSide 14 = .ok (.iconst 1, 1) := by decide +kernel
theorem dX4_needsSide_15 : decode cX4_needsSide 15 = .ok (.goto 4, 3) := by decide +kernel
theorem dX4_needsSide_18 : decode cX4_needsSide 18 = .ok (.iconst 0, 1) := by decide +kernel
theorem dX4_needsSide_19 : decode cX4_needsSide 19 = .ok (.ireturn, 1) := by decide +kernel
set_option maxRecDepth 20000 in
theorem ggX4_wearOf_X6_wear : GoodIn wsX4_wearOf wsX6_wear := goodIn_r _ [5] rfl (by decide +kernel)
set_option maxRecDepth 20000 in
theorem gX4_wearOf_X6_wear_n66 : GoodIn wsX4_wearOf (wsX6_wear) := ggX4_wearOf_X6_wear
theorem dX4_wearOf_0 : decode cX4_wearOf 0 = .ok (.aload_n 0, 1) := by decide +kernel
theorem dX4_wearOf_1 : decode cX4_wearOf 1 = .ok (.getfield 31, 3) := by decide +kernel
theorem dX4_wearOf_4 : decode cX4_wearOf 4 = .ok (.iload_n 1, 1) := by decide +kernel
theorem dX4_wearOf_5 : decode cX4_wearOf 5 = .ok (.iaload, 1) := by decide +kernel
theorem dX4_wearOf_6 : decode cX4_wearOf 6 = .ok (.aload_n 0, 1) := by decide +kernel
theorem dX4_wearOf_7 : decode cX4_wearOf 7 = .ok (.getfield 34, 3) := by decide +kernel
theorem dX4_wearOf_10 : decode cX4_wearOf 10 = .ok (.iload_n 1, 1) := by decide +kernel
theorem dX4_wearOf_11 : decode cX4_wearOf 11 = .ok (.iaload, 1) := by decide +kernel
theorem dX4_wearOf_12 : decode cX4_wearOf 12 = .ok (.invokestatic 66, 3) := by decide +kernel
theorem dX4_wearOf_15 : decode cX4_wearOf 15 = .ok (.ireturn, 1) := by decide +kernel
set_option maxRecDepth 20000 in
theorem ggX4_speak_X6_bit : GoodIn wsX4_speak wsX6_bit := goodIn_r _ [5] rfl (by decide +kernel)
set_option maxRecDepth 20000 in
theorem gX4_speak_X6_bit_n62 : GoodIn wsX4_speak (wsX6_bit) := ggX4_speak_X6_bit
theorem dX4_speak_0 : decode cX4_speak 0 = .ok (.aload_n 0, 1) := by decide +kernel
theorem dX4_speak_1 : decode cX4_speak 1 = .ok (.getfield 37, 3) := by decide +kernel
theorem dX4_speak_4 : decode cX4_speak 4 = .ok (.aload_n 0, 1) := by decide +kernel
theorem dX4_speak_5 : decode cX4_speak 5 = .ok (.getfield 19, 3) := by decide +kernel
theorem dX4_speak_8 : decode cX4_speak 8 = .ok (.iload_n 1, 1) := by decide +kernel
theorem dX4_speak_9 : decode cX4_speak 9 = .ok (.iaload, 1) := by decide +kernel
theorem dX4_speak_10 : decode cX4_speak 10 = .ok (.iaload, 1) := by decide +kernel
theorem dX4_speak_11 : decode cX4_speak 11 = .ok (.aload_n 0, 1) := by decide +kernel
theorem dX4_speak_12 : decode cX4_speak 12 = .ok (.getfield 19, 3) := by decide +kernel
theorem dX4_speak_15 : decode cX4_speak 15 = .ok (.iload_n 2, 1) := by decide +kernel
theorem dX4_speak_16 : decode cX4_speak 16 = .ok (.iaload, 1) := by decide +kernel
theorem dX4_speak_17 : decode cX4_speak 17 = .ok (.invokestatic 62, 3) := by decide +kernel
theorem dX4_speak_20 : decode cX4_speak 20 = .ok (.ifCond .ne 7, 3) := by decide +kernel
theorem dX4_speak_23 : decode cX4_speak 23 = .ok (.iconst 1, 1) := by decide +kernel
theorem dX4_speak_24 : decode cX4_speak 24 = .ok (.goto 4, 3) := by decide +kernel
theorem dX4_speak_27 : decode cX4_speak 27 = .ok (.iconst 0, 1) := by decide +kernel
theorem dX4_speak_28 : decode cX4_speak 28 = .ok (.ireturn, 1) := by decide +kernel
theorem dX4_kneesOf_0 : decode cX4_kneesOf 0 = .ok (.iconst 0, 1) := by decide +kernel
theorem dX4_kneesOf_1 : decode cX4_kneesOf 1 = .ok (.istore_n 2, 1) := by decide +kernel
theorem dX4_kneesOf_2 : decode cX4_kneesOf 2 = .ok (.iconst 0, 1) := by decide +kernel
theorem dX4_kneesOf_3 : decode cX4_kneesOf 3 = .ok (.istore_n 3, 1) := by decide +kernel
theorem dX4_kneesOf_4 : decode cX4_kneesOf 4 = .ok (.iload_n 3, 1) := by decide +kernel
theorem dX4_kneesOf_5 : decode cX4_kneesOf 5 = .ok (.aload_n 0, 1) := by decide +kernel
theorem dX4_kneesOf_6 : decode cX4_kneesOf 6 = .ok (.getfield 9, 3) := by decide +kernel
theorem dX4_kneesOf_9 : decode cX4_kneesOf 9 = .ok (.if_icmp .ge 25, 3) := by decide +kernel
theorem dX4_kneesOf_12 : decode cX4_kneesOf 12 = .ok (.aload_n 0, 1) := by decide +kernel
theorem dX4_kneesOf_13 : decode cX4_kneesOf 13 = .ok (.getfield 19, 3) := by decide +kernel
theorem dX4_kneesOf_16 : decode cX4_kneesOf 16 = .ok (.iload_n 3, 1) := by decide +kernel
theorem dX4_kneesOf_17 : decode cX4_kneesOf 17 = .ok (.iaload, 1) := by decide +kernel
theorem dX4_kneesOf_18 : decode cX4_kneesOf 18 = .ok (.iload_n 1, 1) := by decide +kernel
theorem dX4_kneesOf_19 : decode cX4_kneesOf 19 = .ok (.if_icmp .ne 9, 3) := by decide +kernel
theorem dX4_kneesOf_22 : decode cX4_kneesOf 22 = .ok (.iload_n 2, 1) := by decide +kernel
theorem dX4_kneesOf_23 : decode cX4_kneesOf 23 = .ok (.iconst 1, 1) := by decide +kernel
theorem dX4_kneesOf_24 : decode cX4_kneesOf 24 = .ok (.iload_n 3, 1) := by decide +kernel
theorem dX4_kneesOf_25 : decode cX4_kneesOf 25 = .ok (.ishl, 1) := by decide +kernel
theorem dX4_kneesOf_26 : decode cX4_kneesOf 26 = .ok (.ior, 1) := by decide +kernel
theorem dX4_kneesOf_27 : decode cX4_kneesOf 27 = .ok (.istore_n 2, 1) := by decide +kernel
theorem dX4_kneesOf_28 : decode cX4_kneesOf 28 = .ok (.iinc 3 1, 3) := by decide +kernel
theorem dX4_kneesOf_31 : decode cX4_kneesOf 31 = .ok (.goto (-27), 3) := by decide +kernel
theorem dX4_kneesOf_34 : decode cX4_kneesOf 34 = .ok (.iload_n 2, 1) := by decide +kernel
theorem dX4_kneesOf_35 : decode cX4_kneesOf 35 = .ok (.ireturn, 1) := by decide +kernel
theorem dX4_addKnee_0 : decode cX4_addKnee 0 = .ok (.aload_n 0, 1) := by decide +kernel
theorem dX4_addKnee_1 : decode cX4_addKnee 1 = .ok (.getfield 15, 3) := by decide +kernel
theorem dX4_addKnee_4 : decode cX4_addKnee 4 = .ok (.aload_n 0, 1) := by decide +kernel
theorem dX4_addKnee_5 : decode cX4_addKnee 5 = .ok (.getfield 9, 3) := by decide +kernel
theorem dX4_addKnee_8 : decode cX4_addKnee 8 = .ok (.iload_n 1, 1) := by decide +kernel
theorem dX4_addKnee_9 : decode cX4_addKnee 9 = .ok (.iastore, 1) := by decide +kernel
theorem dX4_addKnee_10 : decode cX4_addKnee 10 = .ok (.aload_n 0, 1) := by decide +kernel
theorem dX4_addKnee_11 : decode cX4_addKnee 11 = .ok (.getfield 19, 3) := by decide +kernel
theorem dX4_addKnee_14 : decode cX4_addKnee 14 = .ok (.aload_n 0, 1) := by decide +kernel
theorem dX4_addKnee_15 : decode cX4_addKnee 15 = .ok (.getfield 9, 3) := by decide +kernel
theorem dX4_addKnee_18 : decode cX4_addKnee 18 = .ok (.iload_n 2, 1) := by decide +kernel
theorem dX4_addKnee_19 : decode cX4_addKnee 19 = .ok (.iastore, 1) := by decide +kernel
theorem dX4_addKnee_20 : decode cX4_addKnee 20 = .ok (.aload_n 0, 1) := by decide +kernel
theorem dX4_addKnee_21 : decode cX4_addKnee 21 = .ok (.getfield 22, 3) := by decide +kernel
theorem dX4_addKnee_24 : decode cX4_addKnee 24 = .ok (.aload_n 0, 1) := by decide +kernel
theorem dX4_addKnee_25 : decode cX4_addKnee 25 = .ok (.getfield 9, 3) := by decide +kernel
theorem dX4_addKnee_28 : decode cX4_addKnee 28 = .ok (.iload_n 3, 1) := by decide +kernel
theorem dX4_addKnee_29 : decode cX4_addKnee 29 = .ok (.iastore, 1) := by decide +kernel
theorem dX4_addKnee_30 : decode cX4_addKnee 30 = .ok (.aload_n 0, 1) := by decide +kernel
theorem dX4_addKnee_31 : decode cX4_addKnee 31 = .ok (.dup, 1) := by decide +kernel
theorem dX4_addKnee_32 : decode cX4_addKnee 32 = .ok (.getfield 9, 3) := by decide +kernel
theorem dX4_addKnee_35 : decode cX4_addKnee 35 = .ok (.iconst 1, 1) := by decide +kernel
theorem dX4_addKnee_36 : decode cX4_addKnee 36 = .ok (.iadd, 1) := by decide +kernel
theorem dX4_addKnee_37 : decode cX4_addKnee 37 = .ok (.putfield 9, 3) := by decide +kernel
theorem dX4_addKnee_40 : decode cX4_addKnee 40 = .ok (.return_, 1) := by decide +kernel
theorem dX4_addPerson_0 : decode cX4_addPerson 0 = .ok (.aload_n 0, 1) := by decide +kernel
theorem dX4_addPerson_1 : decode cX4_addPerson 1 = .ok (.getfield 28, 3) := by decide +kernel
theorem dX4_addPerson_4 : decode cX4_addPerson 4 = .ok (.aload_n 0, 1) := by decide +kernel
theorem dX4_addPerson_5 : decode cX4_addPerson 5 = .ok (.getfield 25, 3) := by decide +kernel
theorem dX4_addPerson_8 : decode cX4_addPerson 8 = .ok (.iload_n 1, 1) := by decide +kernel
theorem dX4_addPerson_9 : decode cX4_addPerson 9 = .ok (.iastore, 1) := by decide +kernel
theorem dX4_addPerson_10 : decode cX4_addPerson 10 = .ok (.aload_n 0, 1) := by decide +kernel
theorem dX4_addPerson_11 : decode cX4_addPerson 11 = .ok (.getfield 31, 3) := by decide +kernel
theorem dX4_addPerson_14 : decode cX4_addPerson 14 = .ok (.aload_n 0, 1) := by decide +kernel
theorem dX4_addPerson_15 : decode cX4_addPerson 15 = .ok (.getfield 25, 3) := by decide +kernel
theorem dX4_addPerson_18 : decode cX4_addPerson 18 = .ok (.iload_n 2, 1) := by decide +kernel
theorem dX4_addPerson_19 : decode cX4_addPerson 19 = .ok (.iastore, 1) := by decide +kernel
theorem dX4_addPerson_20 : decode cX4_addPerson 20 = .ok (.aload_n 0, 1) := by decide +kernel
theorem dX4_addPerson_21 : decode cX4_addPerson 21 = .ok (.getfield 34, 3) := by decide +kernel
theorem dX4_addPerson_24 : decode cX4_addPerson 24 = .ok (.aload_n 0, 1) := by decide +kernel
theorem dX4_addPerson_25 : decode cX4_addPerson 25 = .ok (.getfield 25, 3) := by decide +kernel
theorem dX4_addPerson_28 : decode cX4_addPerson 28 = .ok (.iload_n 3, 1) := by decide +kernel
theorem dX4_addPerson_29 : decode cX4_addPerson 29 = .ok (.iastore, 1) := by decide +kernel
theorem dX4_addPerson_30 : decode cX4_addPerson 30 = .ok (.aload_n 0, 1) := by decide +kernel
theorem dX4_addPerson_31 : decode cX4_addPerson 31 = .ok (.dup, 1) := by decide +kernel
theorem dX4_addPerson_32 : decode cX4_addPerson 32 = .ok (.getfield 25, 3) := by decide +kernel
theorem dX4_addPerson_35 : decode cX4_addPerson 35 = .ok (.iconst 1, 1) := by decide +kernel
theorem dX4_addPerson_36 : decode cX4_addPerson 36 = .ok (.iadd, 1) := by decide +kernel
theorem dX4_addPerson_37 : decode cX4_addPerson 37 = .ok (.putfield 25, 3) := by decide +kernel
theorem dX4_addPerson_40 : decode cX4_addPerson 40 = .ok (.return_, 1) := by decide +kernel
theorem dX4_addFeud_0 : decode cX4_addFeud 0 = .ok (.aload_n 0, 1) := by decide +kernel
theorem dX4_addFeud_1 : decode cX4_addFeud 1 = .ok (.getfield 37, 3) := by decide +kernel
theorem dX4_addFeud_4 : decode cX4_addFeud 4 = .ok (.iload_n 1, 1) := by decide +kernel
theorem dX4_addFeud_5 : decode cX4_addFeud 5 = .ok (.dup2, 1) := by decide +kernel
theorem dX4_addFeud_6 : decode cX4_addFeud 6 = .ok (.iaload, 1) := by decide +kernel
theorem dX4_addFeud_7 : decode cX4_addFeud 7 = .ok (.iconst 1, 1) := by decide +kernel
theorem dX4_addFeud_8 : decode cX4_addFeud 8 = .ok (.iload_n 2, 1) := by decide +kernel
theorem dX4_addFeud_9 : decode cX4_addFeud 9 = .ok (.ishl, 1) := by decide +kernel
theorem dX4_addFeud_10 : decode cX4_addFeud 10 = .ok (.ior, 1) := by decide +kernel
theorem dX4_addFeud_11 : decode cX4_addFeud 11 = .ok (.iastore, 1) := by decide +kernel
theorem dX4_addFeud_12 : decode cX4_addFeud 12 = .ok (.aload_n 0, 1) := by decide +kernel
theorem dX4_addFeud_13 : decode cX4_addFeud 13 = .ok (.getfield 37, 3) := by decide +kernel
theorem dX4_addFeud_16 : decode cX4_addFeud 16 = .ok (.iload_n 2, 1) := by decide +kernel
theorem dX4_addFeud_17 : decode cX4_addFeud 17 = .ok (.dup2, 1) := by decide +kernel
theorem dX4_addFeud_18 : decode cX4_addFeud 18 = .ok (.iaload, 1) := by decide +kernel
theorem dX4_addFeud_19 : decode cX4_addFeud 19 = .ok (.iconst 1, 1) := by decide +kernel
theorem dX4_addFeud_20 : decode cX4_addFeud 20 = .ok (.iload_n 1, 1) := by decide +kernel
theorem dX4_addFeud_21 : decode cX4_addFeud 21 = .ok (.ishl, 1) := by decide +kernel
theorem dX4_addFeud_22 : decode cX4_addFeud 22 = .ok (.ior, 1) := by decide +kernel
theorem dX4_addFeud_23 : decode cX4_addFeud 23 = .ok (.iastore, 1) := by decide +kernel
theorem dX4_addFeud_24 : decode cX4_addFeud 24 = .ok (.return_, 1) := by decide +kernel
set_option maxRecDepth 20000 in
theorem ggX4_seatFarms_X4_seatsFrom : GoodIn wsX4_seatFarms wsX4_seatsFrom := goodIn_r _ [6, 7, 1, 8, 9, 10, 5, 11, 12, 13, 2, 3, 4, 14, 15, 16, 17, 18, 19, 20, 21, 22, 23, 24, 25, 26, 27, 28, 29, 30, 31, 32, 33] rfl (by decide +kernel)
set_option maxRecDepth 20000 in
theorem gX4_seatFarms_X4_seatsFrom : GoodIn wsX4_seatFarms (wsV RX4 69 RX4 yX4_seatsFrom wsX4_seatsFrom) := goodIn_app (goodIn_of _ (by decide +kernel)) ggX4_seatFarms_X4_seatsFrom
theorem dX4_seatFarms_0 : decode cX4_seatFarms 0 = .ok (.aload_n 0, 1) := by decide +kernel
theorem dX4_seatFarms_1 : decode cX4_seatFarms 1 = .ok (.iconst 0, 1) := by decide +kernel
theorem dX4_seatFarms_2 : decode cX4_seatFarms 2 = .ok (.putfield 46, 3) := by decide +kernel
theorem dX4_seatFarms_5 : decode cX4_seatFarms 5 = .ok (.aload_n 0, 1) := by decide +kernel
theorem dX4_seatFarms_6 : decode cX4_seatFarms 6 = .ok (.iconst 0, 1) := by decide +kernel
theorem dX4_seatFarms_7 : decode cX4_seatFarms 7 = .ok (.invokevirtual 69, 3) := by decide +kernel
theorem dX4_seatFarms_10 : decode cX4_seatFarms 10 = .ok (.ifCond .ne 24, 3) := by decide +kernel
theorem dX4_seatFarms_13 : decode cX4_seatFarms 13 = .ok (.aload_n 0, 1) := by decide +kernel
theorem dX4_seatFarms_14 : decode cX4_seatFarms 14 = .ok (.getfield 46, 3) := by decide +kernel
theorem dX4_seatFarms_17 : decode cX4_seatFarms 17 = .ok (.iconst 5, 1) := by decide +kernel
theorem dX4_seatFarms_18 : decode cX4_seatFarms 18 = .ok (.if_icmp .ge 16, 3) := by decide +kernel
theorem dX4_seatFarms_21 : decode cX4_seatFarms 21 = .ok (.aload_n 0, 1) := by decide +kernel
theorem dX4_seatFarms_22 : decode cX4_seatFarms 22 = .ok (.dup, 1) := by decide +kernel
theorem dX4_seatFarms_23 : decode cX4_seatFarms 23 = .ok (.getfield 46, 3) := by decide +kernel
theorem dX4_seatFarms_26 : decode cX4_seatFarms 26 = .ok (.iconst 1, 1) := by decide +kernel
theorem dX4_seatFarms_27 : decode cX4_seatFarms 27 = .ok (.iadd, 1) := by decide +kernel
theorem dX4_seatFarms_28 : decode cX4_seatFarms 28 = .ok (.putfield 46, 3) := by decide +kernel
theorem dX4_seatFarms_31 : decode cX4_seatFarms 31 = .ok (.goto (-26), 3) := by decide +kernel
theorem dX4_seatFarms_34 : decode cX4_seatFarms 34 = .ok (.return_, 1) := by decide +kernel
set_option maxRecDepth 20000 in
theorem ggX4_seatsFrom_X4_kneesOf : GoodIn wsX4_seatsFrom wsX4_kneesOf := goodIn_r _ [7, 8, 9, 21, 22, 23, 24, 25, 26, 27, 28, 29, 30, 31, 32] rfl (by decide +kernel)
set_option maxRecDepth 20000 in
theorem gX4_seatsFrom_X4_kneesOf : GoodIn wsX4_seatsFrom (wsV RX4 73 RX4 yX4_kneesOf wsX4_kneesOf) := goodIn_app (goodIn_of _ (by decide +kernel)) ggX4_seatsFrom_X4_kneesOf
set_option maxRecDepth 20000 in
theorem ggX4_seatsFrom_X4_seatsFrom : GoodIn wsX4_seatsFrom wsX4_seatsFrom := goodIn_r _ [0, 1, 2, 3, 4, 5, 6, 7, 8, 9, 10, 11, 12, 13, 14, 15, 16, 17, 18, 19, 20, 21, 22, 23, 24, 25, 26, 27, 28, 29, 30, 31, 32] rfl (by decide +kernel)
set_option maxRecDepth 20000 in
theorem gX4_seatsFrom_X4_seatsFrom : GoodIn wsX4_seatsFrom (wsV RX4 69 RX4 yX4_seatsFrom wsX4_seatsFrom) := goodIn_app (goodIn_of _ (by decide +kernel)) ggX4_seatsFrom_X4_seatsFrom
set_option maxRecDepth 20000 in
theorem ggX4_seatsFrom_X4_hasPeaceAt : GoodIn wsX4_seatsFrom wsX4_hasPeaceAt := goodIn_r _ [16, 1, 17, 18, 19, 20, 21, 22, 23, 24, 25, 26, 27, 28, 29, 30, 31, 32] rfl (by decide +kernel)
set_option maxRecDepth 20000 in
theorem gX4_seatsFrom_X4_hasPeaceAt : GoodIn wsX4_seatsFrom (wsV RX4 77 RX4 yX4_hasPeaceAt wsX4_hasPeaceAt) := goodIn_app (goodIn_of _ (by decide +kernel)) ggX4_seatsFrom_X4_hasPeaceAt
theorem dX4_seatsFrom_0 : decode cX4_seatsFrom 0 = .ok (.iload_n 1, 1) := by decide +kernel
theorem dX4_seatsFrom_1 : decode cX4_seatsFrom 1 = .ok (.iconst 5, 1) := by decide +kernel
theorem dX4_seatsFrom_2 : decode cX4_seatsFrom 2 = .ok (.if_icmp .lt 5, 3) := by decide +kernel
theorem dX4_seatsFrom_5 : decode cX4_seatsFrom 5 = .ok (.iconst 1, 1) := by decide +kernel
theorem dX4_seatsFrom_6 : decode cX4_seatsFrom 6 = .ok (.ireturn, 1) := by decide +kernel
theorem dX4_seatsFrom_7 : decode cX4_seatsFrom 7 = .ok (.aload_n 0, 1) := by decide +kernel
theorem dX4_seatsFrom_8 : decode cX4_seatsFrom 8 = .ok (.getfield 43, 3) := by decide +kernel
theorem dX4_seatsFrom_11 : decode cX4_seatsFrom 11 = .ok (.iload_n 1, 1) := by decide +kernel
theorem dX4_seatsFrom_12 : decode cX4_seatsFrom 12 = .ok (.bipush (-9), 2) := by decide +kernel
theorem dX4_seatsFrom_14 : decode cX4_seatsFrom 14 = .ok (.iastore, 1) := by decide +kernel
theorem dX4_seatsFrom_15 : decode cX4_seatsFrom 15 = .ok (.aload_n 0, 1) := by decide +kernel
theorem dX4_seatsFrom_16 : decode cX4_seatsFrom 16 = .ok (.iload_n 1, 1) := by decide +kernel
theorem dX4_seatsFrom_17 : decode cX4_seatsFrom 17 = .ok (.invokevirtual 73, 3) := by decide +kernel
theorem dX4_seatsFrom_20 : decode cX4_seatsFrom 20 = .ok (.ifCond .ne 11, 3) := by decide +kernel
theorem dX4_seatsFrom_23 : decode cX4_seatsFrom 23 = .ok (.aload_n 0, 1) := by decide +kernel
theorem dX4_seatsFrom_24 : decode cX4_seatsFrom 24 = .ok (.iload_n 1, 1) := by decide +kernel
theorem dX4_seatsFrom_25 : decode cX4_seatsFrom 25 = .ok (.iconst 1, 1) := by decide +kernel
theorem dX4_seatsFrom_26 : decode cX4_seatsFrom 26 = .ok (.iadd, 1) := by decide +kernel
theorem dX4_seatsFrom_27 : decode cX4_seatsFrom 27 = .ok (.invokevirtual 69, 3) := by decide +kernel
theorem dX4_seatsFrom_30 : decode cX4_seatsFrom 30 = .ok (.ireturn, 1) := by decide +kernel
theorem dX4_seatsFrom_31 : decode cX4_seatsFrom 31 = .ok (.iconst 0, 1) := by decide +kernel
theorem dX4_seatsFrom_32 : decode cX4_seatsFrom 32 = .ok (.istore_n 2, 1) := by decide +kernel
theorem dX4_seatsFrom_33 : decode cX4_seatsFrom 33 = .ok (.iload_n 2, 1) := by decide +kernel
theorem dX4_seatsFrom_34 : decode cX4_seatsFrom 34 = .ok (.aload_n 0, 1) := by decide +kernel
theorem dX4_seatsFrom_35 : decode cX4_seatsFrom 35 = .ok (.getfield 46, 3) := by decide +kernel
theorem dX4_seatsFrom_38 : decode cX4_seatsFrom 38 = .ok (.if_icmp .ge 37, 3) := by decide +kernel
theorem dX4_seatsFrom_41 : decode cX4_seatsFrom 41 = .ok (.aload_n 0, 1) := by decide +kernel
theorem dX4_seatsFrom_42 : decode cX4_seatsFrom 42 = .ok (.iload_n 2, 1) := by decide +kernel
theorem dX4_seatsFrom_43 : decode cX4_seatsFrom 43 = .ok (.iload_n 1, 1) := by decide +kernel
theorem dX4_seatsFrom_44 : decode cX4_seatsFrom 44 = .ok (.invokevirtual 77, 3) := by decide +kernel
theorem dX4_seatsFrom_47 : decode cX4_seatsFrom 47 = .ok (.ifCond .eq 22, 3) := by decide +kernel
theorem dX4_seatsFrom_50 : decode cX4_seatsFrom 50 = .ok (.aload_n 0, 1) := by decide +kernel
theorem dX4_seatsFrom_51 : decode cX4_seatsFrom 51 = .ok (.getfield 43, 3) := by decide +kernel
theorem dX4_seatsFrom_54 : decode cX4_seatsFrom 54 = .ok (.iload_n 1, 1) := by decide +kernel
theorem dX4_seatsFrom_55 : decode cX4_seatsFrom 55 = .ok (.iload_n 2, 1) := by decide +kernel
theorem dX4_seatsFrom_56 : decode cX4_seatsFrom 56 = .ok (.iastore, 1) := by decide +kernel
theorem dX4_seatsFrom_57 : decode cX4_seatsFrom 57 = .ok (.aload_n 0, 1) := by decide +kernel
theorem dX4_seatsFrom_58 : decode cX4_seatsFrom 58 = .ok (.iload_n 1, 1) := by decide +kernel
theorem dX4_seatsFrom_59 : decode cX4_seatsFrom 59 = .ok (.iconst 1, 1) := by decide +kernel
theorem dX4_seatsFrom_60 : decode cX4_seatsFrom 60 = .ok (.iadd, 1) := by decide +kernel
theorem dX4_seatsFrom_61 : decode cX4_seatsFrom 61 = .ok (.invokevirtual 69, 3) := by decide +kernel
theorem dX4_seatsFrom_64 : decode cX4_seatsFrom 64 = .ok (.ifCond .eq 5, 3) := by decide +kernel
theorem dX4_seatsFrom_67 : decode cX4_seatsFrom 67 = .ok (.iconst 1, 1) := by decide +kernel
theorem dX4_seatsFrom_68 : decode cX4_seatsFrom 68 = .ok (.ireturn, 1) := by decide +kernel
theorem dX4_seatsFrom_69 : decode cX4_seatsFrom 69 = .ok (.iinc 2 1, 3) := by decide +kernel
theorem dX4_seatsFrom_72 : decode cX4_seatsFrom 72 = .ok (.goto (-39), 3) := by decide +kernel
theorem dX4_seatsFrom_75 : decode cX4_seatsFrom 75 = .ok (.iconst 0, 1) := by decide +kernel
theorem dX4_seatsFrom_76 : decode cX4_seatsFrom 76 = .ok (.ireturn, 1) := by decide +kernel
set_option maxRecDepth 20000 in
theorem ggX4_hasPeaceAt_X6_bit : GoodIn wsX4_hasPeaceAt wsX6_bit := goodIn_r _ [5] rfl (by decide +kernel)
set_option maxRecDepth 20000 in
theorem gX4_hasPeaceAt_X6_bit_n62 : GoodIn wsX4_hasPeaceAt (wsX6_bit) := ggX4_hasPeaceAt_X6_bit
theorem dX4_hasPeaceAt_0 : decode cX4_hasPeaceAt 0 = .ok (.iconst 0, 1) := by decide +kernel
theorem dX4_hasPeaceAt_1 : decode cX4_hasPeaceAt 1 = .ok (.istore_n 3, 1) := by decide +kernel
theorem dX4_hasPeaceAt_2 : decode cX4_hasPeaceAt 2 = .ok (.iload_n 3, 1) := by decide +kernel
theorem dX4_hasPeaceAt_3 : decode cX4_hasPeaceAt 3 = .ok (.iload_n 2, 1) := by decide +kernel
theorem dX4_hasPeaceAt_4 : decode cX4_hasPeaceAt 4 = .ok (.if_icmp .ge 35, 3) := by decide +kernel
theorem dX4_hasPeaceAt_7 : decode cX4_hasPeaceAt 7 = .ok (.aload_n 0, 1) := by decide +kernel
theorem dX4_hasPeaceAt_8 : decode cX4_hasPeaceAt 8 = .ok (.getfield 43, 3) := by decide +kernel
theorem dX4_hasPeaceAt_11 : decode cX4_hasPeaceAt 11 = .ok (.iload_n 3, 1) := by decide +kernel
theorem dX4_hasPeaceAt_12 : decode cX4_hasPeaceAt 12 = .ok (.iaload, 1) := by decide +kernel
theorem dX4_hasPeaceAt_13 : decode cX4_hasPeaceAt 13 = .ok (.iload_n 1, 1) := by decide +kernel
theorem dX4_hasPeaceAt_14 : decode cX4_hasPeaceAt 14 = .ok (.if_icmp .ne 19, 3) := by decide +kernel
theorem dX4_hasPeaceAt_17 : decode cX4_hasPeaceAt 17 = .ok (.aload_n 0, 1) := by decide +kernel
theorem dX4_hasPeaceAt_18 : decode cX4_hasPeaceAt 18 = .ok (.getfield 37, 3) := by decide +kernel
theorem dX4_hasPeaceAt_21 : decode cX4_hasPeaceAt 21 = .ok (.iload_n 2, 1) := by decide +kernel
theorem dX4_hasPeaceAt_22 : decode cX4_hasPeaceAt 22 = .ok (.iaload, 1) := by decide +kernel
theorem dX4_hasPeaceAt_23 : decode cX4_hasPeaceAt 23 = .ok (.iload_n 3, 1) := by decide +kernel
theorem dX4_hasPeaceAt_24 : decode cX4_hasPeaceAt 24 = .ok (.invokestatic 62, 3) := by decide +kernel
theorem dX4_hasPeaceAt_27 : decode cX4_hasPeaceAt 27 = .ok (.iconst 1, 1) := by decide +kernel
theorem dX4_hasPeaceAt_28 : decode cX4_hasPeaceAt 28 = .ok (.if_icmp .ne 5, 3) := by decide +kernel
theorem dX4_hasPeaceAt_31 : decode cX4_hasPeaceAt 31 = .ok (.iconst 0, 1) := by decide +kernel
theorem dX4_hasPeaceAt_32 : decode cX4_hasPeaceAt 32 = .ok (.ireturn, 1) := by decide +kernel
theorem dX4_hasPeaceAt_33 : decode cX4_hasPeaceAt 33 = .ok (.iinc 3 1, 3) := by decide +kernel
theorem dX4_hasPeaceAt_36 : decode cX4_hasPeaceAt 36 = .ok (.goto (-34), 3) := by decide +kernel
theorem dX4_hasPeaceAt_39 : decode cX4_hasPeaceAt 39 = .ok (.iconst 1, 1) := by decide +kernel
theorem dX4_hasPeaceAt_40 : decode cX4_hasPeaceAt 40 = .ok (.ireturn, 1) := by decide +kernel
theorem dX5_init_0 : decode cX5_init 0 = .ok (.aload_n 0, 1) := by decide +kernel
theorem dX5_init_1 : decode cX5_init 1 = .ok (.invokespecial 3, 3) := by decide +kernel
theorem dX5_init_4 : decode cX5_init 4 = .ok (.aload_n 0, 1) := by decide +kernel
theorem dX5_init_5 : decode cX5_init 5 = .ok (.aconst_null, 1) := by decide +kernel
theorem dX5_init_6 : decode cX5_init 6 = .ok (.putfield 9, 3) := by decide +kernel
theorem dX5_init_9 : decode cX5_init 9 = .ok (.aload_n 0, 1) := by decide +kernel
theorem dX5_init_10 : decode cX5_init 10 = .ok (.iconst 0, 1) := by decide +kernel
theorem dX5_init_11 : decode cX5_init 11 = .ok (.putfield 15, 3) := by decide +kernel
theorem dX5_init_14 : decode cX5_init 14 = .ok (.aload_n 0, 1) := by decide +kernel
theorem dX5_init_15 : decode cX5_init 15 = .ok (.iconst 0, 1) := by decide +kernel
theorem dX5_init_16 : decode cX5_init 16 = .ok (.putfield 19, 3) := by decide +kernel
theorem dX5_init_19 : decode cX5_init 19 = .ok (.aload_n 0, 1) := by decide +kernel
theorem dX5_init_20 : decode cX5_init 20 = .ok (.aconst_null, 1) := by decide +kernel
theorem dX5_init_21 : decode cX5_init 21 = .ok (.putfield 22, 3) := by decide +kernel
theorem dX5_init_24 : decode cX5_init 24 = .ok (.aload_n 0, 1) := by decide +kernel
theorem dX5_init_25 : decode cX5_init 25 = .ok (.iconst 3, 1) := by decide +kernel
theorem dX5_init_26 : decode cX5_init 26 = .ok (.newarray .int, 2) := by decide +kernel
theorem dX5_init_28 : decode cX5_init 28 = .ok (.putfield 26, 3) := by decide +kernel
theorem dX5_init_31 : decode cX5_init 31 = .ok (.aload_n 0, 1) := by decide +kernel
theorem dX5_init_32 : decode cX5_init 32 = .ok (.sipush 256, 3) := by decide +kernel
theorem dX5_init_35 : decode cX5_init 35 = .ok (.putfield 30, 3) := by decide +kernel
theorem dX5_init_38 : decode cX5_init 38 = .ok (.aload_n 0, 1) := by decide +kernel
theorem dX5_init_39 : decode cX5_init 39 = .ok (.iconst 0, 1) := by decide +kernel
theorem dX5_init_40 : decode cX5_init 40 = .ok (.putfield 33, 3) := by decide +kernel
theorem dX5_init_43 : decode cX5_init 43 = .ok (.aload_n 0, 1) := by decide +kernel
theorem dX5_init_44 : decode cX5_init 44 = .ok (.iconst 0, 1) := by decide +kernel
theorem dX5_init_45 : decode cX5_init 45 = .ok (.putfield 36, 3) := by decide +kernel
theorem dX5_init_48 : decode cX5_init 48 = .ok (.aload_n 0, 1) := by decide +kernel
theorem dX5_init_49 : decode cX5_init 49 = .ok (.iconst 0, 1) := by decide +kernel
theorem dX5_init_50 : decode cX5_init 50 = .ok (.putfield 39, 3) := by decide +kernel
theorem dX5_init_53 : decode cX5_init 53 = .ok (.return_, 1) := by decide +kernel
set_option maxRecDepth 20000 in
theorem ggX5_reads_X4_desert : GoodIn wsX5_reads wsX4_desert := goodIn_r _ [15, 16, 17, 18, 19, 20, 21, 22, 23, 88, 89, 90, 91, 92, 93, 94, 95, 96, 97, 98, 99] rfl (by decide +kernel)
set_option maxRecDepth 20000 in
theorem gX5_reads_X4_desert : GoodIn wsX5_reads (wsV RX5 48 RX4 yX4_desert wsX4_desert) := goodIn_app (goodIn_of _ (by decide +kernel)) ggX5_reads_X4_desert
set_option maxRecDepth 20000 in
theorem ggX5_reads_X5_takeToken : GoodIn wsX5_reads wsX5_takeToken := goodIn_r _ [28, 7, 6, 1, 29, 10, 30, 31, 27, 32, 33, 34, 35, 36, 37, 2, 3, 4, 5, 79, 80, 81, 82, 83, 84, 85, 86, 87] rfl (by decide +kernel)
set_option maxRecDepth 20000 in
theorem gX5_reads_X5_takeToken : GoodIn wsX5_reads (wsV RX5 53 RX5 yX5_takeToken wsX5_takeToken) := goodIn_app (goodIn_of _ (by decide +kernel)) ggX5_reads_X5_takeToken
set_option maxRecDepth 20000 in
theorem ggX5_reads_X5_readsItem : GoodIn wsX5_reads wsX5_readsItem := goodIn_r _ [41, 10, 9, 42, 43, 44, 45, 46, 47, 48, 49, 50, 51, 52, 53, 54, 55, 56, 27, 57, 37, 24, 25, 26, 28, 7, 6, 1, 29, 30, 31, 32, 33, 34, 35, 36, 2, 3, 4, 5, 58, 59, 60, 61, 62, 63, 14, 64, 65, 16, 66, 67, 68, 69, 70, 71, 72, 17, 73, 74, 75, 76, 77, 78, 18, 79, 80, 81, 82, 83, 84, 85, 86, 87, 88, 89, 90, 91, 92, 93, 94, 95, 96, 97, 98, 99] rfl (by decide +kernel)
set_option maxRecDepth 20000 in
theorem gX5_reads_X5_readsItem : GoodIn wsX5_reads (wsV RX5 56 RX5 yX5_readsItem wsX5_readsItem) := goodIn_app (goodIn_of _ (by decide +kernel)) ggX5_reads_X5_readsItem
theorem dX5_reads_0 : decode cX5_reads 0 = .ok (.aload_n 0, 1) := by decide +kernel
theorem dX5_reads_1 : decode cX5_reads 1 = .ok (.aload_n 1, 1) := by decide +kernel
theorem dX5_reads_2 : decode cX5_reads 2 = .ok (.putfield 9, 3) := by decide +kernel
theorem dX5_reads_5 : decode cX5_reads 5 = .ok (.aload_n 0, 1) := by decide +kernel
theorem dX5_reads_6 : decode cX5_reads 6 = .ok (.iload_n 2, 1) := by decide +kernel
theorem dX5_reads_7 : decode cX5_reads 7 = .ok (.aload_n 1, 1) := by decide +kernel
theorem dX5_reads_8 : decode cX5_reads 8 = .ok (.arraylength, 1) := by decide +kernel
theorem dX5_reads_9 : decode cX5_reads 9 = .ok (.invokestatic 42, 3) := by decide +kernel
theorem dX5_reads_12 : decode cX5_reads 12 = .ok (.putfield 15, 3) := by decide +kernel
theorem dX5_reads_15 : decode cX5_reads 15 = .ok (.aload_n 0, 1) := by decide +kernel
theorem dX5_reads_16 : decode cX5_reads 16 = .ok (.iconst 0, 1) := by decide +kernel
theorem dX5_reads_17 : decode cX5_reads 17 = .ok (.putfield 19, 3) := by decide +kernel
theorem dX5_reads_20 : decode cX5_reads 20 = .ok (.aload_n 0, 1) := by decide +kernel
theorem dX5_reads_21 : decode cX5_reads 21 = .ok (.iconst 0, 1) := by decide +kernel
theorem dX5_reads_22 : decode cX5_reads 22 = .ok (.putfield 39, 3) := by decide +kernel
theorem dX5_reads_25 : decode cX5_reads 25 = .ok (.aload_n 0, 1) := by decide +kernel
theorem dX5_reads_26 : decode cX5_reads 26 = .ok (.aload_n 3, 1) := by decide +kernel
theorem dX5_reads_27 : decode cX5_reads 27 = .ok (.putfield 22, 3) := by decide +kernel
theorem dX5_reads_30 : decode cX5_reads 30 = .ok (.aload_n 0, 1) := by decide +kernel
theorem dX5_reads_31 : decode cX5_reads 31 = .ok (.getfield 22, 3) := by decide +kernel
theorem dX5_reads_34 : decode cX5_reads 34 = .ok (.invokevirtual 48, 3) := by decide +kernel
theorem dX5_reads_37 : decode cX5_reads 37 = .ok (.aload_n 0, 1) := by decide +kernel
theorem dX5_reads_38 : decode cX5_reads 38 = .ok (.invokevirtual 53, 3) := by decide +kernel
theorem dX5_reads_41 : decode cX5_reads 41 = .ok (.aload_n 0, 1) := by decide +kernel
theorem dX5_reads_42 : decode cX5_reads 42 = .ok (.getfield 30, 3) := by decide +kernel
theorem dX5_reads_45 : decode cX5_reads 45 = .ok (.sipush 256, 3) := by decide +kernel
theorem dX5_reads_48 : decode cX5_reads 48 = .ok (.if_icmp .eq 39, 3) := by decide +kernel
theorem dX5_reads_51 : decode cX5_reads 51 = .ok (.aload_n 0, 1) := by decide +kernel
theorem dX5_reads_52 : decode cX5_reads 52 = .ok (.getfield 39, 3) := by decide +kernel
theorem dX5_reads_55 : decode cX5_reads 55 = .ok (.sipush 180, 3) := by decide +kernel
theorem dX5_reads_58 : decode cX5_reads 58 = .ok (.if_icmp .ge 29, 3) := by decide +kernel
theorem dX5_reads_61 : decode cX5_reads 61 = .ok (.aload_n 0, 1) := by decide +kernel
theorem dX5_reads_62 : decode cX5_reads 62 = .ok (.invokevirtual 56, 3) := by decide +kernel
theorem dX5_reads_65 : decode cX5_reads 65 = .ok (.ifCond .ne 5, 3) := by decide +kernel
theorem dX5_reads_68 : decode cX5_reads 68 = .ok (.iconst 0, 1) := by decide +kernel
theorem dX5_reads_69 : decode cX5_reads 69 = .ok (.ireturn, 1) := by decide +kernel
theorem dX5_reads_70 : decode cX5_reads 70 = .ok (.aload_n 0, 1) := by decide +kernel
theorem dX5_reads_71 : decode cX5_reads 71 = .ok (.dup, 1) := by decide +kernel
theorem dX5_reads_72 : decode cX5_reads 72 = .ok (.getfield 39, 3) := by decide +kernel
theorem dX5_reads_75 : decode cX5_reads 75 = .ok (.iconst 1, 1) := by decide +kernel
theorem dX5_reads_76 : decode cX5_reads 76 = .ok (.iadd, 1) := by decide +kernel
theorem dX5_reads_77 : decode cX5_reads 77 = .ok (.putfield 39, 3) := by decide +kernel
theorem dX5_reads_80 : decode cX5_reads 80 = .ok (.aload_n 0, 1) := by decide +kernel
theorem dX5_reads_81 : decode cX5_reads 81 = .ok (.invokevirtual 53, 3) := by decide +kernel
theorem dX5_reads_84 : decode cX5_reads 84 = .ok (.goto (-43), 3) := by decide +kernel
theorem dX5_reads_87 : decode cX5_reads 87 = .ok (.iconst 1, 1) := by decide +kernel
theorem dX5_reads_88 : decode cX5_reads 88 = .ok (.ireturn, 1) := by decide +kernel
set_option maxRecDepth 20000 in
theorem ggX5_readsItem_X5_readsNumbers : GoodIn wsX5_readsItem wsX5_readsNumbers := goodIn_r _ [19, 6, 1, 20, 21, 22, 23, 18, 24, 25, 26, 27, 28, 29, 30, 31, 32, 33, 34, 35, 36, 37, 38, 39, 40, 41, 42, 65, 66, 67, 68, 69, 70, 71, 72, 73] rfl (by decide +kernel)
set_option maxRecDepth 20000 in
theorem gX5_readsItem_X5_readsNumbers : GoodIn wsX5_readsItem (wsV RX5 69 RX5 yX5_readsNumbers wsX5_readsNumbers) := goodIn_app (goodIn_of _ (by decide +kernel)) ggX5_readsItem_X5_readsNumbers
set_option maxRecDepth 20000 in
theorem ggX5_readsItem_X4_addKnee : GoodIn wsX5_readsItem wsX4_addKnee := goodIn_r _ [47, 48, 49, 50, 51, 74, 75, 76, 77, 78, 79, 80, 81, 82, 83, 84, 85] rfl (by decide +kernel)
set_option maxRecDepth 20000 in
theorem gX5_readsItem_X4_addKnee : GoodIn wsX5_readsItem (wsV RX5 73 RX4 yX4_addKnee wsX4_addKnee) := goodIn_app (goodIn_of _ (by decide +kernel)) ggX5_readsItem_X4_addKnee
set_option maxRecDepth 20000 in
theorem ggX5_readsItem_X4_addPerson : GoodIn wsX5_readsItem wsX4_addPerson := goodIn_r _ [55, 56, 57, 58, 59, 74, 75, 76, 77, 78, 79, 80, 81, 82, 83, 84, 85] rfl (by decide +kernel)
set_option maxRecDepth 20000 in
theorem gX5_readsItem_X4_addPerson : GoodIn wsX5_readsItem (wsV RX5 86 RX4 yX4_addPerson wsX4_addPerson) := goodIn_app (goodIn_of _ (by decide +kernel)) ggX5_readsItem_X4_addPerson
set_option maxRecDepth 20000 in
theorem ggX5_readsItem_X4_addFeud : GoodIn wsX5_readsItem wsX4_addFeud := goodIn_r _ [63, 64, 74, 75, 76, 77, 78, 79, 80, 81, 82, 83, 84, 85] rfl (by decide +kernel)
set_option maxRecDepth 20000 in
theorem gX5_readsItem_X4_addFeud : GoodIn wsX5_readsItem (wsV RX5 95 RX4 yX4_addFeud wsX4_addFeud) := goodIn_app (goodIn_of _ (by decide +kernel)) ggX5_readsItem_X4_addFeud
set_option maxRecDepth 20000 in
theorem ggX5_readsItem_X5_takeToken : GoodIn wsX5_readsItem wsX5_takeToken := goodIn_r _ [24, 25, 26, 27, 28, 1, 29, 30, 18, 31, 32, 33, 34, 35, 20, 36, 37, 38, 39, 65, 66, 67, 68, 69, 70, 71, 72, 73] rfl (by decide +kernel)
set_option maxRecDepth 20000 in
theorem gX5_readsItem_X5_takeToken : GoodIn wsX5_readsItem (wsV RX5 53 RX5 yX5_takeToken wsX5_takeToken) := goodIn_app (goodIn_of _ (by decide +kernel)) ggX5_readsItem_X5_takeToken
theorem dX5_readsItem_0 : decode cX5_readsItem 0 = .ok (.aload_n 0, 1) := by decide +kernel
theorem dX5_readsItem_1 : decode cX5_readsItem 1 = .ok (.getfield 30, 3) := by decide +kernel
theorem dX5_readsItem_4 : decode cX5_readsItem 4 = .ok (.lookupswitch 244 #[(107, 44), (111, 206), (112, 99), (120, 154)], 44) := by decide +kernel
theorem dX5_readsItem_48 : decode cX5_readsItem 48 = .ok (.aload_n 0, 1) := by decide +kernel
theorem dX5_readsItem_49 : decode cX5_readsItem 49 = .ok (.getfield 22, 3) := by decide +kernel
theorem dX5_readsItem_52 : decode cX5_readsItem 52 = .ok (.getfield 60, 3) := by decide +kernel
theorem dX5_readsItem_55 : decode cX5_readsItem 55 = .ok (.bipush 9, 2) := by decide +kernel
theorem dX5_readsItem_57 : decode cX5_readsItem 57 = .ok (.if_icmp .ge 16, 3) := by decide +kernel
theorem dX5_readsItem_60 : decode cX5_readsItem 60 = .ok (.aload_n 0, 1) := by decide +kernel
theorem dX5_readsItem_61 : decode cX5_readsItem 61 = .ok (.getstatic 63, 3) := by decide +kernel
theorem dX5_readsItem_64 : decode cX5_readsItem 64 = .ok (.getstatic 66, 3) := by decide +kernel
theorem dX5_readsItem_67 : decode cX5_readsItem 67 = .ok (.invokevirtual 69, 3) := by decide +kernel
theorem dX5_readsItem_70 : decode cX5_readsItem 70 = .ok (.ifCond .ne 5, 3) := by decide +kernel
theorem dX5_readsItem_73 : decode cX5_readsItem 73 = .ok (.iconst 0, 1) := by decide +kernel
theorem dX5_readsItem_74 : decode cX5_readsItem 74 = .ok (.ireturn, 1) := by decide +kernel
theorem dX5_readsItem_75 : decode cX5_readsItem 75 = .ok (.aload_n 0, 1) := by decide +kernel
theorem dX5_readsItem_76 : decode cX5_readsItem 76 = .ok (.getfield 22, 3) := by decide +kernel
theorem dX5_readsItem_79 : decode cX5_readsItem 79 = .ok (.aload_n 0, 1) := by decide +kernel
theorem dX5_readsItem_80 : decode cX5_readsItem 80 = .ok (.getfield 26, 3) := by decide +kernel
theorem dX5_readsItem_83 : decode cX5_readsItem 83 = .ok (.iconst 0, 1) := by decide +kernel
theorem dX5_readsItem_84 : decode cX5_readsItem 84 = .ok (.iaload, 1) := by decide +kernel
theorem dX5_readsItem_85 : decode cX5_readsItem 85 = .ok (.aload_n 0, 1) := by decide +kernel
theorem dX5_readsItem_86 : decode cX5_readsItem 86 = .ok (.getfield 26, 3) := by decide +kernel
theorem dX5_readsItem_89 : decode cX5_readsItem 89 = .ok (.iconst 1, 1) := by decide +kernel
theorem dX5_readsItem_90 : decode cX5_readsItem 90 = .ok (.iaload, 1) := by decide +kernel
theorem dX5_readsItem_91 : decode cX5_readsItem 91 = .ok (.aload_n 0, 1) := by decide +kernel
theorem dX5_readsItem_92 : decode cX5_readsItem 92 = .ok (.getfield 26, 3) := by decide +kernel
theorem dX5_readsItem_95 : decode cX5_readsItem 95 = .ok (.iconst 2, 1) := by decide +kernel
theorem dX5_readsItem_96 : decode cX5_readsItem 96 = .ok (.iaload, 1) := by decide +kernel
theorem dX5_readsItem_97 : decode cX5_readsItem 97 = .ok (.invokevirtual 73, 3) := by decide +kernel
theorem dX5_readsItem_100 : decode cX5_readsItem 100 = .ok (.goto 150, 3) := by decide +kernel
theorem dX5_readsItem_103 : decode cX5_readsItem 103 = .ok (.aload_n 0, 1) := by decide +kernel
theorem dX5_readsItem_104 : decode cX5_readsItem 104 = .ok (.getfield 22, 3) := by decide +kernel
theorem dX5_readsItem_107 : decode cX5_readsItem 107 = .ok (.getfield 77, 3) := by decide +kernel
theorem dX5_readsItem_110 : decode cX5_readsItem 110 = .ok (.bipush 6, 2) := by decide +kernel
theorem dX5_readsItem_112 : decode cX5_readsItem 112 = .ok (.if_icmp .ge 16, 3) := by decide +kernel
theorem dX5_readsItem_115 : decode cX5_readsItem 115 = .ok (.aload_n 0, 1) := by decide +kernel
theorem dX5_readsItem_116 : decode cX5_readsItem 116 = .ok (.getstatic 80, 3) := by decide +kernel
theorem dX5_readsItem_119 : decode cX5_readsItem 119 = .ok (.getstatic 83, 3) := by decide +kernel
theorem dX5_readsItem_122 : decode cX5_readsItem 122 = .ok (.invokevirtual 69, 3) := by decide +kernel
theorem dX5_readsItem_125 : decode cX5_readsItem 125 = .ok (.ifCond .ne 5, 3) := by decide +kernel
theorem dX5_readsItem_128 : decode cX5_readsItem 128 = .ok (.iconst 0, 1) := by decide +kernel
theorem dX5_readsItem_129 : decode cX5_readsItem 129 = .ok (.ireturn, 1) := by decide +kernel
theorem dX5_readsItem_130 : decode cX5_readsItem 130 = .ok (.aload_n 0, 1) := by decide +kernel
theorem dX5_readsItem_131 : decode cX5_readsItem 131 = .ok (.getfield 22, 3) := by decide +kernel
theorem dX5_readsItem_134 : decode cX5_readsItem 134 = .ok (.aload_n 0, 1) := by decide +kernel
theorem dX5_readsItem_135 : decode cX5_readsItem 135 = .ok (.getfield 26, 3) := by decide +kernel
theorem dX5_readsItem_138 : decode cX5_readsItem 138 = .ok (.iconst 0, 1) := by decide +kernel
theorem dX5_readsItem_139 : decode cX5_readsItem 139 = .ok (.iaload, 1) := by decide +kernel
theorem dX5_readsItem_140 : decode cX5_readsItem 140 = .ok (.aload_n 0, 1) := by decide +kernel
theorem dX5_readsItem_141 : decode cX5_readsItem 141 = .ok (.getfield 26, 3) := by decide +kernel
theorem dX5_readsItem_144 : decode cX5_readsItem 144 = .ok (.iconst 1, 1) := by decide +kernel
theorem dX5_readsItem_145 : decode cX5_readsItem 145 = .ok (.iaload, 1) := by decide +kernel
theorem dX5_readsItem_146 : decode cX5_readsItem 146 = .ok (.aload_n 0, 1) := by decide +kernel
theorem dX5_readsItem_147 : decode cX5_readsItem 147 = .ok (.getfield 26, 3) := by decide +kernel
theorem dX5_readsItem_150 : decode cX5_readsItem 150 = .ok (.iconst 2, 1) := by decide +kernel
theorem dX5_readsItem_151 : decode cX5_readsItem 151 = .ok (.iaload, 1) := by decide +kernel
theorem dX5_readsItem_152 : decode cX5_readsItem 152 = .ok (.invokevirtual 86, 3) := by decide +kernel
theorem dX5_readsItem_155 : decode cX5_readsItem 155 = .ok (.goto 95, 3) := by decide +kernel
theorem dX5_readsItem_158 : decode cX5_readsItem 158 = .ok (.aload_n 0, 1) := by decide +kernel
theorem dX5_readsItem_159 : decode cX5_readsItem 159 = .ok (.getstatic 89, 3) := by decide +kernel
theorem dX5_readsItem_162 : decode cX5_readsItem 162 = .ok (.getstatic 92, 3) := by decide +kernel
theorem dX5_readsItem_165 : decode cX5_readsItem 165 = .ok (.invokevirtual 69, 3) := by decide +kernel
theorem dX5_readsItem_168 : decode cX5_readsItem 168 = .ok (.ifCond .eq 18, 3) := by decide +kernel
theorem dX5_readsItem_171 : decode cX5_readsItem 171 = .ok (.aload_n 0, 1) := by decide +kernel
theorem dX5_readsItem_172 : decode cX5_readsItem 172 = .ok (.getfield 26, 3) := by decide +kernel
theorem dX5_readsItem_175 : decode cX5_readsItem 175 = .ok (.iconst 0, 1) := by decide +kernel
theorem dX5_readsItem_176 : decode cX5_readsItem 176 = .ok (.iaload, 1) := by decide +kernel
theorem dX5_readsItem_177 : decode cX5_readsItem 177 = .ok (.aload_n 0, 1) := by decide +kernel
theorem dX5_readsItem_178 : decode cX5_readsItem 178 = .ok (.getfield 26, 3) := by decide +kernel
theorem dX5_readsItem_181 : decode cX5_readsItem 181 = .ok (.iconst 1, 1) := by decide +kernel
theorem dX5_readsItem_182 : decode cX5_readsItem 182 = .ok (.iaload, 1) := by decide +kernel
theorem dX5_readsItem_183 : decode cX5_readsItem 183 = .ok (.if_icmp .ne 5, 3) := by decide +kernel
theorem dX5_readsItem_186 : decode cX5_readsItem 186 = .ok (.iconst 0, 1) := by decide +kernel
theorem dX5_readsItem_187 : decode cX5_readsItem 187 = .ok (.ireturn, 1) := by decide +kernel
theorem dX5_readsItem_188 : decode cX5_readsItem 188 = .ok (.aload_n 0, 1) := by decide +kernel
theorem dX5_readsItem_189 : decode cX5_readsItem 189 = .ok (.getfield 22, 3) := by decide +kernel
theorem dX5_readsItem_192 : decode cX5_readsItem 192 = .ok (.aload_n 0, 1) := by decide +kernel
theorem dX5_readsItem_193 : decode cX5_readsItem 193 = .ok (.getfield 26, 3) := by decide +kernel
theorem dX5_readsItem_196 : decode cX5_readsItem 196 = .ok (.iconst 0, 1) := by decide +kernel
theorem dX5_readsItem_197 : decode cX5_readsItem 197 = .ok (.iaload, 1) := by decide +kernel
theorem dX5_readsItem_198 : decode cX5_readsItem 198 = .ok (.aload_n 0, 1) := by decide +kernel
theorem dX5_readsItem_199 : decode cX5_readsItem 199 = .ok (.getfield 26, 3) := by decide +kernel
theorem dX5_readsItem_202 : decode cX5_readsItem 202 = .ok (.iconst 1, 1) := by decide +kernel
theorem dX5_readsItem_203 : decode cX5_readsItem 203 = .ok (.iaload, 1) := by decide +kernel
theorem dX5_readsItem_204 : decode cX5_readsItem 204 = .ok (.invokevirtual 95, 3) := by decide +kernel
theorem dX5_readsItem_207 : decode cX5_readsItem 207 = .ok (.goto 43, 3) := by decide +kernel
theorem dX5_readsItem_210 : decode cX5_readsItem 210 = .ok (.aload_n 0, 1) := by decide +kernel
theorem dX5_readsItem_211 : decode cX5_readsItem 211 = .ok (.getstatic 99, 3) := by decide +kernel
theorem dX5_readsItem_214 : decode cX5_readsItem 214 = .ok (.getstatic 102, 3) := by decide +kernel
theorem dX5_readsItem_217 : decode cX5_readsItem 217 = .ok (.invokevirtual 69, 3) := by decide +kernel
theorem dX5_readsItem_220 : decode cX5_readsItem 220 = .ok (.ifCond .ne 5, 3) := by decide +kernel
theorem dX5_readsItem_223 : decode cX5_readsItem 223 = .ok (.iconst 0, 1) := by decide +kernel
theorem dX5_readsItem_224 : decode cX5_readsItem 224 = .ok (.ireturn, 1) := by decide +kernel
theorem dX5_readsItem_225 : decode cX5_readsItem 225 = .ok (.aload_n 0, 1) := by decide +kernel
theorem dX5_readsItem_226 : decode cX5_readsItem 226 = .ok (.getfield 22, 3) := by decide +kernel
theorem dX5_readsItem_229 : decode cX5_readsItem 229 = .ok (.getfield 105, 3) := by decide +kernel
theorem dX5_readsItem_232 : decode cX5_readsItem 232 = .ok (.aload_n 0, 1) := by decide +kernel
theorem dX5_readsItem_233 : decode cX5_readsItem 233 = .ok (.getfield 26, 3) := by decide +kernel
theorem dX5_readsItem_236 : decode cX5_readsItem 236 = .ok (.iconst 0, 1) := by decide +kernel
theorem dX5_readsItem_237 : decode cX5_readsItem 237 = .ok (.iaload, 1) := by decide +kernel
theorem dX5_readsItem_238 : decode cX5_readsItem 238 = .ok (.aload_n 0, 1) := by decide +kernel
theorem dX5_readsItem_239 : decode cX5_readsItem 239 = .ok (.getfield 26, 3) := by decide +kernel
theorem dX5_readsItem_242 : decode cX5_readsItem 242 = .ok (.iconst 1, 1) := by decide +kernel
theorem dX5_readsItem_243 : decode cX5_readsItem 243 = .ok (.iaload, 1) := by decide +kernel
theorem dX5_readsItem_244 : decode cX5_readsItem 244 = .ok (.iastore, 1) := by decide +kernel
theorem dX5_readsItem_245 : decode cX5_readsItem 245 = .ok (.goto 5, 3) := by decide +kernel
theorem dX5_readsItem_248 : decode cX5_readsItem 248 = .ok (.iconst 0, 1) := by decide +kernel
theorem dX5_readsItem_249 : decode cX5_readsItem 249 = .ok (.ireturn, 1) := by decide +kernel
theorem dX5_readsItem_250 : decode cX5_readsItem 250 = .ok (.aload_n 0, 1) := by decide +kernel
theorem dX5_readsItem_251 : decode cX5_readsItem 251 = .ok (.invokevirtual 53, 3) := by decide +kernel
theorem dX5_readsItem_254 : decode cX5_readsItem 254 = .ok (.aload_n 0, 1) := by decide +kernel
theorem dX5_readsItem_255 : decode cX5_readsItem 255 = .ok (.getfield 30, 3) := by decide +kernel
theorem dX5_readsItem_258 : decode cX5_readsItem 258 = .ok (.bipush 59, 2) := by decide +kernel
theorem dX5_readsItem_260 : decode cX5_readsItem 260 = .ok (.if_icmp .ne 7, 3) := by decide +kernel
theorem dX5_readsItem_263 : decode cX5_readsItem 263 = .ok (.iconst 1, 1) := by decide +kernel
theorem dX5_readsItem_264 : decode cX5_readsItem 264 = .ok (.goto 4, 3) := by decide +kernel
theorem dX5_readsItem_267 : decode cX5_readsItem 267 = .ok (.iconst 0, 1) := by decide +kernel
theorem dX5_readsItem_268 : decode cX5_readsItem 268 = .ok (.ireturn, 1) := by decide +kernel
set_option maxRecDepth 20000 in
theorem ggX5_readsNumbers_X5_takeToken : GoodIn wsX5_readsNumbers wsX5_takeToken := goodIn_r _ [8, 9, 10, 11, 12, 2, 13, 14, 7, 15, 16, 17, 18, 19, 3, 20, 21, 22, 23, 27, 28, 29, 30, 31, 32, 33, 34, 35] rfl (by decide +kernel)
set_option maxRecDepth 20000 in
theorem gX5_readsNumbers_X5_takeToken : GoodIn wsX5_readsNumbers (wsV RX5 53 RX5 yX5_takeToken wsX5_takeToken) := goodIn_app (goodIn_of _ (by decide +kernel)) ggX5_readsNumbers_X5_takeToken
set_option maxRecDepth 20000 in
theorem ggX5_readsNumbers_X6_within : GoodIn wsX5_readsNumbers wsX6_within := goodIn_r _ [26] rfl (by decide +kernel)
set_option maxRecDepth 20000 in
theorem gX5_readsNumbers_X6_within_n108 : GoodIn wsX5_readsNumbers (wsX6_within) := ggX5_readsNumbers_X6_within
theorem dX5_readsNumbers_0 : decode cX5_readsNumbers 0 = .ok (.iconst 0, 1) := by decide +kernel
theorem dX5_readsNumbers_1 : decode cX5_readsNumbers 1 = .ok (.istore_n 3, 1) := by decide +kernel
theorem dX5_readsNumbers_2 : decode cX5_readsNumbers 2 = .ok (.iload_n 3, 1) := by decide +kernel
theorem dX5_readsNumbers_3 : decode cX5_readsNumbers 3 = .ok (.aload_n 1, 1) := by decide +kernel
theorem dX5_readsNumbers_4 : decode cX5_readsNumbers 4 = .ok (.arraylength, 1) := by decide +kernel
theorem dX5_readsNumbers_5 : decode cX5_readsNumbers 5 = .ok (.if_icmp .ge 66, 3) := by decide +kernel
theorem dX5_readsNumbers_8 : decode cX5_readsNumbers 8 = .ok (.iload_n 3, 1) := by decide +kernel
theorem dX5_readsNumbers_9 : decode cX5_readsNumbers 9 = .ok (.aload_n 2, 1) := by decide +kernel
theorem dX5_readsNumbers_10 : decode cX5_readsNumbers 10 = .ok (.arraylength, 1) := by decide +kernel
theorem dX5_readsNumbers_11 : decode cX5_readsNumbers 11 = .ok (.if_icmp .ge 60, 3) := by decide +kernel
theorem dX5_readsNumbers_14 : decode cX5_readsNumbers 14 = .ok (.iload_n 3, 1) := by decide +kernel
theorem dX5_readsNumbers_15 : decode cX5_readsNumbers 15 = .ok (.aload_n 0, 1) := by decide +kernel
theorem dX5_readsNumbers_16 : decode cX5_readsNumbers 16 = .ok (.getfield 26, 3) := by decide +kernel
theorem dX5_readsNumbers_19 : decode cX5_readsNumbers 19 = .ok (.arraylength, 1) := by decide +kernel
theorem dX5_readsNumbers_20 : decode cX5_readsNumbers 20 = .ok (.if_icmp .ge 51, 3) := by decide +kernel
theorem dX5_readsNumbers_23 : decode cX5_readsNumbers 23 = .ok (.aload_n 0, 1) := by decide +kernel
theorem dX5_readsNumbers_24 : decode cX5_readsNumbers 24 = .ok (.invokevirtual 53, 3) := by decide +kernel
theorem dX5_readsNumbers_27 : decode cX5_readsNumbers 27 = .ok (.aload_n 0, 1) := by decide +kernel
theorem dX5_readsNumbers_28 : decode cX5_readsNumbers 28 = .ok (.getfield 30, 3) := by decide +kernel
theorem dX5_readsNumbers_31 : decode cX5_readsNumbers 31 = .ok (.sipush 257, 3) := by decide +kernel
theorem dX5_readsNumbers_34 : decode cX5_readsNumbers 34 = .ok (.if_icmp .ne 19, 3) := by decide +kernel
theorem dX5_readsNumbers_37 : decode cX5_readsNumbers 37 = .ok (.aload_n 0, 1) := by decide +kernel
theorem dX5_readsNumbers_38 : decode cX5_readsNumbers 38 = .ok (.getfield 33, 3) := by decide +kernel
theorem dX5_readsNumbers_41 : decode cX5_readsNumbers 41 = .ok (.aload_n 1, 1) := by decide +kernel
theorem dX5_readsNumbers_42 : decode cX5_readsNumbers 42 = .ok (.iload_n 3, 1) := by decide +kernel
theorem dX5_readsNumbers_43 : decode cX5_readsNumbers 43 = .ok (.iaload, 1) := by decide +kernel
theorem dX5_readsNumbers_44 : decode cX5_readsNumbers 44 = .ok (.aload_n 2, 1) := by decide +kernel
theorem dX5_readsNumbers_45 : decode cX5_readsNumbers 45 = .ok (.iload_n 3, 1) := by decide +kernel
theorem dX5_readsNumbers_46 : decode cX5_readsNumbers 46 = .ok (.iaload, 1) := by decide +kernel
theorem dX5_readsNumbers_47 : decode cX5_readsNumbers 47 = .ok (.invokestatic 108, 3) := by decide +kernel
theorem dX5_readsNumbers_50 : decode cX5_readsNumbers 50 = .ok (.ifCond .ne 5, 3) := by decide +kernel
theorem dX5_readsNumbers_53 : decode cX5_readsNumbers 53 = .ok (.iconst 0, 1) := by decide +kernel
theorem dX5_readsNumbers_54 : decode cX5_readsNumbers 54 = .ok (.ireturn, 1) := by decide +kernel
theorem dX5_readsNumbers_55 : decode cX5_readsNumbers 55 = .ok (.aload_n 0, 1) := by decide +kernel
theorem dX5_readsNumbers_56 : decode cX5_readsNumbers 56 = .ok (.getfield 26, 3) := by decide +kernel
theorem dX5_readsNumbers_59 : decode cX5_readsNumbers 59 = .ok (.iload_n 3, 1) := by decide +kernel
theorem dX5_readsNumbers_60 : decode cX5_readsNumbers 60 = .ok (.aload_n 0, 1) := by decide +kernel
theorem dX5_readsNumbers_61 : decode cX5_readsNumbers 61 = .ok (.getfield 33, 3) := by decide +kernel
theorem dX5_readsNumbers_64 : decode cX5_readsNumbers 64 = .ok (.iastore, 1) := by decide +kernel
theorem dX5_readsNumbers_65 : decode cX5_readsNumbers 65 = .ok (.iinc 3 1, 3) := by decide +kernel
theorem dX5_readsNumbers_68 : decode cX5_readsNumbers 68 = .ok (.goto (-66), 3) := by decide +kernel
theorem dX5_readsNumbers_71 : decode cX5_readsNumbers 71 = .ok (.iconst 1, 1) := by decide +kernel
theorem dX5_readsNumbers_72 : decode cX5_readsNumbers 72 = .ok (.ireturn, 1) := by decide +kernel
set_option maxRecDepth 20000 in
theorem ggX5_takeToken_X5_isDigit : GoodIn wsX5_takeToken wsX5_isDigit := goodIn_r _ [9] rfl (by decide +kernel)
set_option maxRecDepth 20000 in
theorem gX5_takeToken_X5_isDigit : GoodIn wsX5_takeToken (va_wsS RX5 112 yX5_isDigit wsX5_isDigit) := goodIn_app (goodIn_of _ (by decide +kernel)) ggX5_takeToken_X5_isDigit
set_option maxRecDepth 20000 in
theorem ggX5_takeToken_X5_takeNumber : GoodIn wsX5_takeToken wsX5_takeNumber := goodIn_r _ [13, 14, 1, 2, 3, 15, 16, 17, 18, 4, 5, 6, 7, 8, 9, 19, 20, 21, 22, 23, 24, 25, 26, 27] rfl (by decide +kernel)
set_option maxRecDepth 20000 in
theorem gX5_takeToken_X5_takeNumber : GoodIn wsX5_takeToken (wsV RX5 116 RX5 yX5_takeNumber wsX5_takeNumber) := goodIn_app (goodIn_of _ (by decide +kernel)) ggX5_takeToken_X5_takeNumber
theorem dX5_takeToken_0 : decode cX5_takeToken 0 = .ok (.aload_n 0, 1) := by decide +kernel
theorem dX5_takeToken_1 : decode cX5_takeToken 1 = .ok (.getfield 19, 3) := by decide +kernel
theorem dX5_takeToken_4 : decode cX5_takeToken 4 = .ok (.aload_n 0, 1) := by decide +kernel
theorem dX5_takeToken_5 : decode cX5_takeToken 5 = .ok (.getfield 15, 3) := by decide +kernel
theorem dX5_takeToken_8 : decode cX5_takeToken 8 = .ok (.if_icmp .ge 30, 3) := by decide +kernel
theorem dX5_takeToken_11 : decode cX5_takeToken 11 = .ok (.aload_n 0, 1) := by decide +kernel
theorem dX5_takeToken_12 : decode cX5_takeToken 12 = .ok (.getfield 9, 3) := by decide +kernel
theorem dX5_takeToken_15 : decode cX5_takeToken 15 = .ok (.aload_n 0, 1) := by decide +kernel
theorem dX5_takeToken_16 : decode cX5_takeToken 16 = .ok (.getfield 19, 3) := by decide +kernel
theorem dX5_takeToken_19 : decode cX5_takeToken 19 = .ok (.caload, 1) := by decide +kernel
theorem dX5_takeToken_20 : decode cX5_takeToken 20 = .ok (.bipush 32, 2) := by decide +kernel
theorem dX5_takeToken_22 : decode cX5_takeToken 22 = .ok (.if_icmp .ne 16, 3) := by decide +kernel
theorem dX5_takeToken_25 : decode cX5_takeToken 25 = .ok (.aload_n 0, 1) := by decide +kernel
theorem dX5_takeToken_26 : decode cX5_takeToken 26 = .ok (.dup, 1) := by decide +kernel
theorem dX5_takeToken_27 : decode cX5_takeToken 27 = .ok (.getfield 19, 3) := by decide +kernel
theorem dX5_takeToken_30 : decode cX5_takeToken 30 = .ok (.iconst 1, 1) := by decide +kernel
theorem dX5_takeToken_31 : decode cX5_takeToken 31 = .ok (.iadd, 1) := by decide +kernel
theorem dX5_takeToken_32 : decode cX5_takeToken 32 = .ok (.putfield 19, 3) := by decide +kernel
theorem dX5_takeToken_35 : decode cX5_takeToken 35 = .ok (.goto (-35), 3) := by decide +kernel
theorem dX5_takeToken_38 : decode cX5_takeToken 38 = .ok (.aload_n 0, 1) := by decide +kernel
theorem dX5_takeToken_39 : decode cX5_takeToken 39 = .ok (.aload_n 0, 1) := by decide +kernel
theorem dX5_takeToken_40 : decode cX5_takeToken 40 = .ok (.getfield 19, 3) := by decide +kernel
theorem dX5_takeToken_43 : decode cX5_takeToken 43 = .ok (.putfield 36, 3) := by decide +kernel
theorem dX5_takeToken_46 : decode cX5_takeToken 46 = .ok (.aload_n 0, 1) := by decide +kernel
theorem dX5_takeToken_47 : decode cX5_takeToken 47 = .ok (.getfield 19, 3) := by decide +kernel
theorem dX5_takeToken_50 : decode cX5_takeToken 50 = .ok (.aload_n 0, 1) := by decide +kernel
theorem dX5_takeToken_51 : decode cX5_takeToken 51 = .ok (.getfield 15, 3) := by decide +kernel
theorem dX5_takeToken_54 : decode cX5_takeToken 54 = .ok (.if_icmp .lt 13, 3) := by decide +kernel
theorem dX5_takeToken_57 : decode cX5_takeToken 57 = .ok (.aload_n 0, 1) := by decide +kernel
theorem dX5_takeToken_58 : decode cX5_takeToken 58 = .ok (.sipush 256, 3) := by decide +kernel
theorem dX5_takeToken_61 : decode cX5_takeToken 61 = .ok (.putfield 30, 3) := by decide +kernel
theorem dX5_takeToken_64 : decode cX5_takeToken 64 = .ok (.goto 48, 3) := by decide +kernel
theorem dX5_takeToken_67 : decode cX5_takeToken 67 = .ok (.aload_n 0, 1) := by decide +kernel
theorem dX5_takeToken_68 : decode cX5_takeToken 68 = .ok (.getfield 9, 3) := by decide +kernel
theorem dX5_takeToken_71 : decode cX5_takeToken 71 = .ok (.aload_n 0, 1) := by decide +kernel
theorem dX5_takeToken_72 : decode cX5_takeToken 72 = .ok (.getfield 19, 3) := by decide +kernel
theorem dX5_takeToken_75 : decode cX5_takeToken 75 = .ok (.caload, 1) := by decide +kernel
theorem dX5_takeToken_76 : decode cX5_takeToken 76 = .ok (.invokestatic 112, 3) := by decide +kernel
theorem dX5_takeToken_79 : decode cX5_takeToken 79 = .ok (.ifCond .eq 10, 3) := by decide +kernel
theorem dX5_takeToken_82 : decode cX5_takeToken 82 = .ok (.aload_n 0, 1) := by decide +kernel
theorem dX5_takeToken_83 : decode cX5_takeToken 83 = .ok (.invokevirtual 116, 3) := by decide +kernel
theorem dX5_takeToken_86 : decode cX5_takeToken 86 = .ok (.goto 26, 3) := by decide +kernel
theorem dX5_takeToken_89 : decode cX5_takeToken 89 = .ok (.aload_n 0, 1) := by decide +kernel
theorem dX5_takeToken_90 : decode cX5_takeToken 90 = .ok (.aload_n 0, 1) := by decide +kernel
theorem dX5_takeToken_91 : decode cX5_takeToken 91 = .ok (.getfield 9, 3) := by decide +kernel
theorem dX5_takeToken_94 : decode cX5_takeToken 94 = .ok (.aload_n 0, 1) := by decide +kernel
theorem dX5_takeToken_95 : decode cX5_takeToken 95 = .ok (.getfield 19, 3) := by decide +kernel
theorem dX5_takeToken_98 : decode cX5_takeToken 98 = .ok (.caload, 1) := by decide +kernel
theorem dX5_takeToken_99 : decode cX5_takeToken 99 = .ok (.putfield 30, 3) := by decide +kernel
theorem dX5_takeToken_102 : decode cX5_takeToken 102 = .ok (.aload_n 0, 1) := by decide +kernel
theorem dX5_takeToken_103 : decode cX5_takeToken 103 = .ok (.dup, 1) := by decide +kernel
theorem dX5_takeToken_104 : decode cX5_takeToken 104 = .ok (.getfield 19, 3) := by decide +kernel
theorem dX5_takeToken_107 : decode cX5_takeToken 107 = .ok (.iconst 1, 1) := by decide +kernel
theorem dX5_takeToken_108 : decode cX5_takeToken 108 = .ok (.iadd, 1) := by decide +kernel
theorem dX5_takeToken_109 : decode cX5_takeToken 109 = .ok (.putfield 19, 3) := by decide +kernel
theorem dX5_takeToken_112 : decode cX5_takeToken 112 = .ok (.return_, 1) := by decide +kernel
set_option maxRecDepth 20000 in
theorem ggX5_takeNumber_X5_isDigit : GoodIn wsX5_takeNumber wsX5_isDigit := goodIn_r _ [14] rfl (by decide +kernel)
set_option maxRecDepth 20000 in
theorem gX5_takeNumber_X5_isDigit : GoodIn wsX5_takeNumber (va_wsS RX5 112 yX5_isDigit wsX5_isDigit) := goodIn_app (goodIn_of _ (by decide +kernel)) ggX5_takeNumber_X5_isDigit
theorem dX5_takeNumber_0 : decode cX5_takeNumber 0 = .ok (.aload_n 0, 1) := by decide +kernel
theorem dX5_takeNumber_1 : decode cX5_takeNumber 1 = .ok (.iconst 0, 1) := by decide +kernel
theorem dX5_takeNumber_2 : decode cX5_takeNumber 2 = .ok (.putfield 33, 3) := by decide +kernel
theorem dX5_takeNumber_5 : decode cX5_takeNumber 5 = .ok (.aload_n 0, 1) := by decide +kernel
theorem dX5_takeNumber_6 : decode cX5_takeNumber 6 = .ok (.getfield 19, 3) := by decide +kernel
theorem dX5_takeNumber_9 : decode cX5_takeNumber 9 = .ok (.aload_n 0, 1) := by decide +kernel
theorem dX5_takeNumber_10 : decode cX5_takeNumber 10 = .ok (.getfield 15, 3) := by decide +kernel
theorem dX5_takeNumber_13 : decode cX5_takeNumber 13 = .ok (.if_icmp .ge 60, 3) := by decide +kernel
theorem dX5_takeNumber_16 : decode cX5_takeNumber 16 = .ok (.aload_n 0, 1) := by decide +kernel
theorem dX5_takeNumber_17 : decode cX5_takeNumber 17 = .ok (.getfield 9, 3) := by decide +kernel
theorem dX5_takeNumber_20 : decode cX5_takeNumber 20 = .ok (.aload_n 0, 1) := by decide +kernel
theorem dX5_takeNumber_21 : decode cX5_takeNumber 21 = .ok (.getfield 19, 3) := by decide +kernel
theorem dX5_takeNumber_24 : decode cX5_takeNumber 24 = .ok (.caload, 1) := by decide +kernel
theorem dX5_takeNumber_25 : decode cX5_takeNumber 25 = .ok (.invokestatic 112, 3) := by decide +kernel
theorem dX5_takeNumber_28 : decode cX5_takeNumber 28 = .ok (.ifCond .eq 45, 3) := by decide +kernel
theorem dX5_takeNumber_31 : decode cX5_takeNumber 31 = .ok (.aload_n 0, 1) := by decide +kernel
theorem dX5_takeNumber_32 : decode cX5_takeNumber 32 = .ok (.bipush 100, 2) := by decide +kernel
theorem dX5_takeNumber_34 : decode cX5_takeNumber 34 = .ok (.aload_n 0, 1) := by decide +kernel
theorem dX5_takeNumber_35 : decode cX5_takeNumber 35 = .ok (.getfield 33, 3) := by decide +kernel
theorem dX5_takeNumber_38 : decode cX5_takeNumber 38 = .ok (.bipush 10, 2) := by decide +kernel
theorem dX5_takeNumber_40 : decode cX5_takeNumber 40 = .ok (.imul, 1) := by decide +kernel
theorem dX5_takeNumber_41 : decode cX5_takeNumber 41 = .ok (.aload_n 0, 1) := by decide +kernel
theorem dX5_takeNumber_42 : decode cX5_takeNumber 42 = .ok (.getfield 9, 3) := by decide +kernel
theorem dX5_takeNumber_45 : decode cX5_takeNumber 45 = .ok (.aload_n 0, 1) := by decide +kernel
theorem dX5_takeNumber_46 : decode cX5_takeNumber 46 = .ok (.getfield 19, 3) := by decide +kernel
theorem dX5_takeNumber_49 : decode cX5_takeNumber 49 = .ok (.caload, 1) := by decide +kernel
theorem dX5_takeNumber_50 : decode cX5_takeNumber 50 = .ok (.bipush 48, 2) := by decide +kernel
theorem dX5_takeNumber_52 : decode cX5_takeNumber 52 = .ok (.isub, 1) := by decide +kernel
theorem dX5_takeNumber_53 : decode cX5_takeNumber 53 = .ok (.iadd, 1) := by decide +kernel
theorem dX5_takeNumber_54 : decode cX5_takeNumber 54 = .ok (.invokestatic 42, 3) := by decide +kernel
theorem dX5_takeNumber_57 : decode cX5_takeNumber 57 = .ok (.putfield 33, 3) := by decide +kernel
theorem dX5_takeNumber_60 : decode cX5_takeNumber 60 = .ok (.aload_n 0, 1) := by decide +kernel
theorem dX5_takeNumber_61 : decode cX5_takeNumber 61 = .ok (.dup, 1) := by decide +kernel
theorem dX5_takeNumber_62 : decode cX5_takeNumber 62 = .ok (.getfield 19, 3) := by decide +kernel
theorem dX5_takeNumber_65 : decode cX5_takeNumber 65 = .ok (.iconst 1, 1) := by decide +kernel
theorem dX5_takeNumber_66 : decode cX5_takeNumber 66 = .ok (.iadd, 1) := by decide +kernel
theorem dX5_takeNumber_67 : decode cX5_takeNumber 67 = .ok (.putfield 19, 3) := by decide +kernel
theorem dX5_takeNumber_70 : decode cX5_takeNumber 70 = .ok (.goto (-65), 3) := by decide +kernel
theorem dX5_takeNumber_73 : decode cX5_takeNumber 73 = .ok (.aload_n 0, 1) := by decide +kernel
theorem dX5_takeNumber_74 : decode cX5_takeNumber 74 = .ok (.getfield 9, 3) := by decide +kernel
theorem dX5_takeNumber_77 : decode cX5_takeNumber 77 = .ok (.aload_n 0, 1) := by decide +kernel
theorem dX5_takeNumber_78 : decode cX5_takeNumber 78 = .ok (.getfield 36, 3) := by decide +kernel
theorem dX5_takeNumber_81 : decode cX5_takeNumber 81 = .ok (.caload, 1) := by decide +kernel
theorem dX5_takeNumber_82 : decode cX5_takeNumber 82 = .ok (.bipush 48, 2) := by decide +kernel
theorem dX5_takeNumber_84 : decode cX5_takeNumber 84 = .ok (.if_icmp .ne 20, 3) := by decide +kernel
theorem dX5_takeNumber_87 : decode cX5_takeNumber 87 = .ok (.aload_n 0, 1) := by decide +kernel
theorem dX5_takeNumber_88 : decode cX5_takeNumber 88 = .ok (.getfield 19, 3) := by decide +kernel
theorem dX5_takeNumber_91 : decode cX5_takeNumber 91 = .ok (.aload_n 0, 1) := by decide +kernel
theorem dX5_takeNumber_92 : decode cX5_takeNumber 92 = .ok (.getfield 36, 3) := by decide +kernel
theorem dX5_takeNumber_95 : decode cX5_takeNumber 95 = .ok (.isub, 1) := by decide +kernel
theorem dX5_takeNumber_96 : decode cX5_takeNumber 96 = .ok (.iconst 1, 1) := by decide +kernel
theorem dX5_takeNumber_97 : decode cX5_takeNumber 97 = .ok (.if_icmp .le 7, 3) := by decide +kernel
theorem dX5_takeNumber_100 : decode cX5_takeNumber 100 = .ok (.iconst 1, 1) := by decide +kernel
theorem dX5_takeNumber_101 : decode cX5_takeNumber 101 = .ok (.goto 4, 3) := by decide +kernel
theorem dX5_takeNumber_104 : decode cX5_takeNumber 104 = .ok (.iconst 0, 1) := by decide +kernel
theorem dX5_takeNumber_105 : decode cX5_takeNumber 105 = .ok (.istore_n 1, 1) := by decide +kernel
theorem dX5_takeNumber_106 : decode cX5_takeNumber 106 = .ok (.aload_n 0, 1) := by decide +kernel
theorem dX5_takeNumber_107 : decode cX5_takeNumber 107 = .ok (.aload_n 0, 1) := by decide +kernel
theorem dX5_takeNumber_108 : decode cX5_takeNumber 108 = .ok (.getfield 33, 3) := by decide +kernel
theorem dX5_takeNumber_111 : decode cX5_takeNumber 111 = .ok (.bipush 99, 2) := by decide +kernel
theorem dX5_takeNumber_113 : decode cX5_takeNumber 113 = .ok (.if_icmp .gt 7, 3) := by decide +kernel
theorem dX5_takeNumber_116 : decode cX5_takeNumber 116 = .ok (.iload_n 1, 1) := by decide +kernel
theorem dX5_takeNumber_117 : decode cX5_takeNumber 117 = .ok (.ifCond .eq 9, 3) := by decide +kernel
theorem dX5_takeNumber_120 : decode cX5_takeNumber 120 = .ok (.sipush 258, 3) := by decide +kernel
theorem dX5_takeNumber_123 : decode cX5_takeNumber 123 = .ok (.goto 6, 3) := by decide +kernel
theorem dX5_takeNumber_126 : decode cX5_takeNumber 126 = .ok (.sipush 257, 3) := by decide +kernel
theorem dX5_takeNumber_129 : decode cX5_takeNumber 129 = .ok (.putfield 30, 3) := by decide +kernel
theorem dX5_takeNumber_132 : decode cX5_takeNumber 132 = .ok (.return_, 1) := by decide +kernel
theorem dX5_isDigit_0 : decode cX5_isDigit 0 = .ok (.iload_n 0, 1) := by decide +kernel
theorem dX5_isDigit_1 : decode cX5_isDigit 1 = .ok (.bipush 48, 2) := by decide +kernel
theorem dX5_isDigit_3 : decode cX5_isDigit 3 = .ok (.if_icmp .lt 13, 3) := by decide +kernel
theorem dX5_isDigit_6 : decode cX5_isDigit 6 = .ok (.iload_n 0, 1) := by decide +kernel
theorem dX5_isDigit_7 : decode cX5_isDigit 7 = .ok (.bipush 57, 2) := by decide +kernel
theorem dX5_isDigit_9 : decode cX5_isDigit 9 = .ok (.if_icmp .gt 7, 3) := by decide +kernel
theorem dX5_isDigit_12 : decode cX5_isDigit 12 = .ok (.iconst 1, 1) := by decide +kernel
theorem dX5_isDigit_13 : decode cX5_isDigit 13 = .ok (.goto 4, 3) := by decide +kernel
theorem dX5_isDigit_16 : decode cX5_isDigit 16 = .ok (.iconst 0, 1) := by decide +kernel
theorem dX5_isDigit_17 : decode cX5_isDigit 17 = .ok (.ireturn, 1) := by decide +kernel
theorem dJ6_bitCount_0f7a4_0 : decode cJ6_bitCount_0f7a4 0 = .ok (.iload_n 0, 1) := by decide +kernel
theorem dJ6_bitCount_0f7a4_1 : decode cJ6_bitCount_0f7a4 1 = .ok (.iload_n 0, 1) := by decide +kernel
theorem dJ6_bitCount_0f7a4_2 : decode cJ6_bitCount_0f7a4 2 = .ok (.iconst 1, 1) := by decide +kernel
theorem dJ6_bitCount_0f7a4_3 : decode cJ6_bitCount_0f7a4 3 = .ok (.iushr, 1) := by decide +kernel
theorem dJ6_bitCount_0f7a4_4 : decode cJ6_bitCount_0f7a4 4 = .ok (.ldc_w 265, 3) := by decide +kernel
theorem dJ6_bitCount_0f7a4_7 : decode cJ6_bitCount_0f7a4 7 = .ok (.iand, 1) := by decide +kernel
theorem dJ6_bitCount_0f7a4_8 : decode cJ6_bitCount_0f7a4 8 = .ok (.isub, 1) := by decide +kernel
theorem dJ6_bitCount_0f7a4_9 : decode cJ6_bitCount_0f7a4 9 = .ok (.istore_n 0, 1) := by decide +kernel
theorem dJ6_bitCount_0f7a4_10 : decode cJ6_bitCount_0f7a4 10 = .ok (.iload_n 0, 1) := by decide +kernel
theorem dJ6_bitCount_0f7a4_11 : decode cJ6_bitCount_0f7a4 11 = .ok (.ldc_w 266, 3) := by decide +kernel
theorem dJ6_bitCount_0f7a4_14 : decode cJ6_bitCount_0f7a4 14 = .ok (.iand, 1) := by decide +kernel
theorem dJ6_bitCount_0f7a4_15 : decode cJ6_bitCount_0f7a4 15 = .ok (.iload_n 0, 1) := by decide +kernel
theorem dJ6_bitCount_0f7a4_16 : decode cJ6_bitCount_0f7a4 16 = .ok (.iconst 2, 1) := by decide +kernel
theorem dJ6_bitCount_0f7a4_17 : decode cJ6_bitCount_0f7a4 17 = .ok (.iushr, 1) := by decide +kernel
theorem dJ6_bitCount_0f7a4_18 : decode cJ6_bitCount_0f7a4 18 = .ok (.ldc_w 266, 3) := by decide +kernel
theorem dJ6_bitCount_0f7a4_21 : decode cJ6_bitCount_0f7a4 21 = .ok (.iand, 1) := by decide +kernel
theorem dJ6_bitCount_0f7a4_22 : decode cJ6_bitCount_0f7a4 22 = .ok (.iadd, 1) := by decide +kernel
theorem dJ6_bitCount_0f7a4_23 : decode cJ6_bitCount_0f7a4 23 = .ok (.istore_n 0, 1) := by decide +kernel
theorem dJ6_bitCount_0f7a4_24 : decode cJ6_bitCount_0f7a4 24 = .ok (.iload_n 0, 1) := by decide +kernel
theorem dJ6_bitCount_0f7a4_25 : decode cJ6_bitCount_0f7a4 25 = .ok (.iload_n 0, 1) := by decide +kernel
theorem dJ6_bitCount_0f7a4_26 : decode cJ6_bitCount_0f7a4 26 = .ok (.iconst 4, 1) := by decide +kernel
theorem dJ6_bitCount_0f7a4_27 : decode cJ6_bitCount_0f7a4 27 = .ok (.iushr, 1) := by decide +kernel
theorem dJ6_bitCount_0f7a4_28 : decode cJ6_bitCount_0f7a4 28 = .ok (.iadd, 1) := by decide +kernel
theorem dJ6_bitCount_0f7a4_29 : decode cJ6_bitCount_0f7a4 29 = .ok (.ldc_w 267, 3) := by decide +kernel
theorem dJ6_bitCount_0f7a4_32 : decode cJ6_bitCount_0f7a4 32 = .ok (.iand, 1) := by decide +kernel
theorem dJ6_bitCount_0f7a4_33 : decode cJ6_bitCount_0f7a4 33 = .ok (.istore_n 0, 1) := by decide +kernel
theorem dJ6_bitCount_0f7a4_34 : decode cJ6_bitCount_0f7a4 34 = .ok (.iload_n 0, 1) := by decide +kernel
theorem dJ6_bitCount_0f7a4_35 : decode cJ6_bitCount_0f7a4 35 = .ok (.iload_n 0, 1) := by decide +kernel
theorem dJ6_bitCount_0f7a4_36 : decode cJ6_bitCount_0f7a4 36 = .ok (.bipush 8, 2) := by decide +kernel
theorem dJ6_bitCount_0f7a4_38 : decode cJ6_bitCount_0f7a4 38 = .ok (.iushr, 1) := by decide +kernel
theorem dJ6_bitCount_0f7a4_39 : decode cJ6_bitCount_0f7a4 39 = .ok (.iadd, 1) := by decide +kernel
theorem dJ6_bitCount_0f7a4_40 : decode cJ6_bitCount_0f7a4 40 = .ok (.istore_n 0, 1) := by decide +kernel
theorem dJ6_bitCount_0f7a4_41 : decode cJ6_bitCount_0f7a4 41 = .ok (.iload_n 0, 1) := by decide +kernel
theorem dJ6_bitCount_0f7a4_42 : decode cJ6_bitCount_0f7a4 42 = .ok (.iload_n 0, 1) := by decide +kernel
theorem dJ6_bitCount_0f7a4_43 : decode cJ6_bitCount_0f7a4 43 = .ok (.bipush 16, 2) := by decide +kernel
theorem dJ6_bitCount_0f7a4_45 : decode cJ6_bitCount_0f7a4 45 = .ok (.iushr, 1) := by decide +kernel
theorem dJ6_bitCount_0f7a4_46 : decode cJ6_bitCount_0f7a4 46 = .ok (.iadd, 1) := by decide +kernel
theorem dJ6_bitCount_0f7a4_47 : decode cJ6_bitCount_0f7a4 47 = .ok (.istore_n 0, 1) := by decide +kernel
theorem dJ6_bitCount_0f7a4_48 : decode cJ6_bitCount_0f7a4 48 = .ok (.iload_n 0, 1) := by decide +kernel
theorem dJ6_bitCount_0f7a4_49 : decode cJ6_bitCount_0f7a4 49 = .ok (.bipush 63, 2) := by decide +kernel
theorem dJ6_bitCount_0f7a4_51 : decode cJ6_bitCount_0f7a4 51 = .ok (.iand, 1) := by decide +kernel
theorem dJ6_bitCount_0f7a4_52 : decode cJ6_bitCount_0f7a4 52 = .ok (.ireturn, 1) := by decide +kernel
theorem dJ9_min_7cf53_0 : decode cJ9_min_7cf53 0 = .ok (.iload_n 0, 1) := by decide +kernel
theorem dJ9_min_7cf53_1 : decode cJ9_min_7cf53 1 = .ok (.iload_n 1, 1) := by decide +kernel
theorem dJ9_min_7cf53_2 : decode cJ9_min_7cf53 2 = .ok (.if_icmp .gt 7, 3) := by decide +kernel
theorem dJ9_min_7cf53_5 : decode cJ9_min_7cf53 5 = .ok (.iload_n 0, 1) := by decide +kernel
theorem dJ9_min_7cf53_6 : decode cJ9_min_7cf53 6 = .ok (.goto 4, 3) := by decide +kernel
theorem dJ9_min_7cf53_9 : decode cJ9_min_7cf53 9 = .ok (.iload_n 1, 1) := by decide +kernel
theorem dJ9_min_7cf53_10 : decode cJ9_min_7cf53 10 = .ok (.ireturn, 1) := by decide +kernel
theorem dJ7_rangeCheck_23922_0 : decode cJ7_rangeCheck_23922 0 = .ok (.iload_n 1, 1) := by decide +kernel
theorem dJ7_rangeCheck_23922_1 : decode cJ7_rangeCheck_23922 1 = .ok (.iload_n 2, 1) := by decide +kernel
theorem dJ7_rangeCheck_23922_2 : decode cJ7_rangeCheck_23922 2 = .ok (.if_icmp .le 44, 3) := by decide +kernel
theorem dJ7_rangeCheck_23922_5 : decode cJ7_rangeCheck_23922 5 = .ok (.new 43, 3) := by decide +kernel
theorem dJ7_rangeCheck_23922_8 : decode cJ7_rangeCheck_23922 8 = .ok (.dup, 1) := by decide +kernel
theorem dJ7_rangeCheck_23922_9 : decode cJ7_rangeCheck_23922 9 = .ok (.new 45, 3) := by decide +kernel
theorem dJ7_rangeCheck_23922_12 : decode cJ7_rangeCheck_23922 12 = .ok (.dup, 1) := by decide +kernel
theorem dJ7_rangeCheck_23922_13 : decode cJ7_rangeCheck_23922 13 = .ok (.invokespecial 47, 3) := by decide +kernel
theorem dJ7_rangeCheck_23922_16 : decode cJ7_rangeCheck_23922 16 = .ok (.ldc 48, 2) := by decide +kernel
theorem dJ7_rangeCheck_23922_18 : decode cJ7_rangeCheck_23922 18 = .ok (.invokevirtual 50, 3) := by decide +kernel
theorem dJ7_rangeCheck_23922_21 : decode cJ7_rangeCheck_23922 21 = .ok (.iload_n 1, 1) := by decide +kernel
theorem dJ7_rangeCheck_23922_22 : decode cJ7_rangeCheck_23922 22 = .ok (.invokevirtual 54, 3) := by decide +kernel
theorem dJ7_rangeCheck_23922_25 : decode cJ7_rangeCheck_23922 25 = .ok (.ldc 57, 2) := by decide +kernel
theorem dJ7_rangeCheck_23922_27 : decode cJ7_rangeCheck_23922 27 = .ok (.invokevirtual 50, 3) := by decide +kernel
theorem dJ7_rangeCheck_23922_30 : decode cJ7_rangeCheck_23922 30 = .ok (.iload_n 2, 1) := by decide +kernel
theorem dJ7_rangeCheck_23922_31 : decode cJ7_rangeCheck_23922 31 = .ok (.invokevirtual 54, 3) := by decide +kernel
theorem dJ7_rangeCheck_23922_34 : decode cJ7_rangeCheck_23922 34 = .ok (.ldc 59, 2) := by decide +kernel
theorem dJ7_rangeCheck_23922_36 : decode cJ7_rangeCheck_23922 36 = .ok (.invokevirtual 50, 3) := by decide +kernel
theorem dJ7_rangeCheck_23922_39 : decode cJ7_rangeCheck_23922 39 = .ok (.invokevirtual 61, 3) := by decide +kernel
theorem dJ7_rangeCheck_23922_42 : decode cJ7_rangeCheck_23922 42 = .ok (.invokespecial 65, 3) := by decide +kernel
theorem dJ7_rangeCheck_23922_45 : decode cJ7_rangeCheck_23922 45 = .ok (.athrow, 1) := by decide +kernel
theorem dJ7_rangeCheck_23922_46 : decode cJ7_rangeCheck_23922 46 = .ok (.iload_n 1, 1) := by decide +kernel
theorem dJ7_rangeCheck_23922_47 : decode cJ7_rangeCheck_23922 47 = .ok (.ifCond .ge 12, 3) := by decide +kernel
theorem dJ7_rangeCheck_23922_50 : decode cJ7_rangeCheck_23922 50 = .ok (.new 68, 3) := by decide +kernel
theorem dJ7_rangeCheck_23922_53 : decode cJ7_rangeCheck_23922 53 = .ok (.dup, 1) := by decide +kernel
theorem dJ7_rangeCheck_23922_54 : decode cJ7_rangeCheck_23922 54 = .ok (.iload_n 1, 1) := by decide +kernel
theorem dJ7_rangeCheck_23922_55 : decode cJ7_rangeCheck_23922 55 = .ok (.invokespecial 70, 3) := by decide +kernel
theorem dJ7_rangeCheck_23922_58 : decode cJ7_rangeCheck_23922 58 = .ok (.athrow, 1) := by decide +kernel
theorem dJ7_rangeCheck_23922_59 : decode cJ7_rangeCheck_23922 59 = .ok (.iload_n 2, 1) := by decide +kernel
theorem dJ7_rangeCheck_23922_60 : decode cJ7_rangeCheck_23922 60 = .ok (.iload_n 0, 1) := by decide +kernel
theorem dJ7_rangeCheck_23922_61 : decode cJ7_rangeCheck_23922 61 = .ok (.if_icmp .le 12, 3) := by decide +kernel
theorem dJ7_rangeCheck_23922_64 : decode cJ7_rangeCheck_23922 64 = .ok (.new 68, 3) := by decide +kernel
theorem dJ7_rangeCheck_23922_67 : decode cJ7_rangeCheck_23922 67 = .ok (.dup, 1) := by decide +kernel
theorem dJ7_rangeCheck_23922_68 : decode cJ7_rangeCheck_23922 68 = .ok (.iload_n 2, 1) := by decide +kernel
theorem dJ7_rangeCheck_23922_69 : decode cJ7_rangeCheck_23922 69 = .ok (.invokespecial 70, 3) := by decide +kernel
theorem dJ7_rangeCheck_23922_72 : decode cJ7_rangeCheck_23922 72 = .ok (.athrow, 1) := by decide +kernel
theorem dJ7_rangeCheck_23922_73 : decode cJ7_rangeCheck_23922 73 = .ok (.return_, 1) := by decide +kernel
theorem dJ7_fill_53178_0 : decode cJ7_fill_53178 0 = .ok (.iconst 0, 1) := by decide +kernel
theorem dJ7_fill_53178_1 : decode cJ7_fill_53178 1 = .ok (.istore_n 2, 1) := by decide +kernel
theorem dJ7_fill_53178_2 : decode cJ7_fill_53178 2 = .ok (.aload_n 0, 1) := by decide +kernel
theorem dJ7_fill_53178_3 : decode cJ7_fill_53178 3 = .ok (.arraylength, 1) := by decide +kernel
theorem dJ7_fill_53178_4 : decode cJ7_fill_53178 4 = .ok (.istore_n 3, 1) := by decide +kernel
theorem dJ7_fill_53178_5 : decode cJ7_fill_53178 5 = .ok (.iload_n 2, 1) := by decide +kernel
theorem dJ7_fill_53178_6 : decode cJ7_fill_53178 6 = .ok (.iload_n 3, 1) := by decide +kernel
theorem dJ7_fill_53178_7 : decode cJ7_fill_53178 7 = .ok (.if_icmp .ge 13, 3) := by decide +kernel
theorem dJ7_fill_53178_10 : decode cJ7_fill_53178 10 = .ok (.aload_n 0, 1) := by decide +kernel
theorem dJ7_fill_53178_11 : decode cJ7_fill_53178 11 = .ok (.iload_n 2, 1) := by decide +kernel
theorem dJ7_fill_53178_12 : decode cJ7_fill_53178 12 = .ok (.iload_n 1, 1) := by decide +kernel
theorem dJ7_fill_53178_13 : decode cJ7_fill_53178 13 = .ok (.iastore, 1) := by decide +kernel
theorem dJ7_fill_53178_14 : decode cJ7_fill_53178 14 = .ok (.iinc 2 1, 3) := by decide +kernel
theorem dJ7_fill_53178_17 : decode cJ7_fill_53178 17 = .ok (.goto (-12), 3) := by decide +kernel
theorem dJ7_fill_53178_20 : decode cJ7_fill_53178 20 = .ok (.return_, 1) := by decide +kernel
set_option maxRecDepth 20000 in
theorem ggJ7_fill_fda19_J7_rangeCheck_23922 : GoodIn wsJ7_fill_fda19 wsJ7_rangeCheck_23922 := goodIn_r _ [4] rfl (by decide +kernel)
set_option maxRecDepth 20000 in
theorem gJ7_fill_fda19_J7_rangeCheck_23922 : GoodIn wsJ7_fill_fda19 (va_wsS RJ7 13 yJ7_rangeCheck_23922 wsJ7_rangeCheck_23922) := goodIn_app (goodIn_of _ (by decide +kernel)) ggJ7_fill_fda19_J7_rangeCheck_23922
theorem dJ7_fill_fda19_0 : decode cJ7_fill_fda19 0 = .ok (.aload_n 0, 1) := by decide +kernel
theorem dJ7_fill_fda19_1 : decode cJ7_fill_fda19 1 = .ok (.arraylength, 1) := by decide +kernel
theorem dJ7_fill_fda19_2 : decode cJ7_fill_fda19 2 = .ok (.iload_n 1, 1) := by decide +kernel
theorem dJ7_fill_fda19_3 : decode cJ7_fill_fda19 3 = .ok (.iload_n 2, 1) := by decide +kernel
theorem dJ7_fill_fda19_4 : decode cJ7_fill_fda19 4 = .ok (.invokestatic 13, 3) := by decide +kernel
theorem dJ7_fill_fda19_7 : decode cJ7_fill_fda19 7 = .ok (.iload_n 1, 1) := by decide +kernel
theorem dJ7_fill_fda19_8 : decode cJ7_fill_fda19 8 = .ok (.istore 4, 2) := by decide +kernel
theorem dJ7_fill_fda19_10 : decode cJ7_fill_fda19 10 = .ok (.iload 4, 2) := by decide +kernel
theorem dJ7_fill_fda19_12 : decode cJ7_fill_fda19 12 = .ok (.iload_n 2, 1) := by decide +kernel
theorem dJ7_fill_fda19_13 : decode cJ7_fill_fda19 13 = .ok (.if_icmp .ge 14, 3) := by decide +kernel
theorem dJ7_fill_fda19_16 : decode cJ7_fill_fda19 16 = .ok (.aload_n 0, 1) := by decide +kernel
theorem dJ7_fill_fda19_17 : decode cJ7_fill_fda19 17 = .ok (.iload 4, 2) := by decide +kernel
theorem dJ7_fill_fda19_19 : decode cJ7_fill_fda19 19 = .ok (.iload_n 3, 1) := by decide +kernel
theorem dJ7_fill_fda19_20 : decode cJ7_fill_fda19 20 = .ok (.iastore, 1) := by decide +kernel
theorem dJ7_fill_fda19_21 : decode cJ7_fill_fda19 21 = .ok (.iinc 4 1, 3) := by decide +kernel
theorem dJ7_fill_fda19_24 : decode cJ7_fill_fda19 24 = .ok (.goto (-14), 3) := by decide +kernel
theorem dJ7_fill_fda19_27 : decode cJ7_fill_fda19 27 = .ok (.return_, 1) := by decide +kernel
