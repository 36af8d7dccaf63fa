set_option maxRecDepth 20000 in
theorem ggX0_init_X2_init : GoodIn wsX0_init wsX2_init := goodIn_r _ [10, 11, 2, 3, 12, 13, 14, 15, 16, 17, 18, 19, 20, 21, 22, 23, 24, 25, 26, 27, 28, 29, 30, 31, 32, 43, 44, 45, 36, 37, 38, 39, 40, 41, 42] (by decide +kernel) (by decide +kernel)
set_option maxRecDepth 20000 in
theorem gX0_init_X2_init : GoodIn wsX0_init (wsX2_init) := ggX0_init_X2_init
theorem dX0_init_0 : decode cX0_init 0 = .ok (.aload_n 0, 1) := by decide +kernel
theorem dX0_init_1 : decode cX0_init 1 = .ok (.invokespecial 3, 3) := by decide +kernel
theorem dX0_init_4 : decode cX0_init 4 = .ok (.aload_n 0, 1) := by decide +kernel
theorem dX0_init_5 : decode cX0_init 5 = .ok (.iconst 5, 1) := by decide +kernel
theorem dX0_init_6 : decode cX0_init 6 = .ok (.anewarray 9, 3) := by decide +kernel
theorem dX0_init_9 : decode cX0_init 9 = .ok (.putfield 11, 3) := by decide +kernel
theorem dX0_init_12 : decode cX0_init 12 = .ok (.iconst 0, 1) := by decide +kernel
theorem dX0_init_13 : decode cX0_init 13 = .ok (.istore_n 1, 1) := by decide +kernel
theorem dX0_init_14 : decode cX0_init 14 = .ok (.iload_n 1, 1) := by decide +kernel
theorem dX0_init_15 : decode cX0_init 15 = .ok (.aload_n 0, 1) := by decide +kernel
theorem dX0_init_16 : decode cX0_init 16 = .ok (.getfield 11, 3) := by decide +kernel
theorem dX0_init_19 : decode cX0_init 19 = .ok (.arraylength, 1) := by decide +kernel
theorem dX0_init_20 : decode cX0_init 20 = .ok (.if_icmp .ge 22, 3) := by decide +kernel
theorem dX0_init_23 : decode cX0_init 23 = .ok (.aload_n 0, 1) := by decide +kernel
theorem dX0_init_24 : decode cX0_init 24 = .ok (.getfield 11, 3) := by decide +kernel
theorem dX0_init_27 : decode cX0_init 27 = .ok (.iload_n 1, 1) := by decide +kernel
theorem dX0_init_28 : decode cX0_init 28 = .ok (.new 9, 3) := by decide +kernel
theorem dX0_init_31 : decode cX0_init 31 = .ok (.dup, 1) := by decide +kernel
theorem dX0_init_32 : decode cX0_init 32 = .ok (.invokespecial 17, 3) := by decide +kernel
theorem dX0_init_35 : decode cX0_init 35 = .ok (.aastore, 1) := by decide +kernel
theorem dX0_init_36 : decode cX0_init 36 = .ok (.iinc 1 1, 3) := by decide +kernel
theorem dX0_init_39 : decode cX0_init 39 = .ok (.goto (-25), 3) := by decide +kernel
theorem dX0_init_42 : decode cX0_init 42 = .ok (.return_, 1) := by decide +kernel
set_option maxRecDepth 20000 in
theorem ggX0_keep_X0_place : GoodIn wsX0_keep wsX0_place := goodIn_r _ [7, 2, 8, 36, 37, 38] (by decide +kernel) (by decide +kernel)
set_option maxRecDepth 20000 in
theorem gX0_keep_X0_place : GoodIn wsX0_keep (wsV RX0 25 RX0 yX0_place wsX0_place) := goodIn_app (goodIn_of _ (by decide +kernel)) ggX0_keep_X0_place
set_option maxRecDepth 20000 in
theorem ggX0_keep_X2_copyFrom : GoodIn wsX0_keep wsX2_copyFrom := goodIn_r _ [13, 14, 15, 16, 17, 18, 19, 20, 21, 22, 23, 24, 25, 26, 27, 28, 29, 30, 31, 32, 33, 34, 35, 39, 40, 41, 42, 43, 44, 45, 46, 47, 48] (by decide +kernel) (by decide +kernel)
set_option maxRecDepth 20000 in
theorem gX0_keep_X2_copyFrom : GoodIn wsX0_keep (wsV RX0 29 RX2 yX2_copyFrom wsX2_copyFrom) := goodIn_app (goodIn_of _ (by decide +kernel)) ggX0_keep_X2_copyFrom
theorem dX0_keep_0 : decode cX0_keep 0 = .ok (.aload_n 0, 1) := by decide +kernel
theorem dX0_keep_1 : decode cX0_keep 1 = .ok (.getfield 18, 3) := by decide +kernel
theorem dX0_keep_4 : decode cX0_keep 4 = .ok (.iconst 5, 1) := by decide +kernel
theorem dX0_keep_5 : decode cX0_keep 5 = .ok (.if_icmp .lt 25, 3) := by decide +kernel
theorem dX0_keep_8 : decode cX0_keep 8 = .ok (.aload_n 0, 1) := by decide +kernel
theorem dX0_keep_9 : decode cX0_keep 9 = .ok (.aload_n 0, 1) := by decide +kernel
theorem dX0_keep_10 : decode cX0_keep 10 = .ok (.getfield 22, 3) := by decide +kernel
theorem dX0_keep_13 : decode cX0_keep 13 = .ok (.iconst 1, 1) := by decide +kernel
theorem dX0_keep_14 : decode cX0_keep 14 = .ok (.iadd, 1) := by decide +kernel
theorem dX0_keep_15 : decode cX0_keep 15 = .ok (.iconst 5, 1) := by decide +kernel
theorem dX0_keep_16 : decode cX0_keep 16 = .ok (.irem, 1) := by decide +kernel
theorem dX0_keep_17 : decode cX0_keep 17 = .ok (.putfield 22, 3) := by decide +kernel
theorem dX0_keep_20 : decode cX0_keep 20 = .ok (.aload_n 0, 1) := by decide +kernel
theorem dX0_keep_21 : decode cX0_keep 21 = .ok (.dup, 1) := by decide +kernel
theorem dX0_keep_22 : decode cX0_keep 22 = .ok (.getfield 18, 3) := by decide +kernel
theorem dX0_keep_25 : decode cX0_keep 25 = .ok (.iconst 1, 1) := by decide +kernel
theorem dX0_keep_26 : decode cX0_keep 26 = .ok (.isub, 1) := by decide +kernel
theorem dX0_keep_27 : decode cX0_keep 27 = .ok (.putfield 18, 3) := by decide +kernel
theorem dX0_keep_30 : decode cX0_keep 30 = .ok (.aload_n 0, 1) := by decide +kernel
theorem dX0_keep_31 : decode cX0_keep 31 = .ok (.aload_n 0, 1) := by decide +kernel
theorem dX0_keep_32 : decode cX0_keep 32 = .ok (.getfield 18, 3) := by decide +kernel
theorem dX0_keep_35 : decode cX0_keep 35 = .ok (.invokevirtual 25, 3) := by decide +kernel
theorem dX0_keep_38 : decode cX0_keep 38 = .ok (.astore_n 2, 1) := by decide +kernel
theorem dX0_keep_39 : decode cX0_keep 39 = .ok (.aload_n 2, 1) := by decide +kernel
theorem dX0_keep_40 : decode cX0_keep 40 = .ok (.ifnull 18, 3) := by decide +kernel
theorem dX0_keep_43 : decode cX0_keep 43 = .ok (.aload_n 2, 1) := by decide +kernel
theorem dX0_keep_44 : decode cX0_keep 44 = .ok (.aload_n 1, 1) := by decide +kernel
theorem dX0_keep_45 : decode cX0_keep 45 = .ok (.invokevirtual 29, 3) := by decide +kernel
theorem dX0_keep_48 : decode cX0_keep 48 = .ok (.aload_n 0, 1) := by decide +kernel
theorem dX0_keep_49 : decode cX0_keep 49 = .ok (.dup, 1) := by decide +kernel
theorem dX0_keep_50 : decode cX0_keep 50 = .ok (.getfield 18, 3) := by decide +kernel
theorem dX0_keep_53 : decode cX0_keep 53 = .ok (.iconst 1, 1) := by decide +kernel
theorem dX0_keep_54 : decode cX0_keep 54 = .ok (.iadd, 1) := by decide +kernel
theorem dX0_keep_55 : decode cX0_keep 55 = .ok (.putfield 18, 3) := by decide +kernel
theorem dX0_keep_58 : decode cX0_keep 58 = .ok (.return_, 1) := by decide +kernel
set_option maxRecDepth 20000 in
theorem ggX0_giveBack_X0_place : GoodIn wsX0_giveBack wsX0_place := goodIn_r _ [6, 7, 8, 36, 37, 38] (by decide +kernel) (by decide +kernel)
set_option maxRecDepth 20000 in
theorem gX0_giveBack_X0_place : GoodIn wsX0_giveBack (wsV RX0 25 RX0 yX0_place wsX0_place) := goodIn_app (goodIn_of _ (by decide +kernel)) ggX0_giveBack_X0_place
set_option maxRecDepth 20000 in
theorem ggX0_giveBack_X2_copyFrom : GoodIn wsX0_giveBack wsX2_copyFrom := goodIn_r _ [13, 14, 15, 16, 17, 18, 19, 20, 21, 22, 23, 24, 25, 26, 27, 28, 29, 30, 31, 32, 33, 34, 35, 39, 40, 41, 42, 43, 44, 45, 46, 47, 48] (by decide +kernel) (by decide +kernel)
set_option maxRecDepth 20000 in
theorem gX0_giveBack_X2_copyFrom : GoodIn wsX0_giveBack (wsV RX0 29 RX2 yX2_copyFrom wsX2_copyFrom) := goodIn_app (goodIn_of _ (by decide +kernel)) ggX0_giveBack_X2_copyFrom
theorem dX0_giveBack_0 : decode cX0_giveBack 0 = .ok (.aload_n 0, 1) := by decide +kernel
theorem dX0_giveBack_1 : decode cX0_giveBack 1 = .ok (.aload_n 0, 1) := by decide +kernel
theorem dX0_giveBack_2 : decode cX0_giveBack 2 = .ok (.getfield 18, 3) := by decide +kernel
theorem dX0_giveBack_5 : decode cX0_giveBack 5 = .ok (.iconst 1, 1) := by decide +kernel
theorem dX0_giveBack_6 : decode cX0_giveBack 6 = .ok (.isub, 1) := by decide +kernel
theorem dX0_giveBack_7 : decode cX0_giveBack 7 = .ok (.invokevirtual 25, 3) := by decide +kernel
theorem dX0_giveBack_10 : decode cX0_giveBack 10 = .ok (.astore_n 2, 1) := by decide +kernel
theorem dX0_giveBack_11 : decode cX0_giveBack 11 = .ok (.aload_n 2, 1) := by decide +kernel
theorem dX0_giveBack_12 : decode cX0_giveBack 12 = .ok (.ifnull 18, 3) := by decide +kernel
theorem dX0_giveBack_15 : decode cX0_giveBack 15 = .ok (.aload_n 1, 1) := by decide +kernel
theorem dX0_giveBack_16 : decode cX0_giveBack 16 = .ok (.aload_n 2, 1) := by decide +kernel
theorem dX0_giveBack_17 : decode cX0_giveBack 17 = .ok (.invokevirtual 29, 3) := by decide +kernel
theorem dX0_giveBack_20 : decode cX0_giveBack 20 = .ok (.aload_n 0, 1) := by decide +kernel
theorem dX0_giveBack_21 : decode cX0_giveBack 21 = .ok (.dup, 1) := by decide +kernel
theorem dX0_giveBack_22 : decode cX0_giveBack 22 = .ok (.getfield 18, 3) := by decide +kernel
theorem dX0_giveBack_25 : decode cX0_giveBack 25 = .ok (.iconst 1, 1) := by decide +kernel
theorem dX0_giveBack_26 : decode cX0_giveBack 26 = .ok (.isub, 1) := by decide +kernel
theorem dX0_giveBack_27 : decode cX0_giveBack 27 = .ok (.putfield 18, 3) := by decide +kernel
theorem dX0_giveBack_30 : decode cX0_giveBack 30 = .ok (.return_, 1) := by decide +kernel
theorem dX0_place_0 : decode cX0_place 0 = .ok (.aload_n 0, 1) := by decide +kernel
theorem dX0_place_1 : decode cX0_place 1 = .ok (.getfield 22, 3) := by decide +kernel
theorem dX0_place_4 : decode cX0_place 4 = .ok (.iload_n 1, 1) := by decide +kernel
theorem dX0_place_5 : decode cX0_place 5 = .ok (.iadd, 1) := by decide +kernel
theorem dX0_place_6 : decode cX0_place 6 = .ok (.iconst 5, 1) := by decide +kernel
theorem dX0_place_7 : decode cX0_place 7 = .ok (.irem, 1) := by decide +kernel
theorem dX0_place_8 : decode cX0_place 8 = .ok (.istore_n 2, 1) := by decide +kernel
theorem dX0_place_9 : decode cX0_place 9 = .ok (.iload_n 2, 1) := by decide +kernel
theorem dX0_place_10 : decode cX0_place 10 = .ok (.ifCond .lt 21, 3) := by decide +kernel
theorem dX0_place_13 : decode cX0_place 13 = .ok (.iload_n 2, 1) := by decide +kernel
theorem dX0_place_14 : decode cX0_place 14 = .ok (.aload_n 0, 1) := by decide +kernel
theorem dX0_place_15 : decode cX0_place 15 = .ok (.getfield 11, 3) := by decide +kernel
theorem dX0_place_18 : decode cX0_place 18 = .ok (.arraylength, 1) := by decide +kernel
theorem dX0_place_19 : decode cX0_place 19 = .ok (.if_icmp .ge 12, 3) := by decide +kernel
theorem dX0_place_22 : decode cX0_place 22 = .ok (.aload_n 0, 1) := by decide +kernel
theorem dX0_place_23 : decode cX0_place 23 = .ok (.getfield 11, 3) := by decide +kernel
theorem dX0_place_26 : decode cX0_place 26 = .ok (.iload_n 2, 1) := by decide +kernel
theorem dX0_place_27 : decode cX0_place 27 = .ok (.aaload, 1) := by decide +kernel
theorem dX0_place_28 : decode cX0_place 28 = .ok (.goto 4, 3) := by decide +kernel
theorem dX0_place_31 : decode cX0_place 31 = .ok (.aconst_null, 1) := by decide +kernel
theorem dX0_place_32 : decode cX0_place 32 = .ok (.areturn, 1) := by decide +kernel
theorem dX1_init_0 : decode cX1_init 0 = .ok (.aload_n 0, 1) := by decide +kernel
theorem dX1_init_1 : decode cX1_init 1 = .ok (.invokespecial 1, 3) := by decide +kernel
theorem dX1_init_4 : decode cX1_init 4 = .ok (.return_, 1) := by decide +kernel
theorem dX1_clear_0 : decode cX1_clear 0 = .ok (.aload_n 0, 1) := by decide +kernel
theorem dX1_clear_1 : decode cX1_clear 1 = .ok (.lconst 0, 1) := by decide +kernel
theorem dX1_clear_2 : decode cX1_clear 2 = .ok (.putfield 7, 3) := by decide +kernel
theorem dX1_clear_5 : decode cX1_clear 5 = .ok (.aload_n 0, 1) := by decide +kernel
theorem dX1_clear_6 : decode cX1_clear 6 = .ok (.iconst 0, 1) := by decide +kernel
theorem dX1_clear_7 : decode cX1_clear 7 = .ok (.putfield 13, 3) := by decide +kernel
theorem dX1_clear_10 : decode cX1_clear 10 = .ok (.return_, 1) := by decide +kernel
theorem dX1_add_0 : decode cX1_add 0 = .ok (.aload_n 0, 1) := by decide +kernel
theorem dX1_add_1 : decode cX1_add 1 = .ok (.aload_n 0, 1) := by decide +kernel
theorem dX1_add_2 : decode cX1_add 2 = .ok (.getfield 13, 3) := by decide +kernel
theorem dX1_add_5 : decode cX1_add 5 = .ok (.ifCond .ne 7, 3) := by decide +kernel
theorem dX1_add_8 : decode cX1_add 8 = .ok (.iload_n 1, 1) := by decide +kernel
theorem dX1_add_9 : decode cX1_add 9 = .ok (.goto 11, 3) := by decide +kernel
theorem dX1_add_12 : decode cX1_add 12 = .ok (.aload_n 0, 1) := by decide +kernel
theorem dX1_add_13 : decode cX1_add 13 = .ok (.getfield 17, 3) := by decide +kernel
theorem dX1_add_16 : decode cX1_add 16 = .ok (.iload_n 1, 1) := by decide +kernel
theorem dX1_add_17 : decode cX1_add 17 = .ok (.invokestatic 20, 3) := by decide +kernel
theorem dX1_add_20 : decode cX1_add 20 = .ok (.putfield 17, 3) := by decide +kernel
theorem dX1_add_23 : decode cX1_add 23 = .ok (.aload_n 0, 1) := by decide +kernel
theorem dX1_add_24 : decode cX1_add 24 = .ok (.aload_n 0, 1) := by decide +kernel
theorem dX1_add_25 : decode cX1_add 25 = .ok (.getfield 13, 3) := by decide +kernel
theorem dX1_add_28 : decode cX1_add 28 = .ok (.ifCond .ne 7, 3) := by decide +kernel
theorem dX1_add_31 : decode cX1_add 31 = .ok (.iload_n 1, 1) := by decide +kernel
theorem dX1_add_32 : decode cX1_add 32 = .ok (.goto 11, 3) := by decide +kernel
theorem dX1_add_35 : decode cX1_add 35 = .ok (.aload_n 0, 1) := by decide +kernel
theorem dX1_add_36 : decode cX1_add 36 = .ok (.getfield 26, 3) := by decide +kernel
theorem dX1_add_39 : decode cX1_add 39 = .ok (.iload_n 1, 1) := by decide +kernel
theorem dX1_add_40 : decode cX1_add 40 = .ok (.invokestatic 29, 3) := by decide +kernel
theorem dX1_add_43 : decode cX1_add 43 = .ok (.putfield 26, 3) := by decide +kernel
theorem dX1_add_46 : decode cX1_add 46 = .ok (.aload_n 0, 1) := by decide +kernel
theorem dX1_add_47 : decode cX1_add 47 = .ok (.dup, 1) := by decide +kernel
theorem dX1_add_48 : decode cX1_add 48 = .ok (.getfield 7, 3) := by decide +kernel
theorem dX1_add_51 : decode cX1_add 51 = .ok (.iload_n 1, 1) := by decide +kernel
theorem dX1_add_52 : decode cX1_add 52 = .ok (.i2l, 1) := by decide +kernel
theorem dX1_add_53 : decode cX1_add 53 = .ok (.ladd, 1) := by decide +kernel
theorem dX1_add_54 : decode cX1_add 54 = .ok (.putfield 7, 3) := by decide +kernel
theorem dX1_add_57 : decode cX1_add 57 = .ok (.aload_n 0, 1) := by decide +kernel
theorem dX1_add_58 : decode cX1_add 58 = .ok (.dup, 1) := by decide +kernel
theorem dX1_add_59 : decode cX1_add 59 = .ok (.getfield 13, 3) := by decide +kernel
theorem dX1_add_62 : decode cX1_add 62 = .ok (.iconst 1, 1) := by decide +kernel
theorem dX1_add_63 : decode cX1_add 63 = .ok (.iadd, 1) := by decide +kernel
theorem dX1_add_64 : decode cX1_add 64 = .ok (.putfield 13, 3) := by decide +kernel
theorem dX1_add_67 : decode cX1_add 67 = .ok (.return_, 1) := by decide +kernel
set_option maxRecDepth 20000 in
theorem ggX1_height_X6_divideDown : GoodIn wsX1_height wsX6_divideDown := goodIn_r _ [5, 6, 7, 8, 9] (by decide +kernel) (by decide +kernel)
set_option maxRecDepth 20000 in
theorem gX1_height_X6_divideDown_n32 : GoodIn wsX1_height (wsX6_divideDown) := ggX1_height_X6_divideDown
theorem dX1_height_0 : decode cX1_height 0 = .ok (.aload_n 0, 1) := by decide +kernel
theorem dX1_height_1 : decode cX1_height 1 = .ok (.getfield 7, 3) := by decide +kernel
theorem dX1_height_4 : decode cX1_height 4 = .ok (.aload_n 0, 1) := by decide +kernel
theorem dX1_height_5 : decode cX1_height 5 = .ok (.getfield 13, 3) := by decide +kernel
theorem dX1_height_8 : decode cX1_height 8 = .ok (.i2l, 1) := by decide +kernel
theorem dX1_height_9 : decode cX1_height 9 = .ok (.invokestatic 32, 3) := by decide +kernel
theorem dX1_height_12 : decode cX1_height 12 = .ok (.l2i, 1) := by decide +kernel
theorem dX1_height_13 : decode cX1_height 13 = .ok (.ireturn, 1) := by decide +kernel
theorem dX1_spread_0 : decode cX1_spread 0 = .ok (.aload_n 0, 1) := by decide +kernel
theorem dX1_spread_1 : decode cX1_spread 1 = .ok (.getfield 26, 3) := by decide +kernel
theorem dX1_spread_4 : decode cX1_spread 4 = .ok (.aload_n 0, 1) := by decide +kernel
theorem dX1_spread_5 : decode cX1_spread 5 = .ok (.getfield 17, 3) := by decide +kernel
theorem dX1_spread_8 : decode cX1_spread 8 = .ok (.isub, 1) := by decide +kernel
theorem dX1_spread_9 : decode cX1_spread 9 = .ok (.ireturn, 1) := by decide +kernel
set_option maxRecDepth 20000 in
theorem ggX2_init_X5_init : GoodIn wsX2_init wsX5_init := goodIn_r _ [16, 17, 2, 3, 18, 19, 20, 21, 22, 23, 24, 25, 26, 27] (by decide +kernel) (by decide +kernel)
set_option maxRecDepth 20000 in
theorem gX2_init_X5_init : GoodIn wsX2_init (wsX5_init) := ggX2_init_X5_init
theorem dX2_init_0 : decode cX2_init 0 = .ok (.aload_n 0, 1) := by decide +kernel
theorem dX2_init_1 : decode cX2_init 1 = .ok (.invokespecial 3, 3) := by decide +kernel
theorem dX2_init_4 : decode cX2_init 4 = .ok (.aload_n 0, 1) := by decide +kernel
theorem dX2_init_5 : decode cX2_init 5 = .ok (.new 9, 3) := by decide +kernel
theorem dX2_init_8 : decode cX2_init 8 = .ok (.dup, 1) := by decide +kernel
theorem dX2_init_9 : decode cX2_init 9 = .ok (.bipush 12, 2) := by decide +kernel
theorem dX2_init_11 : decode cX2_init 11 = .ok (.invokespecial 11, 3) := by decide +kernel
theorem dX2_init_14 : decode cX2_init 14 = .ok (.putfield 14, 3) := by decide +kernel
theorem dX2_init_17 : decode cX2_init 17 = .ok (.aload_n 0, 1) := by decide +kernel
theorem dX2_init_18 : decode cX2_init 18 = .ok (.new 9, 3) := by decide +kernel
theorem dX2_init_21 : decode cX2_init 21 = .ok (.dup, 1) := by decide +kernel
theorem dX2_init_22 : decode cX2_init 22 = .ok (.bipush 20, 2) := by decide +kernel
theorem dX2_init_24 : decode cX2_init 24 = .ok (.invokespecial 11, 3) := by decide +kernel
theorem dX2_init_27 : decode cX2_init 27 = .ok (.putfield 20, 3) := by decide +kernel
theorem dX2_init_30 : decode cX2_init 30 = .ok (.aload_n 0, 1) := by decide +kernel
theorem dX2_init_31 : decode cX2_init 31 = .ok (.new 9, 3) := by decide +kernel
theorem dX2_init_34 : decode cX2_init 34 = .ok (.dup, 1) := by decide +kernel
theorem dX2_init_35 : decode cX2_init 35 = .ok (.bipush 20, 2) := by decide +kernel
theorem dX2_init_37 : decode cX2_init 37 = .ok (.invokespecial 11, 3) := by decide +kernel
theorem dX2_init_40 : decode cX2_init 40 = .ok (.putfield 23, 3) := by decide +kernel
theorem dX2_init_43 : decode cX2_init 43 = .ok (.aload_n 0, 1) := by decide +kernel
theorem dX2_init_44 : decode cX2_init 44 = .ok (.new 9, 3) := by decide +kernel
theorem dX2_init_47 : decode cX2_init 47 = .ok (.dup, 1) := by decide +kernel
theorem dX2_init_48 : decode cX2_init 48 = .ok (.bipush 20, 2) := by decide +kernel
theorem dX2_init_50 : decode cX2_init 50 = .ok (.invokespecial 11, 3) := by decide +kernel
theorem dX2_init_53 : decode cX2_init 53 = .ok (.putfield 26, 3) := by decide +kernel
theorem dX2_init_56 : decode cX2_init 56 = .ok (.aload_n 0, 1) := by decide +kernel
theorem dX2_init_57 : decode cX2_init 57 = .ok (.iconst 0, 1) := by decide +kernel
theorem dX2_init_58 : decode cX2_init 58 = .ok (.putfield 29, 3) := by decide +kernel
theorem dX2_init_61 : decode cX2_init 61 = .ok (.aload_n 0, 1) := by decide +kernel
theorem dX2_init_62 : decode cX2_init 62 = .ok (.bipush 60, 2) := by decide +kernel
theorem dX2_init_64 : decode cX2_init 64 = .ok (.putfield 33, 3) := by decide +kernel
theorem dX2_init_67 : decode cX2_init 67 = .ok (.aload_n 0, 1) := by decide +kernel
theorem dX2_init_68 : decode cX2_init 68 = .ok (.bipush 50, 2) := by decide +kernel
theorem dX2_init_70 : decode cX2_init 70 = .ok (.putfield 36, 3) := by decide +kernel
theorem dX2_init_73 : decode cX2_init 73 = .ok (.return_, 1) := by decide +kernel
theorem dX2_track_0 : decode cX2_track 0 = .ok (.iload_n 1, 1) := by decide +kernel
theorem dX2_track_1 : decode cX2_track 1 = .ok (.tableswitch 42 0 2 #[27, 32, 37], 27) := by decide +kernel
theorem dX2_track_28 : decode cX2_track 28 = .ok (.aload_n 0, 1) := by decide +kernel
theorem dX2_track_29 : decode cX2_track 29 = .ok (.getfield 20, 3) := by decide +kernel
theorem dX2_track_32 : decode cX2_track 32 = .ok (.areturn, 1) := by decide +kernel
theorem dX2_track_33 : decode cX2_track 33 = .ok (.aload_n 0, 1) := by decide +kernel
theorem dX2_track_34 : decode cX2_track 34 = .ok (.getfield 23, 3) := by decide +kernel
theorem dX2_track_37 : decode cX2_track 37 = .ok (.areturn, 1) := by decide +kernel
theorem dX2_track_38 : decode cX2_track 38 = .ok (.aload_n 0, 1) := by decide +kernel
theorem dX2_track_39 : decode cX2_track 39 = .ok (.getfield 26, 3) := by decide +kernel
theorem dX2_track_42 : decode cX2_track 42 = .ok (.areturn, 1) := by decide +kernel
theorem dX2_track_43 : decode cX2_track 43 = .ok (.aload_n 0, 1) := by decide +kernel
theorem dX2_track_44 : decode cX2_track 44 = .ok (.getfield 14, 3) := by decide +kernel
theorem dX2_track_47 : decode cX2_track 47 = .ok (.areturn, 1) := by decide +kernel
theorem dX2_setting_0 : decode cX2_setting 0 = .ok (.iload_n 1, 1) := by decide +kernel
theorem dX2_setting_1 : decode cX2_setting 1 = .ok (.lookupswitch 37 #[(0, 27), (1, 32)], 27) := by decide +kernel
theorem dX2_setting_28 : decode cX2_setting 28 = .ok (.aload_n 0, 1) := by decide +kernel
theorem dX2_setting_29 : decode cX2_setting 29 = .ok (.getfield 29, 3) := by decide +kernel
theorem dX2_setting_32 : decode cX2_setting 32 = .ok (.ireturn, 1) := by decide +kernel
theorem dX2_setting_33 : decode cX2_setting 33 = .ok (.aload_n 0, 1) := by decide +kernel
theorem dX2_setting_34 : decode cX2_setting 34 = .ok (.getfield 33, 3) := by decide +kernel
theorem dX2_setting_37 : decode cX2_setting 37 = .ok (.ireturn, 1) := by decide +kernel
theorem dX2_setting_38 : decode cX2_setting 38 = .ok (.aload_n 0, 1) := by decide +kernel
theorem dX2_setting_39 : decode cX2_setting 39 = .ok (.getfield 36, 3) := by decide +kernel
theorem dX2_setting_42 : decode cX2_setting 42 = .ok (.ireturn, 1) := by decide +kernel
theorem dX2_putSetting_0 : decode cX2_putSetting 0 = .ok (.iload_n 1, 1) := by decide +kernel
theorem dX2_putSetting_1 : decode cX2_putSetting 1 = .ok (.lookupswitch 43 #[(0, 27), (1, 35)], 27) := by decide +kernel
theorem dX2_putSetting_28 : decode cX2_putSetting 28 = .ok (.aload_n 0, 1) := by decide +kernel
theorem dX2_putSetting_29 : decode cX2_putSetting 29 = .ok (.iload_n 2, 1) := by decide +kernel
theorem dX2_putSetting_30 : decode cX2_putSetting 30 = .ok (.putfield 29, 3) := by decide +kernel
theorem dX2_putSetting_33 : decode cX2_putSetting 33 = .ok (.goto 16, 3) := by decide +kernel
theorem dX2_putSetting_36 : decode cX2_putSetting 36 = .ok (.aload_n 0, 1) := by decide +kernel
theorem dX2_putSetting_37 : decode cX2_putSetting 37 = .ok (.iload_n 2, 1) := by decide +kernel
theorem dX2_putSetting_38 : decode cX2_putSetting 38 = .ok (.putfield 33, 3) := by decide +kernel
theorem dX2_putSetting_41 : decode cX2_putSetting 41 = .ok (.goto 8, 3) := by decide +kernel
theorem dX2_putSetting_44 : decode cX2_putSetting 44 = .ok (.aload_n 0, 1) := by decide +kernel
theorem dX2_putSetting_45 : decode cX2_putSetting 45 = .ok (.iload_n 2, 1) := by decide +kernel
theorem dX2_putSetting_46 : decode cX2_putSetting 46 = .ok (.putfield 36, 3) := by decide +kernel
theorem dX2_putSetting_49 : decode cX2_putSetting 49 = .ok (.return_, 1) := by decide +kernel
set_option maxRecDepth 20000 in
theorem ggX2_copyFrom_X5_copyFrom : GoodIn wsX2_copyFrom wsX5_copyFrom := goodIn_r _ [12, 13, 14, 15, 16, 17, 18, 19, 20, 21, 22, 30, 31, 32] (by decide +kernel) (by decide +kernel)
set_option maxRecDepth 20000 in
theorem gX2_copyFrom_X5_copyFrom : GoodIn wsX2_copyFrom (wsV RX2 39 RX5 yX5_copyFrom wsX5_copyFrom) := goodIn_app (goodIn_of _ (by decide +kernel)) ggX2_copyFrom_X5_copyFrom
theorem dX2_copyFrom_0 : decode cX2_copyFrom 0 = .ok (.aload_n 0, 1) := by decide +kernel
theorem dX2_copyFrom_1 : decode cX2_copyFrom 1 = .ok (.getfield 14, 3) := by decide +kernel
theorem dX2_copyFrom_4 : decode cX2_copyFrom 4 = .ok (.aload_n 1, 1) := by decide +kernel
theorem dX2_copyFrom_5 : decode cX2_copyFrom 5 = .ok (.getfield 14, 3) := by decide +kernel
theorem dX2_copyFrom_8 : decode cX2_copyFrom 8 = .ok (.invokevirtual 39, 3) := by decide +kernel
theorem dX2_copyFrom_11 : decode cX2_copyFrom 11 = .ok (.aload_n 0, 1) := by decide +kernel
theorem dX2_copyFrom_12 : decode cX2_copyFrom 12 = .ok (.getfield 20, 3) := by decide +kernel
theorem dX2_copyFrom_15 : decode cX2_copyFrom 15 = .ok (.aload_n 1, 1) := by decide +kernel
theorem dX2_copyFrom_16 : decode cX2_copyFrom 16 = .ok (.getfield 20, 3) := by decide +kernel
theorem dX2_copyFrom_19 : decode cX2_copyFrom 19 = .ok (.invokevirtual 39, 3) := by decide +kernel
theorem dX2_copyFrom_22 : decode cX2_copyFrom 22 = .ok (.aload_n 0, 1) := by decide +kernel
theorem dX2_copyFrom_23 : decode cX2_copyFrom 23 = .ok (.getfield 23, 3) := by decide +kernel
theorem dX2_copyFrom_26 : decode cX2_copyFrom 26 = .ok (.aload_n 1, 1) := by decide +kernel
theorem dX2_copyFrom_27 : decode cX2_copyFrom 27 = .ok (.getfield 23, 3) := by decide +kernel
theorem dX2_copyFrom_30 : decode cX2_copyFrom 30 = .ok (.invokevirtual 39, 3) := by decide +kernel
theorem dX2_copyFrom_33 : decode cX2_copyFrom 33 = .ok (.aload_n 0, 1) := by decide +kernel
theorem dX2_copyFrom_34 : decode cX2_copyFrom 34 = .ok (.getfield 26, 3) := by decide +kernel
theorem dX2_copyFrom_37 : decode cX2_copyFrom 37 = .ok (.aload_n 1, 1) := by decide +kernel
theorem dX2_copyFrom_38 : decode cX2_copyFrom 38 = .ok (.getfield 26, 3) := by decide +kernel
theorem dX2_copyFrom_41 : decode cX2_copyFrom 41 = .ok (.invokevirtual 39, 3) := by decide +kernel
theorem dX2_copyFrom_44 : decode cX2_copyFrom 44 = .ok (.aload_n 0, 1) := by decide +kernel
theorem dX2_copyFrom_45 : decode cX2_copyFrom 45 = .ok (.aload_n 1, 1) := by decide +kernel
theorem dX2_copyFrom_46 : decode cX2_copyFrom 46 = .ok (.getfield 29, 3) := by decide +kernel
theorem dX2_copyFrom_49 : decode cX2_copyFrom 49 = .ok (.putfield 29, 3) := by decide +kernel
theorem dX2_copyFrom_52 : decode cX2_copyFrom 52 = .ok (.aload_n 0, 1) := by decide +kernel
theorem dX2_copyFrom_53 : decode cX2_copyFrom 53 = .ok (.aload_n 1, 1) := by decide +kernel
theorem dX2_copyFrom_54 : decode cX2_copyFrom 54 = .ok (.getfield 33, 3) := by decide +kernel
theorem dX2_copyFrom_57 : decode cX2_copyFrom 57 = .ok (.putfield 33, 3) := by decide +kernel
theorem dX2_copyFrom_60 : decode cX2_copyFrom 60 = .ok (.aload_n 0, 1) := by decide +kernel
theorem dX2_copyFrom_61 : decode cX2_copyFrom 61 = .ok (.aload_n 1, 1) := by decide +kernel
theorem dX2_copyFrom_62 : decode cX2_copyFrom 62 = .ok (.getfield 36, 3) := by decide +kernel
theorem dX2_copyFrom_65 : decode cX2_copyFrom 65 = .ok (.putfield 36, 3) := by decide +kernel
theorem dX2_copyFrom_68 : decode cX2_copyFrom 68 = .ok (.return_, 1) := by decide +kernel
set_option maxRecDepth 20000 in
theorem ggX2_baseValue_X5_value : GoodIn wsX2_baseValue wsX5_value := goodIn_r _ [7, 8, 9, 10, 11, 25, 26, 27] (by decide +kernel) (by decide +kernel)
set_option maxRecDepth 20000 in
theorem gX2_baseValue_X5_value : GoodIn wsX2_baseValue (wsV RX2 46 RX5 yX5_value wsX5_value) := goodIn_app (goodIn_of _ (by decide +kernel)) ggX2_baseValue_X5_value
set_option maxRecDepth 20000 in
theorem ggX2_baseValue_X6_divideDown : GoodIn wsX2_baseValue wsX6_divideDown := goodIn_r _ [13, 14, 15, 16, 17] (by decide +kernel) (by decide +kernel)
set_option maxRecDepth 20000 in
theorem gX2_baseValue_X6_divideDown_n51 : GoodIn wsX2_baseValue (wsX6_divideDown) := ggX2_baseValue_X6_divideDown
theorem dX2_baseValue_0 : decode cX2_baseValue 0 = .ok (.iconst 0, 1) := by decide +kernel
theorem dX2_baseValue_1 : decode cX2_baseValue 1 = .ok (.istore_n 3, 1) := by decide +kernel
theorem dX2_baseValue_2 : decode cX2_baseValue 2 = .ok (.iload_n 3, 1) := by decide +kernel
theorem dX2_baseValue_3 : decode cX2_baseValue 3 = .ok (.aload_n 0, 1) := by decide +kernel
theorem dX2_baseValue_4 : decode cX2_baseValue 4 = .ok (.getfield 14, 3) := by decide +kernel
theorem dX2_baseValue_7 : decode cX2_baseValue 7 = .ok (.getfield 43, 3) := by decide +kernel
theorem dX2_baseValue_10 : decode cX2_baseValue 10 = .ok (.if_icmp .ge 22, 3) := by decide +kernel
theorem dX2_baseValue_13 : decode cX2_baseValue 13 = .ok (.aload_n 0, 1) := by decide +kernel
theorem dX2_baseValue_14 : decode cX2_baseValue 14 = .ok (.getfield 14, 3) := by decide +kernel
theorem dX2_baseValue_17 : decode cX2_baseValue 17 = .ok (.iload_n 3, 1) := by decide +kernel
theorem dX2_baseValue_18 : decode cX2_baseValue 18 = .ok (.iconst 0, 1) := by decide +kernel
theorem dX2_baseValue_19 : decode cX2_baseValue 19 = .ok (.invokevirtual 46, 3) := by decide +kernel
theorem dX2_baseValue_22 : decode cX2_baseValue 22 = .ok (.iload_n 1, 1) := by decide +kernel
theorem dX2_baseValue_23 : decode cX2_baseValue 23 = .ok (.if_icmp .ge 9, 3) := by decide +kernel
theorem dX2_baseValue_26 : decode cX2_baseValue 26 = .ok (.iinc 3 1, 3) := by decide +kernel
theorem dX2_baseValue_29 : decode cX2_baseValue 29 = .ok (.goto (-27), 3) := by decide +kernel
theorem dX2_baseValue_32 : decode cX2_baseValue 32 = .ok (.iload_n 3, 1) := by decide +kernel
theorem dX2_baseValue_33 : decode cX2_baseValue 33 = .ok (.aload_n 0, 1) := by decide +kernel
theorem dX2_baseValue_34 : decode cX2_baseValue 34 = .ok (.getfield 14, 3) := by decide +kernel
theorem dX2_baseValue_37 : decode cX2_baseValue 37 = .ok (.getfield 43, 3) := by decide +kernel
theorem dX2_baseValue_40 : decode cX2_baseValue 40 = .ok (.if_icmp .lt 6, 3) := by decide +kernel
theorem dX2_baseValue_43 : decode cX2_baseValue 43 = .ok (.ldc 50, 2) := by decide +kernel
theorem dX2_baseValue_45 : decode cX2_baseValue 45 = .ok (.ireturn, 1) := by decide +kernel
theorem dX2_baseValue_46 : decode cX2_baseValue 46 = .ok (.aload_n 0, 1) := by decide +kernel
theorem dX2_baseValue_47 : decode cX2_baseValue 47 = .ok (.getfield 14, 3) := by decide +kernel
theorem dX2_baseValue_50 : decode cX2_baseValue 50 = .ok (.iload_n 3, 1) := by decide +kernel
theorem dX2_baseValue_51 : decode cX2_baseValue 51 = .ok (.iconst 0, 1) := by decide +kernel
theorem dX2_baseValue_52 : decode cX2_baseValue 52 = .ok (.invokevirtual 46, 3) := by decide +kernel
theorem dX2_baseValue_55 : decode cX2_baseValue 55 = .ok (.istore 4, 2) := by decide +kernel
theorem dX2_baseValue_57 : decode cX2_baseValue 57 = .ok (.aload_n 0, 1) := by decide +kernel
theorem dX2_baseValue_58 : decode cX2_baseValue 58 = .ok (.getfield 14, 3) := by decide +kernel
theorem dX2_baseValue_61 : decode cX2_baseValue 61 = .ok (.iload_n 3, 1) := by decide +kernel
theorem dX2_baseValue_62 : decode cX2_baseValue 62 = .ok (.iload_n 2, 1) := by decide +kernel
theorem dX2_baseValue_63 : decode cX2_baseValue 63 = .ok (.invokevirtual 46, 3) := by decide +kernel
theorem dX2_baseValue_66 : decode cX2_baseValue 66 = .ok (.istore 5, 2) := by decide +kernel
theorem dX2_baseValue_68 : decode cX2_baseValue 68 = .ok (.iload 4, 2) := by decide +kernel
theorem dX2_baseValue_70 : decode cX2_baseValue 70 = .ok (.iload_n 1, 1) := by decide +kernel
theorem dX2_baseValue_71 : decode cX2_baseValue 71 = .ok (.if_icmp .ne 6, 3) := by decide +kernel
theorem dX2_baseValue_74 : decode cX2_baseValue 74 = .ok (.iload 5, 2) := by decide +kernel
theorem dX2_baseValue_76 : decode cX2_baseValue 76 = .ok (.ireturn, 1) := by decide +kernel
theorem dX2_baseValue_77 : decode cX2_baseValue 77 = .ok (.iload_n 3, 1) := by decide +kernel
theorem dX2_baseValue_78 : decode cX2_baseValue 78 = .ok (.ifCond .ne 6, 3) := by decide +kernel
theorem dX2_baseValue_81 : decode cX2_baseValue 81 = .ok (.ldc 50, 2) := by decide +kernel
theorem dX2_baseValue_83 : decode cX2_baseValue 83 = .ok (.ireturn, 1) := by decide +kernel
theorem dX2_baseValue_84 : decode cX2_baseValue 84 = .ok (.aload_n 0, 1) := by decide +kernel
theorem dX2_baseValue_85 : decode cX2_baseValue 85 = .ok (.getfield 14, 3) := by decide +kernel
theorem dX2_baseValue_88 : decode cX2_baseValue 88 = .ok (.iload_n 3, 1) := by decide +kernel
theorem dX2_baseValue_89 : decode cX2_baseValue 89 = .ok (.iconst 1, 1) := by decide +kernel
theorem dX2_baseValue_90 : decode cX2_baseValue 90 = .ok (.isub, 1) := by decide +kernel
theorem dX2_baseValue_91 : decode cX2_baseValue 91 = .ok (.iconst 0, 1) := by decide +kernel
theorem dX2_baseValue_92 : decode cX2_baseValue 92 = .ok (.invokevirtual 46, 3) := by decide +kernel
theorem dX2_baseValue_95 : decode cX2_baseValue 95 = .ok (.istore 6, 2) := by decide +kernel
theorem dX2_baseValue_97 : decode cX2_baseValue 97 = .ok (.aload_n 0, 1) := by decide +kernel
theorem dX2_baseValue_98 : decode cX2_baseValue 98 = .ok (.getfield 14, 3) := by decide +kernel
theorem dX2_baseValue_101 : decode cX2_baseValue 101 = .ok (.iload_n 3, 1) := by decide +kernel
theorem dX2_baseValue_102 : decode cX2_baseValue 102 = .ok (.iconst 1, 1) := by decide +kernel
theorem dX2_baseValue_103 : decode cX2_baseValue 103 = .ok (.isub, 1) := by decide +kernel
theorem dX2_baseValue_104 : decode cX2_baseValue 104 = .ok (.iload_n 2, 1) := by decide +kernel
theorem dX2_baseValue_105 : decode cX2_baseValue 105 = .ok (.invokevirtual 46, 3) := by decide +kernel
theorem dX2_baseValue_108 : decode cX2_baseValue 108 = .ok (.istore 7, 2) := by decide +kernel
theorem dX2_baseValue_110 : decode cX2_baseValue 110 = .ok (.iload 5, 2) := by decide +kernel
theorem dX2_baseValue_112 : decode cX2_baseValue 112 = .ok (.iload 7, 2) := by decide +kernel
theorem dX2_baseValue_114 : decode cX2_baseValue 114 = .ok (.isub, 1) := by decide +kernel
theorem dX2_baseValue_115 : decode cX2_baseValue 115 = .ok (.i2l, 1) := by decide +kernel
theorem dX2_baseValue_116 : decode cX2_baseValue 116 = .ok (.iload_n 1, 1) := by decide +kernel
theorem dX2_baseValue_117 : decode cX2_baseValue 117 = .ok (.iload 6, 2) := by decide +kernel
theorem dX2_baseValue_119 : decode cX2_baseValue 119 = .ok (.isub, 1) := by decide +kernel
theorem dX2_baseValue_120 : decode cX2_baseValue 120 = .ok (.i2l, 1) := by decide +kernel
theorem dX2_baseValue_121 : decode cX2_baseValue 121 = .ok (.lmul, 1) := by decide +kernel
theorem dX2_baseValue_122 : decode cX2_baseValue 122 = .ok (.lstore 8, 2) := by decide +kernel
theorem dX2_baseValue_124 : decode cX2_baseValue 124 = .ok (.iload 7, 2) := by decide +kernel
theorem dX2_baseValue_126 : decode cX2_baseValue 126 = .ok (.i2l, 1) := by decide +kernel
theorem dX2_baseValue_127 : decode cX2_baseValue 127 = .ok (.lload 8, 2) := by decide +kernel
theorem dX2_baseValue_129 : decode cX2_baseValue 129 = .ok (.iload 4, 2) := by decide +kernel
theorem dX2_baseValue_131 : decode cX2_baseValue 131 = .ok (.iload 6, 2) := by decide +kernel
theorem dX2_baseValue_133 : decode cX2_baseValue 133 = .ok (.isub, 1) := by decide +kernel
theorem dX2_baseValue_134 : decode cX2_baseValue 134 = .ok (.i2l, 1) := by decide +kernel
theorem dX2_baseValue_135 : decode cX2_baseValue 135 = .ok (.invokestatic 51, 3) := by decide +kernel
theorem dX2_baseValue_138 : decode cX2_baseValue 138 = .ok (.ladd, 1) := by decide +kernel
theorem dX2_baseValue_139 : decode cX2_baseValue 139 = .ok (.l2i, 1) := by decide +kernel
theorem dX2_baseValue_140 : decode cX2_baseValue 140 = .ok (.ireturn, 1) := by decide +kernel
set_option maxRecDepth 20000 in
theorem ggX2_heightAt_X2_baseValue : GoodIn wsX2_heightAt wsX2_baseValue := goodIn_r _ [8, 9, 1, 10, 11, 12, 13, 14, 15, 16, 17, 18, 19, 20, 21, 22, 23, 24, 28, 29, 30, 31, 32, 33, 34, 35, 36, 37] (by decide +kernel) (by decide +kernel)
set_option maxRecDepth 20000 in
theorem gX2_heightAt_X2_baseValue : GoodIn wsX2_heightAt (wsV RX2 55 RX2 yX2_baseValue wsX2_baseValue) := goodIn_app (goodIn_of _ (by decide +kernel)) ggX2_heightAt_X2_baseValue
set_option maxRecDepth 20000 in
theorem ggX2_heightAt_J9_floorDiv_7cf53 : GoodIn wsX2_heightAt wsJ9_floorDiv_7cf53 := goodIn_r _ [27] (by decide +kernel) (by decide +kernel)
set_option maxRecDepth 20000 in
theorem gX2_heightAt_J9_floorDiv_7cf53 : GoodIn wsX2_heightAt (va_wsS RX2 58 yJ9_floorDiv_7cf53 wsJ9_floorDiv_7cf53) := goodIn_app (goodIn_of _ (by decide +kernel)) ggX2_heightAt_J9_floorDiv_7cf53
set_option maxRecDepth 20000 in
theorem ggX2_heightAt_X6_divideDown : GoodIn wsX2_heightAt wsX6_divideDown := goodIn_r _ [20, 21, 22, 23, 24] (by decide +kernel) (by decide +kernel)
set_option maxRecDepth 20000 in
theorem gX2_heightAt_X6_divideDown_n51 : GoodIn wsX2_heightAt (wsX6_divideDown) := ggX2_heightAt_X6_divideDown
theorem dX2_heightAt_0 : decode cX2_heightAt 0 = .ok (.aload_n 0, 1) := by decide +kernel
theorem dX2_heightAt_1 : decode cX2_heightAt 1 = .ok (.iload_n 1, 1) := by decide +kernel
theorem dX2_heightAt_2 : decode cX2_heightAt 2 = .ok (.iconst 1, 1) := by decide +kernel
theorem dX2_heightAt_3 : decode cX2_heightAt 3 = .ok (.invokevirtual 55, 3) := by decide +kernel
theorem dX2_heightAt_6 : decode cX2_heightAt 6 = .ok (.istore 4, 2) := by decide +kernel
theorem dX2_heightAt_8 : decode cX2_heightAt 8 = .ok (.iload 4, 2) := by decide +kernel
theorem dX2_heightAt_10 : decode cX2_heightAt 10 = .ok (.ldc 50, 2) := by decide +kernel
theorem dX2_heightAt_12 : decode cX2_heightAt 12 = .ok (.if_icmp .ne 6, 3) := by decide +kernel
theorem dX2_heightAt_15 : decode cX2_heightAt 15 = .ok (.ldc 50, 2) := by decide +kernel
theorem dX2_heightAt_17 : decode cX2_heightAt 17 = .ok (.ireturn, 1) := by decide +kernel
theorem dX2_heightAt_18 : decode cX2_heightAt 18 = .ok (.aload_n 0, 1) := by decide +kernel
theorem dX2_heightAt_19 : decode cX2_heightAt 19 = .ok (.iload_n 1, 1) := by decide +kernel
theorem dX2_heightAt_20 : decode cX2_heightAt 20 = .ok (.iconst 2, 1) := by decide +kernel
theorem dX2_heightAt_21 : decode cX2_heightAt 21 = .ok (.invokevirtual 55, 3) := by decide +kernel
theorem dX2_heightAt_24 : decode cX2_heightAt 24 = .ok (.istore 5, 2) := by decide +kernel
theorem dX2_heightAt_26 : decode cX2_heightAt 26 = .ok (.sipush 2732, 3) := by decide +kernel
theorem dX2_heightAt_29 : decode cX2_heightAt 29 = .ok (.iload 5, 2) := by decide +kernel
theorem dX2_heightAt_31 : decode cX2_heightAt 31 = .ok (.iload_n 3, 1) := by decide +kernel
theorem dX2_heightAt_32 : decode cX2_heightAt 32 = .ok (.iadd, 1) := by decide +kernel
theorem dX2_heightAt_33 : decode cX2_heightAt 33 = .ok (.iconst 2, 1) := by decide +kernel
theorem dX2_heightAt_34 : decode cX2_heightAt 34 = .ok (.invokestatic 58, 3) := by decide +kernel
theorem dX2_heightAt_37 : decode cX2_heightAt 37 = .ok (.iadd, 1) := by decide +kernel
theorem dX2_heightAt_38 : decode cX2_heightAt 38 = .ok (.i2l, 1) := by decide +kernel
theorem dX2_heightAt_39 : decode cX2_heightAt 39 = .ok (.lstore 6, 2) := by decide +kernel
theorem dX2_heightAt_41 : decode cX2_heightAt 41 = .ok (.iload 4, 2) := by decide +kernel
theorem dX2_heightAt_43 : decode cX2_heightAt 43 = .ok (.iload_n 2, 1) := by decide +kernel
theorem dX2_heightAt_44 : decode cX2_heightAt 44 = .ok (.iadd, 1) := by decide +kernel
theorem dX2_heightAt_45 : decode cX2_heightAt 45 = .ok (.iconst 2, 1) := by decide +kernel
theorem dX2_heightAt_46 : decode cX2_heightAt 46 = .ok (.invokestatic 58, 3) := by decide +kernel
theorem dX2_heightAt_49 : decode cX2_heightAt 49 = .ok (.i2l, 1) := by decide +kernel
theorem dX2_heightAt_50 : decode cX2_heightAt 50 = .ok (.lstore 8, 2) := by decide +kernel
theorem dX2_heightAt_52 : decode cX2_heightAt 52 = .ok (.ldc2_w 63, 3) := by decide +kernel
theorem dX2_heightAt_55 : decode cX2_heightAt 55 = .ok (.lload 6, 2) := by decide +kernel
theorem dX2_heightAt_57 : decode cX2_heightAt 57 = .ok (.lmul, 1) := by decide +kernel
theorem dX2_heightAt_58 : decode cX2_heightAt 58 = .ok (.iload 4, 2) := by decide +kernel
theorem dX2_heightAt_60 : decode cX2_heightAt 60 = .ok (.iload_n 2, 1) := by decide +kernel
theorem dX2_heightAt_61 : decode cX2_heightAt 61 = .ok (.isub, 1) := by decide +kernel
theorem dX2_heightAt_62 : decode cX2_heightAt 62 = .ok (.i2l, 1) := by decide +kernel
theorem dX2_heightAt_63 : decode cX2_heightAt 63 = .ok (.lmul, 1) := by decide +kernel
theorem dX2_heightAt_64 : decode cX2_heightAt 64 = .ok (.lstore 10, 2) := by decide +kernel
theorem dX2_heightAt_66 : decode cX2_heightAt 66 = .ok (.aload_n 0, 1) := by decide +kernel
theorem dX2_heightAt_67 : decode cX2_heightAt 67 = .ok (.getfield 29, 3) := by decide +kernel
theorem dX2_heightAt_70 : decode cX2_heightAt 70 = .ok (.i2l, 1) := by decide +kernel
theorem dX2_heightAt_71 : decode cX2_heightAt 71 = .ok (.lload 10, 2) := by decide +kernel
theorem dX2_heightAt_73 : decode cX2_heightAt 73 = .ok (.lload 8, 2) := by decide +kernel
theorem dX2_heightAt_75 : decode cX2_heightAt 75 = .ok (.invokestatic 51, 3) := by decide +kernel
theorem dX2_heightAt_78 : decode cX2_heightAt 78 = .ok (.ladd, 1) := by decide +kernel
theorem dX2_heightAt_79 : decode cX2_heightAt 79 = .ok (.l2i, 1) := by decide +kernel
theorem dX2_heightAt_80 : decode cX2_heightAt 80 = .ok (.ireturn, 1) := by decide +kernel
set_option maxRecDepth 20000 in
theorem ggX2_isStepEnd_X5_value : GoodIn wsX2_isStepEnd wsX5_value := goodIn_r _ [11, 12, 13, 14, 15, 23, 24, 25] (by decide +kernel) (by decide +kernel)
set_option maxRecDepth 20000 in
theorem gX2_isStepEnd_X5_value : GoodIn wsX2_isStepEnd (wsV RX2 46 RX5 yX5_value wsX5_value) := goodIn_app (goodIn_of _ (by decide +kernel)) ggX2_isStepEnd_X5_value
theorem dX2_isStepEnd_0 : decode cX2_isStepEnd 0 = .ok (.aload_n 0, 1) := by decide +kernel
theorem dX2_isStepEnd_1 : decode cX2_isStepEnd 1 = .ok (.getfield 14, 3) := by decide +kernel
theorem dX2_isStepEnd_4 : decode cX2_isStepEnd 4 = .ok (.iload_n 1, 1) := by decide +kernel
theorem dX2_isStepEnd_5 : decode cX2_isStepEnd 5 = .ok (.iconst 2, 1) := by decide +kernel
theorem dX2_isStepEnd_6 : decode cX2_isStepEnd 6 = .ok (.invokevirtual 46, 3) := by decide +kernel
theorem dX2_isStepEnd_9 : decode cX2_isStepEnd 9 = .ok (.aload_n 0, 1) := by decide +kernel
theorem dX2_isStepEnd_10 : decode cX2_isStepEnd 10 = .ok (.getfield 14, 3) := by decide +kernel
theorem dX2_isStepEnd_13 : decode cX2_isStepEnd 13 = .ok (.iload_n 1, 1) := by decide +kernel
theorem dX2_isStepEnd_14 : decode cX2_isStepEnd 14 = .ok (.iconst 1, 1) := by decide +kernel
theorem dX2_isStepEnd_15 : decode cX2_isStepEnd 15 = .ok (.isub, 1) := by decide +kernel
theorem dX2_isStepEnd_16 : decode cX2_isStepEnd 16 = .ok (.iconst 2, 1) := by decide +kernel
theorem dX2_isStepEnd_17 : decode cX2_isStepEnd 17 = .ok (.invokevirtual 46, 3) := by decide +kernel
theorem dX2_isStepEnd_20 : decode cX2_isStepEnd 20 = .ok (.isub, 1) := by decide +kernel
theorem dX2_isStepEnd_21 : decode cX2_isStepEnd 21 = .ok (.istore_n 2, 1) := by decide +kernel
theorem dX2_isStepEnd_22 : decode cX2_isStepEnd 22 = .ok (.iload_n 2, 1) := by decide +kernel
theorem dX2_isStepEnd_23 : decode cX2_isStepEnd 23 = .ok (.invokestatic 65, 3) := by decide +kernel
theorem dX2_isStepEnd_26 : decode cX2_isStepEnd 26 = .ok (.aload_n 0, 1) := by decide +kernel
theorem dX2_isStepEnd_27 : decode cX2_isStepEnd 27 = .ok (.getfield 36, 3) := by decide +kernel
theorem dX2_isStepEnd_30 : decode cX2_isStepEnd 30 = .ok (.if_icmp .lt 7, 3) := by decide +kernel
theorem dX2_isStepEnd_33 : decode cX2_isStepEnd 33 = .ok (.iconst 1, 1) := by decide +kernel
theorem dX2_isStepEnd_34 : decode cX2_isStepEnd 34 = .ok (.goto 4, 3) := by decide +kernel
theorem dX2_isStepEnd_37 : decode cX2_isStepEnd 37 = .ok (.iconst 0, 1) := by decide +kernel
theorem dX2_isStepEnd_38 : decode cX2_isStepEnd 38 = .ok (.ireturn, 1) := by decide +kernel
set_option maxRecDepth 20000 in
theorem ggX2_steps_X2_isStepEnd : GoodIn wsX2_steps wsX2_isStepEnd := goodIn_r _ [6, 1, 7, 8, 9, 10, 11, 12, 13, 14, 15, 16, 17, 18, 19, 20, 21, 22, 23, 24, 25, 26, 27, 28, 29, 30] (by decide +kernel) (by decide +kernel)
set_option maxRecDepth 20000 in
theorem gX2_steps_X2_isStepEnd : GoodIn wsX2_steps (wsV RX2 69 RX2 yX2_isStepEnd wsX2_isStepEnd) := goodIn_app (goodIn_of _ (by decide +kernel)) ggX2_steps_X2_isStepEnd
theorem dX2_steps_0 : decode cX2_steps 0 = .ok (.iconst 0, 1) := by decide +kernel
theorem dX2_steps_1 : decode cX2_steps 1 = .ok (.istore_n 1, 1) := by decide +kernel
theorem dX2_steps_2 : decode cX2_steps 2 = .ok (.iconst 1, 1) := by decide +kernel
theorem dX2_steps_3 : decode cX2_steps 3 = .ok (.istore_n 2, 1) := by decide +kernel
theorem dX2_steps_4 : decode cX2_steps 4 = .ok (.iload_n 2, 1) := by decide +kernel
theorem dX2_steps_5 : decode cX2_steps 5 = .ok (.aload_n 0, 1) := by decide +kernel
theorem dX2_steps_6 : decode cX2_steps 6 = .ok (.getfield 14, 3) := by decide +kernel
theorem dX2_steps_9 : decode cX2_steps 9 = .ok (.getfield 43, 3) := by decide +kernel
theorem dX2_steps_12 : decode cX2_steps 12 = .ok (.if_icmp .ge 25, 3) := by decide +kernel
theorem dX2_steps_15 : decode cX2_steps 15 = .ok (.iload_n 1, 1) := by decide +kernel
theorem dX2_steps_16 : decode cX2_steps 16 = .ok (.aload_n 0, 1) := by decide +kernel
theorem dX2_steps_17 : decode cX2_steps 17 = .ok (.iload_n 2, 1) := by decide +kernel
theorem dX2_steps_18 : decode cX2_steps 18 = .ok (.invokevirtual 69, 3) := by decide +kernel
theorem dX2_steps_21 : decode cX2_steps 21 = .ok (.ifCond .eq 7, 3) := by decide +kernel
theorem dX2_steps_24 : decode cX2_steps 24 = .ok (.iconst 1, 1) := by decide +kernel
theorem dX2_steps_25 : decode cX2_steps 25 = .ok (.goto 4, 3) := by decide +kernel
theorem dX2_steps_28 : decode cX2_steps 28 = .ok (.iconst 0, 1) := by decide +kernel
theorem dX2_steps_29 : decode cX2_steps 29 = .ok (.iadd, 1) := by decide +kernel
theorem dX2_steps_30 : decode cX2_steps 30 = .ok (.istore_n 1, 1) := by decide +kernel
theorem dX2_steps_31 : decode cX2_steps 31 = .ok (.iinc 2 1, 3) := by decide +kernel
theorem dX2_steps_34 : decode cX2_steps 34 = .ok (.goto (-30), 3) := by decide +kernel
theorem dX2_steps_37 : decode cX2_steps 37 = .ok (.iload_n 1, 1) := by decide +kernel
theorem dX2_steps_38 : decode cX2_steps 38 = .ok (.ireturn, 1) := by decide +kernel
theorem dX5_init_0 : decode cX5_init 0 = .ok (.aload_n 0, 1) := by decide +kernel
theorem dX5_init_1 : decode cX5_init 1 = .ok (.invokespecial 3, 3) := by decide +kernel
theorem dX5_init_4 : decode cX5_init 4 = .ok (.aload_n 0, 1) := by decide +kernel
theorem dX5_init_5 : decode cX5_init 5 = .ok (.bipush 80, 2) := by decide +kernel
theorem dX5_init_7 : decode cX5_init 7 = .ok (.newarray .int, 2) := by decide +kernel
theorem dX5_init_9 : decode cX5_init 9 = .ok (.putfield 9, 3) := by decide +kernel
theorem dX5_init_12 : decode cX5_init 12 = .ok (.aload_n 0, 1) := by decide +kernel
theorem dX5_init_13 : decode cX5_init 13 = .ok (.iload_n 1, 1) := by decide +kernel
theorem dX5_init_14 : decode cX5_init 14 = .ok (.bipush 20, 2) := by decide +kernel
theorem dX5_init_16 : decode cX5_init 16 = .ok (.invokestatic 15, 3) := by decide +kernel
theorem dX5_init_19 : decode cX5_init 19 = .ok (.putfield 21, 3) := by decide +kernel
theorem dX5_init_22 : decode cX5_init 22 = .ok (.return_, 1) := by decide +kernel
set_option maxRecDepth 20000 in
theorem ggX5_value_X6_at : GoodIn wsX5_value wsX6_at := goodIn_r _ [4] (by decide +kernel) (by decide +kernel)
set_option maxRecDepth 20000 in
theorem gX5_value_X6_at_n25 : GoodIn wsX5_value (wsX6_at) := ggX5_value_X6_at
theorem dX5_value_0 : decode cX5_value 0 = .ok (.aload_n 0, 1) := by decide +kernel
theorem dX5_value_1 : decode cX5_value 1 = .ok (.getfield 9, 3) := by decide +kernel
theorem dX5_value_4 : decode cX5_value 4 = .ok (.iload_n 1, 1) := by decide +kernel
theorem dX5_value_5 : decode cX5_value 5 = .ok (.iconst 4, 1) := by decide +kernel
theorem dX5_value_6 : decode cX5_value 6 = .ok (.imul, 1) := by decide +kernel
theorem dX5_value_7 : decode cX5_value 7 = .ok (.iload_n 2, 1) := by decide +kernel
theorem dX5_value_8 : decode cX5_value 8 = .ok (.iadd, 1) := by decide +kernel
theorem dX5_value_9 : decode cX5_value 9 = .ok (.invokestatic 25, 3) := by decide +kernel
theorem dX5_value_12 : decode cX5_value 12 = .ok (.ireturn, 1) := by decide +kernel
theorem dX5_isFull_0 : decode cX5_isFull 0 = .ok (.aload_n 0, 1) := by decide +kernel
theorem dX5_isFull_1 : decode cX5_isFull 1 = .ok (.getfield 29, 3) := by decide +kernel
theorem dX5_isFull_4 : decode cX5_isFull 4 = .ok (.aload_n 0, 1) := by decide +kernel
theorem dX5_isFull_5 : decode cX5_isFull 5 = .ok (.getfield 21, 3) := by decide +kernel
theorem dX5_isFull_8 : decode cX5_isFull 8 = .ok (.if_icmp .lt 7, 3) := by decide +kernel
theorem dX5_isFull_11 : decode cX5_isFull 11 = .ok (.iconst 1, 1) := by decide +kernel
theorem dX5_isFull_12 : decode cX5_isFull 12 = .ok (.goto 4, 3) := by decide +kernel
theorem dX5_isFull_15 : decode cX5_isFull 15 = .ok (.iconst 0, 1) := by decide +kernel
theorem dX5_isFull_16 : decode cX5_isFull 16 = .ok (.ireturn, 1) := by decide +kernel
set_option maxRecDepth 20000 in
theorem ggX5_hasTime_X5_value : GoodIn wsX5_hasTime wsX5_value := goodIn_r _ [6, 7, 8, 9, 10, 11, 12, 13] (by decide +kernel) (by decide +kernel)
set_option maxRecDepth 20000 in
theorem gX5_hasTime_X5_value : GoodIn wsX5_hasTime (wsV RX5 32 RX5 yX5_value wsX5_value) := goodIn_app (goodIn_of _ (by decide +kernel)) ggX5_hasTime_X5_value
theorem dX5_hasTime_0 : decode cX5_hasTime 0 = .ok (.iconst 0, 1) := by decide +kernel
theorem dX5_hasTime_1 : decode cX5_hasTime 1 = .ok (.istore_n 2, 1) := by decide +kernel
theorem dX5_hasTime_2 : decode cX5_hasTime 2 = .ok (.iload_n 2, 1) := by decide +kernel
theorem dX5_hasTime_3 : decode cX5_hasTime 3 = .ok (.aload_n 0, 1) := by decide +kernel
theorem dX5_hasTime_4 : decode cX5_hasTime 4 = .ok (.getfield 29, 3) := by decide +kernel
theorem dX5_hasTime_7 : decode cX5_hasTime 7 = .ok (.if_icmp .ge 21, 3) := by decide +kernel
theorem dX5_hasTime_10 : decode cX5_hasTime 10 = .ok (.aload_n 0, 1) := by decide +kernel
theorem dX5_hasTime_11 : decode cX5_hasTime 11 = .ok (.iload_n 2, 1) := by decide +kernel
theorem dX5_hasTime_12 : decode cX5_hasTime 12 = .ok (.iconst 0, 1) := by decide +kernel
theorem dX5_hasTime_13 : decode cX5_hasTime 13 = .ok (.invokevirtual 32, 3) := by decide +kernel
theorem dX5_hasTime_16 : decode cX5_hasTime 16 = .ok (.iload_n 1, 1) := by decide +kernel
theorem dX5_hasTime_17 : decode cX5_hasTime 17 = .ok (.if_icmp .ne 5, 3) := by decide +kernel
theorem dX5_hasTime_20 : decode cX5_hasTime 20 = .ok (.iconst 1, 1) := by decide +kernel
theorem dX5_hasTime_21 : decode cX5_hasTime 21 = .ok (.ireturn, 1) := by decide +kernel
theorem dX5_hasTime_22 : decode cX5_hasTime 22 = .ok (.iinc 2 1, 3) := by decide +kernel
theorem dX5_hasTime_25 : decode cX5_hasTime 25 = .ok (.goto (-23), 3) := by decide +kernel
theorem dX5_hasTime_28 : decode cX5_hasTime 28 = .ok (.iconst 0, 1) := by decide +kernel
theorem dX5_hasTime_29 : decode cX5_hasTime 29 = .ok (.ireturn, 1) := by decide +kernel
set_option maxRecDepth 20000 in
theorem ggX5_standsOut_X5_value : GoodIn wsX5_standsOut wsX5_value := goodIn_r _ [6, 7, 8, 9, 10, 11, 12, 13] (by decide +kernel) (by decide +kernel)
set_option maxRecDepth 20000 in
theorem gX5_standsOut_X5_value : GoodIn wsX5_standsOut (wsV RX5 32 RX5 yX5_value wsX5_value) := goodIn_app (goodIn_of _ (by decide +kernel)) ggX5_standsOut_X5_value
theorem dX5_standsOut_0 : decode cX5_standsOut 0 = .ok (.iload_n 1, 1) := by decide +kernel
theorem dX5_standsOut_1 : decode cX5_standsOut 1 = .ok (.ifCond .le 13, 3) := by decide +kernel
theorem dX5_standsOut_4 : decode cX5_standsOut 4 = .ok (.iload_n 1, 1) := by decide +kernel
theorem dX5_standsOut_5 : decode cX5_standsOut 5 = .ok (.aload_n 0, 1) := by decide +kernel
theorem dX5_standsOut_6 : decode cX5_standsOut 6 = .ok (.getfield 29, 3) := by decide +kernel
theorem dX5_standsOut_9 : decode cX5_standsOut 9 = .ok (.iconst 1, 1) := by decide +kernel
theorem dX5_standsOut_10 : decode cX5_standsOut 10 = .ok (.isub, 1) := by decide +kernel
theorem dX5_standsOut_11 : decode cX5_standsOut 11 = .ok (.if_icmp .lt 5, 3) := by decide +kernel
theorem dX5_standsOut_14 : decode cX5_standsOut 14 = .ok (.iconst 0, 1) := by decide +kernel
theorem dX5_standsOut_15 : decode cX5_standsOut 15 = .ok (.ireturn, 1) := by decide +kernel
theorem dX5_standsOut_16 : decode cX5_standsOut 16 = .ok (.aload_n 0, 1) := by decide +kernel
theorem dX5_standsOut_17 : decode cX5_standsOut 17 = .ok (.iload_n 1, 1) := by decide +kernel
theorem dX5_standsOut_18 : decode cX5_standsOut 18 = .ok (.iconst 1, 1) := by decide +kernel
theorem dX5_standsOut_19 : decode cX5_standsOut 19 = .ok (.invokevirtual 32, 3) := by decide +kernel
theorem dX5_standsOut_22 : decode cX5_standsOut 22 = .ok (.istore_n 3, 1) := by decide +kernel
theorem dX5_standsOut_23 : decode cX5_standsOut 23 = .ok (.iload_n 3, 1) := by decide +kernel
theorem dX5_standsOut_24 : decode cX5_standsOut 24 = .ok (.aload_n 0, 1) := by decide +kernel
theorem dX5_standsOut_25 : decode cX5_standsOut 25 = .ok (.iload_n 1, 1) := by decide +kernel
theorem dX5_standsOut_26 : decode cX5_standsOut 26 = .ok (.iconst 1, 1) := by decide +kernel
theorem dX5_standsOut_27 : decode cX5_standsOut 27 = .ok (.isub, 1) := by decide +kernel
theorem dX5_standsOut_28 : decode cX5_standsOut 28 = .ok (.iconst 1, 1) := by decide +kernel
theorem dX5_standsOut_29 : decode cX5_standsOut 29 = .ok (.invokevirtual 32, 3) := by decide +kernel
theorem dX5_standsOut_32 : decode cX5_standsOut 32 = .ok (.isub, 1) := by decide +kernel
theorem dX5_standsOut_33 : decode cX5_standsOut 33 = .ok (.istore 4, 2) := by decide +kernel
theorem dX5_standsOut_35 : decode cX5_standsOut 35 = .ok (.iload_n 3, 1) := by decide +kernel
theorem dX5_standsOut_36 : decode cX5_standsOut 36 = .ok (.aload_n 0, 1) := by decide +kernel
theorem dX5_standsOut_37 : decode cX5_standsOut 37 = .ok (.iload_n 1, 1) := by decide +kernel
theorem dX5_standsOut_38 : decode cX5_standsOut 38 = .ok (.iconst 1, 1) := by decide +kernel
theorem dX5_standsOut_39 : decode cX5_standsOut 39 = .ok (.iadd, 1) := by decide +kernel
theorem dX5_standsOut_40 : decode cX5_standsOut 40 = .ok (.iconst 1, 1) := by decide +kernel
theorem dX5_standsOut_41 : decode cX5_standsOut 41 = .ok (.invokevirtual 32, 3) := by decide +kernel
theorem dX5_standsOut_44 : decode cX5_standsOut 44 = .ok (.isub, 1) := by decide +kernel
theorem dX5_standsOut_45 : decode cX5_standsOut 45 = .ok (.istore 5, 2) := by decide +kernel
theorem dX5_standsOut_47 : decode cX5_standsOut 47 = .ok (.iload 4, 2) := by decide +kernel
theorem dX5_standsOut_49 : decode cX5_standsOut 49 = .ok (.iload_n 2, 1) := by decide +kernel
theorem dX5_standsOut_50 : decode cX5_standsOut 50 = .ok (.if_icmp .le 9, 3) := by decide +kernel
theorem dX5_standsOut_53 : decode cX5_standsOut 53 = .ok (.iload 5, 2) := by decide +kernel
theorem dX5_standsOut_55 : decode cX5_standsOut 55 = .ok (.iload_n 2, 1) := by decide +kernel
theorem dX5_standsOut_56 : decode cX5_standsOut 56 = .ok (.if_icmp .gt 17, 3) := by decide +kernel
theorem dX5_standsOut_59 : decode cX5_standsOut 59 = .ok (.iload 4, 2) := by decide +kernel
theorem dX5_standsOut_61 : decode cX5_standsOut 61 = .ok (.iload_n 2, 1) := by decide +kernel
theorem dX5_standsOut_62 : decode cX5_standsOut 62 = .ok (.ineg, 1) := by decide +kernel
theorem dX5_standsOut_63 : decode cX5_standsOut 63 = .ok (.if_icmp .ge 14, 3) := by decide +kernel
theorem dX5_standsOut_66 : decode cX5_standsOut 66 = .ok (.iload 5, 2) := by decide +kernel
theorem dX5_standsOut_68 : decode cX5_standsOut 68 = .ok (.iload_n 2, 1) := by decide +kernel
theorem dX5_standsOut_69 : decode cX5_standsOut 69 = .ok (.ineg, 1) := by decide +kernel
theorem dX5_standsOut_70 : decode cX5_standsOut 70 = .ok (.if_icmp .ge 7, 3) := by decide +kernel
theorem dX5_standsOut_73 : decode cX5_standsOut 73 = .ok (.iconst 1, 1) := by decide +kernel
theorem dX5_standsOut_74 : decode cX5_standsOut 74 = .ok (.goto 4, 3) := by decide +kernel
theorem dX5_standsOut_77 : decode cX5_standsOut 77 = .ok (.iconst 0, 1) := by decide +kernel
theorem dX5_standsOut_78 : decode cX5_standsOut 78 = .ok (.ireturn, 1) := by decide +kernel
set_option maxRecDepth 20000 in
theorem ggX5_insert_X5_value : GoodIn wsX5_insert wsX5_value := goodIn_r _ [7, 2, 8, 9, 10, 17, 18, 19] (by decide +kernel) (by decide +kernel)
set_option maxRecDepth 20000 in
theorem gX5_insert_X5_value : GoodIn wsX5_insert (wsV RX5 32 RX5 yX5_value wsX5_value) := goodIn_app (goodIn_of _ (by decide +kernel)) ggX5_insert_X5_value
set_option maxRecDepth 20000 in
theorem ggX5_insert_X5_move : GoodIn wsX5_insert wsX5_move := goodIn_r _ [14, 2, 3, 4, 5, 6, 7, 8, 9, 10, 15, 16, 17, 18, 19] (by decide +kernel) (by decide +kernel)
set_option maxRecDepth 20000 in
theorem gX5_insert_X5_move : GoodIn wsX5_insert (wsV RX5 35 RX5 yX5_move wsX5_move) := goodIn_app (goodIn_of _ (by decide +kernel)) ggX5_insert_X5_move
set_option maxRecDepth 20000 in
theorem ggX5_insert_X6_put : GoodIn wsX5_insert wsX6_put := goodIn_r _ [16] (by decide +kernel) (by decide +kernel)
set_option maxRecDepth 20000 in
theorem gX5_insert_X6_put_n39 : GoodIn wsX5_insert (wsX6_put) := ggX5_insert_X6_put
theorem dX5_insert_0 : decode cX5_insert 0 = .ok (.aload_n 0, 1) := by decide +kernel
theorem dX5_insert_1 : decode cX5_insert 1 = .ok (.getfield 29, 3) := by decide +kernel
theorem dX5_insert_4 : decode cX5_insert 4 = .ok (.istore 5, 2) := by decide +kernel
theorem dX5_insert_6 : decode cX5_insert 6 = .ok (.iload 5, 2) := by decide +kernel
theorem dX5_insert_8 : decode cX5_insert 8 = .ok (.ifCond .le 32, 3) := by decide +kernel
theorem dX5_insert_11 : decode cX5_insert 11 = .ok (.aload_n 0, 1) := by decide +kernel
theorem dX5_insert_12 : decode cX5_insert 12 = .ok (.iload 5, 2) := by decide +kernel
theorem dX5_insert_14 : decode cX5_insert 14 = .ok (.iconst 1, 1) := by decide +kernel
theorem dX5_insert_15 : decode cX5_insert 15 = .ok (.isub, 1) := by decide +kernel
theorem dX5_insert_16 : decode cX5_insert 16 = .ok (.iconst 0, 1) := by decide +kernel
theorem dX5_insert_17 : decode cX5_insert 17 = .ok (.invokevirtual 32, 3) := by decide +kernel
theorem dX5_insert_20 : decode cX5_insert 20 = .ok (.iload_n 2, 1) := by decide +kernel
theorem dX5_insert_21 : decode cX5_insert 21 = .ok (.if_icmp .le 19, 3) := by decide +kernel
theorem dX5_insert_24 : decode cX5_insert 24 = .ok (.aload_n 0, 1) := by decide +kernel
theorem dX5_insert_25 : decode cX5_insert 25 = .ok (.iload 5, 2) := by decide +kernel
theorem dX5_insert_27 : decode cX5_insert 27 = .ok (.iconst 1, 1) := by decide +kernel
theorem dX5_insert_28 : decode cX5_insert 28 = .ok (.isub, 1) := by decide +kernel
theorem dX5_insert_29 : decode cX5_insert 29 = .ok (.iload 5, 2) := by decide +kernel
theorem dX5_insert_31 : decode cX5_insert 31 = .ok (.invokevirtual 35, 3) := by decide +kernel
theorem dX5_insert_34 : decode cX5_insert 34 = .ok (.iinc 5 (-1), 3) := by decide +kernel
theorem dX5_insert_37 : decode cX5_insert 37 = .ok (.goto (-31), 3) := by decide +kernel
theorem dX5_insert_40 : decode cX5_insert 40 = .ok (.iload 5, 2) := by decide +kernel
theorem dX5_insert_42 : decode cX5_insert 42 = .ok (.iconst 4, 1) := by decide +kernel
theorem dX5_insert_43 : decode cX5_insert 43 = .ok (.imul, 1) := by decide +kernel
theorem dX5_insert_44 : decode cX5_insert 44 = .ok (.istore 6, 2) := by decide +kernel
theorem dX5_insert_46 : decode cX5_insert 46 = .ok (.aload_n 0, 1) := by decide +kernel
theorem dX5_insert_47 : decode cX5_insert 47 = .ok (.getfield 9, 3) := by decide +kernel
theorem dX5_insert_50 : decode cX5_insert 50 = .ok (.iload 6, 2) := by decide +kernel
theorem dX5_insert_52 : decode cX5_insert 52 = .ok (.iconst 0, 1) := by decide +kernel
theorem dX5_insert_53 : decode cX5_insert 53 = .ok (.iadd, 1) := by decide +kernel
theorem dX5_insert_54 : decode cX5_insert 54 = .ok (.iload_n 2, 1) := by decide +kernel
theorem dX5_insert_55 : decode cX5_insert 55 = .ok (.invokestatic 39, 3) := by decide +kernel
theorem dX5_insert_58 : decode cX5_insert 58 = .ok (.aload_n 0, 1) := by decide +kernel
theorem dX5_insert_59 : decode cX5_insert 59 = .ok (.getfield 9, 3) := by decide +kernel
theorem dX5_insert_62 : decode cX5_insert 62 = .ok (.iload 6, 2) := by decide +kernel
theorem dX5_insert_64 : decode cX5_insert 64 = .ok (.iconst 1, 1) := by decide +kernel
theorem dX5_insert_65 : decode cX5_insert 65 = .ok (.iadd, 1) := by decide +kernel
theorem dX5_insert_66 : decode cX5_insert 66 = .ok (.iload_n 3, 1) := by decide +kernel
theorem dX5_insert_67 : decode cX5_insert 67 = .ok (.invokestatic 39, 3) := by decide +kernel
theorem dX5_insert_70 : decode cX5_insert 70 = .ok (.aload_n 0, 1) := by decide +kernel
theorem dX5_insert_71 : decode cX5_insert 71 = .ok (.getfield 9, 3) := by decide +kernel
theorem dX5_insert_74 : decode cX5_insert 74 = .ok (.iload 6, 2) := by decide +kernel
theorem dX5_insert_76 : decode cX5_insert 76 = .ok (.iconst 2, 1) := by decide +kernel
theorem dX5_insert_77 : decode cX5_insert 77 = .ok (.iadd, 1) := by decide +kernel
theorem dX5_insert_78 : decode cX5_insert 78 = .ok (.iload 4, 2) := by decide +kernel
theorem dX5_insert_80 : decode cX5_insert 80 = .ok (.invokestatic 39, 3) := by decide +kernel
theorem dX5_insert_83 : decode cX5_insert 83 = .ok (.aload_n 0, 1) := by decide +kernel
theorem dX5_insert_84 : decode cX5_insert 84 = .ok (.getfield 9, 3) := by decide +kernel
theorem dX5_insert_87 : decode cX5_insert 87 = .ok (.iload 6, 2) := by decide +kernel
theorem dX5_insert_89 : decode cX5_insert 89 = .ok (.iconst 3, 1) := by decide +kernel
theorem dX5_insert_90 : decode cX5_insert 90 = .ok (.iadd, 1) := by decide +kernel
theorem dX5_insert_91 : decode cX5_insert 91 = .ok (.iload_n 1, 1) := by decide +kernel
theorem dX5_insert_92 : decode cX5_insert 92 = .ok (.invokestatic 39, 3) := by decide +kernel
theorem dX5_insert_95 : decode cX5_insert 95 = .ok (.aload_n 0, 1) := by decide +kernel
theorem dX5_insert_96 : decode cX5_insert 96 = .ok (.dup, 1) := by decide +kernel
theorem dX5_insert_97 : decode cX5_insert 97 = .ok (.getfield 29, 3) := by decide +kernel
theorem dX5_insert_100 : decode cX5_insert 100 = .ok (.iconst 1, 1) := by decide +kernel
theorem dX5_insert_101 : decode cX5_insert 101 = .ok (.iadd, 1) := by decide +kernel
theorem dX5_insert_102 : decode cX5_insert 102 = .ok (.putfield 29, 3) := by decide +kernel
theorem dX5_insert_105 : decode cX5_insert 105 = .ok (.iload 5, 2) := by decide +kernel
theorem dX5_insert_107 : decode cX5_insert 107 = .ok (.ireturn, 1) := by decide +kernel
set_option maxRecDepth 20000 in
theorem ggX5_remove_X5_move : GoodIn wsX5_remove wsX5_move := goodIn_r _ [6, 7, 8, 9, 10, 5, 11, 12, 13, 14, 15, 16, 17, 18, 19] (by decide +kernel) (by decide +kernel)
set_option maxRecDepth 20000 in
theorem gX5_remove_X5_move : GoodIn wsX5_remove (wsV RX5 35 RX5 yX5_move wsX5_move) := goodIn_app (goodIn_of _ (by decide +kernel)) ggX5_remove_X5_move
theorem dX5_remove_0 : decode cX5_remove 0 = .ok (.iload_n 1, 1) := by decide +kernel
theorem dX5_remove_1 : decode cX5_remove 1 = .ok (.iconst 1, 1) := by decide +kernel
theorem dX5_remove_2 : decode cX5_remove 2 = .ok (.iadd, 1) := by decide +kernel
theorem dX5_remove_3 : decode cX5_remove 3 = .ok (.istore_n 2, 1) := by decide +kernel
theorem dX5_remove_4 : decode cX5_remove 4 = .ok (.iload_n 2, 1) := by decide +kernel
theorem dX5_remove_5 : decode cX5_remove 5 = .ok (.aload_n 0, 1) := by decide +kernel
theorem dX5_remove_6 : decode cX5_remove 6 = .ok (.getfield 29, 3) := by decide +kernel
theorem dX5_remove_9 : decode cX5_remove 9 = .ok (.if_icmp .ge 17, 3) := by decide +kernel
theorem dX5_remove_12 : decode cX5_remove 12 = .ok (.aload_n 0, 1) := by decide +kernel
theorem dX5_remove_13 : decode cX5_remove 13 = .ok (.iload_n 2, 1) := by decide +kernel
theorem dX5_remove_14 : decode cX5_remove 14 = .ok (.iload_n 2, 1) := by decide +kernel
theorem dX5_remove_15 : decode cX5_remove 15 = .ok (.iconst 1, 1) := by decide +kernel
theorem dX5_remove_16 : decode cX5_remove 16 = .ok (.isub, 1) := by decide +kernel
theorem dX5_remove_17 : decode cX5_remove 17 = .ok (.invokevirtual 35, 3) := by decide +kernel
theorem dX5_remove_20 : decode cX5_remove 20 = .ok (.iinc 2 1, 3) := by decide +kernel
theorem dX5_remove_23 : decode cX5_remove 23 = .ok (.goto (-19), 3) := by decide +kernel
theorem dX5_remove_26 : decode cX5_remove 26 = .ok (.aload_n 0, 1) := by decide +kernel
theorem dX5_remove_27 : decode cX5_remove 27 = .ok (.dup, 1) := by decide +kernel
theorem dX5_remove_28 : decode cX5_remove 28 = .ok (.getfield 29, 3) := by decide +kernel
theorem dX5_remove_31 : decode cX5_remove 31 = .ok (.iconst 1, 1) := by decide +kernel
theorem dX5_remove_32 : decode cX5_remove 32 = .ok (.isub, 1) := by decide +kernel
theorem dX5_remove_33 : decode cX5_remove 33 = .ok (.putfield 29, 3) := by decide +kernel
theorem dX5_remove_36 : decode cX5_remove 36 = .ok (.return_, 1) := by decide +kernel
theorem dX5_copyFrom_0 : decode cX5_copyFrom 0 = .ok (.aload_n 1, 1) := by decide +kernel
theorem dX5_copyFrom_1 : decode cX5_copyFrom 1 = .ok (.getfield 9, 3) := by decide +kernel
theorem dX5_copyFrom_4 : decode cX5_copyFrom 4 = .ok (.iconst 0, 1) := by decide +kernel
theorem dX5_copyFrom_5 : decode cX5_copyFrom 5 = .ok (.aload_n 0, 1) := by decide +kernel
theorem dX5_copyFrom_6 : decode cX5_copyFrom 6 = .ok (.getfield 9, 3) := by decide +kernel
theorem dX5_copyFrom_9 : decode cX5_copyFrom 9 = .ok (.iconst 0, 1) := by decide +kernel
theorem dX5_copyFrom_10 : decode cX5_copyFrom 10 = .ok (.aload_n 1, 1) := by decide +kernel
theorem dX5_copyFrom_11 : decode cX5_copyFrom 11 = .ok (.getfield 9, 3) := by decide +kernel
theorem dX5_copyFrom_14 : decode cX5_copyFrom 14 = .ok (.arraylength, 1) := by decide +kernel
theorem dX5_copyFrom_15 : decode cX5_copyFrom 15 = .ok (.aload_n 0, 1) := by decide +kernel
theorem dX5_copyFrom_16 : decode cX5_copyFrom 16 = .ok (.getfield 9, 3) := by decide +kernel
theorem dX5_copyFrom_19 : decode cX5_copyFrom 19 = .ok (.arraylength, 1) := by decide +kernel
theorem dX5_copyFrom_20 : decode cX5_copyFrom 20 = .ok (.invokestatic 15, 3) := by decide +kernel
theorem dX5_copyFrom_23 : decode cX5_copyFrom 23 = .ok (.invokestatic 43, 3) := by decide +kernel
theorem dX5_copyFrom_26 : decode cX5_copyFrom 26 = .ok (.aload_n 0, 1) := by decide +kernel
theorem dX5_copyFrom_27 : decode cX5_copyFrom 27 = .ok (.aload_n 1, 1) := by decide +kernel
theorem dX5_copyFrom_28 : decode cX5_copyFrom 28 = .ok (.getfield 29, 3) := by decide +kernel
theorem dX5_copyFrom_31 : decode cX5_copyFrom 31 = .ok (.putfield 29, 3) := by decide +kernel
theorem dX5_copyFrom_34 : decode cX5_copyFrom 34 = .ok (.return_, 1) := by decide +kernel
set_option maxRecDepth 20000 in
theorem ggX5_move_X5_value : GoodIn wsX5_move wsX5_value := goodIn_r _ [6, 1, 7, 8, 9, 12, 13, 14] (by decide +kernel) (by decide +kernel)
set_option maxRecDepth 20000 in
theorem gX5_move_X5_value : GoodIn wsX5_move (wsV RX5 32 RX5 yX5_value wsX5_value) := goodIn_app (goodIn_of _ (by decide +kernel)) ggX5_move_X5_value
set_option maxRecDepth 20000 in
theorem ggX5_move_X6_put : GoodIn wsX5_move wsX6_put := goodIn_r _ [11] (by decide +kernel) (by decide +kernel)
set_option maxRecDepth 20000 in
theorem gX5_move_X6_put_n39 : GoodIn wsX5_move (wsX6_put) := ggX5_move_X6_put
theorem dX5_move_0 : decode cX5_move 0 = .ok (.iconst 0, 1) := by decide +kernel
theorem dX5_move_1 : decode cX5_move 1 = .ok (.istore_n 3, 1) := by decide +kernel
theorem dX5_move_2 : decode cX5_move 2 = .ok (.iload_n 3, 1) := by decide +kernel
theorem dX5_move_3 : decode cX5_move 3 = .ok (.iconst 4, 1) := by decide +kernel
theorem dX5_move_4 : decode cX5_move 4 = .ok (.if_icmp .ge 27, 3) := by decide +kernel
theorem dX5_move_7 : decode cX5_move 7 = .ok (.aload_n 0, 1) := by decide +kernel
theorem dX5_move_8 : decode cX5_move 8 = .ok (.getfield 9, 3) := by decide +kernel
theorem dX5_move_11 : decode cX5_move 11 = .ok (.iload_n 2, 1) := by decide +kernel
theorem dX5_move_12 : decode cX5_move 12 = .ok (.iconst 4, 1) := by decide +kernel
theorem dX5_move_13 : decode cX5_move 13 = .ok (.imul, 1) := by decide +kernel
theorem dX5_move_14 : decode cX5_move 14 = .ok (.iload_n 3, 1) := by decide +kernel
theorem dX5_move_15 : decode cX5_move 15 = .ok (.iadd, 1) := by decide +kernel
theorem dX5_move_16 : decode cX5_move 16 = .ok (.aload_n 0, 1) := by decide +kernel
theorem dX5_move_17 : decode cX5_move 17 = .ok (.iload_n 1, 1) := by decide +kernel
theorem dX5_move_18 : decode cX5_move 18 = .ok (.iload_n 3, 1) := by decide +kernel
theorem dX5_move_19 : decode cX5_move 19 = .ok (.invokevirtual 32, 3) := by decide +kernel
theorem dX5_move_22 : decode cX5_move 22 = .ok (.invokestatic 39, 3) := by decide +kernel
theorem dX5_move_25 : decode cX5_move 25 = .ok (.iinc 3 1, 3) := by decide +kernel
theorem dX5_move_28 : decode cX5_move 28 = .ok (.goto (-26), 3) := by decide +kernel
theorem dX5_move_31 : decode cX5_move 31 = .ok (.return_, 1) := by decide +kernel
theorem dJ9_floorDiv_7cf53_0 : decode cJ9_floorDiv_7cf53 0 = .ok (.iload_n 0, 1) := by decide +kernel
theorem dJ9_floorDiv_7cf53_1 : decode cJ9_floorDiv_7cf53 1 = .ok (.iload_n 1, 1) := by decide +kernel
theorem dJ9_floorDiv_7cf53_2 : decode cJ9_floorDiv_7cf53 2 = .ok (.idiv, 1) := by decide +kernel
theorem dJ9_floorDiv_7cf53_3 : decode cJ9_floorDiv_7cf53 3 = .ok (.istore_n 2, 1) := by decide +kernel
theorem dJ9_floorDiv_7cf53_4 : decode cJ9_floorDiv_7cf53 4 = .ok (.iload_n 0, 1) := by decide +kernel
theorem dJ9_floorDiv_7cf53_5 : decode cJ9_floorDiv_7cf53 5 = .ok (.iload_n 1, 1) := by decide +kernel
theorem dJ9_floorDiv_7cf53_6 : decode cJ9_floorDiv_7cf53 6 = .ok (.ixor, 1) := by decide +kernel
theorem dJ9_floorDiv_7cf53_7 : decode cJ9_floorDiv_7cf53 7 = .ok (.ifCond .ge 14, 3) := by decide +kernel
theorem dJ9_floorDiv_7cf53_10 : decode cJ9_floorDiv_7cf53 10 = .ok (.iload_n 2, 1) := by decide +kernel
theorem dJ9_floorDiv_7cf53_11 : decode cJ9_floorDiv_7cf53 11 = .ok (.iload_n 1, 1) := by decide +kernel
theorem dJ9_floorDiv_7cf53_12 : decode cJ9_floorDiv_7cf53 12 = .ok (.imul, 1) := by decide +kernel
theorem dJ9_floorDiv_7cf53_13 : decode cJ9_floorDiv_7cf53 13 = .ok (.iload_n 0, 1) := by decide +kernel
theorem dJ9_floorDiv_7cf53_14 : decode cJ9_floorDiv_7cf53 14 = .ok (.if_icmp .eq 7, 3) := by decide +kernel
theorem dJ9_floorDiv_7cf53_17 : decode cJ9_floorDiv_7cf53 17 = .ok (.iload_n 2, 1) := by decide +kernel
theorem dJ9_floorDiv_7cf53_18 : decode cJ9_floorDiv_7cf53 18 = .ok (.iconst 1, 1) := by decide +kernel
theorem dJ9_floorDiv_7cf53_19 : decode cJ9_floorDiv_7cf53 19 = .ok (.isub, 1) := by decide +kernel
theorem dJ9_floorDiv_7cf53_20 : decode cJ9_floorDiv_7cf53 20 = .ok (.ireturn, 1) := by decide +kernel
theorem dJ9_floorDiv_7cf53_21 : decode cJ9_floorDiv_7cf53 21 = .ok (.iload_n 2, 1) := by decide +kernel
theorem dJ9_floorDiv_7cf53_22 : decode cJ9_floorDiv_7cf53 22 = .ok (.ireturn, 1) := by decide +kernel
theorem dJ9_floorDiv_f86c9_0 : decode cJ9_floorDiv_f86c9 0 = .ok (.lload_n 0, 1) := by decide +kernel
theorem dJ9_floorDiv_f86c9_1 : decode cJ9_floorDiv_f86c9 1 = .ok (.lload_n 2, 1) := by decide +kernel
theorem dJ9_floorDiv_f86c9_2 : decode cJ9_floorDiv_f86c9 2 = .ok (.ldiv, 1) := by decide +kernel
theorem dJ9_floorDiv_f86c9_3 : decode cJ9_floorDiv_f86c9 3 = .ok (.lstore 4, 2) := by decide +kernel
theorem dJ9_floorDiv_f86c9_5 : decode cJ9_floorDiv_f86c9 5 = .ok (.lload_n 0, 1) := by decide +kernel
theorem dJ9_floorDiv_f86c9_6 : decode cJ9_floorDiv_f86c9 6 = .ok (.lload_n 2, 1) := by decide +kernel
theorem dJ9_floorDiv_f86c9_7 : decode cJ9_floorDiv_f86c9 7 = .ok (.lxor, 1) := by decide +kernel
theorem dJ9_floorDiv_f86c9_8 : decode cJ9_floorDiv_f86c9 8 = .ok (.lconst 0, 1) := by decide +kernel
theorem dJ9_floorDiv_f86c9_9 : decode cJ9_floorDiv_f86c9 9 = .ok (.lcmp, 1) := by decide +kernel
theorem dJ9_floorDiv_f86c9_10 : decode cJ9_floorDiv_f86c9 10 = .ok (.ifCond .ge 17, 3) := by decide +kernel
theorem dJ9_floorDiv_f86c9_13 : decode cJ9_floorDiv_f86c9 13 = .ok (.lload 4, 2) := by decide +kernel
theorem dJ9_floorDiv_f86c9_15 : decode cJ9_floorDiv_f86c9 15 = .ok (.lload_n 2, 1) := by decide +kernel
theorem dJ9_floorDiv_f86c9_16 : decode cJ9_floorDiv_f86c9 16 = .ok (.lmul, 1) := by decide +kernel
theorem dJ9_floorDiv_f86c9_17 : decode cJ9_floorDiv_f86c9 17 = .ok (.lload_n 0, 1) := by decide +kernel
theorem dJ9_floorDiv_f86c9_18 : decode cJ9_floorDiv_f86c9 18 = .ok (.lcmp, 1) := by decide +kernel
theorem dJ9_floorDiv_f86c9_19 : decode cJ9_floorDiv_f86c9 19 = .ok (.ifCond .eq 8, 3) := by decide +kernel
theorem dJ9_floorDiv_f86c9_22 : decode cJ9_floorDiv_f86c9 22 = .ok (.lload 4, 2) := by decide +kernel
theorem dJ9_floorDiv_f86c9_24 : decode cJ9_floorDiv_f86c9 24 = .ok (.lconst 1, 1) := by decide +kernel
theorem dJ9_floorDiv_f86c9_25 : decode cJ9_floorDiv_f86c9 25 = .ok (.lsub, 1) := by decide +kernel
theorem dJ9_floorDiv_f86c9_26 : decode cJ9_floorDiv_f86c9 26 = .ok (.lreturn, 1) := by decide +kernel
theorem dJ9_floorDiv_f86c9_27 : decode cJ9_floorDiv_f86c9 27 = .ok (.lload 4, 2) := by decide +kernel
theorem dJ9_floorDiv_f86c9_29 : decode cJ9_floorDiv_f86c9 29 = .ok (.lreturn, 1) := by decide +kernel
theorem dJ9_abs_0f7a4_0 : decode cJ9_abs_0f7a4 0 = .ok (.iload_n 0, 1) := by decide +kernel
theorem dJ9_abs_0f7a4_1 : decode cJ9_abs_0f7a4 1 = .ok (.ifCond .ge 8, 3) := by decide +kernel
theorem dJ9_abs_0f7a4_4 : decode cJ9_abs_0f7a4 4 = .ok (.iload_n 0, 1) := by decide +kernel
theorem dJ9_abs_0f7a4_5 : decode cJ9_abs_0f7a4 5 = .ok (.ineg, 1) := by decide +kernel
theorem dJ9_abs_0f7a4_6 : decode cJ9_abs_0f7a4 6 = .ok (.goto 4, 3) := by decide +kernel
theorem dJ9_abs_0f7a4_9 : decode cJ9_abs_0f7a4 9 = .ok (.iload_n 0, 1) := by decide +kernel
theorem dJ9_abs_0f7a4_10 : decode cJ9_abs_0f7a4 10 = .ok (.ireturn, 1) := by decide +kernel
theorem dJ9_max_7cf53_0 : decode cJ9_max_7cf53 0 = .ok (.iload_n 0, 1) := by decide +kernel
theorem dJ9_max_7cf53_1 : decode cJ9_max_7cf53 1 = .ok (.iload_n 1, 1) := by decide +kernel
theorem dJ9_max_7cf53_2 : decode cJ9_max_7cf53 2 = .ok (.if_icmp .lt 7, 3) := by decide +kernel
theorem dJ9_max_7cf53_5 : decode cJ9_max_7cf53 5 = .ok (.iload_n 0, 1) := by decide +kernel
theorem dJ9_max_7cf53_6 : decode cJ9_max_7cf53 6 = .ok (.goto 4, 3) := by decide +kernel
theorem dJ9_max_7cf53_9 : decode cJ9_max_7cf53 9 = .ok (.iload_n 1, 1) := by decide +kernel
theorem dJ9_max_7cf53_10 : decode cJ9_max_7cf53 10 = .ok (.ireturn, 1) := by decide +kernel
theorem dJ9_min_7cf53_0 : decode cJ9_min_7cf53 0 = .ok (.iload_n 0, 1) := by decide +kernel
theorem dJ9_min_7cf53_1 : decode cJ9_min_7cf53 1 = .ok (.iload_n 1, 1) := by decide +kernel
theorem dJ9_min_7cf53_2 : decode cJ9_min_7cf53 2 = .ok (.if_icmp .gt 7, 3) := by decide +kernel
theorem dJ9_min_7cf53_5 : decode cJ9_min_7cf53 5 = .ok (.iload_n 0, 1) := by decide +kernel
theorem dJ9_min_7cf53_6 : decode cJ9_min_7cf53 6 = .ok (.goto 4, 3) := by decide +kernel
theorem dJ9_min_7cf53_9 : decode cJ9_min_7cf53 9 = .ok (.iload_n 1, 1) := by decide +kernel
theorem dJ9_min_7cf53_10 : decode cJ9_min_7cf53 10 = .ok (.ireturn, 1) := by decide +kernel
