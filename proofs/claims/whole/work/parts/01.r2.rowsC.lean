theorem dX4_init_0 : decode cX4_init 0 = .ok (.aload_n 0, 1) := by decide +kernel
theorem dX4_init_1 : decode cX4_init 1 = .ok (.invokespecial 3, 3) := by decide +kernel
theorem dX4_init_4 : decode cX4_init 4 = .ok (.aload_n 0, 1) := by decide +kernel
theorem dX4_init_5 : decode cX4_init 5 = .ok (.bipush 100, 2) := by decide +kernel
theorem dX4_init_7 : decode cX4_init 7 = .ok (.newarray .int, 2) := by decide +kernel
theorem dX4_init_9 : decode cX4_init 9 = .ok (.putfield 9, 3) := by decide +kernel
theorem dX4_init_12 : decode cX4_init 12 = .ok (.aload_n 0, 1) := by decide +kernel
theorem dX4_init_13 : decode cX4_init 13 = .ok (.iconst (-1), 1) := by decide +kernel
theorem dX4_init_14 : decode cX4_init 14 = .ok (.putfield 15, 3) := by decide +kernel
theorem dX4_init_17 : decode cX4_init 17 = .ok (.return_, 1) := by decide +kernel
set_option maxRecDepth 20000 in
theorem ggX4_append_X6_put : GoodIn wsX4_append wsX6_put := goodIn_r _ [5] (by decide +kernel) (by decide +kernel)
set_option maxRecDepth 20000 in
theorem gX4_append_X6_put_n22 : GoodIn wsX4_append (wsX6_put) := ggX4_append_X6_put
theorem dX4_append_0 : decode cX4_append 0 = .ok (.aload_n 0, 1) := by decide +kernel
theorem dX4_append_1 : decode cX4_append 1 = .ok (.getfield 19, 3) := by decide +kernel
theorem dX4_append_4 : decode cX4_append 4 = .ok (.bipush 100, 2) := by decide +kernel
theorem dX4_append_6 : decode cX4_append 6 = .ok (.if_icmp .ge 25, 3) := by decide +kernel
theorem dX4_append_9 : decode cX4_append 9 = .ok (.aload_n 0, 1) := by decide +kernel
theorem dX4_append_10 : decode cX4_append 10 = .ok (.getfield 9, 3) := by decide +kernel
theorem dX4_append_13 : decode cX4_append 13 = .ok (.aload_n 0, 1) := by decide +kernel
theorem dX4_append_14 : decode cX4_append 14 = .ok (.getfield 19, 3) := by decide +kernel
theorem dX4_append_17 : decode cX4_append 17 = .ok (.iload_n 1, 1) := by decide +kernel
theorem dX4_append_18 : decode cX4_append 18 = .ok (.invokestatic 22, 3) := by decide +kernel
theorem dX4_append_21 : decode cX4_append 21 = .ok (.aload_n 0, 1) := by decide +kernel
theorem dX4_append_22 : decode cX4_append 22 = .ok (.dup, 1) := by decide +kernel
theorem dX4_append_23 : decode cX4_append 23 = .ok (.getfield 19, 3) := by decide +kernel
theorem dX4_append_26 : decode cX4_append 26 = .ok (.iconst 1, 1) := by decide +kernel
theorem dX4_append_27 : decode cX4_append 27 = .ok (.iadd, 1) := by decide +kernel
theorem dX4_append_28 : decode cX4_append 28 = .ok (.putfield 19, 3) := by decide +kernel
theorem dX4_append_31 : decode cX4_append 31 = .ok (.return_, 1) := by decide +kernel
set_option maxRecDepth 20000 in
theorem ggX4_readInto_X4_takeReading : GoodIn wsX4_readInto wsX4_takeReading := goodIn_r _ [15, 8, 9, 10, 16, 17, 18, 14, 19, 5, 7, 20, 21, 22, 23, 1, 4, 24, 25, 26, 27, 28, 29, 30, 31, 32, 33, 84, 85, 86, 87, 88, 89, 90, 91, 92, 93, 94] (by decide +kernel) (by decide +kernel)
set_option maxRecDepth 20000 in
theorem gX4_readInto_X4_takeReading : GoodIn wsX4_readInto (wsV RX4 32 RX4 yX4_takeReading wsX4_takeReading) := goodIn_app (goodIn_of _ (by decide +kernel)) ggX4_readInto_X4_takeReading
set_option maxRecDepth 20000 in
theorem ggX4_readInto_X2_track : GoodIn wsX4_readInto wsX2_track := goodIn_r _ [38, 39, 40, 41, 42, 95, 96, 97, 98, 99, 100, 101] (by decide +kernel) (by decide +kernel)
set_option maxRecDepth 20000 in
theorem gX4_readInto_X2_track : GoodIn wsX4_readInto (wsV RX4 39 RX2 yX2_track wsX2_track) := goodIn_app (goodIn_of _ (by decide +kernel)) ggX4_readInto_X2_track
set_option maxRecDepth 20000 in
theorem ggX4_readInto_X4_reasonAgainst : GoodIn wsX4_readInto wsX4_reasonAgainst := goodIn_r _ [46, 5, 8, 9, 10, 47, 26, 48, 49, 50, 51, 52, 53, 54, 32, 33, 55, 56, 57, 58, 59, 60, 61, 62, 63, 64, 65, 66, 67, 68, 25, 27, 69, 70, 71, 72, 73, 84, 85, 86, 87, 88, 89, 90, 91, 92, 93, 94, 102, 103, 104] (by decide +kernel) (by decide +kernel)
set_option maxRecDepth 20000 in
theorem gX4_readInto_X4_reasonAgainst : GoodIn wsX4_readInto (wsV RX4 45 RX4 yX4_reasonAgainst wsX4_reasonAgainst) := goodIn_app (goodIn_of _ (by decide +kernel)) ggX4_readInto_X4_reasonAgainst
set_option maxRecDepth 20000 in
theorem ggX4_readInto_X5_insert : GoodIn wsX4_readInto wsX5_insert := goodIn_r _ [77, 63, 68, 64, 65, 66, 61, 67, 25, 26, 27, 78, 79, 80, 81, 82, 83, 102, 103, 104] (by decide +kernel) (by decide +kernel)
set_option maxRecDepth 20000 in
theorem gX4_readInto_X5_insert : GoodIn wsX4_readInto (wsV RX4 64 RX5 yX5_insert wsX5_insert) := goodIn_app (goodIn_of _ (by decide +kernel)) ggX4_readInto_X5_insert
theorem dX4_readInto_0 : decode cX4_readInto 0 = .ok (.aload_n 0, 1) := by decide +kernel
theorem dX4_readInto_1 : decode cX4_readInto 1 = .ok (.iconst 0, 1) := by decide +kernel
theorem dX4_readInto_2 : decode cX4_readInto 2 = .ok (.putfield 26, 3) := by decide +kernel
theorem dX4_readInto_5 : decode cX4_readInto 5 = .ok (.aload_n 0, 1) := by decide +kernel
theorem dX4_readInto_6 : decode cX4_readInto 6 = .ok (.iconst 0, 1) := by decide +kernel
theorem dX4_readInto_7 : decode cX4_readInto 7 = .ok (.putfield 29, 3) := by decide +kernel
theorem dX4_readInto_10 : decode cX4_readInto 10 = .ok (.aload_n 0, 1) := by decide +kernel
theorem dX4_readInto_11 : decode cX4_readInto 11 = .ok (.iconst (-1), 1) := by decide +kernel
theorem dX4_readInto_12 : decode cX4_readInto 12 = .ok (.putfield 15, 3) := by decide +kernel
theorem dX4_readInto_15 : decode cX4_readInto 15 = .ok (.iconst 0, 1) := by decide +kernel
theorem dX4_readInto_16 : decode cX4_readInto 16 = .ok (.istore_n 2, 1) := by decide +kernel
theorem dX4_readInto_17 : decode cX4_readInto 17 = .ok (.iload_n 2, 1) := by decide +kernel
theorem dX4_readInto_18 : decode cX4_readInto 18 = .ok (.bipush 100, 2) := by decide +kernel
theorem dX4_readInto_20 : decode cX4_readInto 20 = .ok (.if_icmp .ge 103, 3) := by decide +kernel
theorem dX4_readInto_23 : decode cX4_readInto 23 = .ok (.aload_n 0, 1) := by decide +kernel
theorem dX4_readInto_24 : decode cX4_readInto 24 = .ok (.getfield 26, 3) := by decide +kernel
theorem dX4_readInto_27 : decode cX4_readInto 27 = .ok (.aload_n 0, 1) := by decide +kernel
theorem dX4_readInto_28 : decode cX4_readInto 28 = .ok (.getfield 19, 3) := by decide +kernel
theorem dX4_readInto_31 : decode cX4_readInto 31 = .ok (.if_icmp .ge 92, 3) := by decide +kernel
theorem dX4_readInto_34 : decode cX4_readInto 34 = .ok (.aload_n 0, 1) := by decide +kernel
theorem dX4_readInto_35 : decode cX4_readInto 35 = .ok (.getfield 26, 3) := by decide +kernel
theorem dX4_readInto_38 : decode cX4_readInto 38 = .ok (.istore_n 3, 1) := by decide +kernel
theorem dX4_readInto_39 : decode cX4_readInto 39 = .ok (.aload_n 0, 1) := by decide +kernel
theorem dX4_readInto_40 : decode cX4_readInto 40 = .ok (.aload_n 0, 1) := by decide +kernel
theorem dX4_readInto_41 : decode cX4_readInto 41 = .ok (.invokevirtual 32, 3) := by decide +kernel
theorem dX4_readInto_44 : decode cX4_readInto 44 = .ok (.ifCond .eq 18, 3) := by decide +kernel
theorem dX4_readInto_47 : decode cX4_readInto 47 = .ok (.aload_n 0, 1) := by decide +kernel
theorem dX4_readInto_48 : decode cX4_readInto 48 = .ok (.aload_n 1, 1) := by decide +kernel
theorem dX4_readInto_49 : decode cX4_readInto 49 = .ok (.aload_n 0, 1) := by decide +kernel
theorem dX4_readInto_50 : decode cX4_readInto 50 = .ok (.getfield 36, 3) := by decide +kernel
theorem dX4_readInto_53 : decode cX4_readInto 53 = .ok (.invokevirtual 39, 3) := by decide +kernel
theorem dX4_readInto_56 : decode cX4_readInto 56 = .ok (.invokevirtual 45, 3) := by decide +kernel
theorem dX4_readInto_59 : decode cX4_readInto 59 = .ok (.goto 4, 3) := by decide +kernel
theorem dX4_readInto_62 : decode cX4_readInto 62 = .ok (.iconst 1, 1) := by decide +kernel
theorem dX4_readInto_63 : decode cX4_readInto 63 = .ok (.putfield 49, 3) := by decide +kernel
theorem dX4_readInto_66 : decode cX4_readInto 66 = .ok (.aload_n 0, 1) := by decide +kernel
theorem dX4_readInto_67 : decode cX4_readInto 67 = .ok (.getfield 49, 3) := by decide +kernel
theorem dX4_readInto_70 : decode cX4_readInto 70 = .ok (.ifCond .eq 9, 3) := by decide +kernel
theorem dX4_readInto_73 : decode cX4_readInto 73 = .ok (.aload_n 0, 1) := by decide +kernel
theorem dX4_readInto_74 : decode cX4_readInto 74 = .ok (.iload_n 3, 1) := by decide +kernel
theorem dX4_readInto_75 : decode cX4_readInto 75 = .ok (.putfield 15, 3) := by decide +kernel
theorem dX4_readInto_78 : decode cX4_readInto 78 = .ok (.return_, 1) := by decide +kernel
theorem dX4_readInto_79 : decode cX4_readInto 79 = .ok (.aload_n 1, 1) := by decide +kernel
theorem dX4_readInto_80 : decode cX4_readInto 80 = .ok (.aload_n 0, 1) := by decide +kernel
theorem dX4_readInto_81 : decode cX4_readInto 81 = .ok (.getfield 36, 3) := by decide +kernel
theorem dX4_readInto_84 : decode cX4_readInto 84 = .ok (.invokevirtual 39, 3) := by decide +kernel
theorem dX4_readInto_87 : decode cX4_readInto 87 = .ok (.aload_n 0, 1) := by decide +kernel
theorem dX4_readInto_88 : decode cX4_readInto 88 = .ok (.getfield 52, 3) := by decide +kernel
theorem dX4_readInto_91 : decode cX4_readInto 91 = .ok (.aload_n 0, 1) := by decide +kernel
theorem dX4_readInto_92 : decode cX4_readInto 92 = .ok (.getfield 55, 3) := by decide +kernel
theorem dX4_readInto_95 : decode cX4_readInto 95 = .ok (.aload_n 0, 1) := by decide +kernel
theorem dX4_readInto_96 : decode cX4_readInto 96 = .ok (.getfield 58, 3) := by decide +kernel
theorem dX4_readInto_99 : decode cX4_readInto 99 = .ok (.aload_n 0, 1) := by decide +kernel
theorem dX4_readInto_100 : decode cX4_readInto 100 = .ok (.getfield 61, 3) := by decide +kernel
theorem dX4_readInto_103 : decode cX4_readInto 103 = .ok (.invokevirtual 64, 3) := by decide +kernel
theorem dX4_readInto_106 : decode cX4_readInto 106 = .ok (.pop, 1) := by decide +kernel
theorem dX4_readInto_107 : decode cX4_readInto 107 = .ok (.aload_n 0, 1) := by decide +kernel
theorem dX4_readInto_108 : decode cX4_readInto 108 = .ok (.dup, 1) := by decide +kernel
theorem dX4_readInto_109 : decode cX4_readInto 109 = .ok (.getfield 29, 3) := by decide +kernel
theorem dX4_readInto_112 : decode cX4_readInto 112 = .ok (.iconst 1, 1) := by decide +kernel
theorem dX4_readInto_113 : decode cX4_readInto 113 = .ok (.iadd, 1) := by decide +kernel
theorem dX4_readInto_114 : decode cX4_readInto 114 = .ok (.putfield 29, 3) := by decide +kernel
theorem dX4_readInto_117 : decode cX4_readInto 117 = .ok (.iinc 2 1, 3) := by decide +kernel
theorem dX4_readInto_120 : decode cX4_readInto 120 = .ok (.goto (-103), 3) := by decide +kernel
theorem dX4_readInto_123 : decode cX4_readInto 123 = .ok (.return_, 1) := by decide +kernel
set_option maxRecDepth 20000 in
theorem ggX4_reasonAgainst_X6_isReading : GoodIn wsX4_reasonAgainst wsX6_isReading := goodIn_r _ [7, 8, 9, 10, 11, 6, 12, 13, 14, 15, 16, 17, 18] (by decide +kernel) (by decide +kernel)
set_option maxRecDepth 20000 in
theorem gX4_reasonAgainst_X6_isReading_n70 : GoodIn wsX4_reasonAgainst (wsX6_isReading) := ggX4_reasonAgainst_X6_isReading
set_option maxRecDepth 20000 in
theorem ggX4_reasonAgainst_X5_hasTime : GoodIn wsX4_reasonAgainst wsX5_hasTime := goodIn_r _ [23, 24, 25, 26, 27, 22, 28, 29, 30, 6, 31, 48, 49, 50] (by decide +kernel) (by decide +kernel)
set_option maxRecDepth 20000 in
theorem gX4_reasonAgainst_X5_hasTime : GoodIn wsX4_reasonAgainst (wsV RX4 74 RX5 yX5_hasTime wsX5_hasTime) := goodIn_app (goodIn_of _ (by decide +kernel)) ggX4_reasonAgainst_X5_hasTime
set_option maxRecDepth 20000 in
theorem ggX4_reasonAgainst_X5_isFull : GoodIn wsX4_reasonAgainst wsX5_isFull := goodIn_r _ [35, 24, 36, 48, 49, 50] (by decide +kernel) (by decide +kernel)
set_option maxRecDepth 20000 in
theorem gX4_reasonAgainst_X5_isFull : GoodIn wsX4_reasonAgainst (wsV RX4 78 RX5 yX5_isFull wsX5_isFull) := goodIn_app (goodIn_of _ (by decide +kernel)) ggX4_reasonAgainst_X5_isFull
theorem dX4_reasonAgainst_0 : decode cX4_reasonAgainst 0 = .ok (.aload_n 0, 1) := by decide +kernel
theorem dX4_reasonAgainst_1 : decode cX4_reasonAgainst 1 = .ok (.getfield 36, 3) := by decide +kernel
theorem dX4_reasonAgainst_4 : decode cX4_reasonAgainst 4 = .ok (.iconst 3, 1) := by decide +kernel
theorem dX4_reasonAgainst_5 : decode cX4_reasonAgainst 5 = .ok (.if_icmp .ge 21, 3) := by decide +kernel
theorem dX4_reasonAgainst_8 : decode cX4_reasonAgainst 8 = .ok (.aload_n 0, 1) := by decide +kernel
theorem dX4_reasonAgainst_9 : decode cX4_reasonAgainst 9 = .ok (.getfield 55, 3) := by decide +kernel
theorem dX4_reasonAgainst_12 : decode cX4_reasonAgainst 12 = .ok (.aload_n 0, 1) := by decide +kernel
theorem dX4_reasonAgainst_13 : decode cX4_reasonAgainst 13 = .ok (.getfield 58, 3) := by decide +kernel
theorem dX4_reasonAgainst_16 : decode cX4_reasonAgainst 16 = .ok (.aload_n 0, 1) := by decide +kernel
theorem dX4_reasonAgainst_17 : decode cX4_reasonAgainst 17 = .ok (.getfield 61, 3) := by decide +kernel
theorem dX4_reasonAgainst_20 : decode cX4_reasonAgainst 20 = .ok (.invokestatic 70, 3) := by decide +kernel
theorem dX4_reasonAgainst_23 : decode cX4_reasonAgainst 23 = .ok (.ifCond .ne 5, 3) := by decide +kernel
theorem dX4_reasonAgainst_26 : decode cX4_reasonAgainst 26 = .ok (.iconst 2, 1) := by decide +kernel
theorem dX4_reasonAgainst_27 : decode cX4_reasonAgainst 27 = .ok (.ireturn, 1) := by decide +kernel
theorem dX4_reasonAgainst_28 : decode cX4_reasonAgainst 28 = .ok (.aload_n 1, 1) := by decide +kernel
theorem dX4_reasonAgainst_29 : decode cX4_reasonAgainst 29 = .ok (.aload_n 0, 1) := by decide +kernel
theorem dX4_reasonAgainst_30 : decode cX4_reasonAgainst 30 = .ok (.getfield 55, 3) := by decide +kernel
theorem dX4_reasonAgainst_33 : decode cX4_reasonAgainst 33 = .ok (.invokevirtual 74, 3) := by decide +kernel
theorem dX4_reasonAgainst_36 : decode cX4_reasonAgainst 36 = .ok (.ifCond .eq 5, 3) := by decide +kernel
theorem dX4_reasonAgainst_39 : decode cX4_reasonAgainst 39 = .ok (.iconst 3, 1) := by decide +kernel
theorem dX4_reasonAgainst_40 : decode cX4_reasonAgainst 40 = .ok (.ireturn, 1) := by decide +kernel
theorem dX4_reasonAgainst_41 : decode cX4_reasonAgainst 41 = .ok (.aload_n 1, 1) := by decide +kernel
theorem dX4_reasonAgainst_42 : decode cX4_reasonAgainst 42 = .ok (.invokevirtual 78, 3) := by decide +kernel
theorem dX4_reasonAgainst_45 : decode cX4_reasonAgainst 45 = .ok (.ifCond .eq 7, 3) := by decide +kernel
theorem dX4_reasonAgainst_48 : decode cX4_reasonAgainst 48 = .ok (.iconst 4, 1) := by decide +kernel
theorem dX4_reasonAgainst_49 : decode cX4_reasonAgainst 49 = .ok (.goto 4, 3) := by decide +kernel
theorem dX4_reasonAgainst_52 : decode cX4_reasonAgainst 52 = .ok (.iconst 0, 1) := by decide +kernel
theorem dX4_reasonAgainst_53 : decode cX4_reasonAgainst 53 = .ok (.ireturn, 1) := by decide +kernel
set_option maxRecDepth 20000 in
theorem ggX4_takeReading_X4_takePlace : GoodIn wsX4_takeReading wsX4_takePlace := goodIn_r _ [8, 9, 10, 11, 12, 13, 7, 14, 15, 16, 17, 18, 19, 20, 21, 22, 23, 24, 25, 26, 27, 28, 29, 30, 31, 32, 33, 34, 35, 36, 37] (by decide +kernel) (by decide +kernel)
set_option maxRecDepth 20000 in
theorem gX4_takeReading_X4_takePlace : GoodIn wsX4_takeReading (wsV RX4 81 RX4 yX4_takePlace wsX4_takePlace) := goodIn_app (goodIn_of _ (by decide +kernel)) ggX4_takeReading_X4_takePlace
set_option maxRecDepth 20000 in
theorem ggX4_takeReading_X4_skip : GoodIn wsX4_takeReading wsX4_skip := goodIn_r _ [14, 15, 16, 17, 18, 19, 20, 27, 28, 29, 30, 31, 32, 33, 34, 35, 36, 37] (by decide +kernel) (by decide +kernel)
set_option maxRecDepth 20000 in
theorem gX4_takeReading_X4_skip : GoodIn wsX4_takeReading (wsV RX4 84 RX4 yX4_skip wsX4_skip) := goodIn_app (goodIn_of _ (by decide +kernel)) ggX4_takeReading_X4_skip
set_option maxRecDepth 20000 in
theorem ggX4_takeReading_X4_takeNumber : GoodIn wsX4_takeReading wsX4_takeNumber := goodIn_r _ [24, 15, 16, 17, 18, 19, 20, 25, 26, 27, 28, 29, 30, 31, 32, 33, 34, 35, 36, 37] (by decide +kernel) (by decide +kernel)
set_option maxRecDepth 20000 in
theorem gX4_takeReading_X4_takeNumber : GoodIn wsX4_takeReading (wsV RX4 88 RX4 yX4_takeNumber wsX4_takeNumber) := goodIn_app (goodIn_of _ (by decide +kernel)) ggX4_takeReading_X4_takeNumber
theorem dX4_takeReading_0 : decode cX4_takeReading 0 = .ok (.aload_n 0, 1) := by decide +kernel
theorem dX4_takeReading_1 : decode cX4_takeReading 1 = .ok (.invokevirtual 81, 3) := by decide +kernel
theorem dX4_takeReading_4 : decode cX4_takeReading 4 = .ok (.ifCond .eq 12, 3) := by decide +kernel
theorem dX4_takeReading_7 : decode cX4_takeReading 7 = .ok (.aload_n 0, 1) := by decide +kernel
theorem dX4_takeReading_8 : decode cX4_takeReading 8 = .ok (.bipush 116, 2) := by decide +kernel
theorem dX4_takeReading_10 : decode cX4_takeReading 10 = .ok (.invokevirtual 84, 3) := by decide +kernel
theorem dX4_takeReading_13 : decode cX4_takeReading 13 = .ok (.ifCond .ne 5, 3) := by decide +kernel
theorem dX4_takeReading_16 : decode cX4_takeReading 16 = .ok (.iconst 0, 1) := by decide +kernel
theorem dX4_takeReading_17 : decode cX4_takeReading 17 = .ok (.ireturn, 1) := by decide +kernel
theorem dX4_takeReading_18 : decode cX4_takeReading 18 = .ok (.aload_n 0, 1) := by decide +kernel
theorem dX4_takeReading_19 : decode cX4_takeReading 19 = .ok (.aload_n 0, 1) := by decide +kernel
theorem dX4_takeReading_20 : decode cX4_takeReading 20 = .ok (.iconst 5, 1) := by decide +kernel
theorem dX4_takeReading_21 : decode cX4_takeReading 21 = .ok (.invokevirtual 88, 3) := by decide +kernel
theorem dX4_takeReading_24 : decode cX4_takeReading 24 = .ok (.putfield 55, 3) := by decide +kernel
theorem dX4_takeReading_27 : decode cX4_takeReading 27 = .ok (.aload_n 0, 1) := by decide +kernel
theorem dX4_takeReading_28 : decode cX4_takeReading 28 = .ok (.getfield 55, 3) := by decide +kernel
theorem dX4_takeReading_31 : decode cX4_takeReading 31 = .ok (.iconst (-1), 1) := by decide +kernel
theorem dX4_takeReading_32 : decode cX4_takeReading 32 = .ok (.if_icmp .eq 12, 3) := by decide +kernel
theorem dX4_takeReading_35 : decode cX4_takeReading 35 = .ok (.aload_n 0, 1) := by decide +kernel
theorem dX4_takeReading_36 : decode cX4_takeReading 36 = .ok (.bipush 112, 2) := by decide +kernel
theorem dX4_takeReading_38 : decode cX4_takeReading 38 = .ok (.invokevirtual 84, 3) := by decide +kernel
theorem dX4_takeReading_41 : decode cX4_takeReading 41 = .ok (.ifCond .ne 5, 3) := by decide +kernel
theorem dX4_takeReading_44 : decode cX4_takeReading 44 = .ok (.iconst 0, 1) := by decide +kernel
theorem dX4_takeReading_45 : decode cX4_takeReading 45 = .ok (.ireturn, 1) := by decide +kernel
theorem dX4_takeReading_46 : decode cX4_takeReading 46 = .ok (.aload_n 0, 1) := by decide +kernel
theorem dX4_takeReading_47 : decode cX4_takeReading 47 = .ok (.aload_n 0, 1) := by decide +kernel
theorem dX4_takeReading_48 : decode cX4_takeReading 48 = .ok (.bipush 6, 2) := by decide +kernel
theorem dX4_takeReading_50 : decode cX4_takeReading 50 = .ok (.invokevirtual 88, 3) := by decide +kernel
theorem dX4_takeReading_53 : decode cX4_takeReading 53 = .ok (.putfield 58, 3) := by decide +kernel
theorem dX4_takeReading_56 : decode cX4_takeReading 56 = .ok (.aload_n 0, 1) := by decide +kernel
theorem dX4_takeReading_57 : decode cX4_takeReading 57 = .ok (.getfield 58, 3) := by decide +kernel
theorem dX4_takeReading_60 : decode cX4_takeReading 60 = .ok (.iconst (-1), 1) := by decide +kernel
theorem dX4_takeReading_61 : decode cX4_takeReading 61 = .ok (.if_icmp .eq 12, 3) := by decide +kernel
theorem dX4_takeReading_64 : decode cX4_takeReading 64 = .ok (.aload_n 0, 1) := by decide +kernel
theorem dX4_takeReading_65 : decode cX4_takeReading 65 = .ok (.bipush 99, 2) := by decide +kernel
theorem dX4_takeReading_67 : decode cX4_takeReading 67 = .ok (.invokevirtual 84, 3) := by decide +kernel
theorem dX4_takeReading_70 : decode cX4_takeReading 70 = .ok (.ifCond .ne 5, 3) := by decide +kernel
theorem dX4_takeReading_73 : decode cX4_takeReading 73 = .ok (.iconst 0, 1) := by decide +kernel
theorem dX4_takeReading_74 : decode cX4_takeReading 74 = .ok (.ireturn, 1) := by decide +kernel
theorem dX4_takeReading_75 : decode cX4_takeReading 75 = .ok (.aload_n 0, 1) := by decide +kernel
theorem dX4_takeReading_76 : decode cX4_takeReading 76 = .ok (.bipush 45, 2) := by decide +kernel
theorem dX4_takeReading_78 : decode cX4_takeReading 78 = .ok (.invokevirtual 84, 3) := by decide +kernel
theorem dX4_takeReading_81 : decode cX4_takeReading 81 = .ok (.istore_n 1, 1) := by decide +kernel
theorem dX4_takeReading_82 : decode cX4_takeReading 82 = .ok (.aload_n 0, 1) := by decide +kernel
theorem dX4_takeReading_83 : decode cX4_takeReading 83 = .ok (.iconst 3, 1) := by decide +kernel
theorem dX4_takeReading_84 : decode cX4_takeReading 84 = .ok (.invokevirtual 88, 3) := by decide +kernel
theorem dX4_takeReading_87 : decode cX4_takeReading 87 = .ok (.istore_n 2, 1) := by decide +kernel
theorem dX4_takeReading_88 : decode cX4_takeReading 88 = .ok (.aload_n 0, 1) := by decide +kernel
theorem dX4_takeReading_89 : decode cX4_takeReading 89 = .ok (.iload_n 1, 1) := by decide +kernel
theorem dX4_takeReading_90 : decode cX4_takeReading 90 = .ok (.ifCond .eq 8, 3) := by decide +kernel
theorem dX4_takeReading_93 : decode cX4_takeReading 93 = .ok (.iload_n 2, 1) := by decide +kernel
theorem dX4_takeReading_94 : decode cX4_takeReading 94 = .ok (.ineg, 1) := by decide +kernel
theorem dX4_takeReading_95 : decode cX4_takeReading 95 = .ok (.goto 4, 3) := by decide +kernel
theorem dX4_takeReading_98 : decode cX4_takeReading 98 = .ok (.iload_n 2, 1) := by decide +kernel
theorem dX4_takeReading_99 : decode cX4_takeReading 99 = .ok (.putfield 61, 3) := by decide +kernel
theorem dX4_takeReading_102 : decode cX4_takeReading 102 = .ok (.iload_n 2, 1) := by decide +kernel
theorem dX4_takeReading_103 : decode cX4_takeReading 103 = .ok (.iconst (-1), 1) := by decide +kernel
theorem dX4_takeReading_104 : decode cX4_takeReading 104 = .ok (.if_icmp .eq 16, 3) := by decide +kernel
theorem dX4_takeReading_107 : decode cX4_takeReading 107 = .ok (.aload_n 0, 1) := by decide +kernel
theorem dX4_takeReading_108 : decode cX4_takeReading 108 = .ok (.bipush 59, 2) := by decide +kernel
theorem dX4_takeReading_110 : decode cX4_takeReading 110 = .ok (.invokevirtual 84, 3) := by decide +kernel
theorem dX4_takeReading_113 : decode cX4_takeReading 113 = .ok (.ifCond .eq 7, 3) := by decide +kernel
theorem dX4_takeReading_116 : decode cX4_takeReading 116 = .ok (.iconst 1, 1) := by decide +kernel
theorem dX4_takeReading_117 : decode cX4_takeReading 117 = .ok (.goto 4, 3) := by decide +kernel
theorem dX4_takeReading_120 : decode cX4_takeReading 120 = .ok (.iconst 0, 1) := by decide +kernel
theorem dX4_takeReading_121 : decode cX4_takeReading 121 = .ok (.ireturn, 1) := by decide +kernel
set_option maxRecDepth 20000 in
theorem ggX4_takePlace_X4_skip : GoodIn wsX4_takePlace wsX4_skip := goodIn_r _ [7, 8, 9, 10, 11, 12, 13, 20, 21, 22, 23, 24, 25, 26, 27, 28, 29, 30] (by decide +kernel) (by decide +kernel)
set_option maxRecDepth 20000 in
theorem gX4_takePlace_X4_skip : GoodIn wsX4_takePlace (wsV RX4 84 RX4 yX4_skip wsX4_skip) := goodIn_app (goodIn_of _ (by decide +kernel)) ggX4_takePlace_X4_skip
set_option maxRecDepth 20000 in
theorem ggX4_takePlace_X4_takeNumber : GoodIn wsX4_takePlace wsX4_takeNumber := goodIn_r _ [17, 8, 9, 10, 11, 12, 13, 18, 19, 20, 21, 22, 23, 24, 25, 26, 27, 28, 29, 30] (by decide +kernel) (by decide +kernel)
set_option maxRecDepth 20000 in
theorem gX4_takePlace_X4_takeNumber : GoodIn wsX4_takePlace (wsV RX4 88 RX4 yX4_takeNumber wsX4_takeNumber) := goodIn_app (goodIn_of _ (by decide +kernel)) ggX4_takePlace_X4_takeNumber
theorem dX4_takePlace_0 : decode cX4_takePlace 0 = .ok (.aload_n 0, 1) := by decide +kernel
theorem dX4_takePlace_1 : decode cX4_takePlace 1 = .ok (.iconst (-1), 1) := by decide +kernel
theorem dX4_takePlace_2 : decode cX4_takePlace 2 = .ok (.putfield 36, 3) := by decide +kernel
theorem dX4_takePlace_5 : decode cX4_takePlace 5 = .ok (.aload_n 0, 1) := by decide +kernel
theorem dX4_takePlace_6 : decode cX4_takePlace 6 = .ok (.iconst 0, 1) := by decide +kernel
theorem dX4_takePlace_7 : decode cX4_takePlace 7 = .ok (.putfield 52, 3) := by decide +kernel
theorem dX4_takePlace_10 : decode cX4_takePlace 10 = .ok (.aload_n 0, 1) := by decide +kernel
theorem dX4_takePlace_11 : decode cX4_takePlace 11 = .ok (.bipush 98, 2) := by decide +kernel
theorem dX4_takePlace_13 : decode cX4_takePlace 13 = .ok (.invokevirtual 84, 3) := by decide +kernel
theorem dX4_takePlace_16 : decode cX4_takePlace 16 = .ok (.ifCond .eq 5, 3) := by decide +kernel
theorem dX4_takePlace_19 : decode cX4_takePlace 19 = .ok (.iconst 1, 1) := by decide +kernel
theorem dX4_takePlace_20 : decode cX4_takePlace 20 = .ok (.ireturn, 1) := by decide +kernel
theorem dX4_takePlace_21 : decode cX4_takePlace 21 = .ok (.aload_n 0, 1) := by decide +kernel
theorem dX4_takePlace_22 : decode cX4_takePlace 22 = .ok (.bipush 99, 2) := by decide +kernel
theorem dX4_takePlace_24 : decode cX4_takePlace 24 = .ok (.invokevirtual 84, 3) := by decide +kernel
theorem dX4_takePlace_27 : decode cX4_takePlace 27 = .ok (.ifCond .ne 5, 3) := by decide +kernel
theorem dX4_takePlace_30 : decode cX4_takePlace 30 = .ok (.iconst 0, 1) := by decide +kernel
theorem dX4_takePlace_31 : decode cX4_takePlace 31 = .ok (.ireturn, 1) := by decide +kernel
theorem dX4_takePlace_32 : decode cX4_takePlace 32 = .ok (.aload_n 0, 1) := by decide +kernel
theorem dX4_takePlace_33 : decode cX4_takePlace 33 = .ok (.aload_n 0, 1) := by decide +kernel
theorem dX4_takePlace_34 : decode cX4_takePlace 34 = .ok (.iconst 1, 1) := by decide +kernel
theorem dX4_takePlace_35 : decode cX4_takePlace 35 = .ok (.invokevirtual 88, 3) := by decide +kernel
theorem dX4_takePlace_38 : decode cX4_takePlace 38 = .ok (.putfield 36, 3) := by decide +kernel
theorem dX4_takePlace_41 : decode cX4_takePlace 41 = .ok (.aload_n 0, 1) := by decide +kernel
theorem dX4_takePlace_42 : decode cX4_takePlace 42 = .ok (.getfield 36, 3) := by decide +kernel
theorem dX4_takePlace_45 : decode cX4_takePlace 45 = .ok (.iconst (-1), 1) := by decide +kernel
theorem dX4_takePlace_46 : decode cX4_takePlace 46 = .ok (.if_icmp .eq 12, 3) := by decide +kernel
theorem dX4_takePlace_49 : decode cX4_takePlace 49 = .ok (.aload_n 0, 1) := by decide +kernel
theorem dX4_takePlace_50 : decode cX4_takePlace 50 = .ok (.bipush 64, 2) := by decide +kernel
theorem dX4_takePlace_52 : decode cX4_takePlace 52 = .ok (.invokevirtual 84, 3) := by decide +kernel
theorem dX4_takePlace_55 : decode cX4_takePlace 55 = .ok (.ifCond .ne 5, 3) := by decide +kernel
theorem dX4_takePlace_58 : decode cX4_takePlace 58 = .ok (.iconst 0, 1) := by decide +kernel
theorem dX4_takePlace_59 : decode cX4_takePlace 59 = .ok (.ireturn, 1) := by decide +kernel
theorem dX4_takePlace_60 : decode cX4_takePlace 60 = .ok (.aload_n 0, 1) := by decide +kernel
theorem dX4_takePlace_61 : decode cX4_takePlace 61 = .ok (.aload_n 0, 1) := by decide +kernel
theorem dX4_takePlace_62 : decode cX4_takePlace 62 = .ok (.iconst 1, 1) := by decide +kernel
theorem dX4_takePlace_63 : decode cX4_takePlace 63 = .ok (.invokevirtual 88, 3) := by decide +kernel
theorem dX4_takePlace_66 : decode cX4_takePlace 66 = .ok (.putfield 52, 3) := by decide +kernel
theorem dX4_takePlace_69 : decode cX4_takePlace 69 = .ok (.aload_n 0, 1) := by decide +kernel
theorem dX4_takePlace_70 : decode cX4_takePlace 70 = .ok (.getfield 52, 3) := by decide +kernel
theorem dX4_takePlace_73 : decode cX4_takePlace 73 = .ok (.iconst (-1), 1) := by decide +kernel
theorem dX4_takePlace_74 : decode cX4_takePlace 74 = .ok (.if_icmp .eq 7, 3) := by decide +kernel
theorem dX4_takePlace_77 : decode cX4_takePlace 77 = .ok (.iconst 1, 1) := by decide +kernel
theorem dX4_takePlace_78 : decode cX4_takePlace 78 = .ok (.goto 4, 3) := by decide +kernel
theorem dX4_takePlace_81 : decode cX4_takePlace 81 = .ok (.iconst 0, 1) := by decide +kernel
theorem dX4_takePlace_82 : decode cX4_takePlace 82 = .ok (.ireturn, 1) := by decide +kernel
set_option maxRecDepth 20000 in
theorem ggX4_skip_X6_at : GoodIn wsX4_skip wsX6_at := goodIn_r _ [6] (by decide +kernel) (by decide +kernel)
set_option maxRecDepth 20000 in
theorem gX4_skip_X6_at_n92 : GoodIn wsX4_skip (wsX6_at) := ggX4_skip_X6_at
theorem dX4_skip_0 : decode cX4_skip 0 = .ok (.aload_n 0, 1) := by decide +kernel
theorem dX4_skip_1 : decode cX4_skip 1 = .ok (.getfield 26, 3) := by decide +kernel
theorem dX4_skip_4 : decode cX4_skip 4 = .ok (.aload_n 0, 1) := by decide +kernel
theorem dX4_skip_5 : decode cX4_skip 5 = .ok (.getfield 19, 3) := by decide +kernel
theorem dX4_skip_8 : decode cX4_skip 8 = .ok (.if_icmp .ge 18, 3) := by decide +kernel
theorem dX4_skip_11 : decode cX4_skip 11 = .ok (.aload_n 0, 1) := by decide +kernel
theorem dX4_skip_12 : decode cX4_skip 12 = .ok (.getfield 9, 3) := by decide +kernel
theorem dX4_skip_15 : decode cX4_skip 15 = .ok (.aload_n 0, 1) := by decide +kernel
theorem dX4_skip_16 : decode cX4_skip 16 = .ok (.getfield 26, 3) := by decide +kernel
theorem dX4_skip_19 : decode cX4_skip 19 = .ok (.invokestatic 92, 3) := by decide +kernel
theorem dX4_skip_22 : decode cX4_skip 22 = .ok (.iload_n 1, 1) := by decide +kernel
theorem dX4_skip_23 : decode cX4_skip 23 = .ok (.if_icmp .eq 5, 3) := by decide +kernel
theorem dX4_skip_26 : decode cX4_skip 26 = .ok (.iconst 0, 1) := by decide +kernel
theorem dX4_skip_27 : decode cX4_skip 27 = .ok (.ireturn, 1) := by decide +kernel
theorem dX4_skip_28 : decode cX4_skip 28 = .ok (.aload_n 0, 1) := by decide +kernel
theorem dX4_skip_29 : decode cX4_skip 29 = .ok (.dup, 1) := by decide +kernel
theorem dX4_skip_30 : decode cX4_skip 30 = .ok (.getfield 26, 3) := by decide +kernel
theorem dX4_skip_33 : decode cX4_skip 33 = .ok (.iconst 1, 1) := by decide +kernel
theorem dX4_skip_34 : decode cX4_skip 34 = .ok (.iadd, 1) := by decide +kernel
theorem dX4_skip_35 : decode cX4_skip 35 = .ok (.putfield 26, 3) := by decide +kernel
theorem dX4_skip_38 : decode cX4_skip 38 = .ok (.iconst 1, 1) := by decide +kernel
theorem dX4_skip_39 : decode cX4_skip 39 = .ok (.ireturn, 1) := by decide +kernel
set_option maxRecDepth 20000 in
theorem ggX4_takeNumber_X6_at : GoodIn wsX4_takeNumber wsX6_at := goodIn_r _ [6] (by decide +kernel) (by decide +kernel)
set_option maxRecDepth 20000 in
theorem gX4_takeNumber_X6_at_n92 : GoodIn wsX4_takeNumber (wsX6_at) := ggX4_takeNumber_X6_at
set_option maxRecDepth 20000 in
theorem ggX4_takeNumber_X6_within : GoodIn wsX4_takeNumber wsX6_within := goodIn_r _ [8] (by decide +kernel) (by decide +kernel)
set_option maxRecDepth 20000 in
theorem gX4_takeNumber_X6_within_n96 : GoodIn wsX4_takeNumber (wsX6_within) := ggX4_takeNumber_X6_within
theorem dX4_takeNumber_0 : decode cX4_takeNumber 0 = .ok (.iconst (-1), 1) := by decide +kernel
theorem dX4_takeNumber_1 : decode cX4_takeNumber 1 = .ok (.istore_n 2, 1) := by decide +kernel
theorem dX4_takeNumber_2 : decode cX4_takeNumber 2 = .ok (.iconst 0, 1) := by decide +kernel
theorem dX4_takeNumber_3 : decode cX4_takeNumber 3 = .ok (.istore_n 3, 1) := by decide +kernel
theorem dX4_takeNumber_4 : decode cX4_takeNumber 4 = .ok (.iload_n 3, 1) := by decide +kernel
theorem dX4_takeNumber_5 : decode cX4_takeNumber 5 = .ok (.iload_n 1, 1) := by decide +kernel
theorem dX4_takeNumber_6 : decode cX4_takeNumber 6 = .ok (.if_icmp .ge 76, 3) := by decide +kernel
theorem dX4_takeNumber_9 : decode cX4_takeNumber 9 = .ok (.aload_n 0, 1) := by decide +kernel
theorem dX4_takeNumber_10 : decode cX4_takeNumber 10 = .ok (.getfield 26, 3) := by decide +kernel
theorem dX4_takeNumber_13 : decode cX4_takeNumber 13 = .ok (.aload_n 0, 1) := by decide +kernel
theorem dX4_takeNumber_14 : decode cX4_takeNumber 14 = .ok (.getfield 19, 3) := by decide +kernel
theorem dX4_takeNumber_17 : decode cX4_takeNumber 17 = .ok (.if_icmp .ge 65, 3) := by decide +kernel
theorem dX4_takeNumber_20 : decode cX4_takeNumber 20 = .ok (.aload_n 0, 1) := by decide +kernel
theorem dX4_takeNumber_21 : decode cX4_takeNumber 21 = .ok (.getfield 9, 3) := by decide +kernel
theorem dX4_takeNumber_24 : decode cX4_takeNumber 24 = .ok (.aload_n 0, 1) := by decide +kernel
theorem dX4_takeNumber_25 : decode cX4_takeNumber 25 = .ok (.getfield 26, 3) := by decide +kernel
theorem dX4_takeNumber_28 : decode cX4_takeNumber 28 = .ok (.invokestatic 92, 3) := by decide +kernel
theorem dX4_takeNumber_31 : decode cX4_takeNumber 31 = .ok (.bipush 48, 2) := by decide +kernel
theorem dX4_takeNumber_33 : decode cX4_takeNumber 33 = .ok (.isub, 1) := by decide +kernel
theorem dX4_takeNumber_34 : decode cX4_takeNumber 34 = .ok (.istore 4, 2) := by decide +kernel
theorem dX4_takeNumber_36 : decode cX4_takeNumber 36 = .ok (.iload 4, 2) := by decide +kernel
theorem dX4_takeNumber_38 : decode cX4_takeNumber 38 = .ok (.iconst 0, 1) := by decide +kernel
theorem dX4_takeNumber_39 : decode cX4_takeNumber 39 = .ok (.bipush 9, 2) := by decide +kernel
theorem dX4_takeNumber_41 : decode cX4_takeNumber 41 = .ok (.invokestatic 96, 3) := by decide +kernel
theorem dX4_takeNumber_44 : decode cX4_takeNumber 44 = .ok (.ifCond .ne 5, 3) := by decide +kernel
theorem dX4_takeNumber_47 : decode cX4_takeNumber 47 = .ok (.iload_n 2, 1) := by decide +kernel
theorem dX4_takeNumber_48 : decode cX4_takeNumber 48 = .ok (.ireturn, 1) := by decide +kernel
theorem dX4_takeNumber_49 : decode cX4_takeNumber 49 = .ok (.iload_n 3, 1) := by decide +kernel
theorem dX4_takeNumber_50 : decode cX4_takeNumber 50 = .ok (.ifCond .ne 8, 3) := by decide +kernel
theorem dX4_takeNumber_53 : decode cX4_takeNumber 53 = .ok (.iload 4, 2) := by decide +kernel
theorem dX4_takeNumber_55 : decode cX4_takeNumber 55 = .ok (.goto 10, 3) := by decide +kernel
theorem dX4_takeNumber_58 : decode cX4_takeNumber 58 = .ok (.iload_n 2, 1) := by decide +kernel
theorem dX4_takeNumber_59 : decode cX4_takeNumber 59 = .ok (.bipush 10, 2) := by decide +kernel
theorem dX4_takeNumber_61 : decode cX4_takeNumber 61 = .ok (.imul, 1) := by decide +kernel
theorem dX4_takeNumber_62 : decode cX4_takeNumber 62 = .ok (.iload 4, 2) := by decide +kernel
theorem dX4_takeNumber_64 : decode cX4_takeNumber 64 = .ok (.iadd, 1) := by decide +kernel
theorem dX4_takeNumber_65 : decode cX4_takeNumber 65 = .ok (.istore_n 2, 1) := by decide +kernel
theorem dX4_takeNumber_66 : decode cX4_takeNumber 66 = .ok (.aload_n 0, 1) := by decide +kernel
theorem dX4_takeNumber_67 : decode cX4_takeNumber 67 = .ok (.dup, 1) := by decide +kernel
theorem dX4_takeNumber_68 : decode cX4_takeNumber 68 = .ok (.getfield 26, 3) := by decide +kernel
theorem dX4_takeNumber_71 : decode cX4_takeNumber 71 = .ok (.iconst 1, 1) := by decide +kernel
theorem dX4_takeNumber_72 : decode cX4_takeNumber 72 = .ok (.iadd, 1) := by decide +kernel
theorem dX4_takeNumber_73 : decode cX4_takeNumber 73 = .ok (.putfield 26, 3) := by decide +kernel
theorem dX4_takeNumber_76 : decode cX4_takeNumber 76 = .ok (.iinc 3 1, 3) := by decide +kernel
theorem dX4_takeNumber_79 : decode cX4_takeNumber 79 = .ok (.goto (-75), 3) := by decide +kernel
theorem dX4_takeNumber_82 : decode cX4_takeNumber 82 = .ok (.iload_n 2, 1) := by decide +kernel
theorem dX4_takeNumber_83 : decode cX4_takeNumber 83 = .ok (.ireturn, 1) := by decide +kernel
