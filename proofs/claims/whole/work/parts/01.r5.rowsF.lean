theorem dX7_init_0 : decode cX7_init 0 = .ok (.aload_n 0, 1) := by decide +kernel
theorem dX7_init_1 : decode cX7_init 1 = .ok (.invokespecial 1, 3) := by decide +kernel
theorem dX7_init_4 : decode cX7_init 4 = .ok (.aload_n 0, 1) := by decide +kernel
theorem dX7_init_5 : decode cX7_init 5 = .ok (.sipush 327, 3) := by decide +kernel
theorem dX7_init_8 : decode cX7_init 8 = .ok (.newarray .int, 2) := by decide +kernel
theorem dX7_init_10 : decode cX7_init 10 = .ok (.putfield 7, 3) := by decide +kernel
theorem dX7_init_13 : decode cX7_init 13 = .ok (.aload_n 0, 1) := by decide +kernel
theorem dX7_init_14 : decode cX7_init 14 = .ok (.sipush 1635, 3) := by decide +kernel
theorem dX7_init_17 : decode cX7_init 17 = .ok (.newarray .int, 2) := by decide +kernel
theorem dX7_init_19 : decode cX7_init 19 = .ok (.putfield 13, 3) := by decide +kernel
theorem dX7_init_22 : decode cX7_init 22 = .ok (.aload_n 0, 1) := by decide +kernel
theorem dX7_init_23 : decode cX7_init 23 = .ok (.sipush 327, 3) := by decide +kernel
theorem dX7_init_26 : decode cX7_init 26 = .ok (.newarray .int, 2) := by decide +kernel
theorem dX7_init_28 : decode cX7_init 28 = .ok (.putfield 16, 3) := by decide +kernel
theorem dX7_init_31 : decode cX7_init 31 = .ok (.aload_n 0, 1) := by decide +kernel
theorem dX7_init_32 : decode cX7_init 32 = .ok (.bipush 100, 2) := by decide +kernel
theorem dX7_init_34 : decode cX7_init 34 = .ok (.newarray .char, 2) := by decide +kernel
theorem dX7_init_36 : decode cX7_init 36 = .ok (.putfield 19, 3) := by decide +kernel
theorem dX7_init_39 : decode cX7_init 39 = .ok (.aload_n 0, 1) := by decide +kernel
theorem dX7_init_40 : decode cX7_init 40 = .ok (.iconst 4, 1) := by decide +kernel
theorem dX7_init_41 : decode cX7_init 41 = .ok (.newarray .int, 2) := by decide +kernel
theorem dX7_init_43 : decode cX7_init 43 = .ok (.putfield 23, 3) := by decide +kernel
theorem dX7_init_46 : decode cX7_init 46 = .ok (.aload_n 0, 1) := by decide +kernel
theorem dX7_init_47 : decode cX7_init 47 = .ok (.bipush 20, 2) := by decide +kernel
theorem dX7_init_49 : decode cX7_init 49 = .ok (.newarray .int, 2) := by decide +kernel
theorem dX7_init_51 : decode cX7_init 51 = .ok (.putfield 26, 3) := by decide +kernel
theorem dX7_init_54 : decode cX7_init 54 = .ok (.aload_n 0, 1) := by decide +kernel
theorem dX7_init_55 : decode cX7_init 55 = .ok (.bipush 20, 2) := by decide +kernel
theorem dX7_init_57 : decode cX7_init 57 = .ok (.newarray .boolean, 2) := by decide +kernel
theorem dX7_init_59 : decode cX7_init 59 = .ok (.putfield 29, 3) := by decide +kernel
theorem dX7_init_62 : decode cX7_init 62 = .ok (.aload_n 0, 1) := by decide +kernel
theorem dX7_init_63 : decode cX7_init 63 = .ok (.bipush 20, 2) := by decide +kernel
theorem dX7_init_65 : decode cX7_init 65 = .ok (.newarray .int, 2) := by decide +kernel
theorem dX7_init_67 : decode cX7_init 67 = .ok (.putfield 33, 3) := by decide +kernel
theorem dX7_init_70 : decode cX7_init 70 = .ok (.aload_n 0, 1) := by decide +kernel
theorem dX7_init_71 : decode cX7_init 71 = .ok (.bipush 20, 2) := by decide +kernel
theorem dX7_init_73 : decode cX7_init 73 = .ok (.newarray .int, 2) := by decide +kernel
theorem dX7_init_75 : decode cX7_init 75 = .ok (.putfield 36, 3) := by decide +kernel
theorem dX7_init_78 : decode cX7_init 78 = .ok (.aload_n 0, 1) := by decide +kernel
theorem dX7_init_79 : decode cX7_init 79 = .ok (.getfield 7, 3) := by decide +kernel
theorem dX7_init_82 : decode cX7_init 82 = .ok (.iconst 1, 1) := by decide +kernel
theorem dX7_init_83 : decode cX7_init 83 = .ok (.bipush 60, 2) := by decide +kernel
theorem dX7_init_85 : decode cX7_init 85 = .ok (.iastore, 1) := by decide +kernel
theorem dX7_init_86 : decode cX7_init 86 = .ok (.aload_n 0, 1) := by decide +kernel
theorem dX7_init_87 : decode cX7_init 87 = .ok (.getfield 7, 3) := by decide +kernel
theorem dX7_init_90 : decode cX7_init 90 = .ok (.iconst 2, 1) := by decide +kernel
theorem dX7_init_91 : decode cX7_init 91 = .ok (.bipush 50, 2) := by decide +kernel
theorem dX7_init_93 : decode cX7_init 93 = .ok (.iastore, 1) := by decide +kernel
theorem dX7_init_94 : decode cX7_init 94 = .ok (.return_, 1) := by decide +kernel
theorem dX7_in_0 : decode cX7_in 0 = .ok (.iload_n 0, 1) := by decide +kernel
theorem dX7_in_1 : decode cX7_in 1 = .ok (.iload_n 1, 1) := by decide +kernel
theorem dX7_in_2 : decode cX7_in 2 = .ok (.if_icmp .lt 12, 3) := by decide +kernel
theorem dX7_in_5 : decode cX7_in 5 = .ok (.iload_n 0, 1) := by decide +kernel
theorem dX7_in_6 : decode cX7_in 6 = .ok (.iload_n 2, 1) := by decide +kernel
theorem dX7_in_7 : decode cX7_in 7 = .ok (.if_icmp .gt 7, 3) := by decide +kernel
theorem dX7_in_10 : decode cX7_in 10 = .ok (.iconst 1, 1) := by decide +kernel
theorem dX7_in_11 : decode cX7_in 11 = .ok (.goto 4, 3) := by decide +kernel
theorem dX7_in_14 : decode cX7_in 14 = .ok (.iconst 0, 1) := by decide +kernel
theorem dX7_in_15 : decode cX7_in 15 = .ok (.ireturn, 1) := by decide +kernel
set_option maxRecDepth 20000 in
theorem ggX7_isCell_X7_in : GoodIn wsX7_isCell wsX7_in := goodIn_r _ [4] (by decide +kernel) (by decide +kernel)
set_option maxRecDepth 20000 in
theorem gX7_isCell_X7_in : GoodIn wsX7_isCell (va_wsS RX7 39 yX7_in wsX7_in) := goodIn_app (goodIn_of _ (by decide +kernel)) ggX7_isCell_X7_in
theorem dX7_isCell_0 : decode cX7_isCell 0 = .ok (.iload_n 0, 1) := by decide +kernel
theorem dX7_isCell_1 : decode cX7_isCell 1 = .ok (.iconst 0, 1) := by decide +kernel
theorem dX7_isCell_2 : decode cX7_isCell 2 = .ok (.iconst 2, 1) := by decide +kernel
theorem dX7_isCell_3 : decode cX7_isCell 3 = .ok (.invokestatic 39, 3) := by decide +kernel
theorem dX7_isCell_6 : decode cX7_isCell 6 = .ok (.ireturn, 1) := by decide +kernel
set_option maxRecDepth 20000 in
theorem ggX7_isReading_X7_in : GoodIn wsX7_isReading wsX7_in := goodIn_r _ [5] (by decide +kernel) (by decide +kernel)
set_option maxRecDepth 20000 in
theorem gX7_isReading_X7_in : GoodIn wsX7_isReading (va_wsS RX7 39 yX7_in wsX7_in) := goodIn_app (goodIn_of _ (by decide +kernel)) ggX7_isReading_X7_in
theorem dX7_isReading_0 : decode cX7_isReading 0 = .ok (.iload_n 1, 1) := by decide +kernel
theorem dX7_isReading_1 : decode cX7_isReading 1 = .ok (.iconst (-1), 1) := by decide +kernel
theorem dX7_isReading_2 : decode cX7_isReading 2 = .ok (.iconst 2, 1) := by decide +kernel
theorem dX7_isReading_3 : decode cX7_isReading 3 = .ok (.invokestatic 39, 3) := by decide +kernel
theorem dX7_isReading_6 : decode cX7_isReading 6 = .ok (.ifCond .eq 25, 3) := by decide +kernel
theorem dX7_isReading_9 : decode cX7_isReading 9 = .ok (.iload_n 2, 1) := by decide +kernel
theorem dX7_isReading_10 : decode cX7_isReading 10 = .ok (.iconst 0, 1) := by decide +kernel
theorem dX7_isReading_11 : decode cX7_isReading 11 = .ok (.aload_n 0, 1) := by decide +kernel
theorem dX7_isReading_12 : decode cX7_isReading 12 = .ok (.getfield 7, 3) := by decide +kernel
theorem dX7_isReading_15 : decode cX7_isReading 15 = .ok (.iconst 4, 1) := by decide +kernel
theorem dX7_isReading_16 : decode cX7_isReading 16 = .ok (.iload_n 1, 1) := by decide +kernel
theorem dX7_isReading_17 : decode cX7_isReading 17 = .ok (.iadd, 1) := by decide +kernel
theorem dX7_isReading_18 : decode cX7_isReading 18 = .ok (.iaload, 1) := by decide +kernel
theorem dX7_isReading_19 : decode cX7_isReading 19 = .ok (.iconst 1, 1) := by decide +kernel
theorem dX7_isReading_20 : decode cX7_isReading 20 = .ok (.isub, 1) := by decide +kernel
theorem dX7_isReading_21 : decode cX7_isReading 21 = .ok (.invokestatic 39, 3) := by decide +kernel
theorem dX7_isReading_24 : decode cX7_isReading 24 = .ok (.ifCond .eq 7, 3) := by decide +kernel
theorem dX7_isReading_27 : decode cX7_isReading 27 = .ok (.iconst 1, 1) := by decide +kernel
theorem dX7_isReading_28 : decode cX7_isReading 28 = .ok (.goto 4, 3) := by decide +kernel
theorem dX7_isReading_31 : decode cX7_isReading 31 = .ok (.iconst 0, 1) := by decide +kernel
theorem dX7_isReading_32 : decode cX7_isReading 32 = .ok (.ireturn, 1) := by decide +kernel
set_option maxRecDepth 20000 in
theorem ggX7_areValues_X7_in : GoodIn wsX7_areValues wsX7_in := goodIn_r _ [6] (by decide +kernel) (by decide +kernel)
set_option maxRecDepth 20000 in
theorem gX7_areValues_X7_in : GoodIn wsX7_areValues (va_wsS RX7 39 yX7_in wsX7_in) := goodIn_app (goodIn_of _ (by decide +kernel)) ggX7_areValues_X7_in
theorem dX7_areValues_0 : decode cX7_areValues 0 = .ok (.iload_n 0, 1) := by decide +kernel
theorem dX7_areValues_1 : decode cX7_areValues 1 = .ok (.iconst 0, 1) := by decide +kernel
theorem dX7_areValues_2 : decode cX7_areValues 2 = .ok (.sipush 10000, 3) := by decide +kernel
theorem dX7_areValues_5 : decode cX7_areValues 5 = .ok (.invokestatic 39, 3) := by decide +kernel
theorem dX7_areValues_8 : decode cX7_areValues 8 = .ok (.ifCond .eq 31, 3) := by decide +kernel
theorem dX7_areValues_11 : decode cX7_areValues 11 = .ok (.iload_n 1, 1) := by decide +kernel
theorem dX7_areValues_12 : decode cX7_areValues 12 = .ok (.ldc 43, 2) := by decide +kernel
theorem dX7_areValues_14 : decode cX7_areValues 14 = .ok (.ldc 44, 2) := by decide +kernel
theorem dX7_areValues_16 : decode cX7_areValues 16 = .ok (.invokestatic 39, 3) := by decide +kernel
theorem dX7_areValues_19 : decode cX7_areValues 19 = .ok (.ifCond .eq 20, 3) := by decide +kernel
theorem dX7_areValues_22 : decode cX7_areValues 22 = .ok (.iload_n 2, 1) := by decide +kernel
theorem dX7_areValues_23 : decode cX7_areValues 23 = .ok (.sipush (-300), 3) := by decide +kernel
theorem dX7_areValues_26 : decode cX7_areValues 26 = .ok (.sipush 500, 3) := by decide +kernel
theorem dX7_areValues_29 : decode cX7_areValues 29 = .ok (.invokestatic 39, 3) := by decide +kernel
theorem dX7_areValues_32 : decode cX7_areValues 32 = .ok (.ifCond .eq 7, 3) := by decide +kernel
theorem dX7_areValues_35 : decode cX7_areValues 35 = .ok (.iconst 1, 1) := by decide +kernel
theorem dX7_areValues_36 : decode cX7_areValues 36 = .ok (.goto 4, 3) := by decide +kernel
theorem dX7_areValues_39 : decode cX7_areValues 39 = .ok (.iconst 0, 1) := by decide +kernel
theorem dX7_areValues_40 : decode cX7_areValues 40 = .ok (.ireturn, 1) := by decide +kernel
theorem dX7_of_0 : decode cX7_of 0 = .ok (.aload_n 0, 1) := by decide +kernel
theorem dX7_of_1 : decode cX7_of 1 = .ok (.getfield 7, 3) := by decide +kernel
theorem dX7_of_4 : decode cX7_of 4 = .ok (.bipush 7, 2) := by decide +kernel
theorem dX7_of_6 : decode cX7_of 6 = .ok (.bipush 80, 2) := by decide +kernel
theorem dX7_of_8 : decode cX7_of 8 = .ok (.iload_n 1, 1) := by decide +kernel
theorem dX7_of_9 : decode cX7_of 9 = .ok (.imul, 1) := by decide +kernel
theorem dX7_of_10 : decode cX7_of 10 = .ok (.iadd, 1) := by decide +kernel
theorem dX7_of_11 : decode cX7_of 11 = .ok (.iload_n 2, 1) := by decide +kernel
theorem dX7_of_12 : decode cX7_of 12 = .ok (.iadd, 1) := by decide +kernel
theorem dX7_of_13 : decode cX7_of 13 = .ok (.iload_n 3, 1) := by decide +kernel
theorem dX7_of_14 : decode cX7_of 14 = .ok (.iadd, 1) := by decide +kernel
theorem dX7_of_15 : decode cX7_of 15 = .ok (.iaload, 1) := by decide +kernel
theorem dX7_of_16 : decode cX7_of 16 = .ok (.ireturn, 1) := by decide +kernel
theorem dX7_down_0 : decode cX7_down 0 = .ok (.lload_n 0, 1) := by decide +kernel
theorem dX7_down_1 : decode cX7_down 1 = .ok (.lload_n 2, 1) := by decide +kernel
theorem dX7_down_2 : decode cX7_down 2 = .ok (.ldiv, 1) := by decide +kernel
theorem dX7_down_3 : decode cX7_down 3 = .ok (.lstore 4, 2) := by decide +kernel
theorem dX7_down_5 : decode cX7_down 5 = .ok (.lload_n 0, 1) := by decide +kernel
theorem dX7_down_6 : decode cX7_down 6 = .ok (.lload_n 2, 1) := by decide +kernel
theorem dX7_down_7 : decode cX7_down 7 = .ok (.lrem, 1) := by decide +kernel
theorem dX7_down_8 : decode cX7_down 8 = .ok (.lconst 0, 1) := by decide +kernel
theorem dX7_down_9 : decode cX7_down 9 = .ok (.lcmp, 1) := by decide +kernel
theorem dX7_down_10 : decode cX7_down 10 = .ok (.ifCond .eq 35, 3) := by decide +kernel
theorem dX7_down_13 : decode cX7_down 13 = .ok (.lload_n 0, 1) := by decide +kernel
theorem dX7_down_14 : decode cX7_down 14 = .ok (.lconst 0, 1) := by decide +kernel
theorem dX7_down_15 : decode cX7_down 15 = .ok (.lcmp, 1) := by decide +kernel
theorem dX7_down_16 : decode cX7_down 16 = .ok (.ifCond .ge 7, 3) := by decide +kernel
theorem dX7_down_19 : decode cX7_down 19 = .ok (.iconst 1, 1) := by decide +kernel
theorem dX7_down_20 : decode cX7_down 20 = .ok (.goto 4, 3) := by decide +kernel
theorem dX7_down_23 : decode cX7_down 23 = .ok (.iconst 0, 1) := by decide +kernel
theorem dX7_down_24 : decode cX7_down 24 = .ok (.lload_n 2, 1) := by decide +kernel
theorem dX7_down_25 : decode cX7_down 25 = .ok (.lconst 0, 1) := by decide +kernel
theorem dX7_down_26 : decode cX7_down 26 = .ok (.lcmp, 1) := by decide +kernel
theorem dX7_down_27 : decode cX7_down 27 = .ok (.ifCond .ge 7, 3) := by decide +kernel
theorem dX7_down_30 : decode cX7_down 30 = .ok (.iconst 1, 1) := by decide +kernel
theorem dX7_down_31 : decode cX7_down 31 = .ok (.goto 4, 3) := by decide +kernel
theorem dX7_down_34 : decode cX7_down 34 = .ok (.iconst 0, 1) := by decide +kernel
theorem dX7_down_35 : decode cX7_down 35 = .ok (.if_icmp .eq 10, 3) := by decide +kernel
theorem dX7_down_38 : decode cX7_down 38 = .ok (.lload 4, 2) := by decide +kernel
theorem dX7_down_40 : decode cX7_down 40 = .ok (.lconst 1, 1) := by decide +kernel
theorem dX7_down_41 : decode cX7_down 41 = .ok (.lsub, 1) := by decide +kernel
theorem dX7_down_42 : decode cX7_down 42 = .ok (.goto 5, 3) := by decide +kernel
theorem dX7_down_45 : decode cX7_down 45 = .ok (.lload 4, 2) := by decide +kernel
theorem dX7_down_47 : decode cX7_down 47 = .ok (.lreturn, 1) := by decide +kernel
theorem dX7_records_0 : decode cX7_records 0 = .ok (.aload_n 0, 1) := by decide +kernel
theorem dX7_records_1 : decode cX7_records 1 = .ok (.getfield 45, 3) := by decide +kernel
theorem dX7_records_4 : decode cX7_records 4 = .ok (.iconst 5, 1) := by decide +kernel
theorem dX7_records_5 : decode cX7_records 5 = .ok (.if_icmp .ne 44, 3) := by decide +kernel
theorem dX7_records_8 : decode cX7_records 8 = .ok (.iconst 0, 1) := by decide +kernel
theorem dX7_records_9 : decode cX7_records 9 = .ok (.istore_n 1, 1) := by decide +kernel
theorem dX7_records_10 : decode cX7_records 10 = .ok (.iload_n 1, 1) := by decide +kernel
theorem dX7_records_11 : decode cX7_records 11 = .ok (.sipush 1308, 3) := by decide +kernel
theorem dX7_records_14 : decode cX7_records 14 = .ok (.if_icmp .ge 25, 3) := by decide +kernel
theorem dX7_records_17 : decode cX7_records 17 = .ok (.aload_n 0, 1) := by decide +kernel
theorem dX7_records_18 : decode cX7_records 18 = .ok (.getfield 13, 3) := by decide +kernel
theorem dX7_records_21 : decode cX7_records 21 = .ok (.iload_n 1, 1) := by decide +kernel
theorem dX7_records_22 : decode cX7_records 22 = .ok (.aload_n 0, 1) := by decide +kernel
theorem dX7_records_23 : decode cX7_records 23 = .ok (.getfield 13, 3) := by decide +kernel
theorem dX7_records_26 : decode cX7_records 26 = .ok (.iload_n 1, 1) := by decide +kernel
theorem dX7_records_27 : decode cX7_records 27 = .ok (.sipush 327, 3) := by decide +kernel
theorem dX7_records_30 : decode cX7_records 30 = .ok (.iadd, 1) := by decide +kernel
theorem dX7_records_31 : decode cX7_records 31 = .ok (.iaload, 1) := by decide +kernel
theorem dX7_records_32 : decode cX7_records 32 = .ok (.iastore, 1) := by decide +kernel
theorem dX7_records_33 : decode cX7_records 33 = .ok (.iinc 1 1, 3) := by decide +kernel
theorem dX7_records_36 : decode cX7_records 36 = .ok (.goto (-26), 3) := by decide +kernel
theorem dX7_records_39 : decode cX7_records 39 = .ok (.aload_n 0, 1) := by decide +kernel
theorem dX7_records_40 : decode cX7_records 40 = .ok (.dup, 1) := by decide +kernel
theorem dX7_records_41 : decode cX7_records 41 = .ok (.getfield 45, 3) := by decide +kernel
theorem dX7_records_44 : decode cX7_records 44 = .ok (.iconst 1, 1) := by decide +kernel
theorem dX7_records_45 : decode cX7_records 45 = .ok (.isub, 1) := by decide +kernel
theorem dX7_records_46 : decode cX7_records 46 = .ok (.putfield 45, 3) := by decide +kernel
theorem dX7_records_49 : decode cX7_records 49 = .ok (.iconst 0, 1) := by decide +kernel
theorem dX7_records_50 : decode cX7_records 50 = .ok (.istore_n 1, 1) := by decide +kernel
theorem dX7_records_51 : decode cX7_records 51 = .ok (.iload_n 1, 1) := by decide +kernel
theorem dX7_records_52 : decode cX7_records 52 = .ok (.sipush 327, 3) := by decide +kernel
theorem dX7_records_55 : decode cX7_records 55 = .ok (.if_icmp .ge 30, 3) := by decide +kernel
theorem dX7_records_58 : decode cX7_records 58 = .ok (.aload_n 0, 1) := by decide +kernel
theorem dX7_records_59 : decode cX7_records 59 = .ok (.getfield 13, 3) := by decide +kernel
theorem dX7_records_62 : decode cX7_records 62 = .ok (.sipush 327, 3) := by decide +kernel
theorem dX7_records_65 : decode cX7_records 65 = .ok (.aload_n 0, 1) := by decide +kernel
theorem dX7_records_66 : decode cX7_records 66 = .ok (.getfield 45, 3) := by decide +kernel
theorem dX7_records_69 : decode cX7_records 69 = .ok (.imul, 1) := by decide +kernel
theorem dX7_records_70 : decode cX7_records 70 = .ok (.iload_n 1, 1) := by decide +kernel
theorem dX7_records_71 : decode cX7_records 71 = .ok (.iadd, 1) := by decide +kernel
theorem dX7_records_72 : decode cX7_records 72 = .ok (.aload_n 0, 1) := by decide +kernel
theorem dX7_records_73 : decode cX7_records 73 = .ok (.getfield 7, 3) := by decide +kernel
theorem dX7_records_76 : decode cX7_records 76 = .ok (.iload_n 1, 1) := by decide +kernel
theorem dX7_records_77 : decode cX7_records 77 = .ok (.iaload, 1) := by decide +kernel
theorem dX7_records_78 : decode cX7_records 78 = .ok (.iastore, 1) := by decide +kernel
theorem dX7_records_79 : decode cX7_records 79 = .ok (.iinc 1 1, 3) := by decide +kernel
theorem dX7_records_82 : decode cX7_records 82 = .ok (.goto (-31), 3) := by decide +kernel
theorem dX7_records_85 : decode cX7_records 85 = .ok (.aload_n 0, 1) := by decide +kernel
theorem dX7_records_86 : decode cX7_records 86 = .ok (.dup, 1) := by decide +kernel
theorem dX7_records_87 : decode cX7_records 87 = .ok (.getfield 45, 3) := by decide +kernel
theorem dX7_records_90 : decode cX7_records 90 = .ok (.iconst 1, 1) := by decide +kernel
theorem dX7_records_91 : decode cX7_records 91 = .ok (.iadd, 1) := by decide +kernel
theorem dX7_records_92 : decode cX7_records 92 = .ok (.putfield 45, 3) := by decide +kernel
theorem dX7_records_95 : decode cX7_records 95 = .ok (.return_, 1) := by decide +kernel
set_option maxRecDepth 20000 in
theorem ggX7_isSetting_X7_in : GoodIn wsX7_isSetting wsX7_in := goodIn_r _ [6] (by decide +kernel) (by decide +kernel)
set_option maxRecDepth 20000 in
theorem gX7_isSetting_X7_in : GoodIn wsX7_isSetting (va_wsS RX7 39 yX7_in wsX7_in) := goodIn_app (goodIn_of _ (by decide +kernel)) ggX7_isSetting_X7_in
theorem dX7_isSetting_0 : decode cX7_isSetting 0 = .ok (.iload_n 0, 1) := by decide +kernel
theorem dX7_isSetting_1 : decode cX7_isSetting 1 = .ok (.tableswitch 54 0 2 #[27, 36, 45], 27) := by decide +kernel
theorem dX7_isSetting_28 : decode cX7_isSetting 28 = .ok (.iload_n 1, 1) := by decide +kernel
theorem dX7_isSetting_29 : decode cX7_isSetting 29 = .ok (.ldc 49, 2) := by decide +kernel
theorem dX7_isSetting_31 : decode cX7_isSetting 31 = .ok (.ldc 50, 2) := by decide +kernel
theorem dX7_isSetting_33 : decode cX7_isSetting 33 = .ok (.invokestatic 39, 3) := by decide +kernel
theorem dX7_isSetting_36 : decode cX7_isSetting 36 = .ok (.ireturn, 1) := by decide +kernel
theorem dX7_isSetting_37 : decode cX7_isSetting 37 = .ok (.iload_n 1, 1) := by decide +kernel
theorem dX7_isSetting_38 : decode cX7_isSetting 38 = .ok (.iconst 1, 1) := by decide +kernel
theorem dX7_isSetting_39 : decode cX7_isSetting 39 = .ok (.sipush 5000, 3) := by decide +kernel
theorem dX7_isSetting_42 : decode cX7_isSetting 42 = .ok (.invokestatic 39, 3) := by decide +kernel
theorem dX7_isSetting_45 : decode cX7_isSetting 45 = .ok (.ireturn, 1) := by decide +kernel
theorem dX7_isSetting_46 : decode cX7_isSetting 46 = .ok (.iload_n 1, 1) := by decide +kernel
theorem dX7_isSetting_47 : decode cX7_isSetting 47 = .ok (.iconst 1, 1) := by decide +kernel
theorem dX7_isSetting_48 : decode cX7_isSetting 48 = .ok (.sipush 500, 3) := by decide +kernel
theorem dX7_isSetting_51 : decode cX7_isSetting 51 = .ok (.invokestatic 39, 3) := by decide +kernel
theorem dX7_isSetting_54 : decode cX7_isSetting 54 = .ok (.ireturn, 1) := by decide +kernel
theorem dX7_isSetting_55 : decode cX7_isSetting 55 = .ok (.iconst 0, 1) := by decide +kernel
theorem dX7_isSetting_56 : decode cX7_isSetting 56 = .ok (.ireturn, 1) := by decide +kernel
set_option maxRecDepth 20000 in
theorem ggX7_set_X7_isSetting : GoodIn wsX7_set wsX7_isSetting := goodIn_r _ [6, 7, 8, 9, 10, 5, 11] (by decide +kernel) (by decide +kernel)
set_option maxRecDepth 20000 in
theorem gX7_set_X7_isSetting : GoodIn wsX7_set (va_wsS RX7 51 yX7_isSetting wsX7_isSetting) := goodIn_app (goodIn_of _ (by decide +kernel)) ggX7_set_X7_isSetting
set_option maxRecDepth 20000 in
theorem ggX7_set_X7_records : GoodIn wsX7_set wsX7_records := goodIn_r _ [15, 16, 17, 2, 18, 19, 20, 21, 22, 23, 24, 25, 26, 27, 28, 29, 30, 31, 32, 33, 34, 35, 36, 37, 38] (by decide +kernel) (by decide +kernel)
set_option maxRecDepth 20000 in
theorem gX7_set_X7_records : GoodIn wsX7_set (wsV RX7 56 RX7 yX7_records wsX7_records) := goodIn_app (goodIn_of _ (by decide +kernel)) ggX7_set_X7_records
theorem dX7_set_0 : decode cX7_set 0 = .ok (.iload_n 1, 1) := by decide +kernel
theorem dX7_set_1 : decode cX7_set 1 = .ok (.iload_n 2, 1) := by decide +kernel
theorem dX7_set_2 : decode cX7_set 2 = .ok (.invokestatic 51, 3) := by decide +kernel
theorem dX7_set_5 : decode cX7_set 5 = .ok (.ifCond .ne 6, 3) := by decide +kernel
theorem dX7_set_8 : decode cX7_set 8 = .ok (.ldc 55, 2) := by decide +kernel
theorem dX7_set_10 : decode cX7_set 10 = .ok (.ireturn, 1) := by decide +kernel
theorem dX7_set_11 : decode cX7_set 11 = .ok (.aload_n 0, 1) := by decide +kernel
theorem dX7_set_12 : decode cX7_set 12 = .ok (.invokevirtual 56, 3) := by decide +kernel
theorem dX7_set_15 : decode cX7_set 15 = .ok (.aload_n 0, 1) := by decide +kernel
theorem dX7_set_16 : decode cX7_set 16 = .ok (.getfield 7, 3) := by decide +kernel
theorem dX7_set_19 : decode cX7_set 19 = .ok (.iload_n 1, 1) := by decide +kernel
theorem dX7_set_20 : decode cX7_set 20 = .ok (.iaload, 1) := by decide +kernel
theorem dX7_set_21 : decode cX7_set 21 = .ok (.istore_n 3, 1) := by decide +kernel
theorem dX7_set_22 : decode cX7_set 22 = .ok (.aload_n 0, 1) := by decide +kernel
theorem dX7_set_23 : decode cX7_set 23 = .ok (.getfield 7, 3) := by decide +kernel
theorem dX7_set_26 : decode cX7_set 26 = .ok (.iload_n 1, 1) := by decide +kernel
theorem dX7_set_27 : decode cX7_set 27 = .ok (.iload_n 2, 1) := by decide +kernel
theorem dX7_set_28 : decode cX7_set 28 = .ok (.iastore, 1) := by decide +kernel
theorem dX7_set_29 : decode cX7_set 29 = .ok (.iload_n 3, 1) := by decide +kernel
theorem dX7_set_30 : decode cX7_set 30 = .ok (.ireturn, 1) := by decide +kernel
set_option maxRecDepth 20000 in
theorem ggX7_isTaken_X7_of : GoodIn wsX7_isTaken wsX7_of := goodIn_r _ [6, 1, 7, 8, 9, 10, 11, 12, 13, 14, 15, 16, 17, 18, 19, 20, 21, 22, 23, 24, 25, 26, 27] (by decide +kernel) (by decide +kernel)
set_option maxRecDepth 20000 in
theorem gX7_isTaken_X7_of : GoodIn wsX7_isTaken (wsV RX7 59 RX7 yX7_of wsX7_of) := goodIn_app (goodIn_of _ (by decide +kernel)) ggX7_isTaken_X7_of
theorem dX7_isTaken_0 : decode cX7_isTaken 0 = .ok (.iconst 0, 1) := by decide +kernel
theorem dX7_isTaken_1 : decode cX7_isTaken 1 = .ok (.istore_n 3, 1) := by decide +kernel
theorem dX7_isTaken_2 : decode cX7_isTaken 2 = .ok (.iconst 0, 1) := by decide +kernel
theorem dX7_isTaken_3 : decode cX7_isTaken 3 = .ok (.istore 4, 2) := by decide +kernel
theorem dX7_isTaken_5 : decode cX7_isTaken 5 = .ok (.iload 4, 2) := by decide +kernel
theorem dX7_isTaken_7 : decode cX7_isTaken 7 = .ok (.aload_n 0, 1) := by decide +kernel
theorem dX7_isTaken_8 : decode cX7_isTaken 8 = .ok (.getfield 7, 3) := by decide +kernel
theorem dX7_isTaken_11 : decode cX7_isTaken 11 = .ok (.iconst 3, 1) := by decide +kernel
theorem dX7_isTaken_12 : decode cX7_isTaken 12 = .ok (.iload_n 1, 1) := by decide +kernel
theorem dX7_isTaken_13 : decode cX7_isTaken 13 = .ok (.iadd, 1) := by decide +kernel
theorem dX7_isTaken_14 : decode cX7_isTaken 14 = .ok (.iaload, 1) := by decide +kernel
theorem dX7_isTaken_15 : decode cX7_isTaken 15 = .ok (.if_icmp .ge 31, 3) := by decide +kernel
theorem dX7_isTaken_18 : decode cX7_isTaken 18 = .ok (.iload_n 3, 1) := by decide +kernel
theorem dX7_isTaken_19 : decode cX7_isTaken 19 = .ok (.ifCond .ne 15, 3) := by decide +kernel
theorem dX7_isTaken_22 : decode cX7_isTaken 22 = .ok (.aload_n 0, 1) := by decide +kernel
theorem dX7_isTaken_23 : decode cX7_isTaken 23 = .ok (.iload_n 1, 1) := by decide +kernel
theorem dX7_isTaken_24 : decode cX7_isTaken 24 = .ok (.iconst 0, 1) := by decide +kernel
theorem dX7_isTaken_25 : decode cX7_isTaken 25 = .ok (.iload 4, 2) := by decide +kernel
theorem dX7_isTaken_27 : decode cX7_isTaken 27 = .ok (.invokevirtual 59, 3) := by decide +kernel
theorem dX7_isTaken_30 : decode cX7_isTaken 30 = .ok (.iload_n 2, 1) := by decide +kernel
theorem dX7_isTaken_31 : decode cX7_isTaken 31 = .ok (.if_icmp .ne 7, 3) := by decide +kernel
theorem dX7_isTaken_34 : decode cX7_isTaken 34 = .ok (.iconst 1, 1) := by decide +kernel
theorem dX7_isTaken_35 : decode cX7_isTaken 35 = .ok (.goto 4, 3) := by decide +kernel
theorem dX7_isTaken_38 : decode cX7_isTaken 38 = .ok (.iconst 0, 1) := by decide +kernel
theorem dX7_isTaken_39 : decode cX7_isTaken 39 = .ok (.istore_n 3, 1) := by decide +kernel
theorem dX7_isTaken_40 : decode cX7_isTaken 40 = .ok (.iinc 4 1, 3) := by decide +kernel
theorem dX7_isTaken_43 : decode cX7_isTaken 43 = .ok (.goto (-38), 3) := by decide +kernel
theorem dX7_isTaken_46 : decode cX7_isTaken 46 = .ok (.iload_n 3, 1) := by decide +kernel
theorem dX7_isTaken_47 : decode cX7_isTaken 47 = .ok (.ireturn, 1) := by decide +kernel
theorem dX7_isFull_0 : decode cX7_isFull 0 = .ok (.aload_n 0, 1) := by decide +kernel
theorem dX7_isFull_1 : decode cX7_isFull 1 = .ok (.getfield 7, 3) := by decide +kernel
theorem dX7_isFull_4 : decode cX7_isFull 4 = .ok (.iconst 3, 1) := by decide +kernel
theorem dX7_isFull_5 : decode cX7_isFull 5 = .ok (.iload_n 1, 1) := by decide +kernel
theorem dX7_isFull_6 : decode cX7_isFull 6 = .ok (.iadd, 1) := by decide +kernel
theorem dX7_isFull_7 : decode cX7_isFull 7 = .ok (.iaload, 1) := by decide +kernel
theorem dX7_isFull_8 : decode cX7_isFull 8 = .ok (.iload_n 1, 1) := by decide +kernel
theorem dX7_isFull_9 : decode cX7_isFull 9 = .ok (.ifCond .ne 8, 3) := by decide +kernel
theorem dX7_isFull_12 : decode cX7_isFull 12 = .ok (.bipush 12, 2) := by decide +kernel
theorem dX7_isFull_14 : decode cX7_isFull 14 = .ok (.goto 5, 3) := by decide +kernel
theorem dX7_isFull_17 : decode cX7_isFull 17 = .ok (.bipush 20, 2) := by decide +kernel
theorem dX7_isFull_19 : decode cX7_isFull 19 = .ok (.if_icmp .ne 7, 3) := by decide +kernel
theorem dX7_isFull_22 : decode cX7_isFull 22 = .ok (.iconst 1, 1) := by decide +kernel
theorem dX7_isFull_23 : decode cX7_isFull 23 = .ok (.goto 4, 3) := by decide +kernel
theorem dX7_isFull_26 : decode cX7_isFull 26 = .ok (.iconst 0, 1) := by decide +kernel
theorem dX7_isFull_27 : decode cX7_isFull 27 = .ok (.ireturn, 1) := by decide +kernel
set_option maxRecDepth 20000 in
theorem ggX7_moves_X7_of : GoodIn wsX7_moves wsX7_of := goodIn_r _ [6, 1, 7, 8, 9, 10, 11, 12, 13, 14, 15, 16, 17, 18, 19, 20, 21, 22, 23, 24, 25, 26, 27] (by decide +kernel) (by decide +kernel)
set_option maxRecDepth 20000 in
theorem gX7_moves_X7_of : GoodIn wsX7_moves (wsV RX7 59 RX7 yX7_of wsX7_of) := goodIn_app (goodIn_of _ (by decide +kernel)) ggX7_moves_X7_of
theorem dX7_moves_0 : decode cX7_moves 0 = .ok (.iconst 0, 1) := by decide +kernel
theorem dX7_moves_1 : decode cX7_moves 1 = .ok (.istore 4, 2) := by decide +kernel
theorem dX7_moves_3 : decode cX7_moves 3 = .ok (.iload 4, 2) := by decide +kernel
theorem dX7_moves_5 : decode cX7_moves 5 = .ok (.bipush 80, 2) := by decide +kernel
theorem dX7_moves_7 : decode cX7_moves 7 = .ok (.if_icmp .ge 34, 3) := by decide +kernel
theorem dX7_moves_10 : decode cX7_moves 10 = .ok (.aload_n 0, 1) := by decide +kernel
theorem dX7_moves_11 : decode cX7_moves 11 = .ok (.getfield 7, 3) := by decide +kernel
theorem dX7_moves_14 : decode cX7_moves 14 = .ok (.bipush 7, 2) := by decide +kernel
theorem dX7_moves_16 : decode cX7_moves 16 = .ok (.bipush 80, 2) := by decide +kernel
theorem dX7_moves_18 : decode cX7_moves 18 = .ok (.iload_n 1, 1) := by decide +kernel
theorem dX7_moves_19 : decode cX7_moves 19 = .ok (.imul, 1) := by decide +kernel
theorem dX7_moves_20 : decode cX7_moves 20 = .ok (.iadd, 1) := by decide +kernel
theorem dX7_moves_21 : decode cX7_moves 21 = .ok (.iload 4, 2) := by decide +kernel
theorem dX7_moves_23 : decode cX7_moves 23 = .ok (.iadd, 1) := by decide +kernel
theorem dX7_moves_24 : decode cX7_moves 24 = .ok (.iload_n 3, 1) := by decide +kernel
theorem dX7_moves_25 : decode cX7_moves 25 = .ok (.iadd, 1) := by decide +kernel
theorem dX7_moves_26 : decode cX7_moves 26 = .ok (.aload_n 0, 1) := by decide +kernel
theorem dX7_moves_27 : decode cX7_moves 27 = .ok (.iload_n 1, 1) := by decide +kernel
theorem dX7_moves_28 : decode cX7_moves 28 = .ok (.iload 4, 2) := by decide +kernel
theorem dX7_moves_30 : decode cX7_moves 30 = .ok (.iload_n 2, 1) := by decide +kernel
theorem dX7_moves_31 : decode cX7_moves 31 = .ok (.invokevirtual 59, 3) := by decide +kernel
theorem dX7_moves_34 : decode cX7_moves 34 = .ok (.iastore, 1) := by decide +kernel
theorem dX7_moves_35 : decode cX7_moves 35 = .ok (.iinc 4 20, 3) := by decide +kernel
theorem dX7_moves_38 : decode cX7_moves 38 = .ok (.goto (-35), 3) := by decide +kernel
theorem dX7_moves_41 : decode cX7_moves 41 = .ok (.return_, 1) := by decide +kernel
set_option maxRecDepth 20000 in
theorem ggX7_puts_X7_of : GoodIn wsX7_puts wsX7_of := goodIn_r _ [6, 1, 11, 12, 13, 14, 15, 16, 17, 18, 19, 20, 21, 22, 23, 24, 25, 26, 27, 28, 29, 30, 31] (by decide +kernel) (by decide +kernel)
set_option maxRecDepth 20000 in
theorem gX7_puts_X7_of : GoodIn wsX7_puts (wsV RX7 59 RX7 yX7_of wsX7_of) := goodIn_app (goodIn_of _ (by decide +kernel)) ggX7_puts_X7_of
set_option maxRecDepth 20000 in
theorem ggX7_puts_X7_moves : GoodIn wsX7_puts wsX7_moves := goodIn_r _ [10, 1, 2, 3, 4, 5, 6, 11, 12, 13, 14, 15, 16, 17, 18, 19, 20, 21, 22, 23, 24, 25, 26, 27, 28, 29, 30, 31] (by decide +kernel) (by decide +kernel)
set_option maxRecDepth 20000 in
theorem gX7_puts_X7_moves : GoodIn wsX7_puts (wsV RX7 63 RX7 yX7_moves wsX7_moves) := goodIn_app (goodIn_of _ (by decide +kernel)) ggX7_puts_X7_moves
theorem dX7_puts_0 : decode cX7_puts 0 = .ok (.aload_n 0, 1) := by decide +kernel
theorem dX7_puts_1 : decode cX7_puts 1 = .ok (.getfield 7, 3) := by decide +kernel
theorem dX7_puts_4 : decode cX7_puts 4 = .ok (.iconst 3, 1) := by decide +kernel
theorem dX7_puts_5 : decode cX7_puts 5 = .ok (.iload_n 1, 1) := by decide +kernel
theorem dX7_puts_6 : decode cX7_puts 6 = .ok (.iadd, 1) := by decide +kernel
theorem dX7_puts_7 : decode cX7_puts 7 = .ok (.iaload, 1) := by decide +kernel
theorem dX7_puts_8 : decode cX7_puts 8 = .ok (.istore 6, 2) := by decide +kernel
theorem dX7_puts_10 : decode cX7_puts 10 = .ok (.iload 6, 2) := by decide +kernel
theorem dX7_puts_12 : decode cX7_puts 12 = .ok (.ifCond .le 34, 3) := by decide +kernel
theorem dX7_puts_15 : decode cX7_puts 15 = .ok (.aload_n 0, 1) := by decide +kernel
theorem dX7_puts_16 : decode cX7_puts 16 = .ok (.iload_n 1, 1) := by decide +kernel
theorem dX7_puts_17 : decode cX7_puts 17 = .ok (.iconst 0, 1) := by decide +kernel
theorem dX7_puts_18 : decode cX7_puts 18 = .ok (.iload 6, 2) := by decide +kernel
theorem dX7_puts_20 : decode cX7_puts 20 = .ok (.iconst 1, 1) := by decide +kernel
theorem dX7_puts_21 : decode cX7_puts 21 = .ok (.isub, 1) := by decide +kernel
theorem dX7_puts_22 : decode cX7_puts 22 = .ok (.invokevirtual 59, 3) := by decide +kernel
theorem dX7_puts_25 : decode cX7_puts 25 = .ok (.iload_n 2, 1) := by decide +kernel
theorem dX7_puts_26 : decode cX7_puts 26 = .ok (.if_icmp .le 20, 3) := by decide +kernel
theorem dX7_puts_29 : decode cX7_puts 29 = .ok (.aload_n 0, 1) := by decide +kernel
theorem dX7_puts_30 : decode cX7_puts 30 = .ok (.iload_n 1, 1) := by decide +kernel
theorem dX7_puts_31 : decode cX7_puts 31 = .ok (.iload 6, 2) := by decide +kernel
theorem dX7_puts_33 : decode cX7_puts 33 = .ok (.iconst 1, 1) := by decide +kernel
theorem dX7_puts_34 : decode cX7_puts 34 = .ok (.isub, 1) := by decide +kernel
theorem dX7_puts_35 : decode cX7_puts 35 = .ok (.iload 6, 2) := by decide +kernel
theorem dX7_puts_37 : decode cX7_puts 37 = .ok (.invokevirtual 63, 3) := by decide +kernel
theorem dX7_puts_40 : decode cX7_puts 40 = .ok (.iinc 6 (-1), 3) := by decide +kernel
theorem dX7_puts_43 : decode cX7_puts 43 = .ok (.goto (-33), 3) := by decide +kernel
theorem dX7_puts_46 : decode cX7_puts 46 = .ok (.bipush 7, 2) := by decide +kernel
theorem dX7_puts_48 : decode cX7_puts 48 = .ok (.bipush 80, 2) := by decide +kernel
theorem dX7_puts_50 : decode cX7_puts 50 = .ok (.iload_n 1, 1) := by decide +kernel
theorem dX7_puts_51 : decode cX7_puts 51 = .ok (.imul, 1) := by decide +kernel
theorem dX7_puts_52 : decode cX7_puts 52 = .ok (.iadd, 1) := by decide +kernel
theorem dX7_puts_53 : decode cX7_puts 53 = .ok (.iload 6, 2) := by decide +kernel
theorem dX7_puts_55 : decode cX7_puts 55 = .ok (.iadd, 1) := by decide +kernel
theorem dX7_puts_56 : decode cX7_puts 56 = .ok (.istore 7, 2) := by decide +kernel
theorem dX7_puts_58 : decode cX7_puts 58 = .ok (.aload_n 0, 1) := by decide +kernel
theorem dX7_puts_59 : decode cX7_puts 59 = .ok (.getfield 7, 3) := by decide +kernel
theorem dX7_puts_62 : decode cX7_puts 62 = .ok (.iload 7, 2) := by decide +kernel
theorem dX7_puts_64 : decode cX7_puts 64 = .ok (.iconst 0, 1) := by decide +kernel
theorem dX7_puts_65 : decode cX7_puts 65 = .ok (.iadd, 1) := by decide +kernel
theorem dX7_puts_66 : decode cX7_puts 66 = .ok (.iload_n 2, 1) := by decide +kernel
theorem dX7_puts_67 : decode cX7_puts 67 = .ok (.iastore, 1) := by decide +kernel
theorem dX7_puts_68 : decode cX7_puts 68 = .ok (.aload_n 0, 1) := by decide +kernel
theorem dX7_puts_69 : decode cX7_puts 69 = .ok (.getfield 7, 3) := by decide +kernel
theorem dX7_puts_72 : decode cX7_puts 72 = .ok (.iload 7, 2) := by decide +kernel
theorem dX7_puts_74 : decode cX7_puts 74 = .ok (.bipush 20, 2) := by decide +kernel
theorem dX7_puts_76 : decode cX7_puts 76 = .ok (.iadd, 1) := by decide +kernel
theorem dX7_puts_77 : decode cX7_puts 77 = .ok (.iload_n 3, 1) := by decide +kernel
theorem dX7_puts_78 : decode cX7_puts 78 = .ok (.iastore, 1) := by decide +kernel
theorem dX7_puts_79 : decode cX7_puts 79 = .ok (.aload_n 0, 1) := by decide +kernel
theorem dX7_puts_80 : decode cX7_puts 80 = .ok (.getfield 7, 3) := by decide +kernel
theorem dX7_puts_83 : decode cX7_puts 83 = .ok (.iload 7, 2) := by decide +kernel
theorem dX7_puts_85 : decode cX7_puts 85 = .ok (.bipush 40, 2) := by decide +kernel
theorem dX7_puts_87 : decode cX7_puts 87 = .ok (.iadd, 1) := by decide +kernel
theorem dX7_puts_88 : decode cX7_puts 88 = .ok (.iload 4, 2) := by decide +kernel
theorem dX7_puts_90 : decode cX7_puts 90 = .ok (.iastore, 1) := by decide +kernel
theorem dX7_puts_91 : decode cX7_puts 91 = .ok (.aload_n 0, 1) := by decide +kernel
theorem dX7_puts_92 : decode cX7_puts 92 = .ok (.getfield 7, 3) := by decide +kernel
theorem dX7_puts_95 : decode cX7_puts 95 = .ok (.iload 7, 2) := by decide +kernel
theorem dX7_puts_97 : decode cX7_puts 97 = .ok (.bipush 60, 2) := by decide +kernel
theorem dX7_puts_99 : decode cX7_puts 99 = .ok (.iadd, 1) := by decide +kernel
theorem dX7_puts_100 : decode cX7_puts 100 = .ok (.iload 5, 2) := by decide +kernel
theorem dX7_puts_102 : decode cX7_puts 102 = .ok (.iastore, 1) := by decide +kernel
theorem dX7_puts_103 : decode cX7_puts 103 = .ok (.aload_n 0, 1) := by decide +kernel
theorem dX7_puts_104 : decode cX7_puts 104 = .ok (.getfield 7, 3) := by decide +kernel
theorem dX7_puts_107 : decode cX7_puts 107 = .ok (.iconst 3, 1) := by decide +kernel
theorem dX7_puts_108 : decode cX7_puts 108 = .ok (.iload_n 1, 1) := by decide +kernel
theorem dX7_puts_109 : decode cX7_puts 109 = .ok (.iadd, 1) := by decide +kernel
theorem dX7_puts_110 : decode cX7_puts 110 = .ok (.dup2, 1) := by decide +kernel
theorem dX7_puts_111 : decode cX7_puts 111 = .ok (.iaload, 1) := by decide +kernel
theorem dX7_puts_112 : decode cX7_puts 112 = .ok (.iconst 1, 1) := by decide +kernel
theorem dX7_puts_113 : decode cX7_puts 113 = .ok (.iadd, 1) := by decide +kernel
theorem dX7_puts_114 : decode cX7_puts 114 = .ok (.iastore, 1) := by decide +kernel
theorem dX7_puts_115 : decode cX7_puts 115 = .ok (.iload 6, 2) := by decide +kernel
theorem dX7_puts_117 : decode cX7_puts 117 = .ok (.ireturn, 1) := by decide +kernel
set_option maxRecDepth 20000 in
theorem ggX7_adds_X7_isTaken : GoodIn wsX7_adds wsX7_isTaken := goodIn_r _ [7, 8, 9, 10, 11, 6, 12, 31, 32, 33, 34, 35, 36, 37, 38, 39, 40, 41, 42, 43, 44, 45, 46, 47, 48, 49, 50, 51] (by decide +kernel) (by decide +kernel)
set_option maxRecDepth 20000 in
theorem gX7_adds_X7_isTaken : GoodIn wsX7_adds (wsV RX7 67 RX7 yX7_isTaken wsX7_isTaken) := goodIn_app (goodIn_of _ (by decide +kernel)) ggX7_adds_X7_isTaken
set_option maxRecDepth 20000 in
theorem ggX7_adds_X7_isFull : GoodIn wsX7_adds wsX7_isFull := goodIn_r _ [16, 8, 31, 32, 33, 34, 35, 36, 37, 38, 39, 40, 41, 42, 43, 44, 45, 46, 47, 48, 49, 50, 51] (by decide +kernel) (by decide +kernel)
set_option maxRecDepth 20000 in
theorem gX7_adds_X7_isFull : GoodIn wsX7_adds (wsV RX7 71 RX7 yX7_isFull wsX7_isFull) := goodIn_app (goodIn_of _ (by decide +kernel)) ggX7_adds_X7_isFull
set_option maxRecDepth 20000 in
theorem ggX7_adds_X7_records : GoodIn wsX7_adds wsX7_records := goodIn_r _ [20, 21, 22, 8, 31, 32, 33, 34, 35, 36, 37, 38, 39, 40, 41, 42, 43, 44, 45, 46, 47, 48, 49, 50, 51] (by decide +kernel) (by decide +kernel)
set_option maxRecDepth 20000 in
theorem gX7_adds_X7_records : GoodIn wsX7_adds (wsV RX7 56 RX7 yX7_records wsX7_records) := goodIn_app (goodIn_of _ (by decide +kernel)) ggX7_adds_X7_records
set_option maxRecDepth 20000 in
theorem ggX7_adds_X7_puts : GoodIn wsX7_adds wsX7_puts := goodIn_r _ [26, 8, 9, 10, 11, 6, 12, 27, 28, 29, 30, 31, 32, 33, 34, 35, 36, 37, 38, 39, 40, 41, 42, 43, 44, 45, 46, 47, 48, 49, 50, 51] (by decide +kernel) (by decide +kernel)
set_option maxRecDepth 20000 in
theorem gX7_adds_X7_puts : GoodIn wsX7_adds (wsV RX7 76 RX7 yX7_puts wsX7_puts) := goodIn_app (goodIn_of _ (by decide +kernel)) ggX7_adds_X7_puts
theorem dX7_adds_0 : decode cX7_adds 0 = .ok (.aload_n 0, 1) := by decide +kernel
theorem dX7_adds_1 : decode cX7_adds 1 = .ok (.iload_n 1, 1) := by decide +kernel
theorem dX7_adds_2 : decode cX7_adds 2 = .ok (.iload_n 2, 1) := by decide +kernel
theorem dX7_adds_3 : decode cX7_adds 3 = .ok (.invokevirtual 67, 3) := by decide +kernel
theorem dX7_adds_6 : decode cX7_adds 6 = .ok (.ifCond .eq 6, 3) := by decide +kernel
theorem dX7_adds_9 : decode cX7_adds 9 = .ok (.ldc 70, 2) := by decide +kernel
theorem dX7_adds_11 : decode cX7_adds 11 = .ok (.ireturn, 1) := by decide +kernel
theorem dX7_adds_12 : decode cX7_adds 12 = .ok (.aload_n 0, 1) := by decide +kernel
theorem dX7_adds_13 : decode cX7_adds 13 = .ok (.iload_n 1, 1) := by decide +kernel
theorem dX7_adds_14 : decode cX7_adds 14 = .ok (.invokevirtual 71, 3) := by decide +kernel
theorem dX7_adds_17 : decode cX7_adds 17 = .ok (.ifCond .eq 6, 3) := by decide +kernel
theorem dX7_adds_20 : decode cX7_adds 20 = .ok (.ldc 75, 2) := by decide +kernel
theorem dX7_adds_22 : decode cX7_adds 22 = .ok (.ireturn, 1) := by decide +kernel
theorem dX7_adds_23 : decode cX7_adds 23 = .ok (.aload_n 0, 1) := by decide +kernel
theorem dX7_adds_24 : decode cX7_adds 24 = .ok (.invokevirtual 56, 3) := by decide +kernel
theorem dX7_adds_27 : decode cX7_adds 27 = .ok (.aload_n 0, 1) := by decide +kernel
theorem dX7_adds_28 : decode cX7_adds 28 = .ok (.iload_n 1, 1) := by decide +kernel
theorem dX7_adds_29 : decode cX7_adds 29 = .ok (.iload_n 2, 1) := by decide +kernel
theorem dX7_adds_30 : decode cX7_adds 30 = .ok (.iload_n 3, 1) := by decide +kernel
theorem dX7_adds_31 : decode cX7_adds 31 = .ok (.iload 4, 2) := by decide +kernel
theorem dX7_adds_33 : decode cX7_adds 33 = .ok (.iload 5, 2) := by decide +kernel
theorem dX7_adds_35 : decode cX7_adds 35 = .ok (.invokevirtual 76, 3) := by decide +kernel
theorem dX7_adds_38 : decode cX7_adds 38 = .ok (.ireturn, 1) := by decide +kernel
set_option maxRecDepth 20000 in
theorem ggX7_base_X7_areValues : GoodIn wsX7_base wsX7_areValues := goodIn_r _ [5, 6, 7, 8, 9, 4, 10] (by decide +kernel) (by decide +kernel)
set_option maxRecDepth 20000 in
theorem gX7_base_X7_areValues : GoodIn wsX7_base (va_wsS RX7 80 yX7_areValues wsX7_areValues) := goodIn_app (goodIn_of _ (by decide +kernel)) ggX7_base_X7_areValues
set_option maxRecDepth 20000 in
theorem ggX7_base_X7_adds : GoodIn wsX7_base wsX7_adds := goodIn_r _ [14, 15, 16, 17, 18, 19, 4, 20, 21, 22, 23, 24, 25, 26, 27, 28, 29, 30, 31, 32, 33, 34, 35, 36, 37, 38, 39, 40, 41, 42, 43, 44, 45, 46, 47, 48, 49, 50, 51, 52, 53, 54, 55, 56, 57, 58, 59, 60, 61, 62, 63, 64] (by decide +kernel) (by decide +kernel)
set_option maxRecDepth 20000 in
theorem gX7_base_X7_adds : GoodIn wsX7_base (wsV RX7 83 RX7 yX7_adds wsX7_adds) := goodIn_app (goodIn_of _ (by decide +kernel)) ggX7_base_X7_adds
theorem dX7_base_0 : decode cX7_base 0 = .ok (.iload_n 1, 1) := by decide +kernel
theorem dX7_base_1 : decode cX7_base 1 = .ok (.iload_n 2, 1) := by decide +kernel
theorem dX7_base_2 : decode cX7_base 2 = .ok (.iload_n 3, 1) := by decide +kernel
theorem dX7_base_3 : decode cX7_base 3 = .ok (.invokestatic 80, 3) := by decide +kernel
theorem dX7_base_6 : decode cX7_base 6 = .ok (.ifCond .eq 15, 3) := by decide +kernel
theorem dX7_base_9 : decode cX7_base 9 = .ok (.aload_n 0, 1) := by decide +kernel
theorem dX7_base_10 : decode cX7_base 10 = .ok (.iconst 0, 1) := by decide +kernel
theorem dX7_base_11 : decode cX7_base 11 = .ok (.iload_n 1, 1) := by decide +kernel
theorem dX7_base_12 : decode cX7_base 12 = .ok (.iload_n 2, 1) := by decide +kernel
theorem dX7_base_13 : decode cX7_base 13 = .ok (.iload_n 3, 1) := by decide +kernel
theorem dX7_base_14 : decode cX7_base 14 = .ok (.iconst 0, 1) := by decide +kernel
theorem dX7_base_15 : decode cX7_base 15 = .ok (.invokevirtual 83, 3) := by decide +kernel
theorem dX7_base_18 : decode cX7_base 18 = .ok (.goto 5, 3) := by decide +kernel
theorem dX7_base_21 : decode cX7_base 21 = .ok (.ldc 55, 2) := by decide +kernel
theorem dX7_base_23 : decode cX7_base 23 = .ok (.ireturn, 1) := by decide +kernel
set_option maxRecDepth 20000 in
theorem ggX7_read_X7_isCell : GoodIn wsX7_read wsX7_isCell := goodIn_r _ [5, 6, 7, 4, 8] (by decide +kernel) (by decide +kernel)
set_option maxRecDepth 20000 in
theorem gX7_read_X7_isCell : GoodIn wsX7_read (va_wsS RX7 86 yX7_isCell wsX7_isCell) := goodIn_app (goodIn_of _ (by decide +kernel)) ggX7_read_X7_isCell
set_option maxRecDepth 20000 in
theorem ggX7_read_X7_in : GoodIn wsX7_read wsX7_in := goodIn_r _ [8] (by decide +kernel) (by decide +kernel)
set_option maxRecDepth 20000 in
theorem gX7_read_X7_in : GoodIn wsX7_read (va_wsS RX7 39 yX7_in wsX7_in) := goodIn_app (goodIn_of _ (by decide +kernel)) ggX7_read_X7_in
set_option maxRecDepth 20000 in
theorem ggX7_read_X7_areValues : GoodIn wsX7_read wsX7_areValues := goodIn_r _ [11, 12, 13, 6, 7, 4, 8] (by decide +kernel) (by decide +kernel)
set_option maxRecDepth 20000 in
theorem gX7_read_X7_areValues : GoodIn wsX7_read (va_wsS RX7 80 yX7_areValues wsX7_areValues) := goodIn_app (goodIn_of _ (by decide +kernel)) ggX7_read_X7_areValues
set_option maxRecDepth 20000 in
theorem ggX7_read_X7_adds : GoodIn wsX7_read wsX7_adds := goodIn_r _ [17, 18, 19, 20, 21, 22, 4, 23, 24, 25, 26, 27, 28, 29, 30, 31, 32, 33, 34, 35, 36, 37, 38, 39, 40, 41, 42, 43, 44, 45, 46, 47, 48, 49, 50, 51, 52, 53, 54, 55, 56, 57, 58, 59, 60, 61, 62, 63, 64, 65, 66, 67] (by decide +kernel) (by decide +kernel)
set_option maxRecDepth 20000 in
theorem gX7_read_X7_adds : GoodIn wsX7_read (wsV RX7 83 RX7 yX7_adds wsX7_adds) := goodIn_app (goodIn_of _ (by decide +kernel)) ggX7_read_X7_adds
theorem dX7_read_0 : decode cX7_read 0 = .ok (.iload_n 1, 1) := by decide +kernel
theorem dX7_read_1 : decode cX7_read 1 = .ok (.invokestatic 86, 3) := by decide +kernel
theorem dX7_read_4 : decode cX7_read 4 = .ok (.ifCond .eq 24, 3) := by decide +kernel
theorem dX7_read_7 : decode cX7_read 7 = .ok (.iload_n 2, 1) := by decide +kernel
theorem dX7_read_8 : decode cX7_read 8 = .ok (.iconst 0, 1) := by decide +kernel
theorem dX7_read_9 : decode cX7_read 9 = .ok (.bipush 9, 2) := by decide +kernel
theorem dX7_read_11 : decode cX7_read 11 = .ok (.invokestatic 39, 3) := by decide +kernel
theorem dX7_read_14 : decode cX7_read 14 = .ok (.ifCond .eq 14, 3) := by decide +kernel
theorem dX7_read_17 : decode cX7_read 17 = .ok (.iload_n 3, 1) := by decide +kernel
theorem dX7_read_18 : decode cX7_read 18 = .ok (.iload 4, 2) := by decide +kernel
theorem dX7_read_20 : decode cX7_read 20 = .ok (.iload 5, 2) := by decide +kernel
theorem dX7_read_22 : decode cX7_read 22 = .ok (.invokestatic 80, 3) := by decide +kernel
theorem dX7_read_25 : decode cX7_read 25 = .ok (.ifCond .ne 6, 3) := by decide +kernel
theorem dX7_read_28 : decode cX7_read 28 = .ok (.ldc 55, 2) := by decide +kernel
theorem dX7_read_30 : decode cX7_read 30 = .ok (.ireturn, 1) := by decide +kernel
theorem dX7_read_31 : decode cX7_read 31 = .ok (.aload_n 0, 1) := by decide +kernel
theorem dX7_read_32 : decode cX7_read 32 = .ok (.iload_n 1, 1) := by decide +kernel
theorem dX7_read_33 : decode cX7_read 33 = .ok (.iconst 1, 1) := by decide +kernel
theorem dX7_read_34 : decode cX7_read 34 = .ok (.iadd, 1) := by decide +kernel
theorem dX7_read_35 : decode cX7_read 35 = .ok (.iload_n 3, 1) := by decide +kernel
theorem dX7_read_36 : decode cX7_read 36 = .ok (.iload 4, 2) := by decide +kernel
theorem dX7_read_38 : decode cX7_read 38 = .ok (.iload 5, 2) := by decide +kernel
theorem dX7_read_40 : decode cX7_read 40 = .ok (.iload_n 2, 1) := by decide +kernel
theorem dX7_read_41 : decode cX7_read 41 = .ok (.invokevirtual 83, 3) := by decide +kernel
theorem dX7_read_44 : decode cX7_read 44 = .ok (.ireturn, 1) := by decide +kernel
set_option maxRecDepth 20000 in
theorem ggX7_drop_X7_isReading : GoodIn wsX7_drop wsX7_isReading := goodIn_r _ [7, 2, 8, 9, 6, 10, 25, 26, 27, 28, 29, 30, 31, 32, 33, 34, 35, 36, 37, 38, 39, 40, 41, 42, 43, 44, 45] (by decide +kernel) (by decide +kernel)
set_option maxRecDepth 20000 in
theorem gX7_drop_X7_isReading : GoodIn wsX7_drop (wsV RX7 89 RX7 yX7_isReading wsX7_isReading) := goodIn_app (goodIn_of _ (by decide +kernel)) ggX7_drop_X7_isReading
set_option maxRecDepth 20000 in
theorem ggX7_drop_X7_records : GoodIn wsX7_drop wsX7_records := goodIn_r _ [14, 15, 16, 2, 25, 26, 27, 28, 29, 30, 31, 32, 33, 34, 35, 36, 37, 38, 39, 40, 41, 42, 43, 44, 45] (by decide +kernel) (by decide +kernel)
set_option maxRecDepth 20000 in
theorem gX7_drop_X7_records : GoodIn wsX7_drop (wsV RX7 56 RX7 yX7_records wsX7_records) := goodIn_app (goodIn_of _ (by decide +kernel)) ggX7_drop_X7_records
set_option maxRecDepth 20000 in
theorem ggX7_drop_X7_moves : GoodIn wsX7_drop wsX7_moves := goodIn_r _ [20, 2, 21, 22, 23, 6, 24, 25, 26, 27, 28, 29, 30, 31, 32, 33, 34, 35, 36, 37, 38, 39, 40, 41, 42, 43, 44, 45] (by decide +kernel) (by decide +kernel)
set_option maxRecDepth 20000 in
theorem gX7_drop_X7_moves : GoodIn wsX7_drop (wsV RX7 63 RX7 yX7_moves wsX7_moves) := goodIn_app (goodIn_of _ (by decide +kernel)) ggX7_drop_X7_moves
theorem dX7_drop_0 : decode cX7_drop 0 = .ok (.aload_n 0, 1) := by decide +kernel
theorem dX7_drop_1 : decode cX7_drop 1 = .ok (.iload_n 1, 1) := by decide +kernel
theorem dX7_drop_2 : decode cX7_drop 2 = .ok (.iload_n 2, 1) := by decide +kernel
theorem dX7_drop_3 : decode cX7_drop 3 = .ok (.invokevirtual 89, 3) := by decide +kernel
theorem dX7_drop_6 : decode cX7_drop 6 = .ok (.ifCond .ne 6, 3) := by decide +kernel
theorem dX7_drop_9 : decode cX7_drop 9 = .ok (.ldc 55, 2) := by decide +kernel
theorem dX7_drop_11 : decode cX7_drop 11 = .ok (.ireturn, 1) := by decide +kernel
theorem dX7_drop_12 : decode cX7_drop 12 = .ok (.aload_n 0, 1) := by decide +kernel
theorem dX7_drop_13 : decode cX7_drop 13 = .ok (.invokevirtual 56, 3) := by decide +kernel
theorem dX7_drop_16 : decode cX7_drop 16 = .ok (.iload_n 1, 1) := by decide +kernel
theorem dX7_drop_17 : decode cX7_drop 17 = .ok (.iconst 1, 1) := by decide +kernel
theorem dX7_drop_18 : decode cX7_drop 18 = .ok (.iadd, 1) := by decide +kernel
theorem dX7_drop_19 : decode cX7_drop 19 = .ok (.istore_n 3, 1) := by decide +kernel
theorem dX7_drop_20 : decode cX7_drop 20 = .ok (.aload_n 0, 1) := by decide +kernel
theorem dX7_drop_21 : decode cX7_drop 21 = .ok (.getfield 7, 3) := by decide +kernel
theorem dX7_drop_24 : decode cX7_drop 24 = .ok (.iconst 3, 1) := by decide +kernel
theorem dX7_drop_25 : decode cX7_drop 25 = .ok (.iload_n 3, 1) := by decide +kernel
theorem dX7_drop_26 : decode cX7_drop 26 = .ok (.iadd, 1) := by decide +kernel
theorem dX7_drop_27 : decode cX7_drop 27 = .ok (.dup2, 1) := by decide +kernel
theorem dX7_drop_28 : decode cX7_drop 28 = .ok (.iaload, 1) := by decide +kernel
theorem dX7_drop_29 : decode cX7_drop 29 = .ok (.iconst 1, 1) := by decide +kernel
theorem dX7_drop_30 : decode cX7_drop 30 = .ok (.isub, 1) := by decide +kernel
theorem dX7_drop_31 : decode cX7_drop 31 = .ok (.iastore, 1) := by decide +kernel
theorem dX7_drop_32 : decode cX7_drop 32 = .ok (.iload_n 2, 1) := by decide +kernel
theorem dX7_drop_33 : decode cX7_drop 33 = .ok (.istore 4, 2) := by decide +kernel
theorem dX7_drop_35 : decode cX7_drop 35 = .ok (.iload 4, 2) := by decide +kernel
theorem dX7_drop_37 : decode cX7_drop 37 = .ok (.aload_n 0, 1) := by decide +kernel
theorem dX7_drop_38 : decode cX7_drop 38 = .ok (.getfield 7, 3) := by decide +kernel
theorem dX7_drop_41 : decode cX7_drop 41 = .ok (.iconst 3, 1) := by decide +kernel
theorem dX7_drop_42 : decode cX7_drop 42 = .ok (.iload_n 3, 1) := by decide +kernel
theorem dX7_drop_43 : decode cX7_drop 43 = .ok (.iadd, 1) := by decide +kernel
theorem dX7_drop_44 : decode cX7_drop 44 = .ok (.iaload, 1) := by decide +kernel
theorem dX7_drop_45 : decode cX7_drop 45 = .ok (.if_icmp .ge 20, 3) := by decide +kernel
theorem dX7_drop_48 : decode cX7_drop 48 = .ok (.aload_n 0, 1) := by decide +kernel
theorem dX7_drop_49 : decode cX7_drop 49 = .ok (.iload_n 3, 1) := by decide +kernel
theorem dX7_drop_50 : decode cX7_drop 50 = .ok (.iload 4, 2) := by decide +kernel
theorem dX7_drop_52 : decode cX7_drop 52 = .ok (.iconst 1, 1) := by decide +kernel
theorem dX7_drop_53 : decode cX7_drop 53 = .ok (.iadd, 1) := by decide +kernel
theorem dX7_drop_54 : decode cX7_drop 54 = .ok (.iload 4, 2) := by decide +kernel
theorem dX7_drop_56 : decode cX7_drop 56 = .ok (.invokevirtual 63, 3) := by decide +kernel
theorem dX7_drop_59 : decode cX7_drop 59 = .ok (.iinc 4 1, 3) := by decide +kernel
theorem dX7_drop_62 : decode cX7_drop 62 = .ok (.goto (-27), 3) := by decide +kernel
theorem dX7_drop_65 : decode cX7_drop 65 = .ok (.aload_n 0, 1) := by decide +kernel
theorem dX7_drop_66 : decode cX7_drop 66 = .ok (.getfield 7, 3) := by decide +kernel
theorem dX7_drop_69 : decode cX7_drop 69 = .ok (.iconst 3, 1) := by decide +kernel
theorem dX7_drop_70 : decode cX7_drop 70 = .ok (.iload_n 3, 1) := by decide +kernel
theorem dX7_drop_71 : decode cX7_drop 71 = .ok (.iadd, 1) := by decide +kernel
theorem dX7_drop_72 : decode cX7_drop 72 = .ok (.iaload, 1) := by decide +kernel
theorem dX7_drop_73 : decode cX7_drop 73 = .ok (.ireturn, 1) := by decide +kernel
set_option maxRecDepth 20000 in
theorem ggX7_isGust_X7_of : GoodIn wsX7_isGust wsX7_of := goodIn_r _ [6, 1, 7, 8, 9, 10, 11, 12, 13, 14, 15, 16, 17, 18, 19, 20, 21, 22, 23, 24, 25, 26, 27] (by decide +kernel) (by decide +kernel)
set_option maxRecDepth 20000 in
theorem gX7_isGust_X7_of : GoodIn wsX7_isGust (wsV RX7 59 RX7 yX7_of wsX7_of) := goodIn_app (goodIn_of _ (by decide +kernel)) ggX7_isGust_X7_of
theorem dX7_isGust_0 : decode cX7_isGust 0 = .ok (.iload_n 2, 1) := by decide +kernel
theorem dX7_isGust_1 : decode cX7_isGust 1 = .ok (.ifCond .eq 17, 3) := by decide +kernel
theorem dX7_isGust_4 : decode cX7_isGust 4 = .ok (.iload_n 2, 1) := by decide +kernel
theorem dX7_isGust_5 : decode cX7_isGust 5 = .ok (.iconst 1, 1) := by decide +kernel
theorem dX7_isGust_6 : decode cX7_isGust 6 = .ok (.iadd, 1) := by decide +kernel
theorem dX7_isGust_7 : decode cX7_isGust 7 = .ok (.aload_n 0, 1) := by decide +kernel
theorem dX7_isGust_8 : decode cX7_isGust 8 = .ok (.getfield 7, 3) := by decide +kernel
theorem dX7_isGust_11 : decode cX7_isGust 11 = .ok (.iconst 3, 1) := by decide +kernel
theorem dX7_isGust_12 : decode cX7_isGust 12 = .ok (.iload_n 1, 1) := by decide +kernel
theorem dX7_isGust_13 : decode cX7_isGust 13 = .ok (.iadd, 1) := by decide +kernel
theorem dX7_isGust_14 : decode cX7_isGust 14 = .ok (.iaload, 1) := by decide +kernel
theorem dX7_isGust_15 : decode cX7_isGust 15 = .ok (.if_icmp .lt 5, 3) := by decide +kernel
theorem dX7_isGust_18 : decode cX7_isGust 18 = .ok (.iconst 0, 1) := by decide +kernel
theorem dX7_isGust_19 : decode cX7_isGust 19 = .ok (.ireturn, 1) := by decide +kernel
theorem dX7_isGust_20 : decode cX7_isGust 20 = .ok (.aload_n 0, 1) := by decide +kernel
theorem dX7_isGust_21 : decode cX7_isGust 21 = .ok (.iload_n 1, 1) := by decide +kernel
theorem dX7_isGust_22 : decode cX7_isGust 22 = .ok (.bipush 20, 2) := by decide +kernel
theorem dX7_isGust_24 : decode cX7_isGust 24 = .ok (.iload_n 2, 1) := by decide +kernel
theorem dX7_isGust_25 : decode cX7_isGust 25 = .ok (.invokevirtual 59, 3) := by decide +kernel
theorem dX7_isGust_28 : decode cX7_isGust 28 = .ok (.istore_n 3, 1) := by decide +kernel
theorem dX7_isGust_29 : decode cX7_isGust 29 = .ok (.iload_n 3, 1) := by decide +kernel
theorem dX7_isGust_30 : decode cX7_isGust 30 = .ok (.aload_n 0, 1) := by decide +kernel
theorem dX7_isGust_31 : decode cX7_isGust 31 = .ok (.iload_n 1, 1) := by decide +kernel
theorem dX7_isGust_32 : decode cX7_isGust 32 = .ok (.bipush 20, 2) := by decide +kernel
theorem dX7_isGust_34 : decode cX7_isGust 34 = .ok (.iload_n 2, 1) := by decide +kernel
theorem dX7_isGust_35 : decode cX7_isGust 35 = .ok (.iconst 1, 1) := by decide +kernel
theorem dX7_isGust_36 : decode cX7_isGust 36 = .ok (.isub, 1) := by decide +kernel
theorem dX7_isGust_37 : decode cX7_isGust 37 = .ok (.invokevirtual 59, 3) := by decide +kernel
theorem dX7_isGust_40 : decode cX7_isGust 40 = .ok (.isub, 1) := by decide +kernel
theorem dX7_isGust_41 : decode cX7_isGust 41 = .ok (.istore 4, 2) := by decide +kernel
theorem dX7_isGust_43 : decode cX7_isGust 43 = .ok (.iload_n 3, 1) := by decide +kernel
theorem dX7_isGust_44 : decode cX7_isGust 44 = .ok (.aload_n 0, 1) := by decide +kernel
theorem dX7_isGust_45 : decode cX7_isGust 45 = .ok (.iload_n 1, 1) := by decide +kernel
theorem dX7_isGust_46 : decode cX7_isGust 46 = .ok (.bipush 20, 2) := by decide +kernel
theorem dX7_isGust_48 : decode cX7_isGust 48 = .ok (.iload_n 2, 1) := by decide +kernel
theorem dX7_isGust_49 : decode cX7_isGust 49 = .ok (.iconst 1, 1) := by decide +kernel
theorem dX7_isGust_50 : decode cX7_isGust 50 = .ok (.iadd, 1) := by decide +kernel
theorem dX7_isGust_51 : decode cX7_isGust 51 = .ok (.invokevirtual 59, 3) := by decide +kernel
theorem dX7_isGust_54 : decode cX7_isGust 54 = .ok (.isub, 1) := by decide +kernel
theorem dX7_isGust_55 : decode cX7_isGust 55 = .ok (.istore 5, 2) := by decide +kernel
theorem dX7_isGust_57 : decode cX7_isGust 57 = .ok (.iload 4, 2) := by decide +kernel
theorem dX7_isGust_59 : decode cX7_isGust 59 = .ok (.aload_n 0, 1) := by decide +kernel
theorem dX7_isGust_60 : decode cX7_isGust 60 = .ok (.getfield 7, 3) := by decide +kernel
theorem dX7_isGust_63 : decode cX7_isGust 63 = .ok (.iconst 1, 1) := by decide +kernel
theorem dX7_isGust_64 : decode cX7_isGust 64 = .ok (.iaload, 1) := by decide +kernel
theorem dX7_isGust_65 : decode cX7_isGust 65 = .ok (.if_icmp .le 14, 3) := by decide +kernel
theorem dX7_isGust_68 : decode cX7_isGust 68 = .ok (.iload 5, 2) := by decide +kernel
theorem dX7_isGust_70 : decode cX7_isGust 70 = .ok (.aload_n 0, 1) := by decide +kernel
theorem dX7_isGust_71 : decode cX7_isGust 71 = .ok (.getfield 7, 3) := by decide +kernel
theorem dX7_isGust_74 : decode cX7_isGust 74 = .ok (.iconst 1, 1) := by decide +kernel
theorem dX7_isGust_75 : decode cX7_isGust 75 = .ok (.iaload, 1) := by decide +kernel
theorem dX7_isGust_76 : decode cX7_isGust 76 = .ok (.if_icmp .gt 27, 3) := by decide +kernel
theorem dX7_isGust_79 : decode cX7_isGust 79 = .ok (.iload 4, 2) := by decide +kernel
theorem dX7_isGust_81 : decode cX7_isGust 81 = .ok (.aload_n 0, 1) := by decide +kernel
theorem dX7_isGust_82 : decode cX7_isGust 82 = .ok (.getfield 7, 3) := by decide +kernel
theorem dX7_isGust_85 : decode cX7_isGust 85 = .ok (.iconst 1, 1) := by decide +kernel
theorem dX7_isGust_86 : decode cX7_isGust 86 = .ok (.iaload, 1) := by decide +kernel
theorem dX7_isGust_87 : decode cX7_isGust 87 = .ok (.ineg, 1) := by decide +kernel
theorem dX7_isGust_88 : decode cX7_isGust 88 = .ok (.if_icmp .ge 19, 3) := by decide +kernel
theorem dX7_isGust_91 : decode cX7_isGust 91 = .ok (.iload 5, 2) := by decide +kernel
theorem dX7_isGust_93 : decode cX7_isGust 93 = .ok (.aload_n 0, 1) := by decide +kernel
theorem dX7_isGust_94 : decode cX7_isGust 94 = .ok (.getfield 7, 3) := by decide +kernel
theorem dX7_isGust_97 : decode cX7_isGust 97 = .ok (.iconst 1, 1) := by decide +kernel
theorem dX7_isGust_98 : decode cX7_isGust 98 = .ok (.iaload, 1) := by decide +kernel
theorem dX7_isGust_99 : decode cX7_isGust 99 = .ok (.ineg, 1) := by decide +kernel
theorem dX7_isGust_100 : decode cX7_isGust 100 = .ok (.if_icmp .ge 7, 3) := by decide +kernel
theorem dX7_isGust_103 : decode cX7_isGust 103 = .ok (.iconst 1, 1) := by decide +kernel
theorem dX7_isGust_104 : decode cX7_isGust 104 = .ok (.goto 4, 3) := by decide +kernel
theorem dX7_isGust_107 : decode cX7_isGust 107 = .ok (.iconst 0, 1) := by decide +kernel
theorem dX7_isGust_108 : decode cX7_isGust 108 = .ok (.ireturn, 1) := by decide +kernel
set_option maxRecDepth 20000 in
theorem ggX7_reading_X7_isReading : GoodIn wsX7_reading wsX7_isReading := goodIn_r _ [8, 9, 10, 11, 7, 12, 48, 49, 50, 51, 52, 53, 54, 55, 56, 57, 58, 59, 60, 61, 62, 63, 64, 65, 66, 67, 68] (by decide +kernel) (by decide +kernel)
set_option maxRecDepth 20000 in
theorem gX7_reading_X7_isReading : GoodIn wsX7_reading (wsV RX7 89 RX7 yX7_isReading wsX7_isReading) := goodIn_app (goodIn_of _ (by decide +kernel)) ggX7_reading_X7_isReading
set_option maxRecDepth 20000 in
theorem ggX7_reading_X7_in : GoodIn wsX7_reading wsX7_in := goodIn_r _ [12] (by decide +kernel) (by decide +kernel)
set_option maxRecDepth 20000 in
theorem gX7_reading_X7_in : GoodIn wsX7_reading (va_wsS RX7 39 yX7_in wsX7_in) := goodIn_app (goodIn_of _ (by decide +kernel)) ggX7_reading_X7_in
set_option maxRecDepth 20000 in
theorem ggX7_reading_X7_isGust : GoodIn wsX7_reading wsX7_isGust := goodIn_r _ [16, 9, 17, 18, 19, 7, 20, 48, 49, 50, 51, 52, 53, 54, 55, 56, 57, 58, 59, 60, 61, 62, 63, 64, 65, 66, 67, 68] (by decide +kernel) (by decide +kernel)
set_option maxRecDepth 20000 in
theorem gX7_reading_X7_isGust : GoodIn wsX7_reading (wsV RX7 93 RX7 yX7_isGust wsX7_isGust) := goodIn_app (goodIn_of _ (by decide +kernel)) ggX7_reading_X7_isGust
set_option maxRecDepth 20000 in
theorem ggX7_reading_X7_looks : GoodIn wsX7_reading wsX7_looks := goodIn_r _ [24, 25, 9, 3, 26, 27, 28, 13, 14, 15, 7, 16, 17, 18, 19, 20, 29, 30, 31, 32, 33, 34, 35, 36, 37, 38, 39, 40, 41, 42, 43, 44, 45, 46, 47, 48, 49, 50, 51, 52, 53, 54, 55, 56, 57, 58, 59, 60, 61, 62, 63, 64, 65, 66, 67, 68] (by decide +kernel) (by decide +kernel)
set_option maxRecDepth 20000 in
theorem gX7_reading_X7_looks : GoodIn wsX7_reading (wsV RX7 96 RX7 yX7_looks wsX7_looks) := goodIn_app (goodIn_of _ (by decide +kernel)) ggX7_reading_X7_looks
set_option maxRecDepth 20000 in
theorem ggX7_reading_X7_of : GoodIn wsX7_reading wsX7_of := goodIn_r _ [20, 9, 48, 49, 50, 51, 52, 53, 54, 55, 56, 57, 58, 59, 60, 61, 62, 63, 64, 65, 66, 67, 68] (by decide +kernel) (by decide +kernel)
set_option maxRecDepth 20000 in
theorem gX7_reading_X7_of : GoodIn wsX7_reading (wsV RX7 59 RX7 yX7_of wsX7_of) := goodIn_app (goodIn_of _ (by decide +kernel)) ggX7_reading_X7_of
theorem dX7_reading_0 : decode cX7_reading 0 = .ok (.aload_n 0, 1) := by decide +kernel
theorem dX7_reading_1 : decode cX7_reading 1 = .ok (.iload_n 1, 1) := by decide +kernel
theorem dX7_reading_2 : decode cX7_reading 2 = .ok (.iload_n 2, 1) := by decide +kernel
theorem dX7_reading_3 : decode cX7_reading 3 = .ok (.invokevirtual 89, 3) := by decide +kernel
theorem dX7_reading_6 : decode cX7_reading 6 = .ok (.ifCond .eq 12, 3) := by decide +kernel
theorem dX7_reading_9 : decode cX7_reading 9 = .ok (.iload_n 3, 1) := by decide +kernel
theorem dX7_reading_10 : decode cX7_reading 10 = .ok (.iconst 0, 1) := by decide +kernel
theorem dX7_reading_11 : decode cX7_reading 11 = .ok (.iconst 5, 1) := by decide +kernel
theorem dX7_reading_12 : decode cX7_reading 12 = .ok (.invokestatic 39, 3) := by decide +kernel
theorem dX7_reading_15 : decode cX7_reading 15 = .ok (.ifCond .ne 6, 3) := by decide +kernel
theorem dX7_reading_18 : decode cX7_reading 18 = .ok (.ldc 55, 2) := by decide +kernel
theorem dX7_reading_20 : decode cX7_reading 20 = .ok (.ireturn, 1) := by decide +kernel
theorem dX7_reading_21 : decode cX7_reading 21 = .ok (.iload_n 1, 1) := by decide +kernel
theorem dX7_reading_22 : decode cX7_reading 22 = .ok (.iconst 1, 1) := by decide +kernel
theorem dX7_reading_23 : decode cX7_reading 23 = .ok (.iadd, 1) := by decide +kernel
theorem dX7_reading_24 : decode cX7_reading 24 = .ok (.istore 4, 2) := by decide +kernel
theorem dX7_reading_26 : decode cX7_reading 26 = .ok (.iload 4, 2) := by decide +kernel
theorem dX7_reading_28 : decode cX7_reading 28 = .ok (.ifCond .ne 11, 3) := by decide +kernel
theorem dX7_reading_31 : decode cX7_reading 31 = .ok (.iload_n 3, 1) := by decide +kernel
theorem dX7_reading_32 : decode cX7_reading 32 = .ok (.iconst 2, 1) := by decide +kernel
theorem dX7_reading_33 : decode cX7_reading 33 = .ok (.if_icmp .le 6, 3) := by decide +kernel
theorem dX7_reading_36 : decode cX7_reading 36 = .ok (.ldc 92, 2) := by decide +kernel
theorem dX7_reading_38 : decode cX7_reading 38 = .ok (.ireturn, 1) := by decide +kernel
theorem dX7_reading_39 : decode cX7_reading 39 = .ok (.iload_n 3, 1) := by decide +kernel
theorem dX7_reading_40 : decode cX7_reading 40 = .ok (.iconst 4, 1) := by decide +kernel
theorem dX7_reading_41 : decode cX7_reading 41 = .ok (.if_icmp .ne 19, 3) := by decide +kernel
theorem dX7_reading_44 : decode cX7_reading 44 = .ok (.aload_n 0, 1) := by decide +kernel
theorem dX7_reading_45 : decode cX7_reading 45 = .ok (.iload 4, 2) := by decide +kernel
theorem dX7_reading_47 : decode cX7_reading 47 = .ok (.iload_n 2, 1) := by decide +kernel
theorem dX7_reading_48 : decode cX7_reading 48 = .ok (.invokevirtual 93, 3) := by decide +kernel
theorem dX7_reading_51 : decode cX7_reading 51 = .ok (.ifCond .eq 7, 3) := by decide +kernel
theorem dX7_reading_54 : decode cX7_reading 54 = .ok (.iconst 1, 1) := by decide +kernel
theorem dX7_reading_55 : decode cX7_reading 55 = .ok (.goto 4, 3) := by decide +kernel
theorem dX7_reading_58 : decode cX7_reading 58 = .ok (.iconst 0, 1) := by decide +kernel
theorem dX7_reading_59 : decode cX7_reading 59 = .ok (.ireturn, 1) := by decide +kernel
theorem dX7_reading_60 : decode cX7_reading 60 = .ok (.iload_n 3, 1) := by decide +kernel
theorem dX7_reading_61 : decode cX7_reading 61 = .ok (.iconst 5, 1) := by decide +kernel
theorem dX7_reading_62 : decode cX7_reading 62 = .ok (.if_icmp .ne 24, 3) := by decide +kernel
theorem dX7_reading_65 : decode cX7_reading 65 = .ok (.aload_n 0, 1) := by decide +kernel
theorem dX7_reading_66 : decode cX7_reading 66 = .ok (.iload 4, 2) := by decide +kernel
theorem dX7_reading_68 : decode cX7_reading 68 = .ok (.invokevirtual 96, 3) := by decide +kernel
theorem dX7_reading_71 : decode cX7_reading 71 = .ok (.aload_n 0, 1) := by decide +kernel
theorem dX7_reading_72 : decode cX7_reading 72 = .ok (.getfield 29, 3) := by decide +kernel
theorem dX7_reading_75 : decode cX7_reading 75 = .ok (.iload_n 2, 1) := by decide +kernel
theorem dX7_reading_76 : decode cX7_reading 76 = .ok (.baload, 1) := by decide +kernel
theorem dX7_reading_77 : decode cX7_reading 77 = .ok (.ifCond .eq 7, 3) := by decide +kernel
theorem dX7_reading_80 : decode cX7_reading 80 = .ok (.iconst 1, 1) := by decide +kernel
theorem dX7_reading_81 : decode cX7_reading 81 = .ok (.goto 4, 3) := by decide +kernel
theorem dX7_reading_84 : decode cX7_reading 84 = .ok (.iconst 0, 1) := by decide +kernel
theorem dX7_reading_85 : decode cX7_reading 85 = .ok (.ireturn, 1) := by decide +kernel
theorem dX7_reading_86 : decode cX7_reading 86 = .ok (.aload_n 0, 1) := by decide +kernel
theorem dX7_reading_87 : decode cX7_reading 87 = .ok (.iload 4, 2) := by decide +kernel
theorem dX7_reading_89 : decode cX7_reading 89 = .ok (.bipush 20, 2) := by decide +kernel
theorem dX7_reading_91 : decode cX7_reading 91 = .ok (.iload_n 3, 1) := by decide +kernel
theorem dX7_reading_92 : decode cX7_reading 92 = .ok (.imul, 1) := by decide +kernel
theorem dX7_reading_93 : decode cX7_reading 93 = .ok (.iload_n 2, 1) := by decide +kernel
theorem dX7_reading_94 : decode cX7_reading 94 = .ok (.invokevirtual 59, 3) := by decide +kernel
theorem dX7_reading_97 : decode cX7_reading 97 = .ok (.ireturn, 1) := by decide +kernel
set_option maxRecDepth 20000 in
theorem ggX7_stepsTo_X7_of : GoodIn wsX7_stepsTo wsX7_of := goodIn_r _ [6, 1, 7, 8, 9, 10, 11, 12, 13, 14, 15, 16, 17, 18, 19, 20, 21, 22, 23, 24, 25, 26, 27] (by decide +kernel) (by decide +kernel)
set_option maxRecDepth 20000 in
theorem gX7_stepsTo_X7_of : GoodIn wsX7_stepsTo (wsV RX7 59 RX7 yX7_of wsX7_of) := goodIn_app (goodIn_of _ (by decide +kernel)) ggX7_stepsTo_X7_of
theorem dX7_stepsTo_0 : decode cX7_stepsTo 0 = .ok (.iload_n 1, 1) := by decide +kernel
theorem dX7_stepsTo_1 : decode cX7_stepsTo 1 = .ok (.istore_n 2, 1) := by decide +kernel
theorem dX7_stepsTo_2 : decode cX7_stepsTo 2 = .ok (.iconst 1, 1) := by decide +kernel
theorem dX7_stepsTo_3 : decode cX7_stepsTo 3 = .ok (.istore_n 3, 1) := by decide +kernel
theorem dX7_stepsTo_4 : decode cX7_stepsTo 4 = .ok (.iload_n 3, 1) := by decide +kernel
theorem dX7_stepsTo_5 : decode cX7_stepsTo 5 = .ok (.aload_n 0, 1) := by decide +kernel
theorem dX7_stepsTo_6 : decode cX7_stepsTo 6 = .ok (.getfield 7, 3) := by decide +kernel
theorem dX7_stepsTo_9 : decode cX7_stepsTo 9 = .ok (.iconst 3, 1) := by decide +kernel
theorem dX7_stepsTo_10 : decode cX7_stepsTo 10 = .ok (.iaload, 1) := by decide +kernel
theorem dX7_stepsTo_11 : decode cX7_stepsTo 11 = .ok (.if_icmp .ge 62, 3) := by decide +kernel
theorem dX7_stepsTo_14 : decode cX7_stepsTo 14 = .ok (.aload_n 0, 1) := by decide +kernel
theorem dX7_stepsTo_15 : decode cX7_stepsTo 15 = .ok (.iconst 0, 1) := by decide +kernel
theorem dX7_stepsTo_16 : decode cX7_stepsTo 16 = .ok (.bipush 40, 2) := by decide +kernel
theorem dX7_stepsTo_18 : decode cX7_stepsTo 18 = .ok (.iload_n 3, 1) := by decide +kernel
theorem dX7_stepsTo_19 : decode cX7_stepsTo 19 = .ok (.invokevirtual 59, 3) := by decide +kernel
theorem dX7_stepsTo_22 : decode cX7_stepsTo 22 = .ok (.aload_n 0, 1) := by decide +kernel
theorem dX7_stepsTo_23 : decode cX7_stepsTo 23 = .ok (.iconst 0, 1) := by decide +kernel
theorem dX7_stepsTo_24 : decode cX7_stepsTo 24 = .ok (.bipush 40, 2) := by decide +kernel
theorem dX7_stepsTo_26 : decode cX7_stepsTo 26 = .ok (.iload_n 3, 1) := by decide +kernel
theorem dX7_stepsTo_27 : decode cX7_stepsTo 27 = .ok (.iconst 1, 1) := by decide +kernel
theorem dX7_stepsTo_28 : decode cX7_stepsTo 28 = .ok (.isub, 1) := by decide +kernel
theorem dX7_stepsTo_29 : decode cX7_stepsTo 29 = .ok (.invokevirtual 59, 3) := by decide +kernel
theorem dX7_stepsTo_32 : decode cX7_stepsTo 32 = .ok (.isub, 1) := by decide +kernel
theorem dX7_stepsTo_33 : decode cX7_stepsTo 33 = .ok (.istore 4, 2) := by decide +kernel
theorem dX7_stepsTo_35 : decode cX7_stepsTo 35 = .ok (.iload 4, 2) := by decide +kernel
theorem dX7_stepsTo_37 : decode cX7_stepsTo 37 = .ok (.aload_n 0, 1) := by decide +kernel
theorem dX7_stepsTo_38 : decode cX7_stepsTo 38 = .ok (.getfield 7, 3) := by decide +kernel
theorem dX7_stepsTo_41 : decode cX7_stepsTo 41 = .ok (.iconst 2, 1) := by decide +kernel
theorem dX7_stepsTo_42 : decode cX7_stepsTo 42 = .ok (.iaload, 1) := by decide +kernel
theorem dX7_stepsTo_43 : decode cX7_stepsTo 43 = .ok (.if_icmp .ge 15, 3) := by decide +kernel
theorem dX7_stepsTo_46 : decode cX7_stepsTo 46 = .ok (.iload 4, 2) := by decide +kernel
theorem dX7_stepsTo_48 : decode cX7_stepsTo 48 = .ok (.aload_n 0, 1) := by decide +kernel
theorem dX7_stepsTo_49 : decode cX7_stepsTo 49 = .ok (.getfield 7, 3) := by decide +kernel
theorem dX7_stepsTo_52 : decode cX7_stepsTo 52 = .ok (.iconst 2, 1) := by decide +kernel
theorem dX7_stepsTo_53 : decode cX7_stepsTo 53 = .ok (.iaload, 1) := by decide +kernel
theorem dX7_stepsTo_54 : decode cX7_stepsTo 54 = .ok (.ineg, 1) := by decide +kernel
theorem dX7_stepsTo_55 : decode cX7_stepsTo 55 = .ok (.if_icmp .gt 12, 3) := by decide +kernel
theorem dX7_stepsTo_58 : decode cX7_stepsTo 58 = .ok (.iload_n 2, 1) := by decide +kernel
theorem dX7_stepsTo_59 : decode cX7_stepsTo 59 = .ok (.ifCond .ne 5, 3) := by decide +kernel
theorem dX7_stepsTo_62 : decode cX7_stepsTo 62 = .ok (.iload_n 3, 1) := by decide +kernel
theorem dX7_stepsTo_63 : decode cX7_stepsTo 63 = .ok (.ireturn, 1) := by decide +kernel
theorem dX7_stepsTo_64 : decode cX7_stepsTo 64 = .ok (.iinc 2 (-1), 3) := by decide +kernel
theorem dX7_stepsTo_67 : decode cX7_stepsTo 67 = .ok (.iinc 3 1, 3) := by decide +kernel
theorem dX7_stepsTo_70 : decode cX7_stepsTo 70 = .ok (.goto (-66), 3) := by decide +kernel
theorem dX7_stepsTo_73 : decode cX7_stepsTo 73 = .ok (.iconst (-1), 1) := by decide +kernel
theorem dX7_stepsTo_74 : decode cX7_stepsTo 74 = .ok (.ireturn, 1) := by decide +kernel
set_option maxRecDepth 20000 in
theorem ggX7_steps_X7_stepsTo : GoodIn wsX7_steps wsX7_stepsTo := goodIn_r _ [5, 6, 7, 8, 9, 4, 10, 11, 12, 13, 14, 15, 16, 17, 18, 19, 20, 21, 22, 23, 24, 25, 26, 27, 28, 29, 30, 31] (by decide +kernel) (by decide +kernel)
set_option maxRecDepth 20000 in
theorem gX7_steps_X7_stepsTo : GoodIn wsX7_steps (wsV RX7 100 RX7 yX7_stepsTo wsX7_stepsTo) := goodIn_app (goodIn_of _ (by decide +kernel)) ggX7_steps_X7_stepsTo
theorem dX7_steps_0 : decode cX7_steps 0 = .ok (.iconst 0, 1) := by decide +kernel
theorem dX7_steps_1 : decode cX7_steps 1 = .ok (.istore_n 1, 1) := by decide +kernel
theorem dX7_steps_2 : decode cX7_steps 2 = .ok (.aload_n 0, 1) := by decide +kernel
theorem dX7_steps_3 : decode cX7_steps 3 = .ok (.iload_n 1, 1) := by decide +kernel
theorem dX7_steps_4 : decode cX7_steps 4 = .ok (.invokevirtual 100, 3) := by decide +kernel
theorem dX7_steps_7 : decode cX7_steps 7 = .ok (.iconst (-1), 1) := by decide +kernel
theorem dX7_steps_8 : decode cX7_steps 8 = .ok (.if_icmp .eq 9, 3) := by decide +kernel
theorem dX7_steps_11 : decode cX7_steps 11 = .ok (.iinc 1 1, 3) := by decide +kernel
theorem dX7_steps_14 : decode cX7_steps 14 = .ok (.goto (-12), 3) := by decide +kernel
theorem dX7_steps_17 : decode cX7_steps 17 = .ok (.iload_n 1, 1) := by decide +kernel
theorem dX7_steps_18 : decode cX7_steps 18 = .ok (.ireturn, 1) := by decide +kernel
set_option maxRecDepth 20000 in
theorem ggX7_inAll_X7_looks : GoodIn wsX7_inAll wsX7_looks := goodIn_r _ [8, 1, 2, 3, 9, 10, 11, 12, 13, 14, 7, 15, 16, 17, 18, 19, 20, 21, 22, 23, 24, 25, 26, 27, 28, 29, 30, 31, 32, 33, 34, 35, 36, 37, 38, 39, 40, 41, 42, 43, 44, 45, 46, 47, 48, 49, 50, 51, 52, 53, 54, 55, 56, 57, 58, 59] (by decide +kernel) (by decide +kernel)
set_option maxRecDepth 20000 in
theorem gX7_inAll_X7_looks : GoodIn wsX7_inAll (wsV RX7 96 RX7 yX7_looks wsX7_looks) := goodIn_app (goodIn_of _ (by decide +kernel)) ggX7_inAll_X7_looks
set_option maxRecDepth 20000 in
theorem ggX7_inAll_X7_isGust : GoodIn wsX7_inAll wsX7_isGust := goodIn_r _ [15, 2, 16, 17, 18, 7, 19, 39, 40, 41, 42, 43, 44, 45, 46, 47, 48, 49, 50, 51, 52, 53, 54, 55, 56, 57, 58, 59] (by decide +kernel) (by decide +kernel)
set_option maxRecDepth 20000 in
theorem gX7_inAll_X7_isGust : GoodIn wsX7_inAll (wsV RX7 93 RX7 yX7_isGust wsX7_isGust) := goodIn_app (goodIn_of _ (by decide +kernel)) ggX7_inAll_X7_isGust
theorem dX7_inAll_0 : decode cX7_inAll 0 = .ok (.iconst 0, 1) := by decide +kernel
theorem dX7_inAll_1 : decode cX7_inAll 1 = .ok (.istore_n 2, 1) := by decide +kernel
theorem dX7_inAll_2 : decode cX7_inAll 2 = .ok (.iconst 1, 1) := by decide +kernel
theorem dX7_inAll_3 : decode cX7_inAll 3 = .ok (.istore_n 3, 1) := by decide +kernel
theorem dX7_inAll_4 : decode cX7_inAll 4 = .ok (.iload_n 3, 1) := by decide +kernel
theorem dX7_inAll_5 : decode cX7_inAll 5 = .ok (.iconst 4, 1) := by decide +kernel
theorem dX7_inAll_6 : decode cX7_inAll 6 = .ok (.if_icmp .ge 89, 3) := by decide +kernel
theorem dX7_inAll_9 : decode cX7_inAll 9 = .ok (.aload_n 0, 1) := by decide +kernel
theorem dX7_inAll_10 : decode cX7_inAll 10 = .ok (.iload_n 3, 1) := by decide +kernel
theorem dX7_inAll_11 : decode cX7_inAll 11 = .ok (.invokevirtual 96, 3) := by decide +kernel
theorem dX7_inAll_14 : decode cX7_inAll 14 = .ok (.iload_n 2, 1) := by decide +kernel
theorem dX7_inAll_15 : decode cX7_inAll 15 = .ok (.iload_n 1, 1) := by decide +kernel
theorem dX7_inAll_16 : decode cX7_inAll 16 = .ok (.iconst 1, 1) := by decide +kernel
theorem dX7_inAll_17 : decode cX7_inAll 17 = .ok (.if_icmp .ne 10, 3) := by decide +kernel
theorem dX7_inAll_20 : decode cX7_inAll 20 = .ok (.aload_n 0, 1) := by decide +kernel
theorem dX7_inAll_21 : decode cX7_inAll 21 = .ok (.getfield 104, 3) := by decide +kernel
theorem dX7_inAll_24 : decode cX7_inAll 24 = .ok (.goto 4, 3) := by decide +kernel
theorem dX7_inAll_27 : decode cX7_inAll 27 = .ok (.iconst 0, 1) := by decide +kernel
theorem dX7_inAll_28 : decode cX7_inAll 28 = .ok (.iadd, 1) := by decide +kernel
theorem dX7_inAll_29 : decode cX7_inAll 29 = .ok (.istore_n 2, 1) := by decide +kernel
theorem dX7_inAll_30 : decode cX7_inAll 30 = .ok (.iconst 0, 1) := by decide +kernel
theorem dX7_inAll_31 : decode cX7_inAll 31 = .ok (.istore 4, 2) := by decide +kernel
theorem dX7_inAll_33 : decode cX7_inAll 33 = .ok (.iload 4, 2) := by decide +kernel
theorem dX7_inAll_35 : decode cX7_inAll 35 = .ok (.aload_n 0, 1) := by decide +kernel
theorem dX7_inAll_36 : decode cX7_inAll 36 = .ok (.getfield 7, 3) := by decide +kernel
theorem dX7_inAll_39 : decode cX7_inAll 39 = .ok (.iconst 3, 1) := by decide +kernel
theorem dX7_inAll_40 : decode cX7_inAll 40 = .ok (.iload_n 3, 1) := by decide +kernel
theorem dX7_inAll_41 : decode cX7_inAll 41 = .ok (.iadd, 1) := by decide +kernel
theorem dX7_inAll_42 : decode cX7_inAll 42 = .ok (.iaload, 1) := by decide +kernel
theorem dX7_inAll_43 : decode cX7_inAll 43 = .ok (.if_icmp .ge 46, 3) := by decide +kernel
theorem dX7_inAll_46 : decode cX7_inAll 46 = .ok (.iload_n 2, 1) := by decide +kernel
theorem dX7_inAll_47 : decode cX7_inAll 47 = .ok (.iload_n 1, 1) := by decide +kernel
theorem dX7_inAll_48 : decode cX7_inAll 48 = .ok (.ifCond .ne 13, 3) := by decide +kernel
theorem dX7_inAll_51 : decode cX7_inAll 51 = .ok (.aload_n 0, 1) := by decide +kernel
theorem dX7_inAll_52 : decode cX7_inAll 52 = .ok (.iload_n 3, 1) := by decide +kernel
theorem dX7_inAll_53 : decode cX7_inAll 53 = .ok (.iload 4, 2) := by decide +kernel
theorem dX7_inAll_55 : decode cX7_inAll 55 = .ok (.invokevirtual 93, 3) := by decide +kernel
theorem dX7_inAll_58 : decode cX7_inAll 58 = .ok (.ifCond .ne 18, 3) := by decide +kernel
theorem dX7_inAll_61 : decode cX7_inAll 61 = .ok (.iload_n 1, 1) := by decide +kernel
theorem dX7_inAll_62 : decode cX7_inAll 62 = .ok (.iconst 2, 1) := by decide +kernel
theorem dX7_inAll_63 : decode cX7_inAll 63 = .ok (.if_icmp .ne 17, 3) := by decide +kernel
theorem dX7_inAll_66 : decode cX7_inAll 66 = .ok (.aload_n 0, 1) := by decide +kernel
theorem dX7_inAll_67 : decode cX7_inAll 67 = .ok (.getfield 29, 3) := by decide +kernel
theorem dX7_inAll_70 : decode cX7_inAll 70 = .ok (.iload 4, 2) := by decide +kernel
theorem dX7_inAll_72 : decode cX7_inAll 72 = .ok (.baload, 1) := by decide +kernel
theorem dX7_inAll_73 : decode cX7_inAll 73 = .ok (.ifCond .eq 7, 3) := by decide +kernel
theorem dX7_inAll_76 : decode cX7_inAll 76 = .ok (.iconst 1, 1) := by decide +kernel
theorem dX7_inAll_77 : decode cX7_inAll 77 = .ok (.goto 4, 3) := by decide +kernel
theorem dX7_inAll_80 : decode cX7_inAll 80 = .ok (.iconst 0, 1) := by decide +kernel
theorem dX7_inAll_81 : decode cX7_inAll 81 = .ok (.iadd, 1) := by decide +kernel
theorem dX7_inAll_82 : decode cX7_inAll 82 = .ok (.istore_n 2, 1) := by decide +kernel
theorem dX7_inAll_83 : decode cX7_inAll 83 = .ok (.iinc 4 1, 3) := by decide +kernel
theorem dX7_inAll_86 : decode cX7_inAll 86 = .ok (.goto (-53), 3) := by decide +kernel
theorem dX7_inAll_89 : decode cX7_inAll 89 = .ok (.iinc 3 1, 3) := by decide +kernel
theorem dX7_inAll_92 : decode cX7_inAll 92 = .ok (.goto (-88), 3) := by decide +kernel
theorem dX7_inAll_95 : decode cX7_inAll 95 = .ok (.iload_n 2, 1) := by decide +kernel
theorem dX7_inAll_96 : decode cX7_inAll 96 = .ok (.ireturn, 1) := by decide +kernel
set_option maxRecDepth 20000 in
theorem ggX7_heights_X7_gives : GoodIn wsX7_heights wsX7_gives := goodIn_r _ [6, 7, 1, 8, 9, 10, 11, 12, 13, 14, 15, 5, 16, 17, 18, 19, 20, 21, 22, 23, 24, 25, 26, 27, 28, 29, 30, 31, 32, 33, 34, 35, 36, 37, 38, 39, 40, 41, 42, 43, 44, 45, 46, 47, 48, 49, 50, 51, 52, 53, 54, 55, 56, 57, 58, 59, 60, 61, 62, 63, 64, 65, 66, 67, 68, 69, 70, 71, 72, 73, 74, 75, 76, 77, 78, 79] (by decide +kernel) (by decide +kernel)
set_option maxRecDepth 20000 in
theorem gX7_heights_X7_gives : GoodIn wsX7_heights (wsV RX7 107 RX7 yX7_gives wsX7_gives) := goodIn_app (goodIn_of _ (by decide +kernel)) ggX7_heights_X7_gives
theorem dX7_heights_0 : decode cX7_heights 0 = .ok (.iconst 0, 1) := by decide +kernel
theorem dX7_heights_1 : decode cX7_heights 1 = .ok (.istore_n 1, 1) := by decide +kernel
theorem dX7_heights_2 : decode cX7_heights 2 = .ok (.iconst 0, 1) := by decide +kernel
theorem dX7_heights_3 : decode cX7_heights 3 = .ok (.istore_n 2, 1) := by decide +kernel
theorem dX7_heights_4 : decode cX7_heights 4 = .ok (.iload_n 2, 1) := by decide +kernel
theorem dX7_heights_5 : decode cX7_heights 5 = .ok (.bipush 10, 2) := by decide +kernel
theorem dX7_heights_7 : decode cX7_heights 7 = .ok (.if_icmp .ge 29, 3) := by decide +kernel
theorem dX7_heights_10 : decode cX7_heights 10 = .ok (.aload_n 0, 1) := by decide +kernel
theorem dX7_heights_11 : decode cX7_heights 11 = .ok (.iload_n 2, 1) := by decide +kernel
theorem dX7_heights_12 : decode cX7_heights 12 = .ok (.invokevirtual 107, 3) := by decide +kernel
theorem dX7_heights_15 : decode cX7_heights 15 = .ok (.iload_n 1, 1) := by decide +kernel
theorem dX7_heights_16 : decode cX7_heights 16 = .ok (.aload_n 0, 1) := by decide +kernel
theorem dX7_heights_17 : decode cX7_heights 17 = .ok (.getfield 110, 3) := by decide +kernel
theorem dX7_heights_20 : decode cX7_heights 20 = .ok (.ifCond .le 7, 3) := by decide +kernel
theorem dX7_heights_23 : decode cX7_heights 23 = .ok (.iconst 1, 1) := by decide +kernel
theorem dX7_heights_24 : decode cX7_heights 24 = .ok (.goto 4, 3) := by decide +kernel
theorem dX7_heights_27 : decode cX7_heights 27 = .ok (.iconst 0, 1) := by decide +kernel
theorem dX7_heights_28 : decode cX7_heights 28 = .ok (.iadd, 1) := by decide +kernel
theorem dX7_heights_29 : decode cX7_heights 29 = .ok (.istore_n 1, 1) := by decide +kernel
theorem dX7_heights_30 : decode cX7_heights 30 = .ok (.iinc 2 1, 3) := by decide +kernel
theorem dX7_heights_33 : decode cX7_heights 33 = .ok (.goto (-29), 3) := by decide +kernel
theorem dX7_heights_36 : decode cX7_heights 36 = .ok (.iload_n 1, 1) := by decide +kernel
theorem dX7_heights_37 : decode cX7_heights 37 = .ok (.ireturn, 1) := by decide +kernel
set_option maxRecDepth 20000 in
theorem ggX7_count_X7_inAll : GoodIn wsX7_count wsX7_inAll := goodIn_r _ [9, 10, 1, 11, 12, 13, 14, 8, 15, 16, 17, 18, 19, 20, 21, 22, 23, 24, 25, 26, 27, 28, 29, 30, 31, 32, 33, 34, 35, 36, 37, 38, 39, 40, 41, 42, 43, 44, 45, 78, 79, 80, 81, 82, 83, 84, 85, 86, 87, 88, 89, 90, 91, 92, 93, 94, 95, 96, 97, 98] (by decide +kernel) (by decide +kernel)
set_option maxRecDepth 20000 in
theorem gX7_count_X7_inAll : GoodIn wsX7_count (wsV RX7 113 RX7 yX7_inAll wsX7_inAll) := goodIn_app (goodIn_of _ (by decide +kernel)) ggX7_count_X7_inAll
set_option maxRecDepth 20000 in
theorem ggX7_count_X7_steps : GoodIn wsX7_count wsX7_steps := goodIn_r _ [49, 50, 51, 52, 8, 53, 1, 23, 24, 25, 26, 78, 79, 80, 81, 82, 83, 84, 85, 86, 87, 88, 89, 90, 91, 92, 93, 94, 95, 96, 97, 98] (by decide +kernel) (by decide +kernel)
set_option maxRecDepth 20000 in
theorem gX7_count_X7_steps : GoodIn wsX7_count (wsV RX7 116 RX7 yX7_steps wsX7_steps) := goodIn_app (goodIn_of _ (by decide +kernel)) ggX7_count_X7_steps
set_option maxRecDepth 20000 in
theorem ggX7_count_X7_heights : GoodIn wsX7_count wsX7_heights := goodIn_r _ [57, 58, 59, 60, 61, 8, 62, 63, 1, 11, 18, 64, 65, 12, 13, 14, 15, 10, 16, 17, 19, 20, 21, 22, 23, 24, 25, 26, 27, 28, 29, 30, 31, 32, 33, 34, 35, 36, 37, 38, 39, 40, 41, 42, 43, 44, 45, 66, 67, 68, 69, 70, 71, 72, 73, 74, 75, 76, 77, 78, 79, 80, 81, 82, 83, 84, 85, 86, 87, 88, 89, 90, 91, 92, 93, 94, 95, 96, 97, 98] (by decide +kernel) (by decide +kernel)
set_option maxRecDepth 20000 in
theorem gX7_count_X7_heights : GoodIn wsX7_count (wsV RX7 120 RX7 yX7_heights wsX7_heights) := goodIn_app (goodIn_of _ (by decide +kernel)) ggX7_count_X7_heights
theorem dX7_count_0 : decode cX7_count 0 = .ok (.iload_n 1, 1) := by decide +kernel
theorem dX7_count_1 : decode cX7_count 1 = .ok (.tableswitch 128 0 13 #[71, 71, 71, 71, 80, 86, 92, 97, 102, 107, 112, 112, 112, 122], 71) := by decide +kernel
theorem dX7_count_72 : decode cX7_count 72 = .ok (.aload_n 0, 1) := by decide +kernel
theorem dX7_count_73 : decode cX7_count 73 = .ok (.getfield 7, 3) := by decide +kernel
theorem dX7_count_76 : decode cX7_count 76 = .ok (.iconst 3, 1) := by decide +kernel
theorem dX7_count_77 : decode cX7_count 77 = .ok (.iload_n 1, 1) := by decide +kernel
theorem dX7_count_78 : decode cX7_count 78 = .ok (.iadd, 1) := by decide +kernel
theorem dX7_count_79 : decode cX7_count 79 = .ok (.iaload, 1) := by decide +kernel
theorem dX7_count_80 : decode cX7_count 80 = .ok (.ireturn, 1) := by decide +kernel
theorem dX7_count_81 : decode cX7_count 81 = .ok (.aload_n 0, 1) := by decide +kernel
theorem dX7_count_82 : decode cX7_count 82 = .ok (.iconst 0, 1) := by decide +kernel
theorem dX7_count_83 : decode cX7_count 83 = .ok (.invokevirtual 113, 3) := by decide +kernel
theorem dX7_count_86 : decode cX7_count 86 = .ok (.ireturn, 1) := by decide +kernel
theorem dX7_count_87 : decode cX7_count 87 = .ok (.aload_n 0, 1) := by decide +kernel
theorem dX7_count_88 : decode cX7_count 88 = .ok (.iconst 1, 1) := by decide +kernel
theorem dX7_count_89 : decode cX7_count 89 = .ok (.invokevirtual 113, 3) := by decide +kernel
theorem dX7_count_92 : decode cX7_count 92 = .ok (.ireturn, 1) := by decide +kernel
theorem dX7_count_93 : decode cX7_count 93 = .ok (.aload_n 0, 1) := by decide +kernel
theorem dX7_count_94 : decode cX7_count 94 = .ok (.invokevirtual 116, 3) := by decide +kernel
theorem dX7_count_97 : decode cX7_count 97 = .ok (.ireturn, 1) := by decide +kernel
theorem dX7_count_98 : decode cX7_count 98 = .ok (.aload_n 0, 1) := by decide +kernel
theorem dX7_count_99 : decode cX7_count 99 = .ok (.invokevirtual 120, 3) := by decide +kernel
theorem dX7_count_102 : decode cX7_count 102 = .ok (.ireturn, 1) := by decide +kernel
theorem dX7_count_103 : decode cX7_count 103 = .ok (.aload_n 0, 1) := by decide +kernel
theorem dX7_count_104 : decode cX7_count 104 = .ok (.getfield 45, 3) := by decide +kernel
theorem dX7_count_107 : decode cX7_count 107 = .ok (.ireturn, 1) := by decide +kernel
theorem dX7_count_108 : decode cX7_count 108 = .ok (.aload_n 0, 1) := by decide +kernel
theorem dX7_count_109 : decode cX7_count 109 = .ok (.getfield 123, 3) := by decide +kernel
theorem dX7_count_112 : decode cX7_count 112 = .ok (.ireturn, 1) := by decide +kernel
theorem dX7_count_113 : decode cX7_count 113 = .ok (.aload_n 0, 1) := by decide +kernel
theorem dX7_count_114 : decode cX7_count 114 = .ok (.getfield 7, 3) := by decide +kernel
theorem dX7_count_117 : decode cX7_count 117 = .ok (.iload_n 1, 1) := by decide +kernel
theorem dX7_count_118 : decode cX7_count 118 = .ok (.bipush 10, 2) := by decide +kernel
theorem dX7_count_120 : decode cX7_count 120 = .ok (.isub, 1) := by decide +kernel
theorem dX7_count_121 : decode cX7_count 121 = .ok (.iaload, 1) := by decide +kernel
theorem dX7_count_122 : decode cX7_count 122 = .ok (.ireturn, 1) := by decide +kernel
theorem dX7_count_123 : decode cX7_count 123 = .ok (.aload_n 0, 1) := by decide +kernel
theorem dX7_count_124 : decode cX7_count 124 = .ok (.iconst 2, 1) := by decide +kernel
theorem dX7_count_125 : decode cX7_count 125 = .ok (.invokevirtual 113, 3) := by decide +kernel
theorem dX7_count_128 : decode cX7_count 128 = .ok (.ireturn, 1) := by decide +kernel
theorem dX7_count_129 : decode cX7_count 129 = .ok (.ldc 55, 2) := by decide +kernel
theorem dX7_count_131 : decode cX7_count 131 = .ok (.ireturn, 1) := by decide +kernel
theorem dX7_undo_0 : decode cX7_undo 0 = .ok (.aload_n 0, 1) := by decide +kernel
theorem dX7_undo_1 : decode cX7_undo 1 = .ok (.getfield 45, 3) := by decide +kernel
theorem dX7_undo_4 : decode cX7_undo 4 = .ok (.ifCond .ne 6, 3) := by decide +kernel
theorem dX7_undo_7 : decode cX7_undo 7 = .ok (.ldc 70, 2) := by decide +kernel
theorem dX7_undo_9 : decode cX7_undo 9 = .ok (.ireturn, 1) := by decide +kernel
theorem dX7_undo_10 : decode cX7_undo 10 = .ok (.aload_n 0, 1) := by decide +kernel
theorem dX7_undo_11 : decode cX7_undo 11 = .ok (.dup, 1) := by decide +kernel
theorem dX7_undo_12 : decode cX7_undo 12 = .ok (.getfield 45, 3) := by decide +kernel
theorem dX7_undo_15 : decode cX7_undo 15 = .ok (.iconst 1, 1) := by decide +kernel
theorem dX7_undo_16 : decode cX7_undo 16 = .ok (.isub, 1) := by decide +kernel
theorem dX7_undo_17 : decode cX7_undo 17 = .ok (.putfield 45, 3) := by decide +kernel
theorem dX7_undo_20 : decode cX7_undo 20 = .ok (.iconst 0, 1) := by decide +kernel
theorem dX7_undo_21 : decode cX7_undo 21 = .ok (.istore_n 1, 1) := by decide +kernel
theorem dX7_undo_22 : decode cX7_undo 22 = .ok (.iload_n 1, 1) := by decide +kernel
theorem dX7_undo_23 : decode cX7_undo 23 = .ok (.sipush 327, 3) := by decide +kernel
theorem dX7_undo_26 : decode cX7_undo 26 = .ok (.if_icmp .ge 30, 3) := by decide +kernel
theorem dX7_undo_29 : decode cX7_undo 29 = .ok (.aload_n 0, 1) := by decide +kernel
theorem dX7_undo_30 : decode cX7_undo 30 = .ok (.getfield 7, 3) := by decide +kernel
theorem dX7_undo_33 : decode cX7_undo 33 = .ok (.iload_n 1, 1) := by decide +kernel
theorem dX7_undo_34 : decode cX7_undo 34 = .ok (.aload_n 0, 1) := by decide +kernel
theorem dX7_undo_35 : decode cX7_undo 35 = .ok (.getfield 13, 3) := by decide +kernel
theorem dX7_undo_38 : decode cX7_undo 38 = .ok (.sipush 327, 3) := by decide +kernel
theorem dX7_undo_41 : decode cX7_undo 41 = .ok (.aload_n 0, 1) := by decide +kernel
theorem dX7_undo_42 : decode cX7_undo 42 = .ok (.getfield 45, 3) := by decide +kernel
theorem dX7_undo_45 : decode cX7_undo 45 = .ok (.imul, 1) := by decide +kernel
theorem dX7_undo_46 : decode cX7_undo 46 = .ok (.iload_n 1, 1) := by decide +kernel
theorem dX7_undo_47 : decode cX7_undo 47 = .ok (.iadd, 1) := by decide +kernel
theorem dX7_undo_48 : decode cX7_undo 48 = .ok (.iaload, 1) := by decide +kernel
theorem dX7_undo_49 : decode cX7_undo 49 = .ok (.iastore, 1) := by decide +kernel
theorem dX7_undo_50 : decode cX7_undo 50 = .ok (.iinc 1 1, 3) := by decide +kernel
theorem dX7_undo_53 : decode cX7_undo 53 = .ok (.goto (-31), 3) := by decide +kernel
theorem dX7_undo_56 : decode cX7_undo 56 = .ok (.aload_n 0, 1) := by decide +kernel
theorem dX7_undo_57 : decode cX7_undo 57 = .ok (.getfield 45, 3) := by decide +kernel
theorem dX7_undo_60 : decode cX7_undo 60 = .ok (.ireturn, 1) := by decide +kernel
set_option maxRecDepth 20000 in
theorem ggX7_between_X7_down : GoodIn wsX7_between wsX7_down := goodIn_r _ [4] (by decide +kernel) (by decide +kernel)
set_option maxRecDepth 20000 in
theorem gX7_between_X7_down : GoodIn wsX7_between (va_wsS RX7 126 yX7_down wsX7_down) := goodIn_app (goodIn_of _ (by decide +kernel)) ggX7_between_X7_down
theorem dX7_between_0 : decode cX7_between 0 = .ok (.iload_n 0, 1) := by decide +kernel
theorem dX7_between_1 : decode cX7_between 1 = .ok (.iload_n 1, 1) := by decide +kernel
theorem dX7_between_2 : decode cX7_between 2 = .ok (.iload_n 0, 1) := by decide +kernel
theorem dX7_between_3 : decode cX7_between 3 = .ok (.isub, 1) := by decide +kernel
theorem dX7_between_4 : decode cX7_between 4 = .ok (.i2l, 1) := by decide +kernel
theorem dX7_between_5 : decode cX7_between 5 = .ok (.iload_n 2, 1) := by decide +kernel
theorem dX7_between_6 : decode cX7_between 6 = .ok (.iload_n 3, 1) := by decide +kernel
theorem dX7_between_7 : decode cX7_between 7 = .ok (.isub, 1) := by decide +kernel
theorem dX7_between_8 : decode cX7_between 8 = .ok (.i2l, 1) := by decide +kernel
theorem dX7_between_9 : decode cX7_between 9 = .ok (.lmul, 1) := by decide +kernel
theorem dX7_between_10 : decode cX7_between 10 = .ok (.iload 4, 2) := by decide +kernel
theorem dX7_between_12 : decode cX7_between 12 = .ok (.iload_n 3, 1) := by decide +kernel
theorem dX7_between_13 : decode cX7_between 13 = .ok (.isub, 1) := by decide +kernel
theorem dX7_between_14 : decode cX7_between 14 = .ok (.i2l, 1) := by decide +kernel
theorem dX7_between_15 : decode cX7_between 15 = .ok (.invokestatic 126, 3) := by decide +kernel
theorem dX7_between_18 : decode cX7_between 18 = .ok (.l2i, 1) := by decide +kernel
theorem dX7_between_19 : decode cX7_between 19 = .ok (.iadd, 1) := by decide +kernel
theorem dX7_between_20 : decode cX7_between 20 = .ok (.ireturn, 1) := by decide +kernel
set_option maxRecDepth 20000 in
theorem ggX7_hasBase_X7_of : GoodIn wsX7_hasBase wsX7_of := goodIn_r _ [8, 1, 15, 16, 17, 18, 19, 20, 21, 22, 23, 24, 25, 26, 27, 28, 29, 30, 31, 32, 33, 34, 35] (by decide +kernel) (by decide +kernel)
set_option maxRecDepth 20000 in
theorem gX7_hasBase_X7_of : GoodIn wsX7_hasBase (wsV RX7 59 RX7 yX7_of wsX7_of) := goodIn_app (goodIn_of _ (by decide +kernel)) ggX7_hasBase_X7_of
set_option maxRecDepth 20000 in
theorem ggX7_hasBase_X7_between : GoodIn wsX7_hasBase wsX7_between := goodIn_r _ [11, 12, 13, 7, 14] (by decide +kernel) (by decide +kernel)
set_option maxRecDepth 20000 in
theorem gX7_hasBase_X7_between : GoodIn wsX7_hasBase (va_wsS RX7 136 yX7_between wsX7_between) := goodIn_app (goodIn_of _ (by decide +kernel)) ggX7_hasBase_X7_between
theorem dX7_hasBase_0 : decode cX7_hasBase 0 = .ok (.iconst 0, 1) := by decide +kernel
theorem dX7_hasBase_1 : decode cX7_hasBase 1 = .ok (.istore_n 2, 1) := by decide +kernel
theorem dX7_hasBase_2 : decode cX7_hasBase 2 = .ok (.iload_n 2, 1) := by decide +kernel
theorem dX7_hasBase_3 : decode cX7_hasBase 3 = .ok (.aload_n 0, 1) := by decide +kernel
theorem dX7_hasBase_4 : decode cX7_hasBase 4 = .ok (.getfield 7, 3) := by decide +kernel
theorem dX7_hasBase_7 : decode cX7_hasBase 7 = .ok (.iconst 3, 1) := by decide +kernel
theorem dX7_hasBase_8 : decode cX7_hasBase 8 = .ok (.iaload, 1) := by decide +kernel
theorem dX7_hasBase_9 : decode cX7_hasBase 9 = .ok (.if_icmp .ge 135, 3) := by decide +kernel
theorem dX7_hasBase_12 : decode cX7_hasBase 12 = .ok (.aload_n 0, 1) := by decide +kernel
theorem dX7_hasBase_13 : decode cX7_hasBase 13 = .ok (.iconst 0, 1) := by decide +kernel
theorem dX7_hasBase_14 : decode cX7_hasBase 14 = .ok (.iconst 0, 1) := by decide +kernel
theorem dX7_hasBase_15 : decode cX7_hasBase 15 = .ok (.iload_n 2, 1) := by decide +kernel
theorem dX7_hasBase_16 : decode cX7_hasBase 16 = .ok (.invokevirtual 59, 3) := by decide +kernel
theorem dX7_hasBase_19 : decode cX7_hasBase 19 = .ok (.istore_n 3, 1) := by decide +kernel
theorem dX7_hasBase_20 : decode cX7_hasBase 20 = .ok (.iload_n 3, 1) := by decide +kernel
theorem dX7_hasBase_21 : decode cX7_hasBase 21 = .ok (.iload_n 1, 1) := by decide +kernel
theorem dX7_hasBase_22 : decode cX7_hasBase 22 = .ok (.if_icmp .ne 29, 3) := by decide +kernel
theorem dX7_hasBase_25 : decode cX7_hasBase 25 = .ok (.aload_n 0, 1) := by decide +kernel
theorem dX7_hasBase_26 : decode cX7_hasBase 26 = .ok (.aload_n 0, 1) := by decide +kernel
theorem dX7_hasBase_27 : decode cX7_hasBase 27 = .ok (.iconst 0, 1) := by decide +kernel
theorem dX7_hasBase_28 : decode cX7_hasBase 28 = .ok (.bipush 20, 2) := by decide +kernel
theorem dX7_hasBase_30 : decode cX7_hasBase 30 = .ok (.iload_n 2, 1) := by decide +kernel
theorem dX7_hasBase_31 : decode cX7_hasBase 31 = .ok (.invokevirtual 59, 3) := by decide +kernel
theorem dX7_hasBase_34 : decode cX7_hasBase 34 = .ok (.putfield 130, 3) := by decide +kernel
theorem dX7_hasBase_37 : decode cX7_hasBase 37 = .ok (.aload_n 0, 1) := by decide +kernel
theorem dX7_hasBase_38 : decode cX7_hasBase 38 = .ok (.aload_n 0, 1) := by decide +kernel
theorem dX7_hasBase_39 : decode cX7_hasBase 39 = .ok (.iconst 0, 1) := by decide +kernel
theorem dX7_hasBase_40 : decode cX7_hasBase 40 = .ok (.bipush 40, 2) := by decide +kernel
theorem dX7_hasBase_42 : decode cX7_hasBase 42 = .ok (.iload_n 2, 1) := by decide +kernel
theorem dX7_hasBase_43 : decode cX7_hasBase 43 = .ok (.invokevirtual 59, 3) := by decide +kernel
theorem dX7_hasBase_46 : decode cX7_hasBase 46 = .ok (.putfield 133, 3) := by decide +kernel
theorem dX7_hasBase_49 : decode cX7_hasBase 49 = .ok (.iconst 1, 1) := by decide +kernel
theorem dX7_hasBase_50 : decode cX7_hasBase 50 = .ok (.ireturn, 1) := by decide +kernel
theorem dX7_hasBase_51 : decode cX7_hasBase 51 = .ok (.iload_n 3, 1) := by decide +kernel
theorem dX7_hasBase_52 : decode cX7_hasBase 52 = .ok (.iload_n 1, 1) := by decide +kernel
theorem dX7_hasBase_53 : decode cX7_hasBase 53 = .ok (.if_icmp .le 78, 3) := by decide +kernel
theorem dX7_hasBase_56 : decode cX7_hasBase 56 = .ok (.iload_n 2, 1) := by decide +kernel
theorem dX7_hasBase_57 : decode cX7_hasBase 57 = .ok (.ifCond .le 74, 3) := by decide +kernel
theorem dX7_hasBase_60 : decode cX7_hasBase 60 = .ok (.aload_n 0, 1) := by decide +kernel
theorem dX7_hasBase_61 : decode cX7_hasBase 61 = .ok (.iconst 0, 1) := by decide +kernel
theorem dX7_hasBase_62 : decode cX7_hasBase 62 = .ok (.iconst 0, 1) := by decide +kernel
theorem dX7_hasBase_63 : decode cX7_hasBase 63 = .ok (.iload_n 2, 1) := by decide +kernel
theorem dX7_hasBase_64 : decode cX7_hasBase 64 = .ok (.iconst 1, 1) := by decide +kernel
theorem dX7_hasBase_65 : decode cX7_hasBase 65 = .ok (.isub, 1) := by decide +kernel
theorem dX7_hasBase_66 : decode cX7_hasBase 66 = .ok (.invokevirtual 59, 3) := by decide +kernel
theorem dX7_hasBase_69 : decode cX7_hasBase 69 = .ok (.istore 4, 2) := by decide +kernel
theorem dX7_hasBase_71 : decode cX7_hasBase 71 = .ok (.aload_n 0, 1) := by decide +kernel
theorem dX7_hasBase_72 : decode cX7_hasBase 72 = .ok (.aload_n 0, 1) := by decide +kernel
theorem dX7_hasBase_73 : decode cX7_hasBase 73 = .ok (.iconst 0, 1) := by decide +kernel
theorem dX7_hasBase_74 : decode cX7_hasBase 74 = .ok (.bipush 20, 2) := by decide +kernel
theorem dX7_hasBase_76 : decode cX7_hasBase 76 = .ok (.iload_n 2, 1) := by decide +kernel
theorem dX7_hasBase_77 : decode cX7_hasBase 77 = .ok (.iconst 1, 1) := by decide +kernel
theorem dX7_hasBase_78 : decode cX7_hasBase 78 = .ok (.isub, 1) := by decide +kernel
theorem dX7_hasBase_79 : decode cX7_hasBase 79 = .ok (.invokevirtual 59, 3) := by decide +kernel
theorem dX7_hasBase_82 : decode cX7_hasBase 82 = .ok (.aload_n 0, 1) := by decide +kernel
theorem dX7_hasBase_83 : decode cX7_hasBase 83 = .ok (.iconst 0, 1) := by decide +kernel
theorem dX7_hasBase_84 : decode cX7_hasBase 84 = .ok (.bipush 20, 2) := by decide +kernel
theorem dX7_hasBase_86 : decode cX7_hasBase 86 = .ok (.iload_n 2, 1) := by decide +kernel
theorem dX7_hasBase_87 : decode cX7_hasBase 87 = .ok (.invokevirtual 59, 3) := by decide +kernel
theorem dX7_hasBase_90 : decode cX7_hasBase 90 = .ok (.iload_n 1, 1) := by decide +kernel
theorem dX7_hasBase_91 : decode cX7_hasBase 91 = .ok (.iload 4, 2) := by decide +kernel
theorem dX7_hasBase_93 : decode cX7_hasBase 93 = .ok (.iload_n 3, 1) := by decide +kernel
theorem dX7_hasBase_94 : decode cX7_hasBase 94 = .ok (.invokestatic 136, 3) := by decide +kernel
theorem dX7_hasBase_97 : decode cX7_hasBase 97 = .ok (.putfield 130, 3) := by decide +kernel
theorem dX7_hasBase_100 : decode cX7_hasBase 100 = .ok (.aload_n 0, 1) := by decide +kernel
theorem dX7_hasBase_101 : decode cX7_hasBase 101 = .ok (.aload_n 0, 1) := by decide +kernel
theorem dX7_hasBase_102 : decode cX7_hasBase 102 = .ok (.iconst 0, 1) := by decide +kernel
theorem dX7_hasBase_103 : decode cX7_hasBase 103 = .ok (.bipush 40, 2) := by decide +kernel
theorem dX7_hasBase_105 : decode cX7_hasBase 105 = .ok (.iload_n 2, 1) := by decide +kernel
theorem dX7_hasBase_106 : decode cX7_hasBase 106 = .ok (.iconst 1, 1) := by decide +kernel
theorem dX7_hasBase_107 : decode cX7_hasBase 107 = .ok (.isub, 1) := by decide +kernel
theorem dX7_hasBase_108 : decode cX7_hasBase 108 = .ok (.invokevirtual 59, 3) := by decide +kernel
theorem dX7_hasBase_111 : decode cX7_hasBase 111 = .ok (.aload_n 0, 1) := by decide +kernel
theorem dX7_hasBase_112 : decode cX7_hasBase 112 = .ok (.iconst 0, 1) := by decide +kernel
theorem dX7_hasBase_113 : decode cX7_hasBase 113 = .ok (.bipush 40, 2) := by decide +kernel
theorem dX7_hasBase_115 : decode cX7_hasBase 115 = .ok (.iload_n 2, 1) := by decide +kernel
theorem dX7_hasBase_116 : decode cX7_hasBase 116 = .ok (.invokevirtual 59, 3) := by decide +kernel
theorem dX7_hasBase_119 : decode cX7_hasBase 119 = .ok (.iload_n 1, 1) := by decide +kernel
theorem dX7_hasBase_120 : decode cX7_hasBase 120 = .ok (.iload 4, 2) := by decide +kernel
theorem dX7_hasBase_122 : decode cX7_hasBase 122 = .ok (.iload_n 3, 1) := by decide +kernel
theorem dX7_hasBase_123 : decode cX7_hasBase 123 = .ok (.invokestatic 136, 3) := by decide +kernel
theorem dX7_hasBase_126 : decode cX7_hasBase 126 = .ok (.putfield 133, 3) := by decide +kernel
theorem dX7_hasBase_129 : decode cX7_hasBase 129 = .ok (.iconst 1, 1) := by decide +kernel
theorem dX7_hasBase_130 : decode cX7_hasBase 130 = .ok (.ireturn, 1) := by decide +kernel
theorem dX7_hasBase_131 : decode cX7_hasBase 131 = .ok (.iload_n 3, 1) := by decide +kernel
theorem dX7_hasBase_132 : decode cX7_hasBase 132 = .ok (.iload_n 1, 1) := by decide +kernel
theorem dX7_hasBase_133 : decode cX7_hasBase 133 = .ok (.if_icmp .le 5, 3) := by decide +kernel
theorem dX7_hasBase_136 : decode cX7_hasBase 136 = .ok (.iconst 0, 1) := by decide +kernel
theorem dX7_hasBase_137 : decode cX7_hasBase 137 = .ok (.ireturn, 1) := by decide +kernel
theorem dX7_hasBase_138 : decode cX7_hasBase 138 = .ok (.iinc 2 1, 3) := by decide +kernel
theorem dX7_hasBase_141 : decode cX7_hasBase 141 = .ok (.goto (-139), 3) := by decide +kernel
theorem dX7_hasBase_144 : decode cX7_hasBase 144 = .ok (.iconst 0, 1) := by decide +kernel
theorem dX7_hasBase_145 : decode cX7_hasBase 145 = .ok (.ireturn, 1) := by decide +kernel
set_option maxRecDepth 20000 in
theorem ggX7_baseAt_X7_in : GoodIn wsX7_baseAt wsX7_in := goodIn_r _ [8] (by decide +kernel) (by decide +kernel)
set_option maxRecDepth 20000 in
theorem gX7_baseAt_X7_in : GoodIn wsX7_baseAt (va_wsS RX7 39 yX7_in wsX7_in) := goodIn_app (goodIn_of _ (by decide +kernel)) ggX7_baseAt_X7_in
set_option maxRecDepth 20000 in
theorem ggX7_baseAt_X7_hasBase : GoodIn wsX7_baseAt wsX7_hasBase := goodIn_r _ [12, 13, 3, 4, 14, 15, 16, 7, 17, 18, 19, 20, 21, 22, 23, 24, 25, 26, 27, 28, 29, 30, 31, 32, 33, 34, 35, 36, 37, 38, 39, 40, 41, 42, 43, 44] (by decide +kernel) (by decide +kernel)
set_option maxRecDepth 20000 in
theorem gX7_baseAt_X7_hasBase : GoodIn wsX7_baseAt (wsV RX7 139 RX7 yX7_hasBase wsX7_hasBase) := goodIn_app (goodIn_of _ (by decide +kernel)) ggX7_baseAt_X7_hasBase
theorem dX7_baseAt_0 : decode cX7_baseAt 0 = .ok (.iload_n 1, 1) := by decide +kernel
theorem dX7_baseAt_1 : decode cX7_baseAt 1 = .ok (.iconst 0, 1) := by decide +kernel
theorem dX7_baseAt_2 : decode cX7_baseAt 2 = .ok (.sipush 10000, 3) := by decide +kernel
theorem dX7_baseAt_5 : decode cX7_baseAt 5 = .ok (.invokestatic 39, 3) := by decide +kernel
theorem dX7_baseAt_8 : decode cX7_baseAt 8 = .ok (.ifCond .eq 12, 3) := by decide +kernel
theorem dX7_baseAt_11 : decode cX7_baseAt 11 = .ok (.iload_n 2, 1) := by decide +kernel
theorem dX7_baseAt_12 : decode cX7_baseAt 12 = .ok (.iconst 0, 1) := by decide +kernel
theorem dX7_baseAt_13 : decode cX7_baseAt 13 = .ok (.iconst 1, 1) := by decide +kernel
theorem dX7_baseAt_14 : decode cX7_baseAt 14 = .ok (.invokestatic 39, 3) := by decide +kernel
theorem dX7_baseAt_17 : decode cX7_baseAt 17 = .ok (.ifCond .ne 6, 3) := by decide +kernel
theorem dX7_baseAt_20 : decode cX7_baseAt 20 = .ok (.ldc 55, 2) := by decide +kernel
theorem dX7_baseAt_22 : decode cX7_baseAt 22 = .ok (.ireturn, 1) := by decide +kernel
theorem dX7_baseAt_23 : decode cX7_baseAt 23 = .ok (.aload_n 0, 1) := by decide +kernel
theorem dX7_baseAt_24 : decode cX7_baseAt 24 = .ok (.iload_n 1, 1) := by decide +kernel
theorem dX7_baseAt_25 : decode cX7_baseAt 25 = .ok (.invokevirtual 139, 3) := by decide +kernel
theorem dX7_baseAt_28 : decode cX7_baseAt 28 = .ok (.ifCond .ne 8, 3) := by decide +kernel
theorem dX7_baseAt_31 : decode cX7_baseAt 31 = .ok (.ldc 92, 2) := by decide +kernel
theorem dX7_baseAt_33 : decode cX7_baseAt 33 = .ok (.goto 18, 3) := by decide +kernel
theorem dX7_baseAt_36 : decode cX7_baseAt 36 = .ok (.iload_n 2, 1) := by decide +kernel
theorem dX7_baseAt_37 : decode cX7_baseAt 37 = .ok (.ifCond .ne 10, 3) := by decide +kernel
theorem dX7_baseAt_40 : decode cX7_baseAt 40 = .ok (.aload_n 0, 1) := by decide +kernel
theorem dX7_baseAt_41 : decode cX7_baseAt 41 = .ok (.getfield 130, 3) := by decide +kernel
theorem dX7_baseAt_44 : decode cX7_baseAt 44 = .ok (.goto 7, 3) := by decide +kernel
theorem dX7_baseAt_47 : decode cX7_baseAt 47 = .ok (.aload_n 0, 1) := by decide +kernel
theorem dX7_baseAt_48 : decode cX7_baseAt 48 = .ok (.getfield 133, 3) := by decide +kernel
theorem dX7_baseAt_51 : decode cX7_baseAt 51 = .ok (.ireturn, 1) := by decide +kernel
set_option maxRecDepth 20000 in
theorem ggX7_step_X7_stepsTo : GoodIn wsX7_step wsX7_stepsTo := goodIn_r _ [6, 7, 8, 9, 10, 5, 11, 12, 13, 14, 15, 16, 17, 18, 19, 20, 21, 22, 23, 24, 25, 26, 27, 28, 29, 30, 31, 32] (by decide +kernel) (by decide +kernel)
set_option maxRecDepth 20000 in
theorem gX7_step_X7_stepsTo : GoodIn wsX7_step (wsV RX7 100 RX7 yX7_stepsTo wsX7_stepsTo) := goodIn_app (goodIn_of _ (by decide +kernel)) ggX7_step_X7_stepsTo
theorem dX7_step_0 : decode cX7_step 0 = .ok (.iload_n 1, 1) := by decide +kernel
theorem dX7_step_1 : decode cX7_step 1 = .ok (.ifCond .ge 7, 3) := by decide +kernel
theorem dX7_step_4 : decode cX7_step 4 = .ok (.iconst (-1), 1) := by decide +kernel
theorem dX7_step_5 : decode cX7_step 5 = .ok (.goto 8, 3) := by decide +kernel
theorem dX7_step_8 : decode cX7_step 8 = .ok (.aload_n 0, 1) := by decide +kernel
theorem dX7_step_9 : decode cX7_step 9 = .ok (.iload_n 1, 1) := by decide +kernel
theorem dX7_step_10 : decode cX7_step 10 = .ok (.invokevirtual 100, 3) := by decide +kernel
theorem dX7_step_13 : decode cX7_step 13 = .ok (.istore_n 2, 1) := by decide +kernel
theorem dX7_step_14 : decode cX7_step 14 = .ok (.iload_n 2, 1) := by decide +kernel
theorem dX7_step_15 : decode cX7_step 15 = .ok (.iconst (-1), 1) := by decide +kernel
theorem dX7_step_16 : decode cX7_step 16 = .ok (.if_icmp .ne 8, 3) := by decide +kernel
theorem dX7_step_19 : decode cX7_step 19 = .ok (.ldc 55, 2) := by decide +kernel
theorem dX7_step_21 : decode cX7_step 21 = .ok (.goto 4, 3) := by decide +kernel
theorem dX7_step_24 : decode cX7_step 24 = .ok (.iload_n 2, 1) := by decide +kernel
theorem dX7_step_25 : decode cX7_step 25 = .ok (.ireturn, 1) := by decide +kernel
set_option maxRecDepth 20000 in
theorem ggX7_rawOf_X7_down : GoodIn wsX7_rawOf wsX7_down := goodIn_r _ [10] (by decide +kernel) (by decide +kernel)
set_option maxRecDepth 20000 in
theorem gX7_rawOf_X7_down : GoodIn wsX7_rawOf (va_wsS RX7 126 yX7_down wsX7_down) := goodIn_app (goodIn_of _ (by decide +kernel)) ggX7_rawOf_X7_down
theorem dX7_rawOf_0 : decode cX7_rawOf 0 = .ok (.ldc2_w 142, 3) := by decide +kernel
theorem dX7_rawOf_3 : decode cX7_rawOf 3 = .ok (.aload_n 0, 1) := by decide +kernel
theorem dX7_rawOf_4 : decode cX7_rawOf 4 = .ok (.getfield 133, 3) := by decide +kernel
theorem dX7_rawOf_7 : decode cX7_rawOf 7 = .ok (.iload_n 2, 1) := by decide +kernel
theorem dX7_rawOf_8 : decode cX7_rawOf 8 = .ok (.iadd, 1) := by decide +kernel
theorem dX7_rawOf_9 : decode cX7_rawOf 9 = .ok (.i2l, 1) := by decide +kernel
theorem dX7_rawOf_10 : decode cX7_rawOf 10 = .ok (.ldc2_w 144, 3) := by decide +kernel
theorem dX7_rawOf_13 : decode cX7_rawOf 13 = .ok (.invokestatic 126, 3) := by decide +kernel
theorem dX7_rawOf_16 : decode cX7_rawOf 16 = .ok (.ladd, 1) := by decide +kernel
theorem dX7_rawOf_17 : decode cX7_rawOf 17 = .ok (.lstore_n 3, 1) := by decide +kernel
theorem dX7_rawOf_18 : decode cX7_rawOf 18 = .ok (.ldc2_w 146, 3) := by decide +kernel
theorem dX7_rawOf_21 : decode cX7_rawOf 21 = .ok (.lload_n 3, 1) := by decide +kernel
theorem dX7_rawOf_22 : decode cX7_rawOf 22 = .ok (.lmul, 1) := by decide +kernel
theorem dX7_rawOf_23 : decode cX7_rawOf 23 = .ok (.aload_n 0, 1) := by decide +kernel
theorem dX7_rawOf_24 : decode cX7_rawOf 24 = .ok (.getfield 130, 3) := by decide +kernel
theorem dX7_rawOf_27 : decode cX7_rawOf 27 = .ok (.iload_n 1, 1) := by decide +kernel
theorem dX7_rawOf_28 : decode cX7_rawOf 28 = .ok (.isub, 1) := by decide +kernel
theorem dX7_rawOf_29 : decode cX7_rawOf 29 = .ok (.i2l, 1) := by decide +kernel
theorem dX7_rawOf_30 : decode cX7_rawOf 30 = .ok (.lmul, 1) := by decide +kernel
theorem dX7_rawOf_31 : decode cX7_rawOf 31 = .ok (.lstore 5, 2) := by decide +kernel
theorem dX7_rawOf_33 : decode cX7_rawOf 33 = .ok (.aload_n 0, 1) := by decide +kernel
theorem dX7_rawOf_34 : decode cX7_rawOf 34 = .ok (.getfield 7, 3) := by decide +kernel
theorem dX7_rawOf_37 : decode cX7_rawOf 37 = .ok (.iconst 0, 1) := by decide +kernel
theorem dX7_rawOf_38 : decode cX7_rawOf 38 = .ok (.iaload, 1) := by decide +kernel
theorem dX7_rawOf_39 : decode cX7_rawOf 39 = .ok (.lload 5, 2) := by decide +kernel
theorem dX7_rawOf_41 : decode cX7_rawOf 41 = .ok (.aload_n 0, 1) := by decide +kernel
theorem dX7_rawOf_42 : decode cX7_rawOf 42 = .ok (.getfield 130, 3) := by decide +kernel
theorem dX7_rawOf_45 : decode cX7_rawOf 45 = .ok (.iload_n 1, 1) := by decide +kernel
theorem dX7_rawOf_46 : decode cX7_rawOf 46 = .ok (.iadd, 1) := by decide +kernel
theorem dX7_rawOf_47 : decode cX7_rawOf 47 = .ok (.iconst 2, 1) := by decide +kernel
theorem dX7_rawOf_48 : decode cX7_rawOf 48 = .ok (.idiv, 1) := by decide +kernel
theorem dX7_rawOf_49 : decode cX7_rawOf 49 = .ok (.i2l, 1) := by decide +kernel
theorem dX7_rawOf_50 : decode cX7_rawOf 50 = .ok (.invokestatic 126, 3) := by decide +kernel
theorem dX7_rawOf_53 : decode cX7_rawOf 53 = .ok (.l2i, 1) := by decide +kernel
theorem dX7_rawOf_54 : decode cX7_rawOf 54 = .ok (.iadd, 1) := by decide +kernel
theorem dX7_rawOf_55 : decode cX7_rawOf 55 = .ok (.ireturn, 1) := by decide +kernel
set_option maxRecDepth 20000 in
theorem ggX7_raw_X7_isCell : GoodIn wsX7_raw wsX7_isCell := goodIn_r _ [6, 7, 8, 5, 9] (by decide +kernel) (by decide +kernel)
set_option maxRecDepth 20000 in
theorem gX7_raw_X7_isCell : GoodIn wsX7_raw (va_wsS RX7 86 yX7_isCell wsX7_isCell) := goodIn_app (goodIn_of _ (by decide +kernel)) ggX7_raw_X7_isCell
set_option maxRecDepth 20000 in
theorem ggX7_raw_X7_isReading : GoodIn wsX7_raw wsX7_isReading := goodIn_r _ [13, 14, 7, 8, 5, 9, 38, 39, 40, 41, 42, 43, 44, 45, 46, 47, 48, 49, 50, 51, 52, 53, 54, 55, 56, 57, 58] (by decide +kernel) (by decide +kernel)
set_option maxRecDepth 20000 in
theorem gX7_raw_X7_isReading : GoodIn wsX7_raw (wsV RX7 89 RX7 yX7_isReading wsX7_isReading) := goodIn_app (goodIn_of _ (by decide +kernel)) ggX7_raw_X7_isReading
set_option maxRecDepth 20000 in
theorem ggX7_raw_X7_of : GoodIn wsX7_raw wsX7_of := goodIn_r _ [18, 14, 38, 39, 40, 41, 42, 43, 44, 45, 46, 47, 48, 49, 50, 51, 52, 53, 54, 55, 56, 57, 58] (by decide +kernel) (by decide +kernel)
set_option maxRecDepth 20000 in
theorem gX7_raw_X7_of : GoodIn wsX7_raw (wsV RX7 59 RX7 yX7_of wsX7_of) := goodIn_app (goodIn_of _ (by decide +kernel)) ggX7_raw_X7_of
set_option maxRecDepth 20000 in
theorem ggX7_raw_X7_hasBase : GoodIn wsX7_raw wsX7_hasBase := goodIn_r _ [22, 14, 23, 24, 15, 16, 17, 5, 18, 25, 26, 27, 28, 29, 30, 38, 39, 40, 41, 42, 43, 44, 45, 46, 47, 48, 49, 50, 51, 52, 53, 54, 55, 56, 57, 58] (by decide +kernel) (by decide +kernel)
set_option maxRecDepth 20000 in
theorem gX7_raw_X7_hasBase : GoodIn wsX7_raw (wsV RX7 139 RX7 yX7_hasBase wsX7_hasBase) := goodIn_app (goodIn_of _ (by decide +kernel)) ggX7_raw_X7_hasBase
set_option maxRecDepth 20000 in
theorem ggX7_raw_X7_rawOf : GoodIn wsX7_raw wsX7_rawOf := goodIn_r _ [34, 35, 24, 36, 37, 23, 14, 28, 29, 5, 30, 38, 39, 40, 41, 42, 43, 44, 45, 46, 47, 48, 49, 50, 51, 52, 53, 54, 55, 56, 57, 58] (by decide +kernel) (by decide +kernel)
set_option maxRecDepth 20000 in
theorem gX7_raw_X7_rawOf : GoodIn wsX7_raw (wsV RX7 148 RX7 yX7_rawOf wsX7_rawOf) := goodIn_app (goodIn_of _ (by decide +kernel)) ggX7_raw_X7_rawOf
theorem dX7_raw_0 : decode cX7_raw 0 = .ok (.iload_n 1, 1) := by decide +kernel
theorem dX7_raw_1 : decode cX7_raw 1 = .ok (.invokestatic 86, 3) := by decide +kernel
theorem dX7_raw_4 : decode cX7_raw 4 = .ok (.ifCond .eq 12, 3) := by decide +kernel
theorem dX7_raw_7 : decode cX7_raw 7 = .ok (.aload_n 0, 1) := by decide +kernel
theorem dX7_raw_8 : decode cX7_raw 8 = .ok (.iload_n 1, 1) := by decide +kernel
theorem dX7_raw_9 : decode cX7_raw 9 = .ok (.iload_n 2, 1) := by decide +kernel
theorem dX7_raw_10 : decode cX7_raw 10 = .ok (.invokevirtual 89, 3) := by decide +kernel
theorem dX7_raw_13 : decode cX7_raw 13 = .ok (.ifCond .ne 6, 3) := by decide +kernel
theorem dX7_raw_16 : decode cX7_raw 16 = .ok (.ldc 55, 2) := by decide +kernel
theorem dX7_raw_18 : decode cX7_raw 18 = .ok (.ireturn, 1) := by decide +kernel
theorem dX7_raw_19 : decode cX7_raw 19 = .ok (.iload_n 1, 1) := by decide +kernel
theorem dX7_raw_20 : decode cX7_raw 20 = .ok (.iconst 1, 1) := by decide +kernel
theorem dX7_raw_21 : decode cX7_raw 21 = .ok (.iadd, 1) := by decide +kernel
theorem dX7_raw_22 : decode cX7_raw 22 = .ok (.istore_n 3, 1) := by decide +kernel
theorem dX7_raw_23 : decode cX7_raw 23 = .ok (.aload_n 0, 1) := by decide +kernel
theorem dX7_raw_24 : decode cX7_raw 24 = .ok (.aload_n 0, 1) := by decide +kernel
theorem dX7_raw_25 : decode cX7_raw 25 = .ok (.iload_n 3, 1) := by decide +kernel
theorem dX7_raw_26 : decode cX7_raw 26 = .ok (.iconst 0, 1) := by decide +kernel
theorem dX7_raw_27 : decode cX7_raw 27 = .ok (.iload_n 2, 1) := by decide +kernel
theorem dX7_raw_28 : decode cX7_raw 28 = .ok (.invokevirtual 59, 3) := by decide +kernel
theorem dX7_raw_31 : decode cX7_raw 31 = .ok (.invokevirtual 139, 3) := by decide +kernel
theorem dX7_raw_34 : decode cX7_raw 34 = .ok (.ifCond .eq 26, 3) := by decide +kernel
theorem dX7_raw_37 : decode cX7_raw 37 = .ok (.aload_n 0, 1) := by decide +kernel
theorem dX7_raw_38 : decode cX7_raw 38 = .ok (.aload_n 0, 1) := by decide +kernel
theorem dX7_raw_39 : decode cX7_raw 39 = .ok (.iload_n 3, 1) := by decide +kernel
theorem dX7_raw_40 : decode cX7_raw 40 = .ok (.bipush 20, 2) := by decide +kernel
theorem dX7_raw_42 : decode cX7_raw 42 = .ok (.iload_n 2, 1) := by decide +kernel
theorem dX7_raw_43 : decode cX7_raw 43 = .ok (.invokevirtual 59, 3) := by decide +kernel
theorem dX7_raw_46 : decode cX7_raw 46 = .ok (.aload_n 0, 1) := by decide +kernel
theorem dX7_raw_47 : decode cX7_raw 47 = .ok (.iload_n 3, 1) := by decide +kernel
theorem dX7_raw_48 : decode cX7_raw 48 = .ok (.bipush 40, 2) := by decide +kernel
theorem dX7_raw_50 : decode cX7_raw 50 = .ok (.iload_n 2, 1) := by decide +kernel
theorem dX7_raw_51 : decode cX7_raw 51 = .ok (.invokevirtual 59, 3) := by decide +kernel
theorem dX7_raw_54 : decode cX7_raw 54 = .ok (.invokevirtual 148, 3) := by decide +kernel
theorem dX7_raw_57 : decode cX7_raw 57 = .ok (.goto 5, 3) := by decide +kernel
theorem dX7_raw_60 : decode cX7_raw 60 = .ok (.ldc 92, 2) := by decide +kernel
theorem dX7_raw_62 : decode cX7_raw 62 = .ok (.ireturn, 1) := by decide +kernel
set_option maxRecDepth 20000 in
theorem ggX7_would_X7_areValues : GoodIn wsX7_would wsX7_areValues := goodIn_r _ [6, 7, 8, 9, 10, 5, 11] (by decide +kernel) (by decide +kernel)
set_option maxRecDepth 20000 in
theorem gX7_would_X7_areValues : GoodIn wsX7_would (va_wsS RX7 80 yX7_areValues wsX7_areValues) := goodIn_app (goodIn_of _ (by decide +kernel)) ggX7_would_X7_areValues
set_option maxRecDepth 20000 in
theorem ggX7_would_X7_hasBase : GoodIn wsX7_would wsX7_hasBase := goodIn_r _ [15, 16, 17, 18, 19, 20, 21, 5, 22, 23, 24, 25, 26, 27, 28, 36, 37, 38, 39, 40, 41, 42, 43, 44, 45, 46, 47, 48, 49, 50, 51, 52, 53, 54, 55, 56] (by decide +kernel) (by decide +kernel)
set_option maxRecDepth 20000 in
theorem gX7_would_X7_hasBase : GoodIn wsX7_would (wsV RX7 139 RX7 yX7_hasBase wsX7_hasBase) := goodIn_app (goodIn_of _ (by decide +kernel)) ggX7_would_X7_hasBase
set_option maxRecDepth 20000 in
theorem ggX7_would_X7_rawOf : GoodIn wsX7_would wsX7_rawOf := goodIn_r _ [32, 33, 18, 34, 35, 17, 16, 26, 27, 5, 28, 36, 37, 38, 39, 40, 41, 42, 43, 44, 45, 46, 47, 48, 49, 50, 51, 52, 53, 54, 55, 56] (by decide +kernel) (by decide +kernel)
set_option maxRecDepth 20000 in
theorem gX7_would_X7_rawOf : GoodIn wsX7_would (wsV RX7 148 RX7 yX7_rawOf wsX7_rawOf) := goodIn_app (goodIn_of _ (by decide +kernel)) ggX7_would_X7_rawOf
theorem dX7_would_0 : decode cX7_would 0 = .ok (.iload_n 1, 1) := by decide +kernel
theorem dX7_would_1 : decode cX7_would 1 = .ok (.iload_n 2, 1) := by decide +kernel
theorem dX7_would_2 : decode cX7_would 2 = .ok (.iload_n 3, 1) := by decide +kernel
theorem dX7_would_3 : decode cX7_would 3 = .ok (.invokestatic 80, 3) := by decide +kernel
theorem dX7_would_6 : decode cX7_would 6 = .ok (.ifCond .ne 6, 3) := by decide +kernel
theorem dX7_would_9 : decode cX7_would 9 = .ok (.ldc 55, 2) := by decide +kernel
theorem dX7_would_11 : decode cX7_would 11 = .ok (.ireturn, 1) := by decide +kernel
theorem dX7_would_12 : decode cX7_would 12 = .ok (.aload_n 0, 1) := by decide +kernel
theorem dX7_would_13 : decode cX7_would 13 = .ok (.iload_n 1, 1) := by decide +kernel
theorem dX7_would_14 : decode cX7_would 14 = .ok (.invokevirtual 139, 3) := by decide +kernel
theorem dX7_would_17 : decode cX7_would 17 = .ok (.ifCond .eq 12, 3) := by decide +kernel
theorem dX7_would_20 : decode cX7_would 20 = .ok (.aload_n 0, 1) := by decide +kernel
theorem dX7_would_21 : decode cX7_would 21 = .ok (.iload_n 2, 1) := by decide +kernel
theorem dX7_would_22 : decode cX7_would 22 = .ok (.iload_n 3, 1) := by decide +kernel
theorem dX7_would_23 : decode cX7_would 23 = .ok (.invokevirtual 148, 3) := by decide +kernel
theorem dX7_would_26 : decode cX7_would 26 = .ok (.goto 5, 3) := by decide +kernel
theorem dX7_would_29 : decode cX7_would 29 = .ok (.ldc 92, 2) := by decide +kernel
theorem dX7_would_31 : decode cX7_would 31 = .ok (.ireturn, 1) := by decide +kernel
set_option maxRecDepth 20000 in
theorem ggX7_pressureFor_X7_in : GoodIn wsX7_pressureFor wsX7_in := goodIn_r _ [10] (by decide +kernel) (by decide +kernel)
set_option maxRecDepth 20000 in
theorem gX7_pressureFor_X7_in : GoodIn wsX7_pressureFor (va_wsS RX7 39 yX7_in wsX7_in) := goodIn_app (goodIn_of _ (by decide +kernel)) ggX7_pressureFor_X7_in
set_option maxRecDepth 20000 in
theorem ggX7_pressureFor_X7_hasBase : GoodIn wsX7_pressureFor wsX7_hasBase := goodIn_r _ [14, 15, 16, 17, 18, 19, 20, 9, 21, 22, 23, 24, 25, 26, 27, 35, 36, 37, 38, 39, 40, 41, 42, 43, 44, 45, 46, 47, 48, 49, 50, 51, 52, 53, 54, 55] (by decide +kernel) (by decide +kernel)
set_option maxRecDepth 20000 in
theorem gX7_pressureFor_X7_hasBase : GoodIn wsX7_pressureFor (wsV RX7 139 RX7 yX7_hasBase wsX7_hasBase) := goodIn_app (goodIn_of _ (by decide +kernel)) ggX7_pressureFor_X7_hasBase
set_option maxRecDepth 20000 in
theorem ggX7_pressureFor_X7_rawOf : GoodIn wsX7_pressureFor wsX7_rawOf := goodIn_r _ [31, 32, 17, 33, 34, 16, 15, 25, 26, 9, 27, 35, 36, 37, 38, 39, 40, 41, 42, 43, 44, 45, 46, 47, 48, 49, 50, 51, 52, 53, 54, 55] (by decide +kernel) (by decide +kernel)
set_option maxRecDepth 20000 in
theorem gX7_pressureFor_X7_rawOf : GoodIn wsX7_pressureFor (wsV RX7 148 RX7 yX7_rawOf wsX7_rawOf) := goodIn_app (goodIn_of _ (by decide +kernel)) ggX7_pressureFor_X7_rawOf
theorem dX7_pressureFor_0 : decode cX7_pressureFor 0 = .ok (.iload_n 1, 1) := by decide +kernel
theorem dX7_pressureFor_1 : decode cX7_pressureFor 1 = .ok (.iconst 0, 1) := by decide +kernel
theorem dX7_pressureFor_2 : decode cX7_pressureFor 2 = .ok (.sipush 10000, 3) := by decide +kernel
