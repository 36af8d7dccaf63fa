theorem dX7_pressureFor_5 : decode cX7_pressureFor 5 = .ok (.invokestatic 39, 3) := by decide +kernel
theorem dX7_pressureFor_8 : decode cX7_pressureFor 8 = .ok (.ifCond .eq 27, 3) := by decide +kernel
theorem dX7_pressureFor_11 : decode cX7_pressureFor 11 = .ok (.iload_n 2, 1) := by decide +kernel
theorem dX7_pressureFor_12 : decode cX7_pressureFor 12 = .ok (.sipush (-300), 3) := by decide +kernel
theorem dX7_pressureFor_15 : decode cX7_pressureFor 15 = .ok (.sipush 500, 3) := by decide +kernel
theorem dX7_pressureFor_18 : decode cX7_pressureFor 18 = .ok (.invokestatic 39, 3) := by decide +kernel
theorem dX7_pressureFor_21 : decode cX7_pressureFor 21 = .ok (.ifCond .eq 14, 3) := by decide +kernel
theorem dX7_pressureFor_24 : decode cX7_pressureFor 24 = .ok (.iload_n 3, 1) := by decide +kernel
theorem dX7_pressureFor_25 : decode cX7_pressureFor 25 = .ok (.ldc 152, 2) := by decide +kernel
theorem dX7_pressureFor_27 : decode cX7_pressureFor 27 = .ok (.ldc 153, 2) := by decide +kernel
theorem dX7_pressureFor_29 : decode cX7_pressureFor 29 = .ok (.invokestatic 39, 3) := by decide +kernel
theorem dX7_pressureFor_32 : decode cX7_pressureFor 32 = .ok (.ifCond .ne 6, 3) := by decide +kernel
theorem dX7_pressureFor_35 : decode cX7_pressureFor 35 = .ok (.ldc 55, 2) := by decide +kernel
theorem dX7_pressureFor_37 : decode cX7_pressureFor 37 = .ok (.ireturn, 1) := by decide +kernel
theorem dX7_pressureFor_38 : decode cX7_pressureFor 38 = .ok (.aload_n 0, 1) := by decide +kernel
theorem dX7_pressureFor_39 : decode cX7_pressureFor 39 = .ok (.iload_n 1, 1) := by decide +kernel
theorem dX7_pressureFor_40 : decode cX7_pressureFor 40 = .ok (.invokevirtual 139, 3) := by decide +kernel
theorem dX7_pressureFor_43 : decode cX7_pressureFor 43 = .ok (.ifCond .ne 6, 3) := by decide +kernel
theorem dX7_pressureFor_46 : decode cX7_pressureFor 46 = .ok (.ldc 92, 2) := by decide +kernel
theorem dX7_pressureFor_48 : decode cX7_pressureFor 48 = .ok (.ireturn, 1) := by decide +kernel
theorem dX7_pressureFor_49 : decode cX7_pressureFor 49 = .ok (.ldc 44, 2) := by decide +kernel
theorem dX7_pressureFor_51 : decode cX7_pressureFor 51 = .ok (.istore 4, 2) := by decide +kernel
theorem dX7_pressureFor_53 : decode cX7_pressureFor 53 = .ok (.iload 4, 2) := by decide +kernel
theorem dX7_pressureFor_55 : decode cX7_pressureFor 55 = .ok (.ldc 43, 2) := by decide +kernel
theorem dX7_pressureFor_57 : decode cX7_pressureFor 57 = .ok (.if_icmp .lt 23, 3) := by decide +kernel
theorem dX7_pressureFor_60 : decode cX7_pressureFor 60 = .ok (.aload_n 0, 1) := by decide +kernel
theorem dX7_pressureFor_61 : decode cX7_pressureFor 61 = .ok (.iload 4, 2) := by decide +kernel
theorem dX7_pressureFor_63 : decode cX7_pressureFor 63 = .ok (.iload_n 2, 1) := by decide +kernel
theorem dX7_pressureFor_64 : decode cX7_pressureFor 64 = .ok (.invokevirtual 148, 3) := by decide +kernel
theorem dX7_pressureFor_67 : decode cX7_pressureFor 67 = .ok (.iload_n 3, 1) := by decide +kernel
theorem dX7_pressureFor_68 : decode cX7_pressureFor 68 = .ok (.if_icmp .lt 6, 3) := by decide +kernel
theorem dX7_pressureFor_71 : decode cX7_pressureFor 71 = .ok (.iload 4, 2) := by decide +kernel
theorem dX7_pressureFor_73 : decode cX7_pressureFor 73 = .ok (.ireturn, 1) := by decide +kernel
theorem dX7_pressureFor_74 : decode cX7_pressureFor 74 = .ok (.iinc 4 (-1), 3) := by decide +kernel
theorem dX7_pressureFor_77 : decode cX7_pressureFor 77 = .ok (.goto (-24), 3) := by decide +kernel
theorem dX7_pressureFor_80 : decode cX7_pressureFor 80 = .ok (.ldc 92, 2) := by decide +kernel
theorem dX7_pressureFor_82 : decode cX7_pressureFor 82 = .ok (.ireturn, 1) := by decide +kernel
set_option maxRecDepth 20000 in
theorem ggX7_looks_X7_isGust : GoodIn wsX7_looks wsX7_isGust := goodIn_r _ [11, 2, 12, 13, 14, 10, 15, 35, 36, 37, 38, 39, 40, 41, 42, 43, 44, 45, 46, 47, 48, 49, 50, 51, 52, 53, 54, 55] (by decide +kernel) (by decide +kernel)
set_option maxRecDepth 20000 in
theorem gX7_looks_X7_isGust : GoodIn wsX7_looks (wsV RX7 93 RX7 yX7_isGust wsX7_isGust) := goodIn_app (goodIn_of _ (by decide +kernel)) ggX7_looks_X7_isGust
set_option maxRecDepth 20000 in
theorem ggX7_looks_X7_of : GoodIn wsX7_looks wsX7_of := goodIn_r _ [15, 2, 35, 36, 37, 38, 39, 40, 41, 42, 43, 44, 45, 46, 47, 48, 49, 50, 51, 52, 53, 54, 55] (by decide +kernel) (by decide +kernel)
set_option maxRecDepth 20000 in
theorem gX7_looks_X7_of : GoodIn wsX7_looks (wsV RX7 59 RX7 yX7_of wsX7_of) := goodIn_app (goodIn_of _ (by decide +kernel)) ggX7_looks_X7_of
set_option maxRecDepth 20000 in
theorem ggX7_looks_X7_hasBase : GoodIn wsX7_looks wsX7_hasBase := goodIn_r _ [19, 2, 20, 21, 12, 13, 14, 10, 15, 22, 23, 24, 25, 26, 27, 35, 36, 37, 38, 39, 40, 41, 42, 43, 44, 45, 46, 47, 48, 49, 50, 51, 52, 53, 54, 55] (by decide +kernel) (by decide +kernel)
set_option maxRecDepth 20000 in
theorem gX7_looks_X7_hasBase : GoodIn wsX7_looks (wsV RX7 139 RX7 yX7_hasBase wsX7_hasBase) := goodIn_app (goodIn_of _ (by decide +kernel)) ggX7_looks_X7_hasBase
set_option maxRecDepth 20000 in
theorem ggX7_looks_X7_rawOf : GoodIn wsX7_looks wsX7_rawOf := goodIn_r _ [31, 32, 21, 33, 34, 20, 2, 25, 26, 10, 27, 35, 36, 37, 38, 39, 40, 41, 42, 43, 44, 45, 46, 47, 48, 49, 50, 51, 52, 53, 54, 55] (by decide +kernel) (by decide +kernel)
set_option maxRecDepth 20000 in
theorem gX7_looks_X7_rawOf : GoodIn wsX7_looks (wsV RX7 148 RX7 yX7_rawOf wsX7_rawOf) := goodIn_app (goodIn_of _ (by decide +kernel)) ggX7_looks_X7_rawOf
theorem dX7_looks_0 : decode cX7_looks 0 = .ok (.aload_n 0, 1) := by decide +kernel
theorem dX7_looks_1 : decode cX7_looks 1 = .ok (.iconst 0, 1) := by decide +kernel
theorem dX7_looks_2 : decode cX7_looks 2 = .ok (.putfield 104, 3) := by decide +kernel
theorem dX7_looks_5 : decode cX7_looks 5 = .ok (.iconst 0, 1) := by decide +kernel
theorem dX7_looks_6 : decode cX7_looks 6 = .ok (.istore_n 2, 1) := by decide +kernel
theorem dX7_looks_7 : decode cX7_looks 7 = .ok (.iload_n 2, 1) := by decide +kernel
theorem dX7_looks_8 : decode cX7_looks 8 = .ok (.aload_n 0, 1) := by decide +kernel
theorem dX7_looks_9 : decode cX7_looks 9 = .ok (.getfield 7, 3) := by decide +kernel
theorem dX7_looks_12 : decode cX7_looks 12 = .ok (.iconst 3, 1) := by decide +kernel
theorem dX7_looks_13 : decode cX7_looks 13 = .ok (.iload_n 1, 1) := by decide +kernel
theorem dX7_looks_14 : decode cX7_looks 14 = .ok (.iadd, 1) := by decide +kernel
theorem dX7_looks_15 : decode cX7_looks 15 = .ok (.iaload, 1) := by decide +kernel
theorem dX7_looks_16 : decode cX7_looks 16 = .ok (.if_icmp .ge 167, 3) := by decide +kernel
theorem dX7_looks_19 : decode cX7_looks 19 = .ok (.aload_n 0, 1) := by decide +kernel
theorem dX7_looks_20 : decode cX7_looks 20 = .ok (.getfield 29, 3) := by decide +kernel
theorem dX7_looks_23 : decode cX7_looks 23 = .ok (.iload_n 2, 1) := by decide +kernel
theorem dX7_looks_24 : decode cX7_looks 24 = .ok (.aload_n 0, 1) := by decide +kernel
theorem dX7_looks_25 : decode cX7_looks 25 = .ok (.iload_n 1, 1) := by decide +kernel
theorem dX7_looks_26 : decode cX7_looks 26 = .ok (.iload_n 2, 1) := by decide +kernel
theorem dX7_looks_27 : decode cX7_looks 27 = .ok (.invokevirtual 93, 3) := by decide +kernel
theorem dX7_looks_30 : decode cX7_looks 30 = .ok (.ifCond .ne 21, 3) := by decide +kernel
theorem dX7_looks_33 : decode cX7_looks 33 = .ok (.aload_n 0, 1) := by decide +kernel
theorem dX7_looks_34 : decode cX7_looks 34 = .ok (.aload_n 0, 1) := by decide +kernel
theorem dX7_looks_35 : decode cX7_looks 35 = .ok (.iload_n 1, 1) := by decide +kernel
theorem dX7_looks_36 : decode cX7_looks 36 = .ok (.iconst 0, 1) := by decide +kernel
theorem dX7_looks_37 : decode cX7_looks 37 = .ok (.iload_n 2, 1) := by decide +kernel
theorem dX7_looks_38 : decode cX7_looks 38 = .ok (.invokevirtual 59, 3) := by decide +kernel
theorem dX7_looks_41 : decode cX7_looks 41 = .ok (.invokevirtual 139, 3) := by decide +kernel
theorem dX7_looks_44 : decode cX7_looks 44 = .ok (.ifCond .eq 7, 3) := by decide +kernel
theorem dX7_looks_47 : decode cX7_looks 47 = .ok (.iconst 1, 1) := by decide +kernel
theorem dX7_looks_48 : decode cX7_looks 48 = .ok (.goto 4, 3) := by decide +kernel
theorem dX7_looks_51 : decode cX7_looks 51 = .ok (.iconst 0, 1) := by decide +kernel
theorem dX7_looks_52 : decode cX7_looks 52 = .ok (.bastore, 1) := by decide +kernel
theorem dX7_looks_53 : decode cX7_looks 53 = .ok (.aload_n 0, 1) := by decide +kernel
theorem dX7_looks_54 : decode cX7_looks 54 = .ok (.getfield 26, 3) := by decide +kernel
theorem dX7_looks_57 : decode cX7_looks 57 = .ok (.iload_n 2, 1) := by decide +kernel
theorem dX7_looks_58 : decode cX7_looks 58 = .ok (.aload_n 0, 1) := by decide +kernel
theorem dX7_looks_59 : decode cX7_looks 59 = .ok (.getfield 29, 3) := by decide +kernel
theorem dX7_looks_62 : decode cX7_looks 62 = .ok (.iload_n 2, 1) := by decide +kernel
theorem dX7_looks_63 : decode cX7_looks 63 = .ok (.baload, 1) := by decide +kernel
theorem dX7_looks_64 : decode cX7_looks 64 = .ok (.ifCond .eq 26, 3) := by decide +kernel
theorem dX7_looks_67 : decode cX7_looks 67 = .ok (.aload_n 0, 1) := by decide +kernel
theorem dX7_looks_68 : decode cX7_looks 68 = .ok (.aload_n 0, 1) := by decide +kernel
theorem dX7_looks_69 : decode cX7_looks 69 = .ok (.iload_n 1, 1) := by decide +kernel
theorem dX7_looks_70 : decode cX7_looks 70 = .ok (.bipush 20, 2) := by decide +kernel
theorem dX7_looks_72 : decode cX7_looks 72 = .ok (.iload_n 2, 1) := by decide +kernel
theorem dX7_looks_73 : decode cX7_looks 73 = .ok (.invokevirtual 59, 3) := by decide +kernel
theorem dX7_looks_76 : decode cX7_looks 76 = .ok (.aload_n 0, 1) := by decide +kernel
theorem dX7_looks_77 : decode cX7_looks 77 = .ok (.iload_n 1, 1) := by decide +kernel
theorem dX7_looks_78 : decode cX7_looks 78 = .ok (.bipush 40, 2) := by decide +kernel
theorem dX7_looks_80 : decode cX7_looks 80 = .ok (.iload_n 2, 1) := by decide +kernel
theorem dX7_looks_81 : decode cX7_looks 81 = .ok (.invokevirtual 59, 3) := by decide +kernel
theorem dX7_looks_84 : decode cX7_looks 84 = .ok (.invokevirtual 148, 3) := by decide +kernel
theorem dX7_looks_87 : decode cX7_looks 87 = .ok (.goto 4, 3) := by decide +kernel
theorem dX7_looks_90 : decode cX7_looks 90 = .ok (.iconst 0, 1) := by decide +kernel
theorem dX7_looks_91 : decode cX7_looks 91 = .ok (.iastore, 1) := by decide +kernel
theorem dX7_looks_92 : decode cX7_looks 92 = .ok (.iload_n 2, 1) := by decide +kernel
theorem dX7_looks_93 : decode cX7_looks 93 = .ok (.iconst 1, 1) := by decide +kernel
theorem dX7_looks_94 : decode cX7_looks 94 = .ok (.isub, 1) := by decide +kernel
theorem dX7_looks_95 : decode cX7_looks 95 = .ok (.istore_n 3, 1) := by decide +kernel
theorem dX7_looks_96 : decode cX7_looks 96 = .ok (.iload_n 3, 1) := by decide +kernel
theorem dX7_looks_97 : decode cX7_looks 97 = .ok (.ifCond .lt 37, 3) := by decide +kernel
theorem dX7_looks_100 : decode cX7_looks 100 = .ok (.aload_n 0, 1) := by decide +kernel
theorem dX7_looks_101 : decode cX7_looks 101 = .ok (.getfield 29, 3) := by decide +kernel
theorem dX7_looks_104 : decode cX7_looks 104 = .ok (.iload_n 3, 1) := by decide +kernel
theorem dX7_looks_105 : decode cX7_looks 105 = .ok (.baload, 1) := by decide +kernel
theorem dX7_looks_106 : decode cX7_looks 106 = .ok (.ifCond .eq 22, 3) := by decide +kernel
theorem dX7_looks_109 : decode cX7_looks 109 = .ok (.aload_n 0, 1) := by decide +kernel
theorem dX7_looks_110 : decode cX7_looks 110 = .ok (.iload_n 1, 1) := by decide +kernel
theorem dX7_looks_111 : decode cX7_looks 111 = .ok (.bipush 60, 2) := by decide +kernel
theorem dX7_looks_113 : decode cX7_looks 113 = .ok (.iload_n 3, 1) := by decide +kernel
theorem dX7_looks_114 : decode cX7_looks 114 = .ok (.invokevirtual 59, 3) := by decide +kernel
theorem dX7_looks_117 : decode cX7_looks 117 = .ok (.aload_n 0, 1) := by decide +kernel
theorem dX7_looks_118 : decode cX7_looks 118 = .ok (.iload_n 1, 1) := by decide +kernel
theorem dX7_looks_119 : decode cX7_looks 119 = .ok (.bipush 60, 2) := by decide +kernel
theorem dX7_looks_121 : decode cX7_looks 121 = .ok (.iload_n 2, 1) := by decide +kernel
theorem dX7_looks_122 : decode cX7_looks 122 = .ok (.invokevirtual 59, 3) := by decide +kernel
theorem dX7_looks_125 : decode cX7_looks 125 = .ok (.if_icmp .eq 9, 3) := by decide +kernel
theorem dX7_looks_128 : decode cX7_looks 128 = .ok (.iinc 3 (-1), 3) := by decide +kernel
theorem dX7_looks_131 : decode cX7_looks 131 = .ok (.goto (-35), 3) := by decide +kernel
theorem dX7_looks_134 : decode cX7_looks 134 = .ok (.aload_n 0, 1) := by decide +kernel
theorem dX7_looks_135 : decode cX7_looks 135 = .ok (.getfield 29, 3) := by decide +kernel
theorem dX7_looks_138 : decode cX7_looks 138 = .ok (.iload_n 2, 1) := by decide +kernel
theorem dX7_looks_139 : decode cX7_looks 139 = .ok (.baload, 1) := by decide +kernel
theorem dX7_looks_140 : decode cX7_looks 140 = .ok (.ifCond .eq 37, 3) := by decide +kernel
theorem dX7_looks_143 : decode cX7_looks 143 = .ok (.iload_n 3, 1) := by decide +kernel
theorem dX7_looks_144 : decode cX7_looks 144 = .ok (.ifCond .lt 33, 3) := by decide +kernel
theorem dX7_looks_147 : decode cX7_looks 147 = .ok (.aload_n 0, 1) := by decide +kernel
theorem dX7_looks_148 : decode cX7_looks 148 = .ok (.getfield 33, 3) := by decide +kernel
theorem dX7_looks_151 : decode cX7_looks 151 = .ok (.aload_n 0, 1) := by decide +kernel
theorem dX7_looks_152 : decode cX7_looks 152 = .ok (.getfield 104, 3) := by decide +kernel
theorem dX7_looks_155 : decode cX7_looks 155 = .ok (.iload_n 3, 1) := by decide +kernel
theorem dX7_looks_156 : decode cX7_looks 156 = .ok (.iastore, 1) := by decide +kernel
theorem dX7_looks_157 : decode cX7_looks 157 = .ok (.aload_n 0, 1) := by decide +kernel
theorem dX7_looks_158 : decode cX7_looks 158 = .ok (.getfield 36, 3) := by decide +kernel
theorem dX7_looks_161 : decode cX7_looks 161 = .ok (.aload_n 0, 1) := by decide +kernel
theorem dX7_looks_162 : decode cX7_looks 162 = .ok (.getfield 104, 3) := by decide +kernel
theorem dX7_looks_165 : decode cX7_looks 165 = .ok (.iload_n 2, 1) := by decide +kernel
theorem dX7_looks_166 : decode cX7_looks 166 = .ok (.iastore, 1) := by decide +kernel
theorem dX7_looks_167 : decode cX7_looks 167 = .ok (.aload_n 0, 1) := by decide +kernel
theorem dX7_looks_168 : decode cX7_looks 168 = .ok (.dup, 1) := by decide +kernel
theorem dX7_looks_169 : decode cX7_looks 169 = .ok (.getfield 104, 3) := by decide +kernel
theorem dX7_looks_172 : decode cX7_looks 172 = .ok (.iconst 1, 1) := by decide +kernel
theorem dX7_looks_173 : decode cX7_looks 173 = .ok (.iadd, 1) := by decide +kernel
theorem dX7_looks_174 : decode cX7_looks 174 = .ok (.putfield 104, 3) := by decide +kernel
theorem dX7_looks_177 : decode cX7_looks 177 = .ok (.iinc 2 1, 3) := by decide +kernel
theorem dX7_looks_180 : decode cX7_looks 180 = .ok (.goto (-173), 3) := by decide +kernel
theorem dX7_looks_183 : decode cX7_looks 183 = .ok (.return_, 1) := by decide +kernel
set_option maxRecDepth 20000 in
theorem ggX7_timeOf_X7_of : GoodIn wsX7_timeOf wsX7_of := goodIn_r _ [7, 8, 9, 10, 11, 12, 13, 14, 15, 16, 17, 18, 19, 20, 21, 22, 23, 24, 25, 26, 27, 28, 29] (by decide +kernel) (by decide +kernel)
set_option maxRecDepth 20000 in
theorem gX7_timeOf_X7_of : GoodIn wsX7_timeOf (wsV RX7 59 RX7 yX7_of wsX7_of) := goodIn_app (goodIn_of _ (by decide +kernel)) ggX7_timeOf_X7_of
theorem dX7_timeOf_0 : decode cX7_timeOf 0 = .ok (.aload_n 0, 1) := by decide +kernel
theorem dX7_timeOf_1 : decode cX7_timeOf 1 = .ok (.iload_n 1, 1) := by decide +kernel
theorem dX7_timeOf_2 : decode cX7_timeOf 2 = .ok (.iconst 0, 1) := by decide +kernel
theorem dX7_timeOf_3 : decode cX7_timeOf 3 = .ok (.aload_n 0, 1) := by decide +kernel
theorem dX7_timeOf_4 : decode cX7_timeOf 4 = .ok (.getfield 36, 3) := by decide +kernel
theorem dX7_timeOf_7 : decode cX7_timeOf 7 = .ok (.iload_n 2, 1) := by decide +kernel
theorem dX7_timeOf_8 : decode cX7_timeOf 8 = .ok (.iaload, 1) := by decide +kernel
theorem dX7_timeOf_9 : decode cX7_timeOf 9 = .ok (.invokevirtual 59, 3) := by decide +kernel
theorem dX7_timeOf_12 : decode cX7_timeOf 12 = .ok (.aload_n 0, 1) := by decide +kernel
theorem dX7_timeOf_13 : decode cX7_timeOf 13 = .ok (.iload_n 1, 1) := by decide +kernel
theorem dX7_timeOf_14 : decode cX7_timeOf 14 = .ok (.iconst 0, 1) := by decide +kernel
theorem dX7_timeOf_15 : decode cX7_timeOf 15 = .ok (.aload_n 0, 1) := by decide +kernel
theorem dX7_timeOf_16 : decode cX7_timeOf 16 = .ok (.getfield 33, 3) := by decide +kernel
theorem dX7_timeOf_19 : decode cX7_timeOf 19 = .ok (.iload_n 2, 1) := by decide +kernel
theorem dX7_timeOf_20 : decode cX7_timeOf 20 = .ok (.iaload, 1) := by decide +kernel
theorem dX7_timeOf_21 : decode cX7_timeOf 21 = .ok (.invokevirtual 59, 3) := by decide +kernel
theorem dX7_timeOf_24 : decode cX7_timeOf 24 = .ok (.isub, 1) := by decide +kernel
theorem dX7_timeOf_25 : decode cX7_timeOf 25 = .ok (.ireturn, 1) := by decide +kernel
set_option maxRecDepth 20000 in
theorem ggX7_open_X7_timeOf : GoodIn wsX7_open wsX7_timeOf := goodIn_r _ [8, 3, 2, 9, 10, 11, 7, 12, 13, 14, 15, 16, 17, 18, 19, 20, 21, 22, 23, 24, 25, 26, 27, 28, 29, 30, 31, 32, 33, 34] (by decide +kernel) (by decide +kernel)
set_option maxRecDepth 20000 in
theorem gX7_open_X7_timeOf : GoodIn wsX7_open (wsV RX7 154 RX7 yX7_timeOf wsX7_timeOf) := goodIn_app (goodIn_of _ (by decide +kernel)) ggX7_open_X7_timeOf
theorem dX7_open_0 : decode cX7_open 0 = .ok (.iconst (-1), 1) := by decide +kernel
theorem dX7_open_1 : decode cX7_open 1 = .ok (.istore_n 3, 1) := by decide +kernel
theorem dX7_open_2 : decode cX7_open 2 = .ok (.iconst 0, 1) := by decide +kernel
theorem dX7_open_3 : decode cX7_open 3 = .ok (.istore 4, 2) := by decide +kernel
theorem dX7_open_5 : decode cX7_open 5 = .ok (.iload 4, 2) := by decide +kernel
theorem dX7_open_7 : decode cX7_open 7 = .ok (.aload_n 0, 1) := by decide +kernel
theorem dX7_open_8 : decode cX7_open 8 = .ok (.getfield 104, 3) := by decide +kernel
theorem dX7_open_11 : decode cX7_open 11 = .ok (.if_icmp .ge 71, 3) := by decide +kernel
theorem dX7_open_14 : decode cX7_open 14 = .ok (.aload_n 0, 1) := by decide +kernel
theorem dX7_open_15 : decode cX7_open 15 = .ok (.getfield 33, 3) := by decide +kernel
theorem dX7_open_18 : decode cX7_open 18 = .ok (.iload 4, 2) := by decide +kernel
theorem dX7_open_20 : decode cX7_open 20 = .ok (.iaload, 1) := by decide +kernel
theorem dX7_open_21 : decode cX7_open 21 = .ok (.iload_n 2, 1) := by decide +kernel
theorem dX7_open_22 : decode cX7_open 22 = .ok (.if_icmp .gt 39, 3) := by decide +kernel
theorem dX7_open_25 : decode cX7_open 25 = .ok (.iload_n 2, 1) := by decide +kernel
theorem dX7_open_26 : decode cX7_open 26 = .ok (.aload_n 0, 1) := by decide +kernel
theorem dX7_open_27 : decode cX7_open 27 = .ok (.getfield 36, 3) := by decide +kernel
theorem dX7_open_30 : decode cX7_open 30 = .ok (.iload 4, 2) := by decide +kernel
theorem dX7_open_32 : decode cX7_open 32 = .ok (.iaload, 1) := by decide +kernel
theorem dX7_open_33 : decode cX7_open 33 = .ok (.if_icmp .gt 28, 3) := by decide +kernel
theorem dX7_open_36 : decode cX7_open 36 = .ok (.iload_n 3, 1) := by decide +kernel
theorem dX7_open_37 : decode cX7_open 37 = .ok (.iconst (-1), 1) := by decide +kernel
theorem dX7_open_38 : decode cX7_open 38 = .ok (.if_icmp .eq 19, 3) := by decide +kernel
theorem dX7_open_41 : decode cX7_open 41 = .ok (.aload_n 0, 1) := by decide +kernel
theorem dX7_open_42 : decode cX7_open 42 = .ok (.iload_n 1, 1) := by decide +kernel
theorem dX7_open_43 : decode cX7_open 43 = .ok (.iload 4, 2) := by decide +kernel
theorem dX7_open_45 : decode cX7_open 45 = .ok (.invokevirtual 154, 3) := by decide +kernel
theorem dX7_open_48 : decode cX7_open 48 = .ok (.aload_n 0, 1) := by decide +kernel
theorem dX7_open_49 : decode cX7_open 49 = .ok (.iload_n 1, 1) := by decide +kernel
theorem dX7_open_50 : decode cX7_open 50 = .ok (.iload_n 3, 1) := by decide +kernel
theorem dX7_open_51 : decode cX7_open 51 = .ok (.invokevirtual 154, 3) := by decide +kernel
theorem dX7_open_54 : decode cX7_open 54 = .ok (.if_icmp .ge 7, 3) := by decide +kernel
theorem dX7_open_57 : decode cX7_open 57 = .ok (.iconst 1, 1) := by decide +kernel
theorem dX7_open_58 : decode cX7_open 58 = .ok (.goto 4, 3) := by decide +kernel
theorem dX7_open_61 : decode cX7_open 61 = .ok (.iconst 0, 1) := by decide +kernel
theorem dX7_open_62 : decode cX7_open 62 = .ok (.istore 5, 2) := by decide +kernel
theorem dX7_open_64 : decode cX7_open 64 = .ok (.iload 5, 2) := by decide +kernel
theorem dX7_open_66 : decode cX7_open 66 = .ok (.ifCond .eq 8, 3) := by decide +kernel
theorem dX7_open_69 : decode cX7_open 69 = .ok (.iload 4, 2) := by decide +kernel
theorem dX7_open_71 : decode cX7_open 71 = .ok (.goto 4, 3) := by decide +kernel
theorem dX7_open_74 : decode cX7_open 74 = .ok (.iload_n 3, 1) := by decide +kernel
theorem dX7_open_75 : decode cX7_open 75 = .ok (.istore_n 3, 1) := by decide +kernel
theorem dX7_open_76 : decode cX7_open 76 = .ok (.iinc 4 1, 3) := by decide +kernel
theorem dX7_open_79 : decode cX7_open 79 = .ok (.goto (-74), 3) := by decide +kernel
theorem dX7_open_82 : decode cX7_open 82 = .ok (.iload_n 3, 1) := by decide +kernel
theorem dX7_open_83 : decode cX7_open 83 = .ok (.ireturn, 1) := by decide +kernel
set_option maxRecDepth 20000 in
theorem ggX7_correctedOf_X7_open : GoodIn wsX7_correctedOf wsX7_open := goodIn_r _ [8, 9, 3, 2, 10, 11, 12, 7, 13, 14, 15, 16, 17, 18, 22, 23, 24, 25, 26, 27, 28, 29, 30, 31, 32, 33, 34, 35, 36, 37, 38, 39, 40, 41, 42] (by decide +kernel) (by decide +kernel)
set_option maxRecDepth 20000 in
theorem gX7_correctedOf_X7_open : GoodIn wsX7_correctedOf (wsV RX7 157 RX7 yX7_open wsX7_open) := goodIn_app (goodIn_of _ (by decide +kernel)) ggX7_correctedOf_X7_open
set_option maxRecDepth 20000 in
theorem ggX7_correctedOf_X7_of : GoodIn wsX7_correctedOf wsX7_of := goodIn_r _ [17, 18, 22, 23, 24, 25, 26, 27, 28, 29, 30, 31, 32, 33, 34, 35, 36, 37, 38, 39, 40, 41, 42] (by decide +kernel) (by decide +kernel)
set_option maxRecDepth 20000 in
theorem gX7_correctedOf_X7_of : GoodIn wsX7_correctedOf (wsV RX7 59 RX7 yX7_of wsX7_of) := goodIn_app (goodIn_of _ (by decide +kernel)) ggX7_correctedOf_X7_of
set_option maxRecDepth 20000 in
theorem ggX7_correctedOf_X7_timeOf : GoodIn wsX7_correctedOf wsX7_timeOf := goodIn_r _ [13, 2, 3, 14, 15, 16, 7, 17, 18, 22, 23, 24, 25, 26, 27, 28, 29, 30, 31, 32, 33, 34, 35, 36, 37, 38, 39, 40, 41, 42] (by decide +kernel) (by decide +kernel)
set_option maxRecDepth 20000 in
theorem gX7_correctedOf_X7_timeOf : GoodIn wsX7_correctedOf (wsV RX7 154 RX7 yX7_timeOf wsX7_timeOf) := goodIn_app (goodIn_of _ (by decide +kernel)) ggX7_correctedOf_X7_timeOf
set_option maxRecDepth 20000 in
theorem ggX7_correctedOf_X7_down : GoodIn wsX7_correctedOf wsX7_down := goodIn_r _ [21] (by decide +kernel) (by decide +kernel)
set_option maxRecDepth 20000 in
theorem gX7_correctedOf_X7_down : GoodIn wsX7_correctedOf (va_wsS RX7 126 yX7_down wsX7_down) := goodIn_app (goodIn_of _ (by decide +kernel)) ggX7_correctedOf_X7_down
theorem dX7_correctedOf_0 : decode cX7_correctedOf 0 = .ok (.aload_n 0, 1) := by decide +kernel
theorem dX7_correctedOf_1 : decode cX7_correctedOf 1 = .ok (.iload_n 1, 1) := by decide +kernel
theorem dX7_correctedOf_2 : decode cX7_correctedOf 2 = .ok (.iload_n 2, 1) := by decide +kernel
theorem dX7_correctedOf_3 : decode cX7_correctedOf 3 = .ok (.invokevirtual 157, 3) := by decide +kernel
theorem dX7_correctedOf_6 : decode cX7_correctedOf 6 = .ok (.istore_n 3, 1) := by decide +kernel
theorem dX7_correctedOf_7 : decode cX7_correctedOf 7 = .ok (.iload_n 3, 1) := by decide +kernel
theorem dX7_correctedOf_8 : decode cX7_correctedOf 8 = .ok (.iconst (-1), 1) := by decide +kernel
theorem dX7_correctedOf_9 : decode cX7_correctedOf 9 = .ok (.if_icmp .ne 10, 3) := by decide +kernel
theorem dX7_correctedOf_12 : decode cX7_correctedOf 12 = .ok (.aload_n 0, 1) := by decide +kernel
theorem dX7_correctedOf_13 : decode cX7_correctedOf 13 = .ok (.getfield 26, 3) := by decide +kernel
theorem dX7_correctedOf_16 : decode cX7_correctedOf 16 = .ok (.iload_n 2, 1) := by decide +kernel
theorem dX7_correctedOf_17 : decode cX7_correctedOf 17 = .ok (.iaload, 1) := by decide +kernel
theorem dX7_correctedOf_18 : decode cX7_correctedOf 18 = .ok (.ireturn, 1) := by decide +kernel
theorem dX7_correctedOf_19 : decode cX7_correctedOf 19 = .ok (.aload_n 0, 1) := by decide +kernel
theorem dX7_correctedOf_20 : decode cX7_correctedOf 20 = .ok (.getfield 26, 3) := by decide +kernel
theorem dX7_correctedOf_23 : decode cX7_correctedOf 23 = .ok (.aload_n 0, 1) := by decide +kernel
theorem dX7_correctedOf_24 : decode cX7_correctedOf 24 = .ok (.getfield 36, 3) := by decide +kernel
theorem dX7_correctedOf_27 : decode cX7_correctedOf 27 = .ok (.iload_n 3, 1) := by decide +kernel
theorem dX7_correctedOf_28 : decode cX7_correctedOf 28 = .ok (.iaload, 1) := by decide +kernel
theorem dX7_correctedOf_29 : decode cX7_correctedOf 29 = .ok (.iaload, 1) := by decide +kernel
theorem dX7_correctedOf_30 : decode cX7_correctedOf 30 = .ok (.aload_n 0, 1) := by decide +kernel
theorem dX7_correctedOf_31 : decode cX7_correctedOf 31 = .ok (.getfield 26, 3) := by decide +kernel
theorem dX7_correctedOf_34 : decode cX7_correctedOf 34 = .ok (.aload_n 0, 1) := by decide +kernel
theorem dX7_correctedOf_35 : decode cX7_correctedOf 35 = .ok (.getfield 33, 3) := by decide +kernel
theorem dX7_correctedOf_38 : decode cX7_correctedOf 38 = .ok (.iload_n 3, 1) := by decide +kernel
theorem dX7_correctedOf_39 : decode cX7_correctedOf 39 = .ok (.iaload, 1) := by decide +kernel
theorem dX7_correctedOf_40 : decode cX7_correctedOf 40 = .ok (.iaload, 1) := by decide +kernel
theorem dX7_correctedOf_41 : decode cX7_correctedOf 41 = .ok (.isub, 1) := by decide +kernel
theorem dX7_correctedOf_42 : decode cX7_correctedOf 42 = .ok (.i2l, 1) := by decide +kernel
theorem dX7_correctedOf_43 : decode cX7_correctedOf 43 = .ok (.lstore 4, 2) := by decide +kernel
theorem dX7_correctedOf_45 : decode cX7_correctedOf 45 = .ok (.aload_n 0, 1) := by decide +kernel
theorem dX7_correctedOf_46 : decode cX7_correctedOf 46 = .ok (.iload_n 1, 1) := by decide +kernel
theorem dX7_correctedOf_47 : decode cX7_correctedOf 47 = .ok (.iconst 0, 1) := by decide +kernel
theorem dX7_correctedOf_48 : decode cX7_correctedOf 48 = .ok (.iload_n 2, 1) := by decide +kernel
theorem dX7_correctedOf_49 : decode cX7_correctedOf 49 = .ok (.invokevirtual 59, 3) := by decide +kernel
theorem dX7_correctedOf_52 : decode cX7_correctedOf 52 = .ok (.aload_n 0, 1) := by decide +kernel
theorem dX7_correctedOf_53 : decode cX7_correctedOf 53 = .ok (.iload_n 1, 1) := by decide +kernel
theorem dX7_correctedOf_54 : decode cX7_correctedOf 54 = .ok (.iconst 0, 1) := by decide +kernel
theorem dX7_correctedOf_55 : decode cX7_correctedOf 55 = .ok (.aload_n 0, 1) := by decide +kernel
theorem dX7_correctedOf_56 : decode cX7_correctedOf 56 = .ok (.getfield 33, 3) := by decide +kernel
theorem dX7_correctedOf_59 : decode cX7_correctedOf 59 = .ok (.iload_n 3, 1) := by decide +kernel
theorem dX7_correctedOf_60 : decode cX7_correctedOf 60 = .ok (.iaload, 1) := by decide +kernel
theorem dX7_correctedOf_61 : decode cX7_correctedOf 61 = .ok (.invokevirtual 59, 3) := by decide +kernel
theorem dX7_correctedOf_64 : decode cX7_correctedOf 64 = .ok (.isub, 1) := by decide +kernel
theorem dX7_correctedOf_65 : decode cX7_correctedOf 65 = .ok (.istore 6, 2) := by decide +kernel
theorem dX7_correctedOf_67 : decode cX7_correctedOf 67 = .ok (.aload_n 0, 1) := by decide +kernel
theorem dX7_correctedOf_68 : decode cX7_correctedOf 68 = .ok (.getfield 26, 3) := by decide +kernel
theorem dX7_correctedOf_71 : decode cX7_correctedOf 71 = .ok (.iload_n 2, 1) := by decide +kernel
theorem dX7_correctedOf_72 : decode cX7_correctedOf 72 = .ok (.iaload, 1) := by decide +kernel
theorem dX7_correctedOf_73 : decode cX7_correctedOf 73 = .ok (.lload 4, 2) := by decide +kernel
theorem dX7_correctedOf_75 : decode cX7_correctedOf 75 = .ok (.iload 6, 2) := by decide +kernel
theorem dX7_correctedOf_77 : decode cX7_correctedOf 77 = .ok (.i2l, 1) := by decide +kernel
theorem dX7_correctedOf_78 : decode cX7_correctedOf 78 = .ok (.lmul, 1) := by decide +kernel
theorem dX7_correctedOf_79 : decode cX7_correctedOf 79 = .ok (.aload_n 0, 1) := by decide +kernel
theorem dX7_correctedOf_80 : decode cX7_correctedOf 80 = .ok (.iload_n 1, 1) := by decide +kernel
theorem dX7_correctedOf_81 : decode cX7_correctedOf 81 = .ok (.iload_n 3, 1) := by decide +kernel
theorem dX7_correctedOf_82 : decode cX7_correctedOf 82 = .ok (.invokevirtual 154, 3) := by decide +kernel
theorem dX7_correctedOf_85 : decode cX7_correctedOf 85 = .ok (.i2l, 1) := by decide +kernel
theorem dX7_correctedOf_86 : decode cX7_correctedOf 86 = .ok (.invokestatic 126, 3) := by decide +kernel
theorem dX7_correctedOf_89 : decode cX7_correctedOf 89 = .ok (.l2i, 1) := by decide +kernel
theorem dX7_correctedOf_90 : decode cX7_correctedOf 90 = .ok (.isub, 1) := by decide +kernel
theorem dX7_correctedOf_91 : decode cX7_correctedOf 91 = .ok (.ireturn, 1) := by decide +kernel
set_option maxRecDepth 20000 in
theorem ggX7_loops_X7_isCell : GoodIn wsX7_loops wsX7_isCell := goodIn_r _ [6, 7, 8, 5, 9] (by decide +kernel) (by decide +kernel)
set_option maxRecDepth 20000 in
theorem gX7_loops_X7_isCell : GoodIn wsX7_loops (va_wsS RX7 86 yX7_isCell wsX7_isCell) := goodIn_app (goodIn_of _ (by decide +kernel)) ggX7_loops_X7_isCell
set_option maxRecDepth 20000 in
theorem ggX7_loops_X7_looks : GoodIn wsX7_loops wsX7_looks := goodIn_r _ [13, 2, 14, 15, 16, 17, 18, 19, 20, 21, 5, 22, 23, 24, 25, 26, 27, 28, 29, 30, 31, 32, 33, 34, 35, 36, 37, 38, 39, 40, 41, 42, 43, 44, 45, 46, 47, 48, 49, 50, 51, 52, 53, 54, 55, 56, 57, 58, 59, 60, 61, 62, 63, 64, 65, 66] (by decide +kernel) (by decide +kernel)
set_option maxRecDepth 20000 in
theorem gX7_loops_X7_looks : GoodIn wsX7_loops (wsV RX7 96 RX7 yX7_looks wsX7_looks) := goodIn_app (goodIn_of _ (by decide +kernel)) ggX7_loops_X7_looks
theorem dX7_loops_0 : decode cX7_loops 0 = .ok (.iload_n 1, 1) := by decide +kernel
theorem dX7_loops_1 : decode cX7_loops 1 = .ok (.invokestatic 86, 3) := by decide +kernel
theorem dX7_loops_4 : decode cX7_loops 4 = .ok (.ifCond .ne 6, 3) := by decide +kernel
theorem dX7_loops_7 : decode cX7_loops 7 = .ok (.ldc 55, 2) := by decide +kernel
theorem dX7_loops_9 : decode cX7_loops 9 = .ok (.ireturn, 1) := by decide +kernel
theorem dX7_loops_10 : decode cX7_loops 10 = .ok (.aload_n 0, 1) := by decide +kernel
theorem dX7_loops_11 : decode cX7_loops 11 = .ok (.iload_n 1, 1) := by decide +kernel
theorem dX7_loops_12 : decode cX7_loops 12 = .ok (.iconst 1, 1) := by decide +kernel
theorem dX7_loops_13 : decode cX7_loops 13 = .ok (.iadd, 1) := by decide +kernel
theorem dX7_loops_14 : decode cX7_loops 14 = .ok (.invokevirtual 96, 3) := by decide +kernel
theorem dX7_loops_17 : decode cX7_loops 17 = .ok (.aload_n 0, 1) := by decide +kernel
theorem dX7_loops_18 : decode cX7_loops 18 = .ok (.getfield 104, 3) := by decide +kernel
theorem dX7_loops_21 : decode cX7_loops 21 = .ok (.ireturn, 1) := by decide +kernel
theorem dX7_bySteps_0 : decode cX7_bySteps 0 = .ok (.iconst 0, 1) := by decide +kernel
theorem dX7_bySteps_1 : decode cX7_bySteps 1 = .ok (.istore_n 2, 1) := by decide +kernel
theorem dX7_bySteps_2 : decode cX7_bySteps 2 = .ok (.aload_n 0, 1) := by decide +kernel
theorem dX7_bySteps_3 : decode cX7_bySteps 3 = .ok (.getfield 33, 3) := by decide +kernel
theorem dX7_bySteps_6 : decode cX7_bySteps 6 = .ok (.iload_n 1, 1) := by decide +kernel
theorem dX7_bySteps_7 : decode cX7_bySteps 7 = .ok (.iaload, 1) := by decide +kernel
theorem dX7_bySteps_8 : decode cX7_bySteps 8 = .ok (.istore_n 3, 1) := by decide +kernel
theorem dX7_bySteps_9 : decode cX7_bySteps 9 = .ok (.aload_n 0, 1) := by decide +kernel
theorem dX7_bySteps_10 : decode cX7_bySteps 10 = .ok (.getfield 33, 3) := by decide +kernel
theorem dX7_bySteps_13 : decode cX7_bySteps 13 = .ok (.iload_n 1, 1) := by decide +kernel
theorem dX7_bySteps_14 : decode cX7_bySteps 14 = .ok (.iaload, 1) := by decide +kernel
theorem dX7_bySteps_15 : decode cX7_bySteps 15 = .ok (.iconst 1, 1) := by decide +kernel
theorem dX7_bySteps_16 : decode cX7_bySteps 16 = .ok (.iadd, 1) := by decide +kernel
theorem dX7_bySteps_17 : decode cX7_bySteps 17 = .ok (.istore 4, 2) := by decide +kernel
theorem dX7_bySteps_19 : decode cX7_bySteps 19 = .ok (.iload 4, 2) := by decide +kernel
theorem dX7_bySteps_21 : decode cX7_bySteps 21 = .ok (.aload_n 0, 1) := by decide +kernel
theorem dX7_bySteps_22 : decode cX7_bySteps 22 = .ok (.getfield 36, 3) := by decide +kernel
theorem dX7_bySteps_25 : decode cX7_bySteps 25 = .ok (.iload_n 1, 1) := by decide +kernel
theorem dX7_bySteps_26 : decode cX7_bySteps 26 = .ok (.iaload, 1) := by decide +kernel
theorem dX7_bySteps_27 : decode cX7_bySteps 27 = .ok (.if_icmp .gt 39, 3) := by decide +kernel
theorem dX7_bySteps_30 : decode cX7_bySteps 30 = .ok (.aload_n 0, 1) := by decide +kernel
theorem dX7_bySteps_31 : decode cX7_bySteps 31 = .ok (.getfield 29, 3) := by decide +kernel
theorem dX7_bySteps_34 : decode cX7_bySteps 34 = .ok (.iload 4, 2) := by decide +kernel
theorem dX7_bySteps_36 : decode cX7_bySteps 36 = .ok (.baload, 1) := by decide +kernel
theorem dX7_bySteps_37 : decode cX7_bySteps 37 = .ok (.ifCond .eq 23, 3) := by decide +kernel
theorem dX7_bySteps_40 : decode cX7_bySteps 40 = .ok (.iload_n 2, 1) := by decide +kernel
theorem dX7_bySteps_41 : decode cX7_bySteps 41 = .ok (.aload_n 0, 1) := by decide +kernel
theorem dX7_bySteps_42 : decode cX7_bySteps 42 = .ok (.getfield 26, 3) := by decide +kernel
theorem dX7_bySteps_45 : decode cX7_bySteps 45 = .ok (.iload 4, 2) := by decide +kernel
theorem dX7_bySteps_47 : decode cX7_bySteps 47 = .ok (.iaload, 1) := by decide +kernel
theorem dX7_bySteps_48 : decode cX7_bySteps 48 = .ok (.aload_n 0, 1) := by decide +kernel
theorem dX7_bySteps_49 : decode cX7_bySteps 49 = .ok (.getfield 26, 3) := by decide +kernel
theorem dX7_bySteps_52 : decode cX7_bySteps 52 = .ok (.iload_n 3, 1) := by decide +kernel
theorem dX7_bySteps_53 : decode cX7_bySteps 53 = .ok (.iaload, 1) := by decide +kernel
theorem dX7_bySteps_54 : decode cX7_bySteps 54 = .ok (.isub, 1) := by decide +kernel
theorem dX7_bySteps_55 : decode cX7_bySteps 55 = .ok (.iadd, 1) := by decide +kernel
theorem dX7_bySteps_56 : decode cX7_bySteps 56 = .ok (.istore_n 2, 1) := by decide +kernel
theorem dX7_bySteps_57 : decode cX7_bySteps 57 = .ok (.iload 4, 2) := by decide +kernel
theorem dX7_bySteps_59 : decode cX7_bySteps 59 = .ok (.istore_n 3, 1) := by decide +kernel
theorem dX7_bySteps_60 : decode cX7_bySteps 60 = .ok (.iinc 4 1, 3) := by decide +kernel
theorem dX7_bySteps_63 : decode cX7_bySteps 63 = .ok (.goto (-44), 3) := by decide +kernel
theorem dX7_bySteps_66 : decode cX7_bySteps 66 = .ok (.iload_n 2, 1) := by decide +kernel
theorem dX7_bySteps_67 : decode cX7_bySteps 67 = .ok (.ireturn, 1) := by decide +kernel
set_option maxRecDepth 20000 in
theorem ggX7_loop_X7_isCell : GoodIn wsX7_loop wsX7_isCell := goodIn_r _ [9, 10, 11, 8, 12] (by decide +kernel) (by decide +kernel)
set_option maxRecDepth 20000 in
theorem gX7_loop_X7_isCell : GoodIn wsX7_loop (va_wsS RX7 86 yX7_isCell wsX7_isCell) := goodIn_app (goodIn_of _ (by decide +kernel)) ggX7_loop_X7_isCell
set_option maxRecDepth 20000 in
theorem ggX7_loop_X7_in : GoodIn wsX7_loop wsX7_in := goodIn_r _ [12] (by decide +kernel) (by decide +kernel)
set_option maxRecDepth 20000 in
theorem gX7_loop_X7_in : GoodIn wsX7_loop (va_wsS RX7 39 yX7_in wsX7_in) := goodIn_app (goodIn_of _ (by decide +kernel)) ggX7_loop_X7_in
set_option maxRecDepth 20000 in
theorem ggX7_loop_X7_looks : GoodIn wsX7_loop wsX7_looks := goodIn_r _ [16, 2, 17, 18, 5, 3, 4, 19, 20, 21, 8, 22, 23, 24, 25, 26, 27, 28, 29, 30, 31, 32, 33, 34, 35, 36, 37, 38, 39, 40, 41, 42, 43, 44, 45, 54, 55, 56, 57, 58, 59, 60, 61, 62, 63, 64, 65, 66, 67, 68, 69, 70, 71, 72, 73, 74] (by decide +kernel) (by decide +kernel)
set_option maxRecDepth 20000 in
theorem gX7_loop_X7_looks : GoodIn wsX7_loop (wsV RX7 96 RX7 yX7_looks wsX7_looks) := goodIn_app (goodIn_of _ (by decide +kernel)) ggX7_loop_X7_looks
set_option maxRecDepth 20000 in
theorem ggX7_loop_X7_bySteps : GoodIn wsX7_loop wsX7_bySteps := goodIn_r _ [49, 3, 4, 18, 5, 54, 55, 56, 57, 58, 59, 60, 61, 62, 63, 64, 65, 66, 67, 68, 69, 70, 71, 72, 73, 74] (by decide +kernel) (by decide +kernel)
set_option maxRecDepth 20000 in
theorem gX7_loop_X7_bySteps : GoodIn wsX7_loop (wsV RX7 160 RX7 yX7_bySteps wsX7_bySteps) := goodIn_app (goodIn_of _ (by decide +kernel)) ggX7_loop_X7_bySteps
set_option maxRecDepth 20000 in
theorem ggX7_loop_X7_timeOf : GoodIn wsX7_loop wsX7_timeOf := goodIn_r _ [53, 4, 3, 23, 24, 25, 8, 26, 17, 54, 55, 56, 57, 58, 59, 60, 61, 62, 63, 64, 65, 66, 67, 68, 69, 70, 71, 72, 73, 74] (by decide +kernel) (by decide +kernel)
set_option maxRecDepth 20000 in
theorem gX7_loop_X7_timeOf : GoodIn wsX7_loop (wsV RX7 154 RX7 yX7_timeOf wsX7_timeOf) := goodIn_app (goodIn_of _ (by decide +kernel)) ggX7_loop_X7_timeOf
theorem dX7_loop_0 : decode cX7_loop 0 = .ok (.iload_n 1, 1) := by decide +kernel
theorem dX7_loop_1 : decode cX7_loop 1 = .ok (.invokestatic 86, 3) := by decide +kernel
theorem dX7_loop_4 : decode cX7_loop 4 = .ok (.ifCond .eq 12, 3) := by decide +kernel
theorem dX7_loop_7 : decode cX7_loop 7 = .ok (.iload_n 3, 1) := by decide +kernel
theorem dX7_loop_8 : decode cX7_loop 8 = .ok (.iconst 0, 1) := by decide +kernel
theorem dX7_loop_9 : decode cX7_loop 9 = .ok (.iconst 4, 1) := by decide +kernel
theorem dX7_loop_10 : decode cX7_loop 10 = .ok (.invokestatic 39, 3) := by decide +kernel
theorem dX7_loop_13 : decode cX7_loop 13 = .ok (.ifCond .ne 6, 3) := by decide +kernel
theorem dX7_loop_16 : decode cX7_loop 16 = .ok (.ldc 55, 2) := by decide +kernel
theorem dX7_loop_18 : decode cX7_loop 18 = .ok (.ireturn, 1) := by decide +kernel
theorem dX7_loop_19 : decode cX7_loop 19 = .ok (.aload_n 0, 1) := by decide +kernel
theorem dX7_loop_20 : decode cX7_loop 20 = .ok (.iload_n 1, 1) := by decide +kernel
theorem dX7_loop_21 : decode cX7_loop 21 = .ok (.iconst 1, 1) := by decide +kernel
theorem dX7_loop_22 : decode cX7_loop 22 = .ok (.iadd, 1) := by decide +kernel
theorem dX7_loop_23 : decode cX7_loop 23 = .ok (.invokevirtual 96, 3) := by decide +kernel
theorem dX7_loop_26 : decode cX7_loop 26 = .ok (.iload_n 2, 1) := by decide +kernel
theorem dX7_loop_27 : decode cX7_loop 27 = .ok (.iconst 0, 1) := by decide +kernel
theorem dX7_loop_28 : decode cX7_loop 28 = .ok (.aload_n 0, 1) := by decide +kernel
theorem dX7_loop_29 : decode cX7_loop 29 = .ok (.getfield 104, 3) := by decide +kernel
theorem dX7_loop_32 : decode cX7_loop 32 = .ok (.iconst 1, 1) := by decide +kernel
theorem dX7_loop_33 : decode cX7_loop 33 = .ok (.isub, 1) := by decide +kernel
theorem dX7_loop_34 : decode cX7_loop 34 = .ok (.invokestatic 39, 3) := by decide +kernel
theorem dX7_loop_37 : decode cX7_loop 37 = .ok (.ifCond .ne 6, 3) := by decide +kernel
theorem dX7_loop_40 : decode cX7_loop 40 = .ok (.ldc 55, 2) := by decide +kernel
theorem dX7_loop_42 : decode cX7_loop 42 = .ok (.ireturn, 1) := by decide +kernel
theorem dX7_loop_43 : decode cX7_loop 43 = .ok (.iload_n 3, 1) := by decide +kernel
theorem dX7_loop_44 : decode cX7_loop 44 = .ok (.tableswitch 76 0 3 #[32, 39, 46, 70], 32) := by decide +kernel
theorem dX7_loop_76 : decode cX7_loop 76 = .ok (.aload_n 0, 1) := by decide +kernel
theorem dX7_loop_77 : decode cX7_loop 77 = .ok (.getfield 33, 3) := by decide +kernel
theorem dX7_loop_80 : decode cX7_loop 80 = .ok (.iload_n 2, 1) := by decide +kernel
theorem dX7_loop_81 : decode cX7_loop 81 = .ok (.iaload, 1) := by decide +kernel
theorem dX7_loop_82 : decode cX7_loop 82 = .ok (.ireturn, 1) := by decide +kernel
theorem dX7_loop_83 : decode cX7_loop 83 = .ok (.aload_n 0, 1) := by decide +kernel
theorem dX7_loop_84 : decode cX7_loop 84 = .ok (.getfield 36, 3) := by decide +kernel
theorem dX7_loop_87 : decode cX7_loop 87 = .ok (.iload_n 2, 1) := by decide +kernel
theorem dX7_loop_88 : decode cX7_loop 88 = .ok (.iaload, 1) := by decide +kernel
theorem dX7_loop_89 : decode cX7_loop 89 = .ok (.ireturn, 1) := by decide +kernel
theorem dX7_loop_90 : decode cX7_loop 90 = .ok (.aload_n 0, 1) := by decide +kernel
theorem dX7_loop_91 : decode cX7_loop 91 = .ok (.getfield 26, 3) := by decide +kernel
theorem dX7_loop_94 : decode cX7_loop 94 = .ok (.aload_n 0, 1) := by decide +kernel
theorem dX7_loop_95 : decode cX7_loop 95 = .ok (.getfield 36, 3) := by decide +kernel
theorem dX7_loop_98 : decode cX7_loop 98 = .ok (.iload_n 2, 1) := by decide +kernel
theorem dX7_loop_99 : decode cX7_loop 99 = .ok (.iaload, 1) := by decide +kernel
theorem dX7_loop_100 : decode cX7_loop 100 = .ok (.iaload, 1) := by decide +kernel
theorem dX7_loop_101 : decode cX7_loop 101 = .ok (.aload_n 0, 1) := by decide +kernel
theorem dX7_loop_102 : decode cX7_loop 102 = .ok (.getfield 26, 3) := by decide +kernel
theorem dX7_loop_105 : decode cX7_loop 105 = .ok (.aload_n 0, 1) := by decide +kernel
theorem dX7_loop_106 : decode cX7_loop 106 = .ok (.getfield 33, 3) := by decide +kernel
theorem dX7_loop_109 : decode cX7_loop 109 = .ok (.iload_n 2, 1) := by decide +kernel
theorem dX7_loop_110 : decode cX7_loop 110 = .ok (.iaload, 1) := by decide +kernel
theorem dX7_loop_111 : decode cX7_loop 111 = .ok (.iaload, 1) := by decide +kernel
theorem dX7_loop_112 : decode cX7_loop 112 = .ok (.isub, 1) := by decide +kernel
theorem dX7_loop_113 : decode cX7_loop 113 = .ok (.ireturn, 1) := by decide +kernel
theorem dX7_loop_114 : decode cX7_loop 114 = .ok (.aload_n 0, 1) := by decide +kernel
theorem dX7_loop_115 : decode cX7_loop 115 = .ok (.iload_n 2, 1) := by decide +kernel
theorem dX7_loop_116 : decode cX7_loop 116 = .ok (.invokevirtual 160, 3) := by decide +kernel
theorem dX7_loop_119 : decode cX7_loop 119 = .ok (.ireturn, 1) := by decide +kernel
theorem dX7_loop_120 : decode cX7_loop 120 = .ok (.aload_n 0, 1) := by decide +kernel
theorem dX7_loop_121 : decode cX7_loop 121 = .ok (.iload_n 1, 1) := by decide +kernel
theorem dX7_loop_122 : decode cX7_loop 122 = .ok (.iconst 1, 1) := by decide +kernel
theorem dX7_loop_123 : decode cX7_loop 123 = .ok (.iadd, 1) := by decide +kernel
theorem dX7_loop_124 : decode cX7_loop 124 = .ok (.iload_n 2, 1) := by decide +kernel
theorem dX7_loop_125 : decode cX7_loop 125 = .ok (.invokevirtual 154, 3) := by decide +kernel
theorem dX7_loop_128 : decode cX7_loop 128 = .ok (.ireturn, 1) := by decide +kernel
set_option maxRecDepth 20000 in
theorem ggX7_openLoop_X7_isCell : GoodIn wsX7_openLoop wsX7_isCell := goodIn_r _ [7, 8, 9, 6, 10] (by decide +kernel) (by decide +kernel)
set_option maxRecDepth 20000 in
theorem gX7_openLoop_X7_isCell : GoodIn wsX7_openLoop (va_wsS RX7 86 yX7_isCell wsX7_isCell) := goodIn_app (goodIn_of _ (by decide +kernel)) ggX7_openLoop_X7_isCell
set_option maxRecDepth 20000 in
theorem ggX7_openLoop_X7_isReading : GoodIn wsX7_openLoop wsX7_isReading := goodIn_r _ [14, 15, 8, 9, 6, 10, 59, 60, 61, 62, 63, 64, 65, 66, 67, 68, 69, 70, 71, 72, 73, 74, 75, 76, 77, 78, 79] (by decide +kernel) (by decide +kernel)
set_option maxRecDepth 20000 in
theorem gX7_openLoop_X7_isReading : GoodIn wsX7_openLoop (wsV RX7 89 RX7 yX7_isReading wsX7_isReading) := goodIn_app (goodIn_of _ (by decide +kernel)) ggX7_openLoop_X7_isReading
set_option maxRecDepth 20000 in
theorem ggX7_openLoop_X7_looks : GoodIn wsX7_openLoop wsX7_looks := goodIn_r _ [19, 20, 15, 2, 21, 22, 23, 24, 25, 26, 6, 27, 28, 29, 30, 31, 32, 33, 34, 35, 36, 37, 38, 39, 40, 41, 42, 43, 44, 45, 46, 47, 48, 49, 50, 59, 60, 61, 62, 63, 64, 65, 66, 67, 68, 69, 70, 71, 72, 73, 74, 75, 76, 77, 78, 79] (by decide +kernel) (by decide +kernel)
set_option maxRecDepth 20000 in
theorem gX7_openLoop_X7_looks : GoodIn wsX7_openLoop (wsV RX7 96 RX7 yX7_looks wsX7_looks) := goodIn_app (goodIn_of _ (by decide +kernel)) ggX7_openLoop_X7_looks
set_option maxRecDepth 20000 in
theorem ggX7_openLoop_X7_open : GoodIn wsX7_openLoop wsX7_open := goodIn_r _ [54, 20, 22, 23, 55, 56, 57, 6, 58, 28, 29, 30, 31, 15, 59, 60, 61, 62, 63, 64, 65, 66, 67, 68, 69, 70, 71, 72, 73, 74, 75, 76, 77, 78, 79] (by decide +kernel) (by decide +kernel)
set_option maxRecDepth 20000 in
theorem gX7_openLoop_X7_open : GoodIn wsX7_openLoop (wsV RX7 157 RX7 yX7_open wsX7_open) := goodIn_app (goodIn_of _ (by decide +kernel)) ggX7_openLoop_X7_open
theorem dX7_openLoop_0 : decode cX7_openLoop 0 = .ok (.iload_n 1, 1) := by decide +kernel
theorem dX7_openLoop_1 : decode cX7_openLoop 1 = .ok (.invokestatic 86, 3) := by decide +kernel
theorem dX7_openLoop_4 : decode cX7_openLoop 4 = .ok (.ifCond .eq 12, 3) := by decide +kernel
theorem dX7_openLoop_7 : decode cX7_openLoop 7 = .ok (.aload_n 0, 1) := by decide +kernel
theorem dX7_openLoop_8 : decode cX7_openLoop 8 = .ok (.iload_n 1, 1) := by decide +kernel
theorem dX7_openLoop_9 : decode cX7_openLoop 9 = .ok (.iload_n 2, 1) := by decide +kernel
theorem dX7_openLoop_10 : decode cX7_openLoop 10 = .ok (.invokevirtual 89, 3) := by decide +kernel
theorem dX7_openLoop_13 : decode cX7_openLoop 13 = .ok (.ifCond .ne 6, 3) := by decide +kernel
theorem dX7_openLoop_16 : decode cX7_openLoop 16 = .ok (.ldc 55, 2) := by decide +kernel
theorem dX7_openLoop_18 : decode cX7_openLoop 18 = .ok (.ireturn, 1) := by decide +kernel
theorem dX7_openLoop_19 : decode cX7_openLoop 19 = .ok (.aload_n 0, 1) := by decide +kernel
theorem dX7_openLoop_20 : decode cX7_openLoop 20 = .ok (.iload_n 1, 1) := by decide +kernel
theorem dX7_openLoop_21 : decode cX7_openLoop 21 = .ok (.iconst 1, 1) := by decide +kernel
theorem dX7_openLoop_22 : decode cX7_openLoop 22 = .ok (.iadd, 1) := by decide +kernel
theorem dX7_openLoop_23 : decode cX7_openLoop 23 = .ok (.invokevirtual 96, 3) := by decide +kernel
theorem dX7_openLoop_26 : decode cX7_openLoop 26 = .ok (.aload_n 0, 1) := by decide +kernel
theorem dX7_openLoop_27 : decode cX7_openLoop 27 = .ok (.getfield 29, 3) := by decide +kernel
theorem dX7_openLoop_30 : decode cX7_openLoop 30 = .ok (.iload_n 2, 1) := by decide +kernel
theorem dX7_openLoop_31 : decode cX7_openLoop 31 = .ok (.baload, 1) := by decide +kernel
theorem dX7_openLoop_32 : decode cX7_openLoop 32 = .ok (.ifCond .eq 14, 3) := by decide +kernel
theorem dX7_openLoop_35 : decode cX7_openLoop 35 = .ok (.aload_n 0, 1) := by decide +kernel
theorem dX7_openLoop_36 : decode cX7_openLoop 36 = .ok (.iload_n 1, 1) := by decide +kernel
theorem dX7_openLoop_37 : decode cX7_openLoop 37 = .ok (.iconst 1, 1) := by decide +kernel
theorem dX7_openLoop_38 : decode cX7_openLoop 38 = .ok (.iadd, 1) := by decide +kernel
theorem dX7_openLoop_39 : decode cX7_openLoop 39 = .ok (.iload_n 2, 1) := by decide +kernel
theorem dX7_openLoop_40 : decode cX7_openLoop 40 = .ok (.invokevirtual 157, 3) := by decide +kernel
theorem dX7_openLoop_43 : decode cX7_openLoop 43 = .ok (.goto 4, 3) := by decide +kernel
theorem dX7_openLoop_46 : decode cX7_openLoop 46 = .ok (.iconst (-1), 1) := by decide +kernel
theorem dX7_openLoop_47 : decode cX7_openLoop 47 = .ok (.istore_n 3, 1) := by decide +kernel
theorem dX7_openLoop_48 : decode cX7_openLoop 48 = .ok (.iload_n 3, 1) := by decide +kernel
theorem dX7_openLoop_49 : decode cX7_openLoop 49 = .ok (.iconst (-1), 1) := by decide +kernel
theorem dX7_openLoop_50 : decode cX7_openLoop 50 = .ok (.if_icmp .ne 8, 3) := by decide +kernel
theorem dX7_openLoop_53 : decode cX7_openLoop 53 = .ok (.ldc 92, 2) := by decide +kernel
theorem dX7_openLoop_55 : decode cX7_openLoop 55 = .ok (.goto 4, 3) := by decide +kernel
theorem dX7_openLoop_58 : decode cX7_openLoop 58 = .ok (.iload_n 3, 1) := by decide +kernel
theorem dX7_openLoop_59 : decode cX7_openLoop 59 = .ok (.ireturn, 1) := by decide +kernel
set_option maxRecDepth 20000 in
theorem ggX7_corrected_X7_isCell : GoodIn wsX7_corrected wsX7_isCell := goodIn_r _ [7, 8, 9, 6, 10] (by decide +kernel) (by decide +kernel)
set_option maxRecDepth 20000 in
theorem gX7_corrected_X7_isCell : GoodIn wsX7_corrected (va_wsS RX7 86 yX7_isCell wsX7_isCell) := goodIn_app (goodIn_of _ (by decide +kernel)) ggX7_corrected_X7_isCell
set_option maxRecDepth 20000 in
theorem ggX7_corrected_X7_isReading : GoodIn wsX7_corrected wsX7_isReading := goodIn_r _ [14, 15, 8, 9, 6, 10, 63, 64, 65, 66, 67, 68, 69, 70, 71, 72, 73, 74, 75, 76, 77, 78, 79, 80, 81, 82, 83] (by decide +kernel) (by decide +kernel)
set_option maxRecDepth 20000 in
theorem gX7_corrected_X7_isReading : GoodIn wsX7_corrected (wsV RX7 89 RX7 yX7_isReading wsX7_isReading) := goodIn_app (goodIn_of _ (by decide +kernel)) ggX7_corrected_X7_isReading
set_option maxRecDepth 20000 in
theorem ggX7_corrected_X7_looks : GoodIn wsX7_corrected wsX7_looks := goodIn_r _ [19, 20, 15, 2, 21, 22, 23, 24, 25, 26, 6, 27, 28, 29, 30, 31, 32, 33, 34, 35, 36, 37, 38, 39, 40, 41, 42, 43, 44, 45, 46, 47, 48, 49, 50, 63, 64, 65, 66, 67, 68, 69, 70, 71, 72, 73, 74, 75, 76, 77, 78, 79, 80, 81, 82, 83] (by decide +kernel) (by decide +kernel)
set_option maxRecDepth 20000 in
theorem gX7_corrected_X7_looks : GoodIn wsX7_corrected (wsV RX7 96 RX7 yX7_looks wsX7_looks) := goodIn_app (goodIn_of _ (by decide +kernel)) ggX7_corrected_X7_looks
set_option maxRecDepth 20000 in
theorem ggX7_corrected_X7_correctedOf : GoodIn wsX7_corrected wsX7_correctedOf := goodIn_r _ [54, 21, 23, 22, 55, 56, 57, 6, 58, 20, 59, 60, 61, 62, 28, 29, 30, 31, 15, 41, 42, 43, 63, 64, 65, 66, 67, 68, 69, 70, 71, 72, 73, 74, 75, 76, 77, 78, 79, 80, 81, 82, 83] (by decide +kernel) (by decide +kernel)
set_option maxRecDepth 20000 in
theorem gX7_corrected_X7_correctedOf : GoodIn wsX7_corrected (wsV RX7 163 RX7 yX7_correctedOf wsX7_correctedOf) := goodIn_app (goodIn_of _ (by decide +kernel)) ggX7_corrected_X7_correctedOf
theorem dX7_corrected_0 : decode cX7_corrected 0 = .ok (.iload_n 1, 1) := by decide +kernel
theorem dX7_corrected_1 : decode cX7_corrected 1 = .ok (.invokestatic 86, 3) := by decide +kernel
theorem dX7_corrected_4 : decode cX7_corrected 4 = .ok (.ifCond .eq 12, 3) := by decide +kernel
theorem dX7_corrected_7 : decode cX7_corrected 7 = .ok (.aload_n 0, 1) := by decide +kernel
theorem dX7_corrected_8 : decode cX7_corrected 8 = .ok (.iload_n 1, 1) := by decide +kernel
theorem dX7_corrected_9 : decode cX7_corrected 9 = .ok (.iload_n 2, 1) := by decide +kernel
theorem dX7_corrected_10 : decode cX7_corrected 10 = .ok (.invokevirtual 89, 3) := by decide +kernel
theorem dX7_corrected_13 : decode cX7_corrected 13 = .ok (.ifCond .ne 6, 3) := by decide +kernel
theorem dX7_corrected_16 : decode cX7_corrected 16 = .ok (.ldc 55, 2) := by decide +kernel
theorem dX7_corrected_18 : decode cX7_corrected 18 = .ok (.ireturn, 1) := by decide +kernel
theorem dX7_corrected_19 : decode cX7_corrected 19 = .ok (.aload_n 0, 1) := by decide +kernel
theorem dX7_corrected_20 : decode cX7_corrected 20 = .ok (.iload_n 1, 1) := by decide +kernel
theorem dX7_corrected_21 : decode cX7_corrected 21 = .ok (.iconst 1, 1) := by decide +kernel
theorem dX7_corrected_22 : decode cX7_corrected 22 = .ok (.iadd, 1) := by decide +kernel
theorem dX7_corrected_23 : decode cX7_corrected 23 = .ok (.invokevirtual 96, 3) := by decide +kernel
theorem dX7_corrected_26 : decode cX7_corrected 26 = .ok (.aload_n 0, 1) := by decide +kernel
theorem dX7_corrected_27 : decode cX7_corrected 27 = .ok (.getfield 29, 3) := by decide +kernel
theorem dX7_corrected_30 : decode cX7_corrected 30 = .ok (.iload_n 2, 1) := by decide +kernel
theorem dX7_corrected_31 : decode cX7_corrected 31 = .ok (.baload, 1) := by decide +kernel
theorem dX7_corrected_32 : decode cX7_corrected 32 = .ok (.ifCond .eq 14, 3) := by decide +kernel
theorem dX7_corrected_35 : decode cX7_corrected 35 = .ok (.aload_n 0, 1) := by decide +kernel
theorem dX7_corrected_36 : decode cX7_corrected 36 = .ok (.iload_n 1, 1) := by decide +kernel
theorem dX7_corrected_37 : decode cX7_corrected 37 = .ok (.iconst 1, 1) := by decide +kernel
theorem dX7_corrected_38 : decode cX7_corrected 38 = .ok (.iadd, 1) := by decide +kernel
theorem dX7_corrected_39 : decode cX7_corrected 39 = .ok (.iload_n 2, 1) := by decide +kernel
theorem dX7_corrected_40 : decode cX7_corrected 40 = .ok (.invokevirtual 163, 3) := by decide +kernel
theorem dX7_corrected_43 : decode cX7_corrected 43 = .ok (.goto 5, 3) := by decide +kernel
theorem dX7_corrected_46 : decode cX7_corrected 46 = .ok (.ldc 92, 2) := by decide +kernel
theorem dX7_corrected_48 : decode cX7_corrected 48 = .ok (.ireturn, 1) := by decide +kernel
set_option maxRecDepth 20000 in
theorem ggX7_gives_X7_looks : GoodIn wsX7_gives wsX7_looks := goodIn_r _ [12, 13, 3, 4, 14, 15, 5, 16, 17, 18, 11, 19, 20, 21, 22, 23, 24, 25, 26, 27, 28, 29, 30, 31, 32, 33, 34, 35, 36, 37, 38, 39, 40, 41, 42, 55, 56, 57, 58, 59, 60, 61, 62, 63, 64, 65, 66, 67, 68, 69, 70, 71, 72, 73, 74, 75] (by decide +kernel) (by decide +kernel)
set_option maxRecDepth 20000 in
theorem gX7_gives_X7_looks : GoodIn wsX7_gives (wsV RX7 96 RX7 yX7_looks wsX7_looks) := goodIn_app (goodIn_of _ (by decide +kernel)) ggX7_gives_X7_looks
set_option maxRecDepth 20000 in
theorem ggX7_gives_X7_open : GoodIn wsX7_gives wsX7_open := goodIn_r _ [46, 13, 15, 5, 47, 48, 49, 11, 50, 20, 21, 22, 23, 3, 55, 56, 57, 58, 59, 60, 61, 62, 63, 64, 65, 66, 67, 68, 69, 70, 71, 72, 73, 74, 75] (by decide +kernel) (by decide +kernel)
set_option maxRecDepth 20000 in
theorem gX7_gives_X7_open : GoodIn wsX7_gives (wsV RX7 157 RX7 yX7_open wsX7_open) := goodIn_app (goodIn_of _ (by decide +kernel)) ggX7_gives_X7_open
set_option maxRecDepth 20000 in
theorem ggX7_gives_X7_of : GoodIn wsX7_gives wsX7_of := goodIn_r _ [23, 3, 55, 56, 57, 58, 59, 60, 61, 62, 63, 64, 65, 66, 67, 68, 69, 70, 71, 72, 73, 74, 75] (by decide +kernel) (by decide +kernel)
set_option maxRecDepth 20000 in
theorem gX7_gives_X7_of : GoodIn wsX7_gives (wsV RX7 59 RX7 yX7_of wsX7_of) := goodIn_app (goodIn_of _ (by decide +kernel)) ggX7_gives_X7_of
set_option maxRecDepth 20000 in
theorem ggX7_gives_X7_correctedOf : GoodIn wsX7_gives wsX7_correctedOf := goodIn_r _ [54, 14, 5, 15, 43, 44, 45, 11, 46, 13, 47, 48, 49, 50, 20, 21, 22, 23, 3, 33, 34, 35, 55, 56, 57, 58, 59, 60, 61, 62, 63, 64, 65, 66, 67, 68, 69, 70, 71, 72, 73, 74, 75] (by decide +kernel) (by decide +kernel)
set_option maxRecDepth 20000 in
theorem gX7_gives_X7_correctedOf : GoodIn wsX7_gives (wsV RX7 163 RX7 yX7_correctedOf wsX7_correctedOf) := goodIn_app (goodIn_of _ (by decide +kernel)) ggX7_gives_X7_correctedOf
theorem dX7_gives_0 : decode cX7_gives 0 = .ok (.aload_n 0, 1) := by decide +kernel
theorem dX7_gives_1 : decode cX7_gives 1 = .ok (.lconst 0, 1) := by decide +kernel
theorem dX7_gives_2 : decode cX7_gives 2 = .ok (.putfield 166, 3) := by decide +kernel
theorem dX7_gives_5 : decode cX7_gives 5 = .ok (.aload_n 0, 1) := by decide +kernel
theorem dX7_gives_6 : decode cX7_gives 6 = .ok (.iconst 0, 1) := by decide +kernel
theorem dX7_gives_7 : decode cX7_gives 7 = .ok (.putfield 110, 3) := by decide +kernel
theorem dX7_gives_10 : decode cX7_gives 10 = .ok (.iconst 1, 1) := by decide +kernel
theorem dX7_gives_11 : decode cX7_gives 11 = .ok (.istore_n 2, 1) := by decide +kernel
theorem dX7_gives_12 : decode cX7_gives 12 = .ok (.iload_n 2, 1) := by decide +kernel
theorem dX7_gives_13 : decode cX7_gives 13 = .ok (.iconst 4, 1) := by decide +kernel
theorem dX7_gives_14 : decode cX7_gives 14 = .ok (.if_icmp .ge 181, 3) := by decide +kernel
theorem dX7_gives_17 : decode cX7_gives 17 = .ok (.aload_n 0, 1) := by decide +kernel
theorem dX7_gives_18 : decode cX7_gives 18 = .ok (.iload_n 2, 1) := by decide +kernel
theorem dX7_gives_19 : decode cX7_gives 19 = .ok (.invokevirtual 96, 3) := by decide +kernel
theorem dX7_gives_22 : decode cX7_gives 22 = .ok (.iconst 0, 1) := by decide +kernel
theorem dX7_gives_23 : decode cX7_gives 23 = .ok (.istore_n 3, 1) := by decide +kernel
theorem dX7_gives_24 : decode cX7_gives 24 = .ok (.iload_n 3, 1) := by decide +kernel
theorem dX7_gives_25 : decode cX7_gives 25 = .ok (.aload_n 0, 1) := by decide +kernel
theorem dX7_gives_26 : decode cX7_gives 26 = .ok (.getfield 7, 3) := by decide +kernel
theorem dX7_gives_29 : decode cX7_gives 29 = .ok (.iconst 3, 1) := by decide +kernel
theorem dX7_gives_30 : decode cX7_gives 30 = .ok (.iload_n 2, 1) := by decide +kernel
theorem dX7_gives_31 : decode cX7_gives 31 = .ok (.iadd, 1) := by decide +kernel
theorem dX7_gives_32 : decode cX7_gives 32 = .ok (.iaload, 1) := by decide +kernel
theorem dX7_gives_33 : decode cX7_gives 33 = .ok (.if_icmp .ge 156, 3) := by decide +kernel
theorem dX7_gives_36 : decode cX7_gives 36 = .ok (.aload_n 0, 1) := by decide +kernel
theorem dX7_gives_37 : decode cX7_gives 37 = .ok (.getfield 29, 3) := by decide +kernel
theorem dX7_gives_40 : decode cX7_gives 40 = .ok (.iload_n 3, 1) := by decide +kernel
theorem dX7_gives_41 : decode cX7_gives 41 = .ok (.baload, 1) := by decide +kernel
theorem dX7_gives_42 : decode cX7_gives 42 = .ok (.ifCond .eq 12, 3) := by decide +kernel
theorem dX7_gives_45 : decode cX7_gives 45 = .ok (.aload_n 0, 1) := by decide +kernel
theorem dX7_gives_46 : decode cX7_gives 46 = .ok (.iload_n 2, 1) := by decide +kernel
theorem dX7_gives_47 : decode cX7_gives 47 = .ok (.iload_n 3, 1) := by decide +kernel
theorem dX7_gives_48 : decode cX7_gives 48 = .ok (.invokevirtual 157, 3) := by decide +kernel
theorem dX7_gives_51 : decode cX7_gives 51 = .ok (.goto 4, 3) := by decide +kernel
theorem dX7_gives_54 : decode cX7_gives 54 = .ok (.iconst (-1), 1) := by decide +kernel
theorem dX7_gives_55 : decode cX7_gives 55 = .ok (.istore 4, 2) := by decide +kernel
theorem dX7_gives_57 : decode cX7_gives 57 = .ok (.aload_n 0, 1) := by decide +kernel
theorem dX7_gives_58 : decode cX7_gives 58 = .ok (.getfield 29, 3) := by decide +kernel
theorem dX7_gives_61 : decode cX7_gives 61 = .ok (.iload_n 3, 1) := by decide +kernel
theorem dX7_gives_62 : decode cX7_gives 62 = .ok (.baload, 1) := by decide +kernel
theorem dX7_gives_63 : decode cX7_gives 63 = .ok (.ifCond .eq 120, 3) := by decide +kernel
theorem dX7_gives_66 : decode cX7_gives 66 = .ok (.aload_n 0, 1) := by decide +kernel
theorem dX7_gives_67 : decode cX7_gives 67 = .ok (.iload_n 2, 1) := by decide +kernel
theorem dX7_gives_68 : decode cX7_gives 68 = .ok (.bipush 60, 2) := by decide +kernel
theorem dX7_gives_70 : decode cX7_gives 70 = .ok (.iload_n 3, 1) := by decide +kernel
theorem dX7_gives_71 : decode cX7_gives 71 = .ok (.invokevirtual 59, 3) := by decide +kernel
theorem dX7_gives_74 : decode cX7_gives 74 = .ok (.iload_n 1, 1) := by decide +kernel
theorem dX7_gives_75 : decode cX7_gives 75 = .ok (.if_icmp .ne 108, 3) := by decide +kernel
theorem dX7_gives_78 : decode cX7_gives 78 = .ok (.iload 4, 2) := by decide +kernel
theorem dX7_gives_80 : decode cX7_gives 80 = .ok (.iconst (-1), 1) := by decide +kernel
theorem dX7_gives_81 : decode cX7_gives 81 = .ok (.if_icmp .eq 14, 3) := by decide +kernel
theorem dX7_gives_84 : decode cX7_gives 84 = .ok (.aload_n 0, 1) := by decide +kernel
theorem dX7_gives_85 : decode cX7_gives 85 = .ok (.getfield 36, 3) := by decide +kernel
theorem dX7_gives_88 : decode cX7_gives 88 = .ok (.iload 4, 2) := by decide +kernel
theorem dX7_gives_90 : decode cX7_gives 90 = .ok (.iaload, 1) := by decide +kernel
theorem dX7_gives_91 : decode cX7_gives 91 = .ok (.iload_n 3, 1) := by decide +kernel
theorem dX7_gives_92 : decode cX7_gives 92 = .ok (.if_icmp .eq 91, 3) := by decide +kernel
theorem dX7_gives_95 : decode cX7_gives 95 = .ok (.aload_n 0, 1) := by decide +kernel
theorem dX7_gives_96 : decode cX7_gives 96 = .ok (.iload_n 2, 1) := by decide +kernel
theorem dX7_gives_97 : decode cX7_gives 97 = .ok (.iload_n 3, 1) := by decide +kernel
theorem dX7_gives_98 : decode cX7_gives 98 = .ok (.invokevirtual 163, 3) := by decide +kernel
theorem dX7_gives_101 : decode cX7_gives 101 = .ok (.istore 5, 2) := by decide +kernel
theorem dX7_gives_103 : decode cX7_gives 103 = .ok (.aload_n 0, 1) := by decide +kernel
theorem dX7_gives_104 : decode cX7_gives 104 = .ok (.dup, 1) := by decide +kernel
theorem dX7_gives_105 : decode cX7_gives 105 = .ok (.getfield 166, 3) := by decide +kernel
theorem dX7_gives_108 : decode cX7_gives 108 = .ok (.iload 5, 2) := by decide +kernel
theorem dX7_gives_110 : decode cX7_gives 110 = .ok (.i2l, 1) := by decide +kernel
theorem dX7_gives_111 : decode cX7_gives 111 = .ok (.ladd, 1) := by decide +kernel
theorem dX7_gives_112 : decode cX7_gives 112 = .ok (.putfield 166, 3) := by decide +kernel
theorem dX7_gives_115 : decode cX7_gives 115 = .ok (.aload_n 0, 1) := by decide +kernel
theorem dX7_gives_116 : decode cX7_gives 116 = .ok (.aload_n 0, 1) := by decide +kernel
theorem dX7_gives_117 : decode cX7_gives 117 = .ok (.getfield 110, 3) := by decide +kernel
theorem dX7_gives_120 : decode cX7_gives 120 = .ok (.ifCond .eq 12, 3) := by decide +kernel
theorem dX7_gives_123 : decode cX7_gives 123 = .ok (.iload 5, 2) := by decide +kernel
theorem dX7_gives_125 : decode cX7_gives 125 = .ok (.aload_n 0, 1) := by decide +kernel
theorem dX7_gives_126 : decode cX7_gives 126 = .ok (.getfield 170, 3) := by decide +kernel
theorem dX7_gives_129 : decode cX7_gives 129 = .ok (.if_icmp .ge 8, 3) := by decide +kernel
theorem dX7_gives_132 : decode cX7_gives 132 = .ok (.iload 5, 2) := by decide +kernel
theorem dX7_gives_134 : decode cX7_gives 134 = .ok (.goto 7, 3) := by decide +kernel
theorem dX7_gives_137 : decode cX7_gives 137 = .ok (.aload_n 0, 1) := by decide +kernel
theorem dX7_gives_138 : decode cX7_gives 138 = .ok (.getfield 170, 3) := by decide +kernel
theorem dX7_gives_141 : decode cX7_gives 141 = .ok (.putfield 170, 3) := by decide +kernel
theorem dX7_gives_144 : decode cX7_gives 144 = .ok (.aload_n 0, 1) := by decide +kernel
theorem dX7_gives_145 : decode cX7_gives 145 = .ok (.aload_n 0, 1) := by decide +kernel
theorem dX7_gives_146 : decode cX7_gives 146 = .ok (.getfield 110, 3) := by decide +kernel
theorem dX7_gives_149 : decode cX7_gives 149 = .ok (.ifCond .eq 12, 3) := by decide +kernel
theorem dX7_gives_152 : decode cX7_gives 152 = .ok (.iload 5, 2) := by decide +kernel
theorem dX7_gives_154 : decode cX7_gives 154 = .ok (.aload_n 0, 1) := by decide +kernel
theorem dX7_gives_155 : decode cX7_gives 155 = .ok (.getfield 173, 3) := by decide +kernel
theorem dX7_gives_158 : decode cX7_gives 158 = .ok (.if_icmp .le 8, 3) := by decide +kernel
theorem dX7_gives_161 : decode cX7_gives 161 = .ok (.iload 5, 2) := by decide +kernel
theorem dX7_gives_163 : decode cX7_gives 163 = .ok (.goto 7, 3) := by decide +kernel
theorem dX7_gives_166 : decode cX7_gives 166 = .ok (.aload_n 0, 1) := by decide +kernel
theorem dX7_gives_167 : decode cX7_gives 167 = .ok (.getfield 173, 3) := by decide +kernel
theorem dX7_gives_170 : decode cX7_gives 170 = .ok (.putfield 173, 3) := by decide +kernel
theorem dX7_gives_173 : decode cX7_gives 173 = .ok (.aload_n 0, 1) := by decide +kernel
theorem dX7_gives_174 : decode cX7_gives 174 = .ok (.dup, 1) := by decide +kernel
theorem dX7_gives_175 : decode cX7_gives 175 = .ok (.getfield 110, 3) := by decide +kernel
theorem dX7_gives_178 : decode cX7_gives 178 = .ok (.iconst 1, 1) := by decide +kernel
theorem dX7_gives_179 : decode cX7_gives 179 = .ok (.iadd, 1) := by decide +kernel
theorem dX7_gives_180 : decode cX7_gives 180 = .ok (.putfield 110, 3) := by decide +kernel
theorem dX7_gives_183 : decode cX7_gives 183 = .ok (.iinc 3 1, 3) := by decide +kernel
theorem dX7_gives_186 : decode cX7_gives 186 = .ok (.goto (-162), 3) := by decide +kernel
theorem dX7_gives_189 : decode cX7_gives 189 = .ok (.iinc 2 1, 3) := by decide +kernel
theorem dX7_gives_192 : decode cX7_gives 192 = .ok (.goto (-180), 3) := by decide +kernel
theorem dX7_gives_195 : decode cX7_gives 195 = .ok (.return_, 1) := by decide +kernel
set_option maxRecDepth 20000 in
theorem ggX7_point_X7_in : GoodIn wsX7_point wsX7_in := goodIn_r _ [10] (by decide +kernel) (by decide +kernel)
set_option maxRecDepth 20000 in
theorem gX7_point_X7_in : GoodIn wsX7_point (va_wsS RX7 39 yX7_in wsX7_in) := goodIn_app (goodIn_of _ (by decide +kernel)) ggX7_point_X7_in
set_option maxRecDepth 20000 in
theorem ggX7_point_X7_gives : GoodIn wsX7_point wsX7_gives := goodIn_r _ [14, 4, 2, 15, 16, 17, 6, 5, 18, 19, 20, 9, 21, 22, 23, 24, 25, 26, 27, 28, 29, 30, 31, 32, 33, 34, 35, 36, 37, 38, 39, 40, 41, 42, 43, 44, 45, 46, 47, 48, 49, 50, 51, 52, 53, 54, 55, 56, 57, 58, 59, 60, 61, 62, 63, 64, 65, 66, 67, 68, 69, 70, 71, 72, 73, 74, 75, 76, 77, 78, 79, 80, 81, 82, 83, 84] (by decide +kernel) (by decide +kernel)
set_option maxRecDepth 20000 in
theorem gX7_point_X7_gives : GoodIn wsX7_point (wsV RX7 107 RX7 yX7_gives wsX7_gives) := goodIn_app (goodIn_of _ (by decide +kernel)) ggX7_point_X7_gives
set_option maxRecDepth 20000 in
theorem ggX7_point_X7_down : GoodIn wsX7_point wsX7_down := goodIn_r _ [44] (by decide +kernel) (by decide +kernel)
set_option maxRecDepth 20000 in
theorem gX7_point_X7_down : GoodIn wsX7_point (va_wsS RX7 126 yX7_down wsX7_down) := goodIn_app (goodIn_of _ (by decide +kernel)) ggX7_point_X7_down
theorem dX7_point_0 : decode cX7_point 0 = .ok (.iload_n 1, 1) := by decide +kernel
theorem dX7_point_1 : decode cX7_point 1 = .ok (.iconst 0, 1) := by decide +kernel
theorem dX7_point_2 : decode cX7_point 2 = .ok (.bipush 9, 2) := by decide +kernel
theorem dX7_point_4 : decode cX7_point 4 = .ok (.invokestatic 39, 3) := by decide +kernel
theorem dX7_point_7 : decode cX7_point 7 = .ok (.ifCond .eq 12, 3) := by decide +kernel
theorem dX7_point_10 : decode cX7_point 10 = .ok (.iload_n 2, 1) := by decide +kernel
theorem dX7_point_11 : decode cX7_point 11 = .ok (.iconst 0, 1) := by decide +kernel
theorem dX7_point_12 : decode cX7_point 12 = .ok (.iconst 2, 1) := by decide +kernel
theorem dX7_point_13 : decode cX7_point 13 = .ok (.invokestatic 39, 3) := by decide +kernel
theorem dX7_point_16 : decode cX7_point 16 = .ok (.ifCond .ne 6, 3) := by decide +kernel
theorem dX7_point_19 : decode cX7_point 19 = .ok (.ldc 55, 2) := by decide +kernel
theorem dX7_point_21 : decode cX7_point 21 = .ok (.ireturn, 1) := by decide +kernel
theorem dX7_point_22 : decode cX7_point 22 = .ok (.aload_n 0, 1) := by decide +kernel
theorem dX7_point_23 : decode cX7_point 23 = .ok (.iload_n 1, 1) := by decide +kernel
theorem dX7_point_24 : decode cX7_point 24 = .ok (.invokevirtual 107, 3) := by decide +kernel
theorem dX7_point_27 : decode cX7_point 27 = .ok (.iload_n 2, 1) := by decide +kernel
theorem dX7_point_28 : decode cX7_point 28 = .ok (.iconst 2, 1) := by decide +kernel
theorem dX7_point_29 : decode cX7_point 29 = .ok (.if_icmp .ne 8, 3) := by decide +kernel
theorem dX7_point_32 : decode cX7_point 32 = .ok (.aload_n 0, 1) := by decide +kernel
theorem dX7_point_33 : decode cX7_point 33 = .ok (.getfield 110, 3) := by decide +kernel
theorem dX7_point_36 : decode cX7_point 36 = .ok (.ireturn, 1) := by decide +kernel
theorem dX7_point_37 : decode cX7_point 37 = .ok (.aload_n 0, 1) := by decide +kernel
theorem dX7_point_38 : decode cX7_point 38 = .ok (.getfield 110, 3) := by decide +kernel
theorem dX7_point_41 : decode cX7_point 41 = .ok (.ifCond .ne 8, 3) := by decide +kernel
theorem dX7_point_44 : decode cX7_point 44 = .ok (.ldc 92, 2) := by decide +kernel
theorem dX7_point_46 : decode cX7_point 46 = .ok (.goto 32, 3) := by decide +kernel
theorem dX7_point_49 : decode cX7_point 49 = .ok (.iload_n 2, 1) := by decide +kernel
theorem dX7_point_50 : decode cX7_point 50 = .ok (.ifCond .ne 19, 3) := by decide +kernel
theorem dX7_point_53 : decode cX7_point 53 = .ok (.aload_n 0, 1) := by decide +kernel
theorem dX7_point_54 : decode cX7_point 54 = .ok (.getfield 166, 3) := by decide +kernel
theorem dX7_point_57 : decode cX7_point 57 = .ok (.aload_n 0, 1) := by decide +kernel
theorem dX7_point_58 : decode cX7_point 58 = .ok (.getfield 110, 3) := by decide +kernel
theorem dX7_point_61 : decode cX7_point 61 = .ok (.i2l, 1) := by decide +kernel
theorem dX7_point_62 : decode cX7_point 62 = .ok (.invokestatic 126, 3) := by decide +kernel
theorem dX7_point_65 : decode cX7_point 65 = .ok (.l2i, 1) := by decide +kernel
theorem dX7_point_66 : decode cX7_point 66 = .ok (.goto 12, 3) := by decide +kernel
theorem dX7_point_69 : decode cX7_point 69 = .ok (.aload_n 0, 1) := by decide +kernel
theorem dX7_point_70 : decode cX7_point 70 = .ok (.getfield 173, 3) := by decide +kernel
theorem dX7_point_73 : decode cX7_point 73 = .ok (.aload_n 0, 1) := by decide +kernel
theorem dX7_point_74 : decode cX7_point 74 = .ok (.getfield 170, 3) := by decide +kernel
theorem dX7_point_77 : decode cX7_point 77 = .ok (.isub, 1) := by decide +kernel
theorem dX7_point_78 : decode cX7_point 78 = .ok (.ireturn, 1) := by decide +kernel
set_option maxRecDepth 20000 in
theorem ggX7_worst_X7_in : GoodIn wsX7_worst wsX7_in := goodIn_r _ [10] (by decide +kernel) (by decide +kernel)
set_option maxRecDepth 20000 in
theorem gX7_worst_X7_in : GoodIn wsX7_worst (va_wsS RX7 39 yX7_in wsX7_in) := goodIn_app (goodIn_of _ (by decide +kernel)) ggX7_worst_X7_in
set_option maxRecDepth 20000 in
theorem ggX7_worst_X7_looks : GoodIn wsX7_worst wsX7_looks := goodIn_r _ [14, 2, 15, 16, 3, 5, 4, 17, 18, 19, 9, 20, 21, 22, 23, 24, 25, 26, 27, 28, 29, 30, 31, 32, 33, 34, 35, 36, 37, 38, 39, 40, 41, 42, 43, 44, 45, 46, 47, 48, 49, 50, 51, 52, 53, 54, 55, 56, 57, 58, 59, 60, 61, 62, 63, 64] (by decide +kernel) (by decide +kernel)
set_option maxRecDepth 20000 in
theorem gX7_worst_X7_looks : GoodIn wsX7_worst (wsV RX7 96 RX7 yX7_looks wsX7_looks) := goodIn_app (goodIn_of _ (by decide +kernel)) ggX7_worst_X7_looks
theorem dX7_worst_0 : decode cX7_worst 0 = .ok (.iload_n 1, 1) := by decide +kernel
theorem dX7_worst_1 : decode cX7_worst 1 = .ok (.iconst 0, 1) := by decide +kernel
theorem dX7_worst_2 : decode cX7_worst 2 = .ok (.iconst 1, 1) := by decide +kernel
theorem dX7_worst_3 : decode cX7_worst 3 = .ok (.invokestatic 39, 3) := by decide +kernel
theorem dX7_worst_6 : decode cX7_worst 6 = .ok (.ifCond .ne 6, 3) := by decide +kernel
theorem dX7_worst_9 : decode cX7_worst 9 = .ok (.ldc 55, 2) := by decide +kernel
theorem dX7_worst_11 : decode cX7_worst 11 = .ok (.ireturn, 1) := by decide +kernel
theorem dX7_worst_12 : decode cX7_worst 12 = .ok (.iconst (-1), 1) := by decide +kernel
theorem dX7_worst_13 : decode cX7_worst 13 = .ok (.istore_n 2, 1) := by decide +kernel
theorem dX7_worst_14 : decode cX7_worst 14 = .ok (.iconst (-1), 1) := by decide +kernel
theorem dX7_worst_15 : decode cX7_worst 15 = .ok (.istore_n 3, 1) := by decide +kernel
theorem dX7_worst_16 : decode cX7_worst 16 = .ok (.iconst 1, 1) := by decide +kernel
theorem dX7_worst_17 : decode cX7_worst 17 = .ok (.istore 4, 2) := by decide +kernel
theorem dX7_worst_19 : decode cX7_worst 19 = .ok (.iload 4, 2) := by decide +kernel
theorem dX7_worst_21 : decode cX7_worst 21 = .ok (.iconst 4, 1) := by decide +kernel
theorem dX7_worst_22 : decode cX7_worst 22 = .ok (.if_icmp .ge 109, 3) := by decide +kernel
theorem dX7_worst_25 : decode cX7_worst 25 = .ok (.aload_n 0, 1) := by decide +kernel
theorem dX7_worst_26 : decode cX7_worst 26 = .ok (.iload 4, 2) := by decide +kernel
theorem dX7_worst_28 : decode cX7_worst 28 = .ok (.invokevirtual 96, 3) := by decide +kernel
theorem dX7_worst_31 : decode cX7_worst 31 = .ok (.iconst 0, 1) := by decide +kernel
theorem dX7_worst_32 : decode cX7_worst 32 = .ok (.istore 5, 2) := by decide +kernel
theorem dX7_worst_34 : decode cX7_worst 34 = .ok (.iload 5, 2) := by decide +kernel
theorem dX7_worst_36 : decode cX7_worst 36 = .ok (.aload_n 0, 1) := by decide +kernel
theorem dX7_worst_37 : decode cX7_worst 37 = .ok (.getfield 104, 3) := by decide +kernel
theorem dX7_worst_40 : decode cX7_worst 40 = .ok (.if_icmp .ge 85, 3) := by decide +kernel
theorem dX7_worst_43 : decode cX7_worst 43 = .ok (.aload_n 0, 1) := by decide +kernel
theorem dX7_worst_44 : decode cX7_worst 44 = .ok (.getfield 26, 3) := by decide +kernel
theorem dX7_worst_47 : decode cX7_worst 47 = .ok (.aload_n 0, 1) := by decide +kernel
theorem dX7_worst_48 : decode cX7_worst 48 = .ok (.getfield 36, 3) := by decide +kernel
theorem dX7_worst_51 : decode cX7_worst 51 = .ok (.iload 5, 2) := by decide +kernel
theorem dX7_worst_53 : decode cX7_worst 53 = .ok (.iaload, 1) := by decide +kernel
theorem dX7_worst_54 : decode cX7_worst 54 = .ok (.iaload, 1) := by decide +kernel
theorem dX7_worst_55 : decode cX7_worst 55 = .ok (.aload_n 0, 1) := by decide +kernel
theorem dX7_worst_56 : decode cX7_worst 56 = .ok (.getfield 26, 3) := by decide +kernel
theorem dX7_worst_59 : decode cX7_worst 59 = .ok (.aload_n 0, 1) := by decide +kernel
theorem dX7_worst_60 : decode cX7_worst 60 = .ok (.getfield 33, 3) := by decide +kernel
theorem dX7_worst_63 : decode cX7_worst 63 = .ok (.iload 5, 2) := by decide +kernel
theorem dX7_worst_65 : decode cX7_worst 65 = .ok (.iaload, 1) := by decide +kernel
theorem dX7_worst_66 : decode cX7_worst 66 = .ok (.iaload, 1) := by decide +kernel
theorem dX7_worst_67 : decode cX7_worst 67 = .ok (.isub, 1) := by decide +kernel
theorem dX7_worst_68 : decode cX7_worst 68 = .ok (.istore 6, 2) := by decide +kernel
theorem dX7_worst_70 : decode cX7_worst 70 = .ok (.iload 6, 2) := by decide +kernel
theorem dX7_worst_72 : decode cX7_worst 72 = .ok (.ifCond .ge 9, 3) := by decide +kernel
theorem dX7_worst_75 : decode cX7_worst 75 = .ok (.iload 6, 2) := by decide +kernel
theorem dX7_worst_77 : decode cX7_worst 77 = .ok (.ineg, 1) := by decide +kernel
theorem dX7_worst_78 : decode cX7_worst 78 = .ok (.goto 5, 3) := by decide +kernel
theorem dX7_worst_81 : decode cX7_worst 81 = .ok (.iload 6, 2) := by decide +kernel
theorem dX7_worst_83 : decode cX7_worst 83 = .ok (.istore 6, 2) := by decide +kernel
theorem dX7_worst_85 : decode cX7_worst 85 = .ok (.iload 6, 2) := by decide +kernel
theorem dX7_worst_87 : decode cX7_worst 87 = .ok (.iload_n 3, 1) := by decide +kernel
theorem dX7_worst_88 : decode cX7_worst 88 = .ok (.if_icmp .le 16, 3) := by decide +kernel
theorem dX7_worst_91 : decode cX7_worst 91 = .ok (.bipush 20, 2) := by decide +kernel
theorem dX7_worst_93 : decode cX7_worst 93 = .ok (.iload 4, 2) := by decide +kernel
theorem dX7_worst_95 : decode cX7_worst 95 = .ok (.iconst 1, 1) := by decide +kernel
theorem dX7_worst_96 : decode cX7_worst 96 = .ok (.isub, 1) := by decide +kernel
theorem dX7_worst_97 : decode cX7_worst 97 = .ok (.imul, 1) := by decide +kernel
theorem dX7_worst_98 : decode cX7_worst 98 = .ok (.iload 5, 2) := by decide +kernel
theorem dX7_worst_100 : decode cX7_worst 100 = .ok (.iadd, 1) := by decide +kernel
theorem dX7_worst_101 : decode cX7_worst 101 = .ok (.goto 4, 3) := by decide +kernel
theorem dX7_worst_104 : decode cX7_worst 104 = .ok (.iload_n 2, 1) := by decide +kernel
theorem dX7_worst_105 : decode cX7_worst 105 = .ok (.istore_n 2, 1) := by decide +kernel
theorem dX7_worst_106 : decode cX7_worst 106 = .ok (.iload 6, 2) := by decide +kernel
theorem dX7_worst_108 : decode cX7_worst 108 = .ok (.iload_n 3, 1) := by decide +kernel
theorem dX7_worst_109 : decode cX7_worst 109 = .ok (.if_icmp .le 8, 3) := by decide +kernel
theorem dX7_worst_112 : decode cX7_worst 112 = .ok (.iload 6, 2) := by decide +kernel
theorem dX7_worst_114 : decode cX7_worst 114 = .ok (.goto 4, 3) := by decide +kernel
theorem dX7_worst_117 : decode cX7_worst 117 = .ok (.iload_n 3, 1) := by decide +kernel
theorem dX7_worst_118 : decode cX7_worst 118 = .ok (.istore_n 3, 1) := by decide +kernel
theorem dX7_worst_119 : decode cX7_worst 119 = .ok (.iinc 5 1, 3) := by decide +kernel
theorem dX7_worst_122 : decode cX7_worst 122 = .ok (.goto (-88), 3) := by decide +kernel
theorem dX7_worst_125 : decode cX7_worst 125 = .ok (.iinc 4 1, 3) := by decide +kernel
theorem dX7_worst_128 : decode cX7_worst 128 = .ok (.goto (-109), 3) := by decide +kernel
theorem dX7_worst_131 : decode cX7_worst 131 = .ok (.iload_n 2, 1) := by decide +kernel
theorem dX7_worst_132 : decode cX7_worst 132 = .ok (.iconst (-1), 1) := by decide +kernel
theorem dX7_worst_133 : decode cX7_worst 133 = .ok (.if_icmp .ne 8, 3) := by decide +kernel
theorem dX7_worst_136 : decode cX7_worst 136 = .ok (.ldc 92, 2) := by decide +kernel
theorem dX7_worst_138 : decode cX7_worst 138 = .ok (.goto 18, 3) := by decide +kernel
theorem dX7_worst_141 : decode cX7_worst 141 = .ok (.iload_n 1, 1) := by decide +kernel
theorem dX7_worst_142 : decode cX7_worst 142 = .ok (.ifCond .ne 10, 3) := by decide +kernel
theorem dX7_worst_145 : decode cX7_worst 145 = .ok (.iload_n 2, 1) := by decide +kernel
theorem dX7_worst_146 : decode cX7_worst 146 = .ok (.bipush 20, 2) := by decide +kernel
theorem dX7_worst_148 : decode cX7_worst 148 = .ok (.idiv, 1) := by decide +kernel
theorem dX7_worst_149 : decode cX7_worst 149 = .ok (.goto 7, 3) := by decide +kernel
theorem dX7_worst_152 : decode cX7_worst 152 = .ok (.iload_n 2, 1) := by decide +kernel
theorem dX7_worst_153 : decode cX7_worst 153 = .ok (.bipush 20, 2) := by decide +kernel
theorem dX7_worst_155 : decode cX7_worst 155 = .ok (.irem, 1) := by decide +kernel
theorem dX7_worst_156 : decode cX7_worst 156 = .ok (.ireturn, 1) := by decide +kernel
set_option maxRecDepth 20000 in
theorem ggX7_type_X7_in : GoodIn wsX7_type wsX7_in := goodIn_r _ [8] (by decide +kernel) (by decide +kernel)
set_option maxRecDepth 20000 in
theorem gX7_type_X7_in : GoodIn wsX7_type (va_wsS RX7 39 yX7_in wsX7_in) := goodIn_app (goodIn_of _ (by decide +kernel)) ggX7_type_X7_in
theorem dX7_type_0 : decode cX7_type 0 = .ok (.iload_n 1, 1) := by decide +kernel
theorem dX7_type_1 : decode cX7_type 1 = .ok (.bipush 32, 2) := by decide +kernel
theorem dX7_type_3 : decode cX7_type 3 = .ok (.bipush 126, 2) := by decide +kernel
theorem dX7_type_5 : decode cX7_type 5 = .ok (.invokestatic 39, 3) := by decide +kernel
theorem dX7_type_8 : decode cX7_type 8 = .ok (.ifCond .ne 6, 3) := by decide +kernel
theorem dX7_type_11 : decode cX7_type 11 = .ok (.ldc 55, 2) := by decide +kernel
theorem dX7_type_13 : decode cX7_type 13 = .ok (.ireturn, 1) := by decide +kernel
theorem dX7_type_14 : decode cX7_type 14 = .ok (.aload_n 0, 1) := by decide +kernel
theorem dX7_type_15 : decode cX7_type 15 = .ok (.getfield 123, 3) := by decide +kernel
theorem dX7_type_18 : decode cX7_type 18 = .ok (.bipush 100, 2) := by decide +kernel
theorem dX7_type_20 : decode cX7_type 20 = .ok (.if_icmp .ne 6, 3) := by decide +kernel
theorem dX7_type_23 : decode cX7_type 23 = .ok (.ldc 75, 2) := by decide +kernel
theorem dX7_type_25 : decode cX7_type 25 = .ok (.ireturn, 1) := by decide +kernel
theorem dX7_type_26 : decode cX7_type 26 = .ok (.aload_n 0, 1) := by decide +kernel
theorem dX7_type_27 : decode cX7_type 27 = .ok (.getfield 19, 3) := by decide +kernel
theorem dX7_type_30 : decode cX7_type 30 = .ok (.aload_n 0, 1) := by decide +kernel
theorem dX7_type_31 : decode cX7_type 31 = .ok (.getfield 123, 3) := by decide +kernel
theorem dX7_type_34 : decode cX7_type 34 = .ok (.iload_n 1, 1) := by decide +kernel
theorem dX7_type_35 : decode cX7_type 35 = .ok (.i2c, 1) := by decide +kernel
theorem dX7_type_36 : decode cX7_type 36 = .ok (.castore, 1) := by decide +kernel
theorem dX7_type_37 : decode cX7_type 37 = .ok (.aload_n 0, 1) := by decide +kernel
theorem dX7_type_38 : decode cX7_type 38 = .ok (.dup, 1) := by decide +kernel
theorem dX7_type_39 : decode cX7_type 39 = .ok (.getfield 123, 3) := by decide +kernel
theorem dX7_type_42 : decode cX7_type 42 = .ok (.iconst 1, 1) := by decide +kernel
theorem dX7_type_43 : decode cX7_type 43 = .ok (.iadd, 1) := by decide +kernel
theorem dX7_type_44 : decode cX7_type 44 = .ok (.putfield 123, 3) := by decide +kernel
theorem dX7_type_47 : decode cX7_type 47 = .ok (.aload_n 0, 1) := by decide +kernel
theorem dX7_type_48 : decode cX7_type 48 = .ok (.getfield 123, 3) := by decide +kernel
theorem dX7_type_51 : decode cX7_type 51 = .ok (.ireturn, 1) := by decide +kernel
theorem dX7_clearText_0 : decode cX7_clearText 0 = .ok (.aload_n 0, 1) := by decide +kernel
theorem dX7_clearText_1 : decode cX7_clearText 1 = .ok (.getfield 123, 3) := by decide +kernel
theorem dX7_clearText_4 : decode cX7_clearText 4 = .ok (.istore_n 1, 1) := by decide +kernel
theorem dX7_clearText_5 : decode cX7_clearText 5 = .ok (.aload_n 0, 1) := by decide +kernel
theorem dX7_clearText_6 : decode cX7_clearText 6 = .ok (.iconst 0, 1) := by decide +kernel
theorem dX7_clearText_7 : decode cX7_clearText 7 = .ok (.putfield 123, 3) := by decide +kernel
theorem dX7_clearText_10 : decode cX7_clearText 10 = .ok (.iload_n 1, 1) := by decide +kernel
theorem dX7_clearText_11 : decode cX7_clearText 11 = .ok (.ireturn, 1) := by decide +kernel
theorem dX7_passes_0 : decode cX7_passes 0 = .ok (.aload_n 0, 1) := by decide +kernel
theorem dX7_passes_1 : decode cX7_passes 1 = .ok (.getfield 176, 3) := by decide +kernel
theorem dX7_passes_4 : decode cX7_passes 4 = .ok (.aload_n 0, 1) := by decide +kernel
theorem dX7_passes_5 : decode cX7_passes 5 = .ok (.getfield 123, 3) := by decide +kernel
theorem dX7_passes_8 : decode cX7_passes 8 = .ok (.if_icmp .ge 20, 3) := by decide +kernel
theorem dX7_passes_11 : decode cX7_passes 11 = .ok (.aload_n 0, 1) := by decide +kernel
theorem dX7_passes_12 : decode cX7_passes 12 = .ok (.getfield 19, 3) := by decide +kernel
theorem dX7_passes_15 : decode cX7_passes 15 = .ok (.aload_n 0, 1) := by decide +kernel
theorem dX7_passes_16 : decode cX7_passes 16 = .ok (.getfield 176, 3) := by decide +kernel
theorem dX7_passes_19 : decode cX7_passes 19 = .ok (.caload, 1) := by decide +kernel
theorem dX7_passes_20 : decode cX7_passes 20 = .ok (.iload_n 1, 1) := by decide +kernel
theorem dX7_passes_21 : decode cX7_passes 21 = .ok (.if_icmp .ne 7, 3) := by decide +kernel
theorem dX7_passes_24 : decode cX7_passes 24 = .ok (.iconst 1, 1) := by decide +kernel
theorem dX7_passes_25 : decode cX7_passes 25 = .ok (.goto 4, 3) := by decide +kernel
theorem dX7_passes_28 : decode cX7_passes 28 = .ok (.iconst 0, 1) := by decide +kernel
theorem dX7_passes_29 : decode cX7_passes 29 = .ok (.istore_n 2, 1) := by decide +kernel
theorem dX7_passes_30 : decode cX7_passes 30 = .ok (.aload_n 0, 1) := by decide +kernel
theorem dX7_passes_31 : decode cX7_passes 31 = .ok (.dup, 1) := by decide +kernel
theorem dX7_passes_32 : decode cX7_passes 32 = .ok (.getfield 176, 3) := by decide +kernel
theorem dX7_passes_35 : decode cX7_passes 35 = .ok (.iload_n 2, 1) := by decide +kernel
theorem dX7_passes_36 : decode cX7_passes 36 = .ok (.ifCond .eq 7, 3) := by decide +kernel
theorem dX7_passes_39 : decode cX7_passes 39 = .ok (.iconst 1, 1) := by decide +kernel
theorem dX7_passes_40 : decode cX7_passes 40 = .ok (.goto 4, 3) := by decide +kernel
theorem dX7_passes_43 : decode cX7_passes 43 = .ok (.iconst 0, 1) := by decide +kernel
theorem dX7_passes_44 : decode cX7_passes 44 = .ok (.iadd, 1) := by decide +kernel
theorem dX7_passes_45 : decode cX7_passes 45 = .ok (.putfield 176, 3) := by decide +kernel
theorem dX7_passes_48 : decode cX7_passes 48 = .ok (.iload_n 2, 1) := by decide +kernel
theorem dX7_passes_49 : decode cX7_passes 49 = .ok (.ireturn, 1) := by decide +kernel
set_option maxRecDepth 20000 in
theorem ggX7_number_X7_in : GoodIn wsX7_number wsX7_in := goodIn_r _ [7] (by decide +kernel) (by decide +kernel)
set_option maxRecDepth 20000 in
theorem gX7_number_X7_in : GoodIn wsX7_number (va_wsS RX7 39 yX7_in wsX7_in) := goodIn_app (goodIn_of _ (by decide +kernel)) ggX7_number_X7_in
theorem dX7_number_0 : decode cX7_number 0 = .ok (.aload_n 0, 1) := by decide +kernel
theorem dX7_number_1 : decode cX7_number 1 = .ok (.getfield 176, 3) := by decide +kernel
theorem dX7_number_4 : decode cX7_number 4 = .ok (.istore_n 2, 1) := by decide +kernel
theorem dX7_number_5 : decode cX7_number 5 = .ok (.iconst 0, 1) := by decide +kernel
theorem dX7_number_6 : decode cX7_number 6 = .ok (.istore_n 3, 1) := by decide +kernel
theorem dX7_number_7 : decode cX7_number 7 = .ok (.aload_n 0, 1) := by decide +kernel
theorem dX7_number_8 : decode cX7_number 8 = .ok (.getfield 176, 3) := by decide +kernel
theorem dX7_number_11 : decode cX7_number 11 = .ok (.aload_n 0, 1) := by decide +kernel
theorem dX7_number_12 : decode cX7_number 12 = .ok (.getfield 123, 3) := by decide +kernel
theorem dX7_number_15 : decode cX7_number 15 = .ok (.if_icmp .ge 63, 3) := by decide +kernel
theorem dX7_number_18 : decode cX7_number 18 = .ok (.aload_n 0, 1) := by decide +kernel
theorem dX7_number_19 : decode cX7_number 19 = .ok (.getfield 176, 3) := by decide +kernel
theorem dX7_number_22 : decode cX7_number 22 = .ok (.iload_n 2, 1) := by decide +kernel
theorem dX7_number_23 : decode cX7_number 23 = .ok (.iload_n 1, 1) := by decide +kernel
theorem dX7_number_24 : decode cX7_number 24 = .ok (.iadd, 1) := by decide +kernel
theorem dX7_number_25 : decode cX7_number 25 = .ok (.if_icmp .ge 53, 3) := by decide +kernel
theorem dX7_number_28 : decode cX7_number 28 = .ok (.aload_n 0, 1) := by decide +kernel
theorem dX7_number_29 : decode cX7_number 29 = .ok (.getfield 19, 3) := by decide +kernel
theorem dX7_number_32 : decode cX7_number 32 = .ok (.aload_n 0, 1) := by decide +kernel
theorem dX7_number_33 : decode cX7_number 33 = .ok (.getfield 176, 3) := by decide +kernel
theorem dX7_number_36 : decode cX7_number 36 = .ok (.caload, 1) := by decide +kernel
theorem dX7_number_37 : decode cX7_number 37 = .ok (.bipush 48, 2) := by decide +kernel
theorem dX7_number_39 : decode cX7_number 39 = .ok (.bipush 57, 2) := by decide +kernel
theorem dX7_number_41 : decode cX7_number 41 = .ok (.invokestatic 39, 3) := by decide +kernel
theorem dX7_number_44 : decode cX7_number 44 = .ok (.ifCond .eq 34, 3) := by decide +kernel
theorem dX7_number_47 : decode cX7_number 47 = .ok (.bipush 10, 2) := by decide +kernel
theorem dX7_number_49 : decode cX7_number 49 = .ok (.iload_n 3, 1) := by decide +kernel
theorem dX7_number_50 : decode cX7_number 50 = .ok (.imul, 1) := by decide +kernel
theorem dX7_number_51 : decode cX7_number 51 = .ok (.aload_n 0, 1) := by decide +kernel
theorem dX7_number_52 : decode cX7_number 52 = .ok (.getfield 19, 3) := by decide +kernel
theorem dX7_number_55 : decode cX7_number 55 = .ok (.aload_n 0, 1) := by decide +kernel
theorem dX7_number_56 : decode cX7_number 56 = .ok (.getfield 176, 3) := by decide +kernel
theorem dX7_number_59 : decode cX7_number 59 = .ok (.caload, 1) := by decide +kernel
theorem dX7_number_60 : decode cX7_number 60 = .ok (.iadd, 1) := by decide +kernel
theorem dX7_number_61 : decode cX7_number 61 = .ok (.bipush 48, 2) := by decide +kernel
theorem dX7_number_63 : decode cX7_number 63 = .ok (.isub, 1) := by decide +kernel
theorem dX7_number_64 : decode cX7_number 64 = .ok (.istore_n 3, 1) := by decide +kernel
theorem dX7_number_65 : decode cX7_number 65 = .ok (.aload_n 0, 1) := by decide +kernel
theorem dX7_number_66 : decode cX7_number 66 = .ok (.dup, 1) := by decide +kernel
theorem dX7_number_67 : decode cX7_number 67 = .ok (.getfield 176, 3) := by decide +kernel
theorem dX7_number_70 : decode cX7_number 70 = .ok (.iconst 1, 1) := by decide +kernel
theorem dX7_number_71 : decode cX7_number 71 = .ok (.iadd, 1) := by decide +kernel
theorem dX7_number_72 : decode cX7_number 72 = .ok (.putfield 176, 3) := by decide +kernel
theorem dX7_number_75 : decode cX7_number 75 = .ok (.goto (-68), 3) := by decide +kernel
theorem dX7_number_78 : decode cX7_number 78 = .ok (.aload_n 0, 1) := by decide +kernel
theorem dX7_number_79 : decode cX7_number 79 = .ok (.getfield 176, 3) := by decide +kernel
theorem dX7_number_82 : decode cX7_number 82 = .ok (.iload_n 2, 1) := by decide +kernel
theorem dX7_number_83 : decode cX7_number 83 = .ok (.if_icmp .le 7, 3) := by decide +kernel
theorem dX7_number_86 : decode cX7_number 86 = .ok (.iload_n 3, 1) := by decide +kernel
theorem dX7_number_87 : decode cX7_number 87 = .ok (.goto 4, 3) := by decide +kernel
theorem dX7_number_90 : decode cX7_number 90 = .ok (.iconst (-1), 1) := by decide +kernel
theorem dX7_number_91 : decode cX7_number 91 = .ok (.ireturn, 1) := by decide +kernel
set_option maxRecDepth 20000 in
theorem ggX7_readsForm_X7_passes : GoodIn wsX7_readsForm wsX7_passes := goodIn_r _ [7, 8, 9, 10, 18, 19, 20, 21, 22, 23, 24, 25, 26, 27, 28, 29, 30, 31, 32, 33, 34, 35, 36, 37, 38] (by decide +kernel) (by decide +kernel)
set_option maxRecDepth 20000 in
theorem gX7_readsForm_X7_passes : GoodIn wsX7_readsForm (wsV RX7 182 RX7 yX7_passes wsX7_passes) := goodIn_app (goodIn_of _ (by decide +kernel)) ggX7_readsForm_X7_passes
set_option maxRecDepth 20000 in
theorem ggX7_readsForm_X7_number : GoodIn wsX7_readsForm wsX7_number := goodIn_r _ [14, 8, 9, 10, 15, 16, 6, 17, 18, 19, 20, 21, 22, 23, 24, 25, 26, 27, 28, 29, 30, 31, 32, 33, 34, 35, 36, 37, 38] (by decide +kernel) (by decide +kernel)
set_option maxRecDepth 20000 in
theorem gX7_readsForm_X7_number : GoodIn wsX7_readsForm (wsV RX7 186 RX7 yX7_number wsX7_number) := goodIn_app (goodIn_of _ (by decide +kernel)) ggX7_readsForm_X7_number
theorem dX7_readsForm_0 : decode cX7_readsForm 0 = .ok (.aload_n 0, 1) := by decide +kernel
theorem dX7_readsForm_1 : decode cX7_readsForm 1 = .ok (.iconst 0, 1) := by decide +kernel
theorem dX7_readsForm_2 : decode cX7_readsForm 2 = .ok (.putfield 179, 3) := by decide +kernel
theorem dX7_readsForm_5 : decode cX7_readsForm 5 = .ok (.aload_n 0, 1) := by decide +kernel
theorem dX7_readsForm_6 : decode cX7_readsForm 6 = .ok (.getfield 23, 3) := by decide +kernel
theorem dX7_readsForm_9 : decode cX7_readsForm 9 = .ok (.iconst 3, 1) := by decide +kernel
theorem dX7_readsForm_10 : decode cX7_readsForm 10 = .ok (.iconst 0, 1) := by decide +kernel
theorem dX7_readsForm_11 : decode cX7_readsForm 11 = .ok (.iastore, 1) := by decide +kernel
theorem dX7_readsForm_12 : decode cX7_readsForm 12 = .ok (.aload_n 0, 1) := by decide +kernel
theorem dX7_readsForm_13 : decode cX7_readsForm 13 = .ok (.bipush 99, 2) := by decide +kernel
theorem dX7_readsForm_15 : decode cX7_readsForm 15 = .ok (.invokevirtual 182, 3) := by decide +kernel
theorem dX7_readsForm_18 : decode cX7_readsForm 18 = .ok (.ifCond .eq 56, 3) := by decide +kernel
theorem dX7_readsForm_21 : decode cX7_readsForm 21 = .ok (.aload_n 0, 1) := by decide +kernel
theorem dX7_readsForm_22 : decode cX7_readsForm 22 = .ok (.aload_n 0, 1) := by decide +kernel
theorem dX7_readsForm_23 : decode cX7_readsForm 23 = .ok (.iconst 1, 1) := by decide +kernel
theorem dX7_readsForm_24 : decode cX7_readsForm 24 = .ok (.invokevirtual 186, 3) := by decide +kernel
theorem dX7_readsForm_27 : decode cX7_readsForm 27 = .ok (.iconst 1, 1) := by decide +kernel
theorem dX7_readsForm_28 : decode cX7_readsForm 28 = .ok (.iadd, 1) := by decide +kernel
theorem dX7_readsForm_29 : decode cX7_readsForm 29 = .ok (.putfield 179, 3) := by decide +kernel
theorem dX7_readsForm_32 : decode cX7_readsForm 32 = .ok (.aload_n 0, 1) := by decide +kernel
theorem dX7_readsForm_33 : decode cX7_readsForm 33 = .ok (.getfield 23, 3) := by decide +kernel
theorem dX7_readsForm_36 : decode cX7_readsForm 36 = .ok (.iconst 3, 1) := by decide +kernel
theorem dX7_readsForm_37 : decode cX7_readsForm 37 = .ok (.aload_n 0, 1) := by decide +kernel
theorem dX7_readsForm_38 : decode cX7_readsForm 38 = .ok (.getfield 179, 3) := by decide +kernel
theorem dX7_readsForm_41 : decode cX7_readsForm 41 = .ok (.ifCond .le 20, 3) := by decide +kernel
theorem dX7_readsForm_44 : decode cX7_readsForm 44 = .ok (.aload_n 0, 1) := by decide +kernel
theorem dX7_readsForm_45 : decode cX7_readsForm 45 = .ok (.bipush 64, 2) := by decide +kernel
theorem dX7_readsForm_47 : decode cX7_readsForm 47 = .ok (.invokevirtual 182, 3) := by decide +kernel
theorem dX7_readsForm_50 : decode cX7_readsForm 50 = .ok (.ifCond .eq 11, 3) := by decide +kernel
theorem dX7_readsForm_53 : decode cX7_readsForm 53 = .ok (.aload_n 0, 1) := by decide +kernel
theorem dX7_readsForm_54 : decode cX7_readsForm 54 = .ok (.iconst 1, 1) := by decide +kernel
theorem dX7_readsForm_55 : decode cX7_readsForm 55 = .ok (.invokevirtual 186, 3) := by decide +kernel
theorem dX7_readsForm_58 : decode cX7_readsForm 58 = .ok (.goto 4, 3) := by decide +kernel
theorem dX7_readsForm_61 : decode cX7_readsForm 61 = .ok (.iconst (-1), 1) := by decide +kernel
theorem dX7_readsForm_62 : decode cX7_readsForm 62 = .ok (.iastore, 1) := by decide +kernel
theorem dX7_readsForm_63 : decode cX7_readsForm 63 = .ok (.aload_n 0, 1) := by decide +kernel
theorem dX7_readsForm_64 : decode cX7_readsForm 64 = .ok (.getfield 23, 3) := by decide +kernel
theorem dX7_readsForm_67 : decode cX7_readsForm 67 = .ok (.iconst 3, 1) := by decide +kernel
theorem dX7_readsForm_68 : decode cX7_readsForm 68 = .ok (.iaload, 1) := by decide +kernel
theorem dX7_readsForm_69 : decode cX7_readsForm 69 = .ok (.ifCond .ge 16, 3) := by decide +kernel
theorem dX7_readsForm_72 : decode cX7_readsForm 72 = .ok (.iconst 0, 1) := by decide +kernel
theorem dX7_readsForm_73 : decode cX7_readsForm 73 = .ok (.ireturn, 1) := by decide +kernel
theorem dX7_readsForm_74 : decode cX7_readsForm 74 = .ok (.aload_n 0, 1) := by decide +kernel
theorem dX7_readsForm_75 : decode cX7_readsForm 75 = .ok (.bipush 98, 2) := by decide +kernel
theorem dX7_readsForm_77 : decode cX7_readsForm 77 = .ok (.invokevirtual 182, 3) := by decide +kernel
theorem dX7_readsForm_80 : decode cX7_readsForm 80 = .ok (.ifCond .ne 5, 3) := by decide +kernel
theorem dX7_readsForm_83 : decode cX7_readsForm 83 = .ok (.iconst 0, 1) := by decide +kernel
theorem dX7_readsForm_84 : decode cX7_readsForm 84 = .ok (.ireturn, 1) := by decide +kernel
theorem dX7_readsForm_85 : decode cX7_readsForm 85 = .ok (.aload_n 0, 1) := by decide +kernel
theorem dX7_readsForm_86 : decode cX7_readsForm 86 = .ok (.getfield 23, 3) := by decide +kernel
theorem dX7_readsForm_89 : decode cX7_readsForm 89 = .ok (.iconst 0, 1) := by decide +kernel
theorem dX7_readsForm_90 : decode cX7_readsForm 90 = .ok (.aload_n 0, 1) := by decide +kernel
theorem dX7_readsForm_91 : decode cX7_readsForm 91 = .ok (.bipush 116, 2) := by decide +kernel
theorem dX7_readsForm_93 : decode cX7_readsForm 93 = .ok (.invokevirtual 182, 3) := by decide +kernel
theorem dX7_readsForm_96 : decode cX7_readsForm 96 = .ok (.ifCond .eq 11, 3) := by decide +kernel
theorem dX7_readsForm_99 : decode cX7_readsForm 99 = .ok (.aload_n 0, 1) := by decide +kernel
theorem dX7_readsForm_100 : decode cX7_readsForm 100 = .ok (.iconst 5, 1) := by decide +kernel
theorem dX7_readsForm_101 : decode cX7_readsForm 101 = .ok (.invokevirtual 186, 3) := by decide +kernel
theorem dX7_readsForm_104 : decode cX7_readsForm 104 = .ok (.goto 4, 3) := by decide +kernel
theorem dX7_readsForm_107 : decode cX7_readsForm 107 = .ok (.iconst (-1), 1) := by decide +kernel
theorem dX7_readsForm_108 : decode cX7_readsForm 108 = .ok (.iastore, 1) := by decide +kernel
theorem dX7_readsForm_109 : decode cX7_readsForm 109 = .ok (.aload_n 0, 1) := by decide +kernel
theorem dX7_readsForm_110 : decode cX7_readsForm 110 = .ok (.getfield 23, 3) := by decide +kernel
theorem dX7_readsForm_113 : decode cX7_readsForm 113 = .ok (.iconst 1, 1) := by decide +kernel
theorem dX7_readsForm_114 : decode cX7_readsForm 114 = .ok (.aload_n 0, 1) := by decide +kernel
theorem dX7_readsForm_115 : decode cX7_readsForm 115 = .ok (.getfield 23, 3) := by decide +kernel
theorem dX7_readsForm_118 : decode cX7_readsForm 118 = .ok (.iconst 0, 1) := by decide +kernel
theorem dX7_readsForm_119 : decode cX7_readsForm 119 = .ok (.iaload, 1) := by decide +kernel
theorem dX7_readsForm_120 : decode cX7_readsForm 120 = .ok (.ifCond .lt 21, 3) := by decide +kernel
theorem dX7_readsForm_123 : decode cX7_readsForm 123 = .ok (.aload_n 0, 1) := by decide +kernel
theorem dX7_readsForm_124 : decode cX7_readsForm 124 = .ok (.bipush 112, 2) := by decide +kernel
theorem dX7_readsForm_126 : decode cX7_readsForm 126 = .ok (.invokevirtual 182, 3) := by decide +kernel
theorem dX7_readsForm_129 : decode cX7_readsForm 129 = .ok (.ifCond .eq 12, 3) := by decide +kernel
theorem dX7_readsForm_132 : decode cX7_readsForm 132 = .ok (.aload_n 0, 1) := by decide +kernel
theorem dX7_readsForm_133 : decode cX7_readsForm 133 = .ok (.bipush 6, 2) := by decide +kernel
theorem dX7_readsForm_135 : decode cX7_readsForm 135 = .ok (.invokevirtual 186, 3) := by decide +kernel
theorem dX7_readsForm_138 : decode cX7_readsForm 138 = .ok (.goto 4, 3) := by decide +kernel
theorem dX7_readsForm_141 : decode cX7_readsForm 141 = .ok (.iconst (-1), 1) := by decide +kernel
theorem dX7_readsForm_142 : decode cX7_readsForm 142 = .ok (.iastore, 1) := by decide +kernel
theorem dX7_readsForm_143 : decode cX7_readsForm 143 = .ok (.aload_n 0, 1) := by decide +kernel
theorem dX7_readsForm_144 : decode cX7_readsForm 144 = .ok (.getfield 23, 3) := by decide +kernel
theorem dX7_readsForm_147 : decode cX7_readsForm 147 = .ok (.iconst 1, 1) := by decide +kernel
theorem dX7_readsForm_148 : decode cX7_readsForm 148 = .ok (.iaload, 1) := by decide +kernel
theorem dX7_readsForm_149 : decode cX7_readsForm 149 = .ok (.ifCond .lt 12, 3) := by decide +kernel
theorem dX7_readsForm_152 : decode cX7_readsForm 152 = .ok (.aload_n 0, 1) := by decide +kernel
theorem dX7_readsForm_153 : decode cX7_readsForm 153 = .ok (.bipush 99, 2) := by decide +kernel
theorem dX7_readsForm_155 : decode cX7_readsForm 155 = .ok (.invokevirtual 182, 3) := by decide +kernel
theorem dX7_readsForm_158 : decode cX7_readsForm 158 = .ok (.ifCond .ne 5, 3) := by decide +kernel
theorem dX7_readsForm_161 : decode cX7_readsForm 161 = .ok (.iconst 0, 1) := by decide +kernel
theorem dX7_readsForm_162 : decode cX7_readsForm 162 = .ok (.ireturn, 1) := by decide +kernel
theorem dX7_readsForm_163 : decode cX7_readsForm 163 = .ok (.aload_n 0, 1) := by decide +kernel
theorem dX7_readsForm_164 : decode cX7_readsForm 164 = .ok (.bipush 45, 2) := by decide +kernel
theorem dX7_readsForm_166 : decode cX7_readsForm 166 = .ok (.invokevirtual 182, 3) := by decide +kernel
theorem dX7_readsForm_169 : decode cX7_readsForm 169 = .ok (.istore_n 1, 1) := by decide +kernel
theorem dX7_readsForm_170 : decode cX7_readsForm 170 = .ok (.aload_n 0, 1) := by decide +kernel
theorem dX7_readsForm_171 : decode cX7_readsForm 171 = .ok (.iconst 3, 1) := by decide +kernel
theorem dX7_readsForm_172 : decode cX7_readsForm 172 = .ok (.invokevirtual 186, 3) := by decide +kernel
theorem dX7_readsForm_175 : decode cX7_readsForm 175 = .ok (.istore_n 2, 1) := by decide +kernel
theorem dX7_readsForm_176 : decode cX7_readsForm 176 = .ok (.aload_n 0, 1) := by decide +kernel
theorem dX7_readsForm_177 : decode cX7_readsForm 177 = .ok (.getfield 23, 3) := by decide +kernel
theorem dX7_readsForm_180 : decode cX7_readsForm 180 = .ok (.iconst 2, 1) := by decide +kernel
theorem dX7_readsForm_181 : decode cX7_readsForm 181 = .ok (.iload_n 1, 1) := by decide +kernel
theorem dX7_readsForm_182 : decode cX7_readsForm 182 = .ok (.ifCond .eq 8, 3) := by decide +kernel
theorem dX7_readsForm_185 : decode cX7_readsForm 185 = .ok (.iload_n 2, 1) := by decide +kernel
theorem dX7_readsForm_186 : decode cX7_readsForm 186 = .ok (.ineg, 1) := by decide +kernel
theorem dX7_readsForm_187 : decode cX7_readsForm 187 = .ok (.goto 4, 3) := by decide +kernel
theorem dX7_readsForm_190 : decode cX7_readsForm 190 = .ok (.iload_n 2, 1) := by decide +kernel
theorem dX7_readsForm_191 : decode cX7_readsForm 191 = .ok (.iastore, 1) := by decide +kernel
theorem dX7_readsForm_192 : decode cX7_readsForm 192 = .ok (.iload_n 2, 1) := by decide +kernel
theorem dX7_readsForm_193 : decode cX7_readsForm 193 = .ok (.ifCond .lt 16, 3) := by decide +kernel
theorem dX7_readsForm_196 : decode cX7_readsForm 196 = .ok (.aload_n 0, 1) := by decide +kernel
theorem dX7_readsForm_197 : decode cX7_readsForm 197 = .ok (.bipush 59, 2) := by decide +kernel
theorem dX7_readsForm_199 : decode cX7_readsForm 199 = .ok (.invokevirtual 182, 3) := by decide +kernel
theorem dX7_readsForm_202 : decode cX7_readsForm 202 = .ok (.ifCond .eq 7, 3) := by decide +kernel
theorem dX7_readsForm_205 : decode cX7_readsForm 205 = .ok (.iconst 1, 1) := by decide +kernel
theorem dX7_readsForm_206 : decode cX7_readsForm 206 = .ok (.goto 4, 3) := by decide +kernel
theorem dX7_readsForm_209 : decode cX7_readsForm 209 = .ok (.iconst 0, 1) := by decide +kernel
theorem dX7_readsForm_210 : decode cX7_readsForm 210 = .ok (.ireturn, 1) := by decide +kernel
set_option maxRecDepth 20000 in
theorem ggX7_entersOne_X7_readsForm : GoodIn wsX7_entersOne wsX7_readsForm := goodIn_r _ [7, 1, 2, 8, 9, 10, 6, 11, 12, 13, 14, 15, 16, 17, 18, 19, 20, 21, 48, 49, 50, 51, 52, 53, 54, 55, 56, 57, 58, 59, 60, 61, 62, 63, 64, 65, 66, 67, 68] (by decide +kernel) (by decide +kernel)
set_option maxRecDepth 20000 in
theorem gX7_entersOne_X7_readsForm : GoodIn wsX7_entersOne (wsV RX7 189 RX7 yX7_readsForm wsX7_readsForm) := goodIn_app (goodIn_of _ (by decide +kernel)) ggX7_entersOne_X7_readsForm
set_option maxRecDepth 20000 in
theorem ggX7_entersOne_X7_areValues : GoodIn wsX7_entersOne wsX7_areValues := goodIn_r _ [24, 25, 26, 19, 20, 6, 21] (by decide +kernel) (by decide +kernel)
set_option maxRecDepth 20000 in
theorem gX7_entersOne_X7_areValues : GoodIn wsX7_entersOne (va_wsS RX7 80 yX7_areValues wsX7_areValues) := goodIn_app (goodIn_of _ (by decide +kernel)) ggX7_entersOne_X7_areValues
set_option maxRecDepth 20000 in
theorem ggX7_entersOne_X7_isTaken : GoodIn wsX7_entersOne wsX7_isTaken := goodIn_r _ [30, 31, 32, 33, 34, 6, 35, 48, 49, 50, 51, 52, 53, 54, 55, 56, 57, 58, 59, 60, 61, 62, 63, 64, 65, 66, 67, 68] (by decide +kernel) (by decide +kernel)
set_option maxRecDepth 20000 in
theorem gX7_entersOne_X7_isTaken : GoodIn wsX7_entersOne (wsV RX7 67 RX7 yX7_isTaken wsX7_isTaken) := goodIn_app (goodIn_of _ (by decide +kernel)) ggX7_entersOne_X7_isTaken
set_option maxRecDepth 20000 in
theorem ggX7_entersOne_X7_isFull : GoodIn wsX7_entersOne wsX7_isFull := goodIn_r _ [39, 31, 48, 49, 50, 51, 52, 53, 54, 55, 56, 57, 58, 59, 60, 61, 62, 63, 64, 65, 66, 67, 68] (by decide +kernel) (by decide +kernel)
set_option maxRecDepth 20000 in
theorem gX7_entersOne_X7_isFull : GoodIn wsX7_entersOne (wsV RX7 71 RX7 yX7_isFull wsX7_isFull) := goodIn_app (goodIn_of _ (by decide +kernel)) ggX7_entersOne_X7_isFull
set_option maxRecDepth 20000 in
theorem ggX7_entersOne_X7_puts : GoodIn wsX7_entersOne wsX7_puts := goodIn_r _ [43, 31, 32, 33, 34, 6, 35, 44, 45, 46, 47, 48, 49, 50, 51, 52, 53, 54, 55, 56, 57, 58, 59, 60, 61, 62, 63, 64, 65, 66, 67, 68] (by decide +kernel) (by decide +kernel)
set_option maxRecDepth 20000 in
theorem gX7_entersOne_X7_puts : GoodIn wsX7_entersOne (wsV RX7 76 RX7 yX7_puts wsX7_puts) := goodIn_app (goodIn_of _ (by decide +kernel)) ggX7_entersOne_X7_puts
theorem dX7_entersOne_0 : decode cX7_entersOne 0 = .ok (.aload_n 0, 1) := by decide +kernel
theorem dX7_entersOne_1 : decode cX7_entersOne 1 = .ok (.invokevirtual 189, 3) := by decide +kernel
theorem dX7_entersOne_4 : decode cX7_entersOne 4 = .ok (.ifCond .ne 5, 3) := by decide +kernel
theorem dX7_entersOne_7 : decode cX7_entersOne 7 = .ok (.iconst 1, 1) := by decide +kernel
theorem dX7_entersOne_8 : decode cX7_entersOne 8 = .ok (.ireturn, 1) := by decide +kernel
theorem dX7_entersOne_9 : decode cX7_entersOne 9 = .ok (.aload_n 0, 1) := by decide +kernel
theorem dX7_entersOne_10 : decode cX7_entersOne 10 = .ok (.getfield 179, 3) := by decide +kernel
theorem dX7_entersOne_13 : decode cX7_entersOne 13 = .ok (.iconst 3, 1) := by decide +kernel
theorem dX7_entersOne_14 : decode cX7_entersOne 14 = .ok (.if_icmp .gt 27, 3) := by decide +kernel
theorem dX7_entersOne_17 : decode cX7_entersOne 17 = .ok (.aload_n 0, 1) := by decide +kernel
theorem dX7_entersOne_18 : decode cX7_entersOne 18 = .ok (.getfield 23, 3) := by decide +kernel
theorem dX7_entersOne_21 : decode cX7_entersOne 21 = .ok (.iconst 0, 1) := by decide +kernel
theorem dX7_entersOne_22 : decode cX7_entersOne 22 = .ok (.iaload, 1) := by decide +kernel
theorem dX7_entersOne_23 : decode cX7_entersOne 23 = .ok (.aload_n 0, 1) := by decide +kernel
theorem dX7_entersOne_24 : decode cX7_entersOne 24 = .ok (.getfield 23, 3) := by decide +kernel
theorem dX7_entersOne_27 : decode cX7_entersOne 27 = .ok (.iconst 1, 1) := by decide +kernel
theorem dX7_entersOne_28 : decode cX7_entersOne 28 = .ok (.iaload, 1) := by decide +kernel
theorem dX7_entersOne_29 : decode cX7_entersOne 29 = .ok (.aload_n 0, 1) := by decide +kernel
theorem dX7_entersOne_30 : decode cX7_entersOne 30 = .ok (.getfield 23, 3) := by decide +kernel
theorem dX7_entersOne_33 : decode cX7_entersOne 33 = .ok (.iconst 2, 1) := by decide +kernel
theorem dX7_entersOne_34 : decode cX7_entersOne 34 = .ok (.iaload, 1) := by decide +kernel
theorem dX7_entersOne_35 : decode cX7_entersOne 35 = .ok (.invokestatic 80, 3) := by decide +kernel
theorem dX7_entersOne_38 : decode cX7_entersOne 38 = .ok (.ifCond .ne 5, 3) := by decide +kernel
theorem dX7_entersOne_41 : decode cX7_entersOne 41 = .ok (.iconst 2, 1) := by decide +kernel
theorem dX7_entersOne_42 : decode cX7_entersOne 42 = .ok (.ireturn, 1) := by decide +kernel
theorem dX7_entersOne_43 : decode cX7_entersOne 43 = .ok (.aload_n 0, 1) := by decide +kernel
theorem dX7_entersOne_44 : decode cX7_entersOne 44 = .ok (.aload_n 0, 1) := by decide +kernel
theorem dX7_entersOne_45 : decode cX7_entersOne 45 = .ok (.getfield 179, 3) := by decide +kernel
theorem dX7_entersOne_48 : decode cX7_entersOne 48 = .ok (.aload_n 0, 1) := by decide +kernel
theorem dX7_entersOne_49 : decode cX7_entersOne 49 = .ok (.getfield 23, 3) := by decide +kernel
theorem dX7_entersOne_52 : decode cX7_entersOne 52 = .ok (.iconst 0, 1) := by decide +kernel
theorem dX7_entersOne_53 : decode cX7_entersOne 53 = .ok (.iaload, 1) := by decide +kernel
theorem dX7_entersOne_54 : decode cX7_entersOne 54 = .ok (.invokevirtual 67, 3) := by decide +kernel
theorem dX7_entersOne_57 : decode cX7_entersOne 57 = .ok (.ifCond .eq 5, 3) := by decide +kernel
theorem dX7_entersOne_60 : decode cX7_entersOne 60 = .ok (.iconst 3, 1) := by decide +kernel
theorem dX7_entersOne_61 : decode cX7_entersOne 61 = .ok (.ireturn, 1) := by decide +kernel
theorem dX7_entersOne_62 : decode cX7_entersOne 62 = .ok (.aload_n 0, 1) := by decide +kernel
theorem dX7_entersOne_63 : decode cX7_entersOne 63 = .ok (.aload_n 0, 1) := by decide +kernel
theorem dX7_entersOne_64 : decode cX7_entersOne 64 = .ok (.getfield 179, 3) := by decide +kernel
theorem dX7_entersOne_67 : decode cX7_entersOne 67 = .ok (.invokevirtual 71, 3) := by decide +kernel
theorem dX7_entersOne_70 : decode cX7_entersOne 70 = .ok (.ifCond .eq 5, 3) := by decide +kernel
theorem dX7_entersOne_73 : decode cX7_entersOne 73 = .ok (.iconst 4, 1) := by decide +kernel
theorem dX7_entersOne_74 : decode cX7_entersOne 74 = .ok (.ireturn, 1) := by decide +kernel
theorem dX7_entersOne_75 : decode cX7_entersOne 75 = .ok (.aload_n 0, 1) := by decide +kernel
theorem dX7_entersOne_76 : decode cX7_entersOne 76 = .ok (.aload_n 0, 1) := by decide +kernel
theorem dX7_entersOne_77 : decode cX7_entersOne 77 = .ok (.getfield 179, 3) := by decide +kernel
theorem dX7_entersOne_80 : decode cX7_entersOne 80 = .ok (.aload_n 0, 1) := by decide +kernel
theorem dX7_entersOne_81 : decode cX7_entersOne 81 = .ok (.getfield 23, 3) := by decide +kernel
theorem dX7_entersOne_84 : decode cX7_entersOne 84 = .ok (.iconst 0, 1) := by decide +kernel
theorem dX7_entersOne_85 : decode cX7_entersOne 85 = .ok (.iaload, 1) := by decide +kernel
theorem dX7_entersOne_86 : decode cX7_entersOne 86 = .ok (.aload_n 0, 1) := by decide +kernel
theorem dX7_entersOne_87 : decode cX7_entersOne 87 = .ok (.getfield 23, 3) := by decide +kernel
theorem dX7_entersOne_90 : decode cX7_entersOne 90 = .ok (.iconst 1, 1) := by decide +kernel
theorem dX7_entersOne_91 : decode cX7_entersOne 91 = .ok (.iaload, 1) := by decide +kernel
theorem dX7_entersOne_92 : decode cX7_entersOne 92 = .ok (.aload_n 0, 1) := by decide +kernel
theorem dX7_entersOne_93 : decode cX7_entersOne 93 = .ok (.getfield 23, 3) := by decide +kernel
theorem dX7_entersOne_96 : decode cX7_entersOne 96 = .ok (.iconst 2, 1) := by decide +kernel
theorem dX7_entersOne_97 : decode cX7_entersOne 97 = .ok (.iaload, 1) := by decide +kernel
theorem dX7_entersOne_98 : decode cX7_entersOne 98 = .ok (.aload_n 0, 1) := by decide +kernel
theorem dX7_entersOne_99 : decode cX7_entersOne 99 = .ok (.getfield 23, 3) := by decide +kernel
theorem dX7_entersOne_102 : decode cX7_entersOne 102 = .ok (.iconst 3, 1) := by decide +kernel
theorem dX7_entersOne_103 : decode cX7_entersOne 103 = .ok (.iaload, 1) := by decide +kernel
theorem dX7_entersOne_104 : decode cX7_entersOne 104 = .ok (.invokevirtual 76, 3) := by decide +kernel
theorem dX7_entersOne_107 : decode cX7_entersOne 107 = .ok (.pop, 1) := by decide +kernel
theorem dX7_entersOne_108 : decode cX7_entersOne 108 = .ok (.iconst 0, 1) := by decide +kernel
theorem dX7_entersOne_109 : decode cX7_entersOne 109 = .ok (.ireturn, 1) := by decide +kernel
set_option maxRecDepth 20000 in
theorem ggX7_faulty_X7_entersOne : GoodIn wsX7_faulty wsX7_entersOne := goodIn_r _ [11, 12, 13, 14, 15, 16, 10, 17, 18, 19, 20, 21, 4, 5, 22, 23, 24, 25, 26, 27, 28, 29, 30, 31, 32, 33, 34, 35, 36, 37, 38, 2, 39, 40, 41, 42, 43, 44, 45, 46, 47, 48, 49, 50, 51, 52, 53, 54, 55, 56, 57, 58, 59, 60, 61, 62, 63, 64, 65, 66, 67, 68, 69, 70, 71, 72, 73, 74, 75] (by decide +kernel) (by decide +kernel)
set_option maxRecDepth 20000 in
theorem gX7_faulty_X7_entersOne : GoodIn wsX7_faulty (wsV RX7 193 RX7 yX7_entersOne wsX7_entersOne) := goodIn_app (goodIn_of _ (by decide +kernel)) ggX7_faulty_X7_entersOne
theorem dX7_faulty_0 : decode cX7_faulty 0 = .ok (.iconst 0, 1) := by decide +kernel
theorem dX7_faulty_1 : decode cX7_faulty 1 = .ok (.istore_n 1, 1) := by decide +kernel
theorem dX7_faulty_2 : decode cX7_faulty 2 = .ok (.iload_n 1, 1) := by decide +kernel
theorem dX7_faulty_3 : decode cX7_faulty 3 = .ok (.sipush 327, 3) := by decide +kernel
theorem dX7_faulty_6 : decode cX7_faulty 6 = .ok (.if_icmp .ge 21, 3) := by decide +kernel
theorem dX7_faulty_9 : decode cX7_faulty 9 = .ok (.aload_n 0, 1) := by decide +kernel
theorem dX7_faulty_10 : decode cX7_faulty 10 = .ok (.getfield 16, 3) := by decide +kernel
theorem dX7_faulty_13 : decode cX7_faulty 13 = .ok (.iload_n 1, 1) := by decide +kernel
theorem dX7_faulty_14 : decode cX7_faulty 14 = .ok (.aload_n 0, 1) := by decide +kernel
theorem dX7_faulty_15 : decode cX7_faulty 15 = .ok (.getfield 7, 3) := by decide +kernel
theorem dX7_faulty_18 : decode cX7_faulty 18 = .ok (.iload_n 1, 1) := by decide +kernel
theorem dX7_faulty_19 : decode cX7_faulty 19 = .ok (.iaload, 1) := by decide +kernel
theorem dX7_faulty_20 : decode cX7_faulty 20 = .ok (.iastore, 1) := by decide +kernel
theorem dX7_faulty_21 : decode cX7_faulty 21 = .ok (.iinc 1 1, 3) := by decide +kernel
theorem dX7_faulty_24 : decode cX7_faulty 24 = .ok (.goto (-22), 3) := by decide +kernel
theorem dX7_faulty_27 : decode cX7_faulty 27 = .ok (.ldc 92, 2) := by decide +kernel
theorem dX7_faulty_29 : decode cX7_faulty 29 = .ok (.istore_n 1, 1) := by decide +kernel
theorem dX7_faulty_30 : decode cX7_faulty 30 = .ok (.aload_n 0, 1) := by decide +kernel
theorem dX7_faulty_31 : decode cX7_faulty 31 = .ok (.iconst 0, 1) := by decide +kernel
theorem dX7_faulty_32 : decode cX7_faulty 32 = .ok (.putfield 176, 3) := by decide +kernel
theorem dX7_faulty_35 : decode cX7_faulty 35 = .ok (.aload_n 0, 1) := by decide +kernel
theorem dX7_faulty_36 : decode cX7_faulty 36 = .ok (.getfield 176, 3) := by decide +kernel
theorem dX7_faulty_39 : decode cX7_faulty 39 = .ok (.aload_n 0, 1) := by decide +kernel
theorem dX7_faulty_40 : decode cX7_faulty 40 = .ok (.getfield 123, 3) := by decide +kernel
theorem dX7_faulty_43 : decode cX7_faulty 43 = .ok (.if_icmp .ge 38, 3) := by decide +kernel
theorem dX7_faulty_46 : decode cX7_faulty 46 = .ok (.iload_n 1, 1) := by decide +kernel
theorem dX7_faulty_47 : decode cX7_faulty 47 = .ok (.ldc 92, 2) := by decide +kernel
theorem dX7_faulty_49 : decode cX7_faulty 49 = .ok (.if_icmp .ne 32, 3) := by decide +kernel
theorem dX7_faulty_52 : decode cX7_faulty 52 = .ok (.aload_n 0, 1) := by decide +kernel
theorem dX7_faulty_53 : decode cX7_faulty 53 = .ok (.getfield 176, 3) := by decide +kernel
theorem dX7_faulty_56 : decode cX7_faulty 56 = .ok (.istore_n 2, 1) := by decide +kernel
theorem dX7_faulty_57 : decode cX7_faulty 57 = .ok (.aload_n 0, 1) := by decide +kernel
theorem dX7_faulty_58 : decode cX7_faulty 58 = .ok (.aload_n 0, 1) := by decide +kernel
theorem dX7_faulty_59 : decode cX7_faulty 59 = .ok (.invokevirtual 193, 3) := by decide +kernel
theorem dX7_faulty_62 : decode cX7_faulty 62 = .ok (.putfield 196, 3) := by decide +kernel
theorem dX7_faulty_65 : decode cX7_faulty 65 = .ok (.aload_n 0, 1) := by decide +kernel
theorem dX7_faulty_66 : decode cX7_faulty 66 = .ok (.getfield 196, 3) := by decide +kernel
theorem dX7_faulty_69 : decode cX7_faulty 69 = .ok (.ifCond .le 7, 3) := by decide +kernel
theorem dX7_faulty_72 : decode cX7_faulty 72 = .ok (.iload_n 2, 1) := by decide +kernel
theorem dX7_faulty_73 : decode cX7_faulty 73 = .ok (.goto 4, 3) := by decide +kernel
theorem dX7_faulty_76 : decode cX7_faulty 76 = .ok (.iload_n 1, 1) := by decide +kernel
theorem dX7_faulty_77 : decode cX7_faulty 77 = .ok (.istore_n 1, 1) := by decide +kernel
theorem dX7_faulty_78 : decode cX7_faulty 78 = .ok (.goto (-43), 3) := by decide +kernel
theorem dX7_faulty_81 : decode cX7_faulty 81 = .ok (.iconst 0, 1) := by decide +kernel
theorem dX7_faulty_82 : decode cX7_faulty 82 = .ok (.istore_n 2, 1) := by decide +kernel
theorem dX7_faulty_83 : decode cX7_faulty 83 = .ok (.iload_n 2, 1) := by decide +kernel
theorem dX7_faulty_84 : decode cX7_faulty 84 = .ok (.sipush 327, 3) := by decide +kernel
theorem dX7_faulty_87 : decode cX7_faulty 87 = .ok (.if_icmp .ge 21, 3) := by decide +kernel
theorem dX7_faulty_90 : decode cX7_faulty 90 = .ok (.aload_n 0, 1) := by decide +kernel
theorem dX7_faulty_91 : decode cX7_faulty 91 = .ok (.getfield 7, 3) := by decide +kernel
theorem dX7_faulty_94 : decode cX7_faulty 94 = .ok (.iload_n 2, 1) := by decide +kernel
theorem dX7_faulty_95 : decode cX7_faulty 95 = .ok (.aload_n 0, 1) := by decide +kernel
theorem dX7_faulty_96 : decode cX7_faulty 96 = .ok (.getfield 16, 3) := by decide +kernel
theorem dX7_faulty_99 : decode cX7_faulty 99 = .ok (.iload_n 2, 1) := by decide +kernel
theorem dX7_faulty_100 : decode cX7_faulty 100 = .ok (.iaload, 1) := by decide +kernel
theorem dX7_faulty_101 : decode cX7_faulty 101 = .ok (.iastore, 1) := by decide +kernel
theorem dX7_faulty_102 : decode cX7_faulty 102 = .ok (.iinc 2 1, 3) := by decide +kernel
theorem dX7_faulty_105 : decode cX7_faulty 105 = .ok (.goto (-22), 3) := by decide +kernel
theorem dX7_faulty_108 : decode cX7_faulty 108 = .ok (.iload_n 1, 1) := by decide +kernel
theorem dX7_faulty_109 : decode cX7_faulty 109 = .ok (.ireturn, 1) := by decide +kernel
set_option maxRecDepth 20000 in
theorem ggX7_fault_X7_in : GoodIn wsX7_fault wsX7_in := goodIn_r _ [7] (by decide +kernel) (by decide +kernel)
set_option maxRecDepth 20000 in
theorem gX7_fault_X7_in : GoodIn wsX7_fault (va_wsS RX7 39 yX7_in wsX7_in) := goodIn_app (goodIn_of _ (by decide +kernel)) ggX7_fault_X7_in
set_option maxRecDepth 20000 in
theorem ggX7_fault_X7_faulty : GoodIn wsX7_fault wsX7_faulty := goodIn_r _ [11, 12, 13, 2, 14, 15, 3, 16, 17, 18, 6, 19, 20, 21, 22, 23, 24, 25, 26, 27, 28, 29, 30, 31, 32, 33, 34, 4, 5, 7, 35, 36, 37, 38, 39, 40, 41, 42, 43, 44, 45, 46, 47, 48, 49, 50, 51, 52, 53, 54, 55, 56, 57, 58, 59, 60, 61, 62, 63, 64, 65, 66, 67, 68, 69, 70, 71, 72, 73, 74, 75, 76, 77, 78, 79, 80] (by decide +kernel) (by decide +kernel)
set_option maxRecDepth 20000 in
theorem gX7_fault_X7_faulty : GoodIn wsX7_fault (wsV RX7 199 RX7 yX7_faulty wsX7_faulty) := goodIn_app (goodIn_of _ (by decide +kernel)) ggX7_fault_X7_faulty
theorem dX7_fault_0 : decode cX7_fault 0 = .ok (.iload_n 1, 1) := by decide +kernel
theorem dX7_fault_1 : decode cX7_fault 1 = .ok (.iconst 0, 1) := by decide +kernel
theorem dX7_fault_2 : decode cX7_fault 2 = .ok (.iconst 1, 1) := by decide +kernel
theorem dX7_fault_3 : decode cX7_fault 3 = .ok (.invokestatic 39, 3) := by decide +kernel
theorem dX7_fault_6 : decode cX7_fault 6 = .ok (.ifCond .ne 6, 3) := by decide +kernel
theorem dX7_fault_9 : decode cX7_fault 9 = .ok (.ldc 55, 2) := by decide +kernel
theorem dX7_fault_11 : decode cX7_fault 11 = .ok (.ireturn, 1) := by decide +kernel
theorem dX7_fault_12 : decode cX7_fault 12 = .ok (.aload_n 0, 1) := by decide +kernel
theorem dX7_fault_13 : decode cX7_fault 13 = .ok (.invokevirtual 199, 3) := by decide +kernel
theorem dX7_fault_16 : decode cX7_fault 16 = .ok (.istore_n 2, 1) := by decide +kernel
theorem dX7_fault_17 : decode cX7_fault 17 = .ok (.iload_n 2, 1) := by decide +kernel
theorem dX7_fault_18 : decode cX7_fault 18 = .ok (.ldc 92, 2) := by decide +kernel
theorem dX7_fault_20 : decode cX7_fault 20 = .ok (.if_icmp .eq 7, 3) := by decide +kernel
theorem dX7_fault_23 : decode cX7_fault 23 = .ok (.iload_n 1, 1) := by decide +kernel
theorem dX7_fault_24 : decode cX7_fault 24 = .ok (.ifCond .ne 7, 3) := by decide +kernel
theorem dX7_fault_27 : decode cX7_fault 27 = .ok (.iload_n 2, 1) := by decide +kernel
theorem dX7_fault_28 : decode cX7_fault 28 = .ok (.goto 7, 3) := by decide +kernel
theorem dX7_fault_31 : decode cX7_fault 31 = .ok (.aload_n 0, 1) := by decide +kernel
theorem dX7_fault_32 : decode cX7_fault 32 = .ok (.getfield 196, 3) := by decide +kernel
theorem dX7_fault_35 : decode cX7_fault 35 = .ok (.ireturn, 1) := by decide +kernel
set_option maxRecDepth 20000 in
theorem ggX7_enter_X7_faulty : GoodIn wsX7_enter wsX7_faulty := goodIn_r _ [9, 10, 11, 1, 3, 4, 12, 13, 14, 15, 8, 16, 17, 18, 19, 20, 21, 22, 23, 24, 25, 26, 27, 28, 29, 30, 31, 32, 33, 34, 35, 36, 37, 38, 39, 40, 41, 42, 43, 44, 45, 46, 47, 48, 49, 50, 51, 52, 53, 54, 55, 56, 57, 58, 59, 66, 67, 68, 69, 70, 71, 72, 73, 74, 75, 76, 77, 78, 79, 80, 81, 82, 83, 84, 85, 86] (by decide +kernel) (by decide +kernel)
set_option maxRecDepth 20000 in
theorem gX7_enter_X7_faulty : GoodIn wsX7_enter (wsV RX7 199 RX7 yX7_faulty wsX7_faulty) := goodIn_app (goodIn_of _ (by decide +kernel)) ggX7_enter_X7_faulty
set_option maxRecDepth 20000 in
theorem ggX7_enter_X7_records : GoodIn wsX7_enter wsX7_records := goodIn_r _ [63, 64, 65, 11, 66, 67, 68, 69, 70, 71, 72, 73, 74, 75, 76, 77, 78, 79, 80, 81, 82, 83, 84, 85, 86] (by decide +kernel) (by decide +kernel)
set_option maxRecDepth 20000 in
theorem gX7_enter_X7_records : GoodIn wsX7_enter (wsV RX7 56 RX7 yX7_records wsX7_records) := goodIn_app (goodIn_of _ (by decide +kernel)) ggX7_enter_X7_records
set_option maxRecDepth 20000 in
theorem ggX7_enter_X7_entersOne : GoodIn wsX7_enter wsX7_entersOne := goodIn_r _ [16, 17, 18, 19, 20, 21, 8, 22, 23, 24, 25, 26, 3, 4, 27, 28, 29, 30, 31, 32, 33, 34, 35, 36, 37, 38, 39, 40, 41, 42, 43, 11, 44, 45, 46, 47, 48, 49, 50, 51, 52, 53, 54, 55, 56, 57, 58, 59, 66, 67, 68, 69, 70, 71, 72, 73, 74, 75, 76, 77, 78, 79, 80, 81, 82, 83, 84, 85, 86] (by decide +kernel) (by decide +kernel)
set_option maxRecDepth 20000 in
theorem gX7_enter_X7_entersOne : GoodIn wsX7_enter (wsV RX7 193 RX7 yX7_entersOne wsX7_entersOne) := goodIn_app (goodIn_of _ (by decide +kernel)) ggX7_enter_X7_entersOne
theorem dX7_enter_0 : decode cX7_enter 0 = .ok (.aload_n 0, 1) := by decide +kernel
theorem dX7_enter_1 : decode cX7_enter 1 = .ok (.invokevirtual 199, 3) := by decide +kernel
theorem dX7_enter_4 : decode cX7_enter 4 = .ok (.ldc 92, 2) := by decide +kernel
theorem dX7_enter_6 : decode cX7_enter 6 = .ok (.if_icmp .eq 6, 3) := by decide +kernel
theorem dX7_enter_9 : decode cX7_enter 9 = .ok (.ldc 70, 2) := by decide +kernel
theorem dX7_enter_11 : decode cX7_enter 11 = .ok (.ireturn, 1) := by decide +kernel
theorem dX7_enter_12 : decode cX7_enter 12 = .ok (.aload_n 0, 1) := by decide +kernel
theorem dX7_enter_13 : decode cX7_enter 13 = .ok (.invokevirtual 56, 3) := by decide +kernel
theorem dX7_enter_16 : decode cX7_enter 16 = .ok (.iconst 0, 1) := by decide +kernel
theorem dX7_enter_17 : decode cX7_enter 17 = .ok (.istore_n 1, 1) := by decide +kernel
theorem dX7_enter_18 : decode cX7_enter 18 = .ok (.aload_n 0, 1) := by decide +kernel
theorem dX7_enter_19 : decode cX7_enter 19 = .ok (.iconst 0, 1) := by decide +kernel
theorem dX7_enter_20 : decode cX7_enter 20 = .ok (.putfield 176, 3) := by decide +kernel
theorem dX7_enter_23 : decode cX7_enter 23 = .ok (.aload_n 0, 1) := by decide +kernel
theorem dX7_enter_24 : decode cX7_enter 24 = .ok (.getfield 176, 3) := by decide +kernel
theorem dX7_enter_27 : decode cX7_enter 27 = .ok (.aload_n 0, 1) := by decide +kernel
theorem dX7_enter_28 : decode cX7_enter 28 = .ok (.getfield 123, 3) := by decide +kernel
theorem dX7_enter_31 : decode cX7_enter 31 = .ok (.if_icmp .ge 14, 3) := by decide +kernel
theorem dX7_enter_34 : decode cX7_enter 34 = .ok (.aload_n 0, 1) := by decide +kernel
theorem dX7_enter_35 : decode cX7_enter 35 = .ok (.invokevirtual 193, 3) := by decide +kernel
theorem dX7_enter_38 : decode cX7_enter 38 = .ok (.pop, 1) := by decide +kernel
theorem dX7_enter_39 : decode cX7_enter 39 = .ok (.iinc 1 1, 3) := by decide +kernel
theorem dX7_enter_42 : decode cX7_enter 42 = .ok (.goto (-19), 3) := by decide +kernel
theorem dX7_enter_45 : decode cX7_enter 45 = .ok (.iload_n 1, 1) := by decide +kernel
theorem dX7_enter_46 : decode cX7_enter 46 = .ok (.ireturn, 1) := by decide +kernel
