theorem dX3_init_0 : decode cX3_init 0 = .ok (.aload_n 0, 1) := by decide +kernel
theorem dX3_init_1 : decode cX3_init 1 = .ok (.invokespecial 3, 3) := by decide +kernel
theorem dX3_init_4 : decode cX3_init 4 = .ok (.aload_n 0, 1) := by decide +kernel
theorem dX3_init_5 : decode cX3_init 5 = .ok (.bipush 20, 2) := by decide +kernel
theorem dX3_init_7 : decode cX3_init 7 = .ok (.newarray .int, 2) := by decide +kernel
theorem dX3_init_9 : decode cX3_init 9 = .ok (.putfield 9, 3) := by decide +kernel
theorem dX3_init_12 : decode cX3_init 12 = .ok (.aload_n 0, 1) := by decide +kernel
theorem dX3_init_13 : decode cX3_init 13 = .ok (.bipush 20, 2) := by decide +kernel
theorem dX3_init_15 : decode cX3_init 15 = .ok (.newarray .int, 2) := by decide +kernel
theorem dX3_init_17 : decode cX3_init 17 = .ok (.putfield 15, 3) := by decide +kernel
theorem dX3_init_20 : decode cX3_init 20 = .ok (.aload_n 0, 1) := by decide +kernel
theorem dX3_init_21 : decode cX3_init 21 = .ok (.bipush 20, 2) := by decide +kernel
theorem dX3_init_23 : decode cX3_init 23 = .ok (.newarray .int, 2) := by decide +kernel
theorem dX3_init_25 : decode cX3_init 25 = .ok (.putfield 18, 3) := by decide +kernel
theorem dX3_init_28 : decode cX3_init 28 = .ok (.aload_n 0, 1) := by decide +kernel
theorem dX3_init_29 : decode cX3_init 29 = .ok (.bipush 20, 2) := by decide +kernel
theorem dX3_init_31 : decode cX3_init 31 = .ok (.newarray .int, 2) := by decide +kernel
theorem dX3_init_33 : decode cX3_init 33 = .ok (.putfield 21, 3) := by decide +kernel
theorem dX3_init_36 : decode cX3_init 36 = .ok (.aload_n 0, 1) := by decide +kernel
theorem dX3_init_37 : decode cX3_init 37 = .ok (.bipush 20, 2) := by decide +kernel
theorem dX3_init_39 : decode cX3_init 39 = .ok (.newarray .int, 2) := by decide +kernel
theorem dX3_init_41 : decode cX3_init 41 = .ok (.putfield 24, 3) := by decide +kernel
theorem dX3_init_44 : decode cX3_init 44 = .ok (.aload_n 0, 1) := by decide +kernel
theorem dX3_init_45 : decode cX3_init 45 = .ok (.bipush 20, 2) := by decide +kernel
theorem dX3_init_47 : decode cX3_init 47 = .ok (.newarray .int, 2) := by decide +kernel
theorem dX3_init_49 : decode cX3_init 49 = .ok (.putfield 27, 3) := by decide +kernel
theorem dX3_init_52 : decode cX3_init 52 = .ok (.aload_n 0, 1) := by decide +kernel
theorem dX3_init_53 : decode cX3_init 53 = .ok (.bipush 20, 2) := by decide +kernel
theorem dX3_init_55 : decode cX3_init 55 = .ok (.newarray .int, 2) := by decide +kernel
theorem dX3_init_57 : decode cX3_init 57 = .ok (.putfield 30, 3) := by decide +kernel
theorem dX3_init_60 : decode cX3_init 60 = .ok (.aload_n 0, 1) := by decide +kernel
theorem dX3_init_61 : decode cX3_init 61 = .ok (.bipush 20, 2) := by decide +kernel
theorem dX3_init_63 : decode cX3_init 63 = .ok (.newarray .int, 2) := by decide +kernel
theorem dX3_init_65 : decode cX3_init 65 = .ok (.putfield 33, 3) := by decide +kernel
theorem dX3_init_68 : decode cX3_init 68 = .ok (.return_, 1) := by decide +kernel
set_option maxRecDepth 20000 in
theorem ggX3_workOut_X2_track : GoodIn wsX3_workOut wsX2_track := goodIn_r _ [12, 13, 14, 15, 16, 129, 130, 131, 132, 133, 134, 135] (by decide +kernel) (by decide +kernel)
set_option maxRecDepth 20000 in
theorem gX3_workOut_X2_track : GoodIn wsX3_workOut (wsV RX3 36 RX2 yX2_track wsX2_track) := goodIn_app (goodIn_of _ (by decide +kernel)) ggX3_workOut_X2_track
set_option maxRecDepth 20000 in
theorem ggX3_workOut_X5_value : GoodIn wsX3_workOut wsX5_value := goodIn_r _ [21, 22, 23, 24, 25, 114, 115, 116] (by decide +kernel) (by decide +kernel)
set_option maxRecDepth 20000 in
theorem gX3_workOut_X5_value : GoodIn wsX3_workOut (wsV RX3 49 RX5 yX5_value wsX5_value) := goodIn_app (goodIn_of _ (by decide +kernel)) ggX3_workOut_X5_value
set_option maxRecDepth 20000 in
theorem ggX3_workOut_X6_put : GoodIn wsX3_workOut wsX6_put := goodIn_r _ [27] (by decide +kernel) (by decide +kernel)
set_option maxRecDepth 20000 in
theorem gX3_workOut_X6_put_n53 : GoodIn wsX3_workOut (wsX6_put) := ggX3_workOut_X6_put
set_option maxRecDepth 20000 in
theorem ggX3_workOut_X2_heightAt : GoodIn wsX3_workOut wsX2_heightAt := goodIn_r _ [31, 32, 33, 34, 35, 36, 37, 11, 38, 16, 39, 18, 19, 20, 21, 22, 23, 24, 25, 40, 41, 42, 43, 44, 45, 46, 47, 48, 129, 130, 131, 132, 133, 134, 135, 114, 115, 116] (by decide +kernel) (by decide +kernel)
set_option maxRecDepth 20000 in
theorem gX3_workOut_X2_heightAt : GoodIn wsX3_workOut (wsV RX3 57 RX2 yX2_heightAt wsX2_heightAt) := goodIn_app (goodIn_of _ (by decide +kernel)) ggX3_workOut_X2_heightAt
set_option maxRecDepth 20000 in
theorem ggX3_workOut_X5_standsOut : GoodIn wsX3_workOut wsX5_standsOut := goodIn_r _ [52, 53, 54, 18, 19, 20, 21, 22, 23, 24, 25, 114, 115, 116] (by decide +kernel) (by decide +kernel)
set_option maxRecDepth 20000 in
theorem gX3_workOut_X5_standsOut : GoodIn wsX3_workOut (wsV RX3 64 RX5 yX5_standsOut wsX5_standsOut) := goodIn_app (goodIn_of _ (by decide +kernel)) ggX3_workOut_X5_standsOut
set_option maxRecDepth 20000 in
theorem ggX3_workOut_X3_countKinds : GoodIn wsX3_workOut wsX3_countKinds := goodIn_r _ [59, 60, 61, 1, 62, 63, 64, 58, 65, 5, 23, 24, 25, 66, 67, 68, 69, 4, 70, 117, 118, 119, 120, 121, 122, 123, 124, 125, 126, 127, 128] (by decide +kernel) (by decide +kernel)
set_option maxRecDepth 20000 in
theorem gX3_workOut_X3_countKinds : GoodIn wsX3_workOut (wsV RX3 68 RX3 yX3_countKinds wsX3_countKinds) := goodIn_app (goodIn_of _ (by decide +kernel)) ggX3_workOut_X3_countKinds
set_option maxRecDepth 20000 in
theorem ggX3_workOut_X3_findLoops : GoodIn wsX3_workOut wsX3_findLoops := goodIn_r _ [74, 75, 1, 76, 77, 66, 67, 68, 58, 69, 4, 70, 5, 23, 24, 25, 78, 79, 80, 81, 3, 26, 27, 117, 118, 119, 120, 121, 122, 123, 124, 125, 126, 127, 128] (by decide +kernel) (by decide +kernel)
set_option maxRecDepth 20000 in
theorem gX3_workOut_X3_findLoops : GoodIn wsX3_workOut (wsV RX3 71 RX3 yX3_findLoops wsX3_findLoops) := goodIn_app (goodIn_of _ (by decide +kernel)) ggX3_workOut_X3_findLoops
set_option maxRecDepth 20000 in
theorem ggX3_workOut_X3_shortestLoop : GoodIn wsX3_workOut wsX3_shortestLoop := goodIn_r _ [85, 75, 66, 67, 68, 58, 69, 4, 70, 5, 23, 24, 25, 86, 87, 88, 89, 76, 90, 91, 92, 93, 77, 94, 95, 96, 97, 2, 117, 118, 119, 120, 121, 122, 123, 124, 125, 126, 127, 128] (by decide +kernel) (by decide +kernel)
set_option maxRecDepth 20000 in
theorem gX3_workOut_X3_shortestLoop : GoodIn wsX3_workOut (wsV RX3 74 RX3 yX3_shortestLoop wsX3_shortestLoop) := goodIn_app (goodIn_of _ (by decide +kernel)) ggX3_workOut_X3_shortestLoop
set_option maxRecDepth 20000 in
theorem ggX3_workOut_X3_withoutDrift : GoodIn wsX3_workOut wsX3_withoutDrift := goodIn_r _ [101, 70, 2, 66, 67, 68, 58, 69, 4, 5, 23, 24, 25, 102, 103, 104, 105, 6, 106, 107, 108, 109, 86, 87, 88, 89, 76, 110, 111, 112, 113, 90, 91, 92, 93, 77, 94, 95, 96, 97, 40, 41, 42, 43, 44, 45, 117, 118, 119, 120, 121, 122, 123, 124, 125, 126, 127, 128] (by decide +kernel) (by decide +kernel)
set_option maxRecDepth 20000 in
theorem gX3_workOut_X3_withoutDrift : GoodIn wsX3_workOut (wsV RX3 78 RX3 yX3_withoutDrift wsX3_withoutDrift) := goodIn_app (goodIn_of _ (by decide +kernel)) ggX3_workOut_X3_withoutDrift
theorem dX3_workOut_0 : decode cX3_workOut 0 = .ok (.aload_n 1, 1) := by decide +kernel
theorem dX3_workOut_1 : decode cX3_workOut 1 = .ok (.iload_n 2, 1) := by decide +kernel
theorem dX3_workOut_2 : decode cX3_workOut 2 = .ok (.invokevirtual 36, 3) := by decide +kernel
theorem dX3_workOut_5 : decode cX3_workOut 5 = .ok (.astore_n 3, 1) := by decide +kernel
theorem dX3_workOut_6 : decode cX3_workOut 6 = .ok (.aload_n 0, 1) := by decide +kernel
theorem dX3_workOut_7 : decode cX3_workOut 7 = .ok (.aload_n 3, 1) := by decide +kernel
theorem dX3_workOut_8 : decode cX3_workOut 8 = .ok (.getfield 42, 3) := by decide +kernel
theorem dX3_workOut_11 : decode cX3_workOut 11 = .ok (.putfield 48, 3) := by decide +kernel
theorem dX3_workOut_14 : decode cX3_workOut 14 = .ok (.iconst 0, 1) := by decide +kernel
theorem dX3_workOut_15 : decode cX3_workOut 15 = .ok (.istore 4, 2) := by decide +kernel
theorem dX3_workOut_17 : decode cX3_workOut 17 = .ok (.iload 4, 2) := by decide +kernel
theorem dX3_workOut_19 : decode cX3_workOut 19 = .ok (.aload_n 0, 1) := by decide +kernel
theorem dX3_workOut_20 : decode cX3_workOut 20 = .ok (.getfield 48, 3) := by decide +kernel
theorem dX3_workOut_23 : decode cX3_workOut 23 = .ok (.if_icmp .ge 109, 3) := by decide +kernel
theorem dX3_workOut_26 : decode cX3_workOut 26 = .ok (.aload_n 3, 1) := by decide +kernel
theorem dX3_workOut_27 : decode cX3_workOut 27 = .ok (.iload 4, 2) := by decide +kernel
theorem dX3_workOut_29 : decode cX3_workOut 29 = .ok (.iconst 0, 1) := by decide +kernel
theorem dX3_workOut_30 : decode cX3_workOut 30 = .ok (.invokevirtual 49, 3) := by decide +kernel
theorem dX3_workOut_33 : decode cX3_workOut 33 = .ok (.istore 5, 2) := by decide +kernel
theorem dX3_workOut_35 : decode cX3_workOut 35 = .ok (.aload_n 3, 1) := by decide +kernel
theorem dX3_workOut_36 : decode cX3_workOut 36 = .ok (.iload 4, 2) := by decide +kernel
theorem dX3_workOut_38 : decode cX3_workOut 38 = .ok (.iconst 1, 1) := by decide +kernel
theorem dX3_workOut_39 : decode cX3_workOut 39 = .ok (.invokevirtual 49, 3) := by decide +kernel
theorem dX3_workOut_42 : decode cX3_workOut 42 = .ok (.istore 6, 2) := by decide +kernel
theorem dX3_workOut_44 : decode cX3_workOut 44 = .ok (.aload_n 3, 1) := by decide +kernel
theorem dX3_workOut_45 : decode cX3_workOut 45 = .ok (.iload 4, 2) := by decide +kernel
theorem dX3_workOut_47 : decode cX3_workOut 47 = .ok (.iconst 2, 1) := by decide +kernel
theorem dX3_workOut_48 : decode cX3_workOut 48 = .ok (.invokevirtual 49, 3) := by decide +kernel
theorem dX3_workOut_51 : decode cX3_workOut 51 = .ok (.istore 7, 2) := by decide +kernel
theorem dX3_workOut_53 : decode cX3_workOut 53 = .ok (.aload_n 0, 1) := by decide +kernel
theorem dX3_workOut_54 : decode cX3_workOut 54 = .ok (.getfield 9, 3) := by decide +kernel
theorem dX3_workOut_57 : decode cX3_workOut 57 = .ok (.iload 4, 2) := by decide +kernel
theorem dX3_workOut_59 : decode cX3_workOut 59 = .ok (.iload 5, 2) := by decide +kernel
theorem dX3_workOut_61 : decode cX3_workOut 61 = .ok (.invokestatic 53, 3) := by decide +kernel
theorem dX3_workOut_64 : decode cX3_workOut 64 = .ok (.aload_n 0, 1) := by decide +kernel
theorem dX3_workOut_65 : decode cX3_workOut 65 = .ok (.getfield 15, 3) := by decide +kernel
theorem dX3_workOut_68 : decode cX3_workOut 68 = .ok (.iload 4, 2) := by decide +kernel
theorem dX3_workOut_70 : decode cX3_workOut 70 = .ok (.aload_n 3, 1) := by decide +kernel
theorem dX3_workOut_71 : decode cX3_workOut 71 = .ok (.iload 4, 2) := by decide +kernel
theorem dX3_workOut_73 : decode cX3_workOut 73 = .ok (.iconst 3, 1) := by decide +kernel
theorem dX3_workOut_74 : decode cX3_workOut 74 = .ok (.invokevirtual 49, 3) := by decide +kernel
theorem dX3_workOut_77 : decode cX3_workOut 77 = .ok (.invokestatic 53, 3) := by decide +kernel
theorem dX3_workOut_80 : decode cX3_workOut 80 = .ok (.aload_n 0, 1) := by decide +kernel
theorem dX3_workOut_81 : decode cX3_workOut 81 = .ok (.getfield 18, 3) := by decide +kernel
theorem dX3_workOut_84 : decode cX3_workOut 84 = .ok (.iload 4, 2) := by decide +kernel
theorem dX3_workOut_86 : decode cX3_workOut 86 = .ok (.aload_n 1, 1) := by decide +kernel
theorem dX3_workOut_87 : decode cX3_workOut 87 = .ok (.iload 5, 2) := by decide +kernel
theorem dX3_workOut_89 : decode cX3_workOut 89 = .ok (.iload 6, 2) := by decide +kernel
theorem dX3_workOut_91 : decode cX3_workOut 91 = .ok (.iload 7, 2) := by decide +kernel
theorem dX3_workOut_93 : decode cX3_workOut 93 = .ok (.invokevirtual 57, 3) := by decide +kernel
theorem dX3_workOut_96 : decode cX3_workOut 96 = .ok (.invokestatic 53, 3) := by decide +kernel
theorem dX3_workOut_99 : decode cX3_workOut 99 = .ok (.aload_n 0, 1) := by decide +kernel
theorem dX3_workOut_100 : decode cX3_workOut 100 = .ok (.getfield 21, 3) := by decide +kernel
theorem dX3_workOut_103 : decode cX3_workOut 103 = .ok (.iload 4, 2) := by decide +kernel
theorem dX3_workOut_105 : decode cX3_workOut 105 = .ok (.aload_n 3, 1) := by decide +kernel
theorem dX3_workOut_106 : decode cX3_workOut 106 = .ok (.iload 4, 2) := by decide +kernel
theorem dX3_workOut_108 : decode cX3_workOut 108 = .ok (.aload_n 1, 1) := by decide +kernel
theorem dX3_workOut_109 : decode cX3_workOut 109 = .ok (.getfield 61, 3) := by decide +kernel
theorem dX3_workOut_112 : decode cX3_workOut 112 = .ok (.invokevirtual 64, 3) := by decide +kernel
theorem dX3_workOut_115 : decode cX3_workOut 115 = .ok (.ifCond .eq 7, 3) := by decide +kernel
theorem dX3_workOut_118 : decode cX3_workOut 118 = .ok (.iconst 1, 1) := by decide +kernel
theorem dX3_workOut_119 : decode cX3_workOut 119 = .ok (.goto 4, 3) := by decide +kernel
theorem dX3_workOut_122 : decode cX3_workOut 122 = .ok (.iconst 0, 1) := by decide +kernel
theorem dX3_workOut_123 : decode cX3_workOut 123 = .ok (.invokestatic 53, 3) := by decide +kernel
theorem dX3_workOut_126 : decode cX3_workOut 126 = .ok (.iinc 4 1, 3) := by decide +kernel
theorem dX3_workOut_129 : decode cX3_workOut 129 = .ok (.goto (-112), 3) := by decide +kernel
theorem dX3_workOut_132 : decode cX3_workOut 132 = .ok (.aload_n 0, 1) := by decide +kernel
theorem dX3_workOut_133 : decode cX3_workOut 133 = .ok (.invokevirtual 68, 3) := by decide +kernel
theorem dX3_workOut_136 : decode cX3_workOut 136 = .ok (.aload_n 0, 1) := by decide +kernel
theorem dX3_workOut_137 : decode cX3_workOut 137 = .ok (.invokevirtual 71, 3) := by decide +kernel
theorem dX3_workOut_140 : decode cX3_workOut 140 = .ok (.iconst 0, 1) := by decide +kernel
theorem dX3_workOut_141 : decode cX3_workOut 141 = .ok (.istore 4, 2) := by decide +kernel
theorem dX3_workOut_143 : decode cX3_workOut 143 = .ok (.iload 4, 2) := by decide +kernel
theorem dX3_workOut_145 : decode cX3_workOut 145 = .ok (.aload_n 0, 1) := by decide +kernel
theorem dX3_workOut_146 : decode cX3_workOut 146 = .ok (.getfield 48, 3) := by decide +kernel
theorem dX3_workOut_149 : decode cX3_workOut 149 = .ok (.if_icmp .ge 39, 3) := by decide +kernel
theorem dX3_workOut_152 : decode cX3_workOut 152 = .ok (.aload_n 0, 1) := by decide +kernel
theorem dX3_workOut_153 : decode cX3_workOut 153 = .ok (.getfield 24, 3) := by decide +kernel
theorem dX3_workOut_156 : decode cX3_workOut 156 = .ok (.iload 4, 2) := by decide +kernel
theorem dX3_workOut_158 : decode cX3_workOut 158 = .ok (.aload_n 0, 1) := by decide +kernel
theorem dX3_workOut_159 : decode cX3_workOut 159 = .ok (.iload 4, 2) := by decide +kernel
theorem dX3_workOut_161 : decode cX3_workOut 161 = .ok (.invokevirtual 74, 3) := by decide +kernel
theorem dX3_workOut_164 : decode cX3_workOut 164 = .ok (.invokestatic 53, 3) := by decide +kernel
theorem dX3_workOut_167 : decode cX3_workOut 167 = .ok (.aload_n 0, 1) := by decide +kernel
theorem dX3_workOut_168 : decode cX3_workOut 168 = .ok (.getfield 27, 3) := by decide +kernel
theorem dX3_workOut_171 : decode cX3_workOut 171 = .ok (.iload 4, 2) := by decide +kernel
theorem dX3_workOut_173 : decode cX3_workOut 173 = .ok (.aload_n 0, 1) := by decide +kernel
theorem dX3_workOut_174 : decode cX3_workOut 174 = .ok (.iload 4, 2) := by decide +kernel
theorem dX3_workOut_176 : decode cX3_workOut 176 = .ok (.invokevirtual 78, 3) := by decide +kernel
theorem dX3_workOut_179 : decode cX3_workOut 179 = .ok (.invokestatic 53, 3) := by decide +kernel
theorem dX3_workOut_182 : decode cX3_workOut 182 = .ok (.iinc 4 1, 3) := by decide +kernel
theorem dX3_workOut_185 : decode cX3_workOut 185 = .ok (.goto (-42), 3) := by decide +kernel
theorem dX3_workOut_188 : decode cX3_workOut 188 = .ok (.return_, 1) := by decide +kernel
set_option maxRecDepth 20000 in
theorem ggX3_isGust_X6_at : GoodIn wsX3_isGust wsX6_at := goodIn_r _ [4] (by decide +kernel) (by decide +kernel)
set_option maxRecDepth 20000 in
theorem gX3_isGust_X6_at_n81 : GoodIn wsX3_isGust (wsX6_at) := ggX3_isGust_X6_at
theorem dX3_isGust_0 : decode cX3_isGust 0 = .ok (.aload_n 0, 1) := by decide +kernel
theorem dX3_isGust_1 : decode cX3_isGust 1 = .ok (.getfield 21, 3) := by decide +kernel
theorem dX3_isGust_4 : decode cX3_isGust 4 = .ok (.iload_n 1, 1) := by decide +kernel
theorem dX3_isGust_5 : decode cX3_isGust 5 = .ok (.invokestatic 81, 3) := by decide +kernel
theorem dX3_isGust_8 : decode cX3_isGust 8 = .ok (.iconst 1, 1) := by decide +kernel
theorem dX3_isGust_9 : decode cX3_isGust 9 = .ok (.if_icmp .ne 7, 3) := by decide +kernel
theorem dX3_isGust_12 : decode cX3_isGust 12 = .ok (.iconst 1, 1) := by decide +kernel
theorem dX3_isGust_13 : decode cX3_isGust 13 = .ok (.goto 4, 3) := by decide +kernel
theorem dX3_isGust_16 : decode cX3_isGust 16 = .ok (.iconst 0, 1) := by decide +kernel
theorem dX3_isGust_17 : decode cX3_isGust 17 = .ok (.ireturn, 1) := by decide +kernel
set_option maxRecDepth 20000 in
theorem ggX3_rawHeight_X6_at : GoodIn wsX3_rawHeight wsX6_at := goodIn_r _ [4] (by decide +kernel) (by decide +kernel)
set_option maxRecDepth 20000 in
theorem gX3_rawHeight_X6_at_n81 : GoodIn wsX3_rawHeight (wsX6_at) := ggX3_rawHeight_X6_at
theorem dX3_rawHeight_0 : decode cX3_rawHeight 0 = .ok (.aload_n 0, 1) := by decide +kernel
theorem dX3_rawHeight_1 : decode cX3_rawHeight 1 = .ok (.getfield 18, 3) := by decide +kernel
theorem dX3_rawHeight_4 : decode cX3_rawHeight 4 = .ok (.iload_n 1, 1) := by decide +kernel
theorem dX3_rawHeight_5 : decode cX3_rawHeight 5 = .ok (.invokestatic 81, 3) := by decide +kernel
theorem dX3_rawHeight_8 : decode cX3_rawHeight 8 = .ok (.ireturn, 1) := by decide +kernel
set_option maxRecDepth 20000 in
theorem ggX3_isGood_X6_at : GoodIn wsX3_isGood wsX6_at := goodIn_r _ [6] (by decide +kernel) (by decide +kernel)
set_option maxRecDepth 20000 in
theorem gX3_isGood_X6_at_n81 : GoodIn wsX3_isGood (wsX6_at) := ggX3_isGood_X6_at
theorem dX3_isGood_0 : decode cX3_isGood 0 = .ok (.aload_n 0, 1) := by decide +kernel
theorem dX3_isGood_1 : decode cX3_isGood 1 = .ok (.getfield 18, 3) := by decide +kernel
theorem dX3_isGood_4 : decode cX3_isGood 4 = .ok (.iload_n 1, 1) := by decide +kernel
theorem dX3_isGood_5 : decode cX3_isGood 5 = .ok (.invokestatic 81, 3) := by decide +kernel
theorem dX3_isGood_8 : decode cX3_isGood 8 = .ok (.ldc 85, 2) := by decide +kernel
theorem dX3_isGood_10 : decode cX3_isGood 10 = .ok (.if_icmp .eq 18, 3) := by decide +kernel
theorem dX3_isGood_13 : decode cX3_isGood 13 = .ok (.aload_n 0, 1) := by decide +kernel
theorem dX3_isGood_14 : decode cX3_isGood 14 = .ok (.getfield 21, 3) := by decide +kernel
theorem dX3_isGood_17 : decode cX3_isGood 17 = .ok (.iload_n 1, 1) := by decide +kernel
theorem dX3_isGood_18 : decode cX3_isGood 18 = .ok (.invokestatic 81, 3) := by decide +kernel
theorem dX3_isGood_21 : decode cX3_isGood 21 = .ok (.ifCond .ne 7, 3) := by decide +kernel
theorem dX3_isGood_24 : decode cX3_isGood 24 = .ok (.iconst 1, 1) := by decide +kernel
theorem dX3_isGood_25 : decode cX3_isGood 25 = .ok (.goto 4, 3) := by decide +kernel
theorem dX3_isGood_28 : decode cX3_isGood 28 = .ok (.iconst 0, 1) := by decide +kernel
theorem dX3_isGood_29 : decode cX3_isGood 29 = .ok (.ireturn, 1) := by decide +kernel
set_option maxRecDepth 20000 in
theorem ggX3_openLoopOf_X6_at : GoodIn wsX3_openLoopOf wsX6_at := goodIn_r _ [4] (by decide +kernel) (by decide +kernel)
set_option maxRecDepth 20000 in
theorem gX3_openLoopOf_X6_at_n81 : GoodIn wsX3_openLoopOf (wsX6_at) := ggX3_openLoopOf_X6_at
theorem dX3_openLoopOf_0 : decode cX3_openLoopOf 0 = .ok (.aload_n 0, 1) := by decide +kernel
theorem dX3_openLoopOf_1 : decode cX3_openLoopOf 1 = .ok (.getfield 24, 3) := by decide +kernel
theorem dX3_openLoopOf_4 : decode cX3_openLoopOf 4 = .ok (.iload_n 1, 1) := by decide +kernel
theorem dX3_openLoopOf_5 : decode cX3_openLoopOf 5 = .ok (.invokestatic 81, 3) := by decide +kernel
theorem dX3_openLoopOf_8 : decode cX3_openLoopOf 8 = .ok (.ireturn, 1) := by decide +kernel
set_option maxRecDepth 20000 in
theorem ggX3_correctedHeight_X6_at : GoodIn wsX3_correctedHeight wsX6_at := goodIn_r _ [4] (by decide +kernel) (by decide +kernel)
set_option maxRecDepth 20000 in
theorem gX3_correctedHeight_X6_at_n81 : GoodIn wsX3_correctedHeight (wsX6_at) := ggX3_correctedHeight_X6_at
theorem dX3_correctedHeight_0 : decode cX3_correctedHeight 0 = .ok (.aload_n 0, 1) := by decide +kernel
theorem dX3_correctedHeight_1 : decode cX3_correctedHeight 1 = .ok (.getfield 27, 3) := by decide +kernel
theorem dX3_correctedHeight_4 : decode cX3_correctedHeight 4 = .ok (.iload_n 1, 1) := by decide +kernel
theorem dX3_correctedHeight_5 : decode cX3_correctedHeight 5 = .ok (.invokestatic 81, 3) := by decide +kernel
theorem dX3_correctedHeight_8 : decode cX3_correctedHeight 8 = .ok (.ireturn, 1) := by decide +kernel
set_option maxRecDepth 20000 in
theorem ggX3_begin_X6_at : GoodIn wsX3_begin wsX6_at := goodIn_r _ [4] (by decide +kernel) (by decide +kernel)
set_option maxRecDepth 20000 in
theorem gX3_begin_X6_at_n81 : GoodIn wsX3_begin (wsX6_at) := ggX3_begin_X6_at
theorem dX3_begin_0 : decode cX3_begin 0 = .ok (.aload_n 0, 1) := by decide +kernel
theorem dX3_begin_1 : decode cX3_begin 1 = .ok (.getfield 30, 3) := by decide +kernel
theorem dX3_begin_4 : decode cX3_begin 4 = .ok (.iload_n 1, 1) := by decide +kernel
theorem dX3_begin_5 : decode cX3_begin 5 = .ok (.invokestatic 81, 3) := by decide +kernel
theorem dX3_begin_8 : decode cX3_begin 8 = .ok (.ireturn, 1) := by decide +kernel
set_option maxRecDepth 20000 in
theorem ggX3_end_X6_at : GoodIn wsX3_end wsX6_at := goodIn_r _ [4] (by decide +kernel) (by decide +kernel)
set_option maxRecDepth 20000 in
theorem gX3_end_X6_at_n81 : GoodIn wsX3_end (wsX6_at) := ggX3_end_X6_at
theorem dX3_end_0 : decode cX3_end 0 = .ok (.aload_n 0, 1) := by decide +kernel
theorem dX3_end_1 : decode cX3_end 1 = .ok (.getfield 33, 3) := by decide +kernel
theorem dX3_end_4 : decode cX3_end 4 = .ok (.iload_n 1, 1) := by decide +kernel
theorem dX3_end_5 : decode cX3_end 5 = .ok (.invokestatic 81, 3) := by decide +kernel
theorem dX3_end_8 : decode cX3_end 8 = .ok (.ireturn, 1) := by decide +kernel
set_option maxRecDepth 20000 in
theorem ggX3_minutes_X3_end : GoodIn wsX3_minutes wsX3_end := goodIn_r _ [6, 7, 8, 9, 10, 16, 17, 18, 19, 20, 21, 22, 23, 24, 25, 26, 27] (by decide +kernel) (by decide +kernel)
set_option maxRecDepth 20000 in
theorem gX3_minutes_X3_end : GoodIn wsX3_minutes (wsV RX3 86 RX3 yX3_end wsX3_end) := goodIn_app (goodIn_of _ (by decide +kernel)) ggX3_minutes_X3_end
set_option maxRecDepth 20000 in
theorem ggX3_minutes_X6_at : GoodIn wsX3_minutes wsX6_at := goodIn_r _ [10] (by decide +kernel) (by decide +kernel)
set_option maxRecDepth 20000 in
theorem gX3_minutes_X6_at_n81 : GoodIn wsX3_minutes (wsX6_at) := ggX3_minutes_X6_at
set_option maxRecDepth 20000 in
theorem ggX3_minutes_X3_begin : GoodIn wsX3_minutes wsX3_begin := goodIn_r _ [14, 15, 8, 9, 10, 16, 17, 18, 19, 20, 21, 22, 23, 24, 25, 26, 27] (by decide +kernel) (by decide +kernel)
set_option maxRecDepth 20000 in
theorem gX3_minutes_X3_begin : GoodIn wsX3_minutes (wsV RX3 89 RX3 yX3_begin wsX3_begin) := goodIn_app (goodIn_of _ (by decide +kernel)) ggX3_minutes_X3_begin
theorem dX3_minutes_0 : decode cX3_minutes 0 = .ok (.aload_n 0, 1) := by decide +kernel
theorem dX3_minutes_1 : decode cX3_minutes 1 = .ok (.getfield 9, 3) := by decide +kernel
theorem dX3_minutes_4 : decode cX3_minutes 4 = .ok (.aload_n 0, 1) := by decide +kernel
theorem dX3_minutes_5 : decode cX3_minutes 5 = .ok (.iload_n 1, 1) := by decide +kernel
theorem dX3_minutes_6 : decode cX3_minutes 6 = .ok (.invokevirtual 86, 3) := by decide +kernel
theorem dX3_minutes_9 : decode cX3_minutes 9 = .ok (.invokestatic 81, 3) := by decide +kernel
theorem dX3_minutes_12 : decode cX3_minutes 12 = .ok (.aload_n 0, 1) := by decide +kernel
theorem dX3_minutes_13 : decode cX3_minutes 13 = .ok (.getfield 9, 3) := by decide +kernel
theorem dX3_minutes_16 : decode cX3_minutes 16 = .ok (.aload_n 0, 1) := by decide +kernel
theorem dX3_minutes_17 : decode cX3_minutes 17 = .ok (.iload_n 1, 1) := by decide +kernel
theorem dX3_minutes_18 : decode cX3_minutes 18 = .ok (.invokevirtual 89, 3) := by decide +kernel
theorem dX3_minutes_21 : decode cX3_minutes 21 = .ok (.invokestatic 81, 3) := by decide +kernel
theorem dX3_minutes_24 : decode cX3_minutes 24 = .ok (.isub, 1) := by decide +kernel
theorem dX3_minutes_25 : decode cX3_minutes 25 = .ok (.ireturn, 1) := by decide +kernel
set_option maxRecDepth 20000 in
theorem ggX3_misclosure_X3_end : GoodIn wsX3_misclosure wsX3_end := goodIn_r _ [5, 6, 7, 8, 9, 20, 21, 22, 23, 24, 25, 26, 27, 28, 29, 30, 31] (by decide +kernel) (by decide +kernel)
set_option maxRecDepth 20000 in
theorem gX3_misclosure_X3_end : GoodIn wsX3_misclosure (wsV RX3 86 RX3 yX3_end wsX3_end) := goodIn_app (goodIn_of _ (by decide +kernel)) ggX3_misclosure_X3_end
set_option maxRecDepth 20000 in
theorem ggX3_misclosure_X3_rawHeight : GoodIn wsX3_misclosure wsX3_rawHeight := goodIn_r _ [13, 14, 7, 8, 9, 20, 21, 22, 23, 24, 25, 26, 27, 28, 29, 30, 31] (by decide +kernel) (by decide +kernel)
set_option maxRecDepth 20000 in
theorem gX3_misclosure_X3_rawHeight : GoodIn wsX3_misclosure (wsV RX3 92 RX3 yX3_rawHeight wsX3_rawHeight) := goodIn_app (goodIn_of _ (by decide +kernel)) ggX3_misclosure_X3_rawHeight
set_option maxRecDepth 20000 in
theorem ggX3_misclosure_X3_begin : GoodIn wsX3_misclosure wsX3_begin := goodIn_r _ [18, 19, 7, 8, 9, 20, 21, 22, 23, 24, 25, 26, 27, 28, 29, 30, 31] (by decide +kernel) (by decide +kernel)
set_option maxRecDepth 20000 in
theorem gX3_misclosure_X3_begin : GoodIn wsX3_misclosure (wsV RX3 89 RX3 yX3_begin wsX3_begin) := goodIn_app (goodIn_of _ (by decide +kernel)) ggX3_misclosure_X3_begin
theorem dX3_misclosure_0 : decode cX3_misclosure 0 = .ok (.aload_n 0, 1) := by decide +kernel
theorem dX3_misclosure_1 : decode cX3_misclosure 1 = .ok (.aload_n 0, 1) := by decide +kernel
theorem dX3_misclosure_2 : decode cX3_misclosure 2 = .ok (.iload_n 1, 1) := by decide +kernel
theorem dX3_misclosure_3 : decode cX3_misclosure 3 = .ok (.invokevirtual 86, 3) := by decide +kernel
theorem dX3_misclosure_6 : decode cX3_misclosure 6 = .ok (.invokevirtual 92, 3) := by decide +kernel
theorem dX3_misclosure_9 : decode cX3_misclosure 9 = .ok (.aload_n 0, 1) := by decide +kernel
theorem dX3_misclosure_10 : decode cX3_misclosure 10 = .ok (.aload_n 0, 1) := by decide +kernel
theorem dX3_misclosure_11 : decode cX3_misclosure 11 = .ok (.iload_n 1, 1) := by decide +kernel
theorem dX3_misclosure_12 : decode cX3_misclosure 12 = .ok (.invokevirtual 89, 3) := by decide +kernel
theorem dX3_misclosure_15 : decode cX3_misclosure 15 = .ok (.invokevirtual 92, 3) := by decide +kernel
theorem dX3_misclosure_18 : decode cX3_misclosure 18 = .ok (.isub, 1) := by decide +kernel
theorem dX3_misclosure_19 : decode cX3_misclosure 19 = .ok (.ireturn, 1) := by decide +kernel
set_option maxRecDepth 20000 in
theorem ggX3_misclosureBySteps_X3_begin : GoodIn wsX3_misclosureBySteps wsX3_begin := goodIn_r _ [6, 7, 8, 9, 10, 27, 28, 29, 30, 31, 32, 33, 34, 35, 36, 37, 38] (by decide +kernel) (by decide +kernel)
set_option maxRecDepth 20000 in
theorem gX3_misclosureBySteps_X3_begin : GoodIn wsX3_misclosureBySteps (wsV RX3 89 RX3 yX3_begin wsX3_begin) := goodIn_app (goodIn_of _ (by decide +kernel)) ggX3_misclosureBySteps_X3_begin
set_option maxRecDepth 20000 in
theorem ggX3_misclosureBySteps_X3_rawHeight : GoodIn wsX3_misclosureBySteps wsX3_rawHeight := goodIn_r _ [14, 15, 8, 9, 10, 27, 28, 29, 30, 31, 32, 33, 34, 35, 36, 37, 38] (by decide +kernel) (by decide +kernel)
set_option maxRecDepth 20000 in
theorem gX3_misclosureBySteps_X3_rawHeight : GoodIn wsX3_misclosureBySteps (wsV RX3 92 RX3 yX3_rawHeight wsX3_rawHeight) := goodIn_app (goodIn_of _ (by decide +kernel)) ggX3_misclosureBySteps_X3_rawHeight
set_option maxRecDepth 20000 in
theorem ggX3_misclosureBySteps_X3_end : GoodIn wsX3_misclosureBySteps wsX3_end := goodIn_r _ [19, 20, 8, 9, 10, 27, 28, 29, 30, 31, 32, 33, 34, 35, 36, 37, 38] (by decide +kernel) (by decide +kernel)
set_option maxRecDepth 20000 in
theorem gX3_misclosureBySteps_X3_end : GoodIn wsX3_misclosureBySteps (wsV RX3 86 RX3 yX3_end wsX3_end) := goodIn_app (goodIn_of _ (by decide +kernel)) ggX3_misclosureBySteps_X3_end
set_option maxRecDepth 20000 in
theorem ggX3_misclosureBySteps_X3_isGood : GoodIn wsX3_misclosureBySteps wsX3_isGood := goodIn_r _ [24, 15, 25, 26, 8, 9, 10, 27, 28, 29, 30, 31, 32, 33, 34, 35, 36, 37, 38] (by decide +kernel) (by decide +kernel)
set_option maxRecDepth 20000 in
theorem gX3_misclosureBySteps_X3_isGood : GoodIn wsX3_misclosureBySteps (wsV RX3 95 RX3 yX3_isGood wsX3_isGood) := goodIn_app (goodIn_of _ (by decide +kernel)) ggX3_misclosureBySteps_X3_isGood
theorem dX3_misclosureBySteps_0 : decode cX3_misclosureBySteps 0 = .ok (.iconst 0, 1) := by decide +kernel
theorem dX3_misclosureBySteps_1 : decode cX3_misclosureBySteps 1 = .ok (.istore_n 2, 1) := by decide +kernel
theorem dX3_misclosureBySteps_2 : decode cX3_misclosureBySteps 2 = .ok (.aload_n 0, 1) := by decide +kernel
theorem dX3_misclosureBySteps_3 : decode cX3_misclosureBySteps 3 = .ok (.aload_n 0, 1) := by decide +kernel
theorem dX3_misclosureBySteps_4 : decode cX3_misclosureBySteps 4 = .ok (.iload_n 1, 1) := by decide +kernel
theorem dX3_misclosureBySteps_5 : decode cX3_misclosureBySteps 5 = .ok (.invokevirtual 89, 3) := by decide +kernel
theorem dX3_misclosureBySteps_8 : decode cX3_misclosureBySteps 8 = .ok (.invokevirtual 92, 3) := by decide +kernel
theorem dX3_misclosureBySteps_11 : decode cX3_misclosureBySteps 11 = .ok (.istore_n 3, 1) := by decide +kernel
theorem dX3_misclosureBySteps_12 : decode cX3_misclosureBySteps 12 = .ok (.aload_n 0, 1) := by decide +kernel
theorem dX3_misclosureBySteps_13 : decode cX3_misclosureBySteps 13 = .ok (.iload_n 1, 1) := by decide +kernel
theorem dX3_misclosureBySteps_14 : decode cX3_misclosureBySteps 14 = .ok (.invokevirtual 89, 3) := by decide +kernel
theorem dX3_misclosureBySteps_17 : decode cX3_misclosureBySteps 17 = .ok (.iconst 1, 1) := by decide +kernel
theorem dX3_misclosureBySteps_18 : decode cX3_misclosureBySteps 18 = .ok (.iadd, 1) := by decide +kernel
theorem dX3_misclosureBySteps_19 : decode cX3_misclosureBySteps 19 = .ok (.istore 4, 2) := by decide +kernel
theorem dX3_misclosureBySteps_21 : decode cX3_misclosureBySteps 21 = .ok (.iload 4, 2) := by decide +kernel
theorem dX3_misclosureBySteps_23 : decode cX3_misclosureBySteps 23 = .ok (.aload_n 0, 1) := by decide +kernel
theorem dX3_misclosureBySteps_24 : decode cX3_misclosureBySteps 24 = .ok (.iload_n 1, 1) := by decide +kernel
theorem dX3_misclosureBySteps_25 : decode cX3_misclosureBySteps 25 = .ok (.invokevirtual 86, 3) := by decide +kernel
theorem dX3_misclosureBySteps_28 : decode cX3_misclosureBySteps 28 = .ok (.if_icmp .gt 45, 3) := by decide +kernel
theorem dX3_misclosureBySteps_31 : decode cX3_misclosureBySteps 31 = .ok (.iload 4, 2) := by decide +kernel
theorem dX3_misclosureBySteps_33 : decode cX3_misclosureBySteps 33 = .ok (.aload_n 0, 1) := by decide +kernel
theorem dX3_misclosureBySteps_34 : decode cX3_misclosureBySteps 34 = .ok (.getfield 48, 3) := by decide +kernel
theorem dX3_misclosureBySteps_37 : decode cX3_misclosureBySteps 37 = .ok (.if_icmp .ge 36, 3) := by decide +kernel
theorem dX3_misclosureBySteps_40 : decode cX3_misclosureBySteps 40 = .ok (.aload_n 0, 1) := by decide +kernel
theorem dX3_misclosureBySteps_41 : decode cX3_misclosureBySteps 41 = .ok (.iload 4, 2) := by decide +kernel
theorem dX3_misclosureBySteps_43 : decode cX3_misclosureBySteps 43 = .ok (.invokevirtual 95, 3) := by decide +kernel
theorem dX3_misclosureBySteps_46 : decode cX3_misclosureBySteps 46 = .ok (.ifCond .eq 21, 3) := by decide +kernel
theorem dX3_misclosureBySteps_49 : decode cX3_misclosureBySteps 49 = .ok (.iload_n 2, 1) := by decide +kernel
theorem dX3_misclosureBySteps_50 : decode cX3_misclosureBySteps 50 = .ok (.aload_n 0, 1) := by decide +kernel
theorem dX3_misclosureBySteps_51 : decode cX3_misclosureBySteps 51 = .ok (.iload 4, 2) := by decide +kernel
theorem dX3_misclosureBySteps_53 : decode cX3_misclosureBySteps 53 = .ok (.invokevirtual 92, 3) := by decide +kernel
theorem dX3_misclosureBySteps_56 : decode cX3_misclosureBySteps 56 = .ok (.iload_n 3, 1) := by decide +kernel
theorem dX3_misclosureBySteps_57 : decode cX3_misclosureBySteps 57 = .ok (.isub, 1) := by decide +kernel
theorem dX3_misclosureBySteps_58 : decode cX3_misclosureBySteps 58 = .ok (.iadd, 1) := by decide +kernel
theorem dX3_misclosureBySteps_59 : decode cX3_misclosureBySteps 59 = .ok (.istore_n 2, 1) := by decide +kernel
theorem dX3_misclosureBySteps_60 : decode cX3_misclosureBySteps 60 = .ok (.aload_n 0, 1) := by decide +kernel
theorem dX3_misclosureBySteps_61 : decode cX3_misclosureBySteps 61 = .ok (.iload 4, 2) := by decide +kernel
theorem dX3_misclosureBySteps_63 : decode cX3_misclosureBySteps 63 = .ok (.invokevirtual 92, 3) := by decide +kernel
theorem dX3_misclosureBySteps_66 : decode cX3_misclosureBySteps 66 = .ok (.istore_n 3, 1) := by decide +kernel
theorem dX3_misclosureBySteps_67 : decode cX3_misclosureBySteps 67 = .ok (.iinc 4 1, 3) := by decide +kernel
theorem dX3_misclosureBySteps_70 : decode cX3_misclosureBySteps 70 = .ok (.goto (-49), 3) := by decide +kernel
theorem dX3_misclosureBySteps_73 : decode cX3_misclosureBySteps 73 = .ok (.iload_n 2, 1) := by decide +kernel
theorem dX3_misclosureBySteps_74 : decode cX3_misclosureBySteps 74 = .ok (.ireturn, 1) := by decide +kernel
set_option maxRecDepth 20000 in
theorem ggX3_addTo_X3_isGood : GoodIn wsX3_addTo wsX3_isGood := goodIn_r _ [7, 8, 9, 10, 11, 12, 13, 49, 50, 51, 52, 53, 54, 55, 56, 57, 58, 59, 60] (by decide +kernel) (by decide +kernel)
set_option maxRecDepth 20000 in
theorem gX3_addTo_X3_isGood : GoodIn wsX3_addTo (wsV RX3 95 RX3 yX3_isGood wsX3_isGood) := goodIn_app (goodIn_of _ (by decide +kernel)) ggX3_addTo_X3_isGood
set_option maxRecDepth 20000 in
theorem ggX3_addTo_X6_at : GoodIn wsX3_addTo wsX6_at := goodIn_r _ [13] (by decide +kernel) (by decide +kernel)
set_option maxRecDepth 20000 in
theorem gX3_addTo_X6_at_n81 : GoodIn wsX3_addTo (wsX6_at) := ggX3_addTo_X6_at
set_option maxRecDepth 20000 in
theorem ggX3_addTo_X3_endsOpenLoop : GoodIn wsX3_addTo wsX3_endsOpenLoop := goodIn_r _ [17, 18, 19, 20, 6, 21, 22, 11, 12, 13, 23, 24, 25, 26, 27, 49, 50, 51, 52, 53, 54, 55, 56, 57, 58, 59, 60] (by decide +kernel) (by decide +kernel)
set_option maxRecDepth 20000 in
theorem gX3_addTo_X3_endsOpenLoop : GoodIn wsX3_addTo (wsV RX3 99 RX3 yX3_endsOpenLoop wsX3_endsOpenLoop) := goodIn_app (goodIn_of _ (by decide +kernel)) ggX3_addTo_X3_endsOpenLoop
set_option maxRecDepth 20000 in
theorem ggX3_addTo_X3_correctedHeight : GoodIn wsX3_addTo wsX3_correctedHeight := goodIn_r _ [31, 32, 11, 12, 13, 49, 50, 51, 52, 53, 54, 55, 56, 57, 58, 59, 60] (by decide +kernel) (by decide +kernel)
set_option maxRecDepth 20000 in
theorem gX3_addTo_X3_correctedHeight : GoodIn wsX3_addTo (wsV RX3 102 RX3 yX3_correctedHeight wsX3_correctedHeight) := goodIn_app (goodIn_of _ (by decide +kernel)) ggX3_addTo_X3_correctedHeight
set_option maxRecDepth 20000 in
theorem ggX3_addTo_X1_add : GoodIn wsX3_addTo wsX1_add := goodIn_r _ [37, 38, 39, 40, 41, 42, 43, 44, 45, 46, 47, 48, 61, 62, 63, 64] (by decide +kernel) (by decide +kernel)
set_option maxRecDepth 20000 in
theorem gX3_addTo_X1_add : GoodIn wsX3_addTo (wsV RX3 105 RX1 yX1_add wsX1_add) := goodIn_app (goodIn_of _ (by decide +kernel)) ggX3_addTo_X1_add
theorem dX3_addTo_0 : decode cX3_addTo 0 = .ok (.iconst 0, 1) := by decide +kernel
theorem dX3_addTo_1 : decode cX3_addTo 1 = .ok (.istore_n 3, 1) := by decide +kernel
theorem dX3_addTo_2 : decode cX3_addTo 2 = .ok (.iload_n 3, 1) := by decide +kernel
theorem dX3_addTo_3 : decode cX3_addTo 3 = .ok (.aload_n 0, 1) := by decide +kernel
theorem dX3_addTo_4 : decode cX3_addTo 4 = .ok (.getfield 48, 3) := by decide +kernel
theorem dX3_addTo_7 : decode cX3_addTo 7 = .ok (.if_icmp .ge 46, 3) := by decide +kernel
theorem dX3_addTo_10 : decode cX3_addTo 10 = .ok (.aload_n 0, 1) := by decide +kernel
theorem dX3_addTo_11 : decode cX3_addTo 11 = .ok (.iload_n 3, 1) := by decide +kernel
theorem dX3_addTo_12 : decode cX3_addTo 12 = .ok (.invokevirtual 95, 3) := by decide +kernel
theorem dX3_addTo_15 : decode cX3_addTo 15 = .ok (.ifCond .eq 32, 3) := by decide +kernel
theorem dX3_addTo_18 : decode cX3_addTo 18 = .ok (.aload_n 0, 1) := by decide +kernel
theorem dX3_addTo_19 : decode cX3_addTo 19 = .ok (.getfield 15, 3) := by decide +kernel
theorem dX3_addTo_22 : decode cX3_addTo 22 = .ok (.iload_n 3, 1) := by decide +kernel
theorem dX3_addTo_23 : decode cX3_addTo 23 = .ok (.invokestatic 81, 3) := by decide +kernel
theorem dX3_addTo_26 : decode cX3_addTo 26 = .ok (.iload_n 2, 1) := by decide +kernel
theorem dX3_addTo_27 : decode cX3_addTo 27 = .ok (.if_icmp .ne 20, 3) := by decide +kernel
theorem dX3_addTo_30 : decode cX3_addTo 30 = .ok (.aload_n 0, 1) := by decide +kernel
theorem dX3_addTo_31 : decode cX3_addTo 31 = .ok (.iload_n 3, 1) := by decide +kernel
theorem dX3_addTo_32 : decode cX3_addTo 32 = .ok (.invokevirtual 99, 3) := by decide +kernel
theorem dX3_addTo_35 : decode cX3_addTo 35 = .ok (.ifCond .ne 12, 3) := by decide +kernel
theorem dX3_addTo_38 : decode cX3_addTo 38 = .ok (.aload_n 1, 1) := by decide +kernel
theorem dX3_addTo_39 : decode cX3_addTo 39 = .ok (.aload_n 0, 1) := by decide +kernel
theorem dX3_addTo_40 : decode cX3_addTo 40 = .ok (.iload_n 3, 1) := by decide +kernel
theorem dX3_addTo_41 : decode cX3_addTo 41 = .ok (.invokevirtual 102, 3) := by decide +kernel
theorem dX3_addTo_44 : decode cX3_addTo 44 = .ok (.invokevirtual 105, 3) := by decide +kernel
theorem dX3_addTo_47 : decode cX3_addTo 47 = .ok (.iinc 3 1, 3) := by decide +kernel
theorem dX3_addTo_50 : decode cX3_addTo 50 = .ok (.goto (-48), 3) := by decide +kernel
theorem dX3_addTo_53 : decode cX3_addTo 53 = .ok (.return_, 1) := by decide +kernel
set_option maxRecDepth 20000 in
theorem ggX3_endsOpenLoop_X3_openLoopOf : GoodIn wsX3_endsOpenLoop wsX3_openLoopOf := goodIn_r _ [5, 6, 7, 8, 9, 15, 16, 17, 18, 19, 20, 21, 22, 23, 24, 25, 26] (by decide +kernel) (by decide +kernel)
set_option maxRecDepth 20000 in
theorem gX3_endsOpenLoop_X3_openLoopOf : GoodIn wsX3_endsOpenLoop (wsV RX3 111 RX3 yX3_openLoopOf wsX3_openLoopOf) := goodIn_app (goodIn_of _ (by decide +kernel)) ggX3_endsOpenLoop_X3_openLoopOf
set_option maxRecDepth 20000 in
theorem ggX3_endsOpenLoop_X3_end : GoodIn wsX3_endsOpenLoop wsX3_end := goodIn_r _ [13, 14, 7, 8, 9, 15, 16, 17, 18, 19, 20, 21, 22, 23, 24, 25, 26] (by decide +kernel) (by decide +kernel)
set_option maxRecDepth 20000 in
theorem gX3_endsOpenLoop_X3_end : GoodIn wsX3_endsOpenLoop (wsV RX3 86 RX3 yX3_end wsX3_end) := goodIn_app (goodIn_of _ (by decide +kernel)) ggX3_endsOpenLoop_X3_end
theorem dX3_endsOpenLoop_0 : decode cX3_endsOpenLoop 0 = .ok (.aload_n 0, 1) := by decide +kernel
theorem dX3_endsOpenLoop_1 : decode cX3_endsOpenLoop 1 = .ok (.iload_n 1, 1) := by decide +kernel
theorem dX3_endsOpenLoop_2 : decode cX3_endsOpenLoop 2 = .ok (.invokevirtual 111, 3) := by decide +kernel
theorem dX3_endsOpenLoop_5 : decode cX3_endsOpenLoop 5 = .ok (.istore_n 2, 1) := by decide +kernel
theorem dX3_endsOpenLoop_6 : decode cX3_endsOpenLoop 6 = .ok (.iload_n 2, 1) := by decide +kernel
theorem dX3_endsOpenLoop_7 : decode cX3_endsOpenLoop 7 = .ok (.iconst (-1), 1) := by decide +kernel
theorem dX3_endsOpenLoop_8 : decode cX3_endsOpenLoop 8 = .ok (.if_icmp .eq 16, 3) := by decide +kernel
theorem dX3_endsOpenLoop_11 : decode cX3_endsOpenLoop 11 = .ok (.aload_n 0, 1) := by decide +kernel
theorem dX3_endsOpenLoop_12 : decode cX3_endsOpenLoop 12 = .ok (.iload_n 2, 1) := by decide +kernel
theorem dX3_endsOpenLoop_13 : decode cX3_endsOpenLoop 13 = .ok (.invokevirtual 86, 3) := by decide +kernel
theorem dX3_endsOpenLoop_16 : decode cX3_endsOpenLoop 16 = .ok (.iload_n 1, 1) := by decide +kernel
theorem dX3_endsOpenLoop_17 : decode cX3_endsOpenLoop 17 = .ok (.if_icmp .ne 7, 3) := by decide +kernel
theorem dX3_endsOpenLoop_20 : decode cX3_endsOpenLoop 20 = .ok (.iconst 1, 1) := by decide +kernel
theorem dX3_endsOpenLoop_21 : decode cX3_endsOpenLoop 21 = .ok (.goto 4, 3) := by decide +kernel
theorem dX3_endsOpenLoop_24 : decode cX3_endsOpenLoop 24 = .ok (.iconst 0, 1) := by decide +kernel
theorem dX3_endsOpenLoop_25 : decode cX3_endsOpenLoop 25 = .ok (.ireturn, 1) := by decide +kernel
set_option maxRecDepth 20000 in
theorem ggX3_countKinds_X3_isGust : GoodIn wsX3_countKinds wsX3_isGust := goodIn_r _ [8, 9, 10, 11, 12, 19, 20, 21, 22, 23, 24, 25, 26, 27, 28, 29, 30] (by decide +kernel) (by decide +kernel)
set_option maxRecDepth 20000 in
theorem gX3_countKinds_X3_isGust : GoodIn wsX3_countKinds (wsV RX3 120 RX3 yX3_isGust wsX3_isGust) := goodIn_app (goodIn_of _ (by decide +kernel)) ggX3_countKinds_X3_isGust
set_option maxRecDepth 20000 in
theorem ggX3_countKinds_X3_isGood : GoodIn wsX3_countKinds wsX3_isGood := goodIn_r _ [16, 17, 18, 9, 10, 11, 12, 19, 20, 21, 22, 23, 24, 25, 26, 27, 28, 29, 30] (by decide +kernel) (by decide +kernel)
set_option maxRecDepth 20000 in
theorem gX3_countKinds_X3_isGood : GoodIn wsX3_countKinds (wsV RX3 95 RX3 yX3_isGood wsX3_isGood) := goodIn_app (goodIn_of _ (by decide +kernel)) ggX3_countKinds_X3_isGood
theorem dX3_countKinds_0 : decode cX3_countKinds 0 = .ok (.aload_n 0, 1) := by decide +kernel
theorem dX3_countKinds_1 : decode cX3_countKinds 1 = .ok (.iconst 0, 1) := by decide +kernel
theorem dX3_countKinds_2 : decode cX3_countKinds 2 = .ok (.putfield 114, 3) := by decide +kernel
theorem dX3_countKinds_5 : decode cX3_countKinds 5 = .ok (.aload_n 0, 1) := by decide +kernel
theorem dX3_countKinds_6 : decode cX3_countKinds 6 = .ok (.iconst 0, 1) := by decide +kernel
theorem dX3_countKinds_7 : decode cX3_countKinds 7 = .ok (.putfield 117, 3) := by decide +kernel
theorem dX3_countKinds_10 : decode cX3_countKinds 10 = .ok (.iconst 0, 1) := by decide +kernel
theorem dX3_countKinds_11 : decode cX3_countKinds 11 = .ok (.istore_n 1, 1) := by decide +kernel
theorem dX3_countKinds_12 : decode cX3_countKinds 12 = .ok (.iload_n 1, 1) := by decide +kernel
theorem dX3_countKinds_13 : decode cX3_countKinds 13 = .ok (.aload_n 0, 1) := by decide +kernel
theorem dX3_countKinds_14 : decode cX3_countKinds 14 = .ok (.getfield 48, 3) := by decide +kernel
theorem dX3_countKinds_17 : decode cX3_countKinds 17 = .ok (.if_icmp .ge 53, 3) := by decide +kernel
theorem dX3_countKinds_20 : decode cX3_countKinds 20 = .ok (.aload_n 0, 1) := by decide +kernel
theorem dX3_countKinds_21 : decode cX3_countKinds 21 = .ok (.dup, 1) := by decide +kernel
theorem dX3_countKinds_22 : decode cX3_countKinds 22 = .ok (.getfield 114, 3) := by decide +kernel
theorem dX3_countKinds_25 : decode cX3_countKinds 25 = .ok (.aload_n 0, 1) := by decide +kernel
theorem dX3_countKinds_26 : decode cX3_countKinds 26 = .ok (.iload_n 1, 1) := by decide +kernel
theorem dX3_countKinds_27 : decode cX3_countKinds 27 = .ok (.invokevirtual 120, 3) := by decide +kernel
theorem dX3_countKinds_30 : decode cX3_countKinds 30 = .ok (.ifCond .eq 7, 3) := by decide +kernel
theorem dX3_countKinds_33 : decode cX3_countKinds 33 = .ok (.iconst 1, 1) := by decide +kernel
theorem dX3_countKinds_34 : decode cX3_countKinds 34 = .ok (.goto 4, 3) := by decide +kernel
theorem dX3_countKinds_37 : decode cX3_countKinds 37 = .ok (.iconst 0, 1) := by decide +kernel
theorem dX3_countKinds_38 : decode cX3_countKinds 38 = .ok (.iadd, 1) := by decide +kernel
theorem dX3_countKinds_39 : decode cX3_countKinds 39 = .ok (.putfield 114, 3) := by decide +kernel
theorem dX3_countKinds_42 : decode cX3_countKinds 42 = .ok (.aload_n 0, 1) := by decide +kernel
theorem dX3_countKinds_43 : decode cX3_countKinds 43 = .ok (.dup, 1) := by decide +kernel
theorem dX3_countKinds_44 : decode cX3_countKinds 44 = .ok (.getfield 117, 3) := by decide +kernel
theorem dX3_countKinds_47 : decode cX3_countKinds 47 = .ok (.aload_n 0, 1) := by decide +kernel
theorem dX3_countKinds_48 : decode cX3_countKinds 48 = .ok (.iload_n 1, 1) := by decide +kernel
theorem dX3_countKinds_49 : decode cX3_countKinds 49 = .ok (.invokevirtual 95, 3) := by decide +kernel
theorem dX3_countKinds_52 : decode cX3_countKinds 52 = .ok (.ifCond .eq 7, 3) := by decide +kernel
theorem dX3_countKinds_55 : decode cX3_countKinds 55 = .ok (.iconst 1, 1) := by decide +kernel
theorem dX3_countKinds_56 : decode cX3_countKinds 56 = .ok (.goto 4, 3) := by decide +kernel
theorem dX3_countKinds_59 : decode cX3_countKinds 59 = .ok (.iconst 0, 1) := by decide +kernel
theorem dX3_countKinds_60 : decode cX3_countKinds 60 = .ok (.iadd, 1) := by decide +kernel
theorem dX3_countKinds_61 : decode cX3_countKinds 61 = .ok (.putfield 117, 3) := by decide +kernel
theorem dX3_countKinds_64 : decode cX3_countKinds 64 = .ok (.iinc 1 1, 3) := by decide +kernel
theorem dX3_countKinds_67 : decode cX3_countKinds 67 = .ok (.goto (-55), 3) := by decide +kernel
theorem dX3_countKinds_70 : decode cX3_countKinds 70 = .ok (.return_, 1) := by decide +kernel
set_option maxRecDepth 20000 in
theorem ggX3_findLoops_X3_isGood : GoodIn wsX3_findLoops wsX3_isGood := goodIn_r _ [9, 10, 11, 12, 13, 14, 15, 23, 24, 25, 26, 27, 28, 29, 30, 31, 32, 33, 34] (by decide +kernel) (by decide +kernel)
set_option maxRecDepth 20000 in
theorem gX3_findLoops_X3_isGood : GoodIn wsX3_findLoops (wsV RX3 95 RX3 yX3_isGood wsX3_isGood) := goodIn_app (goodIn_of _ (by decide +kernel)) ggX3_findLoops_X3_isGood
set_option maxRecDepth 20000 in
theorem ggX3_findLoops_X3_lastVisit : GoodIn wsX3_findLoops wsX3_lastVisit := goodIn_r _ [19, 20, 13, 14, 15, 5, 6, 7, 8, 9, 10, 11, 12, 23, 24, 25, 26, 27, 28, 29, 30, 31, 32, 33, 34] (by decide +kernel) (by decide +kernel)
set_option maxRecDepth 20000 in
theorem gX3_findLoops_X3_lastVisit : GoodIn wsX3_findLoops (wsV RX3 126 RX3 yX3_lastVisit wsX3_lastVisit) := goodIn_app (goodIn_of _ (by decide +kernel)) ggX3_findLoops_X3_lastVisit
set_option maxRecDepth 20000 in
theorem ggX3_findLoops_X6_put : GoodIn wsX3_findLoops wsX6_put := goodIn_r _ [22] (by decide +kernel) (by decide +kernel)
set_option maxRecDepth 20000 in
theorem gX3_findLoops_X6_put_n53 : GoodIn wsX3_findLoops (wsX6_put) := ggX3_findLoops_X6_put
theorem dX3_findLoops_0 : decode cX3_findLoops 0 = .ok (.aload_n 0, 1) := by decide +kernel
theorem dX3_findLoops_1 : decode cX3_findLoops 1 = .ok (.iconst 0, 1) := by decide +kernel
theorem dX3_findLoops_2 : decode cX3_findLoops 2 = .ok (.putfield 123, 3) := by decide +kernel
theorem dX3_findLoops_5 : decode cX3_findLoops 5 = .ok (.iconst 0, 1) := by decide +kernel
theorem dX3_findLoops_6 : decode cX3_findLoops 6 = .ok (.istore_n 1, 1) := by decide +kernel
theorem dX3_findLoops_7 : decode cX3_findLoops 7 = .ok (.iload_n 1, 1) := by decide +kernel
theorem dX3_findLoops_8 : decode cX3_findLoops 8 = .ok (.aload_n 0, 1) := by decide +kernel
theorem dX3_findLoops_9 : decode cX3_findLoops 9 = .ok (.getfield 48, 3) := by decide +kernel
theorem dX3_findLoops_12 : decode cX3_findLoops 12 = .ok (.if_icmp .ge 66, 3) := by decide +kernel
theorem dX3_findLoops_15 : decode cX3_findLoops 15 = .ok (.aload_n 0, 1) := by decide +kernel
theorem dX3_findLoops_16 : decode cX3_findLoops 16 = .ok (.iload_n 1, 1) := by decide +kernel
theorem dX3_findLoops_17 : decode cX3_findLoops 17 = .ok (.invokevirtual 95, 3) := by decide +kernel
theorem dX3_findLoops_20 : decode cX3_findLoops 20 = .ok (.ifCond .eq 11, 3) := by decide +kernel
theorem dX3_findLoops_23 : decode cX3_findLoops 23 = .ok (.aload_n 0, 1) := by decide +kernel
theorem dX3_findLoops_24 : decode cX3_findLoops 24 = .ok (.iload_n 1, 1) := by decide +kernel
theorem dX3_findLoops_25 : decode cX3_findLoops 25 = .ok (.invokevirtual 126, 3) := by decide +kernel
theorem dX3_findLoops_28 : decode cX3_findLoops 28 = .ok (.goto 4, 3) := by decide +kernel
theorem dX3_findLoops_31 : decode cX3_findLoops 31 = .ok (.iconst (-1), 1) := by decide +kernel
theorem dX3_findLoops_32 : decode cX3_findLoops 32 = .ok (.istore_n 2, 1) := by decide +kernel
theorem dX3_findLoops_33 : decode cX3_findLoops 33 = .ok (.iload_n 2, 1) := by decide +kernel
theorem dX3_findLoops_34 : decode cX3_findLoops 34 = .ok (.iconst (-1), 1) := by decide +kernel
theorem dX3_findLoops_35 : decode cX3_findLoops 35 = .ok (.if_icmp .eq 37, 3) := by decide +kernel
theorem dX3_findLoops_38 : decode cX3_findLoops 38 = .ok (.aload_n 0, 1) := by decide +kernel
theorem dX3_findLoops_39 : decode cX3_findLoops 39 = .ok (.getfield 30, 3) := by decide +kernel
theorem dX3_findLoops_42 : decode cX3_findLoops 42 = .ok (.aload_n 0, 1) := by decide +kernel
theorem dX3_findLoops_43 : decode cX3_findLoops 43 = .ok (.getfield 123, 3) := by decide +kernel
theorem dX3_findLoops_46 : decode cX3_findLoops 46 = .ok (.iload_n 2, 1) := by decide +kernel
theorem dX3_findLoops_47 : decode cX3_findLoops 47 = .ok (.invokestatic 53, 3) := by decide +kernel
theorem dX3_findLoops_50 : decode cX3_findLoops 50 = .ok (.aload_n 0, 1) := by decide +kernel
theorem dX3_findLoops_51 : decode cX3_findLoops 51 = .ok (.getfield 33, 3) := by decide +kernel
theorem dX3_findLoops_54 : decode cX3_findLoops 54 = .ok (.aload_n 0, 1) := by decide +kernel
theorem dX3_findLoops_55 : decode cX3_findLoops 55 = .ok (.getfield 123, 3) := by decide +kernel
theorem dX3_findLoops_58 : decode cX3_findLoops 58 = .ok (.iload_n 1, 1) := by decide +kernel
theorem dX3_findLoops_59 : decode cX3_findLoops 59 = .ok (.invokestatic 53, 3) := by decide +kernel
theorem dX3_findLoops_62 : decode cX3_findLoops 62 = .ok (.aload_n 0, 1) := by decide +kernel
theorem dX3_findLoops_63 : decode cX3_findLoops 63 = .ok (.dup, 1) := by decide +kernel
theorem dX3_findLoops_64 : decode cX3_findLoops 64 = .ok (.getfield 123, 3) := by decide +kernel
theorem dX3_findLoops_67 : decode cX3_findLoops 67 = .ok (.iconst 1, 1) := by decide +kernel
theorem dX3_findLoops_68 : decode cX3_findLoops 68 = .ok (.iadd, 1) := by decide +kernel
theorem dX3_findLoops_69 : decode cX3_findLoops 69 = .ok (.putfield 123, 3) := by decide +kernel
theorem dX3_findLoops_72 : decode cX3_findLoops 72 = .ok (.iinc 1 1, 3) := by decide +kernel
theorem dX3_findLoops_75 : decode cX3_findLoops 75 = .ok (.goto (-68), 3) := by decide +kernel
theorem dX3_findLoops_78 : decode cX3_findLoops 78 = .ok (.return_, 1) := by decide +kernel
set_option maxRecDepth 20000 in
theorem ggX3_lastVisit_X6_at : GoodIn wsX3_lastVisit wsX6_at := goodIn_r _ [4] (by decide +kernel) (by decide +kernel)
set_option maxRecDepth 20000 in
theorem gX3_lastVisit_X6_at_n81 : GoodIn wsX3_lastVisit (wsX6_at) := ggX3_lastVisit_X6_at
set_option maxRecDepth 20000 in
theorem ggX3_lastVisit_X3_isGood : GoodIn wsX3_lastVisit wsX3_isGood := goodIn_r _ [9, 10, 11, 12, 2, 3, 4, 13, 14, 15, 16, 17, 18, 19, 20, 21, 22, 23, 24] (by decide +kernel) (by decide +kernel)
set_option maxRecDepth 20000 in
theorem gX3_lastVisit_X3_isGood : GoodIn wsX3_lastVisit (wsV RX3 95 RX3 yX3_isGood wsX3_isGood) := goodIn_app (goodIn_of _ (by decide +kernel)) ggX3_lastVisit_X3_isGood
theorem dX3_lastVisit_0 : decode cX3_lastVisit 0 = .ok (.aload_n 0, 1) := by decide +kernel
theorem dX3_lastVisit_1 : decode cX3_lastVisit 1 = .ok (.getfield 15, 3) := by decide +kernel
theorem dX3_lastVisit_4 : decode cX3_lastVisit 4 = .ok (.iload_n 1, 1) := by decide +kernel
theorem dX3_lastVisit_5 : decode cX3_lastVisit 5 = .ok (.invokestatic 81, 3) := by decide +kernel
theorem dX3_lastVisit_8 : decode cX3_lastVisit 8 = .ok (.istore_n 2, 1) := by decide +kernel
theorem dX3_lastVisit_9 : decode cX3_lastVisit 9 = .ok (.iload_n 1, 1) := by decide +kernel
theorem dX3_lastVisit_10 : decode cX3_lastVisit 10 = .ok (.iconst 1, 1) := by decide +kernel
theorem dX3_lastVisit_11 : decode cX3_lastVisit 11 = .ok (.isub, 1) := by decide +kernel
theorem dX3_lastVisit_12 : decode cX3_lastVisit 12 = .ok (.istore_n 3, 1) := by decide +kernel
theorem dX3_lastVisit_13 : decode cX3_lastVisit 13 = .ok (.iload_n 3, 1) := by decide +kernel
theorem dX3_lastVisit_14 : decode cX3_lastVisit 14 = .ok (.ifCond .lt 31, 3) := by decide +kernel
theorem dX3_lastVisit_17 : decode cX3_lastVisit 17 = .ok (.aload_n 0, 1) := by decide +kernel
theorem dX3_lastVisit_18 : decode cX3_lastVisit 18 = .ok (.iload_n 3, 1) := by decide +kernel
theorem dX3_lastVisit_19 : decode cX3_lastVisit 19 = .ok (.invokevirtual 95, 3) := by decide +kernel
theorem dX3_lastVisit_22 : decode cX3_lastVisit 22 = .ok (.ifCond .eq 17, 3) := by decide +kernel
theorem dX3_lastVisit_25 : decode cX3_lastVisit 25 = .ok (.aload_n 0, 1) := by decide +kernel
theorem dX3_lastVisit_26 : decode cX3_lastVisit 26 = .ok (.getfield 15, 3) := by decide +kernel
theorem dX3_lastVisit_29 : decode cX3_lastVisit 29 = .ok (.iload_n 3, 1) := by decide +kernel
theorem dX3_lastVisit_30 : decode cX3_lastVisit 30 = .ok (.invokestatic 81, 3) := by decide +kernel
theorem dX3_lastVisit_33 : decode cX3_lastVisit 33 = .ok (.iload_n 2, 1) := by decide +kernel
theorem dX3_lastVisit_34 : decode cX3_lastVisit 34 = .ok (.if_icmp .ne 5, 3) := by decide +kernel
theorem dX3_lastVisit_37 : decode cX3_lastVisit 37 = .ok (.iload_n 3, 1) := by decide +kernel
theorem dX3_lastVisit_38 : decode cX3_lastVisit 38 = .ok (.ireturn, 1) := by decide +kernel
theorem dX3_lastVisit_39 : decode cX3_lastVisit 39 = .ok (.iinc 3 (-1), 3) := by decide +kernel
theorem dX3_lastVisit_42 : decode cX3_lastVisit 42 = .ok (.goto (-29), 3) := by decide +kernel
theorem dX3_lastVisit_45 : decode cX3_lastVisit 45 = .ok (.iconst (-1), 1) := by decide +kernel
theorem dX3_lastVisit_46 : decode cX3_lastVisit 46 = .ok (.ireturn, 1) := by decide +kernel
set_option maxRecDepth 20000 in
theorem ggX3_shortestLoop_X3_isGood : GoodIn wsX3_shortestLoop wsX3_isGood := goodIn_r _ [6, 7, 8, 9, 10, 11, 12, 28, 29, 30, 31, 32, 33, 34, 35, 36, 37, 38, 39] (by decide +kernel) (by decide +kernel)
set_option maxRecDepth 20000 in
theorem gX3_shortestLoop_X3_isGood : GoodIn wsX3_shortestLoop (wsV RX3 95 RX3 yX3_isGood wsX3_isGood) := goodIn_app (goodIn_of _ (by decide +kernel)) ggX3_shortestLoop_X3_isGood
set_option maxRecDepth 20000 in
theorem ggX3_shortestLoop_X3_begin : GoodIn wsX3_shortestLoop wsX3_begin := goodIn_r _ [16, 17, 10, 11, 12, 28, 29, 30, 31, 32, 33, 34, 35, 36, 37, 38, 39] (by decide +kernel) (by decide +kernel)
set_option maxRecDepth 20000 in
theorem gX3_shortestLoop_X3_begin : GoodIn wsX3_shortestLoop (wsV RX3 89 RX3 yX3_begin wsX3_begin) := goodIn_app (goodIn_of _ (by decide +kernel)) ggX3_shortestLoop_X3_begin
set_option maxRecDepth 20000 in
theorem ggX3_shortestLoop_X3_end : GoodIn wsX3_shortestLoop wsX3_end := goodIn_r _ [21, 22, 10, 11, 12, 28, 29, 30, 31, 32, 33, 34, 35, 36, 37, 38, 39] (by decide +kernel) (by decide +kernel)
set_option maxRecDepth 20000 in
theorem gX3_shortestLoop_X3_end : GoodIn wsX3_shortestLoop (wsV RX3 86 RX3 yX3_end wsX3_end) := goodIn_app (goodIn_of _ (by decide +kernel)) ggX3_shortestLoop_X3_end
set_option maxRecDepth 20000 in
theorem ggX3_shortestLoop_X3_minutes : GoodIn wsX3_shortestLoop wsX3_minutes := goodIn_r _ [26, 27, 18, 19, 20, 5, 21, 22, 10, 11, 12, 13, 14, 15, 16, 17, 28, 29, 30, 31, 32, 33, 34, 35, 36, 37, 38, 39] (by decide +kernel) (by decide +kernel)
set_option maxRecDepth 20000 in
theorem gX3_shortestLoop_X3_minutes : GoodIn wsX3_shortestLoop (wsV RX3 129 RX3 yX3_minutes wsX3_minutes) := goodIn_app (goodIn_of _ (by decide +kernel)) ggX3_shortestLoop_X3_minutes
theorem dX3_shortestLoop_0 : decode cX3_shortestLoop 0 = .ok (.iconst (-1), 1) := by decide +kernel
theorem dX3_shortestLoop_1 : decode cX3_shortestLoop 1 = .ok (.istore_n 2, 1) := by decide +kernel
theorem dX3_shortestLoop_2 : decode cX3_shortestLoop 2 = .ok (.aload_n 0, 1) := by decide +kernel
theorem dX3_shortestLoop_3 : decode cX3_shortestLoop 3 = .ok (.iload_n 1, 1) := by decide +kernel
theorem dX3_shortestLoop_4 : decode cX3_shortestLoop 4 = .ok (.invokevirtual 95, 3) := by decide +kernel
theorem dX3_shortestLoop_7 : decode cX3_shortestLoop 7 = .ok (.ifCond .ne 5, 3) := by decide +kernel
theorem dX3_shortestLoop_10 : decode cX3_shortestLoop 10 = .ok (.iconst (-1), 1) := by decide +kernel
theorem dX3_shortestLoop_11 : decode cX3_shortestLoop 11 = .ok (.ireturn, 1) := by decide +kernel
theorem dX3_shortestLoop_12 : decode cX3_shortestLoop 12 = .ok (.iconst 0, 1) := by decide +kernel
theorem dX3_shortestLoop_13 : decode cX3_shortestLoop 13 = .ok (.istore_n 3, 1) := by decide +kernel
theorem dX3_shortestLoop_14 : decode cX3_shortestLoop 14 = .ok (.iload_n 3, 1) := by decide +kernel
theorem dX3_shortestLoop_15 : decode cX3_shortestLoop 15 = .ok (.aload_n 0, 1) := by decide +kernel
theorem dX3_shortestLoop_16 : decode cX3_shortestLoop 16 = .ok (.getfield 123, 3) := by decide +kernel
theorem dX3_shortestLoop_19 : decode cX3_shortestLoop 19 = .ok (.if_icmp .ge 59, 3) := by decide +kernel
theorem dX3_shortestLoop_22 : decode cX3_shortestLoop 22 = .ok (.aload_n 0, 1) := by decide +kernel
theorem dX3_shortestLoop_23 : decode cX3_shortestLoop 23 = .ok (.iload_n 3, 1) := by decide +kernel
theorem dX3_shortestLoop_24 : decode cX3_shortestLoop 24 = .ok (.invokevirtual 89, 3) := by decide +kernel
theorem dX3_shortestLoop_27 : decode cX3_shortestLoop 27 = .ok (.iload_n 1, 1) := by decide +kernel
theorem dX3_shortestLoop_28 : decode cX3_shortestLoop 28 = .ok (.if_icmp .gt 16, 3) := by decide +kernel
theorem dX3_shortestLoop_31 : decode cX3_shortestLoop 31 = .ok (.iload_n 1, 1) := by decide +kernel
theorem dX3_shortestLoop_32 : decode cX3_shortestLoop 32 = .ok (.aload_n 0, 1) := by decide +kernel
theorem dX3_shortestLoop_33 : decode cX3_shortestLoop 33 = .ok (.iload_n 3, 1) := by decide +kernel
theorem dX3_shortestLoop_34 : decode cX3_shortestLoop 34 = .ok (.invokevirtual 86, 3) := by decide +kernel
theorem dX3_shortestLoop_37 : decode cX3_shortestLoop 37 = .ok (.if_icmp .gt 7, 3) := by decide +kernel
theorem dX3_shortestLoop_40 : decode cX3_shortestLoop 40 = .ok (.iconst 1, 1) := by decide +kernel
theorem dX3_shortestLoop_41 : decode cX3_shortestLoop 41 = .ok (.goto 4, 3) := by decide +kernel
theorem dX3_shortestLoop_44 : decode cX3_shortestLoop 44 = .ok (.iconst 0, 1) := by decide +kernel
theorem dX3_shortestLoop_45 : decode cX3_shortestLoop 45 = .ok (.istore 4, 2) := by decide +kernel
theorem dX3_shortestLoop_47 : decode cX3_shortestLoop 47 = .ok (.iload 4, 2) := by decide +kernel
theorem dX3_shortestLoop_49 : decode cX3_shortestLoop 49 = .ok (.ifCond .eq 23, 3) := by decide +kernel
theorem dX3_shortestLoop_52 : decode cX3_shortestLoop 52 = .ok (.iload_n 2, 1) := by decide +kernel
theorem dX3_shortestLoop_53 : decode cX3_shortestLoop 53 = .ok (.iconst (-1), 1) := by decide +kernel
theorem dX3_shortestLoop_54 : decode cX3_shortestLoop 54 = .ok (.if_icmp .eq 16, 3) := by decide +kernel
theorem dX3_shortestLoop_57 : decode cX3_shortestLoop 57 = .ok (.aload_n 0, 1) := by decide +kernel
theorem dX3_shortestLoop_58 : decode cX3_shortestLoop 58 = .ok (.iload_n 3, 1) := by decide +kernel
theorem dX3_shortestLoop_59 : decode cX3_shortestLoop 59 = .ok (.invokevirtual 129, 3) := by decide +kernel
theorem dX3_shortestLoop_62 : decode cX3_shortestLoop 62 = .ok (.aload_n 0, 1) := by decide +kernel
theorem dX3_shortestLoop_63 : decode cX3_shortestLoop 63 = .ok (.iload_n 2, 1) := by decide +kernel
theorem dX3_shortestLoop_64 : decode cX3_shortestLoop 64 = .ok (.invokevirtual 129, 3) := by decide +kernel
theorem dX3_shortestLoop_67 : decode cX3_shortestLoop 67 = .ok (.if_icmp .ge 5, 3) := by decide +kernel
theorem dX3_shortestLoop_70 : decode cX3_shortestLoop 70 = .ok (.iload_n 3, 1) := by decide +kernel
theorem dX3_shortestLoop_71 : decode cX3_shortestLoop 71 = .ok (.istore_n 2, 1) := by decide +kernel
theorem dX3_shortestLoop_72 : decode cX3_shortestLoop 72 = .ok (.iinc 3 1, 3) := by decide +kernel
theorem dX3_shortestLoop_75 : decode cX3_shortestLoop 75 = .ok (.goto (-61), 3) := by decide +kernel
theorem dX3_shortestLoop_78 : decode cX3_shortestLoop 78 = .ok (.iload_n 2, 1) := by decide +kernel
theorem dX3_shortestLoop_79 : decode cX3_shortestLoop 79 = .ok (.ireturn, 1) := by decide +kernel
set_option maxRecDepth 20000 in
theorem ggX3_withoutDrift_X3_isGood : GoodIn wsX3_withoutDrift wsX3_isGood := goodIn_r _ [7, 8, 1, 9, 10, 11, 12, 46, 47, 48, 49, 50, 51, 52, 53, 54, 55, 56, 57] (by decide +kernel) (by decide +kernel)
set_option maxRecDepth 20000 in
theorem gX3_withoutDrift_X3_isGood : GoodIn wsX3_withoutDrift (wsV RX3 95 RX3 yX3_isGood wsX3_isGood) := goodIn_app (goodIn_of _ (by decide +kernel)) ggX3_withoutDrift_X3_isGood
set_option maxRecDepth 20000 in
theorem ggX3_withoutDrift_X3_openLoopOf : GoodIn wsX3_withoutDrift wsX3_openLoopOf := goodIn_r _ [16, 17, 10, 11, 12, 46, 47, 48, 49, 50, 51, 52, 53, 54, 55, 56, 57] (by decide +kernel) (by decide +kernel)
set_option maxRecDepth 20000 in
theorem gX3_withoutDrift_X3_openLoopOf : GoodIn wsX3_withoutDrift (wsV RX3 111 RX3 yX3_openLoopOf wsX3_openLoopOf) := goodIn_app (goodIn_of _ (by decide +kernel)) ggX3_withoutDrift_X3_openLoopOf
set_option maxRecDepth 20000 in
theorem ggX3_withoutDrift_X3_rawHeight : GoodIn wsX3_withoutDrift wsX3_rawHeight := goodIn_r _ [21, 8, 10, 11, 12, 46, 47, 48, 49, 50, 51, 52, 53, 54, 55, 56, 57] (by decide +kernel) (by decide +kernel)
set_option maxRecDepth 20000 in
theorem gX3_withoutDrift_X3_rawHeight : GoodIn wsX3_withoutDrift (wsV RX3 92 RX3 yX3_rawHeight wsX3_rawHeight) := goodIn_app (goodIn_of _ (by decide +kernel)) ggX3_withoutDrift_X3_rawHeight
set_option maxRecDepth 20000 in
theorem ggX3_withoutDrift_X6_at : GoodIn wsX3_withoutDrift wsX6_at := goodIn_r _ [12] (by decide +kernel) (by decide +kernel)
set_option maxRecDepth 20000 in
theorem gX3_withoutDrift_X6_at_n81 : GoodIn wsX3_withoutDrift (wsX6_at) := ggX3_withoutDrift_X6_at
set_option maxRecDepth 20000 in
theorem ggX3_withoutDrift_X3_begin : GoodIn wsX3_withoutDrift wsX3_begin := goodIn_r _ [25, 26, 10, 11, 12, 46, 47, 48, 49, 50, 51, 52, 53, 54, 55, 56, 57] (by decide +kernel) (by decide +kernel)
set_option maxRecDepth 20000 in
theorem gX3_withoutDrift_X3_begin : GoodIn wsX3_withoutDrift (wsV RX3 89 RX3 yX3_begin wsX3_begin) := goodIn_app (goodIn_of _ (by decide +kernel)) ggX3_withoutDrift_X3_begin
set_option maxRecDepth 20000 in
theorem ggX3_withoutDrift_X3_misclosure : GoodIn wsX3_withoutDrift wsX3_misclosure := goodIn_r _ [30, 31, 32, 33, 6, 34, 35, 10, 11, 12, 18, 19, 20, 21, 8, 22, 23, 24, 25, 26, 46, 47, 48, 49, 50, 51, 52, 53, 54, 55, 56, 57] (by decide +kernel) (by decide +kernel)
set_option maxRecDepth 20000 in
theorem gX3_withoutDrift_X3_misclosure : GoodIn wsX3_withoutDrift (wsV RX3 132 RX3 yX3_misclosure wsX3_misclosure) := goodIn_app (goodIn_of _ (by decide +kernel)) ggX3_withoutDrift_X3_misclosure
set_option maxRecDepth 20000 in
theorem ggX3_withoutDrift_X3_minutes : GoodIn wsX3_withoutDrift wsX3_minutes := goodIn_r _ [39, 2, 31, 32, 33, 6, 34, 35, 10, 11, 12, 22, 23, 24, 25, 26, 46, 47, 48, 49, 50, 51, 52, 53, 54, 55, 56, 57] (by decide +kernel) (by decide +kernel)
set_option maxRecDepth 20000 in
theorem gX3_withoutDrift_X3_minutes : GoodIn wsX3_withoutDrift (wsV RX3 129 RX3 yX3_minutes wsX3_minutes) := goodIn_app (goodIn_of _ (by decide +kernel)) ggX3_withoutDrift_X3_minutes
set_option maxRecDepth 20000 in
theorem ggX3_withoutDrift_X6_divideDown : GoodIn wsX3_withoutDrift wsX6_divideDown := goodIn_r _ [41, 42, 43, 44, 45] (by decide +kernel) (by decide +kernel)
set_option maxRecDepth 20000 in
theorem gX3_withoutDrift_X6_divideDown_n135 : GoodIn wsX3_withoutDrift (wsX6_divideDown) := ggX3_withoutDrift_X6_divideDown
theorem dX3_withoutDrift_0 : decode cX3_withoutDrift 0 = .ok (.aload_n 0, 1) := by decide +kernel
theorem dX3_withoutDrift_1 : decode cX3_withoutDrift 1 = .ok (.iload_n 1, 1) := by decide +kernel
theorem dX3_withoutDrift_2 : decode cX3_withoutDrift 2 = .ok (.invokevirtual 95, 3) := by decide +kernel
theorem dX3_withoutDrift_5 : decode cX3_withoutDrift 5 = .ok (.ifCond .ne 6, 3) := by decide +kernel
theorem dX3_withoutDrift_8 : decode cX3_withoutDrift 8 = .ok (.ldc 85, 2) := by decide +kernel
theorem dX3_withoutDrift_10 : decode cX3_withoutDrift 10 = .ok (.ireturn, 1) := by decide +kernel
theorem dX3_withoutDrift_11 : decode cX3_withoutDrift 11 = .ok (.aload_n 0, 1) := by decide +kernel
theorem dX3_withoutDrift_12 : decode cX3_withoutDrift 12 = .ok (.iload_n 1, 1) := by decide +kernel
theorem dX3_withoutDrift_13 : decode cX3_withoutDrift 13 = .ok (.invokevirtual 111, 3) := by decide +kernel
theorem dX3_withoutDrift_16 : decode cX3_withoutDrift 16 = .ok (.istore_n 2, 1) := by decide +kernel
theorem dX3_withoutDrift_17 : decode cX3_withoutDrift 17 = .ok (.iload_n 2, 1) := by decide +kernel
theorem dX3_withoutDrift_18 : decode cX3_withoutDrift 18 = .ok (.iconst (-1), 1) := by decide +kernel
theorem dX3_withoutDrift_19 : decode cX3_withoutDrift 19 = .ok (.if_icmp .ne 9, 3) := by decide +kernel
theorem dX3_withoutDrift_22 : decode cX3_withoutDrift 22 = .ok (.aload_n 0, 1) := by decide +kernel
theorem dX3_withoutDrift_23 : decode cX3_withoutDrift 23 = .ok (.iload_n 1, 1) := by decide +kernel
theorem dX3_withoutDrift_24 : decode cX3_withoutDrift 24 = .ok (.invokevirtual 92, 3) := by decide +kernel
theorem dX3_withoutDrift_27 : decode cX3_withoutDrift 27 = .ok (.ireturn, 1) := by decide +kernel
theorem dX3_withoutDrift_28 : decode cX3_withoutDrift 28 = .ok (.aload_n 0, 1) := by decide +kernel
theorem dX3_withoutDrift_29 : decode cX3_withoutDrift 29 = .ok (.getfield 9, 3) := by decide +kernel
theorem dX3_withoutDrift_32 : decode cX3_withoutDrift 32 = .ok (.iload_n 1, 1) := by decide +kernel
theorem dX3_withoutDrift_33 : decode cX3_withoutDrift 33 = .ok (.invokestatic 81, 3) := by decide +kernel
theorem dX3_withoutDrift_36 : decode cX3_withoutDrift 36 = .ok (.aload_n 0, 1) := by decide +kernel
theorem dX3_withoutDrift_37 : decode cX3_withoutDrift 37 = .ok (.getfield 9, 3) := by decide +kernel
theorem dX3_withoutDrift_40 : decode cX3_withoutDrift 40 = .ok (.aload_n 0, 1) := by decide +kernel
theorem dX3_withoutDrift_41 : decode cX3_withoutDrift 41 = .ok (.iload_n 2, 1) := by decide +kernel
theorem dX3_withoutDrift_42 : decode cX3_withoutDrift 42 = .ok (.invokevirtual 89, 3) := by decide +kernel
theorem dX3_withoutDrift_45 : decode cX3_withoutDrift 45 = .ok (.invokestatic 81, 3) := by decide +kernel
theorem dX3_withoutDrift_48 : decode cX3_withoutDrift 48 = .ok (.isub, 1) := by decide +kernel
theorem dX3_withoutDrift_49 : decode cX3_withoutDrift 49 = .ok (.i2l, 1) := by decide +kernel
theorem dX3_withoutDrift_50 : decode cX3_withoutDrift 50 = .ok (.lstore_n 3, 1) := by decide +kernel
theorem dX3_withoutDrift_51 : decode cX3_withoutDrift 51 = .ok (.aload_n 0, 1) := by decide +kernel
theorem dX3_withoutDrift_52 : decode cX3_withoutDrift 52 = .ok (.iload_n 1, 1) := by decide +kernel
theorem dX3_withoutDrift_53 : decode cX3_withoutDrift 53 = .ok (.invokevirtual 92, 3) := by decide +kernel
theorem dX3_withoutDrift_56 : decode cX3_withoutDrift 56 = .ok (.i2l, 1) := by decide +kernel
theorem dX3_withoutDrift_57 : decode cX3_withoutDrift 57 = .ok (.aload_n 0, 1) := by decide +kernel
theorem dX3_withoutDrift_58 : decode cX3_withoutDrift 58 = .ok (.iload_n 2, 1) := by decide +kernel
theorem dX3_withoutDrift_59 : decode cX3_withoutDrift 59 = .ok (.invokevirtual 132, 3) := by decide +kernel
theorem dX3_withoutDrift_62 : decode cX3_withoutDrift 62 = .ok (.i2l, 1) := by decide +kernel
theorem dX3_withoutDrift_63 : decode cX3_withoutDrift 63 = .ok (.lload_n 3, 1) := by decide +kernel
theorem dX3_withoutDrift_64 : decode cX3_withoutDrift 64 = .ok (.lmul, 1) := by decide +kernel
theorem dX3_withoutDrift_65 : decode cX3_withoutDrift 65 = .ok (.aload_n 0, 1) := by decide +kernel
theorem dX3_withoutDrift_66 : decode cX3_withoutDrift 66 = .ok (.iload_n 2, 1) := by decide +kernel
theorem dX3_withoutDrift_67 : decode cX3_withoutDrift 67 = .ok (.invokevirtual 129, 3) := by decide +kernel
theorem dX3_withoutDrift_70 : decode cX3_withoutDrift 70 = .ok (.i2l, 1) := by decide +kernel
theorem dX3_withoutDrift_71 : decode cX3_withoutDrift 71 = .ok (.invokestatic 135, 3) := by decide +kernel
theorem dX3_withoutDrift_74 : decode cX3_withoutDrift 74 = .ok (.lsub, 1) := by decide +kernel
theorem dX3_withoutDrift_75 : decode cX3_withoutDrift 75 = .ok (.l2i, 1) := by decide +kernel
theorem dX3_withoutDrift_76 : decode cX3_withoutDrift 76 = .ok (.ireturn, 1) := by decide +kernel
theorem dX4_init_0 : decode cX4_init 0 = .ok (.aload_n 0, 1) := by decide +kernel
theorem dX4_init_1 : decode cX4_init 1 = .ok (.invokespecial 3, 3) := by decide +kernel
theorem dX4_init_4 : decode cX4_init 4 = .ok (.aload_n 0, 1) := by decide +kernel
theorem dX4_init_5 : decode cX4_init 5 = .ok (.bipush 100, 2) := by decide +kernel
theorem dX4_init_7 : decode cX4_init 7 = .ok (.newarray .int, 2) := by decide +kernel
theorem dX4_init_9 : decode cX4_init 9 = .ok (.putfield 9, 3) := by decide +kernel
theorem dX4_init_12 : decode cX4_init 12 = .ok (.aload_n 0, 1) := by decide +kernel
theorem dX4_init_13 : decode cX4_init 13 = .ok (.iconst (-1), 1) := by decide +kernel
theorem dX4_init_14 : decode cX4_init 14 = .ok (.putfield 15, 3) := by decide +kernel
theorem dX4_init_17 : decode cX4_init 17 = .ok (.return_, 1) := by decide +kernel
