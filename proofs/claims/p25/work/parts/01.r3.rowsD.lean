set_option maxRecDepth 20000 in
theorem ggX6_loop_X3_minutes : GoodIn wsX6_loop wsX3_minutes := goodIn_r _ [117, 24, 110, 111, 112, 21, 113, 97, 45, 4, 46, 106, 107, 108, 109, 96, 146, 147, 148, 149, 150, 151, 152, 153, 154, 155, 156, 157] (by decide +kernel) (by decide +kernel)
set_option maxRecDepth 20000 in
theorem gX6_loop_X3_minutes : GoodIn wsX6_loop (wsV RX6 188 RX3 yX3_minutes wsX3_minutes) := goodIn_app (goodIn_of _ (by decide +kernel)) ggX6_loop_X3_minutes
theorem dX6_loop_0 : decode cX6_loop 0 = .ok (.iload_n 1, 1) := by decide +kernel
theorem dX6_loop_1 : decode cX6_loop 1 = .ok (.invokestatic 81, 3) := by decide +kernel
theorem dX6_loop_4 : decode cX6_loop 4 = .ok (.ifCond .ne 6, 3) := by decide +kernel
theorem dX6_loop_7 : decode cX6_loop 7 = .ok (.ldc 61, 2) := by decide +kernel
theorem dX6_loop_9 : decode cX6_loop 9 = .ok (.ireturn, 1) := by decide +kernel
theorem dX6_loop_10 : decode cX6_loop 10 = .ok (.aload_n 0, 1) := by decide +kernel
theorem dX6_loop_11 : decode cX6_loop 11 = .ok (.invokevirtual 109, 3) := by decide +kernel
theorem dX6_loop_14 : decode cX6_loop 14 = .ok (.aload_n 0, 1) := by decide +kernel
theorem dX6_loop_15 : decode cX6_loop 15 = .ok (.iload_n 1, 1) := by decide +kernel
theorem dX6_loop_16 : decode cX6_loop 16 = .ok (.invokevirtual 112, 3) := by decide +kernel
theorem dX6_loop_19 : decode cX6_loop 19 = .ok (.astore 4, 2) := by decide +kernel
theorem dX6_loop_21 : decode cX6_loop 21 = .ok (.iload_n 2, 1) := by decide +kernel
theorem dX6_loop_22 : decode cX6_loop 22 = .ok (.iconst 0, 1) := by decide +kernel
theorem dX6_loop_23 : decode cX6_loop 23 = .ok (.aload 4, 2) := by decide +kernel
theorem dX6_loop_25 : decode cX6_loop 25 = .ok (.getfield 129, 3) := by decide +kernel
theorem dX6_loop_28 : decode cX6_loop 28 = .ok (.iconst 1, 1) := by decide +kernel
theorem dX6_loop_29 : decode cX6_loop 29 = .ok (.isub, 1) := by decide +kernel
theorem dX6_loop_30 : decode cX6_loop 30 = .ok (.invokestatic 105, 3) := by decide +kernel
theorem dX6_loop_33 : decode cX6_loop 33 = .ok (.ifCond .ne 6, 3) := by decide +kernel
theorem dX6_loop_36 : decode cX6_loop 36 = .ok (.ldc 61, 2) := by decide +kernel
theorem dX6_loop_38 : decode cX6_loop 38 = .ok (.ireturn, 1) := by decide +kernel
theorem dX6_loop_39 : decode cX6_loop 39 = .ok (.iload_n 3, 1) := by decide +kernel
theorem dX6_loop_40 : decode cX6_loop 40 = .ok (.tableswitch 71 0 4 #[36, 43, 50, 57, 64], 36) := by decide +kernel
theorem dX6_loop_76 : decode cX6_loop 76 = .ok (.aload 4, 2) := by decide +kernel
theorem dX6_loop_78 : decode cX6_loop 78 = .ok (.iload_n 2, 1) := by decide +kernel
theorem dX6_loop_79 : decode cX6_loop 79 = .ok (.invokevirtual 176, 3) := by decide +kernel
theorem dX6_loop_82 : decode cX6_loop 82 = .ok (.ireturn, 1) := by decide +kernel
theorem dX6_loop_83 : decode cX6_loop 83 = .ok (.aload 4, 2) := by decide +kernel
theorem dX6_loop_85 : decode cX6_loop 85 = .ok (.iload_n 2, 1) := by decide +kernel
theorem dX6_loop_86 : decode cX6_loop 86 = .ok (.invokevirtual 179, 3) := by decide +kernel
theorem dX6_loop_89 : decode cX6_loop 89 = .ok (.ireturn, 1) := by decide +kernel
theorem dX6_loop_90 : decode cX6_loop 90 = .ok (.aload 4, 2) := by decide +kernel
theorem dX6_loop_92 : decode cX6_loop 92 = .ok (.iload_n 2, 1) := by decide +kernel
theorem dX6_loop_93 : decode cX6_loop 93 = .ok (.invokevirtual 182, 3) := by decide +kernel
theorem dX6_loop_96 : decode cX6_loop 96 = .ok (.ireturn, 1) := by decide +kernel
theorem dX6_loop_97 : decode cX6_loop 97 = .ok (.aload 4, 2) := by decide +kernel
theorem dX6_loop_99 : decode cX6_loop 99 = .ok (.iload_n 2, 1) := by decide +kernel
theorem dX6_loop_100 : decode cX6_loop 100 = .ok (.invokevirtual 185, 3) := by decide +kernel
theorem dX6_loop_103 : decode cX6_loop 103 = .ok (.ireturn, 1) := by decide +kernel
theorem dX6_loop_104 : decode cX6_loop 104 = .ok (.aload 4, 2) := by decide +kernel
theorem dX6_loop_106 : decode cX6_loop 106 = .ok (.iload_n 2, 1) := by decide +kernel
theorem dX6_loop_107 : decode cX6_loop 107 = .ok (.invokevirtual 188, 3) := by decide +kernel
theorem dX6_loop_110 : decode cX6_loop 110 = .ok (.ireturn, 1) := by decide +kernel
theorem dX6_loop_111 : decode cX6_loop 111 = .ok (.ldc 61, 2) := by decide +kernel
theorem dX6_loop_113 : decode cX6_loop 113 = .ok (.ireturn, 1) := by decide +kernel
set_option maxRecDepth 20000 in
theorem ggX6_openLoop_X6_isCell : GoodIn wsX6_openLoop wsX6_isCell := goodIn_r _ [6, 7, 8, 5, 9] (by decide +kernel) (by decide +kernel)
set_option maxRecDepth 20000 in
theorem gX6_openLoop_X6_isCell : GoodIn wsX6_openLoop (va_wsS RX6 81 yX6_isCell wsX6_isCell) := goodIn_app (goodIn_of _ (by decide +kernel)) ggX6_openLoop_X6_isCell
set_option maxRecDepth 20000 in
theorem ggX6_openLoop_X6_isReadingOf : GoodIn wsX6_openLoop wsX6_isReadingOf := goodIn_r _ [13, 14, 3, 4, 5, 6, 7, 8, 9, 15, 16, 17, 18, 19, 20, 21, 22, 23, 145, 146, 147, 148, 149, 150, 151, 152, 153, 154, 155, 156, 157, 158, 159, 160, 161, 162, 163] (by decide +kernel) (by decide +kernel)
set_option maxRecDepth 20000 in
theorem gX6_openLoop_X6_isReadingOf : GoodIn wsX6_openLoop (wsV RX6 88 RX6 yX6_isReadingOf wsX6_isReadingOf) := goodIn_app (goodIn_of _ (by decide +kernel)) ggX6_openLoop_X6_isReadingOf
set_option maxRecDepth 20000 in
theorem ggX6_openLoop_X6_refresh : GoodIn wsX6_openLoop wsX6_refresh := goodIn_r _ [27, 28, 29, 14, 30, 31, 32, 33, 34, 35, 36, 37, 38, 39, 40, 41, 42, 43, 44, 16, 17, 18, 19, 20, 21, 22, 23, 45, 46, 47, 48, 49, 50, 51, 5, 52, 53, 54, 55, 56, 57, 58, 59, 60, 61, 62, 63, 64, 65, 66, 67, 68, 69, 70, 71, 72, 73, 74, 75, 76, 77, 78, 79, 80, 81, 82, 83, 84, 85, 86, 87, 88, 89, 90, 91, 92, 93, 94, 95, 96, 97, 98, 99, 100, 101, 102, 103, 104, 105, 106, 107, 108, 109, 110, 111, 112, 113, 114, 115, 116, 117, 118, 119, 120, 121, 122, 123, 124, 125, 126, 127, 128, 129, 130, 131, 132, 133, 134, 135, 136, 137, 138, 139, 145, 146, 147, 148, 149, 150, 151, 152, 153, 154, 155, 156, 164, 165, 166, 167, 168, 169, 170, 171, 172, 173, 174, 175, 157, 158, 159, 160, 161, 162, 163] (by decide +kernel) (by decide +kernel)
set_option maxRecDepth 20000 in
theorem gX6_openLoop_X6_refresh : GoodIn wsX6_openLoop (wsV RX6 109 RX6 yX6_refresh wsX6_refresh) := goodIn_app (goodIn_of _ (by decide +kernel)) ggX6_openLoop_X6_refresh
set_option maxRecDepth 20000 in
theorem ggX6_openLoop_X6_surveyOf : GoodIn wsX6_openLoop wsX6_surveyOf := goodIn_r _ [143, 29, 30, 31, 145, 146, 147, 148, 149, 150, 151, 152, 153] (by decide +kernel) (by decide +kernel)
set_option maxRecDepth 20000 in
theorem gX6_openLoop_X6_surveyOf : GoodIn wsX6_openLoop (wsV RX6 112 RX6 yX6_surveyOf wsX6_surveyOf) := goodIn_app (goodIn_of _ (by decide +kernel)) ggX6_openLoop_X6_surveyOf
set_option maxRecDepth 20000 in
theorem ggX6_openLoop_X3_openLoopOf : GoodIn wsX6_openLoop wsX3_openLoopOf := goodIn_r _ [131, 42, 51, 5, 52, 164, 165, 166, 167, 168, 169, 170, 171, 172, 173, 174, 175] (by decide +kernel) (by decide +kernel)
set_option maxRecDepth 20000 in
theorem gX6_openLoop_X3_openLoopOf : GoodIn wsX6_openLoop (wsV RX6 191 RX3 yX3_openLoopOf wsX3_openLoopOf) := goodIn_app (goodIn_of _ (by decide +kernel)) ggX6_openLoop_X3_openLoopOf
theorem dX6_openLoop_0 : decode cX6_openLoop 0 = .ok (.iload_n 1, 1) := by decide +kernel
theorem dX6_openLoop_1 : decode cX6_openLoop 1 = .ok (.invokestatic 81, 3) := by decide +kernel
theorem dX6_openLoop_4 : decode cX6_openLoop 4 = .ok (.ifCond .eq 12, 3) := by decide +kernel
theorem dX6_openLoop_7 : decode cX6_openLoop 7 = .ok (.aload_n 0, 1) := by decide +kernel
theorem dX6_openLoop_8 : decode cX6_openLoop 8 = .ok (.iload_n 1, 1) := by decide +kernel
theorem dX6_openLoop_9 : decode cX6_openLoop 9 = .ok (.iload_n 2, 1) := by decide +kernel
theorem dX6_openLoop_10 : decode cX6_openLoop 10 = .ok (.invokevirtual 88, 3) := by decide +kernel
theorem dX6_openLoop_13 : decode cX6_openLoop 13 = .ok (.ifCond .ne 6, 3) := by decide +kernel
theorem dX6_openLoop_16 : decode cX6_openLoop 16 = .ok (.ldc 61, 2) := by decide +kernel
theorem dX6_openLoop_18 : decode cX6_openLoop 18 = .ok (.ireturn, 1) := by decide +kernel
theorem dX6_openLoop_19 : decode cX6_openLoop 19 = .ok (.aload_n 0, 1) := by decide +kernel
theorem dX6_openLoop_20 : decode cX6_openLoop 20 = .ok (.invokevirtual 109, 3) := by decide +kernel
theorem dX6_openLoop_23 : decode cX6_openLoop 23 = .ok (.aload_n 0, 1) := by decide +kernel
theorem dX6_openLoop_24 : decode cX6_openLoop 24 = .ok (.iload_n 1, 1) := by decide +kernel
theorem dX6_openLoop_25 : decode cX6_openLoop 25 = .ok (.invokevirtual 112, 3) := by decide +kernel
theorem dX6_openLoop_28 : decode cX6_openLoop 28 = .ok (.iload_n 2, 1) := by decide +kernel
theorem dX6_openLoop_29 : decode cX6_openLoop 29 = .ok (.invokevirtual 191, 3) := by decide +kernel
theorem dX6_openLoop_32 : decode cX6_openLoop 32 = .ok (.istore_n 3, 1) := by decide +kernel
theorem dX6_openLoop_33 : decode cX6_openLoop 33 = .ok (.iload_n 3, 1) := by decide +kernel
theorem dX6_openLoop_34 : decode cX6_openLoop 34 = .ok (.iconst (-1), 1) := by decide +kernel
theorem dX6_openLoop_35 : decode cX6_openLoop 35 = .ok (.if_icmp .ne 8, 3) := by decide +kernel
theorem dX6_openLoop_38 : decode cX6_openLoop 38 = .ok (.ldc 108, 2) := by decide +kernel
theorem dX6_openLoop_40 : decode cX6_openLoop 40 = .ok (.goto 4, 3) := by decide +kernel
theorem dX6_openLoop_43 : decode cX6_openLoop 43 = .ok (.iload_n 3, 1) := by decide +kernel
theorem dX6_openLoop_44 : decode cX6_openLoop 44 = .ok (.ireturn, 1) := by decide +kernel
set_option maxRecDepth 20000 in
theorem ggX6_corrected_X6_isCell : GoodIn wsX6_corrected wsX6_isCell := goodIn_r _ [5, 6, 7, 4, 8] (by decide +kernel) (by decide +kernel)
set_option maxRecDepth 20000 in
theorem gX6_corrected_X6_isCell : GoodIn wsX6_corrected (va_wsS RX6 81 yX6_isCell wsX6_isCell) := goodIn_app (goodIn_of _ (by decide +kernel)) ggX6_corrected_X6_isCell
set_option maxRecDepth 20000 in
theorem ggX6_corrected_X6_isReadingOf : GoodIn wsX6_corrected wsX6_isReadingOf := goodIn_r _ [12, 13, 2, 3, 4, 5, 6, 7, 8, 14, 15, 16, 17, 18, 19, 20, 21, 22, 147, 148, 149, 150, 151, 152, 153, 154, 155, 156, 157, 158, 159, 160, 161, 162, 163, 164, 165] (by decide +kernel) (by decide +kernel)
set_option maxRecDepth 20000 in
theorem gX6_corrected_X6_isReadingOf : GoodIn wsX6_corrected (wsV RX6 88 RX6 yX6_isReadingOf wsX6_isReadingOf) := goodIn_app (goodIn_of _ (by decide +kernel)) ggX6_corrected_X6_isReadingOf
set_option maxRecDepth 20000 in
theorem ggX6_corrected_X6_refresh : GoodIn wsX6_corrected wsX6_refresh := goodIn_r _ [26, 27, 28, 13, 29, 30, 31, 32, 33, 34, 35, 36, 37, 38, 39, 40, 41, 42, 43, 15, 16, 17, 18, 19, 20, 21, 22, 44, 45, 46, 47, 48, 49, 50, 4, 51, 52, 53, 54, 55, 56, 57, 58, 59, 60, 61, 62, 63, 64, 65, 66, 67, 68, 69, 70, 71, 72, 73, 74, 75, 76, 77, 78, 79, 80, 81, 82, 83, 84, 85, 86, 87, 88, 89, 90, 91, 92, 93, 94, 95, 96, 97, 98, 99, 100, 101, 102, 103, 104, 105, 106, 107, 108, 109, 110, 111, 112, 113, 114, 115, 116, 117, 118, 119, 120, 121, 122, 123, 124, 125, 126, 127, 128, 129, 130, 131, 132, 133, 134, 135, 136, 137, 138, 147, 148, 149, 150, 151, 152, 153, 154, 155, 156, 157, 158, 166, 167, 168, 169, 170, 171, 172, 173, 174, 175, 176, 177, 159, 160, 161, 162, 163, 164, 165] (by decide +kernel) (by decide +kernel)
set_option maxRecDepth 20000 in
theorem gX6_corrected_X6_refresh : GoodIn wsX6_corrected (wsV RX6 109 RX6 yX6_refresh wsX6_refresh) := goodIn_app (goodIn_of _ (by decide +kernel)) ggX6_corrected_X6_refresh
set_option maxRecDepth 20000 in
theorem ggX6_corrected_X6_surveyOf : GoodIn wsX6_corrected wsX6_surveyOf := goodIn_r _ [142, 28, 29, 30, 147, 148, 149, 150, 151, 152, 153, 154, 155] (by decide +kernel) (by decide +kernel)
set_option maxRecDepth 20000 in
theorem gX6_corrected_X6_surveyOf : GoodIn wsX6_corrected (wsV RX6 112 RX6 yX6_surveyOf wsX6_surveyOf) := goodIn_app (goodIn_of _ (by decide +kernel)) ggX6_corrected_X6_surveyOf
set_option maxRecDepth 20000 in
theorem ggX6_corrected_X3_correctedHeight : GoodIn wsX6_corrected wsX3_correctedHeight := goodIn_r _ [146, 42, 50, 4, 51, 166, 167, 168, 169, 170, 171, 172, 173, 174, 175, 176, 177] (by decide +kernel) (by decide +kernel)
set_option maxRecDepth 20000 in
theorem gX6_corrected_X3_correctedHeight : GoodIn wsX6_corrected (wsV RX6 194 RX3 yX3_correctedHeight wsX3_correctedHeight) := goodIn_app (goodIn_of _ (by decide +kernel)) ggX6_corrected_X3_correctedHeight
theorem dX6_corrected_0 : decode cX6_corrected 0 = .ok (.iload_n 1, 1) := by decide +kernel
theorem dX6_corrected_1 : decode cX6_corrected 1 = .ok (.invokestatic 81, 3) := by decide +kernel
theorem dX6_corrected_4 : decode cX6_corrected 4 = .ok (.ifCond .eq 12, 3) := by decide +kernel
theorem dX6_corrected_7 : decode cX6_corrected 7 = .ok (.aload_n 0, 1) := by decide +kernel
theorem dX6_corrected_8 : decode cX6_corrected 8 = .ok (.iload_n 1, 1) := by decide +kernel
theorem dX6_corrected_9 : decode cX6_corrected 9 = .ok (.iload_n 2, 1) := by decide +kernel
theorem dX6_corrected_10 : decode cX6_corrected 10 = .ok (.invokevirtual 88, 3) := by decide +kernel
theorem dX6_corrected_13 : decode cX6_corrected 13 = .ok (.ifCond .ne 6, 3) := by decide +kernel
theorem dX6_corrected_16 : decode cX6_corrected 16 = .ok (.ldc 61, 2) := by decide +kernel
theorem dX6_corrected_18 : decode cX6_corrected 18 = .ok (.ireturn, 1) := by decide +kernel
theorem dX6_corrected_19 : decode cX6_corrected 19 = .ok (.aload_n 0, 1) := by decide +kernel
theorem dX6_corrected_20 : decode cX6_corrected 20 = .ok (.invokevirtual 109, 3) := by decide +kernel
theorem dX6_corrected_23 : decode cX6_corrected 23 = .ok (.aload_n 0, 1) := by decide +kernel
theorem dX6_corrected_24 : decode cX6_corrected 24 = .ok (.iload_n 1, 1) := by decide +kernel
theorem dX6_corrected_25 : decode cX6_corrected 25 = .ok (.invokevirtual 112, 3) := by decide +kernel
theorem dX6_corrected_28 : decode cX6_corrected 28 = .ok (.iload_n 2, 1) := by decide +kernel
theorem dX6_corrected_29 : decode cX6_corrected 29 = .ok (.invokevirtual 194, 3) := by decide +kernel
theorem dX6_corrected_32 : decode cX6_corrected 32 = .ok (.ireturn, 1) := by decide +kernel
set_option maxRecDepth 20000 in
theorem ggX6_point_X6_isPoint : GoodIn wsX6_point wsX6_isPoint := goodIn_r _ [7, 8, 9, 6, 10] (by decide +kernel) (by decide +kernel)
set_option maxRecDepth 20000 in
theorem gX6_point_X6_isPoint : GoodIn wsX6_point (va_wsS RX6 85 yX6_isPoint wsX6_isPoint) := goodIn_app (goodIn_of _ (by decide +kernel)) ggX6_point_X6_isPoint
set_option maxRecDepth 20000 in
theorem ggX6_point_X6_within : GoodIn wsX6_point wsX6_within := goodIn_r _ [10] (by decide +kernel) (by decide +kernel)
set_option maxRecDepth 20000 in
theorem gX6_point_X6_within : GoodIn wsX6_point (va_wsS RX6 105 yX6_within wsX6_within) := goodIn_app (goodIn_of _ (by decide +kernel)) ggX6_point_X6_within
set_option maxRecDepth 20000 in
theorem ggX6_point_X6_refresh : GoodIn wsX6_point wsX6_refresh := goodIn_r _ [14, 15, 16, 17, 18, 19, 20, 21, 22, 23, 24, 25, 26, 27, 28, 29, 30, 31, 32, 33, 34, 35, 36, 37, 38, 39, 40, 41, 42, 43, 44, 45, 46, 47, 6, 48, 49, 50, 51, 52, 53, 54, 55, 56, 57, 58, 59, 60, 61, 62, 63, 64, 65, 66, 67, 68, 69, 70, 71, 72, 73, 74, 75, 76, 77, 78, 79, 80, 81, 82, 83, 84, 85, 86, 87, 88, 89, 90, 91, 92, 93, 94, 95, 96, 97, 98, 99, 100, 101, 102, 103, 104, 105, 106, 107, 108, 109, 110, 111, 112, 113, 114, 115, 116, 117, 118, 119, 120, 121, 122, 123, 124, 125, 126, 127, 128, 129, 130, 131, 132, 133, 134, 135, 184, 185, 186, 187, 188, 189, 190, 191, 192, 197, 198, 199, 200, 201, 202, 203, 204, 205, 206, 207, 208, 209, 210, 211, 212, 213, 214, 215, 216, 217, 218] (by decide +kernel) (by decide +kernel)
set_option maxRecDepth 20000 in
theorem gX6_point_X6_refresh : GoodIn wsX6_point (wsV RX6 109 RX6 yX6_refresh wsX6_refresh) := goodIn_app (goodIn_of _ (by decide +kernel)) ggX6_point_X6_refresh
set_option maxRecDepth 20000 in
theorem ggX6_point_X6_gather : GoodIn wsX6_point wsX6_gather := goodIn_r _ [139, 2, 140, 141, 142, 143, 144, 145, 146, 147, 148, 149, 6, 150, 16, 18, 19, 151, 152, 153, 23, 154, 25, 27, 88, 89, 90, 91, 28, 92, 29, 47, 48, 155, 156, 157, 158, 124, 125, 126, 127, 30, 112, 113, 114, 115, 99, 159, 160, 161, 162, 31, 163, 164, 165, 166, 167, 168, 169, 170, 171, 172, 173, 174, 175, 184, 185, 186, 187, 188, 189, 190, 191, 192, 193, 194, 195, 196, 200, 201, 202, 203, 204, 205, 206, 207, 208, 209, 210, 211] (by decide +kernel) (by decide +kernel)
set_option maxRecDepth 20000 in
theorem gX6_point_X6_gather : GoodIn wsX6_point (wsV RX6 197 RX6 yX6_gather wsX6_gather) := goodIn_app (goodIn_of _ (by decide +kernel)) ggX6_point_X6_gather
set_option maxRecDepth 20000 in
theorem ggX6_point_X1_height : GoodIn wsX6_point wsX1_height := goodIn_r _ [179, 145, 146, 63, 6, 64, 65, 66, 67, 68, 193, 194, 195, 196] (by decide +kernel) (by decide +kernel)
set_option maxRecDepth 20000 in
theorem gX6_point_X1_height : GoodIn wsX6_point (wsV RX6 203 RX1 yX1_height wsX1_height) := goodIn_app (goodIn_of _ (by decide +kernel)) ggX6_point_X1_height
set_option maxRecDepth 20000 in
theorem ggX6_point_X1_spread : GoodIn wsX6_point wsX1_spread := goodIn_r _ [183, 172, 167, 193, 194, 195, 196] (by decide +kernel) (by decide +kernel)
set_option maxRecDepth 20000 in
theorem gX6_point_X1_spread : GoodIn wsX6_point (wsV RX6 206 RX1 yX1_spread wsX1_spread) := goodIn_app (goodIn_of _ (by decide +kernel)) ggX6_point_X1_spread
theorem dX6_point_0 : decode cX6_point 0 = .ok (.iload_n 1, 1) := by decide +kernel
theorem dX6_point_1 : decode cX6_point 1 = .ok (.invokestatic 85, 3) := by decide +kernel
theorem dX6_point_4 : decode cX6_point 4 = .ok (.ifCond .eq 12, 3) := by decide +kernel
theorem dX6_point_7 : decode cX6_point 7 = .ok (.iload_n 2, 1) := by decide +kernel
theorem dX6_point_8 : decode cX6_point 8 = .ok (.iconst 0, 1) := by decide +kernel
theorem dX6_point_9 : decode cX6_point 9 = .ok (.iconst 2, 1) := by decide +kernel
theorem dX6_point_10 : decode cX6_point 10 = .ok (.invokestatic 105, 3) := by decide +kernel
theorem dX6_point_13 : decode cX6_point 13 = .ok (.ifCond .ne 6, 3) := by decide +kernel
theorem dX6_point_16 : decode cX6_point 16 = .ok (.ldc 61, 2) := by decide +kernel
theorem dX6_point_18 : decode cX6_point 18 = .ok (.ireturn, 1) := by decide +kernel
theorem dX6_point_19 : decode cX6_point 19 = .ok (.aload_n 0, 1) := by decide +kernel
theorem dX6_point_20 : decode cX6_point 20 = .ok (.invokevirtual 109, 3) := by decide +kernel
theorem dX6_point_23 : decode cX6_point 23 = .ok (.aload_n 0, 1) := by decide +kernel
theorem dX6_point_24 : decode cX6_point 24 = .ok (.iload_n 1, 1) := by decide +kernel
theorem dX6_point_25 : decode cX6_point 25 = .ok (.invokevirtual 197, 3) := by decide +kernel
theorem dX6_point_28 : decode cX6_point 28 = .ok (.iload_n 2, 1) := by decide +kernel
theorem dX6_point_29 : decode cX6_point 29 = .ok (.iconst 2, 1) := by decide +kernel
theorem dX6_point_30 : decode cX6_point 30 = .ok (.if_icmp .ne 11, 3) := by decide +kernel
theorem dX6_point_33 : decode cX6_point 33 = .ok (.aload_n 0, 1) := by decide +kernel
theorem dX6_point_34 : decode cX6_point 34 = .ok (.getfield 42, 3) := by decide +kernel
theorem dX6_point_37 : decode cX6_point 37 = .ok (.getfield 200, 3) := by decide +kernel
theorem dX6_point_40 : decode cX6_point 40 = .ok (.ireturn, 1) := by decide +kernel
theorem dX6_point_41 : decode cX6_point 41 = .ok (.aload_n 0, 1) := by decide +kernel
theorem dX6_point_42 : decode cX6_point 42 = .ok (.getfield 42, 3) := by decide +kernel
theorem dX6_point_45 : decode cX6_point 45 = .ok (.getfield 200, 3) := by decide +kernel
theorem dX6_point_48 : decode cX6_point 48 = .ok (.ifCond .ne 6, 3) := by decide +kernel
theorem dX6_point_51 : decode cX6_point 51 = .ok (.ldc 108, 2) := by decide +kernel
theorem dX6_point_53 : decode cX6_point 53 = .ok (.ireturn, 1) := by decide +kernel
theorem dX6_point_54 : decode cX6_point 54 = .ok (.iload_n 2, 1) := by decide +kernel
theorem dX6_point_55 : decode cX6_point 55 = .ok (.ifCond .ne 13, 3) := by decide +kernel
theorem dX6_point_58 : decode cX6_point 58 = .ok (.aload_n 0, 1) := by decide +kernel
theorem dX6_point_59 : decode cX6_point 59 = .ok (.getfield 42, 3) := by decide +kernel
theorem dX6_point_62 : decode cX6_point 62 = .ok (.invokevirtual 203, 3) := by decide +kernel
theorem dX6_point_65 : decode cX6_point 65 = .ok (.goto 10, 3) := by decide +kernel
theorem dX6_point_68 : decode cX6_point 68 = .ok (.aload_n 0, 1) := by decide +kernel
theorem dX6_point_69 : decode cX6_point 69 = .ok (.getfield 42, 3) := by decide +kernel
theorem dX6_point_72 : decode cX6_point 72 = .ok (.invokevirtual 206, 3) := by decide +kernel
theorem dX6_point_75 : decode cX6_point 75 = .ok (.ireturn, 1) := by decide +kernel
theorem dX6_within_0 : decode cX6_within 0 = .ok (.iload_n 0, 1) := by decide +kernel
theorem dX6_within_1 : decode cX6_within 1 = .ok (.iload_n 1, 1) := by decide +kernel
theorem dX6_within_2 : decode cX6_within 2 = .ok (.if_icmp .lt 12, 3) := by decide +kernel
theorem dX6_within_5 : decode cX6_within 5 = .ok (.iload_n 0, 1) := by decide +kernel
theorem dX6_within_6 : decode cX6_within 6 = .ok (.iload_n 2, 1) := by decide +kernel
theorem dX6_within_7 : decode cX6_within 7 = .ok (.if_icmp .gt 7, 3) := by decide +kernel
theorem dX6_within_10 : decode cX6_within 10 = .ok (.iconst 1, 1) := by decide +kernel
theorem dX6_within_11 : decode cX6_within 11 = .ok (.goto 4, 3) := by decide +kernel
theorem dX6_within_14 : decode cX6_within 14 = .ok (.iconst 0, 1) := by decide +kernel
theorem dX6_within_15 : decode cX6_within 15 = .ok (.ireturn, 1) := by decide +kernel
set_option maxRecDepth 20000 in
theorem ggX6_isSetting_X6_within : GoodIn wsX6_isSetting wsX6_within := goodIn_r _ [6] (by decide +kernel) (by decide +kernel)
set_option maxRecDepth 20000 in
theorem gX6_isSetting_X6_within : GoodIn wsX6_isSetting (va_wsS RX6 105 yX6_within wsX6_within) := goodIn_app (goodIn_of _ (by decide +kernel)) ggX6_isSetting_X6_within
theorem dX6_isSetting_0 : decode cX6_isSetting 0 = .ok (.iload_n 0, 1) := by decide +kernel
theorem dX6_isSetting_1 : decode cX6_isSetting 1 = .ok (.tableswitch 54 0 2 #[27, 36, 45], 27) := by decide +kernel
theorem dX6_isSetting_28 : decode cX6_isSetting 28 = .ok (.iload_n 1, 1) := by decide +kernel
theorem dX6_isSetting_29 : decode cX6_isSetting 29 = .ok (.ldc 233, 2) := by decide +kernel
theorem dX6_isSetting_31 : decode cX6_isSetting 31 = .ok (.ldc 234, 2) := by decide +kernel
theorem dX6_isSetting_33 : decode cX6_isSetting 33 = .ok (.invokestatic 105, 3) := by decide +kernel
theorem dX6_isSetting_36 : decode cX6_isSetting 36 = .ok (.ireturn, 1) := by decide +kernel
theorem dX6_isSetting_37 : decode cX6_isSetting 37 = .ok (.iload_n 1, 1) := by decide +kernel
theorem dX6_isSetting_38 : decode cX6_isSetting 38 = .ok (.iconst 1, 1) := by decide +kernel
theorem dX6_isSetting_39 : decode cX6_isSetting 39 = .ok (.sipush 5000, 3) := by decide +kernel
theorem dX6_isSetting_42 : decode cX6_isSetting 42 = .ok (.invokestatic 105, 3) := by decide +kernel
theorem dX6_isSetting_45 : decode cX6_isSetting 45 = .ok (.ireturn, 1) := by decide +kernel
theorem dX6_isSetting_46 : decode cX6_isSetting 46 = .ok (.iload_n 1, 1) := by decide +kernel
theorem dX6_isSetting_47 : decode cX6_isSetting 47 = .ok (.iconst 1, 1) := by decide +kernel
theorem dX6_isSetting_48 : decode cX6_isSetting 48 = .ok (.sipush 500, 3) := by decide +kernel
theorem dX6_isSetting_51 : decode cX6_isSetting 51 = .ok (.invokestatic 105, 3) := by decide +kernel
theorem dX6_isSetting_54 : decode cX6_isSetting 54 = .ok (.ireturn, 1) := by decide +kernel
theorem dX6_isSetting_55 : decode cX6_isSetting 55 = .ok (.iconst 0, 1) := by decide +kernel
theorem dX6_isSetting_56 : decode cX6_isSetting 56 = .ok (.ireturn, 1) := by decide +kernel
set_option maxRecDepth 20000 in
theorem ggX6_isCell_X6_within : GoodIn wsX6_isCell wsX6_within := goodIn_r _ [4] (by decide +kernel) (by decide +kernel)
set_option maxRecDepth 20000 in
theorem gX6_isCell_X6_within : GoodIn wsX6_isCell (va_wsS RX6 105 yX6_within wsX6_within) := goodIn_app (goodIn_of _ (by decide +kernel)) ggX6_isCell_X6_within
theorem dX6_isCell_0 : decode cX6_isCell 0 = .ok (.iload_n 0, 1) := by decide +kernel
theorem dX6_isCell_1 : decode cX6_isCell 1 = .ok (.iconst 0, 1) := by decide +kernel
theorem dX6_isCell_2 : decode cX6_isCell 2 = .ok (.iconst 2, 1) := by decide +kernel
theorem dX6_isCell_3 : decode cX6_isCell 3 = .ok (.invokestatic 105, 3) := by decide +kernel
theorem dX6_isCell_6 : decode cX6_isCell 6 = .ok (.ireturn, 1) := by decide +kernel
set_option maxRecDepth 20000 in
theorem ggX6_isPoint_X6_within : GoodIn wsX6_isPoint wsX6_within := goodIn_r _ [4] (by decide +kernel) (by decide +kernel)
set_option maxRecDepth 20000 in
theorem gX6_isPoint_X6_within : GoodIn wsX6_isPoint (va_wsS RX6 105 yX6_within wsX6_within) := goodIn_app (goodIn_of _ (by decide +kernel)) ggX6_isPoint_X6_within
theorem dX6_isPoint_0 : decode cX6_isPoint 0 = .ok (.iload_n 0, 1) := by decide +kernel
theorem dX6_isPoint_1 : decode cX6_isPoint 1 = .ok (.iconst 0, 1) := by decide +kernel
theorem dX6_isPoint_2 : decode cX6_isPoint 2 = .ok (.bipush 9, 2) := by decide +kernel
theorem dX6_isPoint_4 : decode cX6_isPoint 4 = .ok (.invokestatic 105, 3) := by decide +kernel
theorem dX6_isPoint_7 : decode cX6_isPoint 7 = .ok (.ireturn, 1) := by decide +kernel
set_option maxRecDepth 20000 in
theorem ggX6_isTime_X6_within : GoodIn wsX6_isTime wsX6_within := goodIn_r _ [4] (by decide +kernel) (by decide +kernel)
set_option maxRecDepth 20000 in
theorem gX6_isTime_X6_within : GoodIn wsX6_isTime (va_wsS RX6 105 yX6_within wsX6_within) := goodIn_app (goodIn_of _ (by decide +kernel)) ggX6_isTime_X6_within
theorem dX6_isTime_0 : decode cX6_isTime 0 = .ok (.iload_n 0, 1) := by decide +kernel
theorem dX6_isTime_1 : decode cX6_isTime 1 = .ok (.iconst 0, 1) := by decide +kernel
theorem dX6_isTime_2 : decode cX6_isTime 2 = .ok (.sipush 10000, 3) := by decide +kernel
theorem dX6_isTime_5 : decode cX6_isTime 5 = .ok (.invokestatic 105, 3) := by decide +kernel
theorem dX6_isTime_8 : decode cX6_isTime 8 = .ok (.ireturn, 1) := by decide +kernel
set_option maxRecDepth 20000 in
theorem ggX6_isTemperature_X6_within : GoodIn wsX6_isTemperature wsX6_within := goodIn_r _ [4] (by decide +kernel) (by decide +kernel)
set_option maxRecDepth 20000 in
theorem gX6_isTemperature_X6_within : GoodIn wsX6_isTemperature (va_wsS RX6 105 yX6_within wsX6_within) := goodIn_app (goodIn_of _ (by decide +kernel)) ggX6_isTemperature_X6_within
theorem dX6_isTemperature_0 : decode cX6_isTemperature 0 = .ok (.iload_n 0, 1) := by decide +kernel
theorem dX6_isTemperature_1 : decode cX6_isTemperature 1 = .ok (.sipush (-300), 3) := by decide +kernel
theorem dX6_isTemperature_4 : decode cX6_isTemperature 4 = .ok (.sipush 500, 3) := by decide +kernel
theorem dX6_isTemperature_7 : decode cX6_isTemperature 7 = .ok (.invokestatic 105, 3) := by decide +kernel
theorem dX6_isTemperature_10 : decode cX6_isTemperature 10 = .ok (.ireturn, 1) := by decide +kernel
set_option maxRecDepth 20000 in
theorem ggX6_isReading_X6_isTime : GoodIn wsX6_isReading wsX6_isTime := goodIn_r _ [6, 7, 8, 5, 9] (by decide +kernel) (by decide +kernel)
set_option maxRecDepth 20000 in
theorem gX6_isReading_X6_isTime : GoodIn wsX6_isReading (va_wsS RX6 151 yX6_isTime wsX6_isTime) := goodIn_app (goodIn_of _ (by decide +kernel)) ggX6_isReading_X6_isTime
set_option maxRecDepth 20000 in
theorem ggX6_isReading_X6_within : GoodIn wsX6_isReading wsX6_within := goodIn_r _ [9] (by decide +kernel) (by decide +kernel)
set_option maxRecDepth 20000 in
theorem gX6_isReading_X6_within : GoodIn wsX6_isReading (va_wsS RX6 105 yX6_within wsX6_within) := goodIn_app (goodIn_of _ (by decide +kernel)) ggX6_isReading_X6_within
set_option maxRecDepth 20000 in
theorem ggX6_isReading_X6_isTemperature : GoodIn wsX6_isReading wsX6_isTemperature := goodIn_r _ [12, 7, 8, 5, 9] (by decide +kernel) (by decide +kernel)
set_option maxRecDepth 20000 in
theorem gX6_isReading_X6_isTemperature : GoodIn wsX6_isReading (va_wsS RX6 167 yX6_isTemperature wsX6_isTemperature) := goodIn_app (goodIn_of _ (by decide +kernel)) ggX6_isReading_X6_isTemperature
theorem dX6_isReading_0 : decode cX6_isReading 0 = .ok (.iload_n 0, 1) := by decide +kernel
theorem dX6_isReading_1 : decode cX6_isReading 1 = .ok (.invokestatic 151, 3) := by decide +kernel
theorem dX6_isReading_4 : decode cX6_isReading 4 = .ok (.ifCond .eq 25, 3) := by decide +kernel
theorem dX6_isReading_7 : decode cX6_isReading 7 = .ok (.iload_n 1, 1) := by decide +kernel
theorem dX6_isReading_8 : decode cX6_isReading 8 = .ok (.ldc 172, 2) := by decide +kernel
theorem dX6_isReading_10 : decode cX6_isReading 10 = .ok (.ldc 235, 2) := by decide +kernel
theorem dX6_isReading_12 : decode cX6_isReading 12 = .ok (.invokestatic 105, 3) := by decide +kernel
theorem dX6_isReading_15 : decode cX6_isReading 15 = .ok (.ifCond .eq 14, 3) := by decide +kernel
theorem dX6_isReading_18 : decode cX6_isReading 18 = .ok (.iload_n 2, 1) := by decide +kernel
theorem dX6_isReading_19 : decode cX6_isReading 19 = .ok (.invokestatic 167, 3) := by decide +kernel
theorem dX6_isReading_22 : decode cX6_isReading 22 = .ok (.ifCond .eq 7, 3) := by decide +kernel
theorem dX6_isReading_25 : decode cX6_isReading 25 = .ok (.iconst 1, 1) := by decide +kernel
theorem dX6_isReading_26 : decode cX6_isReading 26 = .ok (.goto 4, 3) := by decide +kernel
theorem dX6_isReading_29 : decode cX6_isReading 29 = .ok (.iconst 0, 1) := by decide +kernel
theorem dX6_isReading_30 : decode cX6_isReading 30 = .ok (.ireturn, 1) := by decide +kernel
set_option maxRecDepth 20000 in
theorem ggX6_isReadingOf_X6_isCell : GoodIn wsX6_isReadingOf wsX6_isCell := goodIn_r _ [5, 6, 7, 4, 8] (by decide +kernel) (by decide +kernel)
set_option maxRecDepth 20000 in
theorem gX6_isReadingOf_X6_isCell : GoodIn wsX6_isReadingOf (va_wsS RX6 81 yX6_isCell wsX6_isCell) := goodIn_app (goodIn_of _ (by decide +kernel)) ggX6_isReadingOf_X6_isCell
set_option maxRecDepth 20000 in
theorem ggX6_isReadingOf_X2_track : GoodIn wsX6_isReadingOf wsX2_track := goodIn_r _ [13, 14, 15, 16, 17, 30, 31, 32, 33, 34, 35, 36] (by decide +kernel) (by decide +kernel)
set_option maxRecDepth 20000 in
theorem gX6_isReadingOf_X2_track : GoodIn wsX6_isReadingOf (wsV RX6 91 RX2 yX2_track wsX2_track) := goodIn_app (goodIn_of _ (by decide +kernel)) ggX6_isReadingOf_X2_track
set_option maxRecDepth 20000 in
theorem ggX6_isReadingOf_X6_within : GoodIn wsX6_isReadingOf wsX6_within := goodIn_r _ [8] (by decide +kernel) (by decide +kernel)
set_option maxRecDepth 20000 in
theorem gX6_isReadingOf_X6_within : GoodIn wsX6_isReadingOf (va_wsS RX6 105 yX6_within wsX6_within) := goodIn_app (goodIn_of _ (by decide +kernel)) ggX6_isReadingOf_X6_within
theorem dX6_isReadingOf_0 : decode cX6_isReadingOf 0 = .ok (.iload_n 1, 1) := by decide +kernel
theorem dX6_isReadingOf_1 : decode cX6_isReadingOf 1 = .ok (.iconst (-1), 1) := by decide +kernel
theorem dX6_isReadingOf_2 : decode cX6_isReadingOf 2 = .ok (.if_icmp .eq 10, 3) := by decide +kernel
theorem dX6_isReadingOf_5 : decode cX6_isReadingOf 5 = .ok (.iload_n 1, 1) := by decide +kernel
theorem dX6_isReadingOf_6 : decode cX6_isReadingOf 6 = .ok (.invokestatic 81, 3) := by decide +kernel
theorem dX6_isReadingOf_9 : decode cX6_isReadingOf 9 = .ok (.ifCond .eq 28, 3) := by decide +kernel
theorem dX6_isReadingOf_12 : decode cX6_isReadingOf 12 = .ok (.iload_n 2, 1) := by decide +kernel
theorem dX6_isReadingOf_13 : decode cX6_isReadingOf 13 = .ok (.iconst 0, 1) := by decide +kernel
theorem dX6_isReadingOf_14 : decode cX6_isReadingOf 14 = .ok (.aload_n 0, 1) := by decide +kernel
theorem dX6_isReadingOf_15 : decode cX6_isReadingOf 15 = .ok (.getfield 10, 3) := by decide +kernel
theorem dX6_isReadingOf_18 : decode cX6_isReadingOf 18 = .ok (.iload_n 1, 1) := by decide +kernel
theorem dX6_isReadingOf_19 : decode cX6_isReadingOf 19 = .ok (.invokevirtual 91, 3) := by decide +kernel
theorem dX6_isReadingOf_22 : decode cX6_isReadingOf 22 = .ok (.getfield 101, 3) := by decide +kernel
theorem dX6_isReadingOf_25 : decode cX6_isReadingOf 25 = .ok (.iconst 1, 1) := by decide +kernel
theorem dX6_isReadingOf_26 : decode cX6_isReadingOf 26 = .ok (.isub, 1) := by decide +kernel
theorem dX6_isReadingOf_27 : decode cX6_isReadingOf 27 = .ok (.invokestatic 105, 3) := by decide +kernel
theorem dX6_isReadingOf_30 : decode cX6_isReadingOf 30 = .ok (.ifCond .eq 7, 3) := by decide +kernel
theorem dX6_isReadingOf_33 : decode cX6_isReadingOf 33 = .ok (.iconst 1, 1) := by decide +kernel
theorem dX6_isReadingOf_34 : decode cX6_isReadingOf 34 = .ok (.goto 4, 3) := by decide +kernel
theorem dX6_isReadingOf_37 : decode cX6_isReadingOf 37 = .ok (.iconst 0, 1) := by decide +kernel
theorem dX6_isReadingOf_38 : decode cX6_isReadingOf 38 = .ok (.ireturn, 1) := by decide +kernel
theorem dX6_at_0 : decode cX6_at 0 = .ok (.iload_n 1, 1) := by decide +kernel
theorem dX6_at_1 : decode cX6_at 1 = .ok (.ifCond .lt 15, 3) := by decide +kernel
theorem dX6_at_4 : decode cX6_at 4 = .ok (.iload_n 1, 1) := by decide +kernel
theorem dX6_at_5 : decode cX6_at 5 = .ok (.aload_n 0, 1) := by decide +kernel
theorem dX6_at_6 : decode cX6_at 6 = .ok (.arraylength, 1) := by decide +kernel
theorem dX6_at_7 : decode cX6_at 7 = .ok (.if_icmp .ge 9, 3) := by decide +kernel
theorem dX6_at_10 : decode cX6_at 10 = .ok (.aload_n 0, 1) := by decide +kernel
theorem dX6_at_11 : decode cX6_at 11 = .ok (.iload_n 1, 1) := by decide +kernel
theorem dX6_at_12 : decode cX6_at 12 = .ok (.iaload, 1) := by decide +kernel
theorem dX6_at_13 : decode cX6_at 13 = .ok (.goto 4, 3) := by decide +kernel
theorem dX6_at_16 : decode cX6_at 16 = .ok (.iconst 0, 1) := by decide +kernel
theorem dX6_at_17 : decode cX6_at 17 = .ok (.ireturn, 1) := by decide +kernel
theorem dX6_put_0 : decode cX6_put 0 = .ok (.iload_n 1, 1) := by decide +kernel
theorem dX6_put_1 : decode cX6_put 1 = .ok (.ifCond .lt 13, 3) := by decide +kernel
theorem dX6_put_4 : decode cX6_put 4 = .ok (.iload_n 1, 1) := by decide +kernel
theorem dX6_put_5 : decode cX6_put 5 = .ok (.aload_n 0, 1) := by decide +kernel
theorem dX6_put_6 : decode cX6_put 6 = .ok (.arraylength, 1) := by decide +kernel
theorem dX6_put_7 : decode cX6_put 7 = .ok (.if_icmp .ge 7, 3) := by decide +kernel
theorem dX6_put_10 : decode cX6_put 10 = .ok (.aload_n 0, 1) := by decide +kernel
theorem dX6_put_11 : decode cX6_put 11 = .ok (.iload_n 1, 1) := by decide +kernel
theorem dX6_put_12 : decode cX6_put 12 = .ok (.iload_n 2, 1) := by decide +kernel
theorem dX6_put_13 : decode cX6_put 13 = .ok (.iastore, 1) := by decide +kernel
theorem dX6_put_14 : decode cX6_put 14 = .ok (.return_, 1) := by decide +kernel
set_option maxRecDepth 20000 in
theorem ggX6_divideDown_J9_floorDiv_f86c9 : GoodIn wsX6_divideDown wsJ9_floorDiv_f86c9 := goodIn_r _ [4] (by decide +kernel) (by decide +kernel)
set_option maxRecDepth 20000 in
theorem gX6_divideDown_J9_floorDiv_f86c9 : GoodIn wsX6_divideDown (va_wsS RX6 236 yJ9_floorDiv_f86c9 wsJ9_floorDiv_f86c9) := goodIn_app (goodIn_of _ (by decide +kernel)) ggX6_divideDown_J9_floorDiv_f86c9
theorem dX6_divideDown_0 : decode cX6_divideDown 0 = .ok (.lload_n 2, 1) := by decide +kernel
theorem dX6_divideDown_1 : decode cX6_divideDown 1 = .ok (.lconst 0, 1) := by decide +kernel
theorem dX6_divideDown_2 : decode cX6_divideDown 2 = .ok (.lcmp, 1) := by decide +kernel
theorem dX6_divideDown_3 : decode cX6_divideDown 3 = .ok (.ifCond .ne 7, 3) := by decide +kernel
theorem dX6_divideDown_6 : decode cX6_divideDown 6 = .ok (.lconst 0, 1) := by decide +kernel
theorem dX6_divideDown_7 : decode cX6_divideDown 7 = .ok (.goto 8, 3) := by decide +kernel
theorem dX6_divideDown_10 : decode cX6_divideDown 10 = .ok (.lload_n 0, 1) := by decide +kernel
theorem dX6_divideDown_11 : decode cX6_divideDown 11 = .ok (.lload_n 2, 1) := by decide +kernel
theorem dX6_divideDown_12 : decode cX6_divideDown 12 = .ok (.invokestatic 236, 3) := by decide +kernel
theorem dX6_divideDown_15 : decode cX6_divideDown 15 = .ok (.lreturn, 1) := by decide +kernel
set_option maxRecDepth 20000 in
theorem ggX6_record_X0_keep : GoodIn wsX6_record wsX0_keep := goodIn_r _ [8, 9, 10, 11, 12, 13, 7, 14, 15, 16, 17, 18, 19, 20, 21, 22, 23, 24, 25, 26, 27, 28, 29, 30, 31, 32, 33, 34, 35, 36, 37, 38, 39, 40, 41, 42, 52, 53, 54, 55, 56, 57, 58, 59, 60, 61, 62, 63, 64] (by decide +kernel) (by decide +kernel)
set_option maxRecDepth 20000 in
theorem gX6_record_X0_keep : GoodIn wsX6_record (wsV RX6 240 RX0 yX0_keep wsX0_keep) := goodIn_app (goodIn_of _ (by decide +kernel)) ggX6_record_X0_keep
theorem dX6_record_0 : decode cX6_record 0 = .ok (.aload_n 0, 1) := by decide +kernel
theorem dX6_record_1 : decode cX6_record 1 = .ok (.getfield 22, 3) := by decide +kernel
theorem dX6_record_4 : decode cX6_record 4 = .ok (.aload_n 0, 1) := by decide +kernel
theorem dX6_record_5 : decode cX6_record 5 = .ok (.getfield 10, 3) := by decide +kernel
theorem dX6_record_8 : decode cX6_record 8 = .ok (.invokevirtual 240, 3) := by decide +kernel
theorem dX6_record_11 : decode cX6_record 11 = .ok (.aload_n 0, 1) := by decide +kernel
theorem dX6_record_12 : decode cX6_record 12 = .ok (.iconst 1, 1) := by decide +kernel
theorem dX6_record_13 : decode cX6_record 13 = .ok (.putfield 53, 3) := by decide +kernel
theorem dX6_record_16 : decode cX6_record 16 = .ok (.return_, 1) := by decide +kernel
set_option maxRecDepth 20000 in
theorem ggX6_take_X2_track : GoodIn wsX6_take wsX2_track := goodIn_r _ [8, 9, 10, 11, 12, 88, 89, 90, 91, 92, 93, 94] (by decide +kernel) (by decide +kernel)
set_option maxRecDepth 20000 in
theorem gX6_take_X2_track : GoodIn wsX6_take (wsV RX6 91 RX2 yX2_track wsX2_track) := goodIn_app (goodIn_of _ (by decide +kernel)) ggX6_take_X2_track
set_option maxRecDepth 20000 in
theorem ggX6_take_X5_hasTime : GoodIn wsX6_take wsX5_hasTime := goodIn_r _ [17, 18, 19, 20, 21, 16, 22, 23, 24, 25, 26, 95, 96, 97] (by decide +kernel) (by decide +kernel)
set_option maxRecDepth 20000 in
theorem gX6_take_X5_hasTime : GoodIn wsX6_take (wsV RX6 243 RX5 yX5_hasTime wsX5_hasTime) := goodIn_app (goodIn_of _ (by decide +kernel)) ggX6_take_X5_hasTime
set_option maxRecDepth 20000 in
theorem ggX6_take_X5_isFull : GoodIn wsX6_take wsX5_isFull := goodIn_r _ [30, 18, 31, 95, 96, 97] (by decide +kernel) (by decide +kernel)
set_option maxRecDepth 20000 in
theorem gX6_take_X5_isFull : GoodIn wsX6_take (wsV RX6 246 RX5 yX5_isFull wsX5_isFull) := goodIn_app (goodIn_of _ (by decide +kernel)) ggX6_take_X5_isFull
set_option maxRecDepth 20000 in
theorem ggX6_take_X6_record : GoodIn wsX6_take wsX6_record := goodIn_r _ [35, 36, 1, 37, 38, 39, 40, 41, 42, 43, 44, 45, 46, 47, 48, 49, 50, 51, 52, 7, 53, 12, 9, 10, 11, 54, 55, 56, 57, 58, 59, 16, 60, 23, 61, 62, 63, 64, 65, 66, 67, 68, 18, 79, 80, 81, 82, 83, 84, 85, 86, 87, 98, 99, 100, 88, 89, 90, 91, 92, 93, 94, 95, 96, 97] (by decide +kernel) (by decide +kernel)
set_option maxRecDepth 20000 in
theorem gX6_take_X6_record : GoodIn wsX6_take (wsV RX6 62 RX6 yX6_record wsX6_record) := goodIn_app (goodIn_of _ (by decide +kernel)) ggX6_take_X6_record
set_option maxRecDepth 20000 in
theorem ggX6_take_X5_insert : GoodIn wsX6_take wsX5_insert := goodIn_r _ [72, 18, 23, 19, 20, 21, 16, 22, 24, 25, 26, 73, 74, 75, 76, 77, 78, 95, 96, 97] (by decide +kernel) (by decide +kernel)
set_option maxRecDepth 20000 in
theorem gX6_take_X5_insert : GoodIn wsX6_take (wsV RX6 250 RX5 yX5_insert wsX5_insert) := goodIn_app (goodIn_of _ (by decide +kernel)) ggX6_take_X5_insert
theorem dX6_take_0 : decode cX6_take 0 = .ok (.aload_n 0, 1) := by decide +kernel
theorem dX6_take_1 : decode cX6_take 1 = .ok (.getfield 10, 3) := by decide +kernel
theorem dX6_take_4 : decode cX6_take 4 = .ok (.iload_n 1, 1) := by decide +kernel
theorem dX6_take_5 : decode cX6_take 5 = .ok (.invokevirtual 91, 3) := by decide +kernel
theorem dX6_take_8 : decode cX6_take 8 = .ok (.astore 6, 2) := by decide +kernel
theorem dX6_take_10 : decode cX6_take 10 = .ok (.aload 6, 2) := by decide +kernel
theorem dX6_take_12 : decode cX6_take 12 = .ok (.iload_n 3, 1) := by decide +kernel
theorem dX6_take_13 : decode cX6_take 13 = .ok (.invokevirtual 243, 3) := by decide +kernel
theorem dX6_take_16 : decode cX6_take 16 = .ok (.ifCond .eq 6, 3) := by decide +kernel
theorem dX6_take_19 : decode cX6_take 19 = .ok (.ldc 146, 2) := by decide +kernel
theorem dX6_take_21 : decode cX6_take 21 = .ok (.ireturn, 1) := by decide +kernel
theorem dX6_take_22 : decode cX6_take 22 = .ok (.aload 6, 2) := by decide +kernel
theorem dX6_take_24 : decode cX6_take 24 = .ok (.invokevirtual 246, 3) := by decide +kernel
theorem dX6_take_27 : decode cX6_take 27 = .ok (.ifCond .eq 6, 3) := by decide +kernel
theorem dX6_take_30 : decode cX6_take 30 = .ok (.ldc 214, 2) := by decide +kernel
theorem dX6_take_32 : decode cX6_take 32 = .ok (.ireturn, 1) := by decide +kernel
theorem dX6_take_33 : decode cX6_take 33 = .ok (.aload_n 0, 1) := by decide +kernel
theorem dX6_take_34 : decode cX6_take 34 = .ok (.invokevirtual 62, 3) := by decide +kernel
theorem dX6_take_37 : decode cX6_take 37 = .ok (.aload 6, 2) := by decide +kernel
theorem dX6_take_39 : decode cX6_take 39 = .ok (.iload_n 2, 1) := by decide +kernel
theorem dX6_take_40 : decode cX6_take 40 = .ok (.iload_n 3, 1) := by decide +kernel
theorem dX6_take_41 : decode cX6_take 41 = .ok (.iload 4, 2) := by decide +kernel
theorem dX6_take_43 : decode cX6_take 43 = .ok (.iload 5, 2) := by decide +kernel
theorem dX6_take_45 : decode cX6_take 45 = .ok (.invokevirtual 250, 3) := by decide +kernel
theorem dX6_take_48 : decode cX6_take 48 = .ok (.ireturn, 1) := by decide +kernel
set_option maxRecDepth 20000 in
theorem ggX6_refresh_X3_workOut : GoodIn wsX6_refresh wsX3_workOut := goodIn_r _ [10, 11, 12, 13, 14, 15, 16, 17, 18, 19, 20, 21, 22, 23, 24, 25, 26, 27, 28, 29, 30, 31, 32, 33, 34, 35, 36, 37, 38, 39, 40, 41, 42, 43, 44, 45, 46, 47, 48, 49, 50, 51, 52, 53, 54, 55, 56, 57, 58, 59, 60, 61, 62, 63, 64, 65, 66, 67, 9, 68, 69, 70, 71, 72, 73, 74, 75, 76, 77, 78, 79, 80, 81, 82, 83, 84, 85, 86, 87, 88, 89, 90, 91, 92, 93, 94, 95, 96, 97, 98, 99, 100, 101, 102, 103, 104, 105, 106, 107, 108, 109, 110, 111, 112, 113, 114, 115, 116, 117, 118, 119, 120, 121, 122, 132, 133, 134, 135, 136, 137, 138, 139, 140, 141, 142, 143, 144, 145, 146, 147, 148, 149, 150, 151, 152, 153] (by decide +kernel) (by decide +kernel)
set_option maxRecDepth 20000 in
theorem gX6_refresh_X3_workOut : GoodIn wsX6_refresh (wsV RX6 257 RX3 yX3_workOut wsX3_workOut) := goodIn_app (goodIn_of _ (by decide +kernel)) ggX6_refresh_X3_workOut
theorem dX6_refresh_0 : decode cX6_refresh 0 = .ok (.aload_n 0, 1) := by decide +kernel
theorem dX6_refresh_1 : decode cX6_refresh 1 = .ok (.getfield 53, 3) := by decide +kernel
theorem dX6_refresh_4 : decode cX6_refresh 4 = .ok (.ifCond .eq 44, 3) := by decide +kernel
theorem dX6_refresh_7 : decode cX6_refresh 7 = .ok (.aload_n 0, 1) := by decide +kernel
theorem dX6_refresh_8 : decode cX6_refresh 8 = .ok (.getfield 29, 3) := by decide +kernel
theorem dX6_refresh_11 : decode cX6_refresh 11 = .ok (.aload_n 0, 1) := by decide +kernel
theorem dX6_refresh_12 : decode cX6_refresh 12 = .ok (.getfield 10, 3) := by decide +kernel
theorem dX6_refresh_15 : decode cX6_refresh 15 = .ok (.iconst 0, 1) := by decide +kernel
theorem dX6_refresh_16 : decode cX6_refresh 16 = .ok (.invokevirtual 257, 3) := by decide +kernel
theorem dX6_refresh_19 : decode cX6_refresh 19 = .ok (.aload_n 0, 1) := by decide +kernel
theorem dX6_refresh_20 : decode cX6_refresh 20 = .ok (.getfield 33, 3) := by decide +kernel
theorem dX6_refresh_23 : decode cX6_refresh 23 = .ok (.aload_n 0, 1) := by decide +kernel
theorem dX6_refresh_24 : decode cX6_refresh 24 = .ok (.getfield 10, 3) := by decide +kernel
theorem dX6_refresh_27 : decode cX6_refresh 27 = .ok (.iconst 1, 1) := by decide +kernel
theorem dX6_refresh_28 : decode cX6_refresh 28 = .ok (.invokevirtual 257, 3) := by decide +kernel
theorem dX6_refresh_31 : decode cX6_refresh 31 = .ok (.aload_n 0, 1) := by decide +kernel
theorem dX6_refresh_32 : decode cX6_refresh 32 = .ok (.getfield 36, 3) := by decide +kernel
theorem dX6_refresh_35 : decode cX6_refresh 35 = .ok (.aload_n 0, 1) := by decide +kernel
theorem dX6_refresh_36 : decode cX6_refresh 36 = .ok (.getfield 10, 3) := by decide +kernel
theorem dX6_refresh_39 : decode cX6_refresh 39 = .ok (.iconst 2, 1) := by decide +kernel
theorem dX6_refresh_40 : decode cX6_refresh 40 = .ok (.invokevirtual 257, 3) := by decide +kernel
theorem dX6_refresh_43 : decode cX6_refresh 43 = .ok (.aload_n 0, 1) := by decide +kernel
theorem dX6_refresh_44 : decode cX6_refresh 44 = .ok (.iconst 0, 1) := by decide +kernel
theorem dX6_refresh_45 : decode cX6_refresh 45 = .ok (.putfield 53, 3) := by decide +kernel
theorem dX6_refresh_48 : decode cX6_refresh 48 = .ok (.return_, 1) := by decide +kernel
theorem dX6_surveyOf_0 : decode cX6_surveyOf 0 = .ok (.iload_n 1, 1) := by decide +kernel
theorem dX6_surveyOf_1 : decode cX6_surveyOf 1 = .ok (.lookupswitch 37 #[(0, 27), (1, 32)], 27) := by decide +kernel
theorem dX6_surveyOf_28 : decode cX6_surveyOf 28 = .ok (.aload_n 0, 1) := by decide +kernel
theorem dX6_surveyOf_29 : decode cX6_surveyOf 29 = .ok (.getfield 29, 3) := by decide +kernel
theorem dX6_surveyOf_32 : decode cX6_surveyOf 32 = .ok (.areturn, 1) := by decide +kernel
theorem dX6_surveyOf_33 : decode cX6_surveyOf 33 = .ok (.aload_n 0, 1) := by decide +kernel
theorem dX6_surveyOf_34 : decode cX6_surveyOf 34 = .ok (.getfield 33, 3) := by decide +kernel
theorem dX6_surveyOf_37 : decode cX6_surveyOf 37 = .ok (.areturn, 1) := by decide +kernel
theorem dX6_surveyOf_38 : decode cX6_surveyOf 38 = .ok (.aload_n 0, 1) := by decide +kernel
theorem dX6_surveyOf_39 : decode cX6_surveyOf 39 = .ok (.getfield 36, 3) := by decide +kernel
theorem dX6_surveyOf_42 : decode cX6_surveyOf 42 = .ok (.areturn, 1) := by decide +kernel
set_option maxRecDepth 20000 in
theorem ggX6_pointsWithHeight_X6_gather : GoodIn wsX6_pointsWithHeight wsX6_gather := goodIn_r _ [6, 1, 7, 8, 9, 10, 11, 12, 13, 14, 15, 16, 5, 17, 18, 19, 20, 21, 22, 23, 24, 25, 26, 27, 28, 29, 30, 31, 32, 33, 34, 35, 36, 37, 38, 39, 40, 41, 42, 43, 44, 45, 46, 47, 48, 49, 50, 51, 52, 53, 54, 55, 56, 57, 58, 59, 60, 61, 62, 63, 64, 65, 66, 67, 68, 69, 70, 71, 72, 73, 74, 75, 76, 77, 78, 79, 80, 81, 82, 83, 84, 85, 86, 87, 88, 89, 90, 91, 92, 93] (by decide +kernel) (by decide +kernel)
set_option maxRecDepth 20000 in
theorem gX6_pointsWithHeight_X6_gather : GoodIn wsX6_pointsWithHeight (wsV RX6 197 RX6 yX6_gather wsX6_gather) := goodIn_app (goodIn_of _ (by decide +kernel)) ggX6_pointsWithHeight_X6_gather
theorem dX6_pointsWithHeight_0 : decode cX6_pointsWithHeight 0 = .ok (.iconst 0, 1) := by decide +kernel
theorem dX6_pointsWithHeight_1 : decode cX6_pointsWithHeight 1 = .ok (.istore_n 1, 1) := by decide +kernel
theorem dX6_pointsWithHeight_2 : decode cX6_pointsWithHeight 2 = .ok (.iconst 0, 1) := by decide +kernel
theorem dX6_pointsWithHeight_3 : decode cX6_pointsWithHeight 3 = .ok (.istore_n 2, 1) := by decide +kernel
theorem dX6_pointsWithHeight_4 : decode cX6_pointsWithHeight 4 = .ok (.iload_n 2, 1) := by decide +kernel
theorem dX6_pointsWithHeight_5 : decode cX6_pointsWithHeight 5 = .ok (.bipush 10, 2) := by decide +kernel
theorem dX6_pointsWithHeight_7 : decode cX6_pointsWithHeight 7 = .ok (.if_icmp .ge 32, 3) := by decide +kernel
theorem dX6_pointsWithHeight_10 : decode cX6_pointsWithHeight 10 = .ok (.aload_n 0, 1) := by decide +kernel
theorem dX6_pointsWithHeight_11 : decode cX6_pointsWithHeight 11 = .ok (.iload_n 2, 1) := by decide +kernel
theorem dX6_pointsWithHeight_12 : decode cX6_pointsWithHeight 12 = .ok (.invokevirtual 197, 3) := by decide +kernel
theorem dX6_pointsWithHeight_15 : decode cX6_pointsWithHeight 15 = .ok (.iload_n 1, 1) := by decide +kernel
theorem dX6_pointsWithHeight_16 : decode cX6_pointsWithHeight 16 = .ok (.aload_n 0, 1) := by decide +kernel
theorem dX6_pointsWithHeight_17 : decode cX6_pointsWithHeight 17 = .ok (.getfield 42, 3) := by decide +kernel
theorem dX6_pointsWithHeight_20 : decode cX6_pointsWithHeight 20 = .ok (.getfield 200, 3) := by decide +kernel
theorem dX6_pointsWithHeight_23 : decode cX6_pointsWithHeight 23 = .ok (.ifCond .le 7, 3) := by decide +kernel
theorem dX6_pointsWithHeight_26 : decode cX6_pointsWithHeight 26 = .ok (.iconst 1, 1) := by decide +kernel
theorem dX6_pointsWithHeight_27 : decode cX6_pointsWithHeight 27 = .ok (.goto 4, 3) := by decide +kernel
theorem dX6_pointsWithHeight_30 : decode cX6_pointsWithHeight 30 = .ok (.iconst 0, 1) := by decide +kernel
theorem dX6_pointsWithHeight_31 : decode cX6_pointsWithHeight 31 = .ok (.iadd, 1) := by decide +kernel
theorem dX6_pointsWithHeight_32 : decode cX6_pointsWithHeight 32 = .ok (.istore_n 1, 1) := by decide +kernel
theorem dX6_pointsWithHeight_33 : decode cX6_pointsWithHeight 33 = .ok (.iinc 2 1, 3) := by decide +kernel
theorem dX6_pointsWithHeight_36 : decode cX6_pointsWithHeight 36 = .ok (.goto (-32), 3) := by decide +kernel
theorem dX6_pointsWithHeight_39 : decode cX6_pointsWithHeight 39 = .ok (.iload_n 1, 1) := by decide +kernel
theorem dX6_pointsWithHeight_40 : decode cX6_pointsWithHeight 40 = .ok (.ireturn, 1) := by decide +kernel
set_option maxRecDepth 20000 in
theorem ggX6_gather_X1_clear : GoodIn wsX6_gather wsX1_clear := goodIn_r _ [6, 7, 8, 74, 75, 76, 77] (by decide +kernel) (by decide +kernel)
set_option maxRecDepth 20000 in
theorem gX6_gather_X1_clear : GoodIn wsX6_gather (wsV RX6 261 RX1 yX1_clear wsX1_clear) := goodIn_app (goodIn_of _ (by decide +kernel)) ggX6_gather_X1_clear
set_option maxRecDepth 20000 in
theorem ggX6_gather_X6_surveyOf : GoodIn wsX6_gather wsX6_surveyOf := goodIn_r _ [13, 14, 15, 16, 65, 66, 67, 68, 69, 70, 71, 72, 73] (by decide +kernel) (by decide +kernel)
set_option maxRecDepth 20000 in
theorem gX6_gather_X6_surveyOf : GoodIn wsX6_gather (wsV RX6 112 RX6 yX6_surveyOf wsX6_surveyOf) := goodIn_app (goodIn_of _ (by decide +kernel)) ggX6_gather_X6_surveyOf
set_option maxRecDepth 20000 in
theorem ggX6_gather_X3_addTo : GoodIn wsX6_gather wsX3_addTo := goodIn_r _ [21, 22, 23, 24, 25, 26, 20, 27, 28, 29, 30, 31, 12, 32, 33, 34, 35, 36, 37, 38, 39, 40, 41, 42, 43, 44, 45, 46, 47, 48, 49, 50, 51, 52, 53, 54, 5, 55, 8, 56, 57, 58, 59, 60, 61, 62, 63, 64, 7, 78, 79, 80, 81, 82, 83, 84, 85, 86, 87, 88, 89, 74, 75, 76, 77] (by decide +kernel) (by decide +kernel)
set_option maxRecDepth 20000 in
theorem gX6_gather_X3_addTo : GoodIn wsX6_gather (wsV RX6 264 RX3 yX3_addTo wsX3_addTo) := goodIn_app (goodIn_of _ (by decide +kernel)) ggX6_gather_X3_addTo
theorem dX6_gather_0 : decode cX6_gather 0 = .ok (.aload_n 0, 1) := by decide +kernel
theorem dX6_gather_1 : decode cX6_gather 1 = .ok (.getfield 42, 3) := by decide +kernel
theorem dX6_gather_4 : decode cX6_gather 4 = .ok (.invokevirtual 261, 3) := by decide +kernel
theorem dX6_gather_7 : decode cX6_gather 7 = .ok (.iconst 0, 1) := by decide +kernel
theorem dX6_gather_8 : decode cX6_gather 8 = .ok (.istore_n 2, 1) := by decide +kernel
theorem dX6_gather_9 : decode cX6_gather 9 = .ok (.iload_n 2, 1) := by decide +kernel
theorem dX6_gather_10 : decode cX6_gather 10 = .ok (.iconst 3, 1) := by decide +kernel
theorem dX6_gather_11 : decode cX6_gather 11 = .ok (.if_icmp .ge 22, 3) := by decide +kernel
theorem dX6_gather_14 : decode cX6_gather 14 = .ok (.aload_n 0, 1) := by decide +kernel
theorem dX6_gather_15 : decode cX6_gather 15 = .ok (.iload_n 2, 1) := by decide +kernel
theorem dX6_gather_16 : decode cX6_gather 16 = .ok (.invokevirtual 112, 3) := by decide +kernel
theorem dX6_gather_19 : decode cX6_gather 19 = .ok (.aload_n 0, 1) := by decide +kernel
theorem dX6_gather_20 : decode cX6_gather 20 = .ok (.getfield 42, 3) := by decide +kernel
theorem dX6_gather_23 : decode cX6_gather 23 = .ok (.iload_n 1, 1) := by decide +kernel
theorem dX6_gather_24 : decode cX6_gather 24 = .ok (.invokevirtual 264, 3) := by decide +kernel
theorem dX6_gather_27 : decode cX6_gather 27 = .ok (.iinc 2 1, 3) := by decide +kernel
theorem dX6_gather_30 : decode cX6_gather 30 = .ok (.goto (-21), 3) := by decide +kernel
theorem dX6_gather_33 : decode cX6_gather 33 = .ok (.return_, 1) := by decide +kernel
