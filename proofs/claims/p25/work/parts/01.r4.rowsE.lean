theorem dL_cell_0 : decode cL_cell 0 = .ok (.iload_n 1, 1) := by decide +kernel
theorem dL_cell_1 : decode cL_cell 1 = .ok (.aload_n 0, 1) := by decide +kernel
theorem dL_cell_2 : decode cL_cell 2 = .ok (.arraylength, 1) := by decide +kernel
theorem dL_cell_3 : decode cL_cell 3 = .ok (.if_icmp .ge 9, 3) := by decide +kernel
theorem dL_cell_6 : decode cL_cell 6 = .ok (.aload_n 0, 1) := by decide +kernel
theorem dL_cell_7 : decode cL_cell 7 = .ok (.iload_n 1, 1) := by decide +kernel
theorem dL_cell_8 : decode cL_cell 8 = .ok (.iaload, 1) := by decide +kernel
theorem dL_cell_9 : decode cL_cell 9 = .ok (.goto 10, 3) := by decide +kernel
theorem dL_cell_12 : decode cL_cell 12 = .ok (.ldc 7, 2) := by decide +kernel
theorem dL_cell_14 : decode cL_cell 14 = .ok (.iload_n 1, 1) := by decide +kernel
theorem dL_cell_15 : decode cL_cell 15 = .ok (.imul, 1) := by decide +kernel
theorem dL_cell_16 : decode cL_cell 16 = .ok (.bipush 109, 2) := by decide +kernel
theorem dL_cell_18 : decode cL_cell 18 = .ok (.iadd, 1) := by decide +kernel
theorem dL_cell_19 : decode cL_cell 19 = .ok (.ldc 8, 2) := by decide +kernel
theorem dL_cell_21 : decode cL_cell 21 = .ok (.iand, 1) := by decide +kernel
theorem dL_cell_22 : decode cL_cell 22 = .ok (.ireturn, 1) := by decide +kernel
set_option maxRecDepth 20000 in
theorem ggL_holds_X6_count : GoodIn wsL_holds wsX6_count := goodIn_r _ [6, 7, 8, 9, 10, 11, 12, 13, 14, 15, 16, 5, 17, 18, 19, 20, 21, 22, 23, 24, 25, 26, 27, 28, 29, 30, 31, 32, 33, 34, 35, 36, 37, 38, 39, 40, 41, 42, 43, 44, 45, 46, 47, 48, 49, 50, 51, 52, 53, 54, 55, 56, 57, 58, 59, 60, 61, 62, 63, 64, 65, 66, 67, 68, 69, 70, 71, 72, 73, 74, 75, 76, 77, 78, 79, 80, 81, 82, 83, 84, 85, 86, 87, 88, 89, 90, 91, 92, 93, 94, 95, 96, 97, 98, 99, 100, 101, 102, 103, 104, 105, 106, 107, 108, 109, 110, 111, 112, 113, 114, 115, 116, 117, 118, 119, 120, 121, 122, 123, 124, 125, 126, 127, 128, 129, 130, 131, 132, 133, 134, 135, 136, 137, 138, 139, 140, 141, 142, 143, 144, 145, 146, 147, 148, 149, 150, 151, 152, 153, 154, 155, 156, 157, 158, 159, 160, 161, 162, 163, 164, 165, 166, 167, 168, 169, 170, 171, 172, 173, 174, 175, 176, 177, 178, 179, 180, 181, 182, 183, 184, 185, 186, 187, 188, 189, 190, 191, 192, 193, 194, 195, 196, 197, 262, 263, 264, 265, 266, 267, 268, 269, 270, 271, 272, 273, 274, 275, 276, 277, 278, 279, 280, 281, 282, 283, 284, 285, 286, 287, 288, 289, 290, 291, 292, 293, 294, 295, 296, 297, 298, 299, 300, 301, 302, 303, 304, 305, 306, 307, 308, 309, 310] (by decide +kernel) (by decide +kernel)
set_option maxRecDepth 20000 in
theorem gL_holds_X6_count : GoodIn wsL_holds (wsV RL 9 RX6 yX6_count wsX6_count) := goodIn_app (goodIn_of _ (by decide +kernel)) ggL_holds_X6_count
set_option maxRecDepth 20000 in
theorem ggL_holds_X6_reading : GoodIn wsL_holds wsX6_reading := goodIn_r _ [201, 13, 202, 7, 203, 204, 205, 5, 206, 207, 208, 209, 210, 211, 212, 135, 32, 33, 34, 35, 36, 37, 38, 39, 14, 15, 16, 17, 18, 8, 9, 10, 19, 20, 21, 22, 23, 24, 25, 26, 27, 28, 29, 30, 31, 40, 41, 42, 43, 44, 45, 46, 47, 48, 49, 50, 51, 52, 53, 54, 55, 56, 57, 58, 59, 60, 61, 62, 63, 64, 65, 66, 67, 68, 69, 70, 71, 72, 73, 74, 75, 76, 77, 78, 79, 80, 81, 82, 83, 84, 85, 86, 87, 88, 89, 90, 91, 92, 93, 94, 95, 96, 97, 98, 99, 100, 101, 102, 103, 104, 105, 106, 107, 108, 109, 110, 111, 112, 113, 114, 115, 116, 117, 118, 119, 120, 121, 122, 123, 124, 125, 126, 127, 128, 129, 130, 131, 132, 133, 134, 165, 166, 167, 168, 213, 214, 215, 262, 263, 264, 265, 266, 267, 268, 269, 270, 271, 272, 273, 300, 301, 302, 303, 304, 305, 306, 274, 275, 276, 277, 278, 279, 280, 281, 282, 283, 284, 285] (by decide +kernel) (by decide +kernel)
set_option maxRecDepth 20000 in
theorem gL_holds_X6_reading : GoodIn wsL_holds (wsV RL 15 RX6 yX6_reading wsX6_reading) := goodIn_app (goodIn_of _ (by decide +kernel)) ggL_holds_X6_reading
set_option maxRecDepth 20000 in
theorem ggL_holds_X6_loops : GoodIn wsL_holds wsX6_loops := goodIn_r _ [219, 13, 207, 208, 5, 209, 210, 211, 212, 14, 15, 16, 17, 18, 8, 7, 9, 10, 19, 20, 21, 22, 23, 24, 25, 26, 27, 28, 29, 30, 31, 32, 33, 34, 35, 36, 37, 38, 39, 40, 41, 42, 43, 44, 45, 46, 47, 48, 49, 50, 51, 52, 53, 54, 55, 56, 57, 58, 59, 60, 61, 62, 63, 64, 65, 66, 67, 68, 69, 70, 71, 72, 73, 74, 75, 76, 77, 78, 79, 80, 81, 82, 83, 84, 85, 86, 87, 88, 89, 90, 91, 92, 93, 94, 95, 96, 97, 98, 99, 100, 101, 102, 103, 104, 105, 106, 107, 108, 109, 110, 111, 112, 113, 114, 115, 116, 117, 118, 119, 120, 121, 122, 123, 124, 125, 126, 127, 128, 129, 130, 131, 132, 133, 134, 165, 166, 167, 168, 274, 275, 276, 277, 278, 279, 280, 281, 282, 283, 284, 285, 262, 263, 264, 265, 266, 267, 268, 269, 270, 271, 272, 273, 300, 301, 302, 303, 304, 305, 306] (by decide +kernel) (by decide +kernel)
set_option maxRecDepth 20000 in
theorem gL_holds_X6_loops : GoodIn wsL_holds (wsV RL 19 RX6 yX6_loops wsX6_loops) := goodIn_app (goodIn_of _ (by decide +kernel)) ggL_holds_X6_loops
set_option maxRecDepth 20000 in
theorem ggL_holds_X6_loop : GoodIn wsL_holds wsX6_loop := goodIn_r _ [223, 13, 207, 208, 5, 209, 210, 211, 212, 14, 15, 16, 17, 18, 8, 7, 9, 10, 19, 20, 21, 22, 23, 24, 25, 26, 27, 28, 29, 30, 31, 32, 33, 34, 35, 36, 37, 38, 39, 40, 41, 42, 43, 44, 45, 46, 47, 48, 49, 50, 51, 52, 53, 54, 55, 56, 57, 58, 59, 60, 61, 62, 63, 64, 65, 66, 67, 68, 69, 70, 71, 72, 73, 74, 75, 76, 77, 78, 79, 80, 81, 82, 83, 84, 85, 86, 87, 88, 89, 90, 91, 92, 93, 94, 95, 96, 97, 98, 99, 100, 101, 102, 103, 104, 105, 106, 107, 108, 109, 110, 111, 112, 113, 114, 115, 116, 117, 118, 119, 120, 121, 122, 123, 124, 125, 126, 127, 128, 129, 130, 131, 132, 133, 134, 165, 166, 167, 168, 224, 225, 226, 227, 228, 229, 230, 231, 274, 275, 276, 277, 278, 279, 280, 281, 282, 283, 284, 285, 262, 263, 264, 265, 266, 267, 268, 269, 270, 271, 272, 273, 300, 301, 302, 303, 304, 305, 306] (by decide +kernel) (by decide +kernel)
set_option maxRecDepth 20000 in
theorem gL_holds_X6_loop : GoodIn wsL_holds (wsV RL 22 RX6 yX6_loop wsX6_loop) := goodIn_app (goodIn_of _ (by decide +kernel)) ggL_holds_X6_loop
set_option maxRecDepth 20000 in
theorem ggL_holds_X6_openLoop : GoodIn wsL_holds wsX6_openLoop := goodIn_r _ [235, 13, 202, 207, 208, 5, 209, 210, 211, 212, 203, 204, 205, 206, 7, 135, 32, 33, 34, 35, 36, 37, 38, 39, 14, 15, 16, 17, 18, 8, 9, 10, 19, 20, 21, 22, 23, 24, 25, 26, 27, 28, 29, 30, 31, 40, 41, 42, 43, 44, 45, 46, 47, 48, 49, 50, 51, 52, 53, 54, 55, 56, 57, 58, 59, 60, 61, 62, 63, 64, 65, 66, 67, 68, 69, 70, 71, 72, 73, 74, 75, 76, 77, 78, 79, 80, 81, 82, 83, 84, 85, 86, 87, 88, 89, 90, 91, 92, 93, 94, 95, 96, 97, 98, 99, 100, 101, 102, 103, 104, 105, 106, 107, 108, 109, 110, 111, 112, 113, 114, 115, 116, 117, 118, 119, 120, 121, 122, 123, 124, 125, 126, 127, 128, 129, 130, 131, 132, 133, 134, 165, 166, 167, 168, 236, 262, 263, 264, 265, 266, 267, 268, 269, 270, 271, 272, 273, 300, 301, 302, 303, 304, 305, 306, 274, 275, 276, 277, 278, 279, 280, 281, 282, 283, 284, 285] (by decide +kernel) (by decide +kernel)
set_option maxRecDepth 20000 in
theorem gL_holds_X6_openLoop : GoodIn wsL_holds (wsV RL 25 RX6 yX6_openLoop wsX6_openLoop) := goodIn_app (goodIn_of _ (by decide +kernel)) ggL_holds_X6_openLoop
set_option maxRecDepth 20000 in
theorem ggL_holds_X6_corrected : GoodIn wsL_holds wsX6_corrected := goodIn_r _ [240, 13, 207, 208, 5, 209, 210, 211, 212, 203, 204, 205, 206, 7, 135, 32, 33, 34, 35, 36, 37, 38, 39, 14, 15, 16, 17, 18, 8, 9, 10, 19, 20, 21, 22, 23, 24, 25, 26, 27, 28, 29, 30, 31, 40, 41, 42, 43, 44, 45, 46, 47, 48, 49, 50, 51, 52, 53, 54, 55, 56, 57, 58, 59, 60, 61, 62, 63, 64, 65, 66, 67, 68, 69, 70, 71, 72, 73, 74, 75, 76, 77, 78, 79, 80, 81, 82, 83, 84, 85, 86, 87, 88, 89, 90, 91, 92, 93, 94, 95, 96, 97, 98, 99, 100, 101, 102, 103, 104, 105, 106, 107, 108, 109, 110, 111, 112, 113, 114, 115, 116, 117, 118, 119, 120, 121, 122, 123, 124, 125, 126, 127, 128, 129, 130, 131, 132, 133, 134, 165, 166, 167, 168, 241, 178, 179, 180, 262, 263, 264, 265, 266, 267, 268, 269, 270, 271, 272, 273, 300, 301, 302, 303, 304, 305, 306, 274, 275, 276, 277, 278, 279, 280, 281, 282, 283, 284, 285] (by decide +kernel) (by decide +kernel)
set_option maxRecDepth 20000 in
theorem gL_holds_X6_corrected : GoodIn wsL_holds (wsV RL 29 RX6 yX6_corrected wsX6_corrected) := goodIn_app (goodIn_of _ (by decide +kernel)) ggL_holds_X6_corrected
set_option maxRecDepth 20000 in
theorem ggL_holds_X6_raw : GoodIn wsL_holds wsX6_raw := goodIn_r _ [245, 13, 207, 208, 5, 209, 210, 211, 212, 203, 204, 205, 206, 7, 135, 32, 33, 34, 35, 36, 37, 38, 39, 14, 15, 16, 17, 18, 8, 9, 10, 19, 20, 21, 22, 23, 24, 25, 26, 27, 28, 29, 30, 31, 40, 41, 42, 43, 44, 45, 46, 47, 48, 49, 50, 51, 52, 53, 54, 55, 56, 57, 58, 59, 60, 61, 62, 63, 64, 65, 66, 67, 68, 69, 70, 71, 72, 73, 74, 75, 76, 77, 78, 79, 80, 81, 82, 83, 84, 85, 86, 87, 88, 89, 90, 91, 92, 93, 94, 95, 96, 97, 98, 99, 100, 101, 102, 103, 104, 105, 106, 107, 108, 109, 110, 111, 112, 113, 114, 115, 116, 117, 118, 119, 120, 121, 122, 123, 124, 125, 126, 127, 128, 129, 130, 131, 132, 133, 134, 165, 166, 167, 168, 246, 262, 263, 264, 265, 266, 267, 268, 269, 270, 271, 272, 273, 300, 301, 302, 303, 304, 305, 306, 274, 275, 276, 277, 278, 279, 280, 281, 282, 283, 284, 285] (by decide +kernel) (by decide +kernel)
set_option maxRecDepth 20000 in
theorem gL_holds_X6_raw : GoodIn wsL_holds (wsV RL 32 RX6 yX6_raw wsX6_raw) := goodIn_app (goodIn_of _ (by decide +kernel)) ggL_holds_X6_raw
set_option maxRecDepth 20000 in
theorem ggL_holds_X6_point : GoodIn wsL_holds wsX6_point := goodIn_r _ [250, 13, 153, 202, 251, 252, 5, 253, 210, 211, 212, 14, 15, 16, 17, 18, 8, 7, 9, 10, 19, 20, 21, 22, 23, 24, 25, 26, 27, 28, 29, 30, 31, 32, 33, 34, 35, 36, 37, 38, 39, 40, 41, 42, 43, 44, 45, 46, 47, 48, 49, 50, 51, 52, 53, 54, 55, 56, 57, 58, 59, 60, 61, 62, 63, 64, 65, 66, 67, 68, 69, 70, 71, 72, 73, 74, 75, 76, 77, 78, 79, 80, 81, 82, 83, 84, 85, 86, 87, 88, 89, 90, 91, 92, 93, 94, 95, 96, 97, 98, 99, 100, 101, 102, 103, 104, 105, 106, 107, 108, 109, 110, 111, 112, 113, 114, 115, 116, 117, 118, 119, 120, 121, 122, 123, 124, 125, 126, 127, 128, 129, 130, 131, 132, 133, 134, 154, 155, 156, 157, 158, 159, 160, 161, 162, 163, 164, 165, 166, 167, 168, 169, 170, 171, 172, 173, 174, 175, 176, 177, 178, 179, 180, 181, 182, 183, 184, 185, 186, 187, 146, 188, 189, 190, 191, 192, 254, 255, 256, 257, 258, 259, 260, 261, 262, 263, 264, 265, 266, 267, 268, 269, 270, 307, 308, 309, 310, 271, 272, 273, 274, 275, 276, 277, 278, 279, 280, 281, 282, 283, 284, 285, 300, 301, 302, 303, 304, 305, 306] (by decide +kernel) (by decide +kernel)
set_option maxRecDepth 20000 in
theorem gL_holds_X6_point : GoodIn wsL_holds (wsV RL 36 RX6 yX6_point wsX6_point) := goodIn_app (goodIn_of _ (by decide +kernel)) ggL_holds_X6_point
theorem dL_holds_0 : decode cL_holds 0 = .ok (.aload_n 0, 1) := by decide +kernel
theorem dL_holds_1 : decode cL_holds 1 = .ok (.iconst 0, 1) := by decide +kernel
theorem dL_holds_2 : decode cL_holds 2 = .ok (.invokevirtual 9, 3) := by decide +kernel
theorem dL_holds_5 : decode cL_holds 5 = .ok (.bipush 12, 2) := by decide +kernel
theorem dL_holds_7 : decode cL_holds 7 = .ok (.if_icmp .gt 7, 3) := by decide +kernel
theorem dL_holds_10 : decode cL_holds 10 = .ok (.iconst 1, 1) := by decide +kernel
theorem dL_holds_11 : decode cL_holds 11 = .ok (.goto 4, 3) := by decide +kernel
theorem dL_holds_14 : decode cL_holds 14 = .ok (.iconst 0, 1) := by decide +kernel
theorem dL_holds_15 : decode cL_holds 15 = .ok (.istore_n 1, 1) := by decide +kernel
theorem dL_holds_16 : decode cL_holds 16 = .ok (.iconst (-1), 1) := by decide +kernel
theorem dL_holds_17 : decode cL_holds 17 = .ok (.istore_n 2, 1) := by decide +kernel
theorem dL_holds_18 : decode cL_holds 18 = .ok (.iload_n 2, 1) := by decide +kernel
theorem dL_holds_19 : decode cL_holds 19 = .ok (.iconst 3, 1) := by decide +kernel
theorem dL_holds_20 : decode cL_holds 20 = .ok (.if_icmp .ge 61, 3) := by decide +kernel
theorem dL_holds_23 : decode cL_holds 23 = .ok (.iload_n 1, 1) := by decide +kernel
theorem dL_holds_24 : decode cL_holds 24 = .ok (.ifCond .eq 57, 3) := by decide +kernel
theorem dL_holds_27 : decode cL_holds 27 = .ok (.iconst 1, 1) := by decide +kernel
theorem dL_holds_28 : decode cL_holds 28 = .ok (.istore_n 3, 1) := by decide +kernel
theorem dL_holds_29 : decode cL_holds 29 = .ok (.iload_n 3, 1) := by decide +kernel
theorem dL_holds_30 : decode cL_holds 30 = .ok (.aload_n 0, 1) := by decide +kernel
theorem dL_holds_31 : decode cL_holds 31 = .ok (.iconst 1, 1) := by decide +kernel
theorem dL_holds_32 : decode cL_holds 32 = .ok (.iload_n 2, 1) := by decide +kernel
theorem dL_holds_33 : decode cL_holds 33 = .ok (.iadd, 1) := by decide +kernel
theorem dL_holds_34 : decode cL_holds 34 = .ok (.invokevirtual 9, 3) := by decide +kernel
theorem dL_holds_37 : decode cL_holds 37 = .ok (.if_icmp .ge 38, 3) := by decide +kernel
theorem dL_holds_40 : decode cL_holds 40 = .ok (.iload_n 1, 1) := by decide +kernel
theorem dL_holds_41 : decode cL_holds 41 = .ok (.ifCond .eq 26, 3) := by decide +kernel
theorem dL_holds_44 : decode cL_holds 44 = .ok (.aload_n 0, 1) := by decide +kernel
theorem dL_holds_45 : decode cL_holds 45 = .ok (.iload_n 2, 1) := by decide +kernel
theorem dL_holds_46 : decode cL_holds 46 = .ok (.iload_n 3, 1) := by decide +kernel
theorem dL_holds_47 : decode cL_holds 47 = .ok (.iconst 0, 1) := by decide +kernel
theorem dL_holds_48 : decode cL_holds 48 = .ok (.invokevirtual 15, 3) := by decide +kernel
theorem dL_holds_51 : decode cL_holds 51 = .ok (.aload_n 0, 1) := by decide +kernel
theorem dL_holds_52 : decode cL_holds 52 = .ok (.iload_n 2, 1) := by decide +kernel
theorem dL_holds_53 : decode cL_holds 53 = .ok (.iload_n 3, 1) := by decide +kernel
theorem dL_holds_54 : decode cL_holds 54 = .ok (.iconst 1, 1) := by decide +kernel
theorem dL_holds_55 : decode cL_holds 55 = .ok (.isub, 1) := by decide +kernel
theorem dL_holds_56 : decode cL_holds 56 = .ok (.iconst 0, 1) := by decide +kernel
theorem dL_holds_57 : decode cL_holds 57 = .ok (.invokevirtual 15, 3) := by decide +kernel
theorem dL_holds_60 : decode cL_holds 60 = .ok (.if_icmp .le 7, 3) := by decide +kernel
theorem dL_holds_63 : decode cL_holds 63 = .ok (.iconst 1, 1) := by decide +kernel
theorem dL_holds_64 : decode cL_holds 64 = .ok (.goto 4, 3) := by decide +kernel
theorem dL_holds_67 : decode cL_holds 67 = .ok (.iconst 0, 1) := by decide +kernel
theorem dL_holds_68 : decode cL_holds 68 = .ok (.istore_n 1, 1) := by decide +kernel
theorem dL_holds_69 : decode cL_holds 69 = .ok (.iinc 3 1, 3) := by decide +kernel
theorem dL_holds_72 : decode cL_holds 72 = .ok (.goto (-43), 3) := by decide +kernel
theorem dL_holds_75 : decode cL_holds 75 = .ok (.iinc 2 1, 3) := by decide +kernel
theorem dL_holds_78 : decode cL_holds 78 = .ok (.goto (-60), 3) := by decide +kernel
theorem dL_holds_81 : decode cL_holds 81 = .ok (.iconst 0, 1) := by decide +kernel
theorem dL_holds_82 : decode cL_holds 82 = .ok (.istore_n 2, 1) := by decide +kernel
theorem dL_holds_83 : decode cL_holds 83 = .ok (.iload_n 2, 1) := by decide +kernel
theorem dL_holds_84 : decode cL_holds 84 = .ok (.iconst 3, 1) := by decide +kernel
theorem dL_holds_85 : decode cL_holds 85 = .ok (.if_icmp .ge 306, 3) := by decide +kernel
theorem dL_holds_88 : decode cL_holds 88 = .ok (.iload_n 1, 1) := by decide +kernel
theorem dL_holds_89 : decode cL_holds 89 = .ok (.ifCond .eq 302, 3) := by decide +kernel
theorem dL_holds_92 : decode cL_holds 92 = .ok (.iconst 0, 1) := by decide +kernel
theorem dL_holds_93 : decode cL_holds 93 = .ok (.istore_n 3, 1) := by decide +kernel
theorem dL_holds_94 : decode cL_holds 94 = .ok (.iload_n 3, 1) := by decide +kernel
theorem dL_holds_95 : decode cL_holds 95 = .ok (.aload_n 0, 1) := by decide +kernel
theorem dL_holds_96 : decode cL_holds 96 = .ok (.iload_n 2, 1) := by decide +kernel
theorem dL_holds_97 : decode cL_holds 97 = .ok (.invokevirtual 19, 3) := by decide +kernel
theorem dL_holds_100 : decode cL_holds 100 = .ok (.if_icmp .ge 174, 3) := by decide +kernel
theorem dL_holds_103 : decode cL_holds 103 = .ok (.iload_n 1, 1) := by decide +kernel
theorem dL_holds_104 : decode cL_holds 104 = .ok (.ifCond .eq 170, 3) := by decide +kernel
theorem dL_holds_107 : decode cL_holds 107 = .ok (.aload_n 0, 1) := by decide +kernel
theorem dL_holds_108 : decode cL_holds 108 = .ok (.iload_n 2, 1) := by decide +kernel
theorem dL_holds_109 : decode cL_holds 109 = .ok (.iload_n 3, 1) := by decide +kernel
theorem dL_holds_110 : decode cL_holds 110 = .ok (.iconst 0, 1) := by decide +kernel
theorem dL_holds_111 : decode cL_holds 111 = .ok (.invokevirtual 22, 3) := by decide +kernel
theorem dL_holds_114 : decode cL_holds 114 = .ok (.istore 4, 2) := by decide +kernel
theorem dL_holds_116 : decode cL_holds 116 = .ok (.aload_n 0, 1) := by decide +kernel
theorem dL_holds_117 : decode cL_holds 117 = .ok (.iload_n 2, 1) := by decide +kernel
theorem dL_holds_118 : decode cL_holds 118 = .ok (.iload_n 3, 1) := by decide +kernel
theorem dL_holds_119 : decode cL_holds 119 = .ok (.iconst 1, 1) := by decide +kernel
theorem dL_holds_120 : decode cL_holds 120 = .ok (.invokevirtual 22, 3) := by decide +kernel
theorem dL_holds_123 : decode cL_holds 123 = .ok (.istore 5, 2) := by decide +kernel
theorem dL_holds_125 : decode cL_holds 125 = .ok (.iload 4, 2) := by decide +kernel
theorem dL_holds_127 : decode cL_holds 127 = .ok (.iload 5, 2) := by decide +kernel
theorem dL_holds_129 : decode cL_holds 129 = .ok (.if_icmp .ge 71, 3) := by decide +kernel
theorem dL_holds_132 : decode cL_holds 132 = .ok (.aload_n 0, 1) := by decide +kernel
theorem dL_holds_133 : decode cL_holds 133 = .ok (.iload_n 2, 1) := by decide +kernel
theorem dL_holds_134 : decode cL_holds 134 = .ok (.iload 4, 2) := by decide +kernel
theorem dL_holds_136 : decode cL_holds 136 = .ok (.iconst 3, 1) := by decide +kernel
theorem dL_holds_137 : decode cL_holds 137 = .ok (.invokevirtual 15, 3) := by decide +kernel
theorem dL_holds_140 : decode cL_holds 140 = .ok (.aload_n 0, 1) := by decide +kernel
theorem dL_holds_141 : decode cL_holds 141 = .ok (.iload_n 2, 1) := by decide +kernel
theorem dL_holds_142 : decode cL_holds 142 = .ok (.iload 5, 2) := by decide +kernel
theorem dL_holds_144 : decode cL_holds 144 = .ok (.iconst 3, 1) := by decide +kernel
theorem dL_holds_145 : decode cL_holds 145 = .ok (.invokevirtual 15, 3) := by decide +kernel
theorem dL_holds_148 : decode cL_holds 148 = .ok (.if_icmp .ne 52, 3) := by decide +kernel
theorem dL_holds_151 : decode cL_holds 151 = .ok (.aload_n 0, 1) := by decide +kernel
theorem dL_holds_152 : decode cL_holds 152 = .ok (.iload_n 2, 1) := by decide +kernel
theorem dL_holds_153 : decode cL_holds 153 = .ok (.iload_n 3, 1) := by decide +kernel
theorem dL_holds_154 : decode cL_holds 154 = .ok (.iconst 2, 1) := by decide +kernel
theorem dL_holds_155 : decode cL_holds 155 = .ok (.invokevirtual 22, 3) := by decide +kernel
theorem dL_holds_158 : decode cL_holds 158 = .ok (.aload_n 0, 1) := by decide +kernel
theorem dL_holds_159 : decode cL_holds 159 = .ok (.iload_n 2, 1) := by decide +kernel
theorem dL_holds_160 : decode cL_holds 160 = .ok (.iload_n 3, 1) := by decide +kernel
theorem dL_holds_161 : decode cL_holds 161 = .ok (.iconst 3, 1) := by decide +kernel
theorem dL_holds_162 : decode cL_holds 162 = .ok (.invokevirtual 22, 3) := by decide +kernel
theorem dL_holds_165 : decode cL_holds 165 = .ok (.if_icmp .ne 35, 3) := by decide +kernel
theorem dL_holds_168 : decode cL_holds 168 = .ok (.aload_n 0, 1) := by decide +kernel
theorem dL_holds_169 : decode cL_holds 169 = .ok (.iload_n 2, 1) := by decide +kernel
theorem dL_holds_170 : decode cL_holds 170 = .ok (.iload_n 3, 1) := by decide +kernel
theorem dL_holds_171 : decode cL_holds 171 = .ok (.iconst 4, 1) := by decide +kernel
theorem dL_holds_172 : decode cL_holds 172 = .ok (.invokevirtual 22, 3) := by decide +kernel
theorem dL_holds_175 : decode cL_holds 175 = .ok (.ifCond .le 25, 3) := by decide +kernel
theorem dL_holds_178 : decode cL_holds 178 = .ok (.iload_n 3, 1) := by decide +kernel
theorem dL_holds_179 : decode cL_holds 179 = .ok (.ifCond .eq 17, 3) := by decide +kernel
theorem dL_holds_182 : decode cL_holds 182 = .ok (.iload 5, 2) := by decide +kernel
theorem dL_holds_184 : decode cL_holds 184 = .ok (.aload_n 0, 1) := by decide +kernel
theorem dL_holds_185 : decode cL_holds 185 = .ok (.iload_n 2, 1) := by decide +kernel
theorem dL_holds_186 : decode cL_holds 186 = .ok (.iload_n 3, 1) := by decide +kernel
theorem dL_holds_187 : decode cL_holds 187 = .ok (.iconst 1, 1) := by decide +kernel
theorem dL_holds_188 : decode cL_holds 188 = .ok (.isub, 1) := by decide +kernel
theorem dL_holds_189 : decode cL_holds 189 = .ok (.iconst 1, 1) := by decide +kernel
theorem dL_holds_190 : decode cL_holds 190 = .ok (.invokevirtual 22, 3) := by decide +kernel
theorem dL_holds_193 : decode cL_holds 193 = .ok (.if_icmp .le 7, 3) := by decide +kernel
theorem dL_holds_196 : decode cL_holds 196 = .ok (.iconst 1, 1) := by decide +kernel
theorem dL_holds_197 : decode cL_holds 197 = .ok (.goto 4, 3) := by decide +kernel
theorem dL_holds_200 : decode cL_holds 200 = .ok (.iconst 0, 1) := by decide +kernel
theorem dL_holds_201 : decode cL_holds 201 = .ok (.istore_n 1, 1) := by decide +kernel
theorem dL_holds_202 : decode cL_holds 202 = .ok (.iload_n 1, 1) := by decide +kernel
theorem dL_holds_203 : decode cL_holds 203 = .ok (.ifCond .eq 63, 3) := by decide +kernel
theorem dL_holds_206 : decode cL_holds 206 = .ok (.aload_n 0, 1) := by decide +kernel
theorem dL_holds_207 : decode cL_holds 207 = .ok (.iload_n 2, 1) := by decide +kernel
theorem dL_holds_208 : decode cL_holds 208 = .ok (.iload 4, 2) := by decide +kernel
theorem dL_holds_210 : decode cL_holds 210 = .ok (.invokevirtual 25, 3) := by decide +kernel
theorem dL_holds_213 : decode cL_holds 213 = .ok (.iload_n 3, 1) := by decide +kernel
theorem dL_holds_214 : decode cL_holds 214 = .ok (.if_icmp .ne 48, 3) := by decide +kernel
theorem dL_holds_217 : decode cL_holds 217 = .ok (.aload_n 0, 1) := by decide +kernel
theorem dL_holds_218 : decode cL_holds 218 = .ok (.iload_n 2, 1) := by decide +kernel
theorem dL_holds_219 : decode cL_holds 219 = .ok (.iload 5, 2) := by decide +kernel
theorem dL_holds_221 : decode cL_holds 221 = .ok (.invokevirtual 25, 3) := by decide +kernel
theorem dL_holds_224 : decode cL_holds 224 = .ok (.iload_n 3, 1) := by decide +kernel
theorem dL_holds_225 : decode cL_holds 225 = .ok (.if_icmp .ne 37, 3) := by decide +kernel
theorem dL_holds_228 : decode cL_holds 228 = .ok (.aload_n 0, 1) := by decide +kernel
theorem dL_holds_229 : decode cL_holds 229 = .ok (.iload_n 2, 1) := by decide +kernel
theorem dL_holds_230 : decode cL_holds 230 = .ok (.iload 4, 2) := by decide +kernel
theorem dL_holds_232 : decode cL_holds 232 = .ok (.invokevirtual 29, 3) := by decide +kernel
theorem dL_holds_235 : decode cL_holds 235 = .ok (.aload_n 0, 1) := by decide +kernel
theorem dL_holds_236 : decode cL_holds 236 = .ok (.iload_n 2, 1) := by decide +kernel
theorem dL_holds_237 : decode cL_holds 237 = .ok (.iload 5, 2) := by decide +kernel
theorem dL_holds_239 : decode cL_holds 239 = .ok (.invokevirtual 29, 3) := by decide +kernel
theorem dL_holds_242 : decode cL_holds 242 = .ok (.if_icmp .ne 24, 3) := by decide +kernel
theorem dL_holds_245 : decode cL_holds 245 = .ok (.aload_n 0, 1) := by decide +kernel
theorem dL_holds_246 : decode cL_holds 246 = .ok (.iload_n 2, 1) := by decide +kernel
theorem dL_holds_247 : decode cL_holds 247 = .ok (.iload 4, 2) := by decide +kernel
theorem dL_holds_249 : decode cL_holds 249 = .ok (.invokevirtual 29, 3) := by decide +kernel
theorem dL_holds_252 : decode cL_holds 252 = .ok (.aload_n 0, 1) := by decide +kernel
theorem dL_holds_253 : decode cL_holds 253 = .ok (.iload_n 2, 1) := by decide +kernel
theorem dL_holds_254 : decode cL_holds 254 = .ok (.iload 4, 2) := by decide +kernel
theorem dL_holds_256 : decode cL_holds 256 = .ok (.invokevirtual 32, 3) := by decide +kernel
theorem dL_holds_259 : decode cL_holds 259 = .ok (.if_icmp .ne 7, 3) := by decide +kernel
theorem dL_holds_262 : decode cL_holds 262 = .ok (.iconst 1, 1) := by decide +kernel
theorem dL_holds_263 : decode cL_holds 263 = .ok (.goto 4, 3) := by decide +kernel
theorem dL_holds_266 : decode cL_holds 266 = .ok (.iconst 0, 1) := by decide +kernel
theorem dL_holds_267 : decode cL_holds 267 = .ok (.istore_n 1, 1) := by decide +kernel
theorem dL_holds_268 : decode cL_holds 268 = .ok (.iinc 3 1, 3) := by decide +kernel
theorem dL_holds_271 : decode cL_holds 271 = .ok (.goto (-177), 3) := by decide +kernel
theorem dL_holds_274 : decode cL_holds 274 = .ok (.iconst 0, 1) := by decide +kernel
theorem dL_holds_275 : decode cL_holds 275 = .ok (.istore_n 3, 1) := by decide +kernel
theorem dL_holds_276 : decode cL_holds 276 = .ok (.iload_n 3, 1) := by decide +kernel
theorem dL_holds_277 : decode cL_holds 277 = .ok (.aload_n 0, 1) := by decide +kernel
theorem dL_holds_278 : decode cL_holds 278 = .ok (.iconst 1, 1) := by decide +kernel
theorem dL_holds_279 : decode cL_holds 279 = .ok (.iload_n 2, 1) := by decide +kernel
theorem dL_holds_280 : decode cL_holds 280 = .ok (.iadd, 1) := by decide +kernel
theorem dL_holds_281 : decode cL_holds 281 = .ok (.invokevirtual 9, 3) := by decide +kernel
theorem dL_holds_284 : decode cL_holds 284 = .ok (.if_icmp .ge 101, 3) := by decide +kernel
theorem dL_holds_287 : decode cL_holds 287 = .ok (.iload_n 1, 1) := by decide +kernel
theorem dL_holds_288 : decode cL_holds 288 = .ok (.ifCond .eq 97, 3) := by decide +kernel
theorem dL_holds_291 : decode cL_holds 291 = .ok (.aload_n 0, 1) := by decide +kernel
theorem dL_holds_292 : decode cL_holds 292 = .ok (.iload_n 2, 1) := by decide +kernel
theorem dL_holds_293 : decode cL_holds 293 = .ok (.iload_n 3, 1) := by decide +kernel
theorem dL_holds_294 : decode cL_holds 294 = .ok (.invokevirtual 25, 3) := by decide +kernel
theorem dL_holds_297 : decode cL_holds 297 = .ok (.istore 4, 2) := by decide +kernel
theorem dL_holds_299 : decode cL_holds 299 = .ok (.aload_n 0, 1) := by decide +kernel
theorem dL_holds_300 : decode cL_holds 300 = .ok (.iload_n 2, 1) := by decide +kernel
theorem dL_holds_301 : decode cL_holds 301 = .ok (.iload_n 3, 1) := by decide +kernel
theorem dL_holds_302 : decode cL_holds 302 = .ok (.iconst 5, 1) := by decide +kernel
theorem dL_holds_303 : decode cL_holds 303 = .ok (.invokevirtual 15, 3) := by decide +kernel
theorem dL_holds_306 : decode cL_holds 306 = .ok (.iconst 1, 1) := by decide +kernel
theorem dL_holds_307 : decode cL_holds 307 = .ok (.if_icmp .ne 7, 3) := by decide +kernel
theorem dL_holds_310 : decode cL_holds 310 = .ok (.iconst 1, 1) := by decide +kernel
theorem dL_holds_311 : decode cL_holds 311 = .ok (.goto 4, 3) := by decide +kernel
theorem dL_holds_314 : decode cL_holds 314 = .ok (.iconst 0, 1) := by decide +kernel
theorem dL_holds_315 : decode cL_holds 315 = .ok (.aload_n 0, 1) := by decide +kernel
theorem dL_holds_316 : decode cL_holds 316 = .ok (.iload_n 2, 1) := by decide +kernel
theorem dL_holds_317 : decode cL_holds 317 = .ok (.iload_n 3, 1) := by decide +kernel
theorem dL_holds_318 : decode cL_holds 318 = .ok (.iconst 4, 1) := by decide +kernel
theorem dL_holds_319 : decode cL_holds 319 = .ok (.invokevirtual 15, 3) := by decide +kernel
theorem dL_holds_322 : decode cL_holds 322 = .ok (.ifCond .ne 18, 3) := by decide +kernel
theorem dL_holds_325 : decode cL_holds 325 = .ok (.aload_n 0, 1) := by decide +kernel
theorem dL_holds_326 : decode cL_holds 326 = .ok (.iload_n 2, 1) := by decide +kernel
theorem dL_holds_327 : decode cL_holds 327 = .ok (.iload_n 3, 1) := by decide +kernel
theorem dL_holds_328 : decode cL_holds 328 = .ok (.invokevirtual 32, 3) := by decide +kernel
theorem dL_holds_331 : decode cL_holds 331 = .ok (.ldc 35, 2) := by decide +kernel
theorem dL_holds_333 : decode cL_holds 333 = .ok (.if_icmp .eq 7, 3) := by decide +kernel
theorem dL_holds_336 : decode cL_holds 336 = .ok (.iconst 1, 1) := by decide +kernel
theorem dL_holds_337 : decode cL_holds 337 = .ok (.goto 4, 3) := by decide +kernel
theorem dL_holds_340 : decode cL_holds 340 = .ok (.iconst 0, 1) := by decide +kernel
theorem dL_holds_341 : decode cL_holds 341 = .ok (.if_icmp .ne 36, 3) := by decide +kernel
theorem dL_holds_344 : decode cL_holds 344 = .ok (.iload 4, 2) := by decide +kernel
theorem dL_holds_346 : decode cL_holds 346 = .ok (.ifCond .lt 27, 3) := by decide +kernel
theorem dL_holds_349 : decode cL_holds 349 = .ok (.aload_n 0, 1) := by decide +kernel
theorem dL_holds_350 : decode cL_holds 350 = .ok (.iload_n 2, 1) := by decide +kernel
theorem dL_holds_351 : decode cL_holds 351 = .ok (.iload 4, 2) := by decide +kernel
theorem dL_holds_353 : decode cL_holds 353 = .ok (.iconst 0, 1) := by decide +kernel
theorem dL_holds_354 : decode cL_holds 354 = .ok (.invokevirtual 22, 3) := by decide +kernel
theorem dL_holds_357 : decode cL_holds 357 = .ok (.iload_n 3, 1) := by decide +kernel
theorem dL_holds_358 : decode cL_holds 358 = .ok (.if_icmp .gt 19, 3) := by decide +kernel
theorem dL_holds_361 : decode cL_holds 361 = .ok (.iload_n 3, 1) := by decide +kernel
theorem dL_holds_362 : decode cL_holds 362 = .ok (.aload_n 0, 1) := by decide +kernel
theorem dL_holds_363 : decode cL_holds 363 = .ok (.iload_n 2, 1) := by decide +kernel
theorem dL_holds_364 : decode cL_holds 364 = .ok (.iload 4, 2) := by decide +kernel
theorem dL_holds_366 : decode cL_holds 366 = .ok (.iconst 1, 1) := by decide +kernel
theorem dL_holds_367 : decode cL_holds 367 = .ok (.invokevirtual 22, 3) := by decide +kernel
theorem dL_holds_370 : decode cL_holds 370 = .ok (.if_icmp .gt 7, 3) := by decide +kernel
theorem dL_holds_373 : decode cL_holds 373 = .ok (.iconst 1, 1) := by decide +kernel
theorem dL_holds_374 : decode cL_holds 374 = .ok (.goto 4, 3) := by decide +kernel
theorem dL_holds_377 : decode cL_holds 377 = .ok (.iconst 0, 1) := by decide +kernel
theorem dL_holds_378 : decode cL_holds 378 = .ok (.istore_n 1, 1) := by decide +kernel
theorem dL_holds_379 : decode cL_holds 379 = .ok (.iinc 3 1, 3) := by decide +kernel
theorem dL_holds_382 : decode cL_holds 382 = .ok (.goto (-106), 3) := by decide +kernel
theorem dL_holds_385 : decode cL_holds 385 = .ok (.iinc 2 1, 3) := by decide +kernel
theorem dL_holds_388 : decode cL_holds 388 = .ok (.goto (-305), 3) := by decide +kernel
theorem dL_holds_391 : decode cL_holds 391 = .ok (.iconst 0, 1) := by decide +kernel
theorem dL_holds_392 : decode cL_holds 392 = .ok (.istore_n 2, 1) := by decide +kernel
theorem dL_holds_393 : decode cL_holds 393 = .ok (.iconst 0, 1) := by decide +kernel
theorem dL_holds_394 : decode cL_holds 394 = .ok (.istore_n 3, 1) := by decide +kernel
theorem dL_holds_395 : decode cL_holds 395 = .ok (.iload_n 3, 1) := by decide +kernel
theorem dL_holds_396 : decode cL_holds 396 = .ok (.bipush 10, 2) := by decide +kernel
theorem dL_holds_398 : decode cL_holds 398 = .ok (.if_icmp .ge 65, 3) := by decide +kernel
theorem dL_holds_401 : decode cL_holds 401 = .ok (.iload_n 1, 1) := by decide +kernel
theorem dL_holds_402 : decode cL_holds 402 = .ok (.ifCond .eq 61, 3) := by decide +kernel
theorem dL_holds_405 : decode cL_holds 405 = .ok (.iload_n 2, 1) := by decide +kernel
theorem dL_holds_406 : decode cL_holds 406 = .ok (.aload_n 0, 1) := by decide +kernel
theorem dL_holds_407 : decode cL_holds 407 = .ok (.iload_n 3, 1) := by decide +kernel
theorem dL_holds_408 : decode cL_holds 408 = .ok (.iconst 2, 1) := by decide +kernel
theorem dL_holds_409 : decode cL_holds 409 = .ok (.invokevirtual 36, 3) := by decide +kernel
theorem dL_holds_412 : decode cL_holds 412 = .ok (.iadd, 1) := by decide +kernel
theorem dL_holds_413 : decode cL_holds 413 = .ok (.istore_n 2, 1) := by decide +kernel
theorem dL_holds_414 : decode cL_holds 414 = .ok (.aload_n 0, 1) := by decide +kernel
theorem dL_holds_415 : decode cL_holds 415 = .ok (.iload_n 3, 1) := by decide +kernel
theorem dL_holds_416 : decode cL_holds 416 = .ok (.iconst 2, 1) := by decide +kernel
theorem dL_holds_417 : decode cL_holds 417 = .ok (.invokevirtual 36, 3) := by decide +kernel
theorem dL_holds_420 : decode cL_holds 420 = .ok (.ifCond .eq 31, 3) := by decide +kernel
theorem dL_holds_423 : decode cL_holds 423 = .ok (.aload_n 0, 1) := by decide +kernel
theorem dL_holds_424 : decode cL_holds 424 = .ok (.iload_n 3, 1) := by decide +kernel
theorem dL_holds_425 : decode cL_holds 425 = .ok (.iconst 1, 1) := by decide +kernel
theorem dL_holds_426 : decode cL_holds 426 = .ok (.invokevirtual 36, 3) := by decide +kernel
theorem dL_holds_429 : decode cL_holds 429 = .ok (.ifCond .lt 26, 3) := by decide +kernel
theorem dL_holds_432 : decode cL_holds 432 = .ok (.aload_n 0, 1) := by decide +kernel
theorem dL_holds_433 : decode cL_holds 433 = .ok (.iload_n 3, 1) := by decide +kernel
theorem dL_holds_434 : decode cL_holds 434 = .ok (.iconst 2, 1) := by decide +kernel
theorem dL_holds_435 : decode cL_holds 435 = .ok (.invokevirtual 36, 3) := by decide +kernel
theorem dL_holds_438 : decode cL_holds 438 = .ok (.iconst 1, 1) := by decide +kernel
theorem dL_holds_439 : decode cL_holds 439 = .ok (.if_icmp .gt 12, 3) := by decide +kernel
theorem dL_holds_442 : decode cL_holds 442 = .ok (.aload_n 0, 1) := by decide +kernel
theorem dL_holds_443 : decode cL_holds 443 = .ok (.iload_n 3, 1) := by decide +kernel
theorem dL_holds_444 : decode cL_holds 444 = .ok (.iconst 1, 1) := by decide +kernel
theorem dL_holds_445 : decode cL_holds 445 = .ok (.invokevirtual 36, 3) := by decide +kernel
theorem dL_holds_448 : decode cL_holds 448 = .ok (.ifCond .ne 7, 3) := by decide +kernel
theorem dL_holds_451 : decode cL_holds 451 = .ok (.iconst 1, 1) := by decide +kernel
theorem dL_holds_452 : decode cL_holds 452 = .ok (.goto 4, 3) := by decide +kernel
theorem dL_holds_455 : decode cL_holds 455 = .ok (.iconst 0, 1) := by decide +kernel
theorem dL_holds_456 : decode cL_holds 456 = .ok (.istore_n 1, 1) := by decide +kernel
theorem dL_holds_457 : decode cL_holds 457 = .ok (.iinc 3 1, 3) := by decide +kernel
theorem dL_holds_460 : decode cL_holds 460 = .ok (.goto (-65), 3) := by decide +kernel
theorem dL_holds_463 : decode cL_holds 463 = .ok (.iload_n 1, 1) := by decide +kernel
theorem dL_holds_464 : decode cL_holds 464 = .ok (.ifCond .eq 33, 3) := by decide +kernel
theorem dL_holds_467 : decode cL_holds 467 = .ok (.iload_n 2, 1) := by decide +kernel
theorem dL_holds_468 : decode cL_holds 468 = .ok (.aload_n 0, 1) := by decide +kernel
theorem dL_holds_469 : decode cL_holds 469 = .ok (.bipush 13, 2) := by decide +kernel
theorem dL_holds_471 : decode cL_holds 471 = .ok (.invokevirtual 9, 3) := by decide +kernel
theorem dL_holds_474 : decode cL_holds 474 = .ok (.if_icmp .gt 23, 3) := by decide +kernel
theorem dL_holds_477 : decode cL_holds 477 = .ok (.iload_n 2, 1) := by decide +kernel
theorem dL_holds_478 : decode cL_holds 478 = .ok (.aload_n 0, 1) := by decide +kernel
theorem dL_holds_479 : decode cL_holds 479 = .ok (.bipush 13, 2) := by decide +kernel
theorem dL_holds_481 : decode cL_holds 481 = .ok (.invokevirtual 9, 3) := by decide +kernel
theorem dL_holds_484 : decode cL_holds 484 = .ok (.aload_n 0, 1) := by decide +kernel
theorem dL_holds_485 : decode cL_holds 485 = .ok (.iconst 5, 1) := by decide +kernel
theorem dL_holds_486 : decode cL_holds 486 = .ok (.invokevirtual 9, 3) := by decide +kernel
theorem dL_holds_489 : decode cL_holds 489 = .ok (.isub, 1) := by decide +kernel
theorem dL_holds_490 : decode cL_holds 490 = .ok (.if_icmp .lt 7, 3) := by decide +kernel
theorem dL_holds_493 : decode cL_holds 493 = .ok (.iconst 1, 1) := by decide +kernel
theorem dL_holds_494 : decode cL_holds 494 = .ok (.goto 4, 3) := by decide +kernel
theorem dL_holds_497 : decode cL_holds 497 = .ok (.iconst 0, 1) := by decide +kernel
theorem dL_holds_498 : decode cL_holds 498 = .ok (.ireturn, 1) := by decide +kernel
set_option maxRecDepth 20000 in
theorem ggL_level_X6_count : GoodIn wsL_level wsX6_count := goodIn_r _ [5, 6, 7, 8, 9, 10, 11, 12, 13, 14, 15, 4, 16, 17, 18, 19, 20, 21, 22, 23, 24, 25, 26, 27, 28, 29, 30, 31, 32, 33, 34, 35, 36, 37, 38, 39, 40, 41, 42, 43, 44, 45, 46, 47, 48, 49, 50, 51, 52, 53, 54, 55, 56, 57, 58, 59, 60, 61, 62, 63, 64, 65, 66, 67, 68, 69, 70, 71, 72, 73, 74, 75, 76, 77, 78, 79, 80, 81, 82, 83, 84, 85, 86, 87, 88, 89, 90, 91, 92, 93, 94, 95, 96, 97, 98, 99, 100, 101, 102, 103, 104, 105, 106, 107, 108, 109, 110, 111, 112, 113, 114, 115, 116, 117, 118, 119, 120, 121, 122, 123, 124, 125, 126, 127, 128, 129, 130, 131, 132, 133, 134, 135, 136, 137, 138, 139, 140, 141, 142, 143, 144, 145, 146, 147, 148, 149, 150, 151, 152, 153, 154, 155, 156, 157, 158, 159, 160, 161, 162, 163, 164, 165, 166, 167, 168, 169, 170, 171, 172, 173, 174, 175, 176, 177, 178, 179, 180, 181, 182, 183, 184, 185, 186, 187, 188, 189, 190, 191, 192, 193, 194, 195, 196, 236, 237, 238, 239, 240, 241, 242, 243, 244, 245, 246, 247, 248, 249, 250, 251, 252, 253, 254, 255, 256, 257, 258, 259, 260, 261, 262, 263, 264, 265, 266, 267, 268, 269, 270, 271, 272, 273, 274, 275, 276, 277, 278, 279, 280, 281, 282, 283, 284] (by decide +kernel) (by decide +kernel)
set_option maxRecDepth 20000 in
theorem gL_level_X6_count : GoodIn wsL_level (wsV RL 9 RX6 yX6_count wsX6_count) := goodIn_app (goodIn_of _ (by decide +kernel)) ggL_level_X6_count
set_option maxRecDepth 20000 in
theorem ggL_level_X6_reading : GoodIn wsL_level wsX6_reading := goodIn_r _ [200, 12, 201, 6, 202, 203, 204, 4, 205, 206, 207, 208, 209, 210, 211, 134, 31, 32, 33, 34, 35, 36, 37, 38, 13, 14, 15, 16, 17, 7, 8, 9, 18, 19, 20, 21, 22, 23, 24, 25, 26, 27, 28, 29, 30, 39, 40, 41, 42, 43, 44, 45, 46, 47, 48, 49, 50, 51, 52, 53, 54, 55, 56, 57, 58, 59, 60, 61, 62, 63, 64, 65, 66, 67, 68, 69, 70, 71, 72, 73, 74, 75, 76, 77, 78, 79, 80, 81, 82, 83, 84, 85, 86, 87, 88, 89, 90, 91, 92, 93, 94, 95, 96, 97, 98, 99, 100, 101, 102, 103, 104, 105, 106, 107, 108, 109, 110, 111, 112, 113, 114, 115, 116, 117, 118, 119, 120, 121, 122, 123, 124, 125, 126, 127, 128, 129, 130, 131, 132, 133, 164, 165, 166, 167, 212, 213, 214, 236, 237, 238, 239, 240, 241, 242, 243, 244, 245, 246, 247, 274, 275, 276, 277, 278, 279, 280, 248, 249, 250, 251, 252, 253, 254, 255, 256, 257, 258, 259] (by decide +kernel) (by decide +kernel)
set_option maxRecDepth 20000 in
theorem gL_level_X6_reading : GoodIn wsL_level (wsV RL 15 RX6 yX6_reading wsX6_reading) := goodIn_app (goodIn_of _ (by decide +kernel)) ggL_level_X6_reading
set_option maxRecDepth 20000 in
theorem ggL_level_X6_baseAt : GoodIn wsL_level wsX6_baseAt := goodIn_r _ [218, 12, 6, 219, 220, 4, 221, 209, 210, 211, 222, 57, 58, 33, 59, 38, 53, 60, 40, 41, 42, 43, 44, 45, 46, 61, 62, 63, 64, 65, 66, 236, 237, 238, 239, 240, 241, 242, 243, 244, 274, 275, 276, 277, 278, 279, 280, 245, 246, 247] (by decide +kernel) (by decide +kernel)
set_option maxRecDepth 20000 in
theorem gL_level_X6_baseAt : GoodIn wsL_level (wsV RL 39 RX6 yX6_baseAt wsX6_baseAt) := goodIn_app (goodIn_of _ (by decide +kernel)) ggL_level_X6_baseAt
set_option maxRecDepth 20000 in
theorem ggL_level_X6_would : GoodIn wsL_level wsX6_would := goodIn_r _ [226, 12, 6, 227, 228, 4, 229, 230, 231, 219, 220, 221, 209, 210, 211, 232, 233, 234, 235, 50, 51, 33, 52, 53, 54, 55, 56, 57, 58, 59, 38, 60, 40, 41, 42, 43, 44, 45, 46, 61, 62, 63, 64, 65, 66, 67, 68, 69, 236, 237, 238, 239, 240, 241, 242, 243, 244, 274, 275, 276, 277, 278, 279, 280, 245, 246, 247] (by decide +kernel) (by decide +kernel)
set_option maxRecDepth 20000 in
theorem gL_level_X6_would : GoodIn wsL_level (wsV RL 42 RX6 yX6_would wsX6_would) := goodIn_app (goodIn_of _ (by decide +kernel)) ggL_level_X6_would
theorem dL_level_0 : decode cL_level 0 = .ok (.iconst 1, 1) := by decide +kernel
theorem dL_level_1 : decode cL_level 1 = .ok (.istore_n 1, 1) := by decide +kernel
theorem dL_level_2 : decode cL_level 2 = .ok (.iconst 0, 1) := by decide +kernel
theorem dL_level_3 : decode cL_level 3 = .ok (.istore_n 2, 1) := by decide +kernel
theorem dL_level_4 : decode cL_level 4 = .ok (.iload_n 2, 1) := by decide +kernel
theorem dL_level_5 : decode cL_level 5 = .ok (.aload_n 0, 1) := by decide +kernel
theorem dL_level_6 : decode cL_level 6 = .ok (.iconst 0, 1) := by decide +kernel
theorem dL_level_7 : decode cL_level 7 = .ok (.invokevirtual 9, 3) := by decide +kernel
theorem dL_level_10 : decode cL_level 10 = .ok (.if_icmp .ge 87, 3) := by decide +kernel
theorem dL_level_13 : decode cL_level 13 = .ok (.iload_n 1, 1) := by decide +kernel
theorem dL_level_14 : decode cL_level 14 = .ok (.ifCond .eq 83, 3) := by decide +kernel
theorem dL_level_17 : decode cL_level 17 = .ok (.aload_n 0, 1) := by decide +kernel
theorem dL_level_18 : decode cL_level 18 = .ok (.iconst (-1), 1) := by decide +kernel
theorem dL_level_19 : decode cL_level 19 = .ok (.iload_n 2, 1) := by decide +kernel
theorem dL_level_20 : decode cL_level 20 = .ok (.iconst 0, 1) := by decide +kernel
theorem dL_level_21 : decode cL_level 21 = .ok (.invokevirtual 15, 3) := by decide +kernel
theorem dL_level_24 : decode cL_level 24 = .ok (.istore_n 3, 1) := by decide +kernel
theorem dL_level_25 : decode cL_level 25 = .ok (.aload_n 0, 1) := by decide +kernel
theorem dL_level_26 : decode cL_level 26 = .ok (.iload_n 3, 1) := by decide +kernel
theorem dL_level_27 : decode cL_level 27 = .ok (.iconst 0, 1) := by decide +kernel
theorem dL_level_28 : decode cL_level 28 = .ok (.invokevirtual 39, 3) := by decide +kernel
theorem dL_level_31 : decode cL_level 31 = .ok (.aload_n 0, 1) := by decide +kernel
theorem dL_level_32 : decode cL_level 32 = .ok (.iconst (-1), 1) := by decide +kernel
theorem dL_level_33 : decode cL_level 33 = .ok (.iload_n 2, 1) := by decide +kernel
theorem dL_level_34 : decode cL_level 34 = .ok (.iconst 1, 1) := by decide +kernel
theorem dL_level_35 : decode cL_level 35 = .ok (.invokevirtual 15, 3) := by decide +kernel
theorem dL_level_38 : decode cL_level 38 = .ok (.if_icmp .ne 51, 3) := by decide +kernel
theorem dL_level_41 : decode cL_level 41 = .ok (.aload_n 0, 1) := by decide +kernel
theorem dL_level_42 : decode cL_level 42 = .ok (.iload_n 3, 1) := by decide +kernel
theorem dL_level_43 : decode cL_level 43 = .ok (.iconst 1, 1) := by decide +kernel
theorem dL_level_44 : decode cL_level 44 = .ok (.invokevirtual 39, 3) := by decide +kernel
theorem dL_level_47 : decode cL_level 47 = .ok (.aload_n 0, 1) := by decide +kernel
theorem dL_level_48 : decode cL_level 48 = .ok (.iconst (-1), 1) := by decide +kernel
theorem dL_level_49 : decode cL_level 49 = .ok (.iload_n 2, 1) := by decide +kernel
theorem dL_level_50 : decode cL_level 50 = .ok (.iconst 2, 1) := by decide +kernel
theorem dL_level_51 : decode cL_level 51 = .ok (.invokevirtual 15, 3) := by decide +kernel
theorem dL_level_54 : decode cL_level 54 = .ok (.if_icmp .ne 35, 3) := by decide +kernel
theorem dL_level_57 : decode cL_level 57 = .ok (.aload_n 0, 1) := by decide +kernel
theorem dL_level_58 : decode cL_level 58 = .ok (.iload_n 3, 1) := by decide +kernel
theorem dL_level_59 : decode cL_level 59 = .ok (.aload_n 0, 1) := by decide +kernel
theorem dL_level_60 : decode cL_level 60 = .ok (.iconst (-1), 1) := by decide +kernel
theorem dL_level_61 : decode cL_level 61 = .ok (.iload_n 2, 1) := by decide +kernel
theorem dL_level_62 : decode cL_level 62 = .ok (.iconst 1, 1) := by decide +kernel
theorem dL_level_63 : decode cL_level 63 = .ok (.invokevirtual 15, 3) := by decide +kernel
theorem dL_level_66 : decode cL_level 66 = .ok (.aload_n 0, 1) := by decide +kernel
theorem dL_level_67 : decode cL_level 67 = .ok (.iconst (-1), 1) := by decide +kernel
theorem dL_level_68 : decode cL_level 68 = .ok (.iload_n 2, 1) := by decide +kernel
theorem dL_level_69 : decode cL_level 69 = .ok (.iconst 2, 1) := by decide +kernel
theorem dL_level_70 : decode cL_level 70 = .ok (.invokevirtual 15, 3) := by decide +kernel
theorem dL_level_73 : decode cL_level 73 = .ok (.invokevirtual 42, 3) := by decide +kernel
theorem dL_level_76 : decode cL_level 76 = .ok (.aload_n 0, 1) := by decide +kernel
theorem dL_level_77 : decode cL_level 77 = .ok (.bipush 10, 2) := by decide +kernel
theorem dL_level_79 : decode cL_level 79 = .ok (.invokevirtual 9, 3) := by decide +kernel
theorem dL_level_82 : decode cL_level 82 = .ok (.if_icmp .ne 7, 3) := by decide +kernel
theorem dL_level_85 : decode cL_level 85 = .ok (.iconst 1, 1) := by decide +kernel
theorem dL_level_86 : decode cL_level 86 = .ok (.goto 4, 3) := by decide +kernel
theorem dL_level_89 : decode cL_level 89 = .ok (.iconst 0, 1) := by decide +kernel
theorem dL_level_90 : decode cL_level 90 = .ok (.istore_n 1, 1) := by decide +kernel
theorem dL_level_91 : decode cL_level 91 = .ok (.iinc 2 1, 3) := by decide +kernel
theorem dL_level_94 : decode cL_level 94 = .ok (.goto (-90), 3) := by decide +kernel
theorem dL_level_97 : decode cL_level 97 = .ok (.iload_n 1, 1) := by decide +kernel
theorem dL_level_98 : decode cL_level 98 = .ok (.ireturn, 1) := by decide +kernel
