theorem dL_below_0 : decode cL_below 0 = .ok (.iload_n 0, 1) := by decide +kernel
theorem dL_below_1 : decode cL_below 1 = .ok (.ldc 7, 2) := by decide +kernel
theorem dL_below_3 : decode cL_below 3 = .ok (.iand, 1) := by decide +kernel
theorem dL_below_4 : decode cL_below 4 = .ok (.iload_n 1, 1) := by decide +kernel
theorem dL_below_5 : decode cL_below 5 = .ok (.irem, 1) := by decide +kernel
theorem dL_below_6 : decode cL_below 6 = .ok (.ireturn, 1) := by decide +kernel
theorem dL_cell_0 : decode cL_cell 0 = .ok (.iload_n 1, 1) := by decide +kernel
theorem dL_cell_1 : decode cL_cell 1 = .ok (.aload_n 0, 1) := by decide +kernel
theorem dL_cell_2 : decode cL_cell 2 = .ok (.arraylength, 1) := by decide +kernel
theorem dL_cell_3 : decode cL_cell 3 = .ok (.if_icmp .ge 9, 3) := by decide +kernel
theorem dL_cell_6 : decode cL_cell 6 = .ok (.aload_n 0, 1) := by decide +kernel
theorem dL_cell_7 : decode cL_cell 7 = .ok (.iload_n 1, 1) := by decide +kernel
theorem dL_cell_8 : decode cL_cell 8 = .ok (.iaload, 1) := by decide +kernel
theorem dL_cell_9 : decode cL_cell 9 = .ok (.goto 9, 3) := by decide +kernel
theorem dL_cell_12 : decode cL_cell 12 = .ok (.ldc 8, 2) := by decide +kernel
theorem dL_cell_14 : decode cL_cell 14 = .ok (.iload_n 1, 1) := by decide +kernel
theorem dL_cell_15 : decode cL_cell 15 = .ok (.iconst 3, 1) := by decide +kernel
theorem dL_cell_16 : decode cL_cell 16 = .ok (.iadd, 1) := by decide +kernel
theorem dL_cell_17 : decode cL_cell 17 = .ok (.imul, 1) := by decide +kernel
theorem dL_cell_18 : decode cL_cell 18 = .ok (.ireturn, 1) := by decide +kernel
set_option maxRecDepth 20000 in
theorem ggL_shop_X6_init : GoodIn wsL_shop wsX6_init := goodIn_r _ [6, 7, 8, 9, 10, 11, 12, 13, 14, 15, 16, 17, 18, 19, 20, 21, 22, 23, 24, 25, 26, 27, 28, 29, 30, 31, 32, 156, 157, 158, 147, 148, 149, 150, 151, 152, 153, 154, 155] (by decide +kernel) (by decide +kernel)
set_option maxRecDepth 20000 in
theorem gL_shop_X6_init : GoodIn wsL_shop (wsX6_init) := ggL_shop_X6_init
set_option maxRecDepth 20000 in
theorem ggL_shop_L_cell : GoodIn wsL_shop wsL_cell := goodIn_r _ [36, 37] (by decide +kernel) (by decide +kernel)
set_option maxRecDepth 20000 in
theorem gL_shop_L_cell : GoodIn wsL_shop (va_wsS RL 12 yL_cell wsL_cell) := goodIn_app (goodIn_of _ (by decide +kernel)) ggL_shop_L_cell
set_option maxRecDepth 20000 in
theorem ggL_shop_L_below : GoodIn wsL_shop wsL_below := goodIn_r _ [40, 41] (by decide +kernel) (by decide +kernel)
set_option maxRecDepth 20000 in
theorem gL_shop_L_below : GoodIn wsL_shop (va_wsS RL 18 yL_below wsL_below) := goodIn_app (goodIn_of _ (by decide +kernel)) ggL_shop_L_below
set_option maxRecDepth 20000 in
theorem ggL_shop_X6_shared : GoodIn wsL_shop wsX6_shared := goodIn_ca (goodIn_ca (goodIn_r _ [45, 46, 47, 48, 49, 50, 3, 51, 52, 53, 13, 54, 55, 56, 57, 58, 59, 60, 61, 62, 63, 64, 12, 65, 66, 67, 68, 69, 70, 8, 9, 71, 72, 73, 74, 75, 11, 76, 77, 19, 20, 21, 22, 23, 24, 25, 26, 27, 28, 29, 30, 31, 32, 78, 79, 80, 81, 82, 83, 84, 85, 86, 87, 88, 89, 90, 91, 92, 93, 94, 95, 96, 97, 98, 99, 100, 101, 102, 103, 104, 105, 106, 107, 108, 109, 110, 111, 112, 113, 114, 115, 116, 117, 118, 119, 120, 121, 122, 123, 124, 125, 126, 127, 128, 129, 147, 148, 149, 150, 151, 152, 153, 154, 155, 159, 160, 161, 162, 163, 164, 165, 156, 157, 158] (by decide +kernel) (by decide +kernel)) (goodIn_sub (fun _ h => List.mem_cons_of_mem _ (List.mem_append_left _ (List.mem_append_right _ h))) (by decide +kernel))) (goodIn_sub (fun _ h => List.mem_cons_of_mem _ (List.mem_append_right _ h)) (by decide +kernel))
set_option maxRecDepth 20000 in
theorem gL_shop_X6_shared : GoodIn wsL_shop (wsV RL 22 RX6 yX6_shared wsX6_shared) := goodIn_app (goodIn_of _ (by decide +kernel)) ggL_shop_X6_shared
set_option maxRecDepth 20000 in
theorem ggL_shop_X6_wish : GoodIn wsL_shop wsX6_wish := goodIn_ca (goodIn_ca (goodIn_r _ [133, 46, 47, 48, 49, 50, 3, 51, 52, 53, 13, 54, 55, 56, 57, 58, 59, 60, 61, 62, 63, 64, 12, 65, 66, 67, 68, 69, 70, 8, 9, 71, 72, 73, 74, 75, 11, 76, 77, 19, 20, 21, 22, 23, 24, 25, 26, 27, 28, 29, 30, 31, 32, 78, 79, 80, 81, 82, 83, 84, 85, 86, 87, 88, 89, 90, 91, 92, 93, 94, 95, 96, 97, 98, 99, 100, 101, 102, 103, 104, 105, 106, 107, 108, 109, 110, 111, 112, 113, 114, 115, 116, 117, 118, 119, 120, 121, 122, 123, 124, 125, 126, 127, 128, 129, 147, 148, 149, 150, 151, 152, 153, 154, 155, 159, 160, 161, 162, 163, 164, 165, 156, 157, 158] (by decide +kernel) (by decide +kernel)) (goodIn_sub (fun _ h => List.mem_cons_of_mem _ (List.mem_append_left _ (List.mem_append_right _ h))) (by decide +kernel))) (goodIn_sub (fun _ h => List.mem_cons_of_mem _ (List.mem_append_right _ h)) (by decide +kernel))
set_option maxRecDepth 20000 in
theorem gL_shop_X6_wish : GoodIn wsL_shop (wsV RL 26 RX6 yX6_wish wsX6_wish) := goodIn_app (goodIn_of _ (by decide +kernel)) ggL_shop_X6_wish
set_option maxRecDepth 20000 in
theorem ggL_shop_X6_guest : GoodIn wsL_shop wsX6_guest := goodIn_ca (goodIn_ca (goodIn_r _ [137, 46, 47, 52, 53, 14, 138, 139, 140, 62, 63, 64, 12, 65, 66, 141, 142, 143, 144, 8, 9, 145, 146, 78, 79, 80, 81, 82, 83, 22, 84, 85, 86, 87, 88, 89, 90, 91, 92, 93, 94, 95, 21, 96, 97, 98, 99, 100, 101, 102, 103, 104, 105, 106, 107, 108, 109, 110, 111, 112, 113, 114, 115, 116, 117, 118, 119, 120, 121, 122, 123, 124, 125, 126, 127, 128, 129, 147, 148, 149, 150, 151, 152, 153, 154, 155, 166, 167, 156, 157, 158] (by decide +kernel) (by decide +kernel)) (goodIn_sub (fun _ h => List.mem_cons_of_mem _ (List.mem_append_left _ (List.mem_append_right _ h))) (by decide +kernel))) (goodIn_sub (fun _ h => List.mem_cons_of_mem _ (List.mem_append_right _ h)) (by decide +kernel))
set_option maxRecDepth 20000 in
theorem gL_shop_X6_guest : GoodIn wsL_shop (wsV RL 29 RX6 yX6_guest wsX6_guest) := goodIn_app (goodIn_of _ (by decide +kernel)) ggL_shop_X6_guest
theorem dL_shop_0 : decode cL_shop 0 = .ok (.new 9, 3) := by decide +kernel
theorem dL_shop_3 : decode cL_shop 3 = .ok (.dup, 1) := by decide +kernel
theorem dL_shop_4 : decode cL_shop 4 = .ok (.invokespecial 11, 3) := by decide +kernel
theorem dL_shop_7 : decode cL_shop 7 = .ok (.astore_n 1, 1) := by decide +kernel
theorem dL_shop_8 : decode cL_shop 8 = .ok (.iconst 1, 1) := by decide +kernel
theorem dL_shop_9 : decode cL_shop 9 = .ok (.aload_n 0, 1) := by decide +kernel
theorem dL_shop_10 : decode cL_shop 10 = .ok (.iconst 0, 1) := by decide +kernel
theorem dL_shop_11 : decode cL_shop 11 = .ok (.invokestatic 12, 3) := by decide +kernel
theorem dL_shop_14 : decode cL_shop 14 = .ok (.bipush 6, 2) := by decide +kernel
theorem dL_shop_16 : decode cL_shop 16 = .ok (.invokestatic 18, 3) := by decide +kernel
theorem dL_shop_19 : decode cL_shop 19 = .ok (.iadd, 1) := by decide +kernel
theorem dL_shop_20 : decode cL_shop 20 = .ok (.istore_n 2, 1) := by decide +kernel
theorem dL_shop_21 : decode cL_shop 21 = .ok (.iconst 0, 1) := by decide +kernel
theorem dL_shop_22 : decode cL_shop 22 = .ok (.istore_n 3, 1) := by decide +kernel
theorem dL_shop_23 : decode cL_shop 23 = .ok (.iload_n 3, 1) := by decide +kernel
theorem dL_shop_24 : decode cL_shop 24 = .ok (.iload_n 2, 1) := by decide +kernel
theorem dL_shop_25 : decode cL_shop 25 = .ok (.if_icmp .ge 87, 3) := by decide +kernel
theorem dL_shop_28 : decode cL_shop 28 = .ok (.aload_n 0, 1) := by decide +kernel
theorem dL_shop_29 : decode cL_shop 29 = .ok (.iconst 1, 1) := by decide +kernel
theorem dL_shop_30 : decode cL_shop 30 = .ok (.invokestatic 12, 3) := by decide +kernel
theorem dL_shop_33 : decode cL_shop 33 = .ok (.iconst 2, 1) := by decide +kernel
theorem dL_shop_34 : decode cL_shop 34 = .ok (.iload_n 3, 1) := by decide +kernel
theorem dL_shop_35 : decode cL_shop 35 = .ok (.imul, 1) := by decide +kernel
theorem dL_shop_36 : decode cL_shop 36 = .ok (.ishr, 1) := by decide +kernel
theorem dL_shop_37 : decode cL_shop 37 = .ok (.iconst 5, 1) := by decide +kernel
theorem dL_shop_38 : decode cL_shop 38 = .ok (.invokestatic 18, 3) := by decide +kernel
theorem dL_shop_41 : decode cL_shop 41 = .ok (.ifCond .ne 29, 3) := by decide +kernel
theorem dL_shop_44 : decode cL_shop 44 = .ok (.aload_n 1, 1) := by decide +kernel
theorem dL_shop_45 : decode cL_shop 45 = .ok (.bipush 20, 2) := by decide +kernel
theorem dL_shop_47 : decode cL_shop 47 = .ok (.aload_n 0, 1) := by decide +kernel
theorem dL_shop_48 : decode cL_shop 48 = .ok (.iconst 2, 1) := by decide +kernel
theorem dL_shop_49 : decode cL_shop 49 = .ok (.invokestatic 12, 3) := by decide +kernel
theorem dL_shop_52 : decode cL_shop 52 = .ok (.iconst 3, 1) := by decide +kernel
theorem dL_shop_53 : decode cL_shop 53 = .ok (.iload_n 3, 1) := by decide +kernel
theorem dL_shop_54 : decode cL_shop 54 = .ok (.imul, 1) := by decide +kernel
theorem dL_shop_55 : decode cL_shop 55 = .ok (.ishr, 1) := by decide +kernel
theorem dL_shop_56 : decode cL_shop 56 = .ok (.sipush 300, 3) := by decide +kernel
theorem dL_shop_59 : decode cL_shop 59 = .ok (.invokestatic 18, 3) := by decide +kernel
theorem dL_shop_62 : decode cL_shop 62 = .ok (.iadd, 1) := by decide +kernel
theorem dL_shop_63 : decode cL_shop 63 = .ok (.invokevirtual 22, 3) := by decide +kernel
theorem dL_shop_66 : decode cL_shop 66 = .ok (.pop, 1) := by decide +kernel
theorem dL_shop_67 : decode cL_shop 67 = .ok (.goto 39, 3) := by decide +kernel
theorem dL_shop_70 : decode cL_shop 70 = .ok (.aload_n 1, 1) := by decide +kernel
theorem dL_shop_71 : decode cL_shop 71 = .ok (.iconst 1, 1) := by decide +kernel
theorem dL_shop_72 : decode cL_shop 72 = .ok (.aload_n 0, 1) := by decide +kernel
theorem dL_shop_73 : decode cL_shop 73 = .ok (.iconst 3, 1) := by decide +kernel
theorem dL_shop_74 : decode cL_shop 74 = .ok (.invokestatic 12, 3) := by decide +kernel
theorem dL_shop_77 : decode cL_shop 77 = .ok (.iconst 2, 1) := by decide +kernel
theorem dL_shop_78 : decode cL_shop 78 = .ok (.iload_n 3, 1) := by decide +kernel
theorem dL_shop_79 : decode cL_shop 79 = .ok (.imul, 1) := by decide +kernel
theorem dL_shop_80 : decode cL_shop 80 = .ok (.ishr, 1) := by decide +kernel
theorem dL_shop_81 : decode cL_shop 81 = .ok (.iconst 4, 1) := by decide +kernel
theorem dL_shop_82 : decode cL_shop 82 = .ok (.invokestatic 18, 3) := by decide +kernel
theorem dL_shop_85 : decode cL_shop 85 = .ok (.iadd, 1) := by decide +kernel
theorem dL_shop_86 : decode cL_shop 86 = .ok (.iconst 1, 1) := by decide +kernel
theorem dL_shop_87 : decode cL_shop 87 = .ok (.aload_n 0, 1) := by decide +kernel
theorem dL_shop_88 : decode cL_shop 88 = .ok (.iconst 2, 1) := by decide +kernel
theorem dL_shop_89 : decode cL_shop 89 = .ok (.invokestatic 12, 3) := by decide +kernel
theorem dL_shop_92 : decode cL_shop 92 = .ok (.iconst 3, 1) := by decide +kernel
theorem dL_shop_93 : decode cL_shop 93 = .ok (.iload_n 3, 1) := by decide +kernel
theorem dL_shop_94 : decode cL_shop 94 = .ok (.imul, 1) := by decide +kernel
theorem dL_shop_95 : decode cL_shop 95 = .ok (.ishr, 1) := by decide +kernel
theorem dL_shop_96 : decode cL_shop 96 = .ok (.bipush 60, 2) := by decide +kernel
theorem dL_shop_98 : decode cL_shop 98 = .ok (.invokestatic 18, 3) := by decide +kernel
theorem dL_shop_101 : decode cL_shop 101 = .ok (.iadd, 1) := by decide +kernel
theorem dL_shop_102 : decode cL_shop 102 = .ok (.invokevirtual 26, 3) := by decide +kernel
theorem dL_shop_105 : decode cL_shop 105 = .ok (.pop, 1) := by decide +kernel
theorem dL_shop_106 : decode cL_shop 106 = .ok (.iinc 3 1, 3) := by decide +kernel
theorem dL_shop_109 : decode cL_shop 109 = .ok (.goto (-86), 3) := by decide +kernel
theorem dL_shop_112 : decode cL_shop 112 = .ok (.iconst 1, 1) := by decide +kernel
theorem dL_shop_113 : decode cL_shop 113 = .ok (.aload_n 0, 1) := by decide +kernel
theorem dL_shop_114 : decode cL_shop 114 = .ok (.iconst 4, 1) := by decide +kernel
theorem dL_shop_115 : decode cL_shop 115 = .ok (.invokestatic 12, 3) := by decide +kernel
theorem dL_shop_118 : decode cL_shop 118 = .ok (.bipush 6, 2) := by decide +kernel
theorem dL_shop_120 : decode cL_shop 120 = .ok (.invokestatic 18, 3) := by decide +kernel
theorem dL_shop_123 : decode cL_shop 123 = .ok (.iadd, 1) := by decide +kernel
theorem dL_shop_124 : decode cL_shop 124 = .ok (.istore_n 3, 1) := by decide +kernel
theorem dL_shop_125 : decode cL_shop 125 = .ok (.iconst 0, 1) := by decide +kernel
theorem dL_shop_126 : decode cL_shop 126 = .ok (.istore 4, 2) := by decide +kernel
theorem dL_shop_128 : decode cL_shop 128 = .ok (.iload 4, 2) := by decide +kernel
theorem dL_shop_130 : decode cL_shop 130 = .ok (.iload_n 3, 1) := by decide +kernel
theorem dL_shop_131 : decode cL_shop 131 = .ok (.if_icmp .ge 30, 3) := by decide +kernel
theorem dL_shop_134 : decode cL_shop 134 = .ok (.aload_n 1, 1) := by decide +kernel
theorem dL_shop_135 : decode cL_shop 135 = .ok (.aload_n 0, 1) := by decide +kernel
theorem dL_shop_136 : decode cL_shop 136 = .ok (.iconst 5, 1) := by decide +kernel
theorem dL_shop_137 : decode cL_shop 137 = .ok (.invokestatic 12, 3) := by decide +kernel
theorem dL_shop_140 : decode cL_shop 140 = .ok (.iconst 3, 1) := by decide +kernel
theorem dL_shop_141 : decode cL_shop 141 = .ok (.iload 4, 2) := by decide +kernel
theorem dL_shop_143 : decode cL_shop 143 = .ok (.imul, 1) := by decide +kernel
theorem dL_shop_144 : decode cL_shop 144 = .ok (.ishr, 1) := by decide +kernel
theorem dL_shop_145 : decode cL_shop 145 = .ok (.sipush 400, 3) := by decide +kernel
theorem dL_shop_148 : decode cL_shop 148 = .ok (.invokestatic 18, 3) := by decide +kernel
theorem dL_shop_151 : decode cL_shop 151 = .ok (.invokevirtual 29, 3) := by decide +kernel
theorem dL_shop_154 : decode cL_shop 154 = .ok (.pop, 1) := by decide +kernel
theorem dL_shop_155 : decode cL_shop 155 = .ok (.iinc 4 1, 3) := by decide +kernel
theorem dL_shop_158 : decode cL_shop 158 = .ok (.goto (-30), 3) := by decide +kernel
theorem dL_shop_161 : decode cL_shop 161 = .ok (.aload_n 1, 1) := by decide +kernel
theorem dL_shop_162 : decode cL_shop 162 = .ok (.areturn, 1) := by decide +kernel
set_option maxRecDepth 20000 in
theorem ggL_isDone_L_below : GoodIn wsL_isDone wsL_below := goodIn_r _ [10, 11] (by decide +kernel) (by decide +kernel)
set_option maxRecDepth 20000 in
theorem gL_isDone_L_below : GoodIn wsL_isDone (va_wsS RL 18 yL_below wsL_below) := goodIn_app (goodIn_of _ (by decide +kernel)) ggL_isDone_L_below
set_option maxRecDepth 20000 in
theorem ggL_isDone_X6_shop : GoodIn wsL_isDone wsX6_shop := goodIn_ca (goodIn_r _ [16, 17, 18, 19, 20, 21, 22, 23, 24, 25, 26, 27, 28, 29, 30, 31, 32, 33, 34, 35, 15, 36, 37, 38, 39, 40, 41, 42, 43, 44, 45, 46, 47, 48, 49, 50, 51, 52, 53, 54, 55, 56, 57, 58, 59, 60, 61, 62, 63, 64, 65, 66, 67, 68, 69, 70, 71, 72, 73, 74, 75, 419, 420, 421, 422, 423, 424, 425, 426, 427, 428, 429, 430, 431, 432, 433, 434, 435, 436, 437, 438, 439, 440, 441, 442, 443, 444, 445, 446, 447, 448, 449, 450, 451, 452, 453, 454] (by decide +kernel) (by decide +kernel)) (goodIn_sub (fun _ h => List.mem_cons_of_mem _ (List.mem_append_left _ (List.mem_append_left _ (List.mem_append_right _ h)))) (by decide +kernel))
set_option maxRecDepth 20000 in
theorem gL_isDone_X6_shop : GoodIn wsL_isDone (wsV RL 32 RX6 yX6_shop wsX6_shop) := goodIn_app (goodIn_of _ (by decide +kernel)) ggL_isDone_X6_shop
set_option maxRecDepth 20000 in
theorem ggL_isDone_X6_wish : GoodIn wsL_isDone wsX6_wish := goodIn_ca (goodIn_ca (goodIn_r _ [79, 17, 18, 80, 81, 82, 15, 83, 84, 85, 20, 86, 87, 88, 89, 90, 91, 92, 26, 27, 28, 29, 30, 31, 32, 93, 94, 95, 96, 97, 98, 99, 100, 101, 102, 103, 104, 105, 106, 107, 108, 109, 55, 110, 111, 112, 113, 114, 115, 116, 117, 118, 119, 120, 121, 122, 123, 124, 125, 126, 127, 128, 129, 130, 131, 132, 133, 134, 135, 136, 137, 138, 4, 5, 6, 139, 140, 141, 142, 143, 144, 145, 146, 147, 148, 149, 150, 151, 152, 153, 154, 155, 156, 157, 158, 159, 160, 161, 162, 163, 164, 165, 166, 167, 168, 419, 420, 421, 422, 423, 424, 425, 426, 427, 448, 449, 450, 451, 452, 453, 454, 428, 429, 430] (by decide +kernel) (by decide +kernel)) (goodIn_sub (fun _ h => List.mem_cons_of_mem _ (List.mem_append_left _ (List.mem_append_left _ (List.mem_append_right _ h)))) (by decide +kernel))) (goodIn_sub (fun _ h => List.mem_cons_of_mem _ (List.mem_append_left _ (List.mem_append_right _ h))) (by decide +kernel))
set_option maxRecDepth 20000 in
theorem gL_isDone_X6_wish : GoodIn wsL_isDone (wsV RL 26 RX6 yX6_wish wsX6_wish) := goodIn_app (goodIn_of _ (by decide +kernel)) ggL_isDone_X6_wish
set_option maxRecDepth 20000 in
theorem ggL_isDone_X6_shared : GoodIn wsL_isDone wsX6_shared := goodIn_ca (goodIn_ca (goodIn_r _ [172, 17, 18, 80, 81, 82, 15, 83, 84, 85, 20, 86, 87, 88, 89, 90, 91, 92, 26, 27, 28, 29, 30, 31, 32, 93, 94, 95, 96, 97, 98, 99, 100, 101, 102, 103, 104, 105, 106, 107, 108, 109, 55, 110, 111, 112, 113, 114, 115, 116, 117, 118, 119, 120, 121, 122, 123, 124, 125, 126, 127, 128, 129, 130, 131, 132, 133, 134, 135, 136, 137, 138, 4, 5, 6, 139, 140, 141, 142, 143, 144, 145, 146, 147, 148, 149, 150, 151, 152, 153, 154, 155, 156, 157, 158, 159, 160, 161, 162, 163, 164, 165, 166, 167, 168, 419, 420, 421, 422, 423, 424, 425, 426, 427, 448, 449, 450, 451, 452, 453, 454, 428, 429, 430] (by decide +kernel) (by decide +kernel)) (goodIn_sub (fun _ h => List.mem_cons_of_mem _ (List.mem_append_left _ (List.mem_append_left _ (List.mem_append_right _ h)))) (by decide +kernel))) (goodIn_sub (fun _ h => List.mem_cons_of_mem _ (List.mem_append_left _ (List.mem_append_right _ h))) (by decide +kernel))
set_option maxRecDepth 20000 in
theorem gL_isDone_X6_shared : GoodIn wsL_isDone (wsV RL 22 RX6 yX6_shared wsX6_shared) := goodIn_app (goodIn_of _ (by decide +kernel)) ggL_isDone_X6_shared
set_option maxRecDepth 20000 in
theorem ggL_isDone_X6_guest : GoodIn wsL_isDone wsX6_guest := goodIn_ca (goodIn_ca (goodIn_r _ [176, 17, 18, 84, 85, 21, 177, 178, 179, 27, 28, 29, 30, 31, 32, 180, 181, 182, 183, 97, 98, 184, 185, 120, 121, 122, 123, 124, 125, 55, 126, 127, 128, 129, 130, 131, 132, 133, 134, 135, 136, 137, 109, 138, 4, 5, 6, 139, 140, 141, 142, 143, 144, 145, 146, 147, 148, 149, 150, 151, 152, 153, 154, 155, 156, 157, 158, 159, 160, 161, 162, 163, 164, 165, 166, 167, 168, 419, 420, 421, 422, 423, 424, 425, 426, 427, 455, 456, 428, 429, 430] (by decide +kernel) (by decide +kernel)) (goodIn_sub (fun _ h => List.mem_cons_of_mem _ (List.mem_append_left _ (List.mem_append_left _ (List.mem_append_right _ h)))) (by decide +kernel))) (goodIn_sub (fun _ h => List.mem_cons_of_mem _ (List.mem_append_left _ (List.mem_append_right _ h))) (by decide +kernel))
set_option maxRecDepth 20000 in
theorem gL_isDone_X6_guest : GoodIn wsL_isDone (wsV RL 29 RX6 yX6_guest wsX6_guest) := goodIn_app (goodIn_of _ (by decide +kernel)) ggL_isDone_X6_guest
set_option maxRecDepth 20000 in
theorem ggL_isDone_X6_price : GoodIn wsL_isDone wsX6_price := goodIn_ca (goodIn_ca (goodIn_ca (goodIn_r _ [189, 17, 18, 190, 191, 192, 193, 194, 15, 195, 196, 197, 20, 198, 27, 28, 29, 30, 31, 32, 39, 40, 41, 42, 43, 44, 45, 46, 47, 48, 49, 50, 51, 52, 53, 54, 55, 199, 200, 201, 202, 84, 85, 203, 89, 90, 91, 92, 26, 204, 205, 206, 88, 207, 102, 208, 209, 210, 211, 101, 212, 4, 5, 6, 213, 214, 215, 216, 105, 217, 218, 219, 220, 221, 222, 223, 224, 225, 226, 227, 228, 229, 230, 163, 164, 231, 232, 233, 234, 235, 236, 24, 237, 238, 239, 240, 241, 242, 243, 244, 124, 125, 245, 166, 167, 168, 448, 449, 450, 451, 452, 453, 454, 419, 420, 421, 422, 423, 424, 425, 426, 427, 428, 429, 430, 457, 458, 455, 456] (by decide +kernel) (by decide +kernel)) (goodIn_sub (fun _ h => List.mem_cons_of_mem _ (List.mem_append_left _ (List.mem_append_left _ (List.mem_append_right _ h)))) (by decide +kernel))) (goodIn_sub (fun _ h => List.mem_cons_of_mem _ (List.mem_append_right _ h)) (by decide +kernel))) (goodIn_sub (fun _ h => List.mem_cons_of_mem _ (List.mem_append_left _ (List.mem_append_right _ h))) (by decide +kernel))
set_option maxRecDepth 20000 in
theorem gL_isDone_X6_price : GoodIn wsL_isDone (wsV RL 40 RX6 yX6_price wsX6_price) := goodIn_app (goodIn_of _ (by decide +kernel)) ggL_isDone_X6_price
set_option maxRecDepth 20000 in
theorem ggL_isDone_X6_strike : GoodIn wsL_isDone wsX6_strike := goodIn_ca (goodIn_ca (goodIn_r _ [249, 203, 192, 193, 194, 15, 195, 196, 197, 20, 198, 27, 28, 29, 30, 31, 32, 39, 40, 41, 42, 43, 44, 45, 46, 47, 48, 49, 50, 51, 52, 53, 54, 55, 199, 200, 201, 202, 84, 85, 89, 90, 91, 92, 26, 204, 205, 206, 88, 207, 102, 208, 209, 210, 211, 101, 212, 4, 5, 6, 213, 214, 215, 216, 105, 217, 218, 219, 220, 221, 222, 223, 224, 225, 226, 227, 228, 229, 230, 163, 164, 231, 232, 233, 234, 235, 236, 24, 237, 238, 239, 240, 241, 242, 243, 244, 124, 125, 245, 166, 167, 168, 448, 449, 450, 451, 452, 453, 454, 419, 420, 421, 422, 423, 424, 425, 426, 427, 428, 429, 430, 457, 458, 455, 456] (by decide +kernel) (by decide +kernel)) (goodIn_sub (fun _ h => List.mem_cons_of_mem _ (List.mem_append_right _ h)) (by decide +kernel))) (goodIn_sub (fun _ h => List.mem_cons_of_mem _ (List.mem_append_left _ (List.mem_append_right _ h))) (by decide +kernel))
set_option maxRecDepth 20000 in
theorem gL_isDone_X6_strike : GoodIn wsL_isDone (wsV RL 43 RX6 yX6_strike wsX6_strike) := goodIn_app (goodIn_of _ (by decide +kernel)) ggL_isDone_X6_strike
set_option maxRecDepth 20000 in
theorem ggL_isDone_X6_apart : GoodIn wsL_isDone wsX6_apart := goodIn_ca (goodIn_ca (goodIn_r _ [253, 84, 85, 254, 255, 256, 15, 257, 196, 197, 89, 90, 91, 92, 26, 258, 259, 260, 261, 262, 263, 264, 265, 266, 267, 268, 419, 420, 421, 422, 423, 424, 425, 426, 427] (by decide +kernel) (by decide +kernel)) (goodIn_sub (fun _ h => List.mem_cons_of_mem _ (List.mem_append_left _ (List.mem_append_right _ h))) (by decide +kernel))) (goodIn_sub (fun _ h => List.mem_cons_of_mem _ (List.mem_append_right _ h)) (by decide +kernel))
set_option maxRecDepth 20000 in
theorem gL_isDone_X6_apart : GoodIn wsL_isDone (wsV RL 46 RX6 yX6_apart wsX6_apart) := goodIn_app (goodIn_of _ (by decide +kernel)) ggL_isDone_X6_apart
set_option maxRecDepth 20000 in
theorem ggL_isDone_X6_join : GoodIn wsL_isDone wsX6_join := goodIn_ca (goodIn_ca (goodIn_r _ [272, 84, 85, 254, 20, 198, 255, 256, 15, 257, 196, 197, 89, 90, 91, 92, 26, 258, 259, 260, 261, 273, 274, 275, 276, 22, 37, 25, 63, 27, 28, 29, 30, 31, 32, 39, 40, 41, 42, 43, 44, 45, 46, 47, 48, 49, 50, 51, 52, 53, 54, 55, 277, 278, 279, 280, 281, 282, 283, 284, 285, 286, 287, 288, 289, 290, 291, 292, 293, 294, 295, 296, 297, 298, 299, 300, 301, 226, 4, 5, 6, 302, 303, 304, 305, 306, 307, 308, 309, 310, 311, 312, 313, 314, 315, 316, 317, 318, 319, 320, 321, 322, 323, 324, 325, 326, 327, 328, 38, 329, 330, 331, 232, 233, 234, 235, 236, 24, 419, 420, 421, 422, 423, 424, 425, 426, 427, 428, 429, 430, 431, 432, 433, 434, 435, 436, 437, 438, 439, 440, 441, 442, 443, 444, 445, 446, 447, 448, 449, 450, 451, 452, 453, 454, 455, 456] (by decide +kernel) (by decide +kernel)) (goodIn_sub (fun _ h => List.mem_cons_of_mem _ (List.mem_append_left _ (List.mem_append_right _ h))) (by decide +kernel))) (goodIn_sub (fun _ h => List.mem_cons_of_mem _ (List.mem_append_right _ h)) (by decide +kernel))
set_option maxRecDepth 20000 in
theorem gL_isDone_X6_join : GoodIn wsL_isDone (wsV RL 49 RX6 yX6_join wsX6_join) := goodIn_app (goodIn_of _ (by decide +kernel)) ggL_isDone_X6_join
set_option maxRecDepth 20000 in
theorem ggL_isDone_X6_hold : GoodIn wsL_isDone wsX6_hold := goodIn_ca (goodIn_ca (goodIn_ca (goodIn_r _ [335, 17, 18, 84, 85, 25, 336, 337, 67, 19, 254, 255, 256, 15, 257, 196, 197, 338, 339, 340, 341, 21, 342, 27, 28, 29, 30, 31, 32, 39, 40, 41, 42, 43, 44, 45, 46, 47, 48, 49, 50, 51, 52, 53, 54, 55, 192, 193, 194, 195, 20, 198, 89, 90, 91, 92, 26, 343, 344, 345, 346, 190, 203, 301, 63, 347, 71, 226, 4, 5, 6, 348, 349, 350, 351, 22, 37, 297, 298, 302, 303, 304, 305, 306, 307, 352, 353, 354, 355, 281, 356, 285, 64, 65, 66, 68, 69, 70, 72, 73, 74, 75, 357, 358, 359, 360, 361, 362, 363, 364, 365, 366, 97, 98, 367, 368, 283, 369, 286, 287, 288, 280, 282, 284, 120, 121, 122, 123, 124, 125, 126, 127, 128, 129, 130, 131, 132, 133, 134, 135, 136, 137, 109, 138, 139, 140, 141, 142, 143, 144, 145, 146, 147, 148, 149, 150, 151, 152, 153, 154, 155, 156, 157, 158, 159, 160, 161, 162, 163, 164, 165, 166, 167, 168, 419, 420, 421, 422, 423, 424, 425, 426, 427, 440, 441, 442, 443, 444, 445, 446, 447, 428, 429, 430, 448, 449, 450, 451, 452, 453, 454, 431, 432, 433, 434, 435, 436, 437, 438, 439] (by decide +kernel) (by decide +kernel)) (goodIn_sub (fun _ h => List.mem_cons_of_mem _ (List.mem_append_left _ (List.mem_append_left _ (List.mem_append_right _ h)))) (by decide +kernel))) (goodIn_sub (fun _ h => List.mem_cons_of_mem _ (List.mem_append_left _ (List.mem_append_right _ h))) (by decide +kernel))) (goodIn_sub (fun _ h => List.mem_cons_of_mem _ (List.mem_append_right _ h)) (by decide +kernel))
set_option maxRecDepth 20000 in
theorem gL_isDone_X6_hold : GoodIn wsL_isDone (wsV RL 52 RX6 yX6_hold wsX6_hold) := goodIn_app (goodIn_of _ (by decide +kernel)) ggL_isDone_X6_hold
set_option maxRecDepth 20000 in
theorem ggL_isDone_X6_giveBack : GoodIn wsL_isDone wsX6_giveBack := goodIn_ca (goodIn_ca (goodIn_r _ [373, 84, 85, 22, 37, 329, 330, 297, 298, 19, 374, 322, 338, 339, 340, 15, 341, 196, 197, 21, 342, 27, 28, 29, 30, 31, 32, 39, 40, 41, 42, 43, 44, 45, 46, 47, 48, 49, 50, 51, 52, 53, 54, 55, 192, 193, 194, 195, 20, 198, 89, 90, 91, 92, 26, 302, 303, 304, 305, 306, 307, 325, 326, 327, 328, 38, 331, 232, 233, 234, 235, 236, 24, 419, 420, 421, 422, 423, 424, 425, 426, 427, 431, 432, 433, 434, 435, 436, 437, 438, 439, 440, 441, 442, 443, 444, 445, 446, 447, 428, 429, 430, 455, 456] (by decide +kernel) (by decide +kernel)) (goodIn_sub (fun _ h => List.mem_cons_of_mem _ (List.mem_append_left _ (List.mem_append_right _ h))) (by decide +kernel))) (goodIn_sub (fun _ h => List.mem_cons_of_mem _ (List.mem_append_right _ h)) (by decide +kernel))
set_option maxRecDepth 20000 in
theorem gL_isDone_X6_giveBack : GoodIn wsL_isDone (wsV RL 56 RX6 yX6_giveBack wsX6_giveBack) := goodIn_app (goodIn_of _ (by decide +kernel)) ggL_isDone_X6_giveBack
set_option maxRecDepth 20000 in
theorem ggL_isDone_X6_pledge : GoodIn wsL_isDone wsX6_pledge := goodIn_ca (goodIn_ca (goodIn_ca (goodIn_r _ [378, 17, 18, 84, 85, 190, 236, 230, 163, 5, 164, 227, 379, 380, 381, 338, 339, 340, 15, 341, 196, 197, 21, 342, 27, 28, 29, 30, 31, 32, 39, 40, 41, 42, 43, 44, 45, 46, 47, 48, 49, 50, 51, 52, 53, 54, 55, 192, 193, 194, 195, 20, 198, 199, 200, 201, 202, 203, 89, 90, 91, 92, 26, 204, 205, 206, 88, 207, 102, 208, 209, 210, 211, 101, 212, 4, 6, 213, 214, 215, 216, 105, 217, 218, 219, 220, 382, 383, 384, 385, 386, 23, 387, 388, 389, 390, 97, 98, 391, 392, 120, 121, 122, 123, 124, 125, 126, 127, 128, 129, 130, 131, 132, 133, 134, 135, 136, 137, 109, 138, 139, 140, 141, 142, 143, 144, 145, 146, 147, 148, 149, 150, 151, 152, 153, 154, 155, 156, 157, 158, 159, 160, 161, 162, 165, 166, 167, 168, 448, 449, 450, 451, 452, 453, 454, 455, 456, 457, 458, 419, 420, 421, 422, 423, 424, 425, 426, 427, 428, 429, 430] (by decide +kernel) (by decide +kernel)) (goodIn_sub (fun _ h => List.mem_cons_of_mem _ (List.mem_append_left _ (List.mem_append_left _ (List.mem_append_right _ h)))) (by decide +kernel))) (goodIn_sub (fun _ h => List.mem_cons_of_mem _ (List.mem_append_left _ (List.mem_append_right _ h))) (by decide +kernel))) (goodIn_sub (fun _ h => List.mem_cons_of_mem _ (List.mem_append_right _ h)) (by decide +kernel))
set_option maxRecDepth 20000 in
theorem gL_isDone_X6_pledge : GoodIn wsL_isDone (wsV RL 59 RX6 yX6_pledge wsX6_pledge) := goodIn_app (goodIn_of _ (by decide +kernel)) ggL_isDone_X6_pledge
set_option maxRecDepth 20000 in
theorem ggL_isDone_X6_pass : GoodIn wsL_isDone wsX6_pass := goodIn_ca (goodIn_ca (goodIn_r _ [396, 17, 18, 84, 85, 19, 59, 60, 61, 15, 62, 25, 63, 27, 28, 29, 30, 31, 32, 39, 40, 41, 42, 43, 44, 45, 46, 47, 48, 49, 50, 51, 52, 53, 54, 55, 64, 65, 66, 67, 68, 69, 70, 71, 72, 73, 74, 75, 56, 57, 58, 419, 420, 421, 422, 423, 424, 425, 426, 427, 428, 429, 430, 440, 441, 442, 443, 444, 445, 446, 447, 431, 432, 433, 434, 435, 436, 437, 438, 439, 448, 449, 450, 451, 452, 453, 454] (by decide +kernel) (by decide +kernel)) (goodIn_sub (fun _ h => List.mem_cons_of_mem _ (List.mem_append_left _ (List.mem_append_left _ (List.mem_append_right _ h)))) (by decide +kernel))) (goodIn_sub (fun _ h => List.mem_cons_of_mem _ (List.mem_append_left _ (List.mem_append_right _ h))) (by decide +kernel))
set_option maxRecDepth 20000 in
theorem gL_isDone_X6_pass : GoodIn wsL_isDone (wsV RL 63 RX6 yX6_pass wsX6_pass) := goodIn_app (goodIn_of _ (by decide +kernel)) ggL_isDone_X6_pass
set_option maxRecDepth 20000 in
theorem ggL_isDone_X6_buy : GoodIn wsL_isDone wsX6_buy := goodIn_ca (goodIn_ca (goodIn_r _ [400, 84, 85, 190, 203, 22, 236, 191, 401, 402, 305, 19, 254, 255, 256, 15, 257, 196, 197, 338, 339, 340, 341, 21, 342, 27, 28, 29, 30, 31, 32, 39, 40, 41, 42, 43, 44, 45, 46, 47, 48, 49, 50, 51, 52, 53, 54, 55, 192, 193, 194, 195, 20, 198, 89, 90, 91, 92, 26, 403, 404, 405, 406, 25, 63, 407, 408, 409, 410, 411, 301, 412, 413, 347, 71, 348, 349, 350, 351, 37, 297, 298, 302, 303, 304, 306, 307, 352, 353, 354, 355, 281, 356, 285, 64, 65, 66, 67, 68, 69, 70, 72, 73, 74, 75, 357, 358, 359, 343, 344, 345, 346, 226, 4, 5, 6, 383, 384, 385, 386, 23, 414, 415, 416, 324, 417, 418, 364, 365, 366, 97, 98, 367, 368, 283, 369, 277, 278, 279, 280, 282, 284, 120, 121, 122, 123, 124, 125, 126, 127, 128, 129, 130, 131, 132, 133, 134, 135, 136, 137, 109, 138, 139, 140, 141, 142, 143, 144, 145, 146, 147, 148, 149, 150, 151, 152, 153, 154, 155, 156, 157, 158, 159, 160, 161, 162, 163, 164, 165, 166, 167, 168, 448, 449, 450, 451, 452, 453, 454, 419, 420, 421, 422, 423, 424, 425, 426, 427, 455, 456, 431, 432, 433, 434, 435, 436, 437, 438, 439, 428, 429, 430, 440, 441, 442, 443, 444, 445, 446, 447] (by decide +kernel) (by decide +kernel)) (goodIn_sub (fun _ h => List.mem_cons_of_mem _ (List.mem_append_left _ (List.mem_append_right _ h))) (by decide +kernel))) (goodIn_sub (fun _ h => List.mem_cons_of_mem _ (List.mem_append_right _ h)) (by decide +kernel))
set_option maxRecDepth 20000 in
theorem gL_isDone_X6_buy : GoodIn wsL_isDone (wsV RL 66 RX6 yX6_buy wsX6_buy) := goodIn_app (goodIn_of _ (by decide +kernel)) ggL_isDone_X6_buy
theorem dL_isDone_0 : decode cL_isDone 0 = .ok (.iload_n 1, 1) := by decide +kernel
theorem dL_isDone_1 : decode cL_isDone 1 = .ok (.iconst 4, 1) := by decide +kernel
theorem dL_isDone_2 : decode cL_isDone 2 = .ok (.ishr, 1) := by decide +kernel
theorem dL_isDone_3 : decode cL_isDone 3 = .ok (.iconst 3, 1) := by decide +kernel
theorem dL_isDone_4 : decode cL_isDone 4 = .ok (.invokestatic 18, 3) := by decide +kernel
theorem dL_isDone_7 : decode cL_isDone 7 = .ok (.istore_n 2, 1) := by decide +kernel
theorem dL_isDone_8 : decode cL_isDone 8 = .ok (.iload_n 1, 1) := by decide +kernel
theorem dL_isDone_9 : decode cL_isDone 9 = .ok (.bipush 6, 2) := by decide +kernel
theorem dL_isDone_11 : decode cL_isDone 11 = .ok (.ishr, 1) := by decide +kernel
theorem dL_isDone_12 : decode cL_isDone 12 = .ok (.iconst 1, 1) := by decide +kernel
theorem dL_isDone_13 : decode cL_isDone 13 = .ok (.aload_n 0, 1) := by decide +kernel
theorem dL_isDone_14 : decode cL_isDone 14 = .ok (.iconst 2, 1) := by decide +kernel
theorem dL_isDone_15 : decode cL_isDone 15 = .ok (.invokevirtual 32, 3) := by decide +kernel
theorem dL_isDone_18 : decode cL_isDone 18 = .ok (.invokestatic 35, 3) := by decide +kernel
theorem dL_isDone_21 : decode cL_isDone 21 = .ok (.invokestatic 18, 3) := by decide +kernel
theorem dL_isDone_24 : decode cL_isDone 24 = .ok (.istore_n 3, 1) := by decide +kernel
theorem dL_isDone_25 : decode cL_isDone 25 = .ok (.iload_n 1, 1) := by decide +kernel
theorem dL_isDone_26 : decode cL_isDone 26 = .ok (.bipush 8, 2) := by decide +kernel
theorem dL_isDone_28 : decode cL_isDone 28 = .ok (.ishr, 1) := by decide +kernel
theorem dL_isDone_29 : decode cL_isDone 29 = .ok (.iconst 1, 1) := by decide +kernel
theorem dL_isDone_30 : decode cL_isDone 30 = .ok (.aload_n 0, 1) := by decide +kernel
theorem dL_isDone_31 : decode cL_isDone 31 = .ok (.iconst 1, 1) := by decide +kernel
theorem dL_isDone_32 : decode cL_isDone 32 = .ok (.invokevirtual 32, 3) := by decide +kernel
theorem dL_isDone_35 : decode cL_isDone 35 = .ok (.invokestatic 35, 3) := by decide +kernel
theorem dL_isDone_38 : decode cL_isDone 38 = .ok (.invokestatic 18, 3) := by decide +kernel
theorem dL_isDone_41 : decode cL_isDone 41 = .ok (.istore 4, 2) := by decide +kernel
theorem dL_isDone_43 : decode cL_isDone 43 = .ok (.iload_n 1, 1) := by decide +kernel
theorem dL_isDone_44 : decode cL_isDone 44 = .ok (.bipush 23, 2) := by decide +kernel
theorem dL_isDone_46 : decode cL_isDone 46 = .ok (.invokestatic 18, 3) := by decide +kernel
theorem dL_isDone_49 : decode cL_isDone 49 = .ok (.tableswitch 274 0 15 #[79, 107, 126, 143, 163, 184, 184, 193, 193, 202, 202, 224, 235, 235, 256, 256], 79) := by decide +kernel
theorem dL_isDone_128 : decode cL_isDone 128 = .ok (.aload_n 0, 1) := by decide +kernel
theorem dL_isDone_129 : decode cL_isDone 129 = .ok (.iconst 1, 1) := by decide +kernel
theorem dL_isDone_130 : decode cL_isDone 130 = .ok (.iload_n 1, 1) := by decide +kernel
theorem dL_isDone_131 : decode cL_isDone 131 = .ok (.iconst 5, 1) := by decide +kernel
theorem dL_isDone_132 : decode cL_isDone 132 = .ok (.ishr, 1) := by decide +kernel
theorem dL_isDone_133 : decode cL_isDone 133 = .ok (.iconst 5, 1) := by decide +kernel
theorem dL_isDone_134 : decode cL_isDone 134 = .ok (.invokestatic 18, 3) := by decide +kernel
theorem dL_isDone_137 : decode cL_isDone 137 = .ok (.iadd, 1) := by decide +kernel
theorem dL_isDone_138 : decode cL_isDone 138 = .ok (.iconst 1, 1) := by decide +kernel
theorem dL_isDone_139 : decode cL_isDone 139 = .ok (.iload_n 1, 1) := by decide +kernel
theorem dL_isDone_140 : decode cL_isDone 140 = .ok (.bipush 7, 2) := by decide +kernel
theorem dL_isDone_142 : decode cL_isDone 142 = .ok (.ishr, 1) := by decide +kernel
theorem dL_isDone_143 : decode cL_isDone 143 = .ok (.bipush 90, 2) := by decide +kernel
theorem dL_isDone_145 : decode cL_isDone 145 = .ok (.invokestatic 18, 3) := by decide +kernel
theorem dL_isDone_148 : decode cL_isDone 148 = .ok (.iadd, 1) := by decide +kernel
theorem dL_isDone_149 : decode cL_isDone 149 = .ok (.invokevirtual 26, 3) := by decide +kernel
theorem dL_isDone_152 : decode cL_isDone 152 = .ok (.pop, 1) := by decide +kernel
theorem dL_isDone_153 : decode cL_isDone 153 = .ok (.goto 179, 3) := by decide +kernel
theorem dL_isDone_156 : decode cL_isDone 156 = .ok (.aload_n 0, 1) := by decide +kernel
theorem dL_isDone_157 : decode cL_isDone 157 = .ok (.iconst 1, 1) := by decide +kernel
theorem dL_isDone_158 : decode cL_isDone 158 = .ok (.iload_n 1, 1) := by decide +kernel
theorem dL_isDone_159 : decode cL_isDone 159 = .ok (.iconst 5, 1) := by decide +kernel
theorem dL_isDone_160 : decode cL_isDone 160 = .ok (.ishr, 1) := by decide +kernel
theorem dL_isDone_161 : decode cL_isDone 161 = .ok (.sipush 300, 3) := by decide +kernel
theorem dL_isDone_164 : decode cL_isDone 164 = .ok (.invokestatic 18, 3) := by decide +kernel
theorem dL_isDone_167 : decode cL_isDone 167 = .ok (.iadd, 1) := by decide +kernel
theorem dL_isDone_168 : decode cL_isDone 168 = .ok (.invokevirtual 22, 3) := by decide +kernel
theorem dL_isDone_171 : decode cL_isDone 171 = .ok (.pop, 1) := by decide +kernel
theorem dL_isDone_172 : decode cL_isDone 172 = .ok (.goto 160, 3) := by decide +kernel
theorem dL_isDone_175 : decode cL_isDone 175 = .ok (.aload_n 0, 1) := by decide +kernel
theorem dL_isDone_176 : decode cL_isDone 176 = .ok (.iload_n 1, 1) := by decide +kernel
theorem dL_isDone_177 : decode cL_isDone 177 = .ok (.iconst 4, 1) := by decide +kernel
theorem dL_isDone_178 : decode cL_isDone 178 = .ok (.ishr, 1) := by decide +kernel
theorem dL_isDone_179 : decode cL_isDone 179 = .ok (.sipush 500, 3) := by decide +kernel
theorem dL_isDone_182 : decode cL_isDone 182 = .ok (.invokestatic 18, 3) := by decide +kernel
theorem dL_isDone_185 : decode cL_isDone 185 = .ok (.invokevirtual 29, 3) := by decide +kernel
theorem dL_isDone_188 : decode cL_isDone 188 = .ok (.pop, 1) := by decide +kernel
theorem dL_isDone_189 : decode cL_isDone 189 = .ok (.goto 143, 3) := by decide +kernel
theorem dL_isDone_192 : decode cL_isDone 192 = .ok (.aload_n 0, 1) := by decide +kernel
theorem dL_isDone_193 : decode cL_isDone 193 = .ok (.iload 4, 2) := by decide +kernel
theorem dL_isDone_195 : decode cL_isDone 195 = .ok (.iconst 1, 1) := by decide +kernel
theorem dL_isDone_196 : decode cL_isDone 196 = .ok (.iload_n 1, 1) := by decide +kernel
theorem dL_isDone_197 : decode cL_isDone 197 = .ok (.iconst 5, 1) := by decide +kernel
theorem dL_isDone_198 : decode cL_isDone 198 = .ok (.ishr, 1) := by decide +kernel
theorem dL_isDone_199 : decode cL_isDone 199 = .ok (.bipush 120, 2) := by decide +kernel
theorem dL_isDone_201 : decode cL_isDone 201 = .ok (.invokestatic 18, 3) := by decide +kernel
theorem dL_isDone_204 : decode cL_isDone 204 = .ok (.iadd, 1) := by decide +kernel
theorem dL_isDone_205 : decode cL_isDone 205 = .ok (.invokevirtual 40, 3) := by decide +kernel
theorem dL_isDone_208 : decode cL_isDone 208 = .ok (.pop, 1) := by decide +kernel
theorem dL_isDone_209 : decode cL_isDone 209 = .ok (.goto 123, 3) := by decide +kernel
theorem dL_isDone_212 : decode cL_isDone 212 = .ok (.iload_n 1, 1) := by decide +kernel
theorem dL_isDone_213 : decode cL_isDone 213 = .ok (.bipush 11, 2) := by decide +kernel
theorem dL_isDone_215 : decode cL_isDone 215 = .ok (.ishr, 1) := by decide +kernel
theorem dL_isDone_216 : decode cL_isDone 216 = .ok (.iconst 3, 1) := by decide +kernel
theorem dL_isDone_217 : decode cL_isDone 217 = .ok (.invokestatic 18, 3) := by decide +kernel
theorem dL_isDone_220 : decode cL_isDone 220 = .ok (.ifCond .ne 112, 3) := by decide +kernel
theorem dL_isDone_223 : decode cL_isDone 223 = .ok (.aload_n 0, 1) := by decide +kernel
theorem dL_isDone_224 : decode cL_isDone 224 = .ok (.iload 4, 2) := by decide +kernel
theorem dL_isDone_226 : decode cL_isDone 226 = .ok (.invokevirtual 43, 3) := by decide +kernel
theorem dL_isDone_229 : decode cL_isDone 229 = .ok (.pop, 1) := by decide +kernel
theorem dL_isDone_230 : decode cL_isDone 230 = .ok (.goto 102, 3) := by decide +kernel
theorem dL_isDone_233 : decode cL_isDone 233 = .ok (.aload_n 0, 1) := by decide +kernel
theorem dL_isDone_234 : decode cL_isDone 234 = .ok (.iload_n 2, 1) := by decide +kernel
theorem dL_isDone_235 : decode cL_isDone 235 = .ok (.invokevirtual 46, 3) := by decide +kernel
theorem dL_isDone_238 : decode cL_isDone 238 = .ok (.pop, 1) := by decide +kernel
theorem dL_isDone_239 : decode cL_isDone 239 = .ok (.goto 93, 3) := by decide +kernel
theorem dL_isDone_242 : decode cL_isDone 242 = .ok (.aload_n 0, 1) := by decide +kernel
theorem dL_isDone_243 : decode cL_isDone 243 = .ok (.iload_n 2, 1) := by decide +kernel
theorem dL_isDone_244 : decode cL_isDone 244 = .ok (.invokevirtual 49, 3) := by decide +kernel
theorem dL_isDone_247 : decode cL_isDone 247 = .ok (.pop, 1) := by decide +kernel
theorem dL_isDone_248 : decode cL_isDone 248 = .ok (.goto 84, 3) := by decide +kernel
theorem dL_isDone_251 : decode cL_isDone 251 = .ok (.aload_n 0, 1) := by decide +kernel
theorem dL_isDone_252 : decode cL_isDone 252 = .ok (.iload_n 2, 1) := by decide +kernel
theorem dL_isDone_253 : decode cL_isDone 253 = .ok (.iload_n 3, 1) := by decide +kernel
theorem dL_isDone_254 : decode cL_isDone 254 = .ok (.iload 4, 2) := by decide +kernel
theorem dL_isDone_256 : decode cL_isDone 256 = .ok (.iconst 1, 1) := by decide +kernel
theorem dL_isDone_257 : decode cL_isDone 257 = .ok (.iload_n 1, 1) := by decide +kernel
theorem dL_isDone_258 : decode cL_isDone 258 = .ok (.iconst 5, 1) := by decide +kernel
theorem dL_isDone_259 : decode cL_isDone 259 = .ok (.ishr, 1) := by decide +kernel
theorem dL_isDone_260 : decode cL_isDone 260 = .ok (.bipush 60, 2) := by decide +kernel
theorem dL_isDone_262 : decode cL_isDone 262 = .ok (.invokestatic 18, 3) := by decide +kernel
theorem dL_isDone_265 : decode cL_isDone 265 = .ok (.iadd, 1) := by decide +kernel
theorem dL_isDone_266 : decode cL_isDone 266 = .ok (.invokevirtual 52, 3) := by decide +kernel
theorem dL_isDone_269 : decode cL_isDone 269 = .ok (.pop, 1) := by decide +kernel
theorem dL_isDone_270 : decode cL_isDone 270 = .ok (.goto 62, 3) := by decide +kernel
theorem dL_isDone_273 : decode cL_isDone 273 = .ok (.aload_n 0, 1) := by decide +kernel
theorem dL_isDone_274 : decode cL_isDone 274 = .ok (.iload_n 3, 1) := by decide +kernel
theorem dL_isDone_275 : decode cL_isDone 275 = .ok (.iload 4, 2) := by decide +kernel
theorem dL_isDone_277 : decode cL_isDone 277 = .ok (.invokevirtual 56, 3) := by decide +kernel
theorem dL_isDone_280 : decode cL_isDone 280 = .ok (.pop, 1) := by decide +kernel
theorem dL_isDone_281 : decode cL_isDone 281 = .ok (.goto 51, 3) := by decide +kernel
theorem dL_isDone_284 : decode cL_isDone 284 = .ok (.aload_n 0, 1) := by decide +kernel
theorem dL_isDone_285 : decode cL_isDone 285 = .ok (.iload_n 3, 1) := by decide +kernel
theorem dL_isDone_286 : decode cL_isDone 286 = .ok (.iload 4, 2) := by decide +kernel
theorem dL_isDone_288 : decode cL_isDone 288 = .ok (.iconst 1, 1) := by decide +kernel
theorem dL_isDone_289 : decode cL_isDone 289 = .ok (.iload_n 1, 1) := by decide +kernel
theorem dL_isDone_290 : decode cL_isDone 290 = .ok (.iconst 5, 1) := by decide +kernel
theorem dL_isDone_291 : decode cL_isDone 291 = .ok (.ishr, 1) := by decide +kernel
theorem dL_isDone_292 : decode cL_isDone 292 = .ok (.bipush 90, 2) := by decide +kernel
theorem dL_isDone_294 : decode cL_isDone 294 = .ok (.invokestatic 18, 3) := by decide +kernel
theorem dL_isDone_297 : decode cL_isDone 297 = .ok (.iadd, 1) := by decide +kernel
theorem dL_isDone_298 : decode cL_isDone 298 = .ok (.invokevirtual 59, 3) := by decide +kernel
theorem dL_isDone_301 : decode cL_isDone 301 = .ok (.pop, 1) := by decide +kernel
theorem dL_isDone_302 : decode cL_isDone 302 = .ok (.goto 30, 3) := by decide +kernel
theorem dL_isDone_305 : decode cL_isDone 305 = .ok (.aload_n 0, 1) := by decide +kernel
theorem dL_isDone_306 : decode cL_isDone 306 = .ok (.iconst 1, 1) := by decide +kernel
theorem dL_isDone_307 : decode cL_isDone 307 = .ok (.iload_n 1, 1) := by decide +kernel
theorem dL_isDone_308 : decode cL_isDone 308 = .ok (.iconst 4, 1) := by decide +kernel
theorem dL_isDone_309 : decode cL_isDone 309 = .ok (.ishr, 1) := by decide +kernel
theorem dL_isDone_310 : decode cL_isDone 310 = .ok (.bipush 30, 2) := by decide +kernel
theorem dL_isDone_312 : decode cL_isDone 312 = .ok (.invokestatic 18, 3) := by decide +kernel
theorem dL_isDone_315 : decode cL_isDone 315 = .ok (.iadd, 1) := by decide +kernel
theorem dL_isDone_316 : decode cL_isDone 316 = .ok (.invokevirtual 63, 3) := by decide +kernel
theorem dL_isDone_319 : decode cL_isDone 319 = .ok (.pop, 1) := by decide +kernel
theorem dL_isDone_320 : decode cL_isDone 320 = .ok (.goto 12, 3) := by decide +kernel
theorem dL_isDone_323 : decode cL_isDone 323 = .ok (.aload_n 0, 1) := by decide +kernel
theorem dL_isDone_324 : decode cL_isDone 324 = .ok (.iload_n 2, 1) := by decide +kernel
theorem dL_isDone_325 : decode cL_isDone 325 = .ok (.iload_n 3, 1) := by decide +kernel
theorem dL_isDone_326 : decode cL_isDone 326 = .ok (.iload 4, 2) := by decide +kernel
theorem dL_isDone_328 : decode cL_isDone 328 = .ok (.invokevirtual 66, 3) := by decide +kernel
theorem dL_isDone_331 : decode cL_isDone 331 = .ok (.pop, 1) := by decide +kernel
theorem dL_isDone_332 : decode cL_isDone 332 = .ok (.iconst 1, 1) := by decide +kernel
theorem dL_isDone_333 : decode cL_isDone 333 = .ok (.ireturn, 1) := by decide +kernel
theorem dL_isDone_334 : decode cL_isDone 334 = .ok (.astore 5, 2) := by decide +kernel
theorem dL_isDone_336 : decode cL_isDone 336 = .ok (.iconst 0, 1) := by decide +kernel
theorem dL_isDone_337 : decode cL_isDone 337 = .ok (.ireturn, 1) := by decide +kernel
theorem dL_isDone_338 : decode cL_isDone 338 = .ok (.astore 5, 2) := by decide +kernel
theorem dL_isDone_340 : decode cL_isDone 340 = .ok (.iconst 0, 1) := by decide +kernel
theorem dL_isDone_341 : decode cL_isDone 341 = .ok (.ireturn, 1) := by decide +kernel
