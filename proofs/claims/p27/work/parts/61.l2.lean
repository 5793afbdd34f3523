set_option maxRecDepth 20000 in
theorem ggL_isTaken_X6_ofGift : GoodIn wsL_isTaken wsX6_ofGift := goodIn_ca (goodIn_ca (goodIn_r _ [5, 6, 7, 8, 9, 10, 11, 12, 13, 14, 15, 16, 17, 18, 19, 20, 21, 22, 23, 24, 25, 26, 27, 28, 29, 30, 31, 32, 33, 34, 35, 36, 37, 38, 39, 40, 41, 42, 43, 44, 45, 46, 47, 48, 49, 50, 51, 52, 53, 54, 55, 56, 57, 58, 59, 60, 61, 62, 63, 64, 65, 66, 67, 68, 69, 70, 71, 72, 73, 74, 75, 76, 77, 78, 79, 80, 81, 82, 83, 84] (by decide +kernel) (by decide +kernel)) (goodIn_sub (fun _ h => List.mem_cons_of_mem _ (List.mem_append_left _ (List.mem_append_right _ h))) (by decide +kernel))) (goodIn_sub (fun _ h => List.mem_cons_of_mem _ (List.mem_append_right _ h)) (by decide +kernel))
set_option maxRecDepth 20000 in
theorem gL_isTaken_X6_ofGift : GoodIn wsL_isTaken (wsV RL 83 RX6 yX6_ofGift wsX6_ofGift) := goodIn_app (goodIn_of _ (by decide +kernel)) ggL_isTaken_X6_ofGift
theorem dL_isTaken_0 : decode cL_isTaken 0 = .ok (.iconst 0, 1) := by decide +kernel
theorem dL_isTaken_1 : decode cL_isTaken 1 = .ok (.istore_n 2, 1) := by decide +kernel
theorem dL_isTaken_2 : decode cL_isTaken 2 = .ok (.iload_n 2, 1) := by decide +kernel
theorem dL_isTaken_3 : decode cL_isTaken 3 = .ok (.aload_n 1, 1) := by decide +kernel
theorem dL_isTaken_4 : decode cL_isTaken 4 = .ok (.arraylength, 1) := by decide +kernel
theorem dL_isTaken_5 : decode cL_isTaken 5 = .ok (.if_icmp .ge 41, 3) := by decide +kernel
theorem dL_isTaken_8 : decode cL_isTaken 8 = .ok (.aload_n 0, 1) := by decide +kernel
theorem dL_isTaken_9 : decode cL_isTaken 9 = .ok (.iload_n 2, 1) := by decide +kernel
theorem dL_isTaken_10 : decode cL_isTaken 10 = .ok (.iconst 5, 1) := by decide +kernel
theorem dL_isTaken_11 : decode cL_isTaken 11 = .ok (.invokevirtual 83, 3) := by decide +kernel
theorem dL_isTaken_14 : decode cL_isTaken 14 = .ok (.iconst 1, 1) := by decide +kernel
theorem dL_isTaken_15 : decode cL_isTaken 15 = .ok (.if_icmp .ne 7, 3) := by decide +kernel
theorem dL_isTaken_18 : decode cL_isTaken 18 = .ok (.iconst 1, 1) := by decide +kernel
theorem dL_isTaken_19 : decode cL_isTaken 19 = .ok (.goto 4, 3) := by decide +kernel
theorem dL_isTaken_22 : decode cL_isTaken 22 = .ok (.iconst 0, 1) := by decide +kernel
theorem dL_isTaken_23 : decode cL_isTaken 23 = .ok (.aload_n 1, 1) := by decide +kernel
theorem dL_isTaken_24 : decode cL_isTaken 24 = .ok (.iload_n 2, 1) := by decide +kernel
theorem dL_isTaken_25 : decode cL_isTaken 25 = .ok (.iaload, 1) := by decide +kernel
theorem dL_isTaken_26 : decode cL_isTaken 26 = .ok (.iconst 1, 1) := by decide +kernel
theorem dL_isTaken_27 : decode cL_isTaken 27 = .ok (.if_icmp .ne 7, 3) := by decide +kernel
theorem dL_isTaken_30 : decode cL_isTaken 30 = .ok (.iconst 1, 1) := by decide +kernel
theorem dL_isTaken_31 : decode cL_isTaken 31 = .ok (.goto 4, 3) := by decide +kernel
theorem dL_isTaken_34 : decode cL_isTaken 34 = .ok (.iconst 0, 1) := by decide +kernel
theorem dL_isTaken_35 : decode cL_isTaken 35 = .ok (.if_icmp .eq 5, 3) := by decide +kernel
theorem dL_isTaken_38 : decode cL_isTaken 38 = .ok (.iconst 0, 1) := by decide +kernel
theorem dL_isTaken_39 : decode cL_isTaken 39 = .ok (.ireturn, 1) := by decide +kernel
theorem dL_isTaken_40 : decode cL_isTaken 40 = .ok (.iinc 2 1, 3) := by decide +kernel
theorem dL_isTaken_43 : decode cL_isTaken 43 = .ok (.goto (-41), 3) := by decide +kernel
theorem dL_isTaken_46 : decode cL_isTaken 46 = .ok (.iconst 1, 1) := by decide +kernel
theorem dL_isTaken_47 : decode cL_isTaken 47 = .ok (.ireturn, 1) := by decide +kernel
set_option maxRecDepth 20000 in
theorem ggL_isFair_X6_ofGift : GoodIn wsL_isFair wsX6_ofGift := goodIn_ca (goodIn_ca (goodIn_r _ [5, 6, 7, 8, 9, 10, 11, 12, 13, 14, 15, 16, 17, 18, 19, 20, 21, 22, 23, 24, 25, 26, 27, 28, 29, 30, 31, 32, 33, 34, 35, 36, 37, 38, 39, 40, 41, 42, 43, 44, 45, 46, 239, 240, 241, 242, 243, 244, 245, 246, 247, 248, 249, 250, 251, 252, 253, 254, 255, 256, 257, 258, 259, 260, 261, 262, 263, 264, 265, 266, 267, 268, 269, 270, 271, 272, 273, 274, 275, 276] (by decide +kernel) (by decide +kernel)) (goodIn_sub (fun _ h => List.mem_cons_of_mem _ (List.mem_append_left _ (List.mem_append_right _ h))) (by decide +kernel))) (goodIn_sub (fun _ h => List.mem_cons_of_mem _ (List.mem_append_right _ h)) (by decide +kernel))
set_option maxRecDepth 20000 in
theorem gL_isFair_X6_ofGift : GoodIn wsL_isFair (wsV RL 83 RX6 yX6_ofGift wsX6_ofGift) := goodIn_app (goodIn_of _ (by decide +kernel)) ggL_isFair_X6_ofGift
set_option maxRecDepth 20000 in
theorem ggL_isFair_X6_ofTill : GoodIn wsL_isFair wsX6_ofTill := goodIn_ca (goodIn_ca (goodIn_r _ [50, 8, 9, 51, 52, 4, 53, 6, 7, 54, 55, 56, 57, 58, 59, 60, 61, 62, 63, 64, 65, 10, 11, 18, 19, 24, 25, 26, 27, 28, 29, 30, 31, 32, 33, 34, 35, 36, 37, 38, 39, 40, 41, 42, 43, 44, 45, 46, 66, 67, 68, 69, 70, 71, 72, 73, 74, 75, 76, 77, 78, 79, 80, 81, 82, 83, 84, 85, 86, 87, 88, 89, 90, 91, 92, 93, 94, 95, 96, 97, 98, 99, 100, 101, 102, 103, 104, 105, 106, 107, 108, 109, 110, 111, 112, 113, 114, 115, 116, 117, 118, 119, 120, 121, 122, 123, 124, 125, 126, 127, 12, 13, 128, 129, 130, 131, 132, 133, 134, 135, 136, 137, 23, 15, 16, 138, 139, 140, 141, 142, 143, 144, 145, 146, 147, 148, 149, 150, 151, 152, 153, 154, 155, 156, 157, 158, 159, 160, 161, 162, 163, 164, 165, 166, 167, 168, 169, 170, 171, 172, 173, 174, 175, 176, 177, 178, 179, 180, 239, 240, 241, 242, 243, 244, 245, 246, 247, 248, 249, 250, 251, 252, 253, 254, 255, 256, 257, 258, 259, 260, 261, 262, 263, 264, 274, 275, 276, 265, 266, 267, 268, 269, 270, 271, 277, 278, 272, 273] (by decide +kernel) (by decide +kernel)) (goodIn_sub (fun _ h => List.mem_cons_of_mem _ (List.mem_append_right _ h)) (by decide +kernel))) (goodIn_sub (fun _ h => List.mem_cons_of_mem _ (List.mem_append_left _ (List.mem_append_right _ h))) (by decide +kernel))
set_option maxRecDepth 20000 in
theorem gL_isFair_X6_ofTill : GoodIn wsL_isFair (wsV RL 102 RX6 yX6_ofTill wsX6_ofTill) := goodIn_app (goodIn_of _ (by decide +kernel)) ggL_isFair_X6_ofTill
set_option maxRecDepth 20000 in
theorem ggL_isFair_X6_ofWish : GoodIn wsL_isFair wsX6_ofWish := goodIn_ca (goodIn_ca (goodIn_r _ [184, 8, 9, 118, 176, 116, 117, 185, 186, 187, 4, 188, 6, 7, 109, 110, 24, 25, 26, 27, 28, 29, 30, 31, 32, 33, 34, 35, 36, 37, 38, 39, 40, 41, 42, 43, 44, 45, 46, 59, 60, 61, 189, 190, 191, 192, 10, 11, 23, 12, 13, 193, 194, 195, 145, 196, 147, 148, 150, 151, 152, 197, 198, 199, 200, 201, 202, 203, 121, 122, 123, 204, 205, 206, 207, 208, 209, 265, 266, 267, 268, 269, 270, 271, 239, 240, 241, 242, 243, 244, 245, 246, 247, 274, 275, 276, 248, 249, 250, 251, 252, 253, 254, 255, 256, 257, 258, 259, 260, 261, 262, 263, 264, 277, 278] (by decide +kernel) (by decide +kernel)) (goodIn_sub (fun _ h => List.mem_cons_of_mem _ (List.mem_append_right _ h)) (by decide +kernel))) (goodIn_sub (fun _ h => List.mem_cons_of_mem _ (List.mem_append_left _ (List.mem_append_right _ h))) (by decide +kernel))
set_option maxRecDepth 20000 in
theorem gL_isFair_X6_ofWish : GoodIn wsL_isFair (wsV RL 105 RX6 yX6_ofWish wsX6_ofWish) := goodIn_app (goodIn_of _ (by decide +kernel)) ggL_isFair_X6_ofWish
set_option maxRecDepth 20000 in
theorem ggL_isFair_X6_wouldTake : GoodIn wsL_isFair wsX6_wouldTake := goodIn_ca (goodIn_r _ [213, 109, 110, 51, 52, 4, 53, 6, 7, 54, 55, 56, 57, 58, 24, 25, 26, 27, 28, 29, 30, 31, 32, 33, 34, 35, 36, 37, 38, 39, 40, 41, 42, 43, 44, 45, 46, 214, 215, 216, 217, 10, 11, 12, 13, 18, 19, 118, 120, 121, 122, 123, 66, 67, 68, 69, 70, 71, 218, 219, 220, 221, 95, 222, 223, 239, 240, 241, 242, 243, 244, 245, 246, 247, 274, 275, 276, 248, 249, 250, 251, 252, 253, 254, 255, 256, 257, 258, 259, 260, 261, 262, 263, 264, 265, 266, 267, 268, 269, 270, 271] (by decide +kernel) (by decide +kernel)) (goodIn_sub (fun _ h => List.mem_cons_of_mem _ (List.mem_append_left _ (List.mem_append_right _ h))) (by decide +kernel))
set_option maxRecDepth 20000 in
theorem gL_isFair_X6_wouldTake : GoodIn wsL_isFair (wsV RL 80 RX6 yX6_wouldTake wsX6_wouldTake) := goodIn_app (goodIn_of _ (by decide +kernel)) ggL_isFair_X6_wouldTake
set_option maxRecDepth 20000 in
theorem ggL_isFair_X6_shop : GoodIn wsL_isFair wsX6_shop := goodIn_ca (goodIn_r _ [227, 8, 9, 78, 109, 132, 10, 228, 229, 76, 230, 24, 25, 26, 27, 28, 29, 231, 232, 233, 4, 234, 11, 23, 30, 31, 32, 33, 34, 35, 36, 37, 38, 39, 40, 41, 42, 43, 44, 45, 46, 59, 60, 61, 235, 236, 237, 238, 77, 79, 80, 81, 82, 83, 84, 85, 86, 87, 88, 89, 90, 239, 240, 241, 242, 243, 244, 245, 246, 247, 274, 275, 276, 248, 249, 250, 251, 252, 253, 254, 255, 256, 257, 258, 259, 260, 261, 262, 263, 264, 265, 266, 267, 268, 269, 270, 271] (by decide +kernel) (by decide +kernel)) (goodIn_sub (fun _ h => List.mem_cons_of_mem _ (List.mem_append_right _ h)) (by decide +kernel))
set_option maxRecDepth 20000 in
theorem gL_isFair_X6_shop : GoodIn wsL_isFair (wsV RL 32 RX6 yX6_shop wsX6_shop) := goodIn_app (goodIn_of _ (by decide +kernel)) ggL_isFair_X6_shop
theorem dL_isFair_0 : decode cL_isFair 0 = .ok (.iconst 0, 1) := by decide +kernel
theorem dL_isFair_1 : decode cL_isFair 1 = .ok (.istore 4, 2) := by decide +kernel
theorem dL_isFair_3 : decode cL_isFair 3 = .ok (.iconst 0, 1) := by decide +kernel
theorem dL_isFair_4 : decode cL_isFair 4 = .ok (.istore 5, 2) := by decide +kernel
theorem dL_isFair_6 : decode cL_isFair 6 = .ok (.iload 5, 2) := by decide +kernel
theorem dL_isFair_8 : decode cL_isFair 8 = .ok (.aload_n 3, 1) := by decide +kernel
theorem dL_isFair_9 : decode cL_isFair 9 = .ok (.arraylength, 1) := by decide +kernel
theorem dL_isFair_10 : decode cL_isFair 10 = .ok (.if_icmp .ge 166, 3) := by decide +kernel
theorem dL_isFair_13 : decode cL_isFair 13 = .ok (.aload_n 0, 1) := by decide +kernel
theorem dL_isFair_14 : decode cL_isFair 14 = .ok (.iload 5, 2) := by decide +kernel
theorem dL_isFair_16 : decode cL_isFair 16 = .ok (.iconst 5, 1) := by decide +kernel
theorem dL_isFair_17 : decode cL_isFair 17 = .ok (.invokevirtual 83, 3) := by decide +kernel
theorem dL_isFair_20 : decode cL_isFair 20 = .ok (.aload_n 3, 1) := by decide +kernel
theorem dL_isFair_21 : decode cL_isFair 21 = .ok (.iload 5, 2) := by decide +kernel
theorem dL_isFair_23 : decode cL_isFair 23 = .ok (.iaload, 1) := by decide +kernel
theorem dL_isFair_24 : decode cL_isFair 24 = .ok (.if_icmp .ne 6, 3) := by decide +kernel
theorem dL_isFair_27 : decode cL_isFair 27 = .ok (.goto 143, 3) := by decide +kernel
theorem dL_isFair_30 : decode cL_isFair 30 = .ok (.aload_n 3, 1) := by decide +kernel
theorem dL_isFair_31 : decode cL_isFair 31 = .ok (.iload 5, 2) := by decide +kernel
theorem dL_isFair_33 : decode cL_isFair 33 = .ok (.iaload, 1) := by decide +kernel
theorem dL_isFair_34 : decode cL_isFair 34 = .ok (.ifCond .ne 14, 3) := by decide +kernel
theorem dL_isFair_37 : decode cL_isFair 37 = .ok (.aload_n 0, 1) := by decide +kernel
theorem dL_isFair_38 : decode cL_isFair 38 = .ok (.iload 5, 2) := by decide +kernel
theorem dL_isFair_40 : decode cL_isFair 40 = .ok (.iconst 5, 1) := by decide +kernel
theorem dL_isFair_41 : decode cL_isFair 41 = .ok (.invokevirtual 83, 3) := by decide +kernel
theorem dL_isFair_44 : decode cL_isFair 44 = .ok (.iconst 1, 1) := by decide +kernel
theorem dL_isFair_45 : decode cL_isFair 45 = .ok (.if_icmp .eq 5, 3) := by decide +kernel
theorem dL_isFair_48 : decode cL_isFair 48 = .ok (.iconst 0, 1) := by decide +kernel
theorem dL_isFair_49 : decode cL_isFair 49 = .ok (.ireturn, 1) := by decide +kernel
theorem dL_isFair_50 : decode cL_isFair 50 = .ok (.iinc 4 1, 3) := by decide +kernel
theorem dL_isFair_53 : decode cL_isFair 53 = .ok (.aload_n 0, 1) := by decide +kernel
theorem dL_isFair_54 : decode cL_isFair 54 = .ok (.iload 5, 2) := by decide +kernel
theorem dL_isFair_56 : decode cL_isFair 56 = .ok (.iconst 0, 1) := by decide +kernel
theorem dL_isFair_57 : decode cL_isFair 57 = .ok (.invokevirtual 83, 3) := by decide +kernel
theorem dL_isFair_60 : decode cL_isFair 60 = .ok (.istore 6, 2) := by decide +kernel
theorem dL_isFair_62 : decode cL_isFair 62 = .ok (.iconst 0, 1) := by decide +kernel
theorem dL_isFair_63 : decode cL_isFair 63 = .ok (.istore 7, 2) := by decide +kernel
theorem dL_isFair_65 : decode cL_isFair 65 = .ok (.iconst 0, 1) := by decide +kernel
theorem dL_isFair_66 : decode cL_isFair 66 = .ok (.istore 8, 2) := by decide +kernel
theorem dL_isFair_68 : decode cL_isFair 68 = .ok (.iload 8, 2) := by decide +kernel
theorem dL_isFair_70 : decode cL_isFair 70 = .ok (.aload_n 3, 1) := by decide +kernel
theorem dL_isFair_71 : decode cL_isFair 71 = .ok (.arraylength, 1) := by decide +kernel
theorem dL_isFair_72 : decode cL_isFair 72 = .ok (.if_icmp .ge 84, 3) := by decide +kernel
theorem dL_isFair_75 : decode cL_isFair 75 = .ok (.aload_n 0, 1) := by decide +kernel
theorem dL_isFair_76 : decode cL_isFair 76 = .ok (.iload 8, 2) := by decide +kernel
theorem dL_isFair_78 : decode cL_isFair 78 = .ok (.iconst 0, 1) := by decide +kernel
theorem dL_isFair_79 : decode cL_isFair 79 = .ok (.invokevirtual 83, 3) := by decide +kernel
theorem dL_isFair_82 : decode cL_isFair 82 = .ok (.iload 6, 2) := by decide +kernel
theorem dL_isFair_84 : decode cL_isFair 84 = .ok (.if_icmp .ne 66, 3) := by decide +kernel
theorem dL_isFair_87 : decode cL_isFair 87 = .ok (.aload_n 0, 1) := by decide +kernel
theorem dL_isFair_88 : decode cL_isFair 88 = .ok (.iload 8, 2) := by decide +kernel
theorem dL_isFair_90 : decode cL_isFair 90 = .ok (.iconst 5, 1) := by decide +kernel
theorem dL_isFair_91 : decode cL_isFair 91 = .ok (.invokevirtual 83, 3) := by decide +kernel
theorem dL_isFair_94 : decode cL_isFair 94 = .ok (.ifCond .eq 6, 3) := by decide +kernel
theorem dL_isFair_97 : decode cL_isFair 97 = .ok (.goto 53, 3) := by decide +kernel
theorem dL_isFair_100 : decode cL_isFair 100 = .ok (.aload_n 0, 1) := by decide +kernel
theorem dL_isFair_101 : decode cL_isFair 101 = .ok (.aload_n 0, 1) := by decide +kernel
theorem dL_isFair_102 : decode cL_isFair 102 = .ok (.iload 8, 2) := by decide +kernel
theorem dL_isFair_104 : decode cL_isFair 104 = .ok (.iconst 2, 1) := by decide +kernel
theorem dL_isFair_105 : decode cL_isFair 105 = .ok (.invokevirtual 83, 3) := by decide +kernel
theorem dL_isFair_108 : decode cL_isFair 108 = .ok (.iconst 0, 1) := by decide +kernel
theorem dL_isFair_109 : decode cL_isFair 109 = .ok (.invokevirtual 102, 3) := by decide +kernel
theorem dL_isFair_112 : decode cL_isFair 112 = .ok (.iconst 1, 1) := by decide +kernel
theorem dL_isFair_113 : decode cL_isFair 113 = .ok (.if_icmp .ne 7, 3) := by decide +kernel
theorem dL_isFair_116 : decode cL_isFair 116 = .ok (.iconst 1, 1) := by decide +kernel
theorem dL_isFair_117 : decode cL_isFair 117 = .ok (.goto 4, 3) := by decide +kernel
theorem dL_isFair_120 : decode cL_isFair 120 = .ok (.iconst 0, 1) := by decide +kernel
theorem dL_isFair_121 : decode cL_isFair 121 = .ok (.istore 9, 2) := by decide +kernel
theorem dL_isFair_123 : decode cL_isFair 123 = .ok (.iload 9, 2) := by decide +kernel
theorem dL_isFair_125 : decode cL_isFair 125 = .ok (.ifCond .eq 22, 3) := by decide +kernel
theorem dL_isFair_128 : decode cL_isFair 128 = .ok (.aload_n 0, 1) := by decide +kernel
theorem dL_isFair_129 : decode cL_isFair 129 = .ok (.iload 8, 2) := by decide +kernel
theorem dL_isFair_131 : decode cL_isFair 131 = .ok (.iconst 3, 1) := by decide +kernel
theorem dL_isFair_132 : decode cL_isFair 132 = .ok (.invokevirtual 83, 3) := by decide +kernel
theorem dL_isFair_135 : decode cL_isFair 135 = .ok (.aload_n 0, 1) := by decide +kernel
theorem dL_isFair_136 : decode cL_isFair 136 = .ok (.iload 5, 2) := by decide +kernel
theorem dL_isFair_138 : decode cL_isFair 138 = .ok (.iconst 3, 1) := by decide +kernel
theorem dL_isFair_139 : decode cL_isFair 139 = .ok (.invokevirtual 83, 3) := by decide +kernel
theorem dL_isFair_142 : decode cL_isFair 142 = .ok (.if_icmp .le 5, 3) := by decide +kernel
theorem dL_isFair_145 : decode cL_isFair 145 = .ok (.iconst 0, 1) := by decide +kernel
theorem dL_isFair_146 : decode cL_isFair 146 = .ok (.ireturn, 1) := by decide +kernel
theorem dL_isFair_147 : decode cL_isFair 147 = .ok (.iinc 7 1, 3) := by decide +kernel
theorem dL_isFair_150 : decode cL_isFair 150 = .ok (.iinc 8 1, 3) := by decide +kernel
theorem dL_isFair_153 : decode cL_isFair 153 = .ok (.goto (-85), 3) := by decide +kernel
theorem dL_isFair_156 : decode cL_isFair 156 = .ok (.iload 7, 2) := by decide +kernel
theorem dL_isFair_158 : decode cL_isFair 158 = .ok (.aload_n 0, 1) := by decide +kernel
theorem dL_isFair_159 : decode cL_isFair 159 = .ok (.iload 6, 2) := by decide +kernel
theorem dL_isFair_161 : decode cL_isFair 161 = .ok (.iconst 0, 1) := by decide +kernel
theorem dL_isFair_162 : decode cL_isFair 162 = .ok (.invokevirtual 105, 3) := by decide +kernel
theorem dL_isFair_165 : decode cL_isFair 165 = .ok (.if_icmp .ge 5, 3) := by decide +kernel
theorem dL_isFair_168 : decode cL_isFair 168 = .ok (.iconst 0, 1) := by decide +kernel
theorem dL_isFair_169 : decode cL_isFair 169 = .ok (.ireturn, 1) := by decide +kernel
theorem dL_isFair_170 : decode cL_isFair 170 = .ok (.iinc 5 1, 3) := by decide +kernel
theorem dL_isFair_173 : decode cL_isFair 173 = .ok (.goto (-167), 3) := by decide +kernel
theorem dL_isFair_176 : decode cL_isFair 176 = .ok (.iload 4, 2) := by decide +kernel
theorem dL_isFair_178 : decode cL_isFair 178 = .ok (.iload_n 2, 1) := by decide +kernel
theorem dL_isFair_179 : decode cL_isFair 179 = .ok (.if_icmp .ne 11, 3) := by decide +kernel
theorem dL_isFair_182 : decode cL_isFair 182 = .ok (.aload_n 0, 1) := by decide +kernel
theorem dL_isFair_183 : decode cL_isFair 183 = .ok (.iload_n 1, 1) := by decide +kernel
theorem dL_isFair_184 : decode cL_isFair 184 = .ok (.invokevirtual 80, 3) := by decide +kernel
theorem dL_isFair_187 : decode cL_isFair 187 = .ok (.ifCond .eq 5, 3) := by decide +kernel
theorem dL_isFair_190 : decode cL_isFair 190 = .ok (.iconst 0, 1) := by decide +kernel
theorem dL_isFair_191 : decode cL_isFair 191 = .ok (.ireturn, 1) := by decide +kernel
theorem dL_isFair_192 : decode cL_isFair 192 = .ok (.iconst 0, 1) := by decide +kernel
theorem dL_isFair_193 : decode cL_isFair 193 = .ok (.istore 5, 2) := by decide +kernel
theorem dL_isFair_195 : decode cL_isFair 195 = .ok (.iconst 0, 1) := by decide +kernel
theorem dL_isFair_196 : decode cL_isFair 196 = .ok (.istore 6, 2) := by decide +kernel
theorem dL_isFair_198 : decode cL_isFair 198 = .ok (.iload 6, 2) := by decide +kernel
theorem dL_isFair_200 : decode cL_isFair 200 = .ok (.aload_n 0, 1) := by decide +kernel
theorem dL_isFair_201 : decode cL_isFair 201 = .ok (.iconst 1, 1) := by decide +kernel
theorem dL_isFair_202 : decode cL_isFair 202 = .ok (.invokevirtual 32, 3) := by decide +kernel
theorem dL_isFair_205 : decode cL_isFair 205 = .ok (.if_icmp .ge 36, 3) := by decide +kernel
theorem dL_isFair_208 : decode cL_isFair 208 = .ok (.iload 5, 2) := by decide +kernel
theorem dL_isFair_210 : decode cL_isFair 210 = .ok (.aload_n 0, 1) := by decide +kernel
theorem dL_isFair_211 : decode cL_isFair 211 = .ok (.iload 6, 2) := by decide +kernel
theorem dL_isFair_213 : decode cL_isFair 213 = .ok (.iconst 2, 1) := by decide +kernel
theorem dL_isFair_214 : decode cL_isFair 214 = .ok (.invokevirtual 105, 3) := by decide +kernel
theorem dL_isFair_217 : decode cL_isFair 217 = .ok (.iconst 1, 1) := by decide +kernel
theorem dL_isFair_218 : decode cL_isFair 218 = .ok (.if_icmp .ne 7, 3) := by decide +kernel
theorem dL_isFair_221 : decode cL_isFair 221 = .ok (.iconst 0, 1) := by decide +kernel
theorem dL_isFair_222 : decode cL_isFair 222 = .ok (.goto 10, 3) := by decide +kernel
theorem dL_isFair_225 : decode cL_isFair 225 = .ok (.aload_n 0, 1) := by decide +kernel
theorem dL_isFair_226 : decode cL_isFair 226 = .ok (.iload 6, 2) := by decide +kernel
theorem dL_isFair_228 : decode cL_isFair 228 = .ok (.iconst 0, 1) := by decide +kernel
theorem dL_isFair_229 : decode cL_isFair 229 = .ok (.invokevirtual 105, 3) := by decide +kernel
theorem dL_isFair_232 : decode cL_isFair 232 = .ok (.iadd, 1) := by decide +kernel
theorem dL_isFair_233 : decode cL_isFair 233 = .ok (.istore 5, 2) := by decide +kernel
theorem dL_isFair_235 : decode cL_isFair 235 = .ok (.iinc 6 1, 3) := by decide +kernel
theorem dL_isFair_238 : decode cL_isFair 238 = .ok (.goto (-40), 3) := by decide +kernel
theorem dL_isFair_241 : decode cL_isFair 241 = .ok (.aload_n 0, 1) := by decide +kernel
theorem dL_isFair_242 : decode cL_isFair 242 = .ok (.iload_n 1, 1) := by decide +kernel
theorem dL_isFair_243 : decode cL_isFair 243 = .ok (.iconst 3, 1) := by decide +kernel
theorem dL_isFair_244 : decode cL_isFair 244 = .ok (.invokevirtual 102, 3) := by decide +kernel
theorem dL_isFair_247 : decode cL_isFair 247 = .ok (.iload 5, 2) := by decide +kernel
theorem dL_isFair_249 : decode cL_isFair 249 = .ok (.if_icmp .gt 7, 3) := by decide +kernel
theorem dL_isFair_252 : decode cL_isFair 252 = .ok (.iconst 1, 1) := by decide +kernel
theorem dL_isFair_253 : decode cL_isFair 253 = .ok (.goto 4, 3) := by decide +kernel
theorem dL_isFair_256 : decode cL_isFair 256 = .ok (.iconst 0, 1) := by decide +kernel
theorem dL_isFair_257 : decode cL_isFair 257 = .ok (.ireturn, 1) := by decide +kernel
set_option maxRecDepth 20000 in
theorem ggL_arePence_X6_shop : GoodIn wsL_arePence wsX6_shop := goodIn_ca (goodIn_r _ [5, 6, 7, 8, 9, 10, 11, 12, 13, 14, 15, 16, 17, 18, 19, 20, 21, 22, 23, 24, 4, 25, 26, 27, 28, 29, 30, 31, 32, 33, 34, 35, 36, 37, 38, 39, 40, 41, 42, 43, 44, 45, 46, 47, 48, 49, 50, 51, 52, 53, 54, 55, 56, 57, 58, 59, 60, 61, 62, 63, 64, 164, 165, 166, 167, 168, 169, 170, 171, 172, 173, 174, 175, 176, 177, 178, 179, 180, 181, 182, 183, 184, 185, 186, 187, 188, 189, 190, 191, 192, 193, 194, 195, 196, 197, 198, 199] (by decide +kernel) (by decide +kernel)) (goodIn_sub (fun _ h => List.mem_cons_of_mem _ (List.mem_append_left _ (List.mem_append_right _ h))) (by decide +kernel))
set_option maxRecDepth 20000 in
theorem gL_arePence_X6_shop : GoodIn wsL_arePence (wsV RL 32 RX6 yX6_shop wsX6_shop) := goodIn_app (goodIn_of _ (by decide +kernel)) ggL_arePence_X6_shop
set_option maxRecDepth 20000 in
theorem ggL_arePence_X6_ofGift : GoodIn wsL_arePence wsX6_ofGift := goodIn_ca (goodIn_ca (goodIn_r _ [68, 69, 70, 6, 7, 11, 26, 71, 72, 73, 74, 75, 76, 77, 78, 79, 80, 81, 27, 16, 17, 18, 19, 20, 21, 28, 29, 30, 31, 32, 33, 34, 35, 36, 37, 38, 39, 40, 41, 42, 43, 44, 164, 165, 166, 167, 168, 169, 170, 171, 172, 176, 177, 178, 179, 180, 181, 182, 183, 184, 185, 186, 187, 188, 189, 190, 191, 192, 193, 194, 195, 196, 197, 198, 199, 200, 201, 173, 174, 175] (by decide +kernel) (by decide +kernel)) (goodIn_sub (fun _ h => List.mem_cons_of_mem _ (List.mem_append_right _ h)) (by decide +kernel))) (goodIn_sub (fun _ h => List.mem_cons_of_mem _ (List.mem_append_left _ (List.mem_append_right _ h))) (by decide +kernel))
set_option maxRecDepth 20000 in
theorem gL_arePence_X6_ofGift : GoodIn wsL_arePence (wsV RL 83 RX6 yX6_ofGift wsX6_ofGift) := goodIn_app (goodIn_of _ (by decide +kernel)) ggL_arePence_X6_ofGift
set_option maxRecDepth 20000 in
theorem ggL_arePence_X6_ofWish : GoodIn wsL_arePence wsX6_ofWish := goodIn_ca (goodIn_ca (goodIn_r _ [85, 6, 7, 86, 87, 88, 89, 90, 91, 92, 4, 93, 69, 70, 9, 94, 16, 17, 18, 19, 20, 21, 28, 29, 30, 31, 32, 33, 34, 35, 36, 37, 38, 39, 40, 41, 42, 43, 44, 45, 46, 47, 95, 96, 97, 98, 11, 26, 27, 71, 72, 99, 100, 101, 102, 103, 104, 105, 106, 107, 108, 109, 110, 111, 112, 113, 114, 115, 116, 117, 118, 119, 120, 121, 122, 123, 124, 193, 194, 195, 196, 197, 198, 199, 164, 165, 166, 167, 168, 169, 170, 171, 172, 173, 174, 175, 176, 177, 178, 179, 180, 181, 182, 183, 184, 185, 186, 187, 188, 189, 190, 191, 192, 202, 203] (by decide +kernel) (by decide +kernel)) (goodIn_sub (fun _ h => List.mem_cons_of_mem _ (List.mem_append_left _ (List.mem_append_right _ h))) (by decide +kernel))) (goodIn_sub (fun _ h => List.mem_cons_of_mem _ (List.mem_append_right _ h)) (by decide +kernel))
set_option maxRecDepth 20000 in
theorem gL_arePence_X6_ofWish : GoodIn wsL_arePence (wsV RL 105 RX6 yX6_ofWish wsX6_ofWish) := goodIn_app (goodIn_of _ (by decide +kernel)) ggL_arePence_X6_ofWish
set_option maxRecDepth 20000 in
theorem ggL_arePence_X6_ofGuest : GoodIn wsL_arePence wsX6_ofGuest := goodIn_ca (goodIn_ca (goodIn_r _ [128, 6, 7, 129, 130, 131, 132, 4, 133, 69, 70, 10, 134, 16, 17, 18, 19, 20, 21, 28, 29, 30, 31, 32, 33, 34, 35, 36, 37, 38, 39, 40, 41, 42, 43, 44, 135, 136, 137, 138, 11, 26, 27, 74, 75, 45, 46, 47, 139, 140, 141, 142, 81, 143, 144, 145, 146, 147, 148, 149, 150, 151, 152, 9, 94, 153, 154, 155, 102, 156, 104, 105, 157, 106, 107, 108, 158, 159, 160, 161, 14, 52, 162, 163, 8, 53, 54, 55, 56, 57, 58, 59, 60, 61, 62, 63, 64, 200, 201, 164, 165, 166, 167, 168, 169, 170, 171, 172, 173, 174, 175, 176, 177, 178, 179, 180, 181, 182, 183, 184, 185, 186, 187, 188, 189, 190, 191, 192, 193, 194, 195, 196, 197, 198, 199, 202, 203] (by decide +kernel) (by decide +kernel)) (goodIn_sub (fun _ h => List.mem_cons_of_mem _ (List.mem_append_left _ (List.mem_append_right _ h))) (by decide +kernel))) (goodIn_sub (fun _ h => List.mem_cons_of_mem _ (List.mem_append_right _ h)) (by decide +kernel))
set_option maxRecDepth 20000 in
theorem gL_arePence_X6_ofGuest : GoodIn wsL_arePence (wsV RL 112 RX6 yX6_ofGuest wsX6_ofGuest) := goodIn_app (goodIn_of _ (by decide +kernel)) ggL_arePence_X6_ofGuest
theorem dL_arePence_0 : decode cL_arePence 0 = .ok (.aload_n 0, 1) := by decide +kernel
theorem dL_arePence_1 : decode cL_arePence 1 = .ok (.bipush 8, 2) := by decide +kernel
theorem dL_arePence_3 : decode cL_arePence 3 = .ok (.invokevirtual 32, 3) := by decide +kernel
theorem dL_arePence_6 : decode cL_arePence 6 = .ok (.istore_n 1, 1) := by decide +kernel
theorem dL_arePence_7 : decode cL_arePence 7 = .ok (.iconst 0, 1) := by decide +kernel
theorem dL_arePence_8 : decode cL_arePence 8 = .ok (.istore_n 2, 1) := by decide +kernel
theorem dL_arePence_9 : decode cL_arePence 9 = .ok (.iload_n 2, 1) := by decide +kernel
theorem dL_arePence_10 : decode cL_arePence 10 = .ok (.aload_n 0, 1) := by decide +kernel
theorem dL_arePence_11 : decode cL_arePence 11 = .ok (.iconst 3, 1) := by decide +kernel
theorem dL_arePence_12 : decode cL_arePence 12 = .ok (.invokevirtual 32, 3) := by decide +kernel
theorem dL_arePence_15 : decode cL_arePence 15 = .ok (.if_icmp .ge 31, 3) := by decide +kernel
theorem dL_arePence_18 : decode cL_arePence 18 = .ok (.iload_n 1, 1) := by decide +kernel
theorem dL_arePence_19 : decode cL_arePence 19 = .ok (.aload_n 0, 1) := by decide +kernel
theorem dL_arePence_20 : decode cL_arePence 20 = .ok (.iload_n 2, 1) := by decide +kernel
theorem dL_arePence_21 : decode cL_arePence 21 = .ok (.iconst 5, 1) := by decide +kernel
theorem dL_arePence_22 : decode cL_arePence 22 = .ok (.invokevirtual 83, 3) := by decide +kernel
theorem dL_arePence_25 : decode cL_arePence 25 = .ok (.ifCond .ne 12, 3) := by decide +kernel
theorem dL_arePence_28 : decode cL_arePence 28 = .ok (.aload_n 0, 1) := by decide +kernel
theorem dL_arePence_29 : decode cL_arePence 29 = .ok (.iload_n 2, 1) := by decide +kernel
theorem dL_arePence_30 : decode cL_arePence 30 = .ok (.iconst 4, 1) := by decide +kernel
theorem dL_arePence_31 : decode cL_arePence 31 = .ok (.invokevirtual 83, 3) := by decide +kernel
theorem dL_arePence_34 : decode cL_arePence 34 = .ok (.goto 4, 3) := by decide +kernel
theorem dL_arePence_37 : decode cL_arePence 37 = .ok (.iconst 0, 1) := by decide +kernel
theorem dL_arePence_38 : decode cL_arePence 38 = .ok (.iadd, 1) := by decide +kernel
theorem dL_arePence_39 : decode cL_arePence 39 = .ok (.istore_n 1, 1) := by decide +kernel
theorem dL_arePence_40 : decode cL_arePence 40 = .ok (.iinc 2 1, 3) := by decide +kernel
theorem dL_arePence_43 : decode cL_arePence 43 = .ok (.goto (-34), 3) := by decide +kernel
theorem dL_arePence_46 : decode cL_arePence 46 = .ok (.iconst 0, 1) := by decide +kernel
theorem dL_arePence_47 : decode cL_arePence 47 = .ok (.istore_n 2, 1) := by decide +kernel
theorem dL_arePence_48 : decode cL_arePence 48 = .ok (.iload_n 2, 1) := by decide +kernel
theorem dL_arePence_49 : decode cL_arePence 49 = .ok (.aload_n 0, 1) := by decide +kernel
theorem dL_arePence_50 : decode cL_arePence 50 = .ok (.iconst 1, 1) := by decide +kernel
theorem dL_arePence_51 : decode cL_arePence 51 = .ok (.invokevirtual 32, 3) := by decide +kernel
theorem dL_arePence_54 : decode cL_arePence 54 = .ok (.if_icmp .ge 19, 3) := by decide +kernel
theorem dL_arePence_57 : decode cL_arePence 57 = .ok (.iload_n 1, 1) := by decide +kernel
theorem dL_arePence_58 : decode cL_arePence 58 = .ok (.aload_n 0, 1) := by decide +kernel
theorem dL_arePence_59 : decode cL_arePence 59 = .ok (.iload_n 2, 1) := by decide +kernel
theorem dL_arePence_60 : decode cL_arePence 60 = .ok (.bipush 6, 2) := by decide +kernel
theorem dL_arePence_62 : decode cL_arePence 62 = .ok (.invokevirtual 105, 3) := by decide +kernel
theorem dL_arePence_65 : decode cL_arePence 65 = .ok (.iadd, 1) := by decide +kernel
theorem dL_arePence_66 : decode cL_arePence 66 = .ok (.istore_n 1, 1) := by decide +kernel
theorem dL_arePence_67 : decode cL_arePence 67 = .ok (.iinc 2 1, 3) := by decide +kernel
theorem dL_arePence_70 : decode cL_arePence 70 = .ok (.goto (-22), 3) := by decide +kernel
theorem dL_arePence_73 : decode cL_arePence 73 = .ok (.iconst 0, 1) := by decide +kernel
theorem dL_arePence_74 : decode cL_arePence 74 = .ok (.istore_n 2, 1) := by decide +kernel
theorem dL_arePence_75 : decode cL_arePence 75 = .ok (.iconst 0, 1) := by decide +kernel
theorem dL_arePence_76 : decode cL_arePence 76 = .ok (.istore_n 3, 1) := by decide +kernel
theorem dL_arePence_77 : decode cL_arePence 77 = .ok (.iload_n 3, 1) := by decide +kernel
theorem dL_arePence_78 : decode cL_arePence 78 = .ok (.aload_n 0, 1) := by decide +kernel
theorem dL_arePence_79 : decode cL_arePence 79 = .ok (.iconst 2, 1) := by decide +kernel
theorem dL_arePence_80 : decode cL_arePence 80 = .ok (.invokevirtual 32, 3) := by decide +kernel
theorem dL_arePence_83 : decode cL_arePence 83 = .ok (.if_icmp .ge 36, 3) := by decide +kernel
theorem dL_arePence_86 : decode cL_arePence 86 = .ok (.aload_n 0, 1) := by decide +kernel
theorem dL_arePence_87 : decode cL_arePence 87 = .ok (.iload_n 3, 1) := by decide +kernel
theorem dL_arePence_88 : decode cL_arePence 88 = .ok (.iconst 0, 1) := by decide +kernel
theorem dL_arePence_89 : decode cL_arePence 89 = .ok (.invokevirtual 112, 3) := by decide +kernel
theorem dL_arePence_92 : decode cL_arePence 92 = .ok (.ifCond .ge 5, 3) := by decide +kernel
theorem dL_arePence_95 : decode cL_arePence 95 = .ok (.iconst 0, 1) := by decide +kernel
theorem dL_arePence_96 : decode cL_arePence 96 = .ok (.ireturn, 1) := by decide +kernel
theorem dL_arePence_97 : decode cL_arePence 97 = .ok (.iload_n 2, 1) := by decide +kernel
theorem dL_arePence_98 : decode cL_arePence 98 = .ok (.aload_n 0, 1) := by decide +kernel
theorem dL_arePence_99 : decode cL_arePence 99 = .ok (.iload_n 3, 1) := by decide +kernel
theorem dL_arePence_100 : decode cL_arePence 100 = .ok (.iconst 2, 1) := by decide +kernel
theorem dL_arePence_101 : decode cL_arePence 101 = .ok (.invokevirtual 112, 3) := by decide +kernel
theorem dL_arePence_104 : decode cL_arePence 104 = .ok (.aload_n 0, 1) := by decide +kernel
theorem dL_arePence_105 : decode cL_arePence 105 = .ok (.iload_n 3, 1) := by decide +kernel
theorem dL_arePence_106 : decode cL_arePence 106 = .ok (.iconst 3, 1) := by decide +kernel
theorem dL_arePence_107 : decode cL_arePence 107 = .ok (.invokevirtual 112, 3) := by decide +kernel
theorem dL_arePence_110 : decode cL_arePence 110 = .ok (.iadd, 1) := by decide +kernel
theorem dL_arePence_111 : decode cL_arePence 111 = .ok (.iadd, 1) := by decide +kernel
theorem dL_arePence_112 : decode cL_arePence 112 = .ok (.istore_n 2, 1) := by decide +kernel
theorem dL_arePence_113 : decode cL_arePence 113 = .ok (.iinc 3 1, 3) := by decide +kernel
theorem dL_arePence_116 : decode cL_arePence 116 = .ok (.goto (-39), 3) := by decide +kernel
theorem dL_arePence_119 : decode cL_arePence 119 = .ok (.iload_n 1, 1) := by decide +kernel
theorem dL_arePence_120 : decode cL_arePence 120 = .ok (.aload_n 0, 1) := by decide +kernel
theorem dL_arePence_121 : decode cL_arePence 121 = .ok (.bipush 7, 2) := by decide +kernel
theorem dL_arePence_123 : decode cL_arePence 123 = .ok (.invokevirtual 32, 3) := by decide +kernel
theorem dL_arePence_126 : decode cL_arePence 126 = .ok (.if_icmp .ne 24, 3) := by decide +kernel
theorem dL_arePence_129 : decode cL_arePence 129 = .ok (.iload_n 2, 1) := by decide +kernel
theorem dL_arePence_130 : decode cL_arePence 130 = .ok (.aload_n 0, 1) := by decide +kernel
theorem dL_arePence_131 : decode cL_arePence 131 = .ok (.bipush 7, 2) := by decide +kernel
theorem dL_arePence_133 : decode cL_arePence 133 = .ok (.invokevirtual 32, 3) := by decide +kernel
theorem dL_arePence_136 : decode cL_arePence 136 = .ok (.aload_n 0, 1) := by decide +kernel
theorem dL_arePence_137 : decode cL_arePence 137 = .ok (.bipush 8, 2) := by decide +kernel
theorem dL_arePence_139 : decode cL_arePence 139 = .ok (.invokevirtual 32, 3) := by decide +kernel
theorem dL_arePence_142 : decode cL_arePence 142 = .ok (.isub, 1) := by decide +kernel
theorem dL_arePence_143 : decode cL_arePence 143 = .ok (.if_icmp .ne 7, 3) := by decide +kernel
theorem dL_arePence_146 : decode cL_arePence 146 = .ok (.iconst 1, 1) := by decide +kernel
theorem dL_arePence_147 : decode cL_arePence 147 = .ok (.goto 4, 3) := by decide +kernel
theorem dL_arePence_150 : decode cL_arePence 150 = .ok (.iconst 0, 1) := by decide +kernel
theorem dL_arePence_151 : decode cL_arePence 151 = .ok (.ireturn, 1) := by decide +kernel
