theorem dX6_ofTill_96 : decode cX6_ofTill 96 = .ok (.ldc_w 261, 3) := by decide +kernel
theorem dX6_ofTill_99 : decode cX6_ofTill 99 = .ok (.invokespecial 33, 3) := by decide +kernel
theorem dX6_ofTill_102 : decode cX6_ofTill 102 = .ok (.athrow, 1) := by decide +kernel
set_option maxRecDepth 20000 in
theorem ggX6_ofGift_Jx4a65c_size_8abf5 : GoodIn wsX6_ofGift wsJx4a65c_size_8abf5 := goodIn_r _ [23, 24, 77, 78, 79] (by decide +kernel) (by decide +kernel)
set_option maxRecDepth 20000 in
theorem gX6_ofGift_Jx4a65c_size_8abf5 : GoodIn wsX6_ofGift (wsV RX6 47 RJx4a65c yJx4a65c_size_8abf5 wsJx4a65c_size_8abf5) := goodIn_app (goodIn_of _ (by decide +kernel)) ggX6_ofGift_Jx4a65c_size_8abf5
set_option maxRecDepth 20000 in
theorem ggX6_ofGift_Jx4a65c_get_915e3 : GoodIn wsX6_ofGift wsJx4a65c_get_915e3 := goodIn_r _ [28, 24, 29, 30, 31, 32, 33, 34, 35, 36, 37, 38, 39, 22, 40, 41, 77, 78, 79] (by decide +kernel) (by decide +kernel)
set_option maxRecDepth 20000 in
theorem gX6_ofGift_Jx4a65c_get_915e3 : GoodIn wsX6_ofGift (wsV RX6 122 RJx4a65c yJx4a65c_get_915e3 wsJx4a65c_get_915e3) := goodIn_app (goodIn_of _ (by decide +kernel)) ggX6_ofGift_Jx4a65c_get_915e3
theorem dX6_ofGift_0 : decode cX6_ofGift 0 = .ok (.iload_n 1, 1) := by decide +kernel
theorem dX6_ofGift_1 : decode cX6_ofGift 1 = .ok (.ifCond .lt 14, 3) := by decide +kernel
theorem dX6_ofGift_4 : decode cX6_ofGift 4 = .ok (.iload_n 1, 1) := by decide +kernel
theorem dX6_ofGift_5 : decode cX6_ofGift 5 = .ok (.aload_n 0, 1) := by decide +kernel
theorem dX6_ofGift_6 : decode cX6_ofGift 6 = .ok (.getfield 19, 3) := by decide +kernel
theorem dX6_ofGift_9 : decode cX6_ofGift 9 = .ok (.invokevirtual 47, 3) := by decide +kernel
theorem dX6_ofGift_12 : decode cX6_ofGift 12 = .ok (.if_icmp .lt 13, 3) := by decide +kernel
theorem dX6_ofGift_15 : decode cX6_ofGift 15 = .ok (.new 284, 3) := by decide +kernel
theorem dX6_ofGift_18 : decode cX6_ofGift 18 = .ok (.dup, 1) := by decide +kernel
theorem dX6_ofGift_19 : decode cX6_ofGift 19 = .ok (.ldc 198, 2) := by decide +kernel
theorem dX6_ofGift_21 : decode cX6_ofGift 21 = .ok (.invokespecial 286, 3) := by decide +kernel
theorem dX6_ofGift_24 : decode cX6_ofGift 24 = .ok (.athrow, 1) := by decide +kernel
theorem dX6_ofGift_25 : decode cX6_ofGift 25 = .ok (.aload_n 0, 1) := by decide +kernel
theorem dX6_ofGift_26 : decode cX6_ofGift 26 = .ok (.getfield 19, 3) := by decide +kernel
theorem dX6_ofGift_29 : decode cX6_ofGift 29 = .ok (.iload_n 1, 1) := by decide +kernel
theorem dX6_ofGift_30 : decode cX6_ofGift 30 = .ok (.invokevirtual 122, 3) := by decide +kernel
theorem dX6_ofGift_33 : decode cX6_ofGift 33 = .ok (.checkcast 171, 3) := by decide +kernel
theorem dX6_ofGift_36 : decode cX6_ofGift 36 = .ok (.astore_n 3, 1) := by decide +kernel
theorem dX6_ofGift_37 : decode cX6_ofGift 37 = .ok (.iload_n 2, 1) := by decide +kernel
theorem dX6_ofGift_38 : decode cX6_ofGift 38 = .ok (.tableswitch 74 0 5 #[38, 46, 54, 59, 64, 69], 38) := by decide +kernel
theorem dX6_ofGift_76 : decode cX6_ofGift 76 = .ok (.aload_n 3, 1) := by decide +kernel
theorem dX6_ofGift_77 : decode cX6_ofGift 77 = .ok (.getfield 185, 3) := by decide +kernel
theorem dX6_ofGift_80 : decode cX6_ofGift 80 = .ok (.getfield 287, 3) := by decide +kernel
theorem dX6_ofGift_83 : decode cX6_ofGift 83 = .ok (.ireturn, 1) := by decide +kernel
theorem dX6_ofGift_84 : decode cX6_ofGift 84 = .ok (.aload_n 3, 1) := by decide +kernel
theorem dX6_ofGift_85 : decode cX6_ofGift 85 = .ok (.getfield 181, 3) := by decide +kernel
theorem dX6_ofGift_88 : decode cX6_ofGift 88 = .ok (.getfield 290, 3) := by decide +kernel
theorem dX6_ofGift_91 : decode cX6_ofGift 91 = .ok (.ireturn, 1) := by decide +kernel
theorem dX6_ofGift_92 : decode cX6_ofGift 92 = .ok (.aload_n 3, 1) := by decide +kernel
theorem dX6_ofGift_93 : decode cX6_ofGift 93 = .ok (.getfield 291, 3) := by decide +kernel
theorem dX6_ofGift_96 : decode cX6_ofGift 96 = .ok (.ireturn, 1) := by decide +kernel
theorem dX6_ofGift_97 : decode cX6_ofGift 97 = .ok (.aload_n 3, 1) := by decide +kernel
theorem dX6_ofGift_98 : decode cX6_ofGift 98 = .ok (.getfield 189, 3) := by decide +kernel
theorem dX6_ofGift_101 : decode cX6_ofGift 101 = .ok (.ireturn, 1) := by decide +kernel
theorem dX6_ofGift_102 : decode cX6_ofGift 102 = .ok (.aload_n 3, 1) := by decide +kernel
theorem dX6_ofGift_103 : decode cX6_ofGift 103 = .ok (.getfield 294, 3) := by decide +kernel
theorem dX6_ofGift_106 : decode cX6_ofGift 106 = .ok (.ireturn, 1) := by decide +kernel
theorem dX6_ofGift_107 : decode cX6_ofGift 107 = .ok (.aload_n 3, 1) := by decide +kernel
theorem dX6_ofGift_108 : decode cX6_ofGift 108 = .ok (.getfield 297, 3) := by decide +kernel
theorem dX6_ofGift_111 : decode cX6_ofGift 111 = .ok (.ireturn, 1) := by decide +kernel
theorem dX6_ofGift_112 : decode cX6_ofGift 112 = .ok (.new 29, 3) := by decide +kernel
theorem dX6_ofGift_115 : decode cX6_ofGift 115 = .ok (.dup, 1) := by decide +kernel
theorem dX6_ofGift_116 : decode cX6_ofGift 116 = .ok (.ldc_w 261, 3) := by decide +kernel
theorem dX6_ofGift_119 : decode cX6_ofGift 119 = .ok (.invokespecial 33, 3) := by decide +kernel
theorem dX6_ofGift_122 : decode cX6_ofGift 122 = .ok (.athrow, 1) := by decide +kernel
set_option maxRecDepth 20000 in
theorem ggX6_shop_Jx4a65c_size_8abf5 : GoodIn wsX6_shop wsJx4a65c_size_8abf5 := goodIn_r _ [15, 16, 70, 71, 72] (by decide +kernel) (by decide +kernel)
set_option maxRecDepth 20000 in
theorem gX6_shop_Jx4a65c_size_8abf5 : GoodIn wsX6_shop (wsV RX6 47 RJx4a65c yJx4a65c_size_8abf5 wsJx4a65c_size_8abf5) := goodIn_app (goodIn_of _ (by decide +kernel)) ggX6_shop_Jx4a65c_size_8abf5
set_option maxRecDepth 20000 in
theorem ggX6_shop_X6_giftsNow : GoodIn wsX6_shop wsX6_giftsNow := goodIn_r _ [21, 6, 22, 23, 11, 12, 13, 14, 15, 16, 24, 25, 26, 27, 28, 29, 30, 31, 32, 33, 34, 35, 36, 37, 38, 39, 40, 41, 42, 20, 43, 61, 62, 63, 64, 65, 66, 67, 68, 69, 73, 74, 75, 76, 77, 78, 79, 80, 81, 70, 71, 72] (by decide +kernel) (by decide +kernel)
set_option maxRecDepth 20000 in
theorem gX6_shop_X6_giftsNow : GoodIn wsX6_shop (wsV RX6 300 RX6 yX6_giftsNow wsX6_giftsNow) := goodIn_app (goodIn_of _ (by decide +kernel)) ggX6_shop_X6_giftsNow
set_option maxRecDepth 20000 in
theorem ggX6_shop_X6_holdsStanding : GoodIn wsX6_shop wsX6_holdsStanding := goodIn_r _ [47, 9, 48, 3, 11, 12, 13, 14, 15, 16, 24, 25, 26, 27, 28, 29, 30, 31, 32, 33, 34, 35, 36, 37, 38, 39, 40, 49, 50, 51, 52, 53, 54, 55, 56, 57, 58, 59, 60, 41, 42, 20, 43, 61, 62, 63, 64, 65, 66, 67, 68, 69, 70, 71, 72, 82, 83, 84, 85, 86, 87, 88, 89, 73, 74, 75, 76, 77, 78, 79, 80, 81, 90, 91, 92, 93, 94, 95, 96] (by decide +kernel) (by decide +kernel)
set_option maxRecDepth 20000 in
theorem gX6_shop_X6_holdsStanding : GoodIn wsX6_shop (wsV RX6 226 RX6 yX6_holdsStanding wsX6_holdsStanding) := goodIn_app (goodIn_of _ (by decide +kernel)) ggX6_shop_X6_holdsStanding
set_option maxRecDepth 20000 in
theorem ggX6_shop_X6_oneIf : GoodIn wsX6_shop wsX6_oneIf := goodIn_r _ [43] (by decide +kernel) (by decide +kernel)
set_option maxRecDepth 20000 in
theorem gX6_shop_X6_oneIf : GoodIn wsX6_shop (va_wsS RX6 235 yX6_oneIf wsX6_oneIf) := goodIn_app (goodIn_of _ (by decide +kernel)) ggX6_shop_X6_oneIf
theorem dX6_shop_0 : decode cX6_shop 0 = .ok (.iload_n 1, 1) := by decide +kernel
theorem dX6_shop_1 : decode cX6_shop 1 = .ok (.tableswitch 141 0 11 #[63, 68, 76, 84, 92, 98, 104, 110, 115, 120, 128, 133], 63) := by decide +kernel
theorem dX6_shop_64 : decode cX6_shop 64 = .ok (.aload_n 0, 1) := by decide +kernel
theorem dX6_shop_65 : decode cX6_shop 65 = .ok (.getfield 145, 3) := by decide +kernel
theorem dX6_shop_68 : decode cX6_shop 68 = .ok (.ireturn, 1) := by decide +kernel
theorem dX6_shop_69 : decode cX6_shop 69 = .ok (.aload_n 0, 1) := by decide +kernel
theorem dX6_shop_70 : decode cX6_shop 70 = .ok (.getfield 12, 3) := by decide +kernel
theorem dX6_shop_73 : decode cX6_shop 73 = .ok (.invokevirtual 47, 3) := by decide +kernel
theorem dX6_shop_76 : decode cX6_shop 76 = .ok (.ireturn, 1) := by decide +kernel
theorem dX6_shop_77 : decode cX6_shop 77 = .ok (.aload_n 0, 1) := by decide +kernel
theorem dX6_shop_78 : decode cX6_shop 78 = .ok (.getfield 16, 3) := by decide +kernel
theorem dX6_shop_81 : decode cX6_shop 81 = .ok (.invokevirtual 47, 3) := by decide +kernel
theorem dX6_shop_84 : decode cX6_shop 84 = .ok (.ireturn, 1) := by decide +kernel
theorem dX6_shop_85 : decode cX6_shop 85 = .ok (.aload_n 0, 1) := by decide +kernel
theorem dX6_shop_86 : decode cX6_shop 86 = .ok (.getfield 19, 3) := by decide +kernel
theorem dX6_shop_89 : decode cX6_shop 89 = .ok (.invokevirtual 47, 3) := by decide +kernel
theorem dX6_shop_92 : decode cX6_shop 92 = .ok (.ireturn, 1) := by decide +kernel
theorem dX6_shop_93 : decode cX6_shop 93 = .ok (.aload_n 0, 1) := by decide +kernel
theorem dX6_shop_94 : decode cX6_shop 94 = .ok (.iconst 0, 1) := by decide +kernel
theorem dX6_shop_95 : decode cX6_shop 95 = .ok (.invokevirtual 300, 3) := by decide +kernel
theorem dX6_shop_98 : decode cX6_shop 98 = .ok (.ireturn, 1) := by decide +kernel
theorem dX6_shop_99 : decode cX6_shop 99 = .ok (.aload_n 0, 1) := by decide +kernel
theorem dX6_shop_100 : decode cX6_shop 100 = .ok (.iconst 1, 1) := by decide +kernel
theorem dX6_shop_101 : decode cX6_shop 101 = .ok (.invokevirtual 300, 3) := by decide +kernel
theorem dX6_shop_104 : decode cX6_shop 104 = .ok (.ireturn, 1) := by decide +kernel
theorem dX6_shop_105 : decode cX6_shop 105 = .ok (.aload_n 0, 1) := by decide +kernel
theorem dX6_shop_106 : decode cX6_shop 106 = .ok (.iconst 2, 1) := by decide +kernel
theorem dX6_shop_107 : decode cX6_shop 107 = .ok (.invokevirtual 300, 3) := by decide +kernel
theorem dX6_shop_110 : decode cX6_shop 110 = .ok (.ireturn, 1) := by decide +kernel
theorem dX6_shop_111 : decode cX6_shop 111 = .ok (.aload_n 0, 1) := by decide +kernel
theorem dX6_shop_112 : decode cX6_shop 112 = .ok (.getfield 303, 3) := by decide +kernel
theorem dX6_shop_115 : decode cX6_shop 115 = .ok (.ireturn, 1) := by decide +kernel
theorem dX6_shop_116 : decode cX6_shop 116 = .ok (.aload_n 0, 1) := by decide +kernel
theorem dX6_shop_117 : decode cX6_shop 117 = .ok (.getfield 306, 3) := by decide +kernel
theorem dX6_shop_120 : decode cX6_shop 120 = .ok (.ireturn, 1) := by decide +kernel
theorem dX6_shop_121 : decode cX6_shop 121 = .ok (.aload_n 0, 1) := by decide +kernel
theorem dX6_shop_122 : decode cX6_shop 122 = .ok (.getfield 22, 3) := by decide +kernel
theorem dX6_shop_125 : decode cX6_shop 125 = .ok (.invokevirtual 47, 3) := by decide +kernel
theorem dX6_shop_128 : decode cX6_shop 128 = .ok (.ireturn, 1) := by decide +kernel
theorem dX6_shop_129 : decode cX6_shop 129 = .ok (.aload_n 0, 1) := by decide +kernel
theorem dX6_shop_130 : decode cX6_shop 130 = .ok (.invokevirtual 226, 3) := by decide +kernel
theorem dX6_shop_133 : decode cX6_shop 133 = .ok (.ireturn, 1) := by decide +kernel
theorem dX6_shop_134 : decode cX6_shop 134 = .ok (.aload_n 0, 1) := by decide +kernel
theorem dX6_shop_135 : decode cX6_shop 135 = .ok (.getfield 229, 3) := by decide +kernel
theorem dX6_shop_138 : decode cX6_shop 138 = .ok (.invokestatic 235, 3) := by decide +kernel
theorem dX6_shop_141 : decode cX6_shop 141 = .ok (.ireturn, 1) := by decide +kernel
theorem dX6_shop_142 : decode cX6_shop 142 = .ok (.new 29, 3) := by decide +kernel
theorem dX6_shop_145 : decode cX6_shop 145 = .ok (.dup, 1) := by decide +kernel
theorem dX6_shop_146 : decode cX6_shop 146 = .ok (.ldc_w 309, 3) := by decide +kernel
theorem dX6_shop_149 : decode cX6_shop 149 = .ok (.invokespecial 33, 3) := by decide +kernel
theorem dX6_shop_152 : decode cX6_shop 152 = .ok (.athrow, 1) := by decide +kernel
set_option maxRecDepth 20000 in
theorem ggX6_wouldTake_X6_checkTill : GoodIn wsX6_wouldTake wsX6_checkTill := goodIn_ca (goodIn_r _ [6, 7, 8] (by decide +kernel) (by decide +kernel)) (goodIn_sub (fun _ h => List.mem_cons_of_mem _ (List.mem_append_right _ h)) (by decide +kernel))
set_option maxRecDepth 20000 in
theorem gX6_wouldTake_X6_checkTill : GoodIn wsX6_wouldTake (va_wsS RX6 101 yX6_checkTill wsX6_checkTill) := goodIn_app (goodIn_of _ (by decide +kernel)) ggX6_wouldTake_X6_checkTill
set_option maxRecDepth 20000 in
theorem ggX6_wouldTake_X6_isJoined : GoodIn wsX6_wouldTake wsX6_isJoined := goodIn_r _ [12, 13, 65, 66, 67, 68, 69, 70, 71, 72, 73] (by decide +kernel) (by decide +kernel)
set_option maxRecDepth 20000 in
theorem gX6_wouldTake_X6_isJoined : GoodIn wsX6_wouldTake (wsV RX6 105 RX6 yX6_isJoined wsX6_isJoined) := goodIn_app (goodIn_of _ (by decide +kernel)) ggX6_wouldTake_X6_isJoined
set_option maxRecDepth 20000 in
theorem ggX6_wouldTake_Jx4a65c_size_8abf5 : GoodIn wsX6_wouldTake wsJx4a65c_size_8abf5 := goodIn_r _ [18, 19, 74, 75, 76] (by decide +kernel) (by decide +kernel)
set_option maxRecDepth 20000 in
theorem gX6_wouldTake_Jx4a65c_size_8abf5 : GoodIn wsX6_wouldTake (wsV RX6 47 RJx4a65c yJx4a65c_size_8abf5 wsJx4a65c_size_8abf5) := goodIn_app (goodIn_of _ (by decide +kernel)) ggX6_wouldTake_Jx4a65c_size_8abf5
set_option maxRecDepth 20000 in
theorem ggX6_wouldTake_Jx4a65c_get_915e3 : GoodIn wsX6_wouldTake wsJx4a65c_get_915e3 := goodIn_r _ [23, 19, 24, 25, 26, 27, 28, 29, 30, 31, 32, 33, 34, 17, 35, 36, 74, 75, 76] (by decide +kernel) (by decide +kernel)
set_option maxRecDepth 20000 in
theorem gX6_wouldTake_Jx4a65c_get_915e3 : GoodIn wsX6_wouldTake (wsV RX6 122 RJx4a65c yJx4a65c_get_915e3 wsJx4a65c_get_915e3) := goodIn_app (goodIn_of _ (by decide +kernel)) ggX6_wouldTake_Jx4a65c_get_915e3
set_option maxRecDepth 20000 in
theorem ggX6_wouldTake_X6_tooManyWith : GoodIn wsX6_wouldTake wsX6_tooManyWith := goodIn_r _ [40, 41, 42, 43, 44, 45, 46, 47, 48, 49, 50, 51, 14, 15, 16, 17, 18, 19, 20, 21, 22, 23, 24, 25, 26, 27, 28, 29, 30, 31, 32, 33, 34, 35, 36, 52, 53, 54, 55, 56, 57, 58, 59, 60, 61, 62, 63, 64, 65, 66, 67, 68, 69, 70, 71, 72, 73, 77, 78, 79, 80, 81, 82, 83, 84, 85, 86, 87, 88, 89, 90, 91, 92, 93, 94, 95, 96, 97, 98, 99, 100, 74, 75, 76] (by decide +kernel) (by decide +kernel)
set_option maxRecDepth 20000 in
theorem gX6_wouldTake_X6_tooManyWith : GoodIn wsX6_wouldTake (wsV RX6 334 RX6 yX6_tooManyWith wsX6_tooManyWith) := goodIn_app (goodIn_of _ (by decide +kernel)) ggX6_wouldTake_X6_tooManyWith
theorem dX6_wouldTake_0 : decode cX6_wouldTake 0 = .ok (.iload_n 1, 1) := by decide +kernel
theorem dX6_wouldTake_1 : decode cX6_wouldTake 1 = .ok (.invokestatic 101, 3) := by decide +kernel
theorem dX6_wouldTake_4 : decode cX6_wouldTake 4 = .ok (.aload_n 0, 1) := by decide +kernel
theorem dX6_wouldTake_5 : decode cX6_wouldTake 5 = .ok (.iload_n 1, 1) := by decide +kernel
theorem dX6_wouldTake_6 : decode cX6_wouldTake 6 = .ok (.invokevirtual 105, 3) := by decide +kernel
theorem dX6_wouldTake_9 : decode cX6_wouldTake 9 = .ok (.ifCond .eq 5, 3) := by decide +kernel
theorem dX6_wouldTake_12 : decode cX6_wouldTake 12 = .ok (.iconst 0, 1) := by decide +kernel
theorem dX6_wouldTake_13 : decode cX6_wouldTake 13 = .ok (.ireturn, 1) := by decide +kernel
theorem dX6_wouldTake_14 : decode cX6_wouldTake 14 = .ok (.iconst 0, 1) := by decide +kernel
theorem dX6_wouldTake_15 : decode cX6_wouldTake 15 = .ok (.istore_n 2, 1) := by decide +kernel
theorem dX6_wouldTake_16 : decode cX6_wouldTake 16 = .ok (.iconst 0, 1) := by decide +kernel
theorem dX6_wouldTake_17 : decode cX6_wouldTake 17 = .ok (.istore_n 3, 1) := by decide +kernel
theorem dX6_wouldTake_18 : decode cX6_wouldTake 18 = .ok (.iload_n 3, 1) := by decide +kernel
theorem dX6_wouldTake_19 : decode cX6_wouldTake 19 = .ok (.aload_n 0, 1) := by decide +kernel
theorem dX6_wouldTake_20 : decode cX6_wouldTake 20 = .ok (.getfield 12, 3) := by decide +kernel
theorem dX6_wouldTake_23 : decode cX6_wouldTake 23 = .ok (.invokevirtual 47, 3) := by decide +kernel
theorem dX6_wouldTake_26 : decode cX6_wouldTake 26 = .ok (.if_icmp .ge 28, 3) := by decide +kernel
theorem dX6_wouldTake_29 : decode cX6_wouldTake 29 = .ok (.iload_n 2, 1) := by decide +kernel
theorem dX6_wouldTake_30 : decode cX6_wouldTake 30 = .ok (.aload_n 0, 1) := by decide +kernel
theorem dX6_wouldTake_31 : decode cX6_wouldTake 31 = .ok (.aload_n 0, 1) := by decide +kernel
theorem dX6_wouldTake_32 : decode cX6_wouldTake 32 = .ok (.getfield 12, 3) := by decide +kernel
theorem dX6_wouldTake_35 : decode cX6_wouldTake 35 = .ok (.iload_n 3, 1) := by decide +kernel
theorem dX6_wouldTake_36 : decode cX6_wouldTake 36 = .ok (.invokevirtual 122, 3) := by decide +kernel
theorem dX6_wouldTake_39 : decode cX6_wouldTake 39 = .ok (.checkcast 56, 3) := by decide +kernel
theorem dX6_wouldTake_42 : decode cX6_wouldTake 42 = .ok (.iload_n 1, 1) := by decide +kernel
theorem dX6_wouldTake_43 : decode cX6_wouldTake 43 = .ok (.invokevirtual 334, 3) := by decide +kernel
theorem dX6_wouldTake_46 : decode cX6_wouldTake 46 = .ok (.iadd, 1) := by decide +kernel
theorem dX6_wouldTake_47 : decode cX6_wouldTake 47 = .ok (.istore_n 2, 1) := by decide +kernel
theorem dX6_wouldTake_48 : decode cX6_wouldTake 48 = .ok (.iinc 3 1, 3) := by decide +kernel
theorem dX6_wouldTake_51 : decode cX6_wouldTake 51 = .ok (.goto (-33), 3) := by decide +kernel
theorem dX6_wouldTake_54 : decode cX6_wouldTake 54 = .ok (.iload_n 2, 1) := by decide +kernel
theorem dX6_wouldTake_55 : decode cX6_wouldTake 55 = .ok (.ireturn, 1) := by decide +kernel
set_option maxRecDepth 20000 in
theorem ggX6_hint_X6_guestNumbered : GoodIn wsX6_hint wsX6_guestNumbered := goodIn_ca (goodIn_r _ [11, 12, 13, 14, 15, 16, 17, 18, 19, 20, 21, 22, 23, 24, 25, 26, 27, 28, 29, 30, 31, 32, 33, 34, 35, 36, 37, 38, 150, 151, 152, 153, 154, 155, 156, 157, 158, 166, 167, 168] (by decide +kernel) (by decide +kernel)) (goodIn_sub (fun _ h => List.mem_cons_of_mem _ (List.mem_append_right _ h)) (by decide +kernel))
set_option maxRecDepth 20000 in
theorem gX6_hint_X6_guestNumbered : GoodIn wsX6_hint (wsV RX6 129 RX6 yX6_guestNumbered wsX6_guestNumbered) := goodIn_app (goodIn_of _ (by decide +kernel)) ggX6_hint_X6_guestNumbered
set_option maxRecDepth 20000 in
theorem ggX6_hint_X6_checkTill : GoodIn wsX6_hint wsX6_checkTill := goodIn_ca (goodIn_r _ [41, 12, 13] (by decide +kernel) (by decide +kernel)) (goodIn_sub (fun _ h => List.mem_cons_of_mem _ (List.mem_append_right _ h)) (by decide +kernel))
set_option maxRecDepth 20000 in
theorem gX6_hint_X6_checkTill : GoodIn wsX6_hint (va_wsS RX6 101 yX6_checkTill wsX6_checkTill) := goodIn_app (goodIn_of _ (by decide +kernel)) ggX6_hint_X6_checkTill
set_option maxRecDepth 20000 in
theorem ggX6_hint_X6_takeStock : GoodIn wsX6_hint wsX6_takeStock := goodIn_r _ [45, 2, 3, 4, 16, 17, 18, 19, 20, 21, 22, 23, 24, 25, 26, 27, 28, 29, 30, 31, 32, 33, 34, 35, 36, 37, 38, 46, 47, 48, 10, 49, 50, 51, 52, 53, 54, 55, 56, 57, 58, 59, 60, 61, 62, 63, 64, 65, 66, 67, 68, 69, 70, 71, 72, 73, 74, 75, 76, 77, 78, 79, 80, 81, 82, 83, 84, 85, 86, 87, 88, 89, 90, 91, 92, 93, 94, 95, 96, 150, 151, 152, 153, 154, 155, 156, 157, 158, 159, 160, 161, 162, 163, 164, 165, 166, 167, 168, 169, 170, 171, 172, 173, 174, 175, 176, 177, 178, 179, 180, 181, 182, 183, 184, 185] (by decide +kernel) (by decide +kernel)
set_option maxRecDepth 20000 in
theorem gX6_hint_X6_takeStock : GoodIn wsX6_hint (wsV RX6 272 RX6 yX6_takeStock wsX6_takeStock) := goodIn_app (goodIn_of _ (by decide +kernel)) ggX6_hint_X6_takeStock
set_option maxRecDepth 20000 in
theorem ggX6_hint_X6_guestsWithoutPart : GoodIn wsX6_hint wsX6_guestsWithoutPart := goodIn_r _ [100, 14, 15, 16, 17, 18, 19, 20, 21, 22, 23, 24, 25, 26, 27, 28, 29, 30, 31, 32, 33, 34, 35, 36, 37, 38, 101, 102, 103, 10, 104, 66, 67, 105, 106, 107, 108, 109, 110, 111, 112, 113, 114, 2, 3, 115, 116, 117, 118, 119, 120, 121, 122, 123, 124, 125, 150, 151, 152, 153, 154, 155, 156, 157, 158, 166, 167, 168, 169, 170, 171, 172, 173, 174, 175, 176, 177, 178, 179, 180, 181, 182, 183, 184, 185, 159, 160, 161, 162, 163, 164, 165, 186, 187] (by decide +kernel) (by decide +kernel)
set_option maxRecDepth 20000 in
theorem gX6_hint_X6_guestsWithoutPart : GoodIn wsX6_hint (wsV RX6 275 RX6 yX6_guestsWithoutPart wsX6_guestsWithoutPart) := goodIn_app (goodIn_of _ (by decide +kernel)) ggX6_hint_X6_guestsWithoutPart
set_option maxRecDepth 20000 in
theorem ggX6_hint_X6_fillBy : GoodIn wsX6_hint wsX6_fillBy := goodIn_r _ [129, 14, 15, 6, 130, 131, 60, 132, 133, 134, 135, 136, 137, 138, 139, 16, 17, 18, 19, 20, 21, 22, 23, 24, 25, 26, 27, 28, 29, 30, 31, 32, 33, 34, 35, 36, 37, 38, 140, 141, 142, 10, 143, 144, 145, 146, 147, 2, 3, 5, 4, 150, 151, 152, 153, 154, 155, 156, 157, 158, 148, 149, 166, 167, 168, 159, 160, 161, 162, 163, 164, 165] (by decide +kernel) (by decide +kernel)
set_option maxRecDepth 20000 in
theorem gX6_hint_X6_fillBy : GoodIn wsX6_hint (wsV RX6 278 RX6 yX6_fillBy wsX6_fillBy) := goodIn_app (goodIn_of _ (by decide +kernel)) ggX6_hint_X6_fillBy
set_option maxRecDepth 20000 in
theorem ggX6_hint_Jx4a65c_size_8abf5 : GoodIn wsX6_hint wsJx4a65c_size_8abf5 := goodIn_r _ [20, 21, 166, 167, 168] (by decide +kernel) (by decide +kernel)
set_option maxRecDepth 20000 in
theorem gX6_hint_Jx4a65c_size_8abf5 : GoodIn wsX6_hint (wsV RX6 47 RJx4a65c yJx4a65c_size_8abf5 wsJx4a65c_size_8abf5) := goodIn_app (goodIn_of _ (by decide +kernel)) ggX6_hint_Jx4a65c_size_8abf5
set_option maxRecDepth 20000 in
theorem ggX6_hint_Jx4a65c_get_915e3 : GoodIn wsX6_hint wsJx4a65c_get_915e3 := goodIn_r _ [25, 21, 26, 27, 28, 29, 30, 31, 32, 33, 34, 35, 36, 19, 37, 38, 166, 167, 168] (by decide +kernel) (by decide +kernel)
set_option maxRecDepth 20000 in
theorem gX6_hint_Jx4a65c_get_915e3 : GoodIn wsX6_hint (wsV RX6 122 RJx4a65c yJx4a65c_get_915e3 wsJx4a65c_get_915e3) := goodIn_app (goodIn_of _ (by decide +kernel)) ggX6_hint_Jx4a65c_get_915e3
theorem dX6_hint_0 : decode cX6_hint 0 = .ok (.aload_n 0, 1) := by decide +kernel
theorem dX6_hint_1 : decode cX6_hint 1 = .ok (.iload_n 1, 1) := by decide +kernel
theorem dX6_hint_2 : decode cX6_hint 2 = .ok (.invokevirtual 129, 3) := by decide +kernel
theorem dX6_hint_5 : decode cX6_hint 5 = .ok (.astore_n 3, 1) := by decide +kernel
theorem dX6_hint_6 : decode cX6_hint 6 = .ok (.iload_n 2, 1) := by decide +kernel
theorem dX6_hint_7 : decode cX6_hint 7 = .ok (.invokestatic 101, 3) := by decide +kernel
theorem dX6_hint_10 : decode cX6_hint 10 = .ok (.aload_n 0, 1) := by decide +kernel
theorem dX6_hint_11 : decode cX6_hint 11 = .ok (.iload_n 2, 1) := by decide +kernel
theorem dX6_hint_12 : decode cX6_hint 12 = .ok (.invokevirtual 272, 3) := by decide +kernel
theorem dX6_hint_15 : decode cX6_hint 15 = .ok (.aload_n 0, 1) := by decide +kernel
theorem dX6_hint_16 : decode cX6_hint 16 = .ok (.invokevirtual 275, 3) := by decide +kernel
theorem dX6_hint_19 : decode cX6_hint 19 = .ok (.iconst 1, 1) := by decide +kernel
theorem dX6_hint_20 : decode cX6_hint 20 = .ok (.aload_n 3, 1) := by decide +kernel
theorem dX6_hint_21 : decode cX6_hint 21 = .ok (.getfield 290, 3) := by decide +kernel
theorem dX6_hint_24 : decode cX6_hint 24 = .ok (.ishl, 1) := by decide +kernel
theorem dX6_hint_25 : decode cX6_hint 25 = .ok (.iconst (-1), 1) := by decide +kernel
theorem dX6_hint_26 : decode cX6_hint 26 = .ok (.ixor, 1) := by decide +kernel
theorem dX6_hint_27 : decode cX6_hint 27 = .ok (.iand, 1) := by decide +kernel
theorem dX6_hint_28 : decode cX6_hint 28 = .ok (.istore 4, 2) := by decide +kernel
theorem dX6_hint_30 : decode cX6_hint 30 = .ok (.aload_n 0, 1) := by decide +kernel
theorem dX6_hint_31 : decode cX6_hint 31 = .ok (.iload 4, 2) := by decide +kernel
theorem dX6_hint_33 : decode cX6_hint 33 = .ok (.iconst (-1), 1) := by decide +kernel
theorem dX6_hint_34 : decode cX6_hint 34 = .ok (.invokevirtual 278, 3) := by decide +kernel
theorem dX6_hint_37 : decode cX6_hint 37 = .ok (.istore 5, 2) := by decide +kernel
theorem dX6_hint_39 : decode cX6_hint 39 = .ok (.iconst (-1), 1) := by decide +kernel
theorem dX6_hint_40 : decode cX6_hint 40 = .ok (.istore 6, 2) := by decide +kernel
theorem dX6_hint_42 : decode cX6_hint 42 = .ok (.sipush 10000, 3) := by decide +kernel
theorem dX6_hint_45 : decode cX6_hint 45 = .ok (.istore 7, 2) := by decide +kernel
theorem dX6_hint_47 : decode cX6_hint 47 = .ok (.iconst (-1), 1) := by decide +kernel
theorem dX6_hint_48 : decode cX6_hint 48 = .ok (.istore 8, 2) := by decide +kernel
theorem dX6_hint_50 : decode cX6_hint 50 = .ok (.iconst 0, 1) := by decide +kernel
theorem dX6_hint_51 : decode cX6_hint 51 = .ok (.istore 9, 2) := by decide +kernel
theorem dX6_hint_53 : decode cX6_hint 53 = .ok (.iconst 0, 1) := by decide +kernel
theorem dX6_hint_54 : decode cX6_hint 54 = .ok (.istore 10, 2) := by decide +kernel
theorem dX6_hint_56 : decode cX6_hint 56 = .ok (.iload 10, 2) := by decide +kernel
theorem dX6_hint_58 : decode cX6_hint 58 = .ok (.aload_n 0, 1) := by decide +kernel
theorem dX6_hint_59 : decode cX6_hint 59 = .ok (.getfield 12, 3) := by decide +kernel
theorem dX6_hint_62 : decode cX6_hint 62 = .ok (.invokevirtual 47, 3) := by decide +kernel
theorem dX6_hint_65 : decode cX6_hint 65 = .ok (.if_icmp .ge 101, 3) := by decide +kernel
theorem dX6_hint_68 : decode cX6_hint 68 = .ok (.aload_n 0, 1) := by decide +kernel
theorem dX6_hint_69 : decode cX6_hint 69 = .ok (.getfield 12, 3) := by decide +kernel
theorem dX6_hint_72 : decode cX6_hint 72 = .ok (.iload 10, 2) := by decide +kernel
theorem dX6_hint_74 : decode cX6_hint 74 = .ok (.invokevirtual 122, 3) := by decide +kernel
theorem dX6_hint_77 : decode cX6_hint 77 = .ok (.checkcast 56, 3) := by decide +kernel
theorem dX6_hint_80 : decode cX6_hint 80 = .ok (.astore 11, 2) := by decide +kernel
theorem dX6_hint_82 : decode cX6_hint 82 = .ok (.aload 11, 2) := by decide +kernel
theorem dX6_hint_84 : decode cX6_hint 84 = .ok (.getfield 337, 3) := by decide +kernel
theorem dX6_hint_87 : decode cX6_hint 87 = .ok (.ifCond .eq 73, 3) := by decide +kernel
theorem dX6_hint_90 : decode cX6_hint 90 = .ok (.aload 11, 2) := by decide +kernel
theorem dX6_hint_92 : decode cX6_hint 92 = .ok (.getfield 88, 3) := by decide +kernel
theorem dX6_hint_95 : decode cX6_hint 95 = .ok (.aload_n 3, 1) := by decide +kernel
theorem dX6_hint_96 : decode cX6_hint 96 = .ok (.getfield 158, 3) := by decide +kernel
theorem dX6_hint_99 : decode cX6_hint 99 = .ok (.if_icmp .le 6, 3) := by decide +kernel
theorem dX6_hint_102 : decode cX6_hint 102 = .ok (.goto 58, 3) := by decide +kernel
theorem dX6_hint_105 : decode cX6_hint 105 = .ok (.aload 11, 2) := by decide +kernel
theorem dX6_hint_107 : decode cX6_hint 107 = .ok (.getfield 88, 3) := by decide +kernel
theorem dX6_hint_110 : decode cX6_hint 110 = .ok (.iload 9, 2) := by decide +kernel
theorem dX6_hint_112 : decode cX6_hint 112 = .ok (.if_icmp .le 14, 3) := by decide +kernel
theorem dX6_hint_115 : decode cX6_hint 115 = .ok (.iload 10, 2) := by decide +kernel
theorem dX6_hint_117 : decode cX6_hint 117 = .ok (.istore 8, 2) := by decide +kernel
theorem dX6_hint_119 : decode cX6_hint 119 = .ok (.aload 11, 2) := by decide +kernel
theorem dX6_hint_121 : decode cX6_hint 121 = .ok (.getfield 88, 3) := by decide +kernel
theorem dX6_hint_124 : decode cX6_hint 124 = .ok (.istore 9, 2) := by decide +kernel
theorem dX6_hint_126 : decode cX6_hint 126 = .ok (.aload 11, 2) := by decide +kernel
theorem dX6_hint_128 : decode cX6_hint 128 = .ok (.getfield 88, 3) := by decide +kernel
theorem dX6_hint_131 : decode cX6_hint 131 = .ok (.iload 7, 2) := by decide +kernel
theorem dX6_hint_133 : decode cX6_hint 133 = .ok (.if_icmp .ge 27, 3) := by decide +kernel
theorem dX6_hint_136 : decode cX6_hint 136 = .ok (.aload_n 0, 1) := by decide +kernel
theorem dX6_hint_137 : decode cX6_hint 137 = .ok (.iload 4, 2) := by decide +kernel
theorem dX6_hint_139 : decode cX6_hint 139 = .ok (.iload 10, 2) := by decide +kernel
theorem dX6_hint_141 : decode cX6_hint 141 = .ok (.invokevirtual 278, 3) := by decide +kernel
theorem dX6_hint_144 : decode cX6_hint 144 = .ok (.iload 5, 2) := by decide +kernel
theorem dX6_hint_146 : decode cX6_hint 146 = .ok (.if_icmp .ne 14, 3) := by decide +kernel
theorem dX6_hint_149 : decode cX6_hint 149 = .ok (.iload 10, 2) := by decide +kernel
theorem dX6_hint_151 : decode cX6_hint 151 = .ok (.istore 6, 2) := by decide +kernel
theorem dX6_hint_153 : decode cX6_hint 153 = .ok (.aload 11, 2) := by decide +kernel
theorem dX6_hint_155 : decode cX6_hint 155 = .ok (.getfield 88, 3) := by decide +kernel
theorem dX6_hint_158 : decode cX6_hint 158 = .ok (.istore 7, 2) := by decide +kernel
theorem dX6_hint_160 : decode cX6_hint 160 = .ok (.iinc 10 1, 3) := by decide +kernel
theorem dX6_hint_163 : decode cX6_hint 163 = .ok (.goto (-107), 3) := by decide +kernel
theorem dX6_hint_166 : decode cX6_hint 166 = .ok (.iload 6, 2) := by decide +kernel
theorem dX6_hint_168 : decode cX6_hint 168 = .ok (.iconst (-1), 1) := by decide +kernel
theorem dX6_hint_169 : decode cX6_hint 169 = .ok (.if_icmp .ne 8, 3) := by decide +kernel
theorem dX6_hint_172 : decode cX6_hint 172 = .ok (.iload 8, 2) := by decide +kernel
theorem dX6_hint_174 : decode cX6_hint 174 = .ok (.goto 5, 3) := by decide +kernel
theorem dX6_hint_177 : decode cX6_hint 177 = .ok (.iload 6, 2) := by decide +kernel
theorem dX6_hint_179 : decode cX6_hint 179 = .ok (.ireturn, 1) := by decide +kernel
set_option maxRecDepth 20000 in
theorem ggX6_isSound_X6_noneTooManyIfAllJoined : GoodIn wsX6_isSound wsX6_noneTooManyIfAllJoined := goodIn_r _ [7, 8, 9, 10, 11, 12, 13, 14, 15, 16, 17, 18, 19, 20, 21, 22, 23, 24, 25, 26, 27, 28, 29, 30, 31, 32, 33, 34, 35, 36, 37, 6, 38, 39, 40, 41, 42, 43, 44, 45, 46, 124, 125, 126, 127, 128, 129, 130, 131, 132, 133, 134, 135, 136, 137, 138, 139, 140, 141, 142, 143, 144, 145, 146, 147, 148, 149, 150, 151, 152, 153, 154, 155, 156, 157, 158, 159] (by decide +kernel) (by decide +kernel)
set_option maxRecDepth 20000 in
theorem gX6_isSound_X6_noneTooManyIfAllJoined : GoodIn wsX6_isSound (wsV RX6 340 RX6 yX6_noneTooManyIfAllJoined wsX6_noneTooManyIfAllJoined) := goodIn_app (goodIn_of _ (by decide +kernel)) ggX6_isSound_X6_noneTooManyIfAllJoined
set_option maxRecDepth 20000 in
theorem ggX6_isSound_X6_paidForKept : GoodIn wsX6_isSound wsX6_paidForKept := goodIn_r _ [50, 51, 52, 12, 13, 14, 15, 16, 17, 18, 19, 20, 21, 22, 23, 24, 25, 26, 27, 28, 29, 30, 31, 32, 33, 34, 53, 54, 55, 6, 56, 39, 40, 57, 58, 59, 60, 61, 62, 63, 64, 65, 124, 125, 126, 127, 128, 129, 130, 131, 132, 140, 141, 142, 143, 144, 145, 146, 147, 148, 149, 150, 151, 152, 153, 154, 155, 156, 157, 158, 159] (by decide +kernel) (by decide +kernel)
set_option maxRecDepth 20000 in
theorem gX6_isSound_X6_paidForKept : GoodIn wsX6_isSound (wsV RX6 343 RX6 yX6_paidForKept wsX6_paidForKept) := goodIn_app (goodIn_of _ (by decide +kernel)) ggX6_isSound_X6_paidForKept
set_option maxRecDepth 20000 in
theorem ggX6_isSound_X6_pledgedNow : GoodIn wsX6_isSound wsX6_pledgedNow := goodIn_r _ [69, 9, 10, 12, 13, 14, 15, 16, 17, 18, 19, 20, 21, 22, 23, 24, 25, 26, 27, 28, 29, 30, 31, 32, 33, 34, 70, 71, 72, 73, 74, 75, 76, 77, 78, 79, 124, 125, 126, 127, 128, 129, 130, 131, 132, 140, 141, 142, 133, 134, 135, 136, 137, 138, 139, 160, 161] (by decide +kernel) (by decide +kernel)
set_option maxRecDepth 20000 in
theorem gX6_isSound_X6_pledgedNow : GoodIn wsX6_isSound (wsV RX6 346 RX6 yX6_pledgedNow wsX6_pledgedNow) := goodIn_app (goodIn_of _ (by decide +kernel)) ggX6_isSound_X6_pledgedNow
set_option maxRecDepth 20000 in
theorem ggX6_isSound_X6_noPurseBelowZero : GoodIn wsX6_isSound wsX6_noPurseBelowZero := goodIn_r _ [83, 51, 52, 84, 12, 13, 14, 15, 16, 17, 18, 19, 20, 21, 22, 23, 24, 25, 26, 27, 28, 29, 30, 31, 32, 33, 34, 124, 125, 126, 127, 128, 129, 130, 131, 132, 162, 163, 140, 141, 142] (by decide +kernel) (by decide +kernel)
set_option maxRecDepth 20000 in
theorem gX6_isSound_X6_noPurseBelowZero : GoodIn wsX6_isSound (wsV RX6 349 RX6 yX6_noPurseBelowZero wsX6_noPurseBelowZero) := goodIn_app (goodIn_of _ (by decide +kernel)) ggX6_isSound_X6_noPurseBelowZero
set_option maxRecDepth 20000 in
theorem ggX6_isSound_X6_noOrderedLacks : GoodIn wsX6_isSound wsX6_noOrderedLacks := goodIn_r _ [88, 9, 10, 12, 13, 14, 15, 16, 17, 18, 19, 20, 21, 22, 23, 24, 25, 26, 27, 28, 29, 30, 31, 32, 33, 34, 89, 90, 91, 73, 92, 93, 94, 95, 96, 97, 98, 99, 100, 101, 102, 103, 71, 72, 74, 75, 76, 77, 78, 79, 104, 124, 125, 126, 127, 128, 129, 130, 131, 132, 140, 141, 142, 133, 134, 135, 136, 137, 138, 139, 160, 161] (by decide +kernel) (by decide +kernel)
set_option maxRecDepth 20000 in
theorem gX6_isSound_X6_noOrderedLacks : GoodIn wsX6_isSound (wsV RX6 352 RX6 yX6_noOrderedLacks wsX6_noOrderedLacks) := goodIn_app (goodIn_of _ (by decide +kernel)) ggX6_isSound_X6_noOrderedLacks
set_option maxRecDepth 20000 in
theorem ggX6_isSound_X6_joinedTillsSeeAlike : GoodIn wsX6_isSound wsX6_joinedTillsSeeAlike := goodIn_r _ [108, 109, 110, 111, 6, 112, 8, 113, 114, 115, 116, 39, 40, 12, 13, 14, 15, 16, 17, 18, 19, 20, 21, 22, 23, 24, 25, 26, 27, 28, 29, 30, 31, 32, 33, 34, 60, 61, 62, 63, 64, 65, 117, 118, 119, 120, 121, 122, 123, 44, 45, 46, 124, 125, 126, 127, 128, 129, 130, 131, 132, 140, 141, 142, 143, 144, 145, 146, 147, 148, 149, 150, 151, 152, 153, 154, 155, 156, 157, 158, 159] (by decide +kernel) (by decide +kernel)
set_option maxRecDepth 20000 in
theorem gX6_isSound_X6_joinedTillsSeeAlike : GoodIn wsX6_isSound (wsV RX6 355 RX6 yX6_joinedTillsSeeAlike wsX6_joinedTillsSeeAlike) := goodIn_app (goodIn_of _ (by decide +kernel)) ggX6_isSound_X6_joinedTillsSeeAlike
theorem dX6_isSound_0 : decode cX6_isSound 0 = .ok (.aload_n 0, 1) := by decide +kernel
theorem dX6_isSound_1 : decode cX6_isSound 1 = .ok (.invokevirtual 340, 3) := by decide +kernel
theorem dX6_isSound_4 : decode cX6_isSound 4 = .ok (.ifCond .eq 49, 3) := by decide +kernel
theorem dX6_isSound_7 : decode cX6_isSound 7 = .ok (.aload_n 0, 1) := by decide +kernel
theorem dX6_isSound_8 : decode cX6_isSound 8 = .ok (.getfield 303, 3) := by decide +kernel
theorem dX6_isSound_11 : decode cX6_isSound 11 = .ok (.aload_n 0, 1) := by decide +kernel
theorem dX6_isSound_12 : decode cX6_isSound 12 = .ok (.invokevirtual 343, 3) := by decide +kernel
theorem dX6_isSound_15 : decode cX6_isSound 15 = .ok (.aload_n 0, 1) := by decide +kernel
theorem dX6_isSound_16 : decode cX6_isSound 16 = .ok (.invokevirtual 346, 3) := by decide +kernel
theorem dX6_isSound_19 : decode cX6_isSound 19 = .ok (.iadd, 1) := by decide +kernel
theorem dX6_isSound_20 : decode cX6_isSound 20 = .ok (.aload_n 0, 1) := by decide +kernel
theorem dX6_isSound_21 : decode cX6_isSound 21 = .ok (.getfield 306, 3) := by decide +kernel
theorem dX6_isSound_24 : decode cX6_isSound 24 = .ok (.iadd, 1) := by decide +kernel
theorem dX6_isSound_25 : decode cX6_isSound 25 = .ok (.if_icmp .ne 28, 3) := by decide +kernel
theorem dX6_isSound_28 : decode cX6_isSound 28 = .ok (.aload_n 0, 1) := by decide +kernel
theorem dX6_isSound_29 : decode cX6_isSound 29 = .ok (.invokevirtual 349, 3) := by decide +kernel
theorem dX6_isSound_32 : decode cX6_isSound 32 = .ok (.ifCond .eq 21, 3) := by decide +kernel
theorem dX6_isSound_35 : decode cX6_isSound 35 = .ok (.aload_n 0, 1) := by decide +kernel
theorem dX6_isSound_36 : decode cX6_isSound 36 = .ok (.invokevirtual 352, 3) := by decide +kernel
theorem dX6_isSound_39 : decode cX6_isSound 39 = .ok (.ifCond .eq 14, 3) := by decide +kernel
theorem dX6_isSound_42 : decode cX6_isSound 42 = .ok (.aload_n 0, 1) := by decide +kernel
theorem dX6_isSound_43 : decode cX6_isSound 43 = .ok (.invokevirtual 355, 3) := by decide +kernel
theorem dX6_isSound_46 : decode cX6_isSound 46 = .ok (.ifCond .eq 7, 3) := by decide +kernel
theorem dX6_isSound_49 : decode cX6_isSound 49 = .ok (.iconst 1, 1) := by decide +kernel
theorem dX6_isSound_50 : decode cX6_isSound 50 = .ok (.goto 4, 3) := by decide +kernel
theorem dX6_isSound_53 : decode cX6_isSound 53 = .ok (.iconst 0, 1) := by decide +kernel
theorem dX6_isSound_54 : decode cX6_isSound 54 = .ok (.ireturn, 1) := by decide +kernel
set_option maxRecDepth 20000 in
theorem ggX6_digest_X6_shop : GoodIn wsX6_digest wsX6_shop := goodIn_ca (goodIn_r _ [10, 11, 12, 13, 3, 4, 5, 14, 15, 16, 17, 18, 19, 20, 21, 22, 23, 24, 25, 26, 9, 27, 28, 29, 30, 31, 32, 33, 34, 35, 36, 37, 38, 39, 40, 41, 42, 43, 44, 45, 46, 47, 48, 49, 50, 51, 52, 53, 54, 55, 56, 57, 58, 59, 60, 61, 62, 63, 64, 65, 66, 299, 300, 301, 302, 303, 304, 305, 306, 307, 308, 309, 310, 311, 312, 313, 314, 315, 316, 317, 318, 319, 320, 321, 322, 323, 324, 325, 326, 327, 328, 329, 330, 331, 332, 333, 334] (by decide +kernel) (by decide +kernel)) (goodIn_sub (fun _ h => List.mem_cons_of_mem _ (List.mem_append_left _ (List.mem_append_right _ h))) (by decide +kernel))
set_option maxRecDepth 20000 in
theorem gX6_digest_X6_shop : GoodIn wsX6_digest (wsV RX6 362 RX6 yX6_shop wsX6_shop) := goodIn_app (goodIn_of _ (by decide +kernel)) ggX6_digest_X6_shop
set_option maxRecDepth 20000 in
theorem ggX6_digest_Jx4a65c_size_8abf5 : GoodIn wsX6_digest wsJx4a65c_size_8abf5 := goodIn_r _ [22, 23, 308, 309, 310] (by decide +kernel) (by decide +kernel)
set_option maxRecDepth 20000 in
theorem gX6_digest_Jx4a65c_size_8abf5 : GoodIn wsX6_digest (wsV RX6 47 RJx4a65c yJx4a65c_size_8abf5 wsJx4a65c_size_8abf5) := goodIn_app (goodIn_of _ (by decide +kernel)) ggX6_digest_Jx4a65c_size_8abf5
set_option maxRecDepth 20000 in
theorem ggX6_digest_X6_ofWish : GoodIn wsX6_digest wsX6_ofWish := goodIn_ca (goodIn_ca (goodIn_r _ [70, 11, 12, 71, 72, 73, 74, 75, 76, 77, 9, 78, 79, 80, 3, 81, 18, 19, 20, 21, 22, 23, 30, 31, 32, 33, 34, 35, 36, 37, 38, 39, 40, 41, 42, 43, 44, 45, 46, 47, 48, 49, 82, 83, 84, 85, 5, 28, 29, 86, 87, 88, 89, 90, 91, 92, 93, 94, 95, 96, 97, 98, 99, 100, 101, 102, 103, 104, 105, 106, 107, 108, 109, 110, 111, 112, 113, 328, 329, 330, 331, 332, 333, 334, 299, 300, 301, 302, 303, 304, 305, 306, 307, 308, 309, 310, 311, 312, 313, 314, 315, 316, 317, 318, 319, 320, 321, 322, 323, 324, 325, 326, 327, 335, 336] (by decide +kernel) (by decide +kernel)) (goodIn_sub (fun _ h => List.mem_cons_of_mem _ (List.mem_append_left _ (List.mem_append_right _ h))) (by decide +kernel))) (goodIn_sub (fun _ h => List.mem_cons_of_mem _ (List.mem_append_right _ h)) (by decide +kernel))
set_option maxRecDepth 20000 in
theorem gX6_digest_X6_ofWish : GoodIn wsX6_digest (wsV RX6 365 RX6 yX6_ofWish wsX6_ofWish) := goodIn_app (goodIn_of _ (by decide +kernel)) ggX6_digest_X6_ofWish
set_option maxRecDepth 20000 in
theorem ggX6_digest_X6_ofGuest : GoodIn wsX6_digest wsX6_ofGuest := goodIn_ca (goodIn_ca (goodIn_r _ [117, 11, 12, 118, 119, 120, 121, 9, 122, 79, 80, 4, 123, 18, 19, 20, 21, 22, 23, 30, 31, 32, 33, 34, 35, 36, 37, 38, 39, 40, 41, 42, 43, 44, 45, 46, 124, 125, 126, 127, 5, 28, 29, 128, 129, 47, 48, 49, 130, 131, 132, 133, 134, 135, 136, 137, 138, 139, 140, 141, 142, 143, 144, 3, 81, 145, 146, 147, 91, 148, 93, 94, 149, 95, 96, 97, 150, 151, 152, 153, 16, 54, 154, 155, 13, 55, 56, 57, 58, 59, 60, 61, 62, 63, 64, 65, 66, 337, 338, 299, 300, 301, 302, 303, 304, 305, 306, 307, 308, 309, 310, 311, 312, 313, 314, 315, 316, 317, 318, 319, 320, 321, 322, 323, 324, 325, 326, 327, 328, 329, 330, 331, 332, 333, 334, 335, 336] (by decide +kernel) (by decide +kernel)) (goodIn_sub (fun _ h => List.mem_cons_of_mem _ (List.mem_append_left _ (List.mem_append_right _ h))) (by decide +kernel))) (goodIn_sub (fun _ h => List.mem_cons_of_mem _ (List.mem_append_right _ h)) (by decide +kernel))
set_option maxRecDepth 20000 in
theorem gX6_digest_X6_ofGuest : GoodIn wsX6_digest (wsV RX6 368 RX6 yX6_ofGuest wsX6_ofGuest) := goodIn_app (goodIn_of _ (by decide +kernel)) ggX6_digest_X6_ofGuest
set_option maxRecDepth 20000 in
theorem ggX6_digest_X6_digestTill : GoodIn wsX6_digest wsX6_digestTill := goodIn_ca (goodIn_ca (goodIn_r _ [159, 2, 3, 4, 160, 161, 162, 9, 163, 11, 12, 164, 165, 166, 79, 80, 167, 168, 169, 170, 171, 47, 48, 49, 172, 173, 174, 175, 5, 28, 176, 177, 18, 19, 20, 21, 22, 23, 30, 31, 32, 33, 34, 35, 36, 37, 38, 39, 40, 41, 42, 43, 44, 45, 46, 135, 136, 137, 138, 139, 140, 178, 179, 180, 181, 16, 54, 13, 55, 56, 57, 58, 59, 60, 61, 62, 63, 64, 65, 66, 182, 183, 184, 185, 186, 187, 188, 189, 190, 191, 192, 193, 194, 195, 196, 197, 198, 199, 81, 200, 201, 202, 203, 204, 73, 74, 71, 205, 206, 105, 106, 107, 207, 208, 209, 210, 86, 87, 211, 212, 213, 214, 123, 124, 125, 126, 127, 29, 128, 129, 141, 142, 143, 144, 145, 146, 147, 91, 148, 93, 94, 149, 95, 96, 97, 215, 216, 217, 218, 118, 219, 220, 221, 222, 223, 224, 225, 226, 227, 228, 229, 230, 231, 232, 233, 234, 235, 236, 72, 237, 238, 239, 240, 241, 242, 243, 244, 75, 76, 77, 78, 245, 246, 247, 248, 249, 119, 120, 121, 122, 250, 251, 252, 253, 254, 255, 256, 257, 258, 259, 260, 261, 262, 263, 299, 300, 301, 302, 303, 304, 305, 306, 307, 311, 312, 313, 314, 315, 316, 317, 318, 319, 320, 321, 322, 323, 324, 325, 326, 327, 308, 309, 310, 328, 329, 330, 331, 332, 333, 334, 335, 336, 337, 338] (by decide +kernel) (by decide +kernel)) (goodIn_sub (fun _ h => List.mem_cons_of_mem _ (List.mem_append_left _ (List.mem_append_right _ h))) (by decide +kernel))) (goodIn_sub (fun _ h => List.mem_cons_of_mem _ (List.mem_append_right _ h)) (by decide +kernel))
set_option maxRecDepth 20000 in
theorem gX6_digest_X6_digestTill : GoodIn wsX6_digest (wsV RX6 371 RX6 yX6_digestTill wsX6_digestTill) := goodIn_app (goodIn_of _ (by decide +kernel)) ggX6_digest_X6_digestTill
set_option maxRecDepth 20000 in
theorem ggX6_digest_X6_ofGift : GoodIn wsX6_digest wsX6_ofGift := goodIn_ca (goodIn_ca (goodIn_r _ [267, 79, 80, 11, 12, 5, 28, 86, 87, 268, 128, 129, 249, 176, 177, 269, 270, 134, 29, 18, 19, 20, 21, 22, 23, 30, 31, 32, 33, 34, 35, 36, 37, 38, 39, 40, 41, 42, 43, 44, 45, 46, 299, 300, 301, 302, 303, 304, 305, 306, 307, 311, 312, 313, 314, 315, 316, 317, 318, 319, 320, 321, 322, 323, 324, 325, 326, 327, 328, 329, 330, 331, 332, 333, 334, 337, 338, 308, 309, 310] (by decide +kernel) (by decide +kernel)) (goodIn_sub (fun _ h => List.mem_cons_of_mem _ (List.mem_append_right _ h)) (by decide +kernel))) (goodIn_sub (fun _ h => List.mem_cons_of_mem _ (List.mem_append_left _ (List.mem_append_right _ h))) (by decide +kernel))
set_option maxRecDepth 20000 in
theorem gX6_digest_X6_ofGift : GoodIn wsX6_digest (wsV RX6 375 RX6 yX6_ofGift wsX6_ofGift) := goodIn_app (goodIn_of _ (by decide +kernel)) ggX6_digest_X6_ofGift
set_option maxRecDepth 20000 in
theorem ggX6_digest_X6_isSound : GoodIn wsX6_digest wsX6_isSound := goodIn_r _ [274, 14, 15, 275, 276, 277, 9, 278, 171, 3, 81, 71, 18, 19, 20, 21, 22, 23, 30, 31, 32, 33, 34, 35, 36, 37, 38, 39, 40, 41, 42, 43, 44, 45, 46, 82, 83, 84, 85, 5, 28, 29, 86, 87, 47, 48, 49, 279, 280, 281, 282, 4, 123, 130, 131, 132, 133, 128, 129, 134, 135, 136, 137, 138, 139, 140, 283, 284, 285, 286, 88, 89, 90, 91, 92, 93, 94, 95, 96, 97, 287, 288, 289, 290, 118, 291, 292, 293, 294, 109, 110, 111, 112, 102, 113, 99, 100, 101, 103, 104, 105, 106, 107, 108, 98, 295, 296, 297, 298, 167, 168, 169, 170, 189, 190, 191, 192, 193, 194, 195, 185, 186, 187, 188, 299, 300, 301, 302, 303, 304, 305, 306, 307, 328, 329, 330, 331, 332, 333, 334, 308, 309, 310, 311, 312, 313, 314, 315, 316, 317, 318, 319, 320, 321, 322, 323, 324, 325, 326, 327, 335, 336, 337, 338] (by decide +kernel) (by decide +kernel)
set_option maxRecDepth 20000 in
theorem gX6_digest_X6_isSound : GoodIn wsX6_digest (wsV RX6 378 RX6 yX6_isSound wsX6_isSound) := goodIn_app (goodIn_of _ (by decide +kernel)) ggX6_digest_X6_isSound
set_option maxRecDepth 20000 in
theorem ggX6_digest_X6_oneIf : GoodIn wsX6_digest wsX6_oneIf := goodIn_r _ [49] (by decide +kernel) (by decide +kernel)
set_option maxRecDepth 20000 in
theorem gX6_digest_X6_oneIf : GoodIn wsX6_digest (va_wsS RX6 235 yX6_oneIf wsX6_oneIf) := goodIn_app (goodIn_of _ (by decide +kernel)) ggX6_digest_X6_oneIf
theorem dX6_digest_0 : decode cX6_digest 0 = .ok (.ldc2_w 358, 3) := by decide +kernel
theorem dX6_digest_3 : decode cX6_digest 3 = .ok (.lstore_n 1, 1) := by decide +kernel
theorem dX6_digest_4 : decode cX6_digest 4 = .ok (.iconst 0, 1) := by decide +kernel
theorem dX6_digest_5 : decode cX6_digest 5 = .ok (.istore_n 3, 1) := by decide +kernel
theorem dX6_digest_6 : decode cX6_digest 6 = .ok (.iload_n 3, 1) := by decide +kernel
theorem dX6_digest_7 : decode cX6_digest 7 = .ok (.bipush 12, 2) := by decide +kernel
theorem dX6_digest_9 : decode cX6_digest 9 = .ok (.if_icmp .ge 22, 3) := by decide +kernel
theorem dX6_digest_12 : decode cX6_digest 12 = .ok (.lload_n 1, 1) := by decide +kernel
theorem dX6_digest_13 : decode cX6_digest 13 = .ok (.ldc2_w 360, 3) := by decide +kernel
theorem dX6_digest_16 : decode cX6_digest 16 = .ok (.lmul, 1) := by decide +kernel
theorem dX6_digest_17 : decode cX6_digest 17 = .ok (.aload_n 0, 1) := by decide +kernel
theorem dX6_digest_18 : decode cX6_digest 18 = .ok (.iload_n 3, 1) := by decide +kernel
theorem dX6_digest_19 : decode cX6_digest 19 = .ok (.invokevirtual 362, 3) := by decide +kernel
theorem dX6_digest_22 : decode cX6_digest 22 = .ok (.i2l, 1) := by decide +kernel
theorem dX6_digest_23 : decode cX6_digest 23 = .ok (.ladd, 1) := by decide +kernel
theorem dX6_digest_24 : decode cX6_digest 24 = .ok (.lstore_n 1, 1) := by decide +kernel
theorem dX6_digest_25 : decode cX6_digest 25 = .ok (.iinc 3 1, 3) := by decide +kernel
theorem dX6_digest_28 : decode cX6_digest 28 = .ok (.goto (-22), 3) := by decide +kernel
theorem dX6_digest_31 : decode cX6_digest 31 = .ok (.iconst 0, 1) := by decide +kernel
theorem dX6_digest_32 : decode cX6_digest 32 = .ok (.istore_n 3, 1) := by decide +kernel
theorem dX6_digest_33 : decode cX6_digest 33 = .ok (.iload_n 3, 1) := by decide +kernel
theorem dX6_digest_34 : decode cX6_digest 34 = .ok (.aload_n 0, 1) := by decide +kernel
theorem dX6_digest_35 : decode cX6_digest 35 = .ok (.getfield 12, 3) := by decide +kernel
theorem dX6_digest_38 : decode cX6_digest 38 = .ok (.invokevirtual 47, 3) := by decide +kernel
theorem dX6_digest_41 : decode cX6_digest 41 = .ok (.if_icmp .ge 40, 3) := by decide +kernel
theorem dX6_digest_44 : decode cX6_digest 44 = .ok (.iconst 0, 1) := by decide +kernel
theorem dX6_digest_45 : decode cX6_digest 45 = .ok (.istore 4, 2) := by decide +kernel
theorem dX6_digest_47 : decode cX6_digest 47 = .ok (.iload 4, 2) := by decide +kernel
theorem dX6_digest_49 : decode cX6_digest 49 = .ok (.bipush 9, 2) := by decide +kernel
theorem dX6_digest_51 : decode cX6_digest 51 = .ok (.if_icmp .ge 24, 3) := by decide +kernel
theorem dX6_digest_54 : decode cX6_digest 54 = .ok (.lload_n 1, 1) := by decide +kernel
theorem dX6_digest_55 : decode cX6_digest 55 = .ok (.ldc2_w 360, 3) := by decide +kernel
theorem dX6_digest_58 : decode cX6_digest 58 = .ok (.lmul, 1) := by decide +kernel
theorem dX6_digest_59 : decode cX6_digest 59 = .ok (.aload_n 0, 1) := by decide +kernel
theorem dX6_digest_60 : decode cX6_digest 60 = .ok (.iload_n 3, 1) := by decide +kernel
theorem dX6_digest_61 : decode cX6_digest 61 = .ok (.iload 4, 2) := by decide +kernel
theorem dX6_digest_63 : decode cX6_digest 63 = .ok (.invokevirtual 365, 3) := by decide +kernel
theorem dX6_digest_66 : decode cX6_digest 66 = .ok (.i2l, 1) := by decide +kernel
theorem dX6_digest_67 : decode cX6_digest 67 = .ok (.ladd, 1) := by decide +kernel
theorem dX6_digest_68 : decode cX6_digest 68 = .ok (.lstore_n 1, 1) := by decide +kernel
theorem dX6_digest_69 : decode cX6_digest 69 = .ok (.iinc 4 1, 3) := by decide +kernel
theorem dX6_digest_72 : decode cX6_digest 72 = .ok (.goto (-25), 3) := by decide +kernel
theorem dX6_digest_75 : decode cX6_digest 75 = .ok (.iinc 3 1, 3) := by decide +kernel
theorem dX6_digest_78 : decode cX6_digest 78 = .ok (.goto (-45), 3) := by decide +kernel
theorem dX6_digest_81 : decode cX6_digest 81 = .ok (.iconst 0, 1) := by decide +kernel
theorem dX6_digest_82 : decode cX6_digest 82 = .ok (.istore_n 3, 1) := by decide +kernel
theorem dX6_digest_83 : decode cX6_digest 83 = .ok (.iload_n 3, 1) := by decide +kernel
theorem dX6_digest_84 : decode cX6_digest 84 = .ok (.aload_n 0, 1) := by decide +kernel
theorem dX6_digest_85 : decode cX6_digest 85 = .ok (.getfield 16, 3) := by decide +kernel
theorem dX6_digest_88 : decode cX6_digest 88 = .ok (.invokevirtual 47, 3) := by decide +kernel
theorem dX6_digest_91 : decode cX6_digest 91 = .ok (.if_icmp .ge 40, 3) := by decide +kernel
theorem dX6_digest_94 : decode cX6_digest 94 = .ok (.iconst 0, 1) := by decide +kernel
theorem dX6_digest_95 : decode cX6_digest 95 = .ok (.istore 4, 2) := by decide +kernel
theorem dX6_digest_97 : decode cX6_digest 97 = .ok (.iload 4, 2) := by decide +kernel
theorem dX6_digest_99 : decode cX6_digest 99 = .ok (.bipush 6, 2) := by decide +kernel
theorem dX6_digest_101 : decode cX6_digest 101 = .ok (.if_icmp .ge 24, 3) := by decide +kernel
theorem dX6_digest_104 : decode cX6_digest 104 = .ok (.lload_n 1, 1) := by decide +kernel
theorem dX6_digest_105 : decode cX6_digest 105 = .ok (.ldc2_w 360, 3) := by decide +kernel
theorem dX6_digest_108 : decode cX6_digest 108 = .ok (.lmul, 1) := by decide +kernel
theorem dX6_digest_109 : decode cX6_digest 109 = .ok (.aload_n 0, 1) := by decide +kernel
theorem dX6_digest_110 : decode cX6_digest 110 = .ok (.iload_n 3, 1) := by decide +kernel
theorem dX6_digest_111 : decode cX6_digest 111 = .ok (.iload 4, 2) := by decide +kernel
theorem dX6_digest_113 : decode cX6_digest 113 = .ok (.invokevirtual 368, 3) := by decide +kernel
theorem dX6_digest_116 : decode cX6_digest 116 = .ok (.i2l, 1) := by decide +kernel
theorem dX6_digest_117 : decode cX6_digest 117 = .ok (.ladd, 1) := by decide +kernel
theorem dX6_digest_118 : decode cX6_digest 118 = .ok (.lstore_n 1, 1) := by decide +kernel
theorem dX6_digest_119 : decode cX6_digest 119 = .ok (.iinc 4 1, 3) := by decide +kernel
theorem dX6_digest_122 : decode cX6_digest 122 = .ok (.goto (-25), 3) := by decide +kernel
theorem dX6_digest_125 : decode cX6_digest 125 = .ok (.iinc 3 1, 3) := by decide +kernel
theorem dX6_digest_128 : decode cX6_digest 128 = .ok (.goto (-45), 3) := by decide +kernel
theorem dX6_digest_131 : decode cX6_digest 131 = .ok (.iconst 0, 1) := by decide +kernel
theorem dX6_digest_132 : decode cX6_digest 132 = .ok (.istore_n 3, 1) := by decide +kernel
theorem dX6_digest_133 : decode cX6_digest 133 = .ok (.iload_n 3, 1) := by decide +kernel
theorem dX6_digest_134 : decode cX6_digest 134 = .ok (.iconst 3, 1) := by decide +kernel
theorem dX6_digest_135 : decode cX6_digest 135 = .ok (.if_icmp .ge 16, 3) := by decide +kernel
theorem dX6_digest_138 : decode cX6_digest 138 = .ok (.aload_n 0, 1) := by decide +kernel
theorem dX6_digest_139 : decode cX6_digest 139 = .ok (.lload_n 1, 1) := by decide +kernel
theorem dX6_digest_140 : decode cX6_digest 140 = .ok (.iload_n 3, 1) := by decide +kernel
theorem dX6_digest_141 : decode cX6_digest 141 = .ok (.invokevirtual 371, 3) := by decide +kernel
theorem dX6_digest_144 : decode cX6_digest 144 = .ok (.lstore_n 1, 1) := by decide +kernel
theorem dX6_digest_145 : decode cX6_digest 145 = .ok (.iinc 3 1, 3) := by decide +kernel
theorem dX6_digest_148 : decode cX6_digest 148 = .ok (.goto (-15), 3) := by decide +kernel
theorem dX6_digest_151 : decode cX6_digest 151 = .ok (.iconst 0, 1) := by decide +kernel
theorem dX6_digest_152 : decode cX6_digest 152 = .ok (.istore_n 3, 1) := by decide +kernel
theorem dX6_digest_153 : decode cX6_digest 153 = .ok (.iload_n 3, 1) := by decide +kernel
theorem dX6_digest_154 : decode cX6_digest 154 = .ok (.aload_n 0, 1) := by decide +kernel
theorem dX6_digest_155 : decode cX6_digest 155 = .ok (.getfield 19, 3) := by decide +kernel
theorem dX6_digest_158 : decode cX6_digest 158 = .ok (.invokevirtual 47, 3) := by decide +kernel
theorem dX6_digest_161 : decode cX6_digest 161 = .ok (.if_icmp .ge 23, 3) := by decide +kernel
theorem dX6_digest_164 : decode cX6_digest 164 = .ok (.lload_n 1, 1) := by decide +kernel
theorem dX6_digest_165 : decode cX6_digest 165 = .ok (.ldc2_w 360, 3) := by decide +kernel
theorem dX6_digest_168 : decode cX6_digest 168 = .ok (.lmul, 1) := by decide +kernel
theorem dX6_digest_169 : decode cX6_digest 169 = .ok (.aload_n 0, 1) := by decide +kernel
theorem dX6_digest_170 : decode cX6_digest 170 = .ok (.iload_n 3, 1) := by decide +kernel
theorem dX6_digest_171 : decode cX6_digest 171 = .ok (.iconst 5, 1) := by decide +kernel
theorem dX6_digest_172 : decode cX6_digest 172 = .ok (.invokevirtual 375, 3) := by decide +kernel
theorem dX6_digest_175 : decode cX6_digest 175 = .ok (.i2l, 1) := by decide +kernel
theorem dX6_digest_176 : decode cX6_digest 176 = .ok (.ladd, 1) := by decide +kernel
theorem dX6_digest_177 : decode cX6_digest 177 = .ok (.lstore_n 1, 1) := by decide +kernel
theorem dX6_digest_178 : decode cX6_digest 178 = .ok (.iinc 3 1, 3) := by decide +kernel
theorem dX6_digest_181 : decode cX6_digest 181 = .ok (.goto (-28), 3) := by decide +kernel
theorem dX6_digest_184 : decode cX6_digest 184 = .ok (.lload_n 1, 1) := by decide +kernel
theorem dX6_digest_185 : decode cX6_digest 185 = .ok (.ldc2_w 360, 3) := by decide +kernel
theorem dX6_digest_188 : decode cX6_digest 188 = .ok (.lmul, 1) := by decide +kernel
theorem dX6_digest_189 : decode cX6_digest 189 = .ok (.aload_n 0, 1) := by decide +kernel
theorem dX6_digest_190 : decode cX6_digest 190 = .ok (.invokevirtual 378, 3) := by decide +kernel
theorem dX6_digest_193 : decode cX6_digest 193 = .ok (.invokestatic 235, 3) := by decide +kernel
theorem dX6_digest_196 : decode cX6_digest 196 = .ok (.i2l, 1) := by decide +kernel
theorem dX6_digest_197 : decode cX6_digest 197 = .ok (.ladd, 1) := by decide +kernel
theorem dX6_digest_198 : decode cX6_digest 198 = .ok (.lreturn, 1) := by decide +kernel
set_option maxRecDepth 20000 in
theorem ggX6_digestTill_X6_ofTill : GoodIn wsX6_digestTill wsX6_ofTill := goodIn_ca (goodIn_ca (goodIn_r _ [8, 9, 10, 11, 12, 7, 13, 14, 15, 16, 17, 18, 19, 20, 21, 22, 23, 24, 25, 26, 27, 28, 29, 30, 31, 32, 33, 34, 35, 36, 37, 38, 39, 40, 41, 42, 43, 44, 45, 46, 47, 48, 49, 50, 51, 52, 53, 54, 55, 56, 57, 58, 59, 60, 61, 62, 63, 64, 65, 66, 67, 68, 69, 70, 71, 72, 73, 74, 75, 76, 77, 78, 79, 80, 81, 82, 83, 84, 85, 86, 87, 88, 89, 90, 91, 92, 93, 94, 95, 96, 97, 2, 98, 99, 100, 101, 102, 103, 104, 105, 106, 107, 108, 109, 110, 111, 112, 113, 114, 115, 116, 117, 118, 119, 120, 121, 3, 122, 123, 124, 125, 126, 127, 128, 129, 130, 131, 132, 133, 134, 135, 136, 137, 138, 139, 140, 141, 142, 143, 144, 145, 146, 147, 148, 149, 150, 151, 152, 153, 154, 155, 156, 157, 158, 159, 160, 161, 162, 163, 164, 165, 166, 167, 168, 169, 170, 171, 172, 204, 205, 206, 207, 208, 209, 210, 211, 212, 213, 214, 215, 216, 217, 218, 219, 220, 221, 222, 223, 224, 225, 226, 227, 228, 229, 230, 231, 232, 233, 234, 235, 236, 237, 238, 239, 240, 241, 242, 243] (by decide +kernel) (by decide +kernel)) (goodIn_sub (fun _ h => List.mem_cons_of_mem _ (List.mem_append_left _ (List.mem_append_right _ h))) (by decide +kernel))) (goodIn_sub (fun _ h => List.mem_cons_of_mem _ (List.mem_append_right _ h)) (by decide +kernel))
set_option maxRecDepth 20000 in
theorem gX6_digestTill_X6_ofTill : GoodIn wsX6_digestTill (wsV RX6 381 RX6 yX6_ofTill wsX6_ofTill) := goodIn_app (goodIn_of _ (by decide +kernel)) ggX6_digestTill_X6_ofTill
set_option maxRecDepth 20000 in
theorem ggX6_digestTill_Jx4a65c_size_8abf5 : GoodIn wsX6_digestTill wsJx4a65c_size_8abf5 := goodIn_r _ [36, 37, 230, 231, 232] (by decide +kernel) (by decide +kernel)
set_option maxRecDepth 20000 in
theorem gX6_digestTill_Jx4a65c_size_8abf5 : GoodIn wsX6_digestTill (wsV RX6 47 RJx4a65c yJx4a65c_size_8abf5 wsJx4a65c_size_8abf5) := goodIn_app (goodIn_of _ (by decide +kernel)) ggX6_digestTill_Jx4a65c_size_8abf5
set_option maxRecDepth 20000 in
theorem ggX6_digestTill_X6_left : GoodIn wsX6_digestTill wsX6_left := goodIn_ca (goodIn_r _ [176, 11, 12, 7, 13, 14, 15, 177, 178, 179, 180, 2, 98, 32, 33, 34, 35, 36, 37, 38, 39, 40, 41, 42, 43, 44, 45, 46, 47, 48, 49, 50, 51, 52, 53, 54, 100, 101, 102, 103, 104, 105, 106, 65, 66, 107, 75, 67, 108, 109, 110, 111, 112, 113, 114, 115, 28, 29, 116, 117, 55, 56, 57, 58, 59, 60, 91, 92, 93, 83, 84, 85, 86, 68, 69, 70, 71, 72, 73, 74, 76, 77, 78, 79, 80, 81, 82, 204, 205, 206, 207, 208, 209, 210, 211, 212, 230, 231, 232, 233, 234, 235, 236, 237, 238, 239, 213, 214, 215, 216, 217, 218, 219, 220, 221, 222, 223, 224, 225, 226, 227, 228, 229] (by decide +kernel) (by decide +kernel)) (goodIn_sub (fun _ h => List.mem_cons_of_mem _ (List.mem_append_right _ h)) (by decide +kernel))
set_option maxRecDepth 20000 in
theorem gX6_digestTill_X6_left : GoodIn wsX6_digestTill (wsV RX6 384 RX6 yX6_left wsX6_left) := goodIn_app (goodIn_of _ (by decide +kernel)) ggX6_digestTill_X6_left
set_option maxRecDepth 20000 in
theorem ggX6_digestTill_X6_hint : GoodIn wsX6_digestTill wsX6_hint := goodIn_ca (goodIn_r _ [184, 185, 2, 98, 99, 168, 149, 186, 187, 188, 7, 189, 14, 15, 3, 122, 32, 33, 34, 35, 36, 37, 38, 39, 40, 41, 42, 43, 44, 45, 46, 47, 48, 49, 50, 51, 52, 53, 54, 11, 12, 13, 94, 95, 96, 97, 100, 101, 102, 103, 104, 105, 106, 65, 66, 107, 75, 67, 108, 109, 110, 111, 112, 113, 114, 115, 28, 29, 116, 117, 55, 56, 57, 58, 59, 60, 91, 92, 93, 83, 84, 85, 86, 68, 69, 70, 71, 72, 73, 74, 76, 77, 78, 79, 80, 81, 82, 118, 119, 120, 121, 123, 124, 125, 126, 127, 128, 129, 21, 22, 23, 130, 131, 132, 133, 134, 135, 136, 137, 138, 139, 140, 141, 142, 143, 144, 145, 146, 147, 148, 150, 151, 152, 153, 154, 155, 156, 157, 158, 159, 160, 161, 162, 163, 164, 165, 166, 167, 242, 243, 204, 205, 206, 207, 208, 209, 210, 211, 212, 233, 234, 235, 236, 237, 238, 239, 230, 231, 232, 213, 214, 215, 216, 217, 218, 219, 220, 221, 222, 223, 224, 225, 226, 227, 228, 229, 240, 241] (by decide +kernel) (by decide +kernel)) (goodIn_sub (fun _ h => List.mem_cons_of_mem _ (List.mem_append_right _ h)) (by decide +kernel))
set_option maxRecDepth 20000 in
theorem gX6_digestTill_X6_hint : GoodIn wsX6_digestTill (wsV RX6 387 RX6 yX6_hint wsX6_hint) := goodIn_app (goodIn_of _ (by decide +kernel)) ggX6_digestTill_X6_hint
set_option maxRecDepth 20000 in
theorem ggX6_digestTill_X6_wouldTake : GoodIn wsX6_digestTill wsX6_wouldTake := goodIn_ca (goodIn_r _ [193, 2, 98, 11, 12, 7, 13, 14, 15, 16, 17, 18, 19, 20, 32, 33, 34, 35, 36, 37, 38, 39, 40, 41, 42, 43, 44, 45, 46, 47, 48, 49, 50, 51, 52, 53, 54, 194, 195, 196, 197, 28, 29, 116, 117, 30, 31, 106, 108, 109, 110, 111, 55, 56, 57, 58, 59, 60, 198, 199, 200, 201, 84, 202, 203, 204, 205, 206, 207, 208, 209, 210, 211, 212, 230, 231, 232, 213, 214, 215, 216, 217, 218, 219, 220, 221, 222, 223, 224, 225, 226, 227, 228, 229, 233, 234, 235, 236, 237, 238, 239] (by decide +kernel) (by decide +kernel)) (goodIn_sub (fun _ h => List.mem_cons_of_mem _ (List.mem_append_right _ h)) (by decide +kernel))
set_option maxRecDepth 20000 in
theorem gX6_digestTill_X6_wouldTake : GoodIn wsX6_digestTill (wsV RX6 390 RX6 yX6_wouldTake wsX6_wouldTake) := goodIn_app (goodIn_of _ (by decide +kernel)) ggX6_digestTill_X6_wouldTake
theorem dX6_digestTill_0 : decode cX6_digestTill 0 = .ok (.lload_n 1, 1) := by decide +kernel
theorem dX6_digestTill_1 : decode cX6_digestTill 1 = .ok (.lstore 4, 2) := by decide +kernel
theorem dX6_digestTill_3 : decode cX6_digestTill 3 = .ok (.iconst 0, 1) := by decide +kernel
theorem dX6_digestTill_4 : decode cX6_digestTill 4 = .ok (.istore 6, 2) := by decide +kernel
theorem dX6_digestTill_6 : decode cX6_digestTill 6 = .ok (.iload 6, 2) := by decide +kernel
theorem dX6_digestTill_8 : decode cX6_digestTill 8 = .ok (.bipush 6, 2) := by decide +kernel
theorem dX6_digestTill_10 : decode cX6_digestTill 10 = .ok (.if_icmp .ge 26, 3) := by decide +kernel
theorem dX6_digestTill_13 : decode cX6_digestTill 13 = .ok (.lload 4, 2) := by decide +kernel
theorem dX6_digestTill_15 : decode cX6_digestTill 15 = .ok (.ldc2_w 360, 3) := by decide +kernel
theorem dX6_digestTill_18 : decode cX6_digestTill 18 = .ok (.lmul, 1) := by decide +kernel
theorem dX6_digestTill_19 : decode cX6_digestTill 19 = .ok (.aload_n 0, 1) := by decide +kernel
theorem dX6_digestTill_20 : decode cX6_digestTill 20 = .ok (.iload_n 3, 1) := by decide +kernel
theorem dX6_digestTill_21 : decode cX6_digestTill 21 = .ok (.iload 6, 2) := by decide +kernel
theorem dX6_digestTill_23 : decode cX6_digestTill 23 = .ok (.invokevirtual 381, 3) := by decide +kernel
theorem dX6_digestTill_26 : decode cX6_digestTill 26 = .ok (.i2l, 1) := by decide +kernel
theorem dX6_digestTill_27 : decode cX6_digestTill 27 = .ok (.ladd, 1) := by decide +kernel
theorem dX6_digestTill_28 : decode cX6_digestTill 28 = .ok (.lstore 4, 2) := by decide +kernel
theorem dX6_digestTill_30 : decode cX6_digestTill 30 = .ok (.iinc 6 1, 3) := by decide +kernel
theorem dX6_digestTill_33 : decode cX6_digestTill 33 = .ok (.goto (-27), 3) := by decide +kernel
theorem dX6_digestTill_36 : decode cX6_digestTill 36 = .ok (.iconst 0, 1) := by decide +kernel
theorem dX6_digestTill_37 : decode cX6_digestTill 37 = .ok (.istore 6, 2) := by decide +kernel
theorem dX6_digestTill_39 : decode cX6_digestTill 39 = .ok (.iload 6, 2) := by decide +kernel
theorem dX6_digestTill_41 : decode cX6_digestTill 41 = .ok (.aload_n 0, 1) := by decide +kernel
theorem dX6_digestTill_42 : decode cX6_digestTill 42 = .ok (.getfield 12, 3) := by decide +kernel
theorem dX6_digestTill_45 : decode cX6_digestTill 45 = .ok (.invokevirtual 47, 3) := by decide +kernel
theorem dX6_digestTill_48 : decode cX6_digestTill 48 = .ok (.if_icmp .ge 26, 3) := by decide +kernel
theorem dX6_digestTill_51 : decode cX6_digestTill 51 = .ok (.lload 4, 2) := by decide +kernel
theorem dX6_digestTill_53 : decode cX6_digestTill 53 = .ok (.ldc2_w 360, 3) := by decide +kernel
theorem dX6_digestTill_56 : decode cX6_digestTill 56 = .ok (.lmul, 1) := by decide +kernel
theorem dX6_digestTill_57 : decode cX6_digestTill 57 = .ok (.aload_n 0, 1) := by decide +kernel
theorem dX6_digestTill_58 : decode cX6_digestTill 58 = .ok (.iload_n 3, 1) := by decide +kernel
theorem dX6_digestTill_59 : decode cX6_digestTill 59 = .ok (.iload 6, 2) := by decide +kernel
theorem dX6_digestTill_61 : decode cX6_digestTill 61 = .ok (.invokevirtual 384, 3) := by decide +kernel
theorem dX6_digestTill_64 : decode cX6_digestTill 64 = .ok (.i2l, 1) := by decide +kernel
theorem dX6_digestTill_65 : decode cX6_digestTill 65 = .ok (.ladd, 1) := by decide +kernel
theorem dX6_digestTill_66 : decode cX6_digestTill 66 = .ok (.lstore 4, 2) := by decide +kernel
theorem dX6_digestTill_68 : decode cX6_digestTill 68 = .ok (.iinc 6 1, 3) := by decide +kernel
theorem dX6_digestTill_71 : decode cX6_digestTill 71 = .ok (.goto (-32), 3) := by decide +kernel
theorem dX6_digestTill_74 : decode cX6_digestTill 74 = .ok (.iconst 0, 1) := by decide +kernel
theorem dX6_digestTill_75 : decode cX6_digestTill 75 = .ok (.istore 6, 2) := by decide +kernel
theorem dX6_digestTill_77 : decode cX6_digestTill 77 = .ok (.iload 6, 2) := by decide +kernel
theorem dX6_digestTill_79 : decode cX6_digestTill 79 = .ok (.aload_n 0, 1) := by decide +kernel
theorem dX6_digestTill_80 : decode cX6_digestTill 80 = .ok (.getfield 16, 3) := by decide +kernel
theorem dX6_digestTill_83 : decode cX6_digestTill 83 = .ok (.invokevirtual 47, 3) := by decide +kernel
theorem dX6_digestTill_86 : decode cX6_digestTill 86 = .ok (.if_icmp .ge 26, 3) := by decide +kernel
theorem dX6_digestTill_89 : decode cX6_digestTill 89 = .ok (.lload 4, 2) := by decide +kernel
theorem dX6_digestTill_91 : decode cX6_digestTill 91 = .ok (.ldc2_w 360, 3) := by decide +kernel
theorem dX6_digestTill_94 : decode cX6_digestTill 94 = .ok (.lmul, 1) := by decide +kernel
theorem dX6_digestTill_95 : decode cX6_digestTill 95 = .ok (.aload_n 0, 1) := by decide +kernel
theorem dX6_digestTill_96 : decode cX6_digestTill 96 = .ok (.iload 6, 2) := by decide +kernel
theorem dX6_digestTill_98 : decode cX6_digestTill 98 = .ok (.iload_n 3, 1) := by decide +kernel
theorem dX6_digestTill_99 : decode cX6_digestTill 99 = .ok (.invokevirtual 387, 3) := by decide +kernel
theorem dX6_digestTill_102 : decode cX6_digestTill 102 = .ok (.i2l, 1) := by decide +kernel
theorem dX6_digestTill_103 : decode cX6_digestTill 103 = .ok (.ladd, 1) := by decide +kernel
theorem dX6_digestTill_104 : decode cX6_digestTill 104 = .ok (.lstore 4, 2) := by decide +kernel
theorem dX6_digestTill_106 : decode cX6_digestTill 106 = .ok (.iinc 6 1, 3) := by decide +kernel
theorem dX6_digestTill_109 : decode cX6_digestTill 109 = .ok (.goto (-32), 3) := by decide +kernel
theorem dX6_digestTill_112 : decode cX6_digestTill 112 = .ok (.lload 4, 2) := by decide +kernel
theorem dX6_digestTill_114 : decode cX6_digestTill 114 = .ok (.ldc2_w 360, 3) := by decide +kernel
theorem dX6_digestTill_117 : decode cX6_digestTill 117 = .ok (.lmul, 1) := by decide +kernel
theorem dX6_digestTill_118 : decode cX6_digestTill 118 = .ok (.aload_n 0, 1) := by decide +kernel
theorem dX6_digestTill_119 : decode cX6_digestTill 119 = .ok (.iload_n 3, 1) := by decide +kernel
theorem dX6_digestTill_120 : decode cX6_digestTill 120 = .ok (.invokevirtual 390, 3) := by decide +kernel
theorem dX6_digestTill_123 : decode cX6_digestTill 123 = .ok (.i2l, 1) := by decide +kernel
theorem dX6_digestTill_124 : decode cX6_digestTill 124 = .ok (.ladd, 1) := by decide +kernel
theorem dX6_digestTill_125 : decode cX6_digestTill 125 = .ok (.lreturn, 1) := by decide +kernel
theorem dX6_checkTill_0 : decode cX6_checkTill 0 = .ok (.iload_n 0, 1) := by decide +kernel
theorem dX6_checkTill_1 : decode cX6_checkTill 1 = .ok (.ifCond .lt 8, 3) := by decide +kernel
theorem dX6_checkTill_4 : decode cX6_checkTill 4 = .ok (.iload_n 0, 1) := by decide +kernel
theorem dX6_checkTill_5 : decode cX6_checkTill 5 = .ok (.iconst 3, 1) := by decide +kernel
theorem dX6_checkTill_6 : decode cX6_checkTill 6 = .ok (.if_icmp .lt 14, 3) := by decide +kernel
theorem dX6_checkTill_9 : decode cX6_checkTill 9 = .ok (.new 284, 3) := by decide +kernel
theorem dX6_checkTill_12 : decode cX6_checkTill 12 = .ok (.dup, 1) := by decide +kernel
theorem dX6_checkTill_13 : decode cX6_checkTill 13 = .ok (.ldc_w 393, 3) := by decide +kernel
theorem dX6_checkTill_16 : decode cX6_checkTill 16 = .ok (.invokespecial 286, 3) := by decide +kernel
theorem dX6_checkTill_19 : decode cX6_checkTill 19 = .ok (.athrow, 1) := by decide +kernel
theorem dX6_checkTill_20 : decode cX6_checkTill 20 = .ok (.return_, 1) := by decide +kernel
set_option maxRecDepth 20000 in
theorem ggX6_wishNumbered_Jx4a65c_size_8abf5 : GoodIn wsX6_wishNumbered wsJx4a65c_size_8abf5 := goodIn_r _ [9, 10, 37, 38, 39] (by decide +kernel) (by decide +kernel)
set_option maxRecDepth 20000 in
theorem gX6_wishNumbered_Jx4a65c_size_8abf5 : GoodIn wsX6_wishNumbered (wsV RX6 47 RJx4a65c yJx4a65c_size_8abf5 wsJx4a65c_size_8abf5) := goodIn_app (goodIn_of _ (by decide +kernel)) ggX6_wishNumbered_Jx4a65c_size_8abf5
set_option maxRecDepth 20000 in
theorem ggX6_wishNumbered_Jx4a65c_get_915e3 : GoodIn wsX6_wishNumbered wsJx4a65c_get_915e3 := goodIn_r _ [14, 10, 15, 16, 17, 18, 19, 20, 21, 22, 23, 24, 25, 8, 26, 27, 37, 38, 39] (by decide +kernel) (by decide +kernel)
set_option maxRecDepth 20000 in
theorem gX6_wishNumbered_Jx4a65c_get_915e3 : GoodIn wsX6_wishNumbered (wsV RX6 122 RJx4a65c yJx4a65c_get_915e3 wsJx4a65c_get_915e3) := goodIn_app (goodIn_of _ (by decide +kernel)) ggX6_wishNumbered_Jx4a65c_get_915e3
theorem dX6_wishNumbered_0 : decode cX6_wishNumbered 0 = .ok (.iload_n 1, 1) := by decide +kernel
theorem dX6_wishNumbered_1 : decode cX6_wishNumbered 1 = .ok (.ifCond .lt 14, 3) := by decide +kernel
theorem dX6_wishNumbered_4 : decode cX6_wishNumbered 4 = .ok (.iload_n 1, 1) := by decide +kernel
theorem dX6_wishNumbered_5 : decode cX6_wishNumbered 5 = .ok (.aload_n 0, 1) := by decide +kernel
theorem dX6_wishNumbered_6 : decode cX6_wishNumbered 6 = .ok (.getfield 12, 3) := by decide +kernel
theorem dX6_wishNumbered_9 : decode cX6_wishNumbered 9 = .ok (.invokevirtual 47, 3) := by decide +kernel
theorem dX6_wishNumbered_12 : decode cX6_wishNumbered 12 = .ok (.if_icmp .lt 14, 3) := by decide +kernel
theorem dX6_wishNumbered_15 : decode cX6_wishNumbered 15 = .ok (.new 284, 3) := by decide +kernel
theorem dX6_wishNumbered_18 : decode cX6_wishNumbered 18 = .ok (.dup, 1) := by decide +kernel
theorem dX6_wishNumbered_19 : decode cX6_wishNumbered 19 = .ok (.ldc_w 395, 3) := by decide +kernel
theorem dX6_wishNumbered_22 : decode cX6_wishNumbered 22 = .ok (.invokespecial 286, 3) := by decide +kernel
theorem dX6_wishNumbered_25 : decode cX6_wishNumbered 25 = .ok (.athrow, 1) := by decide +kernel
theorem dX6_wishNumbered_26 : decode cX6_wishNumbered 26 = .ok (.aload_n 0, 1) := by decide +kernel
theorem dX6_wishNumbered_27 : decode cX6_wishNumbered 27 = .ok (.getfield 12, 3) := by decide +kernel
theorem dX6_wishNumbered_30 : decode cX6_wishNumbered 30 = .ok (.iload_n 1, 1) := by decide +kernel
theorem dX6_wishNumbered_31 : decode cX6_wishNumbered 31 = .ok (.invokevirtual 122, 3) := by decide +kernel
theorem dX6_wishNumbered_34 : decode cX6_wishNumbered 34 = .ok (.checkcast 56, 3) := by decide +kernel
theorem dX6_wishNumbered_37 : decode cX6_wishNumbered 37 = .ok (.areturn, 1) := by decide +kernel
set_option maxRecDepth 20000 in
theorem ggX6_guestNumbered_Jx4a65c_size_8abf5 : GoodIn wsX6_guestNumbered wsJx4a65c_size_8abf5 := goodIn_r _ [9, 10, 37, 38, 39] (by decide +kernel) (by decide +kernel)
set_option maxRecDepth 20000 in
theorem gX6_guestNumbered_Jx4a65c_size_8abf5 : GoodIn wsX6_guestNumbered (wsV RX6 47 RJx4a65c yJx4a65c_size_8abf5 wsJx4a65c_size_8abf5) := goodIn_app (goodIn_of _ (by decide +kernel)) ggX6_guestNumbered_Jx4a65c_size_8abf5
set_option maxRecDepth 20000 in
theorem ggX6_guestNumbered_Jx4a65c_get_915e3 : GoodIn wsX6_guestNumbered wsJx4a65c_get_915e3 := goodIn_r _ [14, 10, 15, 16, 17, 18, 19, 20, 21, 22, 23, 24, 25, 8, 26, 27, 37, 38, 39] (by decide +kernel) (by decide +kernel)
set_option maxRecDepth 20000 in
theorem gX6_guestNumbered_Jx4a65c_get_915e3 : GoodIn wsX6_guestNumbered (wsV RX6 122 RJx4a65c yJx4a65c_get_915e3 wsJx4a65c_get_915e3) := goodIn_app (goodIn_of _ (by decide +kernel)) ggX6_guestNumbered_Jx4a65c_get_915e3
theorem dX6_guestNumbered_0 : decode cX6_guestNumbered 0 = .ok (.iload_n 1, 1) := by decide +kernel
theorem dX6_guestNumbered_1 : decode cX6_guestNumbered 1 = .ok (.ifCond .lt 14, 3) := by decide +kernel
theorem dX6_guestNumbered_4 : decode cX6_guestNumbered 4 = .ok (.iload_n 1, 1) := by decide +kernel
theorem dX6_guestNumbered_5 : decode cX6_guestNumbered 5 = .ok (.aload_n 0, 1) := by decide +kernel
theorem dX6_guestNumbered_6 : decode cX6_guestNumbered 6 = .ok (.getfield 16, 3) := by decide +kernel
theorem dX6_guestNumbered_9 : decode cX6_guestNumbered 9 = .ok (.invokevirtual 47, 3) := by decide +kernel
theorem dX6_guestNumbered_12 : decode cX6_guestNumbered 12 = .ok (.if_icmp .lt 14, 3) := by decide +kernel
theorem dX6_guestNumbered_15 : decode cX6_guestNumbered 15 = .ok (.new 284, 3) := by decide +kernel
theorem dX6_guestNumbered_18 : decode cX6_guestNumbered 18 = .ok (.dup, 1) := by decide +kernel
theorem dX6_guestNumbered_19 : decode cX6_guestNumbered 19 = .ok (.ldc_w 397, 3) := by decide +kernel
theorem dX6_guestNumbered_22 : decode cX6_guestNumbered 22 = .ok (.invokespecial 286, 3) := by decide +kernel
theorem dX6_guestNumbered_25 : decode cX6_guestNumbered 25 = .ok (.athrow, 1) := by decide +kernel
theorem dX6_guestNumbered_26 : decode cX6_guestNumbered 26 = .ok (.aload_n 0, 1) := by decide +kernel
theorem dX6_guestNumbered_27 : decode cX6_guestNumbered 27 = .ok (.getfield 16, 3) := by decide +kernel
theorem dX6_guestNumbered_30 : decode cX6_guestNumbered 30 = .ok (.iload_n 1, 1) := by decide +kernel
theorem dX6_guestNumbered_31 : decode cX6_guestNumbered 31 = .ok (.invokevirtual 122, 3) := by decide +kernel
theorem dX6_guestNumbered_34 : decode cX6_guestNumbered 34 = .ok (.checkcast 69, 3) := by decide +kernel
theorem dX6_guestNumbered_37 : decode cX6_guestNumbered 37 = .ok (.areturn, 1) := by decide +kernel
theorem dX6_refuseIfCalledOff_0 : decode cX6_refuseIfCalledOff 0 = .ok (.aload_n 0, 1) := by decide +kernel
theorem dX6_refuseIfCalledOff_1 : decode cX6_refuseIfCalledOff 1 = .ok (.getfield 229, 3) := by decide +kernel
theorem dX6_refuseIfCalledOff_4 : decode cX6_refuseIfCalledOff 4 = .ok (.ifCond .eq 14, 3) := by decide +kernel
theorem dX6_refuseIfCalledOff_7 : decode cX6_refuseIfCalledOff 7 = .ok (.new 51, 3) := by decide +kernel
theorem dX6_refuseIfCalledOff_10 : decode cX6_refuseIfCalledOff 10 = .ok (.dup, 1) := by decide +kernel
theorem dX6_refuseIfCalledOff_11 : decode cX6_refuseIfCalledOff 11 = .ok (.ldc_w 399, 3) := by decide +kernel
theorem dX6_refuseIfCalledOff_14 : decode cX6_refuseIfCalledOff 14 = .ok (.invokespecial 55, 3) := by decide +kernel
theorem dX6_refuseIfCalledOff_17 : decode cX6_refuseIfCalledOff 17 = .ok (.athrow, 1) := by decide +kernel
theorem dX6_refuseIfCalledOff_18 : decode cX6_refuseIfCalledOff 18 = .ok (.return_, 1) := by decide +kernel
set_option maxRecDepth 20000 in
theorem ggX6_refuseIfSettled_X6_refuseIfCalledOff : GoodIn wsX6_refuseIfSettled wsX6_refuseIfCalledOff := goodIn_ca (goodIn_r _ [8, 1, 2, 9, 62, 63, 64, 65, 66, 67, 68, 69, 70] (by decide +kernel) (by decide +kernel)) (goodIn_sub (fun _ h => List.mem_cons_of_mem _ (List.mem_append_right _ h)) (by decide +kernel))
set_option maxRecDepth 20000 in
theorem gX6_refuseIfSettled_X6_refuseIfCalledOff : GoodIn wsX6_refuseIfSettled (wsV RX6 44 RX6 yX6_refuseIfCalledOff wsX6_refuseIfCalledOff) := goodIn_app (goodIn_of _ (by decide +kernel)) ggX6_refuseIfSettled_X6_refuseIfCalledOff
set_option maxRecDepth 20000 in
theorem ggX6_refuseIfSettled_X5_isOrdered : GoodIn wsX6_refuseIfSettled wsX5_isOrdered := goodIn_r _ [14, 15, 16, 17, 18, 13, 19, 20, 21, 22, 23, 24, 25, 26, 27, 28, 29, 30, 31, 32, 33, 34, 35, 36, 37, 38, 39, 40, 41, 42, 43, 44, 45, 46, 47, 48, 49, 50, 51, 52, 53, 54, 55, 56, 57, 58, 59, 60, 61, 71, 72, 73, 74, 75] (by decide +kernel) (by decide +kernel)
set_option maxRecDepth 20000 in
theorem gX6_refuseIfSettled_X5_isOrdered : GoodIn wsX6_refuseIfSettled (wsV RX6 242 RX5 yX5_isOrdered wsX5_isOrdered) := goodIn_app (goodIn_of _ (by decide +kernel)) ggX6_refuseIfSettled_X5_isOrdered
theorem dX6_refuseIfSettled_0 : decode cX6_refuseIfSettled 0 = .ok (.aload_n 0, 1) := by decide +kernel
theorem dX6_refuseIfSettled_1 : decode cX6_refuseIfSettled 1 = .ok (.invokevirtual 44, 3) := by decide +kernel
theorem dX6_refuseIfSettled_4 : decode cX6_refuseIfSettled 4 = .ok (.aload_n 1, 1) := by decide +kernel
theorem dX6_refuseIfSettled_5 : decode cX6_refuseIfSettled 5 = .ok (.getfield 98, 3) := by decide +kernel
theorem dX6_refuseIfSettled_8 : decode cX6_refuseIfSettled 8 = .ok (.ifCond .eq 14, 3) := by decide +kernel
theorem dX6_refuseIfSettled_11 : decode cX6_refuseIfSettled 11 = .ok (.new 51, 3) := by decide +kernel
theorem dX6_refuseIfSettled_14 : decode cX6_refuseIfSettled 14 = .ok (.dup, 1) := by decide +kernel
theorem dX6_refuseIfSettled_15 : decode cX6_refuseIfSettled 15 = .ok (.ldc_w 401, 3) := by decide +kernel
theorem dX6_refuseIfSettled_18 : decode cX6_refuseIfSettled 18 = .ok (.invokespecial 55, 3) := by decide +kernel
theorem dX6_refuseIfSettled_21 : decode cX6_refuseIfSettled 21 = .ok (.athrow, 1) := by decide +kernel
theorem dX6_refuseIfSettled_22 : decode cX6_refuseIfSettled 22 = .ok (.aload_n 1, 1) := by decide +kernel
theorem dX6_refuseIfSettled_23 : decode cX6_refuseIfSettled 23 = .ok (.invokevirtual 242, 3) := by decide +kernel
theorem dX6_refuseIfSettled_26 : decode cX6_refuseIfSettled 26 = .ok (.ifCond .eq 14, 3) := by decide +kernel
theorem dX6_refuseIfSettled_29 : decode cX6_refuseIfSettled 29 = .ok (.new 51, 3) := by decide +kernel
theorem dX6_refuseIfSettled_32 : decode cX6_refuseIfSettled 32 = .ok (.dup, 1) := by decide +kernel
theorem dX6_refuseIfSettled_33 : decode cX6_refuseIfSettled 33 = .ok (.ldc_w 403, 3) := by decide +kernel
theorem dX6_refuseIfSettled_36 : decode cX6_refuseIfSettled 36 = .ok (.invokespecial 55, 3) := by decide +kernel
theorem dX6_refuseIfSettled_39 : decode cX6_refuseIfSettled 39 = .ok (.athrow, 1) := by decide +kernel
theorem dX6_refuseIfSettled_40 : decode cX6_refuseIfSettled 40 = .ok (.return_, 1) := by decide +kernel
theorem dX6_pay_0 : decode cX6_pay 0 = .ok (.aload_n 1, 1) := by decide +kernel
theorem dX6_pay_1 : decode cX6_pay 1 = .ok (.dup, 1) := by decide +kernel
theorem dX6_pay_2 : decode cX6_pay 2 = .ok (.getfield 158, 3) := by decide +kernel
theorem dX6_pay_5 : decode cX6_pay 5 = .ok (.iload_n 2, 1) := by decide +kernel
theorem dX6_pay_6 : decode cX6_pay 6 = .ok (.isub, 1) := by decide +kernel
theorem dX6_pay_7 : decode cX6_pay 7 = .ok (.putfield 158, 3) := by decide +kernel
theorem dX6_pay_10 : decode cX6_pay 10 = .ok (.aload_n 0, 1) := by decide +kernel
theorem dX6_pay_11 : decode cX6_pay 11 = .ok (.dup, 1) := by decide +kernel
theorem dX6_pay_12 : decode cX6_pay 12 = .ok (.getfield 303, 3) := by decide +kernel
theorem dX6_pay_15 : decode cX6_pay 15 = .ok (.iload_n 2, 1) := by decide +kernel
theorem dX6_pay_16 : decode cX6_pay 16 = .ok (.iadd, 1) := by decide +kernel
theorem dX6_pay_17 : decode cX6_pay 17 = .ok (.putfield 303, 3) := by decide +kernel
theorem dX6_pay_20 : decode cX6_pay 20 = .ok (.return_, 1) := by decide +kernel
theorem dX6_payBack_0 : decode cX6_payBack 0 = .ok (.aload_n 1, 1) := by decide +kernel
theorem dX6_payBack_1 : decode cX6_payBack 1 = .ok (.dup, 1) := by decide +kernel
theorem dX6_payBack_2 : decode cX6_payBack 2 = .ok (.getfield 158, 3) := by decide +kernel
theorem dX6_payBack_5 : decode cX6_payBack 5 = .ok (.iload_n 2, 1) := by decide +kernel
theorem dX6_payBack_6 : decode cX6_payBack 6 = .ok (.iadd, 1) := by decide +kernel
theorem dX6_payBack_7 : decode cX6_payBack 7 = .ok (.putfield 158, 3) := by decide +kernel
theorem dX6_payBack_10 : decode cX6_payBack 10 = .ok (.aload_n 0, 1) := by decide +kernel
theorem dX6_payBack_11 : decode cX6_payBack 11 = .ok (.dup, 1) := by decide +kernel
theorem dX6_payBack_12 : decode cX6_payBack 12 = .ok (.getfield 306, 3) := by decide +kernel
theorem dX6_payBack_15 : decode cX6_payBack 15 = .ok (.iload_n 2, 1) := by decide +kernel
theorem dX6_payBack_16 : decode cX6_payBack 16 = .ok (.iadd, 1) := by decide +kernel
theorem dX6_payBack_17 : decode cX6_payBack 17 = .ok (.putfield 306, 3) := by decide +kernel
theorem dX6_payBack_20 : decode cX6_payBack 20 = .ok (.return_, 1) := by decide +kernel
set_option maxRecDepth 20000 in
theorem ggX6_endGift_X6_payBack : GoodIn wsX6_endGift wsX6_payBack := goodIn_r _ [9, 10, 11, 29, 30, 31, 32, 33, 34, 35, 36, 37, 38, 39] (by decide +kernel) (by decide +kernel)
set_option maxRecDepth 20000 in
theorem gX6_endGift_X6_payBack : GoodIn wsX6_endGift (wsV RX6 405 RX6 yX6_payBack wsX6_payBack) := goodIn_app (goodIn_of _ (by decide +kernel)) ggX6_endGift_X6_payBack
theorem dX6_endGift_0 : decode cX6_endGift 0 = .ok (.aload_n 1, 1) := by decide +kernel
theorem dX6_endGift_1 : decode cX6_endGift 1 = .ok (.iload_n 2, 1) := by decide +kernel
theorem dX6_endGift_2 : decode cX6_endGift 2 = .ok (.putfield 297, 3) := by decide +kernel
theorem dX6_endGift_5 : decode cX6_endGift 5 = .ok (.aload_n 0, 1) := by decide +kernel
theorem dX6_endGift_6 : decode cX6_endGift 6 = .ok (.aload_n 1, 1) := by decide +kernel
theorem dX6_endGift_7 : decode cX6_endGift 7 = .ok (.getfield 181, 3) := by decide +kernel
theorem dX6_endGift_10 : decode cX6_endGift 10 = .ok (.aload_n 1, 1) := by decide +kernel
theorem dX6_endGift_11 : decode cX6_endGift 11 = .ok (.getfield 294, 3) := by decide +kernel
theorem dX6_endGift_14 : decode cX6_endGift 14 = .ok (.invokevirtual 405, 3) := by decide +kernel
theorem dX6_endGift_17 : decode cX6_endGift 17 = .ok (.aload_n 1, 1) := by decide +kernel
theorem dX6_endGift_18 : decode cX6_endGift 18 = .ok (.getfield 294, 3) := by decide +kernel
theorem dX6_endGift_21 : decode cX6_endGift 21 = .ok (.ireturn, 1) := by decide +kernel
set_option maxRecDepth 20000 in
theorem ggX6_sendPledgesBack_Jx4a65c_size_8abf5 : GoodIn wsX6_sendPledgesBack wsJx4a65c_size_8abf5 := goodIn_r _ [16, 17, 65, 66, 67] (by decide +kernel) (by decide +kernel)
set_option maxRecDepth 20000 in
theorem gX6_sendPledgesBack_Jx4a65c_size_8abf5 : GoodIn wsX6_sendPledgesBack (wsV RX6 47 RJx4a65c yJx4a65c_size_8abf5 wsJx4a65c_size_8abf5) := goodIn_app (goodIn_of _ (by decide +kernel)) ggX6_sendPledgesBack_Jx4a65c_size_8abf5
set_option maxRecDepth 20000 in
theorem ggX6_sendPledgesBack_Jx4a65c_get_915e3 : GoodIn wsX6_sendPledgesBack wsJx4a65c_get_915e3 := goodIn_r _ [21, 17, 22, 23, 24, 25, 26, 27, 28, 29, 30, 31, 32, 15, 33, 34, 65, 66, 67] (by decide +kernel) (by decide +kernel)
set_option maxRecDepth 20000 in
theorem gX6_sendPledgesBack_Jx4a65c_get_915e3 : GoodIn wsX6_sendPledgesBack (wsV RX6 122 RJx4a65c yJx4a65c_get_915e3 wsJx4a65c_get_915e3) := goodIn_app (goodIn_of _ (by decide +kernel)) ggX6_sendPledgesBack_Jx4a65c_get_915e3
set_option maxRecDepth 20000 in
theorem ggX6_sendPledgesBack_X6_payBack : GoodIn wsX6_sendPledgesBack wsX6_payBack := goodIn_r _ [39, 40, 41, 68, 69, 70, 71, 72, 73, 74, 75, 76, 77, 78] (by decide +kernel) (by decide +kernel)
set_option maxRecDepth 20000 in
theorem gX6_sendPledgesBack_X6_payBack : GoodIn wsX6_sendPledgesBack (wsV RX6 405 RX6 yX6_payBack wsX6_payBack) := goodIn_app (goodIn_of _ (by decide +kernel)) ggX6_sendPledgesBack_X6_payBack
set_option maxRecDepth 20000 in
theorem ggX6_sendPledgesBack_Jx4a65c_remove_915e3 : GoodIn wsX6_sendPledgesBack wsJx4a65c_remove_915e3 := goodIn_r _ [45, 17, 34, 22, 23, 24, 25, 26, 27, 28, 29, 46, 47, 48, 15, 49, 50, 51, 52, 53, 54, 55, 65, 66, 67] (by decide +kernel) (by decide +kernel)
set_option maxRecDepth 20000 in
theorem gX6_sendPledgesBack_Jx4a65c_remove_915e3 : GoodIn wsX6_sendPledgesBack (wsV RX6 415 RJx4a65c yJx4a65c_remove_915e3 wsJx4a65c_remove_915e3) := goodIn_app (goodIn_of _ (by decide +kernel)) ggX6_sendPledgesBack_Jx4a65c_remove_915e3
theorem dX6_sendPledgesBack_0 : decode cX6_sendPledgesBack 0 = .ok (.iconst 0, 1) := by decide +kernel
theorem dX6_sendPledgesBack_1 : decode cX6_sendPledgesBack 1 = .ok (.iload_n 2, 1) := by decide +kernel
theorem dX6_sendPledgesBack_2 : decode cX6_sendPledgesBack 2 = .ok (.invokestatic 408, 3) := by decide +kernel
theorem dX6_sendPledgesBack_5 : decode cX6_sendPledgesBack 5 = .ok (.istore_n 3, 1) := by decide +kernel
theorem dX6_sendPledgesBack_6 : decode cX6_sendPledgesBack 6 = .ok (.iconst 0, 1) := by decide +kernel
theorem dX6_sendPledgesBack_7 : decode cX6_sendPledgesBack 7 = .ok (.istore 4, 2) := by decide +kernel
theorem dX6_sendPledgesBack_9 : decode cX6_sendPledgesBack 9 = .ok (.aload_n 1, 1) := by decide +kernel
theorem dX6_sendPledgesBack_10 : decode cX6_sendPledgesBack 10 = .ok (.getfield 215, 3) := by decide +kernel
theorem dX6_sendPledgesBack_13 : decode cX6_sendPledgesBack 13 = .ok (.invokevirtual 47, 3) := by decide +kernel
theorem dX6_sendPledgesBack_16 : decode cX6_sendPledgesBack 16 = .ok (.iconst 1, 1) := by decide +kernel
theorem dX6_sendPledgesBack_17 : decode cX6_sendPledgesBack 17 = .ok (.isub, 1) := by decide +kernel
theorem dX6_sendPledgesBack_18 : decode cX6_sendPledgesBack 18 = .ok (.istore 5, 2) := by decide +kernel
theorem dX6_sendPledgesBack_20 : decode cX6_sendPledgesBack 20 = .ok (.iload 5, 2) := by decide +kernel
theorem dX6_sendPledgesBack_22 : decode cX6_sendPledgesBack 22 = .ok (.ifCond .lt 91, 3) := by decide +kernel
theorem dX6_sendPledgesBack_25 : decode cX6_sendPledgesBack 25 = .ok (.iload_n 3, 1) := by decide +kernel
theorem dX6_sendPledgesBack_26 : decode cX6_sendPledgesBack 26 = .ok (.ifCond .le 87, 3) := by decide +kernel
theorem dX6_sendPledgesBack_29 : decode cX6_sendPledgesBack 29 = .ok (.aload_n 1, 1) := by decide +kernel
theorem dX6_sendPledgesBack_30 : decode cX6_sendPledgesBack 30 = .ok (.getfield 215, 3) := by decide +kernel
theorem dX6_sendPledgesBack_33 : decode cX6_sendPledgesBack 33 = .ok (.iload 5, 2) := by decide +kernel
theorem dX6_sendPledgesBack_35 : decode cX6_sendPledgesBack 35 = .ok (.invokevirtual 122, 3) := by decide +kernel
theorem dX6_sendPledgesBack_38 : decode cX6_sendPledgesBack 38 = .ok (.checkcast 218, 3) := by decide +kernel
theorem dX6_sendPledgesBack_41 : decode cX6_sendPledgesBack 41 = .ok (.astore 6, 2) := by decide +kernel
theorem dX6_sendPledgesBack_43 : decode cX6_sendPledgesBack 43 = .ok (.aload 6, 2) := by decide +kernel
theorem dX6_sendPledgesBack_45 : decode cX6_sendPledgesBack 45 = .ok (.getfield 411, 3) := by decide +kernel
theorem dX6_sendPledgesBack_48 : decode cX6_sendPledgesBack 48 = .ok (.iload_n 3, 1) := by decide +kernel
theorem dX6_sendPledgesBack_49 : decode cX6_sendPledgesBack 49 = .ok (.invokestatic 209, 3) := by decide +kernel
theorem dX6_sendPledgesBack_52 : decode cX6_sendPledgesBack 52 = .ok (.istore 7, 2) := by decide +kernel
theorem dX6_sendPledgesBack_54 : decode cX6_sendPledgesBack 54 = .ok (.aload_n 0, 1) := by decide +kernel
theorem dX6_sendPledgesBack_55 : decode cX6_sendPledgesBack 55 = .ok (.aload 6, 2) := by decide +kernel
theorem dX6_sendPledgesBack_57 : decode cX6_sendPledgesBack 57 = .ok (.getfield 414, 3) := by decide +kernel
theorem dX6_sendPledgesBack_60 : decode cX6_sendPledgesBack 60 = .ok (.iload 7, 2) := by decide +kernel
theorem dX6_sendPledgesBack_62 : decode cX6_sendPledgesBack 62 = .ok (.invokevirtual 405, 3) := by decide +kernel
theorem dX6_sendPledgesBack_65 : decode cX6_sendPledgesBack 65 = .ok (.iload_n 3, 1) := by decide +kernel
theorem dX6_sendPledgesBack_66 : decode cX6_sendPledgesBack 66 = .ok (.iload 7, 2) := by decide +kernel
theorem dX6_sendPledgesBack_68 : decode cX6_sendPledgesBack 68 = .ok (.isub, 1) := by decide +kernel
theorem dX6_sendPledgesBack_69 : decode cX6_sendPledgesBack 69 = .ok (.istore_n 3, 1) := by decide +kernel
theorem dX6_sendPledgesBack_70 : decode cX6_sendPledgesBack 70 = .ok (.iload 4, 2) := by decide +kernel
theorem dX6_sendPledgesBack_72 : decode cX6_sendPledgesBack 72 = .ok (.iload 7, 2) := by decide +kernel
theorem dX6_sendPledgesBack_74 : decode cX6_sendPledgesBack 74 = .ok (.iadd, 1) := by decide +kernel
theorem dX6_sendPledgesBack_75 : decode cX6_sendPledgesBack 75 = .ok (.istore 4, 2) := by decide +kernel
theorem dX6_sendPledgesBack_77 : decode cX6_sendPledgesBack 77 = .ok (.aload 6, 2) := by decide +kernel
theorem dX6_sendPledgesBack_79 : decode cX6_sendPledgesBack 79 = .ok (.dup, 1) := by decide +kernel
theorem dX6_sendPledgesBack_80 : decode cX6_sendPledgesBack 80 = .ok (.getfield 411, 3) := by decide +kernel
theorem dX6_sendPledgesBack_83 : decode cX6_sendPledgesBack 83 = .ok (.iload 7, 2) := by decide +kernel
theorem dX6_sendPledgesBack_85 : decode cX6_sendPledgesBack 85 = .ok (.isub, 1) := by decide +kernel
theorem dX6_sendPledgesBack_86 : decode cX6_sendPledgesBack 86 = .ok (.putfield 411, 3) := by decide +kernel
theorem dX6_sendPledgesBack_89 : decode cX6_sendPledgesBack 89 = .ok (.aload 6, 2) := by decide +kernel
theorem dX6_sendPledgesBack_91 : decode cX6_sendPledgesBack 91 = .ok (.getfield 411, 3) := by decide +kernel
theorem dX6_sendPledgesBack_94 : decode cX6_sendPledgesBack 94 = .ok (.ifCond .ne 13, 3) := by decide +kernel
theorem dX6_sendPledgesBack_97 : decode cX6_sendPledgesBack 97 = .ok (.aload_n 1, 1) := by decide +kernel
theorem dX6_sendPledgesBack_98 : decode cX6_sendPledgesBack 98 = .ok (.getfield 215, 3) := by decide +kernel
theorem dX6_sendPledgesBack_101 : decode cX6_sendPledgesBack 101 = .ok (.iload 5, 2) := by decide +kernel
theorem dX6_sendPledgesBack_103 : decode cX6_sendPledgesBack 103 = .ok (.invokevirtual 415, 3) := by decide +kernel
theorem dX6_sendPledgesBack_106 : decode cX6_sendPledgesBack 106 = .ok (.pop, 1) := by decide +kernel
theorem dX6_sendPledgesBack_107 : decode cX6_sendPledgesBack 107 = .ok (.iinc 5 (-1), 3) := by decide +kernel
theorem dX6_sendPledgesBack_110 : decode cX6_sendPledgesBack 110 = .ok (.goto (-90), 3) := by decide +kernel
theorem dX6_sendPledgesBack_113 : decode cX6_sendPledgesBack 113 = .ok (.iload 4, 2) := by decide +kernel
theorem dX6_sendPledgesBack_115 : decode cX6_sendPledgesBack 115 = .ok (.ireturn, 1) := by decide +kernel
theorem dX6_isJoined_0 : decode cX6_isJoined 0 = .ok (.aload_n 0, 1) := by decide +kernel
theorem dX6_isJoined_1 : decode cX6_isJoined 1 = .ok (.getfield 25, 3) := by decide +kernel
theorem dX6_isJoined_4 : decode cX6_isJoined 4 = .ok (.iload_n 1, 1) := by decide +kernel
theorem dX6_isJoined_5 : decode cX6_isJoined 5 = .ok (.ishr, 1) := by decide +kernel
theorem dX6_isJoined_6 : decode cX6_isJoined 6 = .ok (.iconst 1, 1) := by decide +kernel
theorem dX6_isJoined_7 : decode cX6_isJoined 7 = .ok (.iand, 1) := by decide +kernel
theorem dX6_isJoined_8 : decode cX6_isJoined 8 = .ok (.ifCond .eq 7, 3) := by decide +kernel
theorem dX6_isJoined_11 : decode cX6_isJoined 11 = .ok (.iconst 1, 1) := by decide +kernel
theorem dX6_isJoined_12 : decode cX6_isJoined 12 = .ok (.goto 4, 3) := by decide +kernel
theorem dX6_isJoined_15 : decode cX6_isJoined 15 = .ok (.iconst 0, 1) := by decide +kernel
theorem dX6_isJoined_16 : decode cX6_isJoined 16 = .ok (.ireturn, 1) := by decide +kernel
set_option maxRecDepth 20000 in
theorem ggX6_showAllDeeds_Jx4a65c_size_8abf5 : GoodIn wsX6_showAllDeeds wsJx4a65c_size_8abf5 := goodIn_r _ [10, 11, 50, 51, 52] (by decide +kernel) (by decide +kernel)
set_option maxRecDepth 20000 in
theorem gX6_showAllDeeds_Jx4a65c_size_8abf5 : GoodIn wsX6_showAllDeeds (wsV RX6 47 RJx4a65c yJx4a65c_size_8abf5 wsJx4a65c_size_8abf5) := goodIn_app (goodIn_of _ (by decide +kernel)) ggX6_showAllDeeds_Jx4a65c_size_8abf5
set_option maxRecDepth 20000 in
theorem ggX6_showAllDeeds_Jx4a65c_get_915e3 : GoodIn wsX6_showAllDeeds wsJx4a65c_get_915e3 := goodIn_r _ [15, 11, 16, 17, 18, 19, 20, 21, 22, 23, 24, 25, 26, 9, 27, 28, 50, 51, 52] (by decide +kernel) (by decide +kernel)
set_option maxRecDepth 20000 in
theorem gX6_showAllDeeds_Jx4a65c_get_915e3 : GoodIn wsX6_showAllDeeds (wsV RX6 122 RJx4a65c yJx4a65c_get_915e3 wsJx4a65c_get_915e3) := goodIn_app (goodIn_of _ (by decide +kernel)) ggX6_showAllDeeds_Jx4a65c_get_915e3
set_option maxRecDepth 20000 in
theorem ggX6_showAllDeeds_X0_showTo : GoodIn wsX6_showAllDeeds wsX0_showTo := goodIn_r _ [34, 35, 36, 37, 53, 54, 55, 56, 57, 58, 59, 60, 61, 62, 63, 64, 65, 66, 67, 68, 69] (by decide +kernel) (by decide +kernel)
set_option maxRecDepth 20000 in
theorem gX6_showAllDeeds_X0_showTo_u176X1 : GoodIn wsX6_showAllDeeds (va_wsU RX6 176 RX1 "Tureenlist$Deed" ⟨"Tureenlist$Gift", "showTo", "(I)V"⟩ yX0_showTo wsX0_showTo) := goodIn_app (goodIn_of _ (by decide +kernel)) ggX6_showAllDeeds_X0_showTo
set_option maxRecDepth 20000 in
theorem gX6_showAllDeeds_X0_showTo_u151X3 : GoodIn wsX6_showAllDeeds (va_wsU RX6 151 RX3 "Tureenlist$Deed" ⟨"Tureenlist$Hold", "showTo", "(I)V"⟩ yX0_showTo wsX0_showTo) := goodIn_app (goodIn_of _ (by decide +kernel)) ggX6_showAllDeeds_X0_showTo
theorem dX6_showAllDeeds_0 : decode cX6_showAllDeeds 0 = .ok (.iconst 0, 1) := by decide +kernel
theorem dX6_showAllDeeds_1 : decode cX6_showAllDeeds 1 = .ok (.istore_n 1, 1) := by decide +kernel
theorem dX6_showAllDeeds_2 : decode cX6_showAllDeeds 2 = .ok (.iload_n 1, 1) := by decide +kernel
theorem dX6_showAllDeeds_3 : decode cX6_showAllDeeds 3 = .ok (.aload_n 0, 1) := by decide +kernel
theorem dX6_showAllDeeds_4 : decode cX6_showAllDeeds 4 = .ok (.getfield 19, 3) := by decide +kernel
theorem dX6_showAllDeeds_7 : decode cX6_showAllDeeds 7 = .ok (.invokevirtual 47, 3) := by decide +kernel
theorem dX6_showAllDeeds_10 : decode cX6_showAllDeeds 10 = .ok (.if_icmp .ge 27, 3) := by decide +kernel
theorem dX6_showAllDeeds_13 : decode cX6_showAllDeeds 13 = .ok (.aload_n 0, 1) := by decide +kernel
theorem dX6_showAllDeeds_14 : decode cX6_showAllDeeds 14 = .ok (.getfield 19, 3) := by decide +kernel
theorem dX6_showAllDeeds_17 : decode cX6_showAllDeeds 17 = .ok (.iload_n 1, 1) := by decide +kernel
theorem dX6_showAllDeeds_18 : decode cX6_showAllDeeds 18 = .ok (.invokevirtual 122, 3) := by decide +kernel
theorem dX6_showAllDeeds_21 : decode cX6_showAllDeeds 21 = .ok (.checkcast 171, 3) := by decide +kernel
theorem dX6_showAllDeeds_24 : decode cX6_showAllDeeds 24 = .ok (.aload_n 0, 1) := by decide +kernel
theorem dX6_showAllDeeds_25 : decode cX6_showAllDeeds 25 = .ok (.getfield 25, 3) := by decide +kernel
theorem dX6_showAllDeeds_28 : decode cX6_showAllDeeds 28 = .ok (.invokevirtual 176, 3) := by decide +kernel
theorem dX6_showAllDeeds_31 : decode cX6_showAllDeeds 31 = .ok (.iinc 1 1, 3) := by decide +kernel
theorem dX6_showAllDeeds_34 : decode cX6_showAllDeeds 34 = .ok (.goto (-32), 3) := by decide +kernel
theorem dX6_showAllDeeds_37 : decode cX6_showAllDeeds 37 = .ok (.iconst 0, 1) := by decide +kernel
theorem dX6_showAllDeeds_38 : decode cX6_showAllDeeds 38 = .ok (.istore_n 1, 1) := by decide +kernel
theorem dX6_showAllDeeds_39 : decode cX6_showAllDeeds 39 = .ok (.iload_n 1, 1) := by decide +kernel
theorem dX6_showAllDeeds_40 : decode cX6_showAllDeeds 40 = .ok (.aload_n 0, 1) := by decide +kernel
theorem dX6_showAllDeeds_41 : decode cX6_showAllDeeds 41 = .ok (.getfield 22, 3) := by decide +kernel
theorem dX6_showAllDeeds_44 : decode cX6_showAllDeeds 44 = .ok (.invokevirtual 47, 3) := by decide +kernel
theorem dX6_showAllDeeds_47 : decode cX6_showAllDeeds 47 = .ok (.if_icmp .ge 27, 3) := by decide +kernel
theorem dX6_showAllDeeds_50 : decode cX6_showAllDeeds 50 = .ok (.aload_n 0, 1) := by decide +kernel
theorem dX6_showAllDeeds_51 : decode cX6_showAllDeeds 51 = .ok (.getfield 22, 3) := by decide +kernel
theorem dX6_showAllDeeds_54 : decode cX6_showAllDeeds 54 = .ok (.iload_n 1, 1) := by decide +kernel
theorem dX6_showAllDeeds_55 : decode cX6_showAllDeeds 55 = .ok (.invokevirtual 122, 3) := by decide +kernel
theorem dX6_showAllDeeds_58 : decode cX6_showAllDeeds 58 = .ok (.checkcast 143, 3) := by decide +kernel
theorem dX6_showAllDeeds_61 : decode cX6_showAllDeeds 61 = .ok (.aload_n 0, 1) := by decide +kernel
theorem dX6_showAllDeeds_62 : decode cX6_showAllDeeds 62 = .ok (.getfield 25, 3) := by decide +kernel
theorem dX6_showAllDeeds_65 : decode cX6_showAllDeeds 65 = .ok (.invokevirtual 151, 3) := by decide +kernel
theorem dX6_showAllDeeds_68 : decode cX6_showAllDeeds 68 = .ok (.iinc 1 1, 3) := by decide +kernel
theorem dX6_showAllDeeds_71 : decode cX6_showAllDeeds 71 = .ok (.goto (-32), 3) := by decide +kernel
theorem dX6_showAllDeeds_74 : decode cX6_showAllDeeds 74 = .ok (.return_, 1) := by decide +kernel
set_option maxRecDepth 20000 in
theorem ggX6_tooManyWith_Jx4a65c_size_8abf5 : GoodIn wsX6_tooManyWith wsJx4a65c_size_8abf5 := goodIn_r _ [16, 17, 81, 82, 83] (by decide +kernel) (by decide +kernel)
set_option maxRecDepth 20000 in
theorem gX6_tooManyWith_Jx4a65c_size_8abf5 : GoodIn wsX6_tooManyWith (wsV RX6 47 RJx4a65c yJx4a65c_size_8abf5 wsJx4a65c_size_8abf5) := goodIn_app (goodIn_of _ (by decide +kernel)) ggX6_tooManyWith_Jx4a65c_size_8abf5
set_option maxRecDepth 20000 in
theorem ggX6_tooManyWith_Jx4a65c_get_915e3 : GoodIn wsX6_tooManyWith wsJx4a65c_get_915e3 := goodIn_r _ [21, 17, 22, 23, 24, 25, 26, 27, 28, 29, 30, 31, 32, 15, 33, 34, 81, 82, 83] (by decide +kernel) (by decide +kernel)
set_option maxRecDepth 20000 in
theorem gX6_tooManyWith_Jx4a65c_get_915e3 : GoodIn wsX6_tooManyWith (wsV RX6 122 RJx4a65c yJx4a65c_get_915e3 wsJx4a65c_get_915e3) := goodIn_app (goodIn_of _ (by decide +kernel)) ggX6_tooManyWith_Jx4a65c_get_915e3
set_option maxRecDepth 20000 in
theorem ggX6_tooManyWith_X1_isKept : GoodIn wsX6_tooManyWith wsX1_isKept := goodIn_r _ [39, 40, 57, 58, 59, 60, 61, 62, 63, 64, 65] (by decide +kernel) (by decide +kernel)
set_option maxRecDepth 20000 in
theorem gX6_tooManyWith_X1_isKept : GoodIn wsX6_tooManyWith (wsV RX6 177 RX1 yX1_isKept wsX1_isKept) := goodIn_app (goodIn_of _ (by decide +kernel)) ggX6_tooManyWith_X1_isKept
set_option maxRecDepth 20000 in
theorem ggX6_tooManyWith_X0_isOpen : GoodIn wsX6_tooManyWith wsX0_isOpen := goodIn_r _ [46, 47, 57, 58, 59, 60, 61, 62, 63, 64, 65, 66, 67, 68, 69, 70, 71, 72, 73] (by decide +kernel) (by decide +kernel)
set_option maxRecDepth 20000 in
theorem gX6_tooManyWith_X0_isOpen_u418X1 : GoodIn wsX6_tooManyWith (va_wsU RX6 418 RX1 "Tureenlist$Deed" ⟨"Tureenlist$Gift", "isOpen", "()Z"⟩ yX0_isOpen wsX0_isOpen) := goodIn_app (goodIn_of _ (by decide +kernel)) ggX6_tooManyWith_X0_isOpen
theorem dX6_tooManyWith_0 : decode cX6_tooManyWith 0 = .ok (.iconst 0, 1) := by decide +kernel
theorem dX6_tooManyWith_1 : decode cX6_tooManyWith 1 = .ok (.istore_n 3, 1) := by decide +kernel
theorem dX6_tooManyWith_2 : decode cX6_tooManyWith 2 = .ok (.iconst 0, 1) := by decide +kernel
theorem dX6_tooManyWith_3 : decode cX6_tooManyWith 3 = .ok (.istore 4, 2) := by decide +kernel
theorem dX6_tooManyWith_5 : decode cX6_tooManyWith 5 = .ok (.iload 4, 2) := by decide +kernel
theorem dX6_tooManyWith_7 : decode cX6_tooManyWith 7 = .ok (.aload_n 0, 1) := by decide +kernel
theorem dX6_tooManyWith_8 : decode cX6_tooManyWith 8 = .ok (.getfield 19, 3) := by decide +kernel
theorem dX6_tooManyWith_11 : decode cX6_tooManyWith 11 = .ok (.invokevirtual 47, 3) := by decide +kernel
theorem dX6_tooManyWith_14 : decode cX6_tooManyWith 14 = .ok (.if_icmp .ge 60, 3) := by decide +kernel
theorem dX6_tooManyWith_17 : decode cX6_tooManyWith 17 = .ok (.aload_n 0, 1) := by decide +kernel
theorem dX6_tooManyWith_18 : decode cX6_tooManyWith 18 = .ok (.getfield 19, 3) := by decide +kernel
theorem dX6_tooManyWith_21 : decode cX6_tooManyWith 21 = .ok (.iload 4, 2) := by decide +kernel
theorem dX6_tooManyWith_23 : decode cX6_tooManyWith 23 = .ok (.invokevirtual 122, 3) := by decide +kernel
theorem dX6_tooManyWith_26 : decode cX6_tooManyWith 26 = .ok (.checkcast 171, 3) := by decide +kernel
theorem dX6_tooManyWith_29 : decode cX6_tooManyWith 29 = .ok (.astore 5, 2) := by decide +kernel
theorem dX6_tooManyWith_31 : decode cX6_tooManyWith 31 = .ok (.aload 5, 2) := by decide +kernel
theorem dX6_tooManyWith_33 : decode cX6_tooManyWith 33 = .ok (.invokevirtual 177, 3) := by decide +kernel
theorem dX6_tooManyWith_36 : decode cX6_tooManyWith 36 = .ok (.ifCond .eq 32, 3) := by decide +kernel
theorem dX6_tooManyWith_39 : decode cX6_tooManyWith 39 = .ok (.aload 5, 2) := by decide +kernel
theorem dX6_tooManyWith_41 : decode cX6_tooManyWith 41 = .ok (.getfield 185, 3) := by decide +kernel
theorem dX6_tooManyWith_44 : decode cX6_tooManyWith 44 = .ok (.aload_n 1, 1) := by decide +kernel
theorem dX6_tooManyWith_45 : decode cX6_tooManyWith 45 = .ok (.if_acmp .ne 23, 3) := by decide +kernel
theorem dX6_tooManyWith_48 : decode cX6_tooManyWith 48 = .ok (.aload 5, 2) := by decide +kernel
theorem dX6_tooManyWith_50 : decode cX6_tooManyWith 50 = .ok (.invokevirtual 418, 3) := by decide +kernel
theorem dX6_tooManyWith_53 : decode cX6_tooManyWith 53 = .ok (.ifCond .ne 12, 3) := by decide +kernel
theorem dX6_tooManyWith_56 : decode cX6_tooManyWith 56 = .ok (.aload 5, 2) := by decide +kernel
theorem dX6_tooManyWith_58 : decode cX6_tooManyWith 58 = .ok (.getfield 291, 3) := by decide +kernel
theorem dX6_tooManyWith_61 : decode cX6_tooManyWith 61 = .ok (.iload_n 2, 1) := by decide +kernel
theorem dX6_tooManyWith_62 : decode cX6_tooManyWith 62 = .ok (.if_icmp .ne 6, 3) := by decide +kernel
theorem dX6_tooManyWith_65 : decode cX6_tooManyWith 65 = .ok (.iinc 3 1, 3) := by decide +kernel
theorem dX6_tooManyWith_68 : decode cX6_tooManyWith 68 = .ok (.iinc 4 1, 3) := by decide +kernel
theorem dX6_tooManyWith_71 : decode cX6_tooManyWith 71 = .ok (.goto (-66), 3) := by decide +kernel
theorem dX6_tooManyWith_74 : decode cX6_tooManyWith 74 = .ok (.iconst 0, 1) := by decide +kernel
theorem dX6_tooManyWith_75 : decode cX6_tooManyWith 75 = .ok (.iload_n 3, 1) := by decide +kernel
theorem dX6_tooManyWith_76 : decode cX6_tooManyWith 76 = .ok (.aload_n 1, 1) := by decide +kernel
theorem dX6_tooManyWith_77 : decode cX6_tooManyWith 77 = .ok (.getfield 232, 3) := by decide +kernel
theorem dX6_tooManyWith_80 : decode cX6_tooManyWith 80 = .ok (.isub, 1) := by decide +kernel
theorem dX6_tooManyWith_81 : decode cX6_tooManyWith 81 = .ok (.invokestatic 408, 3) := by decide +kernel
theorem dX6_tooManyWith_84 : decode cX6_tooManyWith 84 = .ok (.ireturn, 1) := by decide +kernel
set_option maxRecDepth 20000 in
theorem ggX6_takeBackTooMany_X6_tooManyWith : GoodIn wsX6_takeBackTooMany wsX6_tooManyWith := goodIn_r _ [5, 6, 7, 8, 9, 10, 11, 12, 13, 14, 15, 16, 17, 18, 19, 20, 21, 22, 23, 24, 25, 26, 27, 28, 29, 30, 31, 32, 33, 34, 35, 36, 37, 38, 39, 40, 41, 42, 43, 44, 45, 46, 47, 48, 49, 50, 51, 52, 79, 80, 81, 82, 83, 84, 85, 86, 87, 88, 89, 90, 91, 92, 93, 94, 95, 96, 97, 98, 99, 100, 101, 102, 103, 104, 105, 106, 107, 108, 109, 110, 111, 112, 113, 114] (by decide +kernel) (by decide +kernel)
set_option maxRecDepth 20000 in
theorem gX6_takeBackTooMany_X6_tooManyWith : GoodIn wsX6_takeBackTooMany (wsV RX6 334 RX6 yX6_tooManyWith wsX6_tooManyWith) := goodIn_app (goodIn_of _ (by decide +kernel)) ggX6_takeBackTooMany_X6_tooManyWith
set_option maxRecDepth 20000 in
theorem ggX6_takeBackTooMany_X6_takeBackLast : GoodIn wsX6_takeBackTooMany wsX6_takeBackLast := goodIn_r _ [56, 6, 7, 8, 9, 17, 18, 19, 20, 21, 22, 23, 24, 25, 26, 27, 28, 29, 30, 31, 32, 33, 34, 35, 36, 37, 38, 39, 40, 41, 42, 43, 44, 45, 46, 47, 48, 49, 50, 51, 52, 57, 58, 59, 60, 61, 62, 63, 11, 64, 65, 66, 67, 4, 68, 69, 70, 71, 72, 73, 74, 75, 76, 77, 78, 79, 80, 81, 82, 83, 84, 85, 86, 87, 88, 89, 90, 91, 92, 93, 94, 95, 96, 97, 98, 99, 100, 101, 102, 103, 104, 112, 113, 114, 115, 116] (by decide +kernel) (by decide +kernel)
set_option maxRecDepth 20000 in
theorem gX6_takeBackTooMany_X6_takeBackLast : GoodIn wsX6_takeBackTooMany (wsV RX6 421 RX6 yX6_takeBackLast wsX6_takeBackLast) := goodIn_app (goodIn_of _ (by decide +kernel)) ggX6_takeBackTooMany_X6_takeBackLast
theorem dX6_takeBackTooMany_0 : decode cX6_takeBackTooMany 0 = .ok (.aload_n 0, 1) := by decide +kernel
theorem dX6_takeBackTooMany_1 : decode cX6_takeBackTooMany 1 = .ok (.aload_n 1, 1) := by decide +kernel
theorem dX6_takeBackTooMany_2 : decode cX6_takeBackTooMany 2 = .ok (.iload_n 2, 1) := by decide +kernel
theorem dX6_takeBackTooMany_3 : decode cX6_takeBackTooMany 3 = .ok (.invokevirtual 334, 3) := by decide +kernel
theorem dX6_takeBackTooMany_6 : decode cX6_takeBackTooMany 6 = .ok (.istore_n 3, 1) := by decide +kernel
theorem dX6_takeBackTooMany_7 : decode cX6_takeBackTooMany 7 = .ok (.iconst 0, 1) := by decide +kernel
theorem dX6_takeBackTooMany_8 : decode cX6_takeBackTooMany 8 = .ok (.istore 4, 2) := by decide +kernel
theorem dX6_takeBackTooMany_10 : decode cX6_takeBackTooMany 10 = .ok (.iload 4, 2) := by decide +kernel
theorem dX6_takeBackTooMany_12 : decode cX6_takeBackTooMany 12 = .ok (.iload_n 3, 1) := by decide +kernel
theorem dX6_takeBackTooMany_13 : decode cX6_takeBackTooMany 13 = .ok (.if_icmp .ge 14, 3) := by decide +kernel
theorem dX6_takeBackTooMany_16 : decode cX6_takeBackTooMany 16 = .ok (.aload_n 0, 1) := by decide +kernel
theorem dX6_takeBackTooMany_17 : decode cX6_takeBackTooMany 17 = .ok (.aload_n 1, 1) := by decide +kernel
theorem dX6_takeBackTooMany_18 : decode cX6_takeBackTooMany 18 = .ok (.invokevirtual 421, 3) := by decide +kernel
theorem dX6_takeBackTooMany_21 : decode cX6_takeBackTooMany 21 = .ok (.iinc 4 1, 3) := by decide +kernel
theorem dX6_takeBackTooMany_24 : decode cX6_takeBackTooMany 24 = .ok (.goto (-14), 3) := by decide +kernel
theorem dX6_takeBackTooMany_27 : decode cX6_takeBackTooMany 27 = .ok (.iload_n 3, 1) := by decide +kernel
theorem dX6_takeBackTooMany_28 : decode cX6_takeBackTooMany 28 = .ok (.ireturn, 1) := by decide +kernel
set_option maxRecDepth 20000 in
theorem ggX6_takeBackLast_Jx4a65c_size_8abf5 : GoodIn wsX6_takeBackLast wsJx4a65c_size_8abf5 := goodIn_r _ [9, 10, 91, 92, 93] (by decide +kernel) (by decide +kernel)
set_option maxRecDepth 20000 in
theorem gX6_takeBackLast_Jx4a65c_size_8abf5 : GoodIn wsX6_takeBackLast (wsV RX6 47 RJx4a65c yJx4a65c_size_8abf5 wsJx4a65c_size_8abf5) := goodIn_app (goodIn_of _ (by decide +kernel)) ggX6_takeBackLast_Jx4a65c_size_8abf5
set_option maxRecDepth 20000 in
theorem ggX6_takeBackLast_Jx4a65c_get_915e3 : GoodIn wsX6_takeBackLast wsJx4a65c_get_915e3 := goodIn_r _ [14, 10, 15, 16, 17, 18, 19, 20, 21, 22, 23, 24, 25, 8, 26, 27, 91, 92, 93] (by decide +kernel) (by decide +kernel)
set_option maxRecDepth 20000 in
theorem gX6_takeBackLast_Jx4a65c_get_915e3 : GoodIn wsX6_takeBackLast (wsV RX6 122 RJx4a65c yJx4a65c_get_915e3 wsJx4a65c_get_915e3) := goodIn_app (goodIn_of _ (by decide +kernel)) ggX6_takeBackLast_Jx4a65c_get_915e3
set_option maxRecDepth 20000 in
theorem ggX6_takeBackLast_X1_isKept : GoodIn wsX6_takeBackLast wsX1_isKept := goodIn_r _ [32, 33, 74, 75, 76, 77, 78, 79, 80, 81, 82] (by decide +kernel) (by decide +kernel)
set_option maxRecDepth 20000 in
theorem gX6_takeBackLast_X1_isKept : GoodIn wsX6_takeBackLast (wsV RX6 177 RX1 yX1_isKept wsX1_isKept) := goodIn_app (goodIn_of _ (by decide +kernel)) ggX6_takeBackLast_X1_isKept
set_option maxRecDepth 20000 in
theorem ggX6_takeBackLast_X0_isOpen : GoodIn wsX6_takeBackLast wsX0_isOpen := goodIn_r _ [39, 40, 74, 75, 76, 77, 78, 79, 80, 81, 82, 83, 84, 85, 86, 87, 88, 89, 90] (by decide +kernel) (by decide +kernel)
set_option maxRecDepth 20000 in
theorem gX6_takeBackLast_X0_isOpen_u418X1 : GoodIn wsX6_takeBackLast (va_wsU RX6 418 RX1 "Tureenlist$Deed" ⟨"Tureenlist$Gift", "isOpen", "()Z"⟩ yX0_isOpen wsX0_isOpen) := goodIn_app (goodIn_of _ (by decide +kernel)) ggX6_takeBackLast_X0_isOpen
set_option maxRecDepth 20000 in
theorem ggX6_takeBackLast_X1_isBehind : GoodIn wsX6_takeBackLast wsX1_isBehind := goodIn_r _ [44, 45, 46, 47, 48, 49, 74, 75, 76, 77, 78, 79, 80, 81, 82, 83, 84, 85, 86, 87, 88, 89, 90] (by decide +kernel) (by decide +kernel)
set_option maxRecDepth 20000 in
theorem gX6_takeBackLast_X1_isBehind : GoodIn wsX6_takeBackLast (wsV RX6 424 RX1 yX1_isBehind wsX1_isBehind) := goodIn_app (goodIn_of _ (by decide +kernel)) ggX6_takeBackLast_X1_isBehind
set_option maxRecDepth 20000 in
theorem ggX6_takeBackLast_X6_endGift : GoodIn wsX6_takeBackLast wsX6_endGift := goodIn_r _ [54, 55, 56, 57, 58, 59, 60, 61, 53, 62, 63, 64, 74, 75, 76, 77, 78, 79, 80, 81, 82, 83, 84, 85, 86, 87, 88, 89, 90, 94, 95, 65, 66, 67, 68, 69, 70, 71, 72, 73] (by decide +kernel) (by decide +kernel)
set_option maxRecDepth 20000 in
theorem gX6_takeBackLast_X6_endGift : GoodIn wsX6_takeBackLast (wsV RX6 194 RX6 yX6_endGift wsX6_endGift) := goodIn_app (goodIn_of _ (by decide +kernel)) ggX6_takeBackLast_X6_endGift
theorem dX6_takeBackLast_0 : decode cX6_takeBackLast 0 = .ok (.iconst (-1), 1) := by decide +kernel
theorem dX6_takeBackLast_1 : decode cX6_takeBackLast 1 = .ok (.istore_n 2, 1) := by decide +kernel
theorem dX6_takeBackLast_2 : decode cX6_takeBackLast 2 = .ok (.iconst 0, 1) := by decide +kernel
theorem dX6_takeBackLast_3 : decode cX6_takeBackLast 3 = .ok (.istore_n 3, 1) := by decide +kernel
theorem dX6_takeBackLast_4 : decode cX6_takeBackLast 4 = .ok (.iload_n 3, 1) := by decide +kernel
theorem dX6_takeBackLast_5 : decode cX6_takeBackLast 5 = .ok (.aload_n 0, 1) := by decide +kernel
theorem dX6_takeBackLast_6 : decode cX6_takeBackLast 6 = .ok (.getfield 19, 3) := by decide +kernel
theorem dX6_takeBackLast_9 : decode cX6_takeBackLast 9 = .ok (.invokevirtual 47, 3) := by decide +kernel
theorem dX6_takeBackLast_12 : decode cX6_takeBackLast 12 = .ok (.if_icmp .ge 73, 3) := by decide +kernel
theorem dX6_takeBackLast_15 : decode cX6_takeBackLast 15 = .ok (.aload_n 0, 1) := by decide +kernel
theorem dX6_takeBackLast_16 : decode cX6_takeBackLast 16 = .ok (.getfield 19, 3) := by decide +kernel
theorem dX6_takeBackLast_19 : decode cX6_takeBackLast 19 = .ok (.iload_n 3, 1) := by decide +kernel
theorem dX6_takeBackLast_20 : decode cX6_takeBackLast 20 = .ok (.invokevirtual 122, 3) := by decide +kernel
theorem dX6_takeBackLast_23 : decode cX6_takeBackLast 23 = .ok (.checkcast 171, 3) := by decide +kernel
theorem dX6_takeBackLast_26 : decode cX6_takeBackLast 26 = .ok (.astore 4, 2) := by decide +kernel
theorem dX6_takeBackLast_28 : decode cX6_takeBackLast 28 = .ok (.aload 4, 2) := by decide +kernel
theorem dX6_takeBackLast_30 : decode cX6_takeBackLast 30 = .ok (.invokevirtual 177, 3) := by decide +kernel
theorem dX6_takeBackLast_33 : decode cX6_takeBackLast 33 = .ok (.ifCond .eq 46, 3) := by decide +kernel
theorem dX6_takeBackLast_36 : decode cX6_takeBackLast 36 = .ok (.aload 4, 2) := by decide +kernel
theorem dX6_takeBackLast_38 : decode cX6_takeBackLast 38 = .ok (.getfield 185, 3) := by decide +kernel
theorem dX6_takeBackLast_41 : decode cX6_takeBackLast 41 = .ok (.aload_n 1, 1) := by decide +kernel
theorem dX6_takeBackLast_42 : decode cX6_takeBackLast 42 = .ok (.if_acmp .ne 37, 3) := by decide +kernel
theorem dX6_takeBackLast_45 : decode cX6_takeBackLast 45 = .ok (.aload 4, 2) := by decide +kernel
theorem dX6_takeBackLast_47 : decode cX6_takeBackLast 47 = .ok (.invokevirtual 418, 3) := by decide +kernel
theorem dX6_takeBackLast_50 : decode cX6_takeBackLast 50 = .ok (.ifCond .eq 29, 3) := by decide +kernel
theorem dX6_takeBackLast_53 : decode cX6_takeBackLast 53 = .ok (.iload_n 2, 1) := by decide +kernel
theorem dX6_takeBackLast_54 : decode cX6_takeBackLast 54 = .ok (.iconst (-1), 1) := by decide +kernel
theorem dX6_takeBackLast_55 : decode cX6_takeBackLast 55 = .ok (.if_icmp .eq 22, 3) := by decide +kernel
theorem dX6_takeBackLast_58 : decode cX6_takeBackLast 58 = .ok (.aload 4, 2) := by decide +kernel
theorem dX6_takeBackLast_60 : decode cX6_takeBackLast 60 = .ok (.aload_n 0, 1) := by decide +kernel
theorem dX6_takeBackLast_61 : decode cX6_takeBackLast 61 = .ok (.getfield 19, 3) := by decide +kernel
theorem dX6_takeBackLast_64 : decode cX6_takeBackLast 64 = .ok (.iload_n 2, 1) := by decide +kernel
theorem dX6_takeBackLast_65 : decode cX6_takeBackLast 65 = .ok (.invokevirtual 122, 3) := by decide +kernel
theorem dX6_takeBackLast_68 : decode cX6_takeBackLast 68 = .ok (.checkcast 171, 3) := by decide +kernel
theorem dX6_takeBackLast_71 : decode cX6_takeBackLast 71 = .ok (.invokevirtual 424, 3) := by decide +kernel
theorem dX6_takeBackLast_74 : decode cX6_takeBackLast 74 = .ok (.ifCond .eq 5, 3) := by decide +kernel
theorem dX6_takeBackLast_77 : decode cX6_takeBackLast 77 = .ok (.iload_n 3, 1) := by decide +kernel
theorem dX6_takeBackLast_78 : decode cX6_takeBackLast 78 = .ok (.istore_n 2, 1) := by decide +kernel
theorem dX6_takeBackLast_79 : decode cX6_takeBackLast 79 = .ok (.iinc 3 1, 3) := by decide +kernel
theorem dX6_takeBackLast_82 : decode cX6_takeBackLast 82 = .ok (.goto (-78), 3) := by decide +kernel
theorem dX6_takeBackLast_85 : decode cX6_takeBackLast 85 = .ok (.iload_n 2, 1) := by decide +kernel
theorem dX6_takeBackLast_86 : decode cX6_takeBackLast 86 = .ok (.iconst (-1), 1) := by decide +kernel
theorem dX6_takeBackLast_87 : decode cX6_takeBackLast 87 = .ok (.if_icmp .eq 20, 3) := by decide +kernel
theorem dX6_takeBackLast_90 : decode cX6_takeBackLast 90 = .ok (.aload_n 0, 1) := by decide +kernel
theorem dX6_takeBackLast_91 : decode cX6_takeBackLast 91 = .ok (.aload_n 0, 1) := by decide +kernel
theorem dX6_takeBackLast_92 : decode cX6_takeBackLast 92 = .ok (.getfield 19, 3) := by decide +kernel
theorem dX6_takeBackLast_95 : decode cX6_takeBackLast 95 = .ok (.iload_n 2, 1) := by decide +kernel
theorem dX6_takeBackLast_96 : decode cX6_takeBackLast 96 = .ok (.invokevirtual 122, 3) := by decide +kernel
theorem dX6_takeBackLast_99 : decode cX6_takeBackLast 99 = .ok (.checkcast 171, 3) := by decide +kernel
theorem dX6_takeBackLast_102 : decode cX6_takeBackLast 102 = .ok (.iconst 1, 1) := by decide +kernel
theorem dX6_takeBackLast_103 : decode cX6_takeBackLast 103 = .ok (.invokevirtual 194, 3) := by decide +kernel
theorem dX6_takeBackLast_106 : decode cX6_takeBackLast 106 = .ok (.pop, 1) := by decide +kernel
theorem dX6_takeBackLast_107 : decode cX6_takeBackLast 107 = .ok (.return_, 1) := by decide +kernel
set_option maxRecDepth 20000 in
theorem ggX6_keptOfSeenAt_Jx4a65c_size_8abf5 : GoodIn wsX6_keptOfSeenAt wsJx4a65c_size_8abf5 := goodIn_r _ [9, 10, 67, 68, 69] (by decide +kernel) (by decide +kernel)
set_option maxRecDepth 20000 in
theorem gX6_keptOfSeenAt_Jx4a65c_size_8abf5 : GoodIn wsX6_keptOfSeenAt (wsV RX6 47 RJx4a65c yJx4a65c_size_8abf5 wsJx4a65c_size_8abf5) := goodIn_app (goodIn_of _ (by decide +kernel)) ggX6_keptOfSeenAt_Jx4a65c_size_8abf5
set_option maxRecDepth 20000 in
theorem ggX6_keptOfSeenAt_Jx4a65c_get_915e3 : GoodIn wsX6_keptOfSeenAt wsJx4a65c_get_915e3 := goodIn_r _ [14, 10, 15, 16, 17, 18, 19, 20, 21, 22, 23, 24, 25, 8, 26, 27, 67, 68, 69] (by decide +kernel) (by decide +kernel)
set_option maxRecDepth 20000 in
theorem gX6_keptOfSeenAt_Jx4a65c_get_915e3 : GoodIn wsX6_keptOfSeenAt (wsV RX6 122 RJx4a65c yJx4a65c_get_915e3 wsJx4a65c_get_915e3) := goodIn_app (goodIn_of _ (by decide +kernel)) ggX6_keptOfSeenAt_Jx4a65c_get_915e3
set_option maxRecDepth 20000 in
theorem ggX6_keptOfSeenAt_X1_isKept : GoodIn wsX6_keptOfSeenAt wsX1_isKept := goodIn_r _ [32, 33, 50, 51, 52, 53, 54, 55, 56, 57, 58] (by decide +kernel) (by decide +kernel)
set_option maxRecDepth 20000 in
theorem gX6_keptOfSeenAt_X1_isKept : GoodIn wsX6_keptOfSeenAt (wsV RX6 177 RX1 yX1_isKept wsX1_isKept) := goodIn_app (goodIn_of _ (by decide +kernel)) ggX6_keptOfSeenAt_X1_isKept
set_option maxRecDepth 20000 in
theorem ggX6_keptOfSeenAt_X0_isSeenAt : GoodIn wsX6_keptOfSeenAt wsX0_isSeenAt := goodIn_r _ [39, 40, 50, 51, 52, 53, 54, 55, 56, 57, 58, 59, 60, 61, 62, 63, 64, 65, 66] (by decide +kernel) (by decide +kernel)
set_option maxRecDepth 20000 in
theorem gX6_keptOfSeenAt_X0_isSeenAt_u428X1 : GoodIn wsX6_keptOfSeenAt (va_wsU RX6 428 RX1 "Tureenlist$Deed" ⟨"Tureenlist$Gift", "isSeenAt", "(I)Z"⟩ yX0_isSeenAt wsX0_isSeenAt) := goodIn_app (goodIn_of _ (by decide +kernel)) ggX6_keptOfSeenAt_X0_isSeenAt
theorem dX6_keptOfSeenAt_0 : decode cX6_keptOfSeenAt 0 = .ok (.iconst 0, 1) := by decide +kernel
theorem dX6_keptOfSeenAt_1 : decode cX6_keptOfSeenAt 1 = .ok (.istore_n 3, 1) := by decide +kernel
theorem dX6_keptOfSeenAt_2 : decode cX6_keptOfSeenAt 2 = .ok (.iconst 0, 1) := by decide +kernel
theorem dX6_keptOfSeenAt_3 : decode cX6_keptOfSeenAt 3 = .ok (.istore 4, 2) := by decide +kernel
theorem dX6_keptOfSeenAt_5 : decode cX6_keptOfSeenAt 5 = .ok (.iload 4, 2) := by decide +kernel
theorem dX6_keptOfSeenAt_7 : decode cX6_keptOfSeenAt 7 = .ok (.aload_n 0, 1) := by decide +kernel
theorem dX6_keptOfSeenAt_8 : decode cX6_keptOfSeenAt 8 = .ok (.getfield 19, 3) := by decide +kernel
theorem dX6_keptOfSeenAt_11 : decode cX6_keptOfSeenAt 11 = .ok (.invokevirtual 47, 3) := by decide +kernel
theorem dX6_keptOfSeenAt_14 : decode cX6_keptOfSeenAt 14 = .ok (.if_icmp .ge 52, 3) := by decide +kernel
theorem dX6_keptOfSeenAt_17 : decode cX6_keptOfSeenAt 17 = .ok (.aload_n 0, 1) := by decide +kernel
theorem dX6_keptOfSeenAt_18 : decode cX6_keptOfSeenAt 18 = .ok (.getfield 19, 3) := by decide +kernel
theorem dX6_keptOfSeenAt_21 : decode cX6_keptOfSeenAt 21 = .ok (.iload 4, 2) := by decide +kernel
theorem dX6_keptOfSeenAt_23 : decode cX6_keptOfSeenAt 23 = .ok (.invokevirtual 122, 3) := by decide +kernel
theorem dX6_keptOfSeenAt_26 : decode cX6_keptOfSeenAt 26 = .ok (.checkcast 171, 3) := by decide +kernel
theorem dX6_keptOfSeenAt_29 : decode cX6_keptOfSeenAt 29 = .ok (.astore 5, 2) := by decide +kernel
theorem dX6_keptOfSeenAt_31 : decode cX6_keptOfSeenAt 31 = .ok (.aload 5, 2) := by decide +kernel
theorem dX6_keptOfSeenAt_33 : decode cX6_keptOfSeenAt 33 = .ok (.invokevirtual 177, 3) := by decide +kernel
theorem dX6_keptOfSeenAt_36 : decode cX6_keptOfSeenAt 36 = .ok (.ifCond .eq 24, 3) := by decide +kernel
theorem dX6_keptOfSeenAt_39 : decode cX6_keptOfSeenAt 39 = .ok (.aload 5, 2) := by decide +kernel
theorem dX6_keptOfSeenAt_41 : decode cX6_keptOfSeenAt 41 = .ok (.getfield 185, 3) := by decide +kernel
theorem dX6_keptOfSeenAt_44 : decode cX6_keptOfSeenAt 44 = .ok (.aload_n 2, 1) := by decide +kernel
theorem dX6_keptOfSeenAt_45 : decode cX6_keptOfSeenAt 45 = .ok (.if_acmp .ne 15, 3) := by decide +kernel
theorem dX6_keptOfSeenAt_48 : decode cX6_keptOfSeenAt 48 = .ok (.aload 5, 2) := by decide +kernel
theorem dX6_keptOfSeenAt_50 : decode cX6_keptOfSeenAt 50 = .ok (.iload_n 1, 1) := by decide +kernel
theorem dX6_keptOfSeenAt_51 : decode cX6_keptOfSeenAt 51 = .ok (.invokevirtual 428, 3) := by decide +kernel
theorem dX6_keptOfSeenAt_54 : decode cX6_keptOfSeenAt 54 = .ok (.ifCond .eq 6, 3) := by decide +kernel
theorem dX6_keptOfSeenAt_57 : decode cX6_keptOfSeenAt 57 = .ok (.iinc 3 1, 3) := by decide +kernel
theorem dX6_keptOfSeenAt_60 : decode cX6_keptOfSeenAt 60 = .ok (.iinc 4 1, 3) := by decide +kernel
theorem dX6_keptOfSeenAt_63 : decode cX6_keptOfSeenAt 63 = .ok (.goto (-58), 3) := by decide +kernel
theorem dX6_keptOfSeenAt_66 : decode cX6_keptOfSeenAt 66 = .ok (.iload_n 3, 1) := by decide +kernel
theorem dX6_keptOfSeenAt_67 : decode cX6_keptOfSeenAt 67 = .ok (.ireturn, 1) := by decide +kernel
set_option maxRecDepth 20000 in
theorem ggX6_leftAt_X6_keptOfSeenAt : GoodIn wsX6_leftAt wsX6_keptOfSeenAt := goodIn_r _ [17, 18, 19, 20, 21, 22, 23, 24, 25, 26, 27, 28, 29, 30, 31, 32, 33, 34, 35, 36, 37, 38, 39, 40, 41, 42, 43, 44, 45, 46, 47, 48, 49, 50, 51, 52, 53, 54, 55, 56, 57, 79, 80, 81, 82, 83, 84, 85, 86, 87, 88, 89, 90, 91, 92, 93, 94, 95, 96, 97, 98, 99, 100, 101, 102, 103, 104, 105, 106, 107] (by decide +kernel) (by decide +kernel)
set_option maxRecDepth 20000 in
theorem gX6_leftAt_X6_keptOfSeenAt : GoodIn wsX6_leftAt (wsV RX6 431 RX6 yX6_keptOfSeenAt wsX6_keptOfSeenAt) := goodIn_app (goodIn_of _ (by decide +kernel)) ggX6_leftAt_X6_keptOfSeenAt
set_option maxRecDepth 20000 in
theorem ggX6_leftAt_Jx4a65c_size_8abf5 : GoodIn wsX6_leftAt wsJx4a65c_size_8abf5 := goodIn_r _ [26, 27, 105, 106, 107] (by decide +kernel) (by decide +kernel)
set_option maxRecDepth 20000 in
theorem gX6_leftAt_Jx4a65c_size_8abf5 : GoodIn wsX6_leftAt (wsV RX6 47 RJx4a65c yJx4a65c_size_8abf5 wsJx4a65c_size_8abf5) := goodIn_app (goodIn_of _ (by decide +kernel)) ggX6_leftAt_Jx4a65c_size_8abf5
set_option maxRecDepth 20000 in
theorem ggX6_leftAt_Jx4a65c_get_915e3 : GoodIn wsX6_leftAt wsJx4a65c_get_915e3 := goodIn_r _ [31, 27, 32, 33, 34, 35, 36, 37, 38, 39, 40, 41, 42, 25, 43, 44, 105, 106, 107] (by decide +kernel) (by decide +kernel)
set_option maxRecDepth 20000 in
theorem gX6_leftAt_Jx4a65c_get_915e3 : GoodIn wsX6_leftAt (wsV RX6 122 RJx4a65c yJx4a65c_get_915e3 wsJx4a65c_get_915e3) := goodIn_app (goodIn_of _ (by decide +kernel)) ggX6_leftAt_Jx4a65c_get_915e3
set_option maxRecDepth 20000 in
theorem ggX6_leftAt_X3_standsAt : GoodIn wsX6_leftAt wsX3_standsAt := goodIn_r _ [62, 63, 64, 7, 65, 66, 67, 68, 97, 98, 99, 100, 101, 102, 103, 104, 88, 89, 90, 91, 92, 93, 94, 95, 96, 72, 73, 74, 75, 76, 77, 78] (by decide +kernel) (by decide +kernel)
set_option maxRecDepth 20000 in
theorem gX6_leftAt_X3_standsAt : GoodIn wsX6_leftAt (wsV RX6 435 RX3 yX3_standsAt wsX3_standsAt) := goodIn_app (goodIn_of _ (by decide +kernel)) ggX6_leftAt_X3_standsAt
set_option maxRecDepth 20000 in
theorem ggX6_leftAt_X0_isSeenAt : GoodIn wsX6_leftAt wsX0_isSeenAt := goodIn_r _ [56, 57, 88, 89, 90, 91, 92, 93, 94, 95, 96, 97, 98, 99, 100, 101, 102, 103, 104] (by decide +kernel) (by decide +kernel)
set_option maxRecDepth 20000 in
theorem gX6_leftAt_X0_isSeenAt_u438X3 : GoodIn wsX6_leftAt (va_wsU RX6 438 RX3 "Tureenlist$Deed" ⟨"Tureenlist$Hold", "isSeenAt", "(I)Z"⟩ yX0_isSeenAt wsX0_isSeenAt) := goodIn_app (goodIn_of _ (by decide +kernel)) ggX6_leftAt_X0_isSeenAt
theorem dX6_leftAt_0 : decode cX6_leftAt 0 = .ok (.aload_n 2, 1) := by decide +kernel
theorem dX6_leftAt_1 : decode cX6_leftAt 1 = .ok (.getfield 78, 3) := by decide +kernel
theorem dX6_leftAt_4 : decode cX6_leftAt 4 = .ok (.ifCond .ne 10, 3) := by decide +kernel
theorem dX6_leftAt_7 : decode cX6_leftAt 7 = .ok (.aload_n 2, 1) := by decide +kernel
theorem dX6_leftAt_8 : decode cX6_leftAt 8 = .ok (.getfield 98, 3) := by decide +kernel
theorem dX6_leftAt_11 : decode cX6_leftAt 11 = .ok (.ifCond .eq 5, 3) := by decide +kernel
theorem dX6_leftAt_14 : decode cX6_leftAt 14 = .ok (.iconst 0, 1) := by decide +kernel
theorem dX6_leftAt_15 : decode cX6_leftAt 15 = .ok (.ireturn, 1) := by decide +kernel
theorem dX6_leftAt_16 : decode cX6_leftAt 16 = .ok (.aload_n 2, 1) := by decide +kernel
theorem dX6_leftAt_17 : decode cX6_leftAt 17 = .ok (.getfield 232, 3) := by decide +kernel
theorem dX6_leftAt_20 : decode cX6_leftAt 20 = .ok (.aload_n 0, 1) := by decide +kernel
theorem dX6_leftAt_21 : decode cX6_leftAt 21 = .ok (.iload_n 1, 1) := by decide +kernel
theorem dX6_leftAt_22 : decode cX6_leftAt 22 = .ok (.aload_n 2, 1) := by decide +kernel
theorem dX6_leftAt_23 : decode cX6_leftAt 23 = .ok (.invokevirtual 431, 3) := by decide +kernel
theorem dX6_leftAt_26 : decode cX6_leftAt 26 = .ok (.isub, 1) := by decide +kernel
theorem dX6_leftAt_27 : decode cX6_leftAt 27 = .ok (.istore_n 3, 1) := by decide +kernel
theorem dX6_leftAt_28 : decode cX6_leftAt 28 = .ok (.iconst 0, 1) := by decide +kernel
theorem dX6_leftAt_29 : decode cX6_leftAt 29 = .ok (.istore 4, 2) := by decide +kernel
theorem dX6_leftAt_31 : decode cX6_leftAt 31 = .ok (.iload 4, 2) := by decide +kernel
theorem dX6_leftAt_33 : decode cX6_leftAt 33 = .ok (.aload_n 0, 1) := by decide +kernel
theorem dX6_leftAt_34 : decode cX6_leftAt 34 = .ok (.getfield 22, 3) := by decide +kernel
theorem dX6_leftAt_37 : decode cX6_leftAt 37 = .ok (.invokevirtual 47, 3) := by decide +kernel
theorem dX6_leftAt_40 : decode cX6_leftAt 40 = .ok (.if_icmp .ge 56, 3) := by decide +kernel
theorem dX6_leftAt_43 : decode cX6_leftAt 43 = .ok (.aload_n 0, 1) := by decide +kernel
theorem dX6_leftAt_44 : decode cX6_leftAt 44 = .ok (.getfield 22, 3) := by decide +kernel
theorem dX6_leftAt_47 : decode cX6_leftAt 47 = .ok (.iload 4, 2) := by decide +kernel
theorem dX6_leftAt_49 : decode cX6_leftAt 49 = .ok (.invokevirtual 122, 3) := by decide +kernel
theorem dX6_leftAt_52 : decode cX6_leftAt 52 = .ok (.checkcast 143, 3) := by decide +kernel
theorem dX6_leftAt_55 : decode cX6_leftAt 55 = .ok (.astore 5, 2) := by decide +kernel
theorem dX6_leftAt_57 : decode cX6_leftAt 57 = .ok (.aload 5, 2) := by decide +kernel
theorem dX6_leftAt_59 : decode cX6_leftAt 59 = .ok (.getfield 434, 3) := by decide +kernel
theorem dX6_leftAt_62 : decode cX6_leftAt 62 = .ok (.aload_n 2, 1) := by decide +kernel
