theorem dX6_leftAt_63 : decode cX6_leftAt 63 = .ok (.if_acmp .ne 27, 3) := by decide +kernel
theorem dX6_leftAt_66 : decode cX6_leftAt 66 = .ok (.aload 5, 2) := by decide +kernel
theorem dX6_leftAt_68 : decode cX6_leftAt 68 = .ok (.aload_n 0, 1) := by decide +kernel
theorem dX6_leftAt_69 : decode cX6_leftAt 69 = .ok (.getfield 145, 3) := by decide +kernel
theorem dX6_leftAt_72 : decode cX6_leftAt 72 = .ok (.invokevirtual 435, 3) := by decide +kernel
theorem dX6_leftAt_75 : decode cX6_leftAt 75 = .ok (.ifCond .eq 15, 3) := by decide +kernel
theorem dX6_leftAt_78 : decode cX6_leftAt 78 = .ok (.aload 5, 2) := by decide +kernel
theorem dX6_leftAt_80 : decode cX6_leftAt 80 = .ok (.iload_n 1, 1) := by decide +kernel
theorem dX6_leftAt_81 : decode cX6_leftAt 81 = .ok (.invokevirtual 438, 3) := by decide +kernel
theorem dX6_leftAt_84 : decode cX6_leftAt 84 = .ok (.ifCond .eq 6, 3) := by decide +kernel
theorem dX6_leftAt_87 : decode cX6_leftAt 87 = .ok (.iinc 3 (-1), 3) := by decide +kernel
theorem dX6_leftAt_90 : decode cX6_leftAt 90 = .ok (.iinc 4 1, 3) := by decide +kernel
theorem dX6_leftAt_93 : decode cX6_leftAt 93 = .ok (.goto (-62), 3) := by decide +kernel
theorem dX6_leftAt_96 : decode cX6_leftAt 96 = .ok (.iconst 0, 1) := by decide +kernel
theorem dX6_leftAt_97 : decode cX6_leftAt 97 = .ok (.iload_n 3, 1) := by decide +kernel
theorem dX6_leftAt_98 : decode cX6_leftAt 98 = .ok (.invokestatic 408, 3) := by decide +kernel
theorem dX6_leftAt_101 : decode cX6_leftAt 101 = .ok (.ireturn, 1) := by decide +kernel
set_option maxRecDepth 20000 in
theorem ggX6_allLeftAt_Jx4a65c_size_8abf5 : GoodIn wsX6_allLeftAt wsJx4a65c_size_8abf5 := goodIn_r _ [7, 8, 87, 88, 89] (by decide +kernel) (by decide +kernel)
set_option maxRecDepth 20000 in
theorem gX6_allLeftAt_Jx4a65c_size_8abf5 : GoodIn wsX6_allLeftAt (wsV RX6 47 RJx4a65c yJx4a65c_size_8abf5 wsJx4a65c_size_8abf5) := goodIn_app (goodIn_of _ (by decide +kernel)) ggX6_allLeftAt_Jx4a65c_size_8abf5
set_option maxRecDepth 20000 in
theorem ggX6_allLeftAt_Jx4a65c_get_915e3 : GoodIn wsX6_allLeftAt wsJx4a65c_get_915e3 := goodIn_r _ [12, 8, 13, 14, 15, 16, 17, 18, 19, 20, 21, 22, 23, 6, 24, 25, 87, 88, 89] (by decide +kernel) (by decide +kernel)
set_option maxRecDepth 20000 in
theorem gX6_allLeftAt_Jx4a65c_get_915e3 : GoodIn wsX6_allLeftAt (wsV RX6 122 RJx4a65c yJx4a65c_get_915e3 wsJx4a65c_get_915e3) := goodIn_app (goodIn_of _ (by decide +kernel)) ggX6_allLeftAt_Jx4a65c_get_915e3
set_option maxRecDepth 20000 in
theorem ggX6_allLeftAt_X6_leftAt : GoodIn wsX6_allLeftAt wsX6_leftAt := goodIn_r _ [30, 31, 32, 33, 34, 35, 36, 37, 38, 39, 40, 41, 42, 43, 44, 45, 29, 46, 47, 48, 49, 50, 3, 4, 5, 6, 7, 8, 9, 10, 11, 12, 13, 14, 15, 16, 17, 18, 19, 20, 21, 22, 23, 24, 25, 51, 52, 53, 54, 55, 56, 57, 58, 59, 60, 61, 62, 63, 64, 65, 66, 67, 68, 69, 70, 71, 72, 73, 74, 75, 76, 77, 90, 91, 92, 93, 94, 95, 96, 78, 79, 80, 81, 82, 83, 84, 85, 86, 97, 98, 99, 100, 101, 102, 103, 104, 105, 106, 107, 108, 109, 110, 111, 112, 113, 87, 88, 89] (by decide +kernel) (by decide +kernel)
set_option maxRecDepth 20000 in
theorem gX6_allLeftAt_X6_leftAt : GoodIn wsX6_allLeftAt (wsV RX6 137 RX6 yX6_leftAt wsX6_leftAt) := goodIn_app (goodIn_of _ (by decide +kernel)) ggX6_allLeftAt_X6_leftAt
theorem dX6_allLeftAt_0 : decode cX6_allLeftAt 0 = .ok (.iconst 0, 1) := by decide +kernel
theorem dX6_allLeftAt_1 : decode cX6_allLeftAt 1 = .ok (.istore_n 2, 1) := by decide +kernel
theorem dX6_allLeftAt_2 : decode cX6_allLeftAt 2 = .ok (.iconst 0, 1) := by decide +kernel
theorem dX6_allLeftAt_3 : decode cX6_allLeftAt 3 = .ok (.istore_n 3, 1) := by decide +kernel
theorem dX6_allLeftAt_4 : decode cX6_allLeftAt 4 = .ok (.iload_n 3, 1) := by decide +kernel
theorem dX6_allLeftAt_5 : decode cX6_allLeftAt 5 = .ok (.aload_n 0, 1) := by decide +kernel
theorem dX6_allLeftAt_6 : decode cX6_allLeftAt 6 = .ok (.getfield 12, 3) := by decide +kernel
theorem dX6_allLeftAt_9 : decode cX6_allLeftAt 9 = .ok (.invokevirtual 47, 3) := by decide +kernel
theorem dX6_allLeftAt_12 : decode cX6_allLeftAt 12 = .ok (.if_icmp .ge 28, 3) := by decide +kernel
theorem dX6_allLeftAt_15 : decode cX6_allLeftAt 15 = .ok (.iload_n 2, 1) := by decide +kernel
theorem dX6_allLeftAt_16 : decode cX6_allLeftAt 16 = .ok (.aload_n 0, 1) := by decide +kernel
theorem dX6_allLeftAt_17 : decode cX6_allLeftAt 17 = .ok (.iload_n 1, 1) := by decide +kernel
theorem dX6_allLeftAt_18 : decode cX6_allLeftAt 18 = .ok (.aload_n 0, 1) := by decide +kernel
theorem dX6_allLeftAt_19 : decode cX6_allLeftAt 19 = .ok (.getfield 12, 3) := by decide +kernel
theorem dX6_allLeftAt_22 : decode cX6_allLeftAt 22 = .ok (.iload_n 3, 1) := by decide +kernel
theorem dX6_allLeftAt_23 : decode cX6_allLeftAt 23 = .ok (.invokevirtual 122, 3) := by decide +kernel
theorem dX6_allLeftAt_26 : decode cX6_allLeftAt 26 = .ok (.checkcast 56, 3) := by decide +kernel
theorem dX6_allLeftAt_29 : decode cX6_allLeftAt 29 = .ok (.invokevirtual 137, 3) := by decide +kernel
theorem dX6_allLeftAt_32 : decode cX6_allLeftAt 32 = .ok (.iadd, 1) := by decide +kernel
theorem dX6_allLeftAt_33 : decode cX6_allLeftAt 33 = .ok (.istore_n 2, 1) := by decide +kernel
theorem dX6_allLeftAt_34 : decode cX6_allLeftAt 34 = .ok (.iinc 3 1, 3) := by decide +kernel
theorem dX6_allLeftAt_37 : decode cX6_allLeftAt 37 = .ok (.goto (-33), 3) := by decide +kernel
theorem dX6_allLeftAt_40 : decode cX6_allLeftAt 40 = .ok (.iload_n 2, 1) := by decide +kernel
theorem dX6_allLeftAt_41 : decode cX6_allLeftAt 41 = .ok (.ireturn, 1) := by decide +kernel
set_option maxRecDepth 20000 in
theorem ggX6_takePiece_X6_servingHold : GoodIn wsX6_takePiece wsX6_servingHold := goodIn_r _ [10, 11, 3, 4, 12, 13, 14, 15, 16, 17, 18, 19, 9, 20, 21, 22, 23, 24, 25, 26, 27, 28, 29, 30, 31, 32, 33, 34, 35, 36, 37, 38, 39, 40, 41, 42, 43, 44, 45, 46, 47, 48, 49, 50, 51, 52, 53, 54, 55, 56, 57, 58, 59, 60, 61, 62, 63, 64, 65, 66, 67, 68, 69, 70, 71, 72, 73, 74, 102, 103, 104, 105, 106, 107, 108, 85, 86, 87, 88, 89, 90, 91, 92, 93, 109, 110, 111, 112, 113, 114, 115, 116, 117, 94, 95, 96, 97, 98, 99, 100, 101, 118, 119, 120] (by decide +kernel) (by decide +kernel)
set_option maxRecDepth 20000 in
theorem gX6_takePiece_X6_servingHold : GoodIn wsX6_takePiece (wsV RX6 439 RX6 yX6_servingHold wsX6_servingHold) := goodIn_app (goodIn_of _ (by decide +kernel)) ggX6_takePiece_X6_servingHold
set_option maxRecDepth 20000 in
theorem ggX6_takePiece_Jx4a65c_get_915e3 : GoodIn wsX6_takePiece wsJx4a65c_get_915e3 := goodIn_r _ [34, 30, 35, 36, 37, 38, 39, 40, 41, 42, 43, 44, 45, 28, 46, 47, 118, 119, 120] (by decide +kernel) (by decide +kernel)
set_option maxRecDepth 20000 in
theorem gX6_takePiece_Jx4a65c_get_915e3 : GoodIn wsX6_takePiece (wsV RX6 122 RJx4a65c yJx4a65c_get_915e3 wsJx4a65c_get_915e3) := goodIn_app (goodIn_of _ (by decide +kernel)) ggX6_takePiece_Jx4a65c_get_915e3
set_option maxRecDepth 20000 in
theorem ggX6_takePiece_X6_leftAt : GoodIn wsX6_takePiece wsX6_leftAt := goodIn_r _ [78, 79, 80, 11, 3, 4, 14, 15, 16, 81, 82, 83, 84, 17, 18, 19, 9, 20, 21, 22, 23, 24, 25, 26, 27, 28, 29, 30, 31, 32, 33, 34, 35, 36, 37, 38, 39, 40, 41, 42, 43, 44, 45, 46, 47, 48, 49, 50, 51, 52, 53, 54, 55, 56, 57, 58, 59, 60, 61, 62, 63, 64, 65, 66, 67, 68, 69, 70, 71, 72, 73, 74, 102, 103, 104, 105, 106, 107, 108, 85, 86, 87, 88, 89, 90, 91, 92, 93, 109, 110, 111, 112, 113, 114, 115, 116, 117, 94, 95, 96, 97, 98, 99, 100, 101, 118, 119, 120] (by decide +kernel) (by decide +kernel)
set_option maxRecDepth 20000 in
theorem gX6_takePiece_X6_leftAt : GoodIn wsX6_takePiece (wsV RX6 137 RX6 yX6_leftAt wsX6_leftAt) := goodIn_app (goodIn_of _ (by decide +kernel)) ggX6_takePiece_X6_leftAt
theorem dX6_takePiece_0 : decode cX6_takePiece 0 = .ok (.aload_n 0, 1) := by decide +kernel
theorem dX6_takePiece_1 : decode cX6_takePiece 1 = .ok (.iload_n 1, 1) := by decide +kernel
theorem dX6_takePiece_2 : decode cX6_takePiece 2 = .ok (.aload_n 2, 1) := by decide +kernel
theorem dX6_takePiece_3 : decode cX6_takePiece 3 = .ok (.aload_n 3, 1) := by decide +kernel
theorem dX6_takePiece_4 : decode cX6_takePiece 4 = .ok (.invokevirtual 439, 3) := by decide +kernel
theorem dX6_takePiece_7 : decode cX6_takePiece 7 = .ok (.istore 4, 2) := by decide +kernel
theorem dX6_takePiece_9 : decode cX6_takePiece 9 = .ok (.iload 4, 2) := by decide +kernel
theorem dX6_takePiece_11 : decode cX6_takePiece 11 = .ok (.iconst (-1), 1) := by decide +kernel
theorem dX6_takePiece_12 : decode cX6_takePiece 12 = .ok (.if_icmp .eq 22, 3) := by decide +kernel
theorem dX6_takePiece_15 : decode cX6_takePiece 15 = .ok (.aload_n 0, 1) := by decide +kernel
theorem dX6_takePiece_16 : decode cX6_takePiece 16 = .ok (.getfield 22, 3) := by decide +kernel
theorem dX6_takePiece_19 : decode cX6_takePiece 19 = .ok (.iload 4, 2) := by decide +kernel
theorem dX6_takePiece_21 : decode cX6_takePiece 21 = .ok (.invokevirtual 122, 3) := by decide +kernel
theorem dX6_takePiece_24 : decode cX6_takePiece 24 = .ok (.checkcast 143, 3) := by decide +kernel
theorem dX6_takePiece_27 : decode cX6_takePiece 27 = .ok (.iconst 1, 1) := by decide +kernel
theorem dX6_takePiece_28 : decode cX6_takePiece 28 = .ok (.putfield 443, 3) := by decide +kernel
theorem dX6_takePiece_31 : decode cX6_takePiece 31 = .ok (.goto 23, 3) := by decide +kernel
theorem dX6_takePiece_34 : decode cX6_takePiece 34 = .ok (.aload_n 0, 1) := by decide +kernel
theorem dX6_takePiece_35 : decode cX6_takePiece 35 = .ok (.iload_n 1, 1) := by decide +kernel
theorem dX6_takePiece_36 : decode cX6_takePiece 36 = .ok (.aload_n 3, 1) := by decide +kernel
theorem dX6_takePiece_37 : decode cX6_takePiece 37 = .ok (.invokevirtual 137, 3) := by decide +kernel
theorem dX6_takePiece_40 : decode cX6_takePiece 40 = .ok (.ifCond .ne 14, 3) := by decide +kernel
theorem dX6_takePiece_43 : decode cX6_takePiece 43 = .ok (.new 51, 3) := by decide +kernel
theorem dX6_takePiece_46 : decode cX6_takePiece 46 = .ok (.dup, 1) := by decide +kernel
theorem dX6_takePiece_47 : decode cX6_takePiece 47 = .ok (.ldc_w 446, 3) := by decide +kernel
theorem dX6_takePiece_50 : decode cX6_takePiece 50 = .ok (.invokespecial 55, 3) := by decide +kernel
theorem dX6_takePiece_53 : decode cX6_takePiece 53 = .ok (.athrow, 1) := by decide +kernel
theorem dX6_takePiece_54 : decode cX6_takePiece 54 = .ok (.return_, 1) := by decide +kernel
set_option maxRecDepth 20000 in
theorem ggX6_servingHold_X6_keptOfSeenAt : GoodIn wsX6_servingHold wsX6_keptOfSeenAt := goodIn_r _ [13, 14, 15, 16, 17, 18, 19, 20, 21, 22, 23, 24, 25, 26, 27, 28, 29, 30, 31, 32, 33, 34, 35, 36, 37, 38, 39, 40, 41, 42, 43, 44, 45, 46, 47, 48, 49, 50, 51, 52, 53, 75, 76, 77, 78, 79, 80, 81, 82, 83, 84, 85, 86, 87, 88, 89, 90, 91, 92, 93, 94, 95, 96, 97, 98, 99, 100, 101, 102, 103] (by decide +kernel) (by decide +kernel)
set_option maxRecDepth 20000 in
theorem gX6_servingHold_X6_keptOfSeenAt : GoodIn wsX6_servingHold (wsV RX6 431 RX6 yX6_keptOfSeenAt wsX6_keptOfSeenAt) := goodIn_app (goodIn_of _ (by decide +kernel)) ggX6_servingHold_X6_keptOfSeenAt
set_option maxRecDepth 20000 in
theorem ggX6_servingHold_Jx4a65c_size_8abf5 : GoodIn wsX6_servingHold wsJx4a65c_size_8abf5 := goodIn_r _ [22, 23, 101, 102, 103] (by decide +kernel) (by decide +kernel)
set_option maxRecDepth 20000 in
theorem gX6_servingHold_Jx4a65c_size_8abf5 : GoodIn wsX6_servingHold (wsV RX6 47 RJx4a65c yJx4a65c_size_8abf5 wsJx4a65c_size_8abf5) := goodIn_app (goodIn_of _ (by decide +kernel)) ggX6_servingHold_Jx4a65c_size_8abf5
set_option maxRecDepth 20000 in
theorem ggX6_servingHold_Jx4a65c_get_915e3 : GoodIn wsX6_servingHold wsJx4a65c_get_915e3 := goodIn_r _ [27, 23, 28, 29, 30, 31, 32, 33, 34, 35, 36, 37, 38, 21, 39, 40, 101, 102, 103] (by decide +kernel) (by decide +kernel)
set_option maxRecDepth 20000 in
theorem gX6_servingHold_Jx4a65c_get_915e3 : GoodIn wsX6_servingHold (wsV RX6 122 RJx4a65c yJx4a65c_get_915e3 wsJx4a65c_get_915e3) := goodIn_app (goodIn_of _ (by decide +kernel)) ggX6_servingHold_Jx4a65c_get_915e3
set_option maxRecDepth 20000 in
theorem ggX6_servingHold_X3_standsAt : GoodIn wsX6_servingHold wsX3_standsAt := goodIn_r _ [58, 59, 60, 7, 61, 62, 63, 64, 93, 94, 95, 96, 97, 98, 99, 100, 84, 85, 86, 87, 88, 89, 90, 91, 92, 68, 69, 70, 71, 72, 73, 74] (by decide +kernel) (by decide +kernel)
set_option maxRecDepth 20000 in
theorem gX6_servingHold_X3_standsAt : GoodIn wsX6_servingHold (wsV RX6 435 RX3 yX3_standsAt wsX3_standsAt) := goodIn_app (goodIn_of _ (by decide +kernel)) ggX6_servingHold_X3_standsAt
set_option maxRecDepth 20000 in
theorem ggX6_servingHold_X0_isSeenAt : GoodIn wsX6_servingHold wsX0_isSeenAt := goodIn_r _ [52, 53, 84, 85, 86, 87, 88, 89, 90, 91, 92, 93, 94, 95, 96, 97, 98, 99, 100] (by decide +kernel) (by decide +kernel)
set_option maxRecDepth 20000 in
theorem gX6_servingHold_X0_isSeenAt_u438X3 : GoodIn wsX6_servingHold (va_wsU RX6 438 RX3 "Tureenlist$Deed" ⟨"Tureenlist$Hold", "isSeenAt", "(I)Z"⟩ yX0_isSeenAt wsX0_isSeenAt) := goodIn_app (goodIn_of _ (by decide +kernel)) ggX6_servingHold_X0_isSeenAt
theorem dX6_servingHold_0 : decode cX6_servingHold 0 = .ok (.aload_n 0, 1) := by decide +kernel
theorem dX6_servingHold_1 : decode cX6_servingHold 1 = .ok (.iload_n 1, 1) := by decide +kernel
theorem dX6_servingHold_2 : decode cX6_servingHold 2 = .ok (.aload_n 3, 1) := by decide +kernel
theorem dX6_servingHold_3 : decode cX6_servingHold 3 = .ok (.invokevirtual 431, 3) := by decide +kernel
theorem dX6_servingHold_6 : decode cX6_servingHold 6 = .ok (.aload_n 3, 1) := by decide +kernel
theorem dX6_servingHold_7 : decode cX6_servingHold 7 = .ok (.getfield 232, 3) := by decide +kernel
theorem dX6_servingHold_10 : decode cX6_servingHold 10 = .ok (.if_icmp .lt 5, 3) := by decide +kernel
theorem dX6_servingHold_13 : decode cX6_servingHold 13 = .ok (.iconst (-1), 1) := by decide +kernel
theorem dX6_servingHold_14 : decode cX6_servingHold 14 = .ok (.ireturn, 1) := by decide +kernel
theorem dX6_servingHold_15 : decode cX6_servingHold 15 = .ok (.iconst 0, 1) := by decide +kernel
theorem dX6_servingHold_16 : decode cX6_servingHold 16 = .ok (.istore 4, 2) := by decide +kernel
theorem dX6_servingHold_18 : decode cX6_servingHold 18 = .ok (.iload 4, 2) := by decide +kernel
theorem dX6_servingHold_20 : decode cX6_servingHold 20 = .ok (.aload_n 0, 1) := by decide +kernel
theorem dX6_servingHold_21 : decode cX6_servingHold 21 = .ok (.getfield 22, 3) := by decide +kernel
theorem dX6_servingHold_24 : decode cX6_servingHold 24 = .ok (.invokevirtual 47, 3) := by decide +kernel
theorem dX6_servingHold_27 : decode cX6_servingHold 27 = .ok (.if_icmp .ge 65, 3) := by decide +kernel
theorem dX6_servingHold_30 : decode cX6_servingHold 30 = .ok (.aload_n 0, 1) := by decide +kernel
theorem dX6_servingHold_31 : decode cX6_servingHold 31 = .ok (.getfield 22, 3) := by decide +kernel
theorem dX6_servingHold_34 : decode cX6_servingHold 34 = .ok (.iload 4, 2) := by decide +kernel
theorem dX6_servingHold_36 : decode cX6_servingHold 36 = .ok (.invokevirtual 122, 3) := by decide +kernel
theorem dX6_servingHold_39 : decode cX6_servingHold 39 = .ok (.checkcast 143, 3) := by decide +kernel
theorem dX6_servingHold_42 : decode cX6_servingHold 42 = .ok (.astore 5, 2) := by decide +kernel
theorem dX6_servingHold_44 : decode cX6_servingHold 44 = .ok (.aload 5, 2) := by decide +kernel
theorem dX6_servingHold_46 : decode cX6_servingHold 46 = .ok (.getfield 448, 3) := by decide +kernel
theorem dX6_servingHold_49 : decode cX6_servingHold 49 = .ok (.aload_n 2, 1) := by decide +kernel
theorem dX6_servingHold_50 : decode cX6_servingHold 50 = .ok (.if_acmp .ne 36, 3) := by decide +kernel
theorem dX6_servingHold_53 : decode cX6_servingHold 53 = .ok (.aload 5, 2) := by decide +kernel
theorem dX6_servingHold_55 : decode cX6_servingHold 55 = .ok (.getfield 434, 3) := by decide +kernel
theorem dX6_servingHold_58 : decode cX6_servingHold 58 = .ok (.aload_n 3, 1) := by decide +kernel
theorem dX6_servingHold_59 : decode cX6_servingHold 59 = .ok (.if_acmp .ne 27, 3) := by decide +kernel
theorem dX6_servingHold_62 : decode cX6_servingHold 62 = .ok (.aload 5, 2) := by decide +kernel
theorem dX6_servingHold_64 : decode cX6_servingHold 64 = .ok (.aload_n 0, 1) := by decide +kernel
theorem dX6_servingHold_65 : decode cX6_servingHold 65 = .ok (.getfield 145, 3) := by decide +kernel
theorem dX6_servingHold_68 : decode cX6_servingHold 68 = .ok (.invokevirtual 435, 3) := by decide +kernel
theorem dX6_servingHold_71 : decode cX6_servingHold 71 = .ok (.ifCond .eq 15, 3) := by decide +kernel
theorem dX6_servingHold_74 : decode cX6_servingHold 74 = .ok (.aload 5, 2) := by decide +kernel
theorem dX6_servingHold_76 : decode cX6_servingHold 76 = .ok (.iload_n 1, 1) := by decide +kernel
theorem dX6_servingHold_77 : decode cX6_servingHold 77 = .ok (.invokevirtual 438, 3) := by decide +kernel
theorem dX6_servingHold_80 : decode cX6_servingHold 80 = .ok (.ifCond .eq 6, 3) := by decide +kernel
theorem dX6_servingHold_83 : decode cX6_servingHold 83 = .ok (.iload 4, 2) := by decide +kernel
theorem dX6_servingHold_85 : decode cX6_servingHold 85 = .ok (.ireturn, 1) := by decide +kernel
theorem dX6_servingHold_86 : decode cX6_servingHold 86 = .ok (.iinc 4 1, 3) := by decide +kernel
theorem dX6_servingHold_89 : decode cX6_servingHold 89 = .ok (.goto (-71), 3) := by decide +kernel
theorem dX6_servingHold_92 : decode cX6_servingHold 92 = .ok (.iconst (-1), 1) := by decide +kernel
theorem dX6_servingHold_93 : decode cX6_servingHold 93 = .ok (.ireturn, 1) := by decide +kernel
set_option maxRecDepth 20000 in
theorem ggX6_takeStock_Jx4a65c_size_8abf5 : GoodIn wsX6_takeStock wsJx4a65c_size_8abf5 := goodIn_r _ [8, 9, 95, 96, 97] (by decide +kernel) (by decide +kernel)
set_option maxRecDepth 20000 in
theorem gX6_takeStock_Jx4a65c_size_8abf5 : GoodIn wsX6_takeStock (wsV RX6 47 RJx4a65c yJx4a65c_size_8abf5 wsJx4a65c_size_8abf5) := goodIn_app (goodIn_of _ (by decide +kernel)) ggX6_takeStock_Jx4a65c_size_8abf5
set_option maxRecDepth 20000 in
theorem ggX6_takeStock_Jx4a65c_get_915e3 : GoodIn wsX6_takeStock wsJx4a65c_get_915e3 := goodIn_r _ [13, 9, 14, 15, 16, 17, 18, 19, 20, 21, 22, 23, 24, 7, 25, 26, 95, 96, 97] (by decide +kernel) (by decide +kernel)
set_option maxRecDepth 20000 in
theorem gX6_takeStock_Jx4a65c_get_915e3 : GoodIn wsX6_takeStock (wsV RX6 122 RJx4a65c yJx4a65c_get_915e3 wsJx4a65c_get_915e3) := goodIn_app (goodIn_of _ (by decide +kernel)) ggX6_takeStock_Jx4a65c_get_915e3
set_option maxRecDepth 20000 in
theorem ggX6_takeStock_X6_leftAt : GoodIn wsX6_takeStock wsX6_leftAt := goodIn_r _ [31, 32, 33, 34, 35, 36, 37, 38, 39, 40, 41, 42, 43, 44, 45, 46, 30, 47, 48, 49, 50, 51, 4, 5, 6, 7, 8, 9, 10, 11, 12, 13, 14, 15, 16, 17, 18, 19, 20, 21, 22, 23, 24, 25, 26, 52, 53, 54, 55, 56, 57, 58, 59, 60, 61, 62, 63, 64, 65, 66, 67, 68, 69, 70, 71, 72, 73, 74, 75, 76, 77, 78, 88, 89, 90, 91, 92, 93, 94, 79, 80, 81, 82, 83, 84, 85, 86, 87, 98, 99, 100, 101, 102, 103, 104, 105, 106, 107, 108, 109, 110, 111, 112, 113, 114, 95, 96, 97] (by decide +kernel) (by decide +kernel)
set_option maxRecDepth 20000 in
theorem gX6_takeStock_X6_leftAt : GoodIn wsX6_takeStock (wsV RX6 137 RX6 yX6_leftAt wsX6_leftAt) := goodIn_app (goodIn_of _ (by decide +kernel)) ggX6_takeStock_X6_leftAt
theorem dX6_takeStock_0 : decode cX6_takeStock 0 = .ok (.iconst 0, 1) := by decide +kernel
theorem dX6_takeStock_1 : decode cX6_takeStock 1 = .ok (.istore_n 2, 1) := by decide +kernel
theorem dX6_takeStock_2 : decode cX6_takeStock 2 = .ok (.iload_n 2, 1) := by decide +kernel
theorem dX6_takeStock_3 : decode cX6_takeStock 3 = .ok (.aload_n 0, 1) := by decide +kernel
theorem dX6_takeStock_4 : decode cX6_takeStock 4 = .ok (.getfield 12, 3) := by decide +kernel
theorem dX6_takeStock_7 : decode cX6_takeStock 7 = .ok (.invokevirtual 47, 3) := by decide +kernel
theorem dX6_takeStock_10 : decode cX6_takeStock 10 = .ok (.if_icmp .ge 31, 3) := by decide +kernel
theorem dX6_takeStock_13 : decode cX6_takeStock 13 = .ok (.aload_n 0, 1) := by decide +kernel
theorem dX6_takeStock_14 : decode cX6_takeStock 14 = .ok (.getfield 12, 3) := by decide +kernel
theorem dX6_takeStock_17 : decode cX6_takeStock 17 = .ok (.iload_n 2, 1) := by decide +kernel
theorem dX6_takeStock_18 : decode cX6_takeStock 18 = .ok (.invokevirtual 122, 3) := by decide +kernel
theorem dX6_takeStock_21 : decode cX6_takeStock 21 = .ok (.checkcast 56, 3) := by decide +kernel
theorem dX6_takeStock_24 : decode cX6_takeStock 24 = .ok (.astore_n 3, 1) := by decide +kernel
theorem dX6_takeStock_25 : decode cX6_takeStock 25 = .ok (.aload_n 3, 1) := by decide +kernel
theorem dX6_takeStock_26 : decode cX6_takeStock 26 = .ok (.aload_n 0, 1) := by decide +kernel
theorem dX6_takeStock_27 : decode cX6_takeStock 27 = .ok (.iload_n 1, 1) := by decide +kernel
theorem dX6_takeStock_28 : decode cX6_takeStock 28 = .ok (.aload_n 3, 1) := by decide +kernel
theorem dX6_takeStock_29 : decode cX6_takeStock 29 = .ok (.invokevirtual 137, 3) := by decide +kernel
theorem dX6_takeStock_32 : decode cX6_takeStock 32 = .ok (.putfield 337, 3) := by decide +kernel
theorem dX6_takeStock_35 : decode cX6_takeStock 35 = .ok (.iinc 2 1, 3) := by decide +kernel
theorem dX6_takeStock_38 : decode cX6_takeStock 38 = .ok (.goto (-36), 3) := by decide +kernel
theorem dX6_takeStock_41 : decode cX6_takeStock 41 = .ok (.return_, 1) := by decide +kernel
set_option maxRecDepth 20000 in
theorem ggX6_guestsWithoutPart_Jx4a65c_size_8abf5 : GoodIn wsX6_guestsWithoutPart wsJx4a65c_size_8abf5 := goodIn_r _ [7, 8, 65, 66, 67] (by decide +kernel) (by decide +kernel)
set_option maxRecDepth 20000 in
theorem gX6_guestsWithoutPart_Jx4a65c_size_8abf5 : GoodIn wsX6_guestsWithoutPart (wsV RX6 47 RJx4a65c yJx4a65c_size_8abf5 wsJx4a65c_size_8abf5) := goodIn_app (goodIn_of _ (by decide +kernel)) ggX6_guestsWithoutPart_Jx4a65c_size_8abf5
set_option maxRecDepth 20000 in
theorem ggX6_guestsWithoutPart_Jx4a65c_get_915e3 : GoodIn wsX6_guestsWithoutPart wsJx4a65c_get_915e3 := goodIn_r _ [12, 8, 13, 14, 15, 16, 17, 18, 19, 20, 21, 22, 23, 6, 24, 25, 65, 66, 67] (by decide +kernel) (by decide +kernel)
set_option maxRecDepth 20000 in
theorem gX6_guestsWithoutPart_Jx4a65c_get_915e3 : GoodIn wsX6_guestsWithoutPart (wsV RX6 122 RJx4a65c yJx4a65c_get_915e3 wsJx4a65c_get_915e3) := goodIn_app (goodIn_of _ (by decide +kernel)) ggX6_guestsWithoutPart_Jx4a65c_get_915e3
set_option maxRecDepth 20000 in
theorem ggX6_guestsWithoutPart_X6_giftsBy : GoodIn wsX6_guestsWithoutPart wsX6_giftsBy := goodIn_r _ [30, 31, 32, 33, 34, 35, 3, 4, 5, 6, 7, 8, 9, 10, 11, 12, 13, 14, 15, 16, 17, 18, 19, 20, 21, 22, 23, 24, 25, 36, 37, 29, 38, 56, 57, 58, 59, 60, 61, 62, 63, 64, 68, 69, 70, 71, 72, 73, 74, 75, 76, 77, 78, 79, 80, 81, 82, 83, 84, 65, 66, 67] (by decide +kernel) (by decide +kernel)
set_option maxRecDepth 20000 in
theorem gX6_guestsWithoutPart_X6_giftsBy : GoodIn wsX6_guestsWithoutPart (wsV RX6 247 RX6 yX6_giftsBy wsX6_giftsBy) := goodIn_app (goodIn_of _ (by decide +kernel)) ggX6_guestsWithoutPart_X6_giftsBy
set_option maxRecDepth 20000 in
theorem ggX6_guestsWithoutPart_X6_pledgedBy : GoodIn wsX6_guestsWithoutPart wsX6_pledgedBy := goodIn_r _ [42, 43, 44, 3, 4, 5, 6, 7, 8, 9, 10, 11, 12, 13, 14, 15, 16, 17, 18, 19, 20, 21, 22, 23, 24, 25, 45, 46, 47, 48, 49, 50, 51, 52, 53, 54, 55, 56, 57, 58, 59, 60, 61, 62, 63, 64, 65, 66, 67, 85, 86, 87, 88, 89, 90, 91, 92, 93] (by decide +kernel) (by decide +kernel)
set_option maxRecDepth 20000 in
theorem gX6_guestsWithoutPart_X6_pledgedBy : GoodIn wsX6_guestsWithoutPart (wsV RX6 255 RX6 yX6_pledgedBy wsX6_pledgedBy) := goodIn_app (goodIn_of _ (by decide +kernel)) ggX6_guestsWithoutPart_X6_pledgedBy
theorem dX6_guestsWithoutPart_0 : decode cX6_guestsWithoutPart 0 = .ok (.iconst 0, 1) := by decide +kernel
theorem dX6_guestsWithoutPart_1 : decode cX6_guestsWithoutPart 1 = .ok (.istore_n 1, 1) := by decide +kernel
theorem dX6_guestsWithoutPart_2 : decode cX6_guestsWithoutPart 2 = .ok (.iconst 0, 1) := by decide +kernel
theorem dX6_guestsWithoutPart_3 : decode cX6_guestsWithoutPart 3 = .ok (.istore_n 2, 1) := by decide +kernel
theorem dX6_guestsWithoutPart_4 : decode cX6_guestsWithoutPart 4 = .ok (.iload_n 2, 1) := by decide +kernel
theorem dX6_guestsWithoutPart_5 : decode cX6_guestsWithoutPart 5 = .ok (.aload_n 0, 1) := by decide +kernel
theorem dX6_guestsWithoutPart_6 : decode cX6_guestsWithoutPart 6 = .ok (.getfield 16, 3) := by decide +kernel
theorem dX6_guestsWithoutPart_9 : decode cX6_guestsWithoutPart 9 = .ok (.invokevirtual 47, 3) := by decide +kernel
theorem dX6_guestsWithoutPart_12 : decode cX6_guestsWithoutPart 12 = .ok (.if_icmp .ge 44, 3) := by decide +kernel
theorem dX6_guestsWithoutPart_15 : decode cX6_guestsWithoutPart 15 = .ok (.aload_n 0, 1) := by decide +kernel
theorem dX6_guestsWithoutPart_16 : decode cX6_guestsWithoutPart 16 = .ok (.getfield 16, 3) := by decide +kernel
theorem dX6_guestsWithoutPart_19 : decode cX6_guestsWithoutPart 19 = .ok (.iload_n 2, 1) := by decide +kernel
theorem dX6_guestsWithoutPart_20 : decode cX6_guestsWithoutPart 20 = .ok (.invokevirtual 122, 3) := by decide +kernel
theorem dX6_guestsWithoutPart_23 : decode cX6_guestsWithoutPart 23 = .ok (.checkcast 69, 3) := by decide +kernel
theorem dX6_guestsWithoutPart_26 : decode cX6_guestsWithoutPart 26 = .ok (.astore_n 3, 1) := by decide +kernel
theorem dX6_guestsWithoutPart_27 : decode cX6_guestsWithoutPart 27 = .ok (.aload_n 0, 1) := by decide +kernel
theorem dX6_guestsWithoutPart_28 : decode cX6_guestsWithoutPart 28 = .ok (.aload_n 3, 1) := by decide +kernel
theorem dX6_guestsWithoutPart_29 : decode cX6_guestsWithoutPart 29 = .ok (.iconst 0, 1) := by decide +kernel
theorem dX6_guestsWithoutPart_30 : decode cX6_guestsWithoutPart 30 = .ok (.invokevirtual 247, 3) := by decide +kernel
theorem dX6_guestsWithoutPart_33 : decode cX6_guestsWithoutPart 33 = .ok (.ifCond .ne 17, 3) := by decide +kernel
theorem dX6_guestsWithoutPart_36 : decode cX6_guestsWithoutPart 36 = .ok (.aload_n 0, 1) := by decide +kernel
theorem dX6_guestsWithoutPart_37 : decode cX6_guestsWithoutPart 37 = .ok (.aload_n 3, 1) := by decide +kernel
theorem dX6_guestsWithoutPart_38 : decode cX6_guestsWithoutPart 38 = .ok (.invokevirtual 255, 3) := by decide +kernel
theorem dX6_guestsWithoutPart_41 : decode cX6_guestsWithoutPart 41 = .ok (.ifCond .ne 9, 3) := by decide +kernel
theorem dX6_guestsWithoutPart_44 : decode cX6_guestsWithoutPart 44 = .ok (.iload_n 1, 1) := by decide +kernel
theorem dX6_guestsWithoutPart_45 : decode cX6_guestsWithoutPart 45 = .ok (.iconst 1, 1) := by decide +kernel
theorem dX6_guestsWithoutPart_46 : decode cX6_guestsWithoutPart 46 = .ok (.iload_n 2, 1) := by decide +kernel
theorem dX6_guestsWithoutPart_47 : decode cX6_guestsWithoutPart 47 = .ok (.ishl, 1) := by decide +kernel
theorem dX6_guestsWithoutPart_48 : decode cX6_guestsWithoutPart 48 = .ok (.ior, 1) := by decide +kernel
theorem dX6_guestsWithoutPart_49 : decode cX6_guestsWithoutPart 49 = .ok (.istore_n 1, 1) := by decide +kernel
theorem dX6_guestsWithoutPart_50 : decode cX6_guestsWithoutPart 50 = .ok (.iinc 2 1, 3) := by decide +kernel
theorem dX6_guestsWithoutPart_53 : decode cX6_guestsWithoutPart 53 = .ok (.goto (-49), 3) := by decide +kernel
theorem dX6_guestsWithoutPart_56 : decode cX6_guestsWithoutPart 56 = .ok (.iload_n 1, 1) := by decide +kernel
theorem dX6_guestsWithoutPart_57 : decode cX6_guestsWithoutPart 57 = .ok (.ireturn, 1) := by decide +kernel
set_option maxRecDepth 20000 in
theorem ggX6_fillBy_J6_bitCount_0f7a4 : GoodIn wsX6_fillBy wsJ6_bitCount_0f7a4 := goodIn_r _ [11, 12, 13, 14] (by decide +kernel) (by decide +kernel)
set_option maxRecDepth 20000 in
theorem gX6_fillBy_J6_bitCount_0f7a4 : GoodIn wsX6_fillBy (va_wsS RX6 111 yJ6_bitCount_0f7a4 wsJ6_bitCount_0f7a4) := goodIn_app (goodIn_of _ (by decide +kernel)) ggX6_fillBy_J6_bitCount_0f7a4
set_option maxRecDepth 20000 in
theorem ggX6_fillBy_Jx4a65c_size_8abf5 : GoodIn wsX6_fillBy wsJx4a65c_size_8abf5 := goodIn_r _ [19, 20, 62, 63, 64] (by decide +kernel) (by decide +kernel)
set_option maxRecDepth 20000 in
theorem gX6_fillBy_Jx4a65c_size_8abf5 : GoodIn wsX6_fillBy (wsV RX6 47 RJx4a65c yJx4a65c_size_8abf5 wsJx4a65c_size_8abf5) := goodIn_app (goodIn_of _ (by decide +kernel)) ggX6_fillBy_Jx4a65c_size_8abf5
set_option maxRecDepth 20000 in
theorem ggX6_fillBy_Jx4a65c_get_915e3 : GoodIn wsX6_fillBy wsJx4a65c_get_915e3 := goodIn_r _ [24, 20, 25, 26, 27, 28, 29, 30, 31, 32, 33, 34, 35, 18, 36, 37, 62, 63, 64] (by decide +kernel) (by decide +kernel)
set_option maxRecDepth 20000 in
theorem gX6_fillBy_Jx4a65c_get_915e3 : GoodIn wsX6_fillBy (wsV RX6 122 RJx4a65c yJx4a65c_get_915e3 wsJx4a65c_get_915e3) := goodIn_app (goodIn_of _ (by decide +kernel)) ggX6_fillBy_Jx4a65c_get_915e3
set_option maxRecDepth 20000 in
theorem ggX6_fillBy_X6_buyersAbove : GoodIn wsX6_fillBy wsX6_buyersAbove := goodIn_r _ [42, 1, 2, 3, 15, 16, 17, 18, 19, 20, 21, 22, 23, 24, 25, 26, 27, 28, 29, 30, 31, 32, 33, 34, 35, 36, 37, 51, 52, 53, 54, 55, 56, 57, 58, 59, 60, 61, 62, 63, 64] (by decide +kernel) (by decide +kernel)
set_option maxRecDepth 20000 in
theorem gX6_fillBy_X6_buyersAbove : GoodIn wsX6_fillBy (wsV RX6 449 RX6 yX6_buyersAbove wsX6_buyersAbove) := goodIn_app (goodIn_of _ (by decide +kernel)) ggX6_fillBy_X6_buyersAbove
set_option maxRecDepth 20000 in
theorem ggX6_fillBy_X6_stockWithin : GoodIn wsX6_fillBy wsX6_stockWithin := goodIn_r _ [46, 47, 48, 49, 50, 15, 16, 17, 18, 19, 20, 21, 22, 23, 24, 25, 26, 27, 28, 29, 30, 31, 32, 33, 34, 35, 36, 37, 51, 52, 53, 54, 55, 56, 57, 58, 59, 65, 66, 67, 68, 69, 70, 71, 62, 63, 64] (by decide +kernel) (by decide +kernel)
set_option maxRecDepth 20000 in
theorem gX6_fillBy_X6_stockWithin : GoodIn wsX6_fillBy (wsV RX6 452 RX6 yX6_stockWithin wsX6_stockWithin) := goodIn_app (goodIn_of _ (by decide +kernel)) ggX6_fillBy_X6_stockWithin
theorem dX6_fillBy_0 : decode cX6_fillBy 0 = .ok (.iload_n 1, 1) := by decide +kernel
theorem dX6_fillBy_1 : decode cX6_fillBy 1 = .ok (.invokestatic 111, 3) := by decide +kernel
theorem dX6_fillBy_4 : decode cX6_fillBy 4 = .ok (.istore_n 3, 1) := by decide +kernel
theorem dX6_fillBy_5 : decode cX6_fillBy 5 = .ok (.iconst 0, 1) := by decide +kernel
theorem dX6_fillBy_6 : decode cX6_fillBy 6 = .ok (.istore 4, 2) := by decide +kernel
theorem dX6_fillBy_8 : decode cX6_fillBy 8 = .ok (.iload 4, 2) := by decide +kernel
theorem dX6_fillBy_10 : decode cX6_fillBy 10 = .ok (.aload_n 0, 1) := by decide +kernel
theorem dX6_fillBy_11 : decode cX6_fillBy 11 = .ok (.getfield 16, 3) := by decide +kernel
theorem dX6_fillBy_14 : decode cX6_fillBy 14 = .ok (.invokevirtual 47, 3) := by decide +kernel
theorem dX6_fillBy_17 : decode cX6_fillBy 17 = .ok (.if_icmp .ge 55, 3) := by decide +kernel
theorem dX6_fillBy_20 : decode cX6_fillBy 20 = .ok (.iload_n 1, 1) := by decide +kernel
theorem dX6_fillBy_21 : decode cX6_fillBy 21 = .ok (.iload 4, 2) := by decide +kernel
theorem dX6_fillBy_23 : decode cX6_fillBy 23 = .ok (.ishr, 1) := by decide +kernel
theorem dX6_fillBy_24 : decode cX6_fillBy 24 = .ok (.iconst 1, 1) := by decide +kernel
theorem dX6_fillBy_25 : decode cX6_fillBy 25 = .ok (.iand, 1) := by decide +kernel
theorem dX6_fillBy_26 : decode cX6_fillBy 26 = .ok (.ifCond .eq 40, 3) := by decide +kernel
theorem dX6_fillBy_29 : decode cX6_fillBy 29 = .ok (.aload_n 0, 1) := by decide +kernel
theorem dX6_fillBy_30 : decode cX6_fillBy 30 = .ok (.getfield 16, 3) := by decide +kernel
theorem dX6_fillBy_33 : decode cX6_fillBy 33 = .ok (.iload 4, 2) := by decide +kernel
theorem dX6_fillBy_35 : decode cX6_fillBy 35 = .ok (.invokevirtual 122, 3) := by decide +kernel
theorem dX6_fillBy_38 : decode cX6_fillBy 38 = .ok (.checkcast 69, 3) := by decide +kernel
theorem dX6_fillBy_41 : decode cX6_fillBy 41 = .ok (.getfield 158, 3) := by decide +kernel
theorem dX6_fillBy_44 : decode cX6_fillBy 44 = .ok (.istore 5, 2) := by decide +kernel
theorem dX6_fillBy_46 : decode cX6_fillBy 46 = .ok (.iload_n 3, 1) := by decide +kernel
theorem dX6_fillBy_47 : decode cX6_fillBy 47 = .ok (.aload_n 0, 1) := by decide +kernel
theorem dX6_fillBy_48 : decode cX6_fillBy 48 = .ok (.iload_n 1, 1) := by decide +kernel
theorem dX6_fillBy_49 : decode cX6_fillBy 49 = .ok (.iload 5, 2) := by decide +kernel
theorem dX6_fillBy_51 : decode cX6_fillBy 51 = .ok (.invokevirtual 449, 3) := by decide +kernel
theorem dX6_fillBy_54 : decode cX6_fillBy 54 = .ok (.aload_n 0, 1) := by decide +kernel
theorem dX6_fillBy_55 : decode cX6_fillBy 55 = .ok (.iload 5, 2) := by decide +kernel
theorem dX6_fillBy_57 : decode cX6_fillBy 57 = .ok (.iload_n 2, 1) := by decide +kernel
theorem dX6_fillBy_58 : decode cX6_fillBy 58 = .ok (.invokevirtual 452, 3) := by decide +kernel
theorem dX6_fillBy_61 : decode cX6_fillBy 61 = .ok (.iadd, 1) := by decide +kernel
theorem dX6_fillBy_62 : decode cX6_fillBy 62 = .ok (.invokestatic 209, 3) := by decide +kernel
theorem dX6_fillBy_65 : decode cX6_fillBy 65 = .ok (.istore_n 3, 1) := by decide +kernel
theorem dX6_fillBy_66 : decode cX6_fillBy 66 = .ok (.iinc 4 1, 3) := by decide +kernel
theorem dX6_fillBy_69 : decode cX6_fillBy 69 = .ok (.goto (-61), 3) := by decide +kernel
theorem dX6_fillBy_72 : decode cX6_fillBy 72 = .ok (.iload_n 3, 1) := by decide +kernel
theorem dX6_fillBy_73 : decode cX6_fillBy 73 = .ok (.ireturn, 1) := by decide +kernel
set_option maxRecDepth 20000 in
theorem ggX6_buyersAbove_Jx4a65c_size_8abf5 : GoodIn wsX6_buyersAbove wsJx4a65c_size_8abf5 := goodIn_r _ [8, 9, 38, 39, 40] (by decide +kernel) (by decide +kernel)
set_option maxRecDepth 20000 in
theorem gX6_buyersAbove_Jx4a65c_size_8abf5 : GoodIn wsX6_buyersAbove (wsV RX6 47 RJx4a65c yJx4a65c_size_8abf5 wsJx4a65c_size_8abf5) := goodIn_app (goodIn_of _ (by decide +kernel)) ggX6_buyersAbove_Jx4a65c_size_8abf5
set_option maxRecDepth 20000 in
theorem ggX6_buyersAbove_Jx4a65c_get_915e3 : GoodIn wsX6_buyersAbove wsJx4a65c_get_915e3 := goodIn_r _ [13, 9, 14, 15, 16, 17, 18, 19, 20, 21, 22, 23, 24, 7, 25, 26, 38, 39, 40] (by decide +kernel) (by decide +kernel)
set_option maxRecDepth 20000 in
theorem gX6_buyersAbove_Jx4a65c_get_915e3 : GoodIn wsX6_buyersAbove (wsV RX6 122 RJx4a65c yJx4a65c_get_915e3 wsJx4a65c_get_915e3) := goodIn_app (goodIn_of _ (by decide +kernel)) ggX6_buyersAbove_Jx4a65c_get_915e3
theorem dX6_buyersAbove_0 : decode cX6_buyersAbove 0 = .ok (.iconst 0, 1) := by decide +kernel
theorem dX6_buyersAbove_1 : decode cX6_buyersAbove 1 = .ok (.istore_n 3, 1) := by decide +kernel
theorem dX6_buyersAbove_2 : decode cX6_buyersAbove 2 = .ok (.iconst 0, 1) := by decide +kernel
theorem dX6_buyersAbove_3 : decode cX6_buyersAbove 3 = .ok (.istore 4, 2) := by decide +kernel
theorem dX6_buyersAbove_5 : decode cX6_buyersAbove 5 = .ok (.iload 4, 2) := by decide +kernel
theorem dX6_buyersAbove_7 : decode cX6_buyersAbove 7 = .ok (.aload_n 0, 1) := by decide +kernel
theorem dX6_buyersAbove_8 : decode cX6_buyersAbove 8 = .ok (.getfield 16, 3) := by decide +kernel
theorem dX6_buyersAbove_11 : decode cX6_buyersAbove 11 = .ok (.invokevirtual 47, 3) := by decide +kernel
theorem dX6_buyersAbove_14 : decode cX6_buyersAbove 14 = .ok (.if_icmp .ge 40, 3) := by decide +kernel
theorem dX6_buyersAbove_17 : decode cX6_buyersAbove 17 = .ok (.iload_n 1, 1) := by decide +kernel
theorem dX6_buyersAbove_18 : decode cX6_buyersAbove 18 = .ok (.iload 4, 2) := by decide +kernel
theorem dX6_buyersAbove_20 : decode cX6_buyersAbove 20 = .ok (.ishr, 1) := by decide +kernel
theorem dX6_buyersAbove_21 : decode cX6_buyersAbove 21 = .ok (.iconst 1, 1) := by decide +kernel
theorem dX6_buyersAbove_22 : decode cX6_buyersAbove 22 = .ok (.iand, 1) := by decide +kernel
theorem dX6_buyersAbove_23 : decode cX6_buyersAbove 23 = .ok (.ifCond .eq 25, 3) := by decide +kernel
theorem dX6_buyersAbove_26 : decode cX6_buyersAbove 26 = .ok (.aload_n 0, 1) := by decide +kernel
theorem dX6_buyersAbove_27 : decode cX6_buyersAbove 27 = .ok (.getfield 16, 3) := by decide +kernel
theorem dX6_buyersAbove_30 : decode cX6_buyersAbove 30 = .ok (.iload 4, 2) := by decide +kernel
theorem dX6_buyersAbove_32 : decode cX6_buyersAbove 32 = .ok (.invokevirtual 122, 3) := by decide +kernel
theorem dX6_buyersAbove_35 : decode cX6_buyersAbove 35 = .ok (.checkcast 69, 3) := by decide +kernel
theorem dX6_buyersAbove_38 : decode cX6_buyersAbove 38 = .ok (.getfield 158, 3) := by decide +kernel
theorem dX6_buyersAbove_41 : decode cX6_buyersAbove 41 = .ok (.iload_n 2, 1) := by decide +kernel
theorem dX6_buyersAbove_42 : decode cX6_buyersAbove 42 = .ok (.if_icmp .le 6, 3) := by decide +kernel
theorem dX6_buyersAbove_45 : decode cX6_buyersAbove 45 = .ok (.iinc 3 1, 3) := by decide +kernel
theorem dX6_buyersAbove_48 : decode cX6_buyersAbove 48 = .ok (.iinc 4 1, 3) := by decide +kernel
theorem dX6_buyersAbove_51 : decode cX6_buyersAbove 51 = .ok (.goto (-46), 3) := by decide +kernel
theorem dX6_buyersAbove_54 : decode cX6_buyersAbove 54 = .ok (.iload_n 3, 1) := by decide +kernel
theorem dX6_buyersAbove_55 : decode cX6_buyersAbove 55 = .ok (.ireturn, 1) := by decide +kernel
set_option maxRecDepth 20000 in
theorem ggX6_stockWithin_Jx4a65c_size_8abf5 : GoodIn wsX6_stockWithin wsJx4a65c_size_8abf5 := goodIn_r _ [9, 10, 44, 45, 46] (by decide +kernel) (by decide +kernel)
set_option maxRecDepth 20000 in
theorem gX6_stockWithin_Jx4a65c_size_8abf5 : GoodIn wsX6_stockWithin (wsV RX6 47 RJx4a65c yJx4a65c_size_8abf5 wsJx4a65c_size_8abf5) := goodIn_app (goodIn_of _ (by decide +kernel)) ggX6_stockWithin_Jx4a65c_size_8abf5
set_option maxRecDepth 20000 in
theorem ggX6_stockWithin_Jx4a65c_get_915e3 : GoodIn wsX6_stockWithin wsJx4a65c_get_915e3 := goodIn_r _ [14, 10, 15, 16, 17, 18, 19, 20, 21, 22, 23, 24, 25, 8, 26, 27, 44, 45, 46] (by decide +kernel) (by decide +kernel)
set_option maxRecDepth 20000 in
theorem gX6_stockWithin_Jx4a65c_get_915e3 : GoodIn wsX6_stockWithin (wsV RX6 122 RJx4a65c yJx4a65c_get_915e3 wsJx4a65c_get_915e3) := goodIn_app (goodIn_of _ (by decide +kernel)) ggX6_stockWithin_Jx4a65c_get_915e3
theorem dX6_stockWithin_0 : decode cX6_stockWithin 0 = .ok (.iconst 0, 1) := by decide +kernel
theorem dX6_stockWithin_1 : decode cX6_stockWithin 1 = .ok (.istore_n 3, 1) := by decide +kernel
theorem dX6_stockWithin_2 : decode cX6_stockWithin 2 = .ok (.iconst 0, 1) := by decide +kernel
theorem dX6_stockWithin_3 : decode cX6_stockWithin 3 = .ok (.istore 4, 2) := by decide +kernel
theorem dX6_stockWithin_5 : decode cX6_stockWithin 5 = .ok (.iload 4, 2) := by decide +kernel
theorem dX6_stockWithin_7 : decode cX6_stockWithin 7 = .ok (.aload_n 0, 1) := by decide +kernel
theorem dX6_stockWithin_8 : decode cX6_stockWithin 8 = .ok (.getfield 12, 3) := by decide +kernel
theorem dX6_stockWithin_11 : decode cX6_stockWithin 11 = .ok (.invokevirtual 47, 3) := by decide +kernel
theorem dX6_stockWithin_14 : decode cX6_stockWithin 14 = .ok (.if_icmp .ge 56, 3) := by decide +kernel
theorem dX6_stockWithin_17 : decode cX6_stockWithin 17 = .ok (.aload_n 0, 1) := by decide +kernel
theorem dX6_stockWithin_18 : decode cX6_stockWithin 18 = .ok (.getfield 12, 3) := by decide +kernel
theorem dX6_stockWithin_21 : decode cX6_stockWithin 21 = .ok (.iload 4, 2) := by decide +kernel
theorem dX6_stockWithin_23 : decode cX6_stockWithin 23 = .ok (.invokevirtual 122, 3) := by decide +kernel
theorem dX6_stockWithin_26 : decode cX6_stockWithin 26 = .ok (.checkcast 56, 3) := by decide +kernel
theorem dX6_stockWithin_29 : decode cX6_stockWithin 29 = .ok (.astore 5, 2) := by decide +kernel
theorem dX6_stockWithin_31 : decode cX6_stockWithin 31 = .ok (.aload 5, 2) := by decide +kernel
theorem dX6_stockWithin_33 : decode cX6_stockWithin 33 = .ok (.getfield 88, 3) := by decide +kernel
theorem dX6_stockWithin_36 : decode cX6_stockWithin 36 = .ok (.iload_n 1, 1) := by decide +kernel
theorem dX6_stockWithin_37 : decode cX6_stockWithin 37 = .ok (.if_icmp .gt 27, 3) := by decide +kernel
theorem dX6_stockWithin_40 : decode cX6_stockWithin 40 = .ok (.iload_n 3, 1) := by decide +kernel
theorem dX6_stockWithin_41 : decode cX6_stockWithin 41 = .ok (.iload 4, 2) := by decide +kernel
theorem dX6_stockWithin_43 : decode cX6_stockWithin 43 = .ok (.iload_n 2, 1) := by decide +kernel
theorem dX6_stockWithin_44 : decode cX6_stockWithin 44 = .ok (.if_icmp .ne 13, 3) := by decide +kernel
theorem dX6_stockWithin_47 : decode cX6_stockWithin 47 = .ok (.aload 5, 2) := by decide +kernel
theorem dX6_stockWithin_49 : decode cX6_stockWithin 49 = .ok (.getfield 337, 3) := by decide +kernel
theorem dX6_stockWithin_52 : decode cX6_stockWithin 52 = .ok (.iconst 1, 1) := by decide +kernel
theorem dX6_stockWithin_53 : decode cX6_stockWithin 53 = .ok (.isub, 1) := by decide +kernel
theorem dX6_stockWithin_54 : decode cX6_stockWithin 54 = .ok (.goto 8, 3) := by decide +kernel
theorem dX6_stockWithin_57 : decode cX6_stockWithin 57 = .ok (.aload 5, 2) := by decide +kernel
theorem dX6_stockWithin_59 : decode cX6_stockWithin 59 = .ok (.getfield 337, 3) := by decide +kernel
theorem dX6_stockWithin_62 : decode cX6_stockWithin 62 = .ok (.iadd, 1) := by decide +kernel
theorem dX6_stockWithin_63 : decode cX6_stockWithin 63 = .ok (.istore_n 3, 1) := by decide +kernel
theorem dX6_stockWithin_64 : decode cX6_stockWithin 64 = .ok (.iinc 4 1, 3) := by decide +kernel
theorem dX6_stockWithin_67 : decode cX6_stockWithin 67 = .ok (.goto (-62), 3) := by decide +kernel
theorem dX6_stockWithin_70 : decode cX6_stockWithin 70 = .ok (.iload_n 3, 1) := by decide +kernel
theorem dX6_stockWithin_71 : decode cX6_stockWithin 71 = .ok (.ireturn, 1) := by decide +kernel
theorem dX6_oneIf_0 : decode cX6_oneIf 0 = .ok (.iload_n 0, 1) := by decide +kernel
theorem dX6_oneIf_1 : decode cX6_oneIf 1 = .ok (.ifCond .eq 7, 3) := by decide +kernel
theorem dX6_oneIf_4 : decode cX6_oneIf 4 = .ok (.iconst 1, 1) := by decide +kernel
theorem dX6_oneIf_5 : decode cX6_oneIf 5 = .ok (.goto 4, 3) := by decide +kernel
theorem dX6_oneIf_8 : decode cX6_oneIf 8 = .ok (.iconst 0, 1) := by decide +kernel
theorem dX6_oneIf_9 : decode cX6_oneIf 9 = .ok (.ireturn, 1) := by decide +kernel
set_option maxRecDepth 20000 in
theorem ggX6_giftsNow_Jx4a65c_size_8abf5 : GoodIn wsX6_giftsNow wsJx4a65c_size_8abf5 := goodIn_r _ [8, 9, 49, 50, 51] (by decide +kernel) (by decide +kernel)
set_option maxRecDepth 20000 in
theorem gX6_giftsNow_Jx4a65c_size_8abf5 : GoodIn wsX6_giftsNow (wsV RX6 47 RJx4a65c yJx4a65c_size_8abf5 wsJx4a65c_size_8abf5) := goodIn_app (goodIn_of _ (by decide +kernel)) ggX6_giftsNow_Jx4a65c_size_8abf5
set_option maxRecDepth 20000 in
theorem ggX6_giftsNow_Jx4a65c_get_915e3 : GoodIn wsX6_giftsNow wsJx4a65c_get_915e3 := goodIn_r _ [13, 9, 14, 15, 16, 17, 18, 19, 20, 21, 22, 23, 24, 7, 25, 26, 49, 50, 51] (by decide +kernel) (by decide +kernel)
set_option maxRecDepth 20000 in
theorem gX6_giftsNow_Jx4a65c_get_915e3 : GoodIn wsX6_giftsNow (wsV RX6 122 RJx4a65c yJx4a65c_get_915e3 wsJx4a65c_get_915e3) := goodIn_app (goodIn_of _ (by decide +kernel)) ggX6_giftsNow_Jx4a65c_get_915e3
set_option maxRecDepth 20000 in
theorem ggX6_giftsNow_X6_oneIf : GoodIn wsX6_giftsNow wsX6_oneIf := goodIn_r _ [30] (by decide +kernel) (by decide +kernel)
set_option maxRecDepth 20000 in
theorem gX6_giftsNow_X6_oneIf : GoodIn wsX6_giftsNow (va_wsS RX6 235 yX6_oneIf wsX6_oneIf) := goodIn_app (goodIn_of _ (by decide +kernel)) ggX6_giftsNow_X6_oneIf
theorem dX6_giftsNow_0 : decode cX6_giftsNow 0 = .ok (.iconst 0, 1) := by decide +kernel
theorem dX6_giftsNow_1 : decode cX6_giftsNow 1 = .ok (.istore_n 2, 1) := by decide +kernel
theorem dX6_giftsNow_2 : decode cX6_giftsNow 2 = .ok (.iconst 0, 1) := by decide +kernel
theorem dX6_giftsNow_3 : decode cX6_giftsNow 3 = .ok (.istore_n 3, 1) := by decide +kernel
theorem dX6_giftsNow_4 : decode cX6_giftsNow 4 = .ok (.iload_n 3, 1) := by decide +kernel
theorem dX6_giftsNow_5 : decode cX6_giftsNow 5 = .ok (.aload_n 0, 1) := by decide +kernel
theorem dX6_giftsNow_6 : decode cX6_giftsNow 6 = .ok (.getfield 19, 3) := by decide +kernel
theorem dX6_giftsNow_9 : decode cX6_giftsNow 9 = .ok (.invokevirtual 47, 3) := by decide +kernel
theorem dX6_giftsNow_12 : decode cX6_giftsNow 12 = .ok (.if_icmp .ge 38, 3) := by decide +kernel
theorem dX6_giftsNow_15 : decode cX6_giftsNow 15 = .ok (.iload_n 2, 1) := by decide +kernel
theorem dX6_giftsNow_16 : decode cX6_giftsNow 16 = .ok (.aload_n 0, 1) := by decide +kernel
theorem dX6_giftsNow_17 : decode cX6_giftsNow 17 = .ok (.getfield 19, 3) := by decide +kernel
theorem dX6_giftsNow_20 : decode cX6_giftsNow 20 = .ok (.iload_n 3, 1) := by decide +kernel
theorem dX6_giftsNow_21 : decode cX6_giftsNow 21 = .ok (.invokevirtual 122, 3) := by decide +kernel
theorem dX6_giftsNow_24 : decode cX6_giftsNow 24 = .ok (.checkcast 171, 3) := by decide +kernel
theorem dX6_giftsNow_27 : decode cX6_giftsNow 27 = .ok (.getfield 297, 3) := by decide +kernel
theorem dX6_giftsNow_30 : decode cX6_giftsNow 30 = .ok (.iload_n 1, 1) := by decide +kernel
theorem dX6_giftsNow_31 : decode cX6_giftsNow 31 = .ok (.if_icmp .ne 7, 3) := by decide +kernel
theorem dX6_giftsNow_34 : decode cX6_giftsNow 34 = .ok (.iconst 1, 1) := by decide +kernel
theorem dX6_giftsNow_35 : decode cX6_giftsNow 35 = .ok (.goto 4, 3) := by decide +kernel
theorem dX6_giftsNow_38 : decode cX6_giftsNow 38 = .ok (.iconst 0, 1) := by decide +kernel
theorem dX6_giftsNow_39 : decode cX6_giftsNow 39 = .ok (.invokestatic 235, 3) := by decide +kernel
theorem dX6_giftsNow_42 : decode cX6_giftsNow 42 = .ok (.iadd, 1) := by decide +kernel
theorem dX6_giftsNow_43 : decode cX6_giftsNow 43 = .ok (.istore_n 2, 1) := by decide +kernel
theorem dX6_giftsNow_44 : decode cX6_giftsNow 44 = .ok (.iinc 3 1, 3) := by decide +kernel
theorem dX6_giftsNow_47 : decode cX6_giftsNow 47 = .ok (.goto (-43), 3) := by decide +kernel
theorem dX6_giftsNow_50 : decode cX6_giftsNow 50 = .ok (.iload_n 2, 1) := by decide +kernel
theorem dX6_giftsNow_51 : decode cX6_giftsNow 51 = .ok (.ireturn, 1) := by decide +kernel
set_option maxRecDepth 20000 in
theorem ggX6_giftsOf_Jx4a65c_size_8abf5 : GoodIn wsX6_giftsOf wsJx4a65c_size_8abf5 := goodIn_r _ [10, 11, 59, 60, 61] (by decide +kernel) (by decide +kernel)
set_option maxRecDepth 20000 in
theorem gX6_giftsOf_Jx4a65c_size_8abf5 : GoodIn wsX6_giftsOf (wsV RX6 47 RJx4a65c yJx4a65c_size_8abf5 wsJx4a65c_size_8abf5) := goodIn_app (goodIn_of _ (by decide +kernel)) ggX6_giftsOf_Jx4a65c_size_8abf5
set_option maxRecDepth 20000 in
theorem ggX6_giftsOf_Jx4a65c_get_915e3 : GoodIn wsX6_giftsOf wsJx4a65c_get_915e3 := goodIn_r _ [15, 11, 16, 17, 18, 19, 20, 21, 22, 23, 24, 25, 26, 9, 27, 28, 59, 60, 61] (by decide +kernel) (by decide +kernel)
set_option maxRecDepth 20000 in
theorem gX6_giftsOf_Jx4a65c_get_915e3 : GoodIn wsX6_giftsOf (wsV RX6 122 RJx4a65c yJx4a65c_get_915e3 wsJx4a65c_get_915e3) := goodIn_app (goodIn_of _ (by decide +kernel)) ggX6_giftsOf_Jx4a65c_get_915e3
set_option maxRecDepth 20000 in
theorem ggX6_giftsOf_X6_oneIf : GoodIn wsX6_giftsOf wsX6_oneIf := goodIn_r _ [32] (by decide +kernel) (by decide +kernel)
set_option maxRecDepth 20000 in
theorem gX6_giftsOf_X6_oneIf : GoodIn wsX6_giftsOf (va_wsS RX6 235 yX6_oneIf wsX6_oneIf) := goodIn_app (goodIn_of _ (by decide +kernel)) ggX6_giftsOf_X6_oneIf
theorem dX6_giftsOf_0 : decode cX6_giftsOf 0 = .ok (.iconst 0, 1) := by decide +kernel
theorem dX6_giftsOf_1 : decode cX6_giftsOf 1 = .ok (.istore_n 3, 1) := by decide +kernel
theorem dX6_giftsOf_2 : decode cX6_giftsOf 2 = .ok (.iconst 0, 1) := by decide +kernel
theorem dX6_giftsOf_3 : decode cX6_giftsOf 3 = .ok (.istore 4, 2) := by decide +kernel
theorem dX6_giftsOf_5 : decode cX6_giftsOf 5 = .ok (.iload 4, 2) := by decide +kernel
theorem dX6_giftsOf_7 : decode cX6_giftsOf 7 = .ok (.aload_n 0, 1) := by decide +kernel
theorem dX6_giftsOf_8 : decode cX6_giftsOf 8 = .ok (.getfield 19, 3) := by decide +kernel
theorem dX6_giftsOf_11 : decode cX6_giftsOf 11 = .ok (.invokevirtual 47, 3) := by decide +kernel
theorem dX6_giftsOf_14 : decode cX6_giftsOf 14 = .ok (.if_icmp .ge 52, 3) := by decide +kernel
theorem dX6_giftsOf_17 : decode cX6_giftsOf 17 = .ok (.aload_n 0, 1) := by decide +kernel
theorem dX6_giftsOf_18 : decode cX6_giftsOf 18 = .ok (.getfield 19, 3) := by decide +kernel
theorem dX6_giftsOf_21 : decode cX6_giftsOf 21 = .ok (.iload 4, 2) := by decide +kernel
theorem dX6_giftsOf_23 : decode cX6_giftsOf 23 = .ok (.invokevirtual 122, 3) := by decide +kernel
theorem dX6_giftsOf_26 : decode cX6_giftsOf 26 = .ok (.checkcast 171, 3) := by decide +kernel
theorem dX6_giftsOf_29 : decode cX6_giftsOf 29 = .ok (.astore 5, 2) := by decide +kernel
theorem dX6_giftsOf_31 : decode cX6_giftsOf 31 = .ok (.iload_n 3, 1) := by decide +kernel
theorem dX6_giftsOf_32 : decode cX6_giftsOf 32 = .ok (.aload 5, 2) := by decide +kernel
theorem dX6_giftsOf_34 : decode cX6_giftsOf 34 = .ok (.getfield 297, 3) := by decide +kernel
theorem dX6_giftsOf_37 : decode cX6_giftsOf 37 = .ok (.iload_n 2, 1) := by decide +kernel
theorem dX6_giftsOf_38 : decode cX6_giftsOf 38 = .ok (.if_icmp .ne 16, 3) := by decide +kernel
theorem dX6_giftsOf_41 : decode cX6_giftsOf 41 = .ok (.aload 5, 2) := by decide +kernel
theorem dX6_giftsOf_43 : decode cX6_giftsOf 43 = .ok (.getfield 185, 3) := by decide +kernel
theorem dX6_giftsOf_46 : decode cX6_giftsOf 46 = .ok (.aload_n 1, 1) := by decide +kernel
theorem dX6_giftsOf_47 : decode cX6_giftsOf 47 = .ok (.if_acmp .ne 7, 3) := by decide +kernel
theorem dX6_giftsOf_50 : decode cX6_giftsOf 50 = .ok (.iconst 1, 1) := by decide +kernel
theorem dX6_giftsOf_51 : decode cX6_giftsOf 51 = .ok (.goto 4, 3) := by decide +kernel
theorem dX6_giftsOf_54 : decode cX6_giftsOf 54 = .ok (.iconst 0, 1) := by decide +kernel
theorem dX6_giftsOf_55 : decode cX6_giftsOf 55 = .ok (.invokestatic 235, 3) := by decide +kernel
theorem dX6_giftsOf_58 : decode cX6_giftsOf 58 = .ok (.iadd, 1) := by decide +kernel
theorem dX6_giftsOf_59 : decode cX6_giftsOf 59 = .ok (.istore_n 3, 1) := by decide +kernel
theorem dX6_giftsOf_60 : decode cX6_giftsOf 60 = .ok (.iinc 4 1, 3) := by decide +kernel
theorem dX6_giftsOf_63 : decode cX6_giftsOf 63 = .ok (.goto (-58), 3) := by decide +kernel
theorem dX6_giftsOf_66 : decode cX6_giftsOf 66 = .ok (.iload_n 3, 1) := by decide +kernel
theorem dX6_giftsOf_67 : decode cX6_giftsOf 67 = .ok (.ireturn, 1) := by decide +kernel
set_option maxRecDepth 20000 in
theorem ggX6_giftsBy_Jx4a65c_size_8abf5 : GoodIn wsX6_giftsBy wsJx4a65c_size_8abf5 := goodIn_r _ [10, 11, 59, 60, 61] (by decide +kernel) (by decide +kernel)
set_option maxRecDepth 20000 in
theorem gX6_giftsBy_Jx4a65c_size_8abf5 : GoodIn wsX6_giftsBy (wsV RX6 47 RJx4a65c yJx4a65c_size_8abf5 wsJx4a65c_size_8abf5) := goodIn_app (goodIn_of _ (by decide +kernel)) ggX6_giftsBy_Jx4a65c_size_8abf5
set_option maxRecDepth 20000 in
theorem ggX6_giftsBy_Jx4a65c_get_915e3 : GoodIn wsX6_giftsBy wsJx4a65c_get_915e3 := goodIn_r _ [15, 11, 16, 17, 18, 19, 20, 21, 22, 23, 24, 25, 26, 9, 27, 28, 59, 60, 61] (by decide +kernel) (by decide +kernel)
set_option maxRecDepth 20000 in
theorem gX6_giftsBy_Jx4a65c_get_915e3 : GoodIn wsX6_giftsBy (wsV RX6 122 RJx4a65c yJx4a65c_get_915e3 wsJx4a65c_get_915e3) := goodIn_app (goodIn_of _ (by decide +kernel)) ggX6_giftsBy_Jx4a65c_get_915e3
set_option maxRecDepth 20000 in
theorem ggX6_giftsBy_X6_oneIf : GoodIn wsX6_giftsBy wsX6_oneIf := goodIn_r _ [32] (by decide +kernel) (by decide +kernel)
set_option maxRecDepth 20000 in
theorem gX6_giftsBy_X6_oneIf : GoodIn wsX6_giftsBy (va_wsS RX6 235 yX6_oneIf wsX6_oneIf) := goodIn_app (goodIn_of _ (by decide +kernel)) ggX6_giftsBy_X6_oneIf
theorem dX6_giftsBy_0 : decode cX6_giftsBy 0 = .ok (.iconst 0, 1) := by decide +kernel
theorem dX6_giftsBy_1 : decode cX6_giftsBy 1 = .ok (.istore_n 3, 1) := by decide +kernel
theorem dX6_giftsBy_2 : decode cX6_giftsBy 2 = .ok (.iconst 0, 1) := by decide +kernel
theorem dX6_giftsBy_3 : decode cX6_giftsBy 3 = .ok (.istore 4, 2) := by decide +kernel
theorem dX6_giftsBy_5 : decode cX6_giftsBy 5 = .ok (.iload 4, 2) := by decide +kernel
theorem dX6_giftsBy_7 : decode cX6_giftsBy 7 = .ok (.aload_n 0, 1) := by decide +kernel
theorem dX6_giftsBy_8 : decode cX6_giftsBy 8 = .ok (.getfield 19, 3) := by decide +kernel
theorem dX6_giftsBy_11 : decode cX6_giftsBy 11 = .ok (.invokevirtual 47, 3) := by decide +kernel
theorem dX6_giftsBy_14 : decode cX6_giftsBy 14 = .ok (.if_icmp .ge 52, 3) := by decide +kernel
theorem dX6_giftsBy_17 : decode cX6_giftsBy 17 = .ok (.aload_n 0, 1) := by decide +kernel
theorem dX6_giftsBy_18 : decode cX6_giftsBy 18 = .ok (.getfield 19, 3) := by decide +kernel
theorem dX6_giftsBy_21 : decode cX6_giftsBy 21 = .ok (.iload 4, 2) := by decide +kernel
theorem dX6_giftsBy_23 : decode cX6_giftsBy 23 = .ok (.invokevirtual 122, 3) := by decide +kernel
theorem dX6_giftsBy_26 : decode cX6_giftsBy 26 = .ok (.checkcast 171, 3) := by decide +kernel
theorem dX6_giftsBy_29 : decode cX6_giftsBy 29 = .ok (.astore 5, 2) := by decide +kernel
theorem dX6_giftsBy_31 : decode cX6_giftsBy 31 = .ok (.iload_n 3, 1) := by decide +kernel
theorem dX6_giftsBy_32 : decode cX6_giftsBy 32 = .ok (.aload 5, 2) := by decide +kernel
theorem dX6_giftsBy_34 : decode cX6_giftsBy 34 = .ok (.getfield 297, 3) := by decide +kernel
theorem dX6_giftsBy_37 : decode cX6_giftsBy 37 = .ok (.iload_n 2, 1) := by decide +kernel
theorem dX6_giftsBy_38 : decode cX6_giftsBy 38 = .ok (.if_icmp .ne 16, 3) := by decide +kernel
theorem dX6_giftsBy_41 : decode cX6_giftsBy 41 = .ok (.aload 5, 2) := by decide +kernel
theorem dX6_giftsBy_43 : decode cX6_giftsBy 43 = .ok (.getfield 181, 3) := by decide +kernel
theorem dX6_giftsBy_46 : decode cX6_giftsBy 46 = .ok (.aload_n 1, 1) := by decide +kernel
theorem dX6_giftsBy_47 : decode cX6_giftsBy 47 = .ok (.if_acmp .ne 7, 3) := by decide +kernel
theorem dX6_giftsBy_50 : decode cX6_giftsBy 50 = .ok (.iconst 1, 1) := by decide +kernel
theorem dX6_giftsBy_51 : decode cX6_giftsBy 51 = .ok (.goto 4, 3) := by decide +kernel
theorem dX6_giftsBy_54 : decode cX6_giftsBy 54 = .ok (.iconst 0, 1) := by decide +kernel
theorem dX6_giftsBy_55 : decode cX6_giftsBy 55 = .ok (.invokestatic 235, 3) := by decide +kernel
theorem dX6_giftsBy_58 : decode cX6_giftsBy 58 = .ok (.iadd, 1) := by decide +kernel
theorem dX6_giftsBy_59 : decode cX6_giftsBy 59 = .ok (.istore_n 3, 1) := by decide +kernel
theorem dX6_giftsBy_60 : decode cX6_giftsBy 60 = .ok (.iinc 4 1, 3) := by decide +kernel
theorem dX6_giftsBy_63 : decode cX6_giftsBy 63 = .ok (.goto (-58), 3) := by decide +kernel
theorem dX6_giftsBy_66 : decode cX6_giftsBy 66 = .ok (.iload_n 3, 1) := by decide +kernel
theorem dX6_giftsBy_67 : decode cX6_giftsBy 67 = .ok (.ireturn, 1) := by decide +kernel
set_option maxRecDepth 20000 in
theorem ggX6_keptBoughtAt_Jx4a65c_size_8abf5 : GoodIn wsX6_keptBoughtAt wsJx4a65c_size_8abf5 := goodIn_r _ [9, 10, 64, 65, 66] (by decide +kernel) (by decide +kernel)
set_option maxRecDepth 20000 in
theorem gX6_keptBoughtAt_Jx4a65c_size_8abf5 : GoodIn wsX6_keptBoughtAt (wsV RX6 47 RJx4a65c yJx4a65c_size_8abf5 wsJx4a65c_size_8abf5) := goodIn_app (goodIn_of _ (by decide +kernel)) ggX6_keptBoughtAt_Jx4a65c_size_8abf5
set_option maxRecDepth 20000 in
theorem ggX6_keptBoughtAt_Jx4a65c_get_915e3 : GoodIn wsX6_keptBoughtAt wsJx4a65c_get_915e3 := goodIn_r _ [14, 10, 15, 16, 17, 18, 19, 20, 21, 22, 23, 24, 25, 8, 26, 27, 64, 65, 66] (by decide +kernel) (by decide +kernel)
set_option maxRecDepth 20000 in
theorem gX6_keptBoughtAt_Jx4a65c_get_915e3 : GoodIn wsX6_keptBoughtAt (wsV RX6 122 RJx4a65c yJx4a65c_get_915e3 wsJx4a65c_get_915e3) := goodIn_app (goodIn_of _ (by decide +kernel)) ggX6_keptBoughtAt_Jx4a65c_get_915e3
set_option maxRecDepth 20000 in
theorem ggX6_keptBoughtAt_X1_isKept : GoodIn wsX6_keptBoughtAt wsX1_isKept := goodIn_r _ [32, 33, 47, 48, 49, 50, 51, 52, 53, 54, 55] (by decide +kernel) (by decide +kernel)
set_option maxRecDepth 20000 in
theorem gX6_keptBoughtAt_X1_isKept : GoodIn wsX6_keptBoughtAt (wsV RX6 177 RX1 yX1_isKept wsX1_isKept) := goodIn_app (goodIn_of _ (by decide +kernel)) ggX6_keptBoughtAt_X1_isKept
set_option maxRecDepth 20000 in
theorem ggX6_keptBoughtAt_X6_oneIf : GoodIn wsX6_keptBoughtAt wsX6_oneIf := goodIn_r _ [37] (by decide +kernel) (by decide +kernel)
set_option maxRecDepth 20000 in
theorem gX6_keptBoughtAt_X6_oneIf : GoodIn wsX6_keptBoughtAt (va_wsS RX6 235 yX6_oneIf wsX6_oneIf) := goodIn_app (goodIn_of _ (by decide +kernel)) ggX6_keptBoughtAt_X6_oneIf
theorem dX6_keptBoughtAt_0 : decode cX6_keptBoughtAt 0 = .ok (.iconst 0, 1) := by decide +kernel
theorem dX6_keptBoughtAt_1 : decode cX6_keptBoughtAt 1 = .ok (.istore_n 2, 1) := by decide +kernel
theorem dX6_keptBoughtAt_2 : decode cX6_keptBoughtAt 2 = .ok (.iconst 0, 1) := by decide +kernel
theorem dX6_keptBoughtAt_3 : decode cX6_keptBoughtAt 3 = .ok (.istore_n 3, 1) := by decide +kernel
theorem dX6_keptBoughtAt_4 : decode cX6_keptBoughtAt 4 = .ok (.iload_n 3, 1) := by decide +kernel
theorem dX6_keptBoughtAt_5 : decode cX6_keptBoughtAt 5 = .ok (.aload_n 0, 1) := by decide +kernel
theorem dX6_keptBoughtAt_6 : decode cX6_keptBoughtAt 6 = .ok (.getfield 19, 3) := by decide +kernel
theorem dX6_keptBoughtAt_9 : decode cX6_keptBoughtAt 9 = .ok (.invokevirtual 47, 3) := by decide +kernel
theorem dX6_keptBoughtAt_12 : decode cX6_keptBoughtAt 12 = .ok (.if_icmp .ge 50, 3) := by decide +kernel
theorem dX6_keptBoughtAt_15 : decode cX6_keptBoughtAt 15 = .ok (.aload_n 0, 1) := by decide +kernel
theorem dX6_keptBoughtAt_16 : decode cX6_keptBoughtAt 16 = .ok (.getfield 19, 3) := by decide +kernel
theorem dX6_keptBoughtAt_19 : decode cX6_keptBoughtAt 19 = .ok (.iload_n 3, 1) := by decide +kernel
theorem dX6_keptBoughtAt_20 : decode cX6_keptBoughtAt 20 = .ok (.invokevirtual 122, 3) := by decide +kernel
theorem dX6_keptBoughtAt_23 : decode cX6_keptBoughtAt 23 = .ok (.checkcast 171, 3) := by decide +kernel
theorem dX6_keptBoughtAt_26 : decode cX6_keptBoughtAt 26 = .ok (.astore 4, 2) := by decide +kernel
theorem dX6_keptBoughtAt_28 : decode cX6_keptBoughtAt 28 = .ok (.iload_n 2, 1) := by decide +kernel
theorem dX6_keptBoughtAt_29 : decode cX6_keptBoughtAt 29 = .ok (.aload 4, 2) := by decide +kernel
theorem dX6_keptBoughtAt_31 : decode cX6_keptBoughtAt 31 = .ok (.invokevirtual 177, 3) := by decide +kernel
theorem dX6_keptBoughtAt_34 : decode cX6_keptBoughtAt 34 = .ok (.ifCond .eq 16, 3) := by decide +kernel
theorem dX6_keptBoughtAt_37 : decode cX6_keptBoughtAt 37 = .ok (.aload 4, 2) := by decide +kernel
theorem dX6_keptBoughtAt_39 : decode cX6_keptBoughtAt 39 = .ok (.getfield 291, 3) := by decide +kernel
theorem dX6_keptBoughtAt_42 : decode cX6_keptBoughtAt 42 = .ok (.iload_n 1, 1) := by decide +kernel
theorem dX6_keptBoughtAt_43 : decode cX6_keptBoughtAt 43 = .ok (.if_icmp .ne 7, 3) := by decide +kernel
theorem dX6_keptBoughtAt_46 : decode cX6_keptBoughtAt 46 = .ok (.iconst 1, 1) := by decide +kernel
theorem dX6_keptBoughtAt_47 : decode cX6_keptBoughtAt 47 = .ok (.goto 4, 3) := by decide +kernel
theorem dX6_keptBoughtAt_50 : decode cX6_keptBoughtAt 50 = .ok (.iconst 0, 1) := by decide +kernel
theorem dX6_keptBoughtAt_51 : decode cX6_keptBoughtAt 51 = .ok (.invokestatic 235, 3) := by decide +kernel
theorem dX6_keptBoughtAt_54 : decode cX6_keptBoughtAt 54 = .ok (.iadd, 1) := by decide +kernel
theorem dX6_keptBoughtAt_55 : decode cX6_keptBoughtAt 55 = .ok (.istore_n 2, 1) := by decide +kernel
theorem dX6_keptBoughtAt_56 : decode cX6_keptBoughtAt 56 = .ok (.iinc 3 1, 3) := by decide +kernel
theorem dX6_keptBoughtAt_59 : decode cX6_keptBoughtAt 59 = .ok (.goto (-55), 3) := by decide +kernel
theorem dX6_keptBoughtAt_62 : decode cX6_keptBoughtAt 62 = .ok (.iload_n 2, 1) := by decide +kernel
theorem dX6_keptBoughtAt_63 : decode cX6_keptBoughtAt 63 = .ok (.ireturn, 1) := by decide +kernel
set_option maxRecDepth 20000 in
theorem ggX6_keptSeenAt_Jx4a65c_size_8abf5 : GoodIn wsX6_keptSeenAt wsJx4a65c_size_8abf5 := goodIn_r _ [7, 8, 52, 53, 54] (by decide +kernel) (by decide +kernel)
set_option maxRecDepth 20000 in
theorem gX6_keptSeenAt_Jx4a65c_size_8abf5 : GoodIn wsX6_keptSeenAt (wsV RX6 47 RJx4a65c yJx4a65c_size_8abf5 wsJx4a65c_size_8abf5) := goodIn_app (goodIn_of _ (by decide +kernel)) ggX6_keptSeenAt_Jx4a65c_size_8abf5
set_option maxRecDepth 20000 in
theorem ggX6_keptSeenAt_Jx4a65c_get_915e3 : GoodIn wsX6_keptSeenAt wsJx4a65c_get_915e3 := goodIn_r _ [12, 8, 13, 14, 15, 16, 17, 18, 19, 20, 21, 22, 23, 6, 24, 25, 52, 53, 54] (by decide +kernel) (by decide +kernel)
set_option maxRecDepth 20000 in
theorem gX6_keptSeenAt_Jx4a65c_get_915e3 : GoodIn wsX6_keptSeenAt (wsV RX6 122 RJx4a65c yJx4a65c_get_915e3 wsJx4a65c_get_915e3) := goodIn_app (goodIn_of _ (by decide +kernel)) ggX6_keptSeenAt_Jx4a65c_get_915e3
set_option maxRecDepth 20000 in
theorem ggX6_keptSeenAt_X1_isKept : GoodIn wsX6_keptSeenAt wsX1_isKept := goodIn_r _ [30, 31, 55, 56, 57, 58, 59, 60, 61, 62, 63] (by decide +kernel) (by decide +kernel)
set_option maxRecDepth 20000 in
theorem gX6_keptSeenAt_X1_isKept : GoodIn wsX6_keptSeenAt (wsV RX6 177 RX1 yX1_isKept wsX1_isKept) := goodIn_app (goodIn_of _ (by decide +kernel)) ggX6_keptSeenAt_X1_isKept
set_option maxRecDepth 20000 in
theorem ggX6_keptSeenAt_X0_isSeenAt : GoodIn wsX6_keptSeenAt wsX0_isSeenAt := goodIn_r _ [37, 38, 55, 56, 57, 58, 59, 60, 61, 62, 63, 64, 65, 66, 67, 68, 69, 70, 71] (by decide +kernel) (by decide +kernel)
set_option maxRecDepth 20000 in
theorem gX6_keptSeenAt_X0_isSeenAt_u428X1 : GoodIn wsX6_keptSeenAt (va_wsU RX6 428 RX1 "Tureenlist$Deed" ⟨"Tureenlist$Gift", "isSeenAt", "(I)Z"⟩ yX0_isSeenAt wsX0_isSeenAt) := goodIn_app (goodIn_of _ (by decide +kernel)) ggX6_keptSeenAt_X0_isSeenAt
set_option maxRecDepth 20000 in
theorem ggX6_keptSeenAt_X6_oneIf : GoodIn wsX6_keptSeenAt wsX6_oneIf := goodIn_r _ [42] (by decide +kernel) (by decide +kernel)
set_option maxRecDepth 20000 in
theorem gX6_keptSeenAt_X6_oneIf : GoodIn wsX6_keptSeenAt (va_wsS RX6 235 yX6_oneIf wsX6_oneIf) := goodIn_app (goodIn_of _ (by decide +kernel)) ggX6_keptSeenAt_X6_oneIf
theorem dX6_keptSeenAt_0 : decode cX6_keptSeenAt 0 = .ok (.iconst 0, 1) := by decide +kernel
theorem dX6_keptSeenAt_1 : decode cX6_keptSeenAt 1 = .ok (.istore_n 2, 1) := by decide +kernel
theorem dX6_keptSeenAt_2 : decode cX6_keptSeenAt 2 = .ok (.iconst 0, 1) := by decide +kernel
theorem dX6_keptSeenAt_3 : decode cX6_keptSeenAt 3 = .ok (.istore_n 3, 1) := by decide +kernel
theorem dX6_keptSeenAt_4 : decode cX6_keptSeenAt 4 = .ok (.iload_n 3, 1) := by decide +kernel
theorem dX6_keptSeenAt_5 : decode cX6_keptSeenAt 5 = .ok (.aload_n 0, 1) := by decide +kernel
theorem dX6_keptSeenAt_6 : decode cX6_keptSeenAt 6 = .ok (.getfield 19, 3) := by decide +kernel
theorem dX6_keptSeenAt_9 : decode cX6_keptSeenAt 9 = .ok (.invokevirtual 47, 3) := by decide +kernel
theorem dX6_keptSeenAt_12 : decode cX6_keptSeenAt 12 = .ok (.if_icmp .ge 50, 3) := by decide +kernel
theorem dX6_keptSeenAt_15 : decode cX6_keptSeenAt 15 = .ok (.aload_n 0, 1) := by decide +kernel
theorem dX6_keptSeenAt_16 : decode cX6_keptSeenAt 16 = .ok (.getfield 19, 3) := by decide +kernel
theorem dX6_keptSeenAt_19 : decode cX6_keptSeenAt 19 = .ok (.iload_n 3, 1) := by decide +kernel
theorem dX6_keptSeenAt_20 : decode cX6_keptSeenAt 20 = .ok (.invokevirtual 122, 3) := by decide +kernel
theorem dX6_keptSeenAt_23 : decode cX6_keptSeenAt 23 = .ok (.checkcast 171, 3) := by decide +kernel
theorem dX6_keptSeenAt_26 : decode cX6_keptSeenAt 26 = .ok (.astore 4, 2) := by decide +kernel
theorem dX6_keptSeenAt_28 : decode cX6_keptSeenAt 28 = .ok (.iload_n 2, 1) := by decide +kernel
theorem dX6_keptSeenAt_29 : decode cX6_keptSeenAt 29 = .ok (.aload 4, 2) := by decide +kernel
theorem dX6_keptSeenAt_31 : decode cX6_keptSeenAt 31 = .ok (.invokevirtual 177, 3) := by decide +kernel
theorem dX6_keptSeenAt_34 : decode cX6_keptSeenAt 34 = .ok (.ifCond .eq 16, 3) := by decide +kernel
theorem dX6_keptSeenAt_37 : decode cX6_keptSeenAt 37 = .ok (.aload 4, 2) := by decide +kernel
theorem dX6_keptSeenAt_39 : decode cX6_keptSeenAt 39 = .ok (.iload_n 1, 1) := by decide +kernel
theorem dX6_keptSeenAt_40 : decode cX6_keptSeenAt 40 = .ok (.invokevirtual 428, 3) := by decide +kernel
theorem dX6_keptSeenAt_43 : decode cX6_keptSeenAt 43 = .ok (.ifCond .eq 7, 3) := by decide +kernel
theorem dX6_keptSeenAt_46 : decode cX6_keptSeenAt 46 = .ok (.iconst 1, 1) := by decide +kernel
theorem dX6_keptSeenAt_47 : decode cX6_keptSeenAt 47 = .ok (.goto 4, 3) := by decide +kernel
theorem dX6_keptSeenAt_50 : decode cX6_keptSeenAt 50 = .ok (.iconst 0, 1) := by decide +kernel
theorem dX6_keptSeenAt_51 : decode cX6_keptSeenAt 51 = .ok (.invokestatic 235, 3) := by decide +kernel
theorem dX6_keptSeenAt_54 : decode cX6_keptSeenAt 54 = .ok (.iadd, 1) := by decide +kernel
theorem dX6_keptSeenAt_55 : decode cX6_keptSeenAt 55 = .ok (.istore_n 2, 1) := by decide +kernel
theorem dX6_keptSeenAt_56 : decode cX6_keptSeenAt 56 = .ok (.iinc 3 1, 3) := by decide +kernel
theorem dX6_keptSeenAt_59 : decode cX6_keptSeenAt 59 = .ok (.goto (-55), 3) := by decide +kernel
theorem dX6_keptSeenAt_62 : decode cX6_keptSeenAt 62 = .ok (.iload_n 2, 1) := by decide +kernel
theorem dX6_keptSeenAt_63 : decode cX6_keptSeenAt 63 = .ok (.ireturn, 1) := by decide +kernel
set_option maxRecDepth 20000 in
theorem ggX6_holdsStanding_Jx4a65c_size_8abf5 : GoodIn wsX6_holdsStanding wsJx4a65c_size_8abf5 := goodIn_r _ [8, 9, 52, 53, 54] (by decide +kernel) (by decide +kernel)
set_option maxRecDepth 20000 in
theorem gX6_holdsStanding_Jx4a65c_size_8abf5 : GoodIn wsX6_holdsStanding (wsV RX6 47 RJx4a65c yJx4a65c_size_8abf5 wsJx4a65c_size_8abf5) := goodIn_app (goodIn_of _ (by decide +kernel)) ggX6_holdsStanding_Jx4a65c_size_8abf5
set_option maxRecDepth 20000 in
theorem ggX6_holdsStanding_Jx4a65c_get_915e3 : GoodIn wsX6_holdsStanding wsJx4a65c_get_915e3 := goodIn_r _ [13, 9, 14, 15, 16, 17, 18, 19, 20, 21, 22, 23, 24, 7, 25, 26, 52, 53, 54] (by decide +kernel) (by decide +kernel)
set_option maxRecDepth 20000 in
theorem gX6_holdsStanding_Jx4a65c_get_915e3 : GoodIn wsX6_holdsStanding (wsV RX6 122 RJx4a65c yJx4a65c_get_915e3 wsJx4a65c_get_915e3) := goodIn_app (goodIn_of _ (by decide +kernel)) ggX6_holdsStanding_Jx4a65c_get_915e3
set_option maxRecDepth 20000 in
theorem ggX6_holdsStanding_X3_standsAt : GoodIn wsX6_holdsStanding wsX3_standsAt := goodIn_r _ [31, 32, 33, 34, 35, 36, 37, 38, 55, 56, 57, 58, 59, 60, 61, 62, 63, 64, 65, 66, 67, 68, 69, 70, 71, 72, 73, 74, 75, 76, 77, 78] (by decide +kernel) (by decide +kernel)
set_option maxRecDepth 20000 in
theorem gX6_holdsStanding_X3_standsAt : GoodIn wsX6_holdsStanding (wsV RX6 435 RX3 yX3_standsAt wsX3_standsAt) := goodIn_app (goodIn_of _ (by decide +kernel)) ggX6_holdsStanding_X3_standsAt
set_option maxRecDepth 20000 in
theorem ggX6_holdsStanding_X6_oneIf : GoodIn wsX6_holdsStanding wsX6_oneIf := goodIn_r _ [42] (by decide +kernel) (by decide +kernel)
set_option maxRecDepth 20000 in
theorem gX6_holdsStanding_X6_oneIf : GoodIn wsX6_holdsStanding (va_wsS RX6 235 yX6_oneIf wsX6_oneIf) := goodIn_app (goodIn_of _ (by decide +kernel)) ggX6_holdsStanding_X6_oneIf
theorem dX6_holdsStanding_0 : decode cX6_holdsStanding 0 = .ok (.iconst 0, 1) := by decide +kernel
theorem dX6_holdsStanding_1 : decode cX6_holdsStanding 1 = .ok (.istore_n 1, 1) := by decide +kernel
theorem dX6_holdsStanding_2 : decode cX6_holdsStanding 2 = .ok (.iconst 0, 1) := by decide +kernel
theorem dX6_holdsStanding_3 : decode cX6_holdsStanding 3 = .ok (.istore_n 2, 1) := by decide +kernel
theorem dX6_holdsStanding_4 : decode cX6_holdsStanding 4 = .ok (.iload_n 2, 1) := by decide +kernel
theorem dX6_holdsStanding_5 : decode cX6_holdsStanding 5 = .ok (.aload_n 0, 1) := by decide +kernel
theorem dX6_holdsStanding_6 : decode cX6_holdsStanding 6 = .ok (.getfield 22, 3) := by decide +kernel
theorem dX6_holdsStanding_9 : decode cX6_holdsStanding 9 = .ok (.invokevirtual 47, 3) := by decide +kernel
theorem dX6_holdsStanding_12 : decode cX6_holdsStanding 12 = .ok (.if_icmp .ge 33, 3) := by decide +kernel
theorem dX6_holdsStanding_15 : decode cX6_holdsStanding 15 = .ok (.iload_n 1, 1) := by decide +kernel
theorem dX6_holdsStanding_16 : decode cX6_holdsStanding 16 = .ok (.aload_n 0, 1) := by decide +kernel
theorem dX6_holdsStanding_17 : decode cX6_holdsStanding 17 = .ok (.getfield 22, 3) := by decide +kernel
theorem dX6_holdsStanding_20 : decode cX6_holdsStanding 20 = .ok (.iload_n 2, 1) := by decide +kernel
theorem dX6_holdsStanding_21 : decode cX6_holdsStanding 21 = .ok (.invokevirtual 122, 3) := by decide +kernel
theorem dX6_holdsStanding_24 : decode cX6_holdsStanding 24 = .ok (.checkcast 143, 3) := by decide +kernel
theorem dX6_holdsStanding_27 : decode cX6_holdsStanding 27 = .ok (.aload_n 0, 1) := by decide +kernel
theorem dX6_holdsStanding_28 : decode cX6_holdsStanding 28 = .ok (.getfield 145, 3) := by decide +kernel
theorem dX6_holdsStanding_31 : decode cX6_holdsStanding 31 = .ok (.invokevirtual 435, 3) := by decide +kernel
theorem dX6_holdsStanding_34 : decode cX6_holdsStanding 34 = .ok (.invokestatic 235, 3) := by decide +kernel
theorem dX6_holdsStanding_37 : decode cX6_holdsStanding 37 = .ok (.iadd, 1) := by decide +kernel
theorem dX6_holdsStanding_38 : decode cX6_holdsStanding 38 = .ok (.istore_n 1, 1) := by decide +kernel
theorem dX6_holdsStanding_39 : decode cX6_holdsStanding 39 = .ok (.iinc 2 1, 3) := by decide +kernel
theorem dX6_holdsStanding_42 : decode cX6_holdsStanding 42 = .ok (.goto (-38), 3) := by decide +kernel
theorem dX6_holdsStanding_45 : decode cX6_holdsStanding 45 = .ok (.iload_n 1, 1) := by decide +kernel
theorem dX6_holdsStanding_46 : decode cX6_holdsStanding 46 = .ok (.ireturn, 1) := by decide +kernel
set_option maxRecDepth 20000 in
theorem ggX6_holdsStandingOf_Jx4a65c_size_8abf5 : GoodIn wsX6_holdsStandingOf wsJx4a65c_size_8abf5 := goodIn_r _ [10, 11, 71, 72, 73] (by decide +kernel) (by decide +kernel)
set_option maxRecDepth 20000 in
theorem gX6_holdsStandingOf_Jx4a65c_size_8abf5 : GoodIn wsX6_holdsStandingOf (wsV RX6 47 RJx4a65c yJx4a65c_size_8abf5 wsJx4a65c_size_8abf5) := goodIn_app (goodIn_of _ (by decide +kernel)) ggX6_holdsStandingOf_Jx4a65c_size_8abf5
set_option maxRecDepth 20000 in
theorem ggX6_holdsStandingOf_Jx4a65c_get_915e3 : GoodIn wsX6_holdsStandingOf wsJx4a65c_get_915e3 := goodIn_r _ [15, 11, 16, 17, 18, 19, 20, 21, 22, 23, 24, 25, 26, 9, 27, 28, 71, 72, 73] (by decide +kernel) (by decide +kernel)
set_option maxRecDepth 20000 in
theorem gX6_holdsStandingOf_Jx4a65c_get_915e3 : GoodIn wsX6_holdsStandingOf (wsV RX6 122 RJx4a65c yJx4a65c_get_915e3 wsJx4a65c_get_915e3) := goodIn_app (goodIn_of _ (by decide +kernel)) ggX6_holdsStandingOf_Jx4a65c_get_915e3
set_option maxRecDepth 20000 in
theorem ggX6_holdsStandingOf_X3_standsAt : GoodIn wsX6_holdsStandingOf wsX3_standsAt := goodIn_r _ [33, 34, 35, 36, 37, 38, 39, 40, 63, 64, 65, 66, 67, 68, 69, 70, 54, 55, 56, 57, 58, 59, 60, 61, 62, 74, 75, 76, 77, 78, 79, 80] (by decide +kernel) (by decide +kernel)
set_option maxRecDepth 20000 in
theorem gX6_holdsStandingOf_X3_standsAt : GoodIn wsX6_holdsStandingOf (wsV RX6 435 RX3 yX3_standsAt wsX3_standsAt) := goodIn_app (goodIn_of _ (by decide +kernel)) ggX6_holdsStandingOf_X3_standsAt
set_option maxRecDepth 20000 in
theorem ggX6_holdsStandingOf_X6_oneIf : GoodIn wsX6_holdsStandingOf wsX6_oneIf := goodIn_r _ [44] (by decide +kernel) (by decide +kernel)
set_option maxRecDepth 20000 in
theorem gX6_holdsStandingOf_X6_oneIf : GoodIn wsX6_holdsStandingOf (va_wsS RX6 235 yX6_oneIf wsX6_oneIf) := goodIn_app (goodIn_of _ (by decide +kernel)) ggX6_holdsStandingOf_X6_oneIf
theorem dX6_holdsStandingOf_0 : decode cX6_holdsStandingOf 0 = .ok (.iconst 0, 1) := by decide +kernel
theorem dX6_holdsStandingOf_1 : decode cX6_holdsStandingOf 1 = .ok (.istore_n 2, 1) := by decide +kernel
theorem dX6_holdsStandingOf_2 : decode cX6_holdsStandingOf 2 = .ok (.iconst 0, 1) := by decide +kernel
theorem dX6_holdsStandingOf_3 : decode cX6_holdsStandingOf 3 = .ok (.istore_n 3, 1) := by decide +kernel
theorem dX6_holdsStandingOf_4 : decode cX6_holdsStandingOf 4 = .ok (.iload_n 3, 1) := by decide +kernel
theorem dX6_holdsStandingOf_5 : decode cX6_holdsStandingOf 5 = .ok (.aload_n 0, 1) := by decide +kernel
theorem dX6_holdsStandingOf_6 : decode cX6_holdsStandingOf 6 = .ok (.getfield 22, 3) := by decide +kernel
theorem dX6_holdsStandingOf_9 : decode cX6_holdsStandingOf 9 = .ok (.invokevirtual 47, 3) := by decide +kernel
theorem dX6_holdsStandingOf_12 : decode cX6_holdsStandingOf 12 = .ok (.if_icmp .ge 54, 3) := by decide +kernel
theorem dX6_holdsStandingOf_15 : decode cX6_holdsStandingOf 15 = .ok (.aload_n 0, 1) := by decide +kernel
theorem dX6_holdsStandingOf_16 : decode cX6_holdsStandingOf 16 = .ok (.getfield 22, 3) := by decide +kernel
theorem dX6_holdsStandingOf_19 : decode cX6_holdsStandingOf 19 = .ok (.iload_n 3, 1) := by decide +kernel
theorem dX6_holdsStandingOf_20 : decode cX6_holdsStandingOf 20 = .ok (.invokevirtual 122, 3) := by decide +kernel
theorem dX6_holdsStandingOf_23 : decode cX6_holdsStandingOf 23 = .ok (.checkcast 143, 3) := by decide +kernel
theorem dX6_holdsStandingOf_26 : decode cX6_holdsStandingOf 26 = .ok (.astore 4, 2) := by decide +kernel
theorem dX6_holdsStandingOf_28 : decode cX6_holdsStandingOf 28 = .ok (.iload_n 2, 1) := by decide +kernel
theorem dX6_holdsStandingOf_29 : decode cX6_holdsStandingOf 29 = .ok (.aload 4, 2) := by decide +kernel
theorem dX6_holdsStandingOf_31 : decode cX6_holdsStandingOf 31 = .ok (.getfield 448, 3) := by decide +kernel
theorem dX6_holdsStandingOf_34 : decode cX6_holdsStandingOf 34 = .ok (.aload_n 1, 1) := by decide +kernel
theorem dX6_holdsStandingOf_35 : decode cX6_holdsStandingOf 35 = .ok (.if_acmp .ne 19, 3) := by decide +kernel
theorem dX6_holdsStandingOf_38 : decode cX6_holdsStandingOf 38 = .ok (.aload 4, 2) := by decide +kernel
theorem dX6_holdsStandingOf_40 : decode cX6_holdsStandingOf 40 = .ok (.aload_n 0, 1) := by decide +kernel
theorem dX6_holdsStandingOf_41 : decode cX6_holdsStandingOf 41 = .ok (.getfield 145, 3) := by decide +kernel
theorem dX6_holdsStandingOf_44 : decode cX6_holdsStandingOf 44 = .ok (.invokevirtual 435, 3) := by decide +kernel
theorem dX6_holdsStandingOf_47 : decode cX6_holdsStandingOf 47 = .ok (.ifCond .eq 7, 3) := by decide +kernel
theorem dX6_holdsStandingOf_50 : decode cX6_holdsStandingOf 50 = .ok (.iconst 1, 1) := by decide +kernel
theorem dX6_holdsStandingOf_51 : decode cX6_holdsStandingOf 51 = .ok (.goto 4, 3) := by decide +kernel
theorem dX6_holdsStandingOf_54 : decode cX6_holdsStandingOf 54 = .ok (.iconst 0, 1) := by decide +kernel
theorem dX6_holdsStandingOf_55 : decode cX6_holdsStandingOf 55 = .ok (.invokestatic 235, 3) := by decide +kernel
theorem dX6_holdsStandingOf_58 : decode cX6_holdsStandingOf 58 = .ok (.iadd, 1) := by decide +kernel
theorem dX6_holdsStandingOf_59 : decode cX6_holdsStandingOf 59 = .ok (.istore_n 2, 1) := by decide +kernel
theorem dX6_holdsStandingOf_60 : decode cX6_holdsStandingOf 60 = .ok (.iinc 3 1, 3) := by decide +kernel
theorem dX6_holdsStandingOf_63 : decode cX6_holdsStandingOf 63 = .ok (.goto (-59), 3) := by decide +kernel
theorem dX6_holdsStandingOf_66 : decode cX6_holdsStandingOf 66 = .ok (.iload_n 2, 1) := by decide +kernel
theorem dX6_holdsStandingOf_67 : decode cX6_holdsStandingOf 67 = .ok (.ireturn, 1) := by decide +kernel
set_option maxRecDepth 20000 in
theorem ggX6_holdsStandingSeenAt_Jx4a65c_size_8abf5 : GoodIn wsX6_holdsStandingSeenAt wsJx4a65c_size_8abf5 := goodIn_r _ [8, 9, 59, 60, 61] (by decide +kernel) (by decide +kernel)
set_option maxRecDepth 20000 in
theorem gX6_holdsStandingSeenAt_Jx4a65c_size_8abf5 : GoodIn wsX6_holdsStandingSeenAt (wsV RX6 47 RJx4a65c yJx4a65c_size_8abf5 wsJx4a65c_size_8abf5) := goodIn_app (goodIn_of _ (by decide +kernel)) ggX6_holdsStandingSeenAt_Jx4a65c_size_8abf5
set_option maxRecDepth 20000 in
theorem ggX6_holdsStandingSeenAt_Jx4a65c_get_915e3 : GoodIn wsX6_holdsStandingSeenAt wsJx4a65c_get_915e3 := goodIn_r _ [13, 9, 14, 15, 16, 17, 18, 19, 20, 21, 22, 23, 24, 7, 25, 26, 59, 60, 61] (by decide +kernel) (by decide +kernel)
set_option maxRecDepth 20000 in
theorem gX6_holdsStandingSeenAt_Jx4a65c_get_915e3 : GoodIn wsX6_holdsStandingSeenAt (wsV RX6 122 RJx4a65c yJx4a65c_get_915e3 wsJx4a65c_get_915e3) := goodIn_app (goodIn_of _ (by decide +kernel)) ggX6_holdsStandingSeenAt_Jx4a65c_get_915e3
set_option maxRecDepth 20000 in
theorem ggX6_holdsStandingSeenAt_X3_standsAt : GoodIn wsX6_holdsStandingSeenAt wsX3_standsAt := goodIn_r _ [31, 32, 33, 34, 35, 36, 37, 38, 62, 63, 64, 65, 66, 67, 68, 69, 70, 71, 72, 73, 74, 75, 76, 77, 78, 79, 80, 81, 82, 83, 84, 85] (by decide +kernel) (by decide +kernel)
set_option maxRecDepth 20000 in
theorem gX6_holdsStandingSeenAt_X3_standsAt : GoodIn wsX6_holdsStandingSeenAt (wsV RX6 435 RX3 yX3_standsAt wsX3_standsAt) := goodIn_app (goodIn_of _ (by decide +kernel)) ggX6_holdsStandingSeenAt_X3_standsAt
set_option maxRecDepth 20000 in
theorem ggX6_holdsStandingSeenAt_X0_isSeenAt : GoodIn wsX6_holdsStandingSeenAt wsX0_isSeenAt := goodIn_r _ [44, 45, 70, 71, 72, 73, 74, 75, 76, 77, 78, 62, 63, 64, 65, 66, 67, 68, 69] (by decide +kernel) (by decide +kernel)
set_option maxRecDepth 20000 in
theorem gX6_holdsStandingSeenAt_X0_isSeenAt_u438X3 : GoodIn wsX6_holdsStandingSeenAt (va_wsU RX6 438 RX3 "Tureenlist$Deed" ⟨"Tureenlist$Hold", "isSeenAt", "(I)Z"⟩ yX0_isSeenAt wsX0_isSeenAt) := goodIn_app (goodIn_of _ (by decide +kernel)) ggX6_holdsStandingSeenAt_X0_isSeenAt
set_option maxRecDepth 20000 in
theorem ggX6_holdsStandingSeenAt_X6_oneIf : GoodIn wsX6_holdsStandingSeenAt wsX6_oneIf := goodIn_r _ [49] (by decide +kernel) (by decide +kernel)
set_option maxRecDepth 20000 in
theorem gX6_holdsStandingSeenAt_X6_oneIf : GoodIn wsX6_holdsStandingSeenAt (va_wsS RX6 235 yX6_oneIf wsX6_oneIf) := goodIn_app (goodIn_of _ (by decide +kernel)) ggX6_holdsStandingSeenAt_X6_oneIf
theorem dX6_holdsStandingSeenAt_0 : decode cX6_holdsStandingSeenAt 0 = .ok (.iconst 0, 1) := by decide +kernel
theorem dX6_holdsStandingSeenAt_1 : decode cX6_holdsStandingSeenAt 1 = .ok (.istore_n 2, 1) := by decide +kernel
theorem dX6_holdsStandingSeenAt_2 : decode cX6_holdsStandingSeenAt 2 = .ok (.iconst 0, 1) := by decide +kernel
theorem dX6_holdsStandingSeenAt_3 : decode cX6_holdsStandingSeenAt 3 = .ok (.istore_n 3, 1) := by decide +kernel
theorem dX6_holdsStandingSeenAt_4 : decode cX6_holdsStandingSeenAt 4 = .ok (.iload_n 3, 1) := by decide +kernel
theorem dX6_holdsStandingSeenAt_5 : decode cX6_holdsStandingSeenAt 5 = .ok (.aload_n 0, 1) := by decide +kernel
theorem dX6_holdsStandingSeenAt_6 : decode cX6_holdsStandingSeenAt 6 = .ok (.getfield 22, 3) := by decide +kernel
theorem dX6_holdsStandingSeenAt_9 : decode cX6_holdsStandingSeenAt 9 = .ok (.invokevirtual 47, 3) := by decide +kernel
theorem dX6_holdsStandingSeenAt_12 : decode cX6_holdsStandingSeenAt 12 = .ok (.if_icmp .ge 54, 3) := by decide +kernel
theorem dX6_holdsStandingSeenAt_15 : decode cX6_holdsStandingSeenAt 15 = .ok (.aload_n 0, 1) := by decide +kernel
theorem dX6_holdsStandingSeenAt_16 : decode cX6_holdsStandingSeenAt 16 = .ok (.getfield 22, 3) := by decide +kernel
theorem dX6_holdsStandingSeenAt_19 : decode cX6_holdsStandingSeenAt 19 = .ok (.iload_n 3, 1) := by decide +kernel
theorem dX6_holdsStandingSeenAt_20 : decode cX6_holdsStandingSeenAt 20 = .ok (.invokevirtual 122, 3) := by decide +kernel
theorem dX6_holdsStandingSeenAt_23 : decode cX6_holdsStandingSeenAt 23 = .ok (.checkcast 143, 3) := by decide +kernel
theorem dX6_holdsStandingSeenAt_26 : decode cX6_holdsStandingSeenAt 26 = .ok (.astore 4, 2) := by decide +kernel
theorem dX6_holdsStandingSeenAt_28 : decode cX6_holdsStandingSeenAt 28 = .ok (.iload_n 2, 1) := by decide +kernel
theorem dX6_holdsStandingSeenAt_29 : decode cX6_holdsStandingSeenAt 29 = .ok (.aload 4, 2) := by decide +kernel
theorem dX6_holdsStandingSeenAt_31 : decode cX6_holdsStandingSeenAt 31 = .ok (.aload_n 0, 1) := by decide +kernel
theorem dX6_holdsStandingSeenAt_32 : decode cX6_holdsStandingSeenAt 32 = .ok (.getfield 145, 3) := by decide +kernel
theorem dX6_holdsStandingSeenAt_35 : decode cX6_holdsStandingSeenAt 35 = .ok (.invokevirtual 435, 3) := by decide +kernel
theorem dX6_holdsStandingSeenAt_38 : decode cX6_holdsStandingSeenAt 38 = .ok (.ifCond .eq 16, 3) := by decide +kernel
theorem dX6_holdsStandingSeenAt_41 : decode cX6_holdsStandingSeenAt 41 = .ok (.aload 4, 2) := by decide +kernel
theorem dX6_holdsStandingSeenAt_43 : decode cX6_holdsStandingSeenAt 43 = .ok (.iload_n 1, 1) := by decide +kernel
theorem dX6_holdsStandingSeenAt_44 : decode cX6_holdsStandingSeenAt 44 = .ok (.invokevirtual 438, 3) := by decide +kernel
theorem dX6_holdsStandingSeenAt_47 : decode cX6_holdsStandingSeenAt 47 = .ok (.ifCond .eq 7, 3) := by decide +kernel
theorem dX6_holdsStandingSeenAt_50 : decode cX6_holdsStandingSeenAt 50 = .ok (.iconst 1, 1) := by decide +kernel
theorem dX6_holdsStandingSeenAt_51 : decode cX6_holdsStandingSeenAt 51 = .ok (.goto 4, 3) := by decide +kernel
theorem dX6_holdsStandingSeenAt_54 : decode cX6_holdsStandingSeenAt 54 = .ok (.iconst 0, 1) := by decide +kernel
theorem dX6_holdsStandingSeenAt_55 : decode cX6_holdsStandingSeenAt 55 = .ok (.invokestatic 235, 3) := by decide +kernel
theorem dX6_holdsStandingSeenAt_58 : decode cX6_holdsStandingSeenAt 58 = .ok (.iadd, 1) := by decide +kernel
theorem dX6_holdsStandingSeenAt_59 : decode cX6_holdsStandingSeenAt 59 = .ok (.istore_n 2, 1) := by decide +kernel
theorem dX6_holdsStandingSeenAt_60 : decode cX6_holdsStandingSeenAt 60 = .ok (.iinc 3 1, 3) := by decide +kernel
theorem dX6_holdsStandingSeenAt_63 : decode cX6_holdsStandingSeenAt 63 = .ok (.goto (-59), 3) := by decide +kernel
theorem dX6_holdsStandingSeenAt_66 : decode cX6_holdsStandingSeenAt 66 = .ok (.iload_n 2, 1) := by decide +kernel
theorem dX6_holdsStandingSeenAt_67 : decode cX6_holdsStandingSeenAt 67 = .ok (.ireturn, 1) := by decide +kernel
set_option maxRecDepth 20000 in
theorem ggX6_paidForKeptBy_Jx4a65c_size_8abf5 : GoodIn wsX6_paidForKeptBy wsJx4a65c_size_8abf5 := goodIn_r _ [10, 11, 61, 62, 63] (by decide +kernel) (by decide +kernel)
set_option maxRecDepth 20000 in
theorem gX6_paidForKeptBy_Jx4a65c_size_8abf5 : GoodIn wsX6_paidForKeptBy (wsV RX6 47 RJx4a65c yJx4a65c_size_8abf5 wsJx4a65c_size_8abf5) := goodIn_app (goodIn_of _ (by decide +kernel)) ggX6_paidForKeptBy_Jx4a65c_size_8abf5
set_option maxRecDepth 20000 in
theorem ggX6_paidForKeptBy_Jx4a65c_get_915e3 : GoodIn wsX6_paidForKeptBy wsJx4a65c_get_915e3 := goodIn_r _ [15, 11, 16, 17, 18, 19, 20, 21, 22, 23, 24, 25, 26, 9, 27, 28, 61, 62, 63] (by decide +kernel) (by decide +kernel)
set_option maxRecDepth 20000 in
theorem gX6_paidForKeptBy_Jx4a65c_get_915e3 : GoodIn wsX6_paidForKeptBy (wsV RX6 122 RJx4a65c yJx4a65c_get_915e3 wsJx4a65c_get_915e3) := goodIn_app (goodIn_of _ (by decide +kernel)) ggX6_paidForKeptBy_Jx4a65c_get_915e3
set_option maxRecDepth 20000 in
theorem ggX6_paidForKeptBy_X1_isKept : GoodIn wsX6_paidForKeptBy wsX1_isKept := goodIn_r _ [33, 34, 44, 45, 46, 47, 48, 49, 50, 51, 52] (by decide +kernel) (by decide +kernel)
set_option maxRecDepth 20000 in
theorem gX6_paidForKeptBy_X1_isKept : GoodIn wsX6_paidForKeptBy (wsV RX6 177 RX1 yX1_isKept wsX1_isKept) := goodIn_app (goodIn_of _ (by decide +kernel)) ggX6_paidForKeptBy_X1_isKept
theorem dX6_paidForKeptBy_0 : decode cX6_paidForKeptBy 0 = .ok (.iconst 0, 1) := by decide +kernel
theorem dX6_paidForKeptBy_1 : decode cX6_paidForKeptBy 1 = .ok (.istore_n 2, 1) := by decide +kernel
theorem dX6_paidForKeptBy_2 : decode cX6_paidForKeptBy 2 = .ok (.iconst 0, 1) := by decide +kernel
theorem dX6_paidForKeptBy_3 : decode cX6_paidForKeptBy 3 = .ok (.istore_n 3, 1) := by decide +kernel
theorem dX6_paidForKeptBy_4 : decode cX6_paidForKeptBy 4 = .ok (.iload_n 3, 1) := by decide +kernel
theorem dX6_paidForKeptBy_5 : decode cX6_paidForKeptBy 5 = .ok (.aload_n 0, 1) := by decide +kernel
theorem dX6_paidForKeptBy_6 : decode cX6_paidForKeptBy 6 = .ok (.getfield 19, 3) := by decide +kernel
theorem dX6_paidForKeptBy_9 : decode cX6_paidForKeptBy 9 = .ok (.invokevirtual 47, 3) := by decide +kernel
theorem dX6_paidForKeptBy_12 : decode cX6_paidForKeptBy 12 = .ok (.if_icmp .ge 47, 3) := by decide +kernel
theorem dX6_paidForKeptBy_15 : decode cX6_paidForKeptBy 15 = .ok (.aload_n 0, 1) := by decide +kernel
theorem dX6_paidForKeptBy_16 : decode cX6_paidForKeptBy 16 = .ok (.getfield 19, 3) := by decide +kernel
theorem dX6_paidForKeptBy_19 : decode cX6_paidForKeptBy 19 = .ok (.iload_n 3, 1) := by decide +kernel
theorem dX6_paidForKeptBy_20 : decode cX6_paidForKeptBy 20 = .ok (.invokevirtual 122, 3) := by decide +kernel
theorem dX6_paidForKeptBy_23 : decode cX6_paidForKeptBy 23 = .ok (.checkcast 171, 3) := by decide +kernel
theorem dX6_paidForKeptBy_26 : decode cX6_paidForKeptBy 26 = .ok (.astore 4, 2) := by decide +kernel
theorem dX6_paidForKeptBy_28 : decode cX6_paidForKeptBy 28 = .ok (.aload 4, 2) := by decide +kernel
theorem dX6_paidForKeptBy_30 : decode cX6_paidForKeptBy 30 = .ok (.invokevirtual 177, 3) := by decide +kernel
theorem dX6_paidForKeptBy_33 : decode cX6_paidForKeptBy 33 = .ok (.ifCond .eq 20, 3) := by decide +kernel
theorem dX6_paidForKeptBy_36 : decode cX6_paidForKeptBy 36 = .ok (.aload 4, 2) := by decide +kernel
theorem dX6_paidForKeptBy_38 : decode cX6_paidForKeptBy 38 = .ok (.getfield 181, 3) := by decide +kernel
theorem dX6_paidForKeptBy_41 : decode cX6_paidForKeptBy 41 = .ok (.aload_n 1, 1) := by decide +kernel
theorem dX6_paidForKeptBy_42 : decode cX6_paidForKeptBy 42 = .ok (.if_acmp .ne 11, 3) := by decide +kernel
theorem dX6_paidForKeptBy_45 : decode cX6_paidForKeptBy 45 = .ok (.iload_n 2, 1) := by decide +kernel
theorem dX6_paidForKeptBy_46 : decode cX6_paidForKeptBy 46 = .ok (.aload 4, 2) := by decide +kernel
theorem dX6_paidForKeptBy_48 : decode cX6_paidForKeptBy 48 = .ok (.getfield 294, 3) := by decide +kernel
theorem dX6_paidForKeptBy_51 : decode cX6_paidForKeptBy 51 = .ok (.iadd, 1) := by decide +kernel
theorem dX6_paidForKeptBy_52 : decode cX6_paidForKeptBy 52 = .ok (.istore_n 2, 1) := by decide +kernel
theorem dX6_paidForKeptBy_53 : decode cX6_paidForKeptBy 53 = .ok (.iinc 3 1, 3) := by decide +kernel
theorem dX6_paidForKeptBy_56 : decode cX6_paidForKeptBy 56 = .ok (.goto (-52), 3) := by decide +kernel
theorem dX6_paidForKeptBy_59 : decode cX6_paidForKeptBy 59 = .ok (.iload_n 2, 1) := by decide +kernel
theorem dX6_paidForKeptBy_60 : decode cX6_paidForKeptBy 60 = .ok (.ireturn, 1) := by decide +kernel
set_option maxRecDepth 20000 in
theorem ggX6_paidForKept_Jx4a65c_size_8abf5 : GoodIn wsX6_paidForKept wsJx4a65c_size_8abf5 := goodIn_r _ [7, 8, 51, 52, 53] (by decide +kernel) (by decide +kernel)
set_option maxRecDepth 20000 in
theorem gX6_paidForKept_Jx4a65c_size_8abf5 : GoodIn wsX6_paidForKept (wsV RX6 47 RJx4a65c yJx4a65c_size_8abf5 wsJx4a65c_size_8abf5) := goodIn_app (goodIn_of _ (by decide +kernel)) ggX6_paidForKept_Jx4a65c_size_8abf5
set_option maxRecDepth 20000 in
theorem ggX6_paidForKept_Jx4a65c_get_915e3 : GoodIn wsX6_paidForKept wsJx4a65c_get_915e3 := goodIn_r _ [12, 8, 13, 14, 15, 16, 17, 18, 19, 20, 21, 22, 23, 6, 24, 25, 51, 52, 53] (by decide +kernel) (by decide +kernel)
set_option maxRecDepth 20000 in
theorem gX6_paidForKept_Jx4a65c_get_915e3 : GoodIn wsX6_paidForKept (wsV RX6 122 RJx4a65c yJx4a65c_get_915e3 wsJx4a65c_get_915e3) := goodIn_app (goodIn_of _ (by decide +kernel)) ggX6_paidForKept_Jx4a65c_get_915e3
set_option maxRecDepth 20000 in
theorem ggX6_paidForKept_X6_paidForKeptBy : GoodIn wsX6_paidForKept wsX6_paidForKeptBy := goodIn_r _ [30, 31, 32, 33, 34, 35, 3, 4, 5, 6, 7, 8, 9, 10, 11, 12, 13, 14, 15, 16, 17, 18, 19, 20, 21, 22, 23, 24, 25, 36, 37, 38, 39, 40, 41, 42, 43, 44, 45, 46, 47, 48, 49, 50, 54, 55, 56, 57, 58, 59, 60, 61, 62, 63, 64, 65, 66, 67, 68, 69, 70, 51, 52, 53] (by decide +kernel) (by decide +kernel)
set_option maxRecDepth 20000 in
theorem gX6_paidForKept_X6_paidForKeptBy : GoodIn wsX6_paidForKept (wsV RX6 251 RX6 yX6_paidForKeptBy wsX6_paidForKeptBy) := goodIn_app (goodIn_of _ (by decide +kernel)) ggX6_paidForKept_X6_paidForKeptBy
theorem dX6_paidForKept_0 : decode cX6_paidForKept 0 = .ok (.iconst 0, 1) := by decide +kernel
theorem dX6_paidForKept_1 : decode cX6_paidForKept 1 = .ok (.istore_n 1, 1) := by decide +kernel
theorem dX6_paidForKept_2 : decode cX6_paidForKept 2 = .ok (.iconst 0, 1) := by decide +kernel
theorem dX6_paidForKept_3 : decode cX6_paidForKept 3 = .ok (.istore_n 2, 1) := by decide +kernel
theorem dX6_paidForKept_4 : decode cX6_paidForKept 4 = .ok (.iload_n 2, 1) := by decide +kernel
theorem dX6_paidForKept_5 : decode cX6_paidForKept 5 = .ok (.aload_n 0, 1) := by decide +kernel
theorem dX6_paidForKept_6 : decode cX6_paidForKept 6 = .ok (.getfield 16, 3) := by decide +kernel
theorem dX6_paidForKept_9 : decode cX6_paidForKept 9 = .ok (.invokevirtual 47, 3) := by decide +kernel
theorem dX6_paidForKept_12 : decode cX6_paidForKept 12 = .ok (.if_icmp .ge 27, 3) := by decide +kernel
theorem dX6_paidForKept_15 : decode cX6_paidForKept 15 = .ok (.iload_n 1, 1) := by decide +kernel
theorem dX6_paidForKept_16 : decode cX6_paidForKept 16 = .ok (.aload_n 0, 1) := by decide +kernel
theorem dX6_paidForKept_17 : decode cX6_paidForKept 17 = .ok (.aload_n 0, 1) := by decide +kernel
theorem dX6_paidForKept_18 : decode cX6_paidForKept 18 = .ok (.getfield 16, 3) := by decide +kernel
theorem dX6_paidForKept_21 : decode cX6_paidForKept 21 = .ok (.iload_n 2, 1) := by decide +kernel
theorem dX6_paidForKept_22 : decode cX6_paidForKept 22 = .ok (.invokevirtual 122, 3) := by decide +kernel
theorem dX6_paidForKept_25 : decode cX6_paidForKept 25 = .ok (.checkcast 69, 3) := by decide +kernel
theorem dX6_paidForKept_28 : decode cX6_paidForKept 28 = .ok (.invokevirtual 251, 3) := by decide +kernel
theorem dX6_paidForKept_31 : decode cX6_paidForKept 31 = .ok (.iadd, 1) := by decide +kernel
theorem dX6_paidForKept_32 : decode cX6_paidForKept 32 = .ok (.istore_n 1, 1) := by decide +kernel
theorem dX6_paidForKept_33 : decode cX6_paidForKept 33 = .ok (.iinc 2 1, 3) := by decide +kernel
theorem dX6_paidForKept_36 : decode cX6_paidForKept 36 = .ok (.goto (-32), 3) := by decide +kernel
theorem dX6_paidForKept_39 : decode cX6_paidForKept 39 = .ok (.iload_n 1, 1) := by decide +kernel
theorem dX6_paidForKept_40 : decode cX6_paidForKept 40 = .ok (.ireturn, 1) := by decide +kernel
set_option maxRecDepth 20000 in
theorem ggX6_pledgedBy_Jx4a65c_size_8abf5 : GoodIn wsX6_pledgedBy wsJx4a65c_size_8abf5 := goodIn_r _ [7, 8, 46, 47, 48] (by decide +kernel) (by decide +kernel)
set_option maxRecDepth 20000 in
theorem gX6_pledgedBy_Jx4a65c_size_8abf5 : GoodIn wsX6_pledgedBy (wsV RX6 47 RJx4a65c yJx4a65c_size_8abf5 wsJx4a65c_size_8abf5) := goodIn_app (goodIn_of _ (by decide +kernel)) ggX6_pledgedBy_Jx4a65c_size_8abf5
set_option maxRecDepth 20000 in
theorem ggX6_pledgedBy_Jx4a65c_get_915e3 : GoodIn wsX6_pledgedBy wsJx4a65c_get_915e3 := goodIn_r _ [12, 8, 13, 14, 15, 16, 17, 18, 19, 20, 21, 22, 23, 6, 24, 25, 46, 47, 48] (by decide +kernel) (by decide +kernel)
set_option maxRecDepth 20000 in
theorem gX6_pledgedBy_Jx4a65c_get_915e3 : GoodIn wsX6_pledgedBy (wsV RX6 122 RJx4a65c yJx4a65c_get_915e3 wsJx4a65c_get_915e3) := goodIn_app (goodIn_of _ (by decide +kernel)) ggX6_pledgedBy_Jx4a65c_get_915e3
set_option maxRecDepth 20000 in
theorem ggX6_pledgedBy_X5_pledgedBy : GoodIn wsX6_pledgedBy wsX5_pledgedBy := goodIn_r _ [30, 31, 32, 33, 34, 35, 4, 5, 6, 7, 8, 36, 10, 11, 12, 13, 14, 15, 16, 17, 18, 19, 20, 21, 22, 23, 24, 25, 49, 50, 51, 52, 53, 54, 55, 56, 57, 46, 47, 48] (by decide +kernel) (by decide +kernel)
set_option maxRecDepth 20000 in
theorem gX6_pledgedBy_X5_pledgedBy : GoodIn wsX6_pledgedBy (wsV RX6 324 RX5 yX5_pledgedBy wsX5_pledgedBy) := goodIn_app (goodIn_of _ (by decide +kernel)) ggX6_pledgedBy_X5_pledgedBy
theorem dX6_pledgedBy_0 : decode cX6_pledgedBy 0 = .ok (.iconst 0, 1) := by decide +kernel
theorem dX6_pledgedBy_1 : decode cX6_pledgedBy 1 = .ok (.istore_n 2, 1) := by decide +kernel
theorem dX6_pledgedBy_2 : decode cX6_pledgedBy 2 = .ok (.iconst 0, 1) := by decide +kernel
theorem dX6_pledgedBy_3 : decode cX6_pledgedBy 3 = .ok (.istore_n 3, 1) := by decide +kernel
theorem dX6_pledgedBy_4 : decode cX6_pledgedBy 4 = .ok (.iload_n 3, 1) := by decide +kernel
theorem dX6_pledgedBy_5 : decode cX6_pledgedBy 5 = .ok (.aload_n 0, 1) := by decide +kernel
theorem dX6_pledgedBy_6 : decode cX6_pledgedBy 6 = .ok (.getfield 12, 3) := by decide +kernel
theorem dX6_pledgedBy_9 : decode cX6_pledgedBy 9 = .ok (.invokevirtual 47, 3) := by decide +kernel
theorem dX6_pledgedBy_12 : decode cX6_pledgedBy 12 = .ok (.if_icmp .ge 27, 3) := by decide +kernel
theorem dX6_pledgedBy_15 : decode cX6_pledgedBy 15 = .ok (.iload_n 2, 1) := by decide +kernel
theorem dX6_pledgedBy_16 : decode cX6_pledgedBy 16 = .ok (.aload_n 0, 1) := by decide +kernel
theorem dX6_pledgedBy_17 : decode cX6_pledgedBy 17 = .ok (.getfield 12, 3) := by decide +kernel
theorem dX6_pledgedBy_20 : decode cX6_pledgedBy 20 = .ok (.iload_n 3, 1) := by decide +kernel
theorem dX6_pledgedBy_21 : decode cX6_pledgedBy 21 = .ok (.invokevirtual 122, 3) := by decide +kernel
theorem dX6_pledgedBy_24 : decode cX6_pledgedBy 24 = .ok (.checkcast 56, 3) := by decide +kernel
theorem dX6_pledgedBy_27 : decode cX6_pledgedBy 27 = .ok (.aload_n 1, 1) := by decide +kernel
theorem dX6_pledgedBy_28 : decode cX6_pledgedBy 28 = .ok (.invokevirtual 324, 3) := by decide +kernel
theorem dX6_pledgedBy_31 : decode cX6_pledgedBy 31 = .ok (.iadd, 1) := by decide +kernel
theorem dX6_pledgedBy_32 : decode cX6_pledgedBy 32 = .ok (.istore_n 2, 1) := by decide +kernel
theorem dX6_pledgedBy_33 : decode cX6_pledgedBy 33 = .ok (.iinc 3 1, 3) := by decide +kernel
theorem dX6_pledgedBy_36 : decode cX6_pledgedBy 36 = .ok (.goto (-32), 3) := by decide +kernel
theorem dX6_pledgedBy_39 : decode cX6_pledgedBy 39 = .ok (.iload_n 2, 1) := by decide +kernel
theorem dX6_pledgedBy_40 : decode cX6_pledgedBy 40 = .ok (.ireturn, 1) := by decide +kernel
set_option maxRecDepth 20000 in
theorem ggX6_pledgedNow_Jx4a65c_size_8abf5 : GoodIn wsX6_pledgedNow wsJx4a65c_size_8abf5 := goodIn_r _ [7, 8, 45, 46, 47] (by decide +kernel) (by decide +kernel)
set_option maxRecDepth 20000 in
theorem gX6_pledgedNow_Jx4a65c_size_8abf5 : GoodIn wsX6_pledgedNow (wsV RX6 47 RJx4a65c yJx4a65c_size_8abf5 wsJx4a65c_size_8abf5) := goodIn_app (goodIn_of _ (by decide +kernel)) ggX6_pledgedNow_Jx4a65c_size_8abf5
set_option maxRecDepth 20000 in
theorem ggX6_pledgedNow_Jx4a65c_get_915e3 : GoodIn wsX6_pledgedNow wsJx4a65c_get_915e3 := goodIn_r _ [12, 8, 13, 14, 15, 16, 17, 18, 19, 20, 21, 22, 23, 6, 24, 25, 45, 46, 47] (by decide +kernel) (by decide +kernel)
set_option maxRecDepth 20000 in
theorem gX6_pledgedNow_Jx4a65c_get_915e3 : GoodIn wsX6_pledgedNow (wsV RX6 122 RJx4a65c yJx4a65c_get_915e3 wsJx4a65c_get_915e3) := goodIn_app (goodIn_of _ (by decide +kernel)) ggX6_pledgedNow_Jx4a65c_get_915e3
set_option maxRecDepth 20000 in
theorem ggX6_pledgedNow_X5_pledged : GoodIn wsX6_pledgedNow wsX5_pledged := goodIn_r _ [30, 31, 32, 33, 34, 4, 5, 6, 7, 8, 35, 10, 11, 12, 13, 14, 15, 16, 17, 18, 19, 20, 21, 22, 23, 24, 25, 48, 49, 50, 51, 52, 53, 54, 55, 56, 45, 46, 47] (by decide +kernel) (by decide +kernel)
set_option maxRecDepth 20000 in
theorem gX6_pledgedNow_X5_pledged : GoodIn wsX6_pledgedNow (wsV RX6 91 RX5 yX5_pledged wsX5_pledged) := goodIn_app (goodIn_of _ (by decide +kernel)) ggX6_pledgedNow_X5_pledged
theorem dX6_pledgedNow_0 : decode cX6_pledgedNow 0 = .ok (.iconst 0, 1) := by decide +kernel
theorem dX6_pledgedNow_1 : decode cX6_pledgedNow 1 = .ok (.istore_n 1, 1) := by decide +kernel
theorem dX6_pledgedNow_2 : decode cX6_pledgedNow 2 = .ok (.iconst 0, 1) := by decide +kernel
theorem dX6_pledgedNow_3 : decode cX6_pledgedNow 3 = .ok (.istore_n 2, 1) := by decide +kernel
theorem dX6_pledgedNow_4 : decode cX6_pledgedNow 4 = .ok (.iload_n 2, 1) := by decide +kernel
theorem dX6_pledgedNow_5 : decode cX6_pledgedNow 5 = .ok (.aload_n 0, 1) := by decide +kernel
theorem dX6_pledgedNow_6 : decode cX6_pledgedNow 6 = .ok (.getfield 12, 3) := by decide +kernel
theorem dX6_pledgedNow_9 : decode cX6_pledgedNow 9 = .ok (.invokevirtual 47, 3) := by decide +kernel
theorem dX6_pledgedNow_12 : decode cX6_pledgedNow 12 = .ok (.if_icmp .ge 26, 3) := by decide +kernel
theorem dX6_pledgedNow_15 : decode cX6_pledgedNow 15 = .ok (.iload_n 1, 1) := by decide +kernel
theorem dX6_pledgedNow_16 : decode cX6_pledgedNow 16 = .ok (.aload_n 0, 1) := by decide +kernel
theorem dX6_pledgedNow_17 : decode cX6_pledgedNow 17 = .ok (.getfield 12, 3) := by decide +kernel
theorem dX6_pledgedNow_20 : decode cX6_pledgedNow 20 = .ok (.iload_n 2, 1) := by decide +kernel
theorem dX6_pledgedNow_21 : decode cX6_pledgedNow 21 = .ok (.invokevirtual 122, 3) := by decide +kernel
theorem dX6_pledgedNow_24 : decode cX6_pledgedNow 24 = .ok (.checkcast 56, 3) := by decide +kernel
theorem dX6_pledgedNow_27 : decode cX6_pledgedNow 27 = .ok (.invokevirtual 91, 3) := by decide +kernel
theorem dX6_pledgedNow_30 : decode cX6_pledgedNow 30 = .ok (.iadd, 1) := by decide +kernel
theorem dX6_pledgedNow_31 : decode cX6_pledgedNow 31 = .ok (.istore_n 1, 1) := by decide +kernel
theorem dX6_pledgedNow_32 : decode cX6_pledgedNow 32 = .ok (.iinc 2 1, 3) := by decide +kernel
theorem dX6_pledgedNow_35 : decode cX6_pledgedNow 35 = .ok (.goto (-31), 3) := by decide +kernel
theorem dX6_pledgedNow_38 : decode cX6_pledgedNow 38 = .ok (.iload_n 1, 1) := by decide +kernel
theorem dX6_pledgedNow_39 : decode cX6_pledgedNow 39 = .ok (.ireturn, 1) := by decide +kernel
set_option maxRecDepth 20000 in
theorem ggX6_noneTooManyIfAllJoined_Jx4a65c_size_8abf5 : GoodIn wsX6_noneTooManyIfAllJoined wsJx4a65c_size_8abf5 := goodIn_r _ [9, 10, 57, 58, 59] (by decide +kernel) (by decide +kernel)
set_option maxRecDepth 20000 in
theorem gX6_noneTooManyIfAllJoined_Jx4a65c_size_8abf5 : GoodIn wsX6_noneTooManyIfAllJoined (wsV RX6 47 RJx4a65c yJx4a65c_size_8abf5 wsJx4a65c_size_8abf5) := goodIn_app (goodIn_of _ (by decide +kernel)) ggX6_noneTooManyIfAllJoined_Jx4a65c_size_8abf5
set_option maxRecDepth 20000 in
theorem ggX6_noneTooManyIfAllJoined_Jx4a65c_get_915e3 : GoodIn wsX6_noneTooManyIfAllJoined wsJx4a65c_get_915e3 := goodIn_r _ [14, 10, 15, 16, 17, 18, 19, 20, 21, 22, 23, 24, 25, 8, 26, 27, 57, 58, 59] (by decide +kernel) (by decide +kernel)
set_option maxRecDepth 20000 in
theorem gX6_noneTooManyIfAllJoined_Jx4a65c_get_915e3 : GoodIn wsX6_noneTooManyIfAllJoined (wsV RX6 122 RJx4a65c yJx4a65c_get_915e3 wsJx4a65c_get_915e3) := goodIn_app (goodIn_of _ (by decide +kernel)) ggX6_noneTooManyIfAllJoined_Jx4a65c_get_915e3
set_option maxRecDepth 20000 in
theorem ggX6_noneTooManyIfAllJoined_X6_giftsOf : GoodIn wsX6_noneTooManyIfAllJoined wsX6_giftsOf := goodIn_r _ [32, 33, 34, 35, 36, 37, 5, 6, 7, 8, 9, 10, 11, 12, 13, 14, 15, 16, 17, 18, 19, 20, 21, 22, 23, 24, 25, 26, 27, 38, 39, 31, 40, 41, 42, 43, 44, 45, 46, 47, 48, 49, 60, 61, 62, 63, 64, 65, 66, 67, 68, 69, 70, 71, 72, 73, 74, 75, 76, 57, 58, 59] (by decide +kernel) (by decide +kernel)
set_option maxRecDepth 20000 in
theorem gX6_noneTooManyIfAllJoined_X6_giftsOf : GoodIn wsX6_noneTooManyIfAllJoined (wsV RX6 239 RX6 yX6_giftsOf wsX6_giftsOf) := goodIn_app (goodIn_of _ (by decide +kernel)) ggX6_noneTooManyIfAllJoined_X6_giftsOf
theorem dX6_noneTooManyIfAllJoined_0 : decode cX6_noneTooManyIfAllJoined 0 = .ok (.aload_n 0, 1) := by decide +kernel
theorem dX6_noneTooManyIfAllJoined_1 : decode cX6_noneTooManyIfAllJoined 1 = .ok (.getfield 25, 3) := by decide +kernel
theorem dX6_noneTooManyIfAllJoined_4 : decode cX6_noneTooManyIfAllJoined 4 = .ok (.bipush 7, 2) := by decide +kernel
theorem dX6_noneTooManyIfAllJoined_6 : decode cX6_noneTooManyIfAllJoined 6 = .ok (.if_icmp .eq 5, 3) := by decide +kernel
theorem dX6_noneTooManyIfAllJoined_9 : decode cX6_noneTooManyIfAllJoined 9 = .ok (.iconst 1, 1) := by decide +kernel
theorem dX6_noneTooManyIfAllJoined_10 : decode cX6_noneTooManyIfAllJoined 10 = .ok (.ireturn, 1) := by decide +kernel
theorem dX6_noneTooManyIfAllJoined_11 : decode cX6_noneTooManyIfAllJoined 11 = .ok (.iconst 0, 1) := by decide +kernel
theorem dX6_noneTooManyIfAllJoined_12 : decode cX6_noneTooManyIfAllJoined 12 = .ok (.istore_n 1, 1) := by decide +kernel
theorem dX6_noneTooManyIfAllJoined_13 : decode cX6_noneTooManyIfAllJoined 13 = .ok (.iload_n 1, 1) := by decide +kernel
theorem dX6_noneTooManyIfAllJoined_14 : decode cX6_noneTooManyIfAllJoined 14 = .ok (.aload_n 0, 1) := by decide +kernel
theorem dX6_noneTooManyIfAllJoined_15 : decode cX6_noneTooManyIfAllJoined 15 = .ok (.getfield 12, 3) := by decide +kernel
theorem dX6_noneTooManyIfAllJoined_18 : decode cX6_noneTooManyIfAllJoined 18 = .ok (.invokevirtual 47, 3) := by decide +kernel
theorem dX6_noneTooManyIfAllJoined_21 : decode cX6_noneTooManyIfAllJoined 21 = .ok (.if_icmp .ge 36, 3) := by decide +kernel
theorem dX6_noneTooManyIfAllJoined_24 : decode cX6_noneTooManyIfAllJoined 24 = .ok (.aload_n 0, 1) := by decide +kernel
theorem dX6_noneTooManyIfAllJoined_25 : decode cX6_noneTooManyIfAllJoined 25 = .ok (.getfield 12, 3) := by decide +kernel
theorem dX6_noneTooManyIfAllJoined_28 : decode cX6_noneTooManyIfAllJoined 28 = .ok (.iload_n 1, 1) := by decide +kernel
theorem dX6_noneTooManyIfAllJoined_29 : decode cX6_noneTooManyIfAllJoined 29 = .ok (.invokevirtual 122, 3) := by decide +kernel
theorem dX6_noneTooManyIfAllJoined_32 : decode cX6_noneTooManyIfAllJoined 32 = .ok (.checkcast 56, 3) := by decide +kernel
theorem dX6_noneTooManyIfAllJoined_35 : decode cX6_noneTooManyIfAllJoined 35 = .ok (.astore_n 2, 1) := by decide +kernel
theorem dX6_noneTooManyIfAllJoined_36 : decode cX6_noneTooManyIfAllJoined 36 = .ok (.aload_n 0, 1) := by decide +kernel
theorem dX6_noneTooManyIfAllJoined_37 : decode cX6_noneTooManyIfAllJoined 37 = .ok (.aload_n 2, 1) := by decide +kernel
theorem dX6_noneTooManyIfAllJoined_38 : decode cX6_noneTooManyIfAllJoined 38 = .ok (.iconst 0, 1) := by decide +kernel
theorem dX6_noneTooManyIfAllJoined_39 : decode cX6_noneTooManyIfAllJoined 39 = .ok (.invokevirtual 239, 3) := by decide +kernel
theorem dX6_noneTooManyIfAllJoined_42 : decode cX6_noneTooManyIfAllJoined 42 = .ok (.aload_n 2, 1) := by decide +kernel
theorem dX6_noneTooManyIfAllJoined_43 : decode cX6_noneTooManyIfAllJoined 43 = .ok (.getfield 232, 3) := by decide +kernel
theorem dX6_noneTooManyIfAllJoined_46 : decode cX6_noneTooManyIfAllJoined 46 = .ok (.if_icmp .le 5, 3) := by decide +kernel
theorem dX6_noneTooManyIfAllJoined_49 : decode cX6_noneTooManyIfAllJoined 49 = .ok (.iconst 0, 1) := by decide +kernel
theorem dX6_noneTooManyIfAllJoined_50 : decode cX6_noneTooManyIfAllJoined 50 = .ok (.ireturn, 1) := by decide +kernel
theorem dX6_noneTooManyIfAllJoined_51 : decode cX6_noneTooManyIfAllJoined 51 = .ok (.iinc 1 1, 3) := by decide +kernel
theorem dX6_noneTooManyIfAllJoined_54 : decode cX6_noneTooManyIfAllJoined 54 = .ok (.goto (-41), 3) := by decide +kernel
theorem dX6_noneTooManyIfAllJoined_57 : decode cX6_noneTooManyIfAllJoined 57 = .ok (.iconst 1, 1) := by decide +kernel
theorem dX6_noneTooManyIfAllJoined_58 : decode cX6_noneTooManyIfAllJoined 58 = .ok (.ireturn, 1) := by decide +kernel
set_option maxRecDepth 20000 in
theorem ggX6_noPurseBelowZero_Jx4a65c_size_8abf5 : GoodIn wsX6_noPurseBelowZero wsJx4a65c_size_8abf5 := goodIn_r _ [8, 9, 38, 39, 40] (by decide +kernel) (by decide +kernel)
set_option maxRecDepth 20000 in
theorem gX6_noPurseBelowZero_Jx4a65c_size_8abf5 : GoodIn wsX6_noPurseBelowZero (wsV RX6 47 RJx4a65c yJx4a65c_size_8abf5 wsJx4a65c_size_8abf5) := goodIn_app (goodIn_of _ (by decide +kernel)) ggX6_noPurseBelowZero_Jx4a65c_size_8abf5
set_option maxRecDepth 20000 in
theorem ggX6_noPurseBelowZero_Jx4a65c_get_915e3 : GoodIn wsX6_noPurseBelowZero wsJx4a65c_get_915e3 := goodIn_r _ [13, 9, 14, 15, 16, 17, 18, 19, 20, 21, 22, 23, 24, 7, 25, 26, 38, 39, 40] (by decide +kernel) (by decide +kernel)
set_option maxRecDepth 20000 in
theorem gX6_noPurseBelowZero_Jx4a65c_get_915e3 : GoodIn wsX6_noPurseBelowZero (wsV RX6 122 RJx4a65c yJx4a65c_get_915e3 wsJx4a65c_get_915e3) := goodIn_app (goodIn_of _ (by decide +kernel)) ggX6_noPurseBelowZero_Jx4a65c_get_915e3
theorem dX6_noPurseBelowZero_0 : decode cX6_noPurseBelowZero 0 = .ok (.iconst 0, 1) := by decide +kernel
theorem dX6_noPurseBelowZero_1 : decode cX6_noPurseBelowZero 1 = .ok (.istore_n 1, 1) := by decide +kernel
theorem dX6_noPurseBelowZero_2 : decode cX6_noPurseBelowZero 2 = .ok (.iload_n 1, 1) := by decide +kernel
theorem dX6_noPurseBelowZero_3 : decode cX6_noPurseBelowZero 3 = .ok (.aload_n 0, 1) := by decide +kernel
theorem dX6_noPurseBelowZero_4 : decode cX6_noPurseBelowZero 4 = .ok (.getfield 16, 3) := by decide +kernel
theorem dX6_noPurseBelowZero_7 : decode cX6_noPurseBelowZero 7 = .ok (.invokevirtual 47, 3) := by decide +kernel
theorem dX6_noPurseBelowZero_10 : decode cX6_noPurseBelowZero 10 = .ok (.if_icmp .ge 28, 3) := by decide +kernel
theorem dX6_noPurseBelowZero_13 : decode cX6_noPurseBelowZero 13 = .ok (.aload_n 0, 1) := by decide +kernel
theorem dX6_noPurseBelowZero_14 : decode cX6_noPurseBelowZero 14 = .ok (.getfield 16, 3) := by decide +kernel
theorem dX6_noPurseBelowZero_17 : decode cX6_noPurseBelowZero 17 = .ok (.iload_n 1, 1) := by decide +kernel
theorem dX6_noPurseBelowZero_18 : decode cX6_noPurseBelowZero 18 = .ok (.invokevirtual 122, 3) := by decide +kernel
theorem dX6_noPurseBelowZero_21 : decode cX6_noPurseBelowZero 21 = .ok (.checkcast 69, 3) := by decide +kernel
theorem dX6_noPurseBelowZero_24 : decode cX6_noPurseBelowZero 24 = .ok (.getfield 158, 3) := by decide +kernel
theorem dX6_noPurseBelowZero_27 : decode cX6_noPurseBelowZero 27 = .ok (.ifCond .ge 5, 3) := by decide +kernel
theorem dX6_noPurseBelowZero_30 : decode cX6_noPurseBelowZero 30 = .ok (.iconst 0, 1) := by decide +kernel
theorem dX6_noPurseBelowZero_31 : decode cX6_noPurseBelowZero 31 = .ok (.ireturn, 1) := by decide +kernel
theorem dX6_noPurseBelowZero_32 : decode cX6_noPurseBelowZero 32 = .ok (.iinc 1 1, 3) := by decide +kernel
theorem dX6_noPurseBelowZero_35 : decode cX6_noPurseBelowZero 35 = .ok (.goto (-33), 3) := by decide +kernel
theorem dX6_noPurseBelowZero_38 : decode cX6_noPurseBelowZero 38 = .ok (.iconst 1, 1) := by decide +kernel
theorem dX6_noPurseBelowZero_39 : decode cX6_noPurseBelowZero 39 = .ok (.ireturn, 1) := by decide +kernel
set_option maxRecDepth 20000 in
theorem ggX6_noOrderedLacks_Jx4a65c_size_8abf5 : GoodIn wsX6_noOrderedLacks wsJx4a65c_size_8abf5 := goodIn_r _ [7, 8, 60, 61, 62] (by decide +kernel) (by decide +kernel)
set_option maxRecDepth 20000 in
theorem gX6_noOrderedLacks_Jx4a65c_size_8abf5 : GoodIn wsX6_noOrderedLacks (wsV RX6 47 RJx4a65c yJx4a65c_size_8abf5 wsJx4a65c_size_8abf5) := goodIn_app (goodIn_of _ (by decide +kernel)) ggX6_noOrderedLacks_Jx4a65c_size_8abf5
set_option maxRecDepth 20000 in
theorem ggX6_noOrderedLacks_Jx4a65c_get_915e3 : GoodIn wsX6_noOrderedLacks wsJx4a65c_get_915e3 := goodIn_r _ [12, 8, 13, 14, 15, 16, 17, 18, 19, 20, 21, 22, 23, 6, 24, 25, 60, 61, 62] (by decide +kernel) (by decide +kernel)
set_option maxRecDepth 20000 in
theorem gX6_noOrderedLacks_Jx4a65c_get_915e3 : GoodIn wsX6_noOrderedLacks (wsV RX6 122 RJx4a65c yJx4a65c_get_915e3 wsJx4a65c_get_915e3) := goodIn_app (goodIn_of _ (by decide +kernel)) ggX6_noOrderedLacks_Jx4a65c_get_915e3
set_option maxRecDepth 20000 in
theorem ggX6_noOrderedLacks_X5_isOrdered : GoodIn wsX6_noOrderedLacks wsX5_isOrdered := goodIn_r _ [30, 31, 32, 33, 34, 29, 35, 36, 37, 38, 39, 40, 41, 42, 43, 44, 45, 46, 47, 48, 4, 5, 6, 7, 8, 49, 10, 11, 12, 13, 14, 15, 16, 17, 18, 19, 20, 21, 22, 23, 24, 25, 63, 64, 65, 66, 67, 68, 69, 70, 71, 60, 61, 62] (by decide +kernel) (by decide +kernel)
set_option maxRecDepth 20000 in
theorem gX6_noOrderedLacks_X5_isOrdered : GoodIn wsX6_noOrderedLacks (wsV RX6 242 RX5 yX5_isOrdered wsX5_isOrdered) := goodIn_app (goodIn_of _ (by decide +kernel)) ggX6_noOrderedLacks_X5_isOrdered
set_option maxRecDepth 20000 in
theorem ggX6_noOrderedLacks_X5_lacking : GoodIn wsX6_noOrderedLacks wsX5_lacking := goodIn_r _ [35, 31, 36, 37, 38, 39, 40, 41, 42, 43, 29, 44, 45, 46, 47, 48, 4, 5, 6, 7, 8, 49, 10, 11, 12, 13, 14, 15, 16, 17, 18, 19, 20, 21, 22, 23, 24, 25, 63, 64, 65, 66, 67, 68, 69, 70, 71, 60, 61, 62] (by decide +kernel) (by decide +kernel)
set_option maxRecDepth 20000 in
theorem gX6_noOrderedLacks_X5_lacking : GoodIn wsX6_noOrderedLacks (wsV RX6 206 RX5 yX5_lacking wsX5_lacking) := goodIn_app (goodIn_of _ (by decide +kernel)) ggX6_noOrderedLacks_X5_lacking
theorem dX6_noOrderedLacks_0 : decode cX6_noOrderedLacks 0 = .ok (.iconst 0, 1) := by decide +kernel
theorem dX6_noOrderedLacks_1 : decode cX6_noOrderedLacks 1 = .ok (.istore_n 1, 1) := by decide +kernel
theorem dX6_noOrderedLacks_2 : decode cX6_noOrderedLacks 2 = .ok (.iload_n 1, 1) := by decide +kernel
theorem dX6_noOrderedLacks_3 : decode cX6_noOrderedLacks 3 = .ok (.aload_n 0, 1) := by decide +kernel
theorem dX6_noOrderedLacks_4 : decode cX6_noOrderedLacks 4 = .ok (.getfield 12, 3) := by decide +kernel
theorem dX6_noOrderedLacks_7 : decode cX6_noOrderedLacks 7 = .ok (.invokevirtual 47, 3) := by decide +kernel
theorem dX6_noOrderedLacks_10 : decode cX6_noOrderedLacks 10 = .ok (.if_icmp .ge 37, 3) := by decide +kernel
theorem dX6_noOrderedLacks_13 : decode cX6_noOrderedLacks 13 = .ok (.aload_n 0, 1) := by decide +kernel
theorem dX6_noOrderedLacks_14 : decode cX6_noOrderedLacks 14 = .ok (.getfield 12, 3) := by decide +kernel
theorem dX6_noOrderedLacks_17 : decode cX6_noOrderedLacks 17 = .ok (.iload_n 1, 1) := by decide +kernel
theorem dX6_noOrderedLacks_18 : decode cX6_noOrderedLacks 18 = .ok (.invokevirtual 122, 3) := by decide +kernel
theorem dX6_noOrderedLacks_21 : decode cX6_noOrderedLacks 21 = .ok (.checkcast 56, 3) := by decide +kernel
theorem dX6_noOrderedLacks_24 : decode cX6_noOrderedLacks 24 = .ok (.astore_n 2, 1) := by decide +kernel
theorem dX6_noOrderedLacks_25 : decode cX6_noOrderedLacks 25 = .ok (.aload_n 2, 1) := by decide +kernel
theorem dX6_noOrderedLacks_26 : decode cX6_noOrderedLacks 26 = .ok (.invokevirtual 242, 3) := by decide +kernel
theorem dX6_noOrderedLacks_29 : decode cX6_noOrderedLacks 29 = .ok (.ifCond .eq 12, 3) := by decide +kernel
theorem dX6_noOrderedLacks_32 : decode cX6_noOrderedLacks 32 = .ok (.aload_n 2, 1) := by decide +kernel
theorem dX6_noOrderedLacks_33 : decode cX6_noOrderedLacks 33 = .ok (.invokevirtual 206, 3) := by decide +kernel
theorem dX6_noOrderedLacks_36 : decode cX6_noOrderedLacks 36 = .ok (.ifCond .le 5, 3) := by decide +kernel
theorem dX6_noOrderedLacks_39 : decode cX6_noOrderedLacks 39 = .ok (.iconst 0, 1) := by decide +kernel
theorem dX6_noOrderedLacks_40 : decode cX6_noOrderedLacks 40 = .ok (.ireturn, 1) := by decide +kernel
theorem dX6_noOrderedLacks_41 : decode cX6_noOrderedLacks 41 = .ok (.iinc 1 1, 3) := by decide +kernel
theorem dX6_noOrderedLacks_44 : decode cX6_noOrderedLacks 44 = .ok (.goto (-42), 3) := by decide +kernel
theorem dX6_noOrderedLacks_47 : decode cX6_noOrderedLacks 47 = .ok (.iconst 1, 1) := by decide +kernel
theorem dX6_noOrderedLacks_48 : decode cX6_noOrderedLacks 48 = .ok (.ireturn, 1) := by decide +kernel
set_option maxRecDepth 20000 in
theorem ggX6_joinedTillsSeeAlike_X6_isJoined : GoodIn wsX6_joinedTillsSeeAlike wsX6_isJoined := goodIn_r _ [5, 6, 52, 53, 54, 55, 56, 57, 58, 59, 60] (by decide +kernel) (by decide +kernel)
set_option maxRecDepth 20000 in
theorem gX6_joinedTillsSeeAlike_X6_isJoined : GoodIn wsX6_joinedTillsSeeAlike (wsV RX6 105 RX6 yX6_isJoined wsX6_isJoined) := goodIn_app (goodIn_of _ (by decide +kernel)) ggX6_joinedTillsSeeAlike_X6_isJoined
set_option maxRecDepth 20000 in
theorem ggX6_joinedTillsSeeAlike_X6_keptSeenAt : GoodIn wsX6_joinedTillsSeeAlike wsX6_keptSeenAt := goodIn_r _ [10, 11, 12, 13, 14, 15, 16, 17, 18, 19, 20, 21, 22, 23, 24, 25, 26, 27, 28, 29, 30, 31, 32, 33, 34, 35, 36, 37, 38, 39, 40, 41, 42, 43, 44, 45, 46, 47, 48, 49, 50, 4, 51, 52, 53, 54, 55, 56, 57, 58, 59, 60, 61, 62, 63, 64, 65, 66, 67, 68, 69, 70, 71, 72, 73, 74, 75, 76, 77, 78, 79, 80] (by decide +kernel) (by decide +kernel)
set_option maxRecDepth 20000 in
theorem gX6_joinedTillsSeeAlike_X6_keptSeenAt : GoodIn wsX6_joinedTillsSeeAlike (wsV RX6 269 RX6 yX6_keptSeenAt wsX6_keptSeenAt) := goodIn_app (goodIn_of _ (by decide +kernel)) ggX6_joinedTillsSeeAlike_X6_keptSeenAt
theorem dX6_joinedTillsSeeAlike_0 : decode cX6_joinedTillsSeeAlike 0 = .ok (.iconst (-1), 1) := by decide +kernel
theorem dX6_joinedTillsSeeAlike_1 : decode cX6_joinedTillsSeeAlike 1 = .ok (.istore_n 1, 1) := by decide +kernel
theorem dX6_joinedTillsSeeAlike_2 : decode cX6_joinedTillsSeeAlike 2 = .ok (.iconst 0, 1) := by decide +kernel
theorem dX6_joinedTillsSeeAlike_3 : decode cX6_joinedTillsSeeAlike 3 = .ok (.istore_n 2, 1) := by decide +kernel
theorem dX6_joinedTillsSeeAlike_4 : decode cX6_joinedTillsSeeAlike 4 = .ok (.iload_n 2, 1) := by decide +kernel
theorem dX6_joinedTillsSeeAlike_5 : decode cX6_joinedTillsSeeAlike 5 = .ok (.iconst 3, 1) := by decide +kernel
theorem dX6_joinedTillsSeeAlike_6 : decode cX6_joinedTillsSeeAlike 6 = .ok (.if_icmp .ge 40, 3) := by decide +kernel
theorem dX6_joinedTillsSeeAlike_9 : decode cX6_joinedTillsSeeAlike 9 = .ok (.aload_n 0, 1) := by decide +kernel
theorem dX6_joinedTillsSeeAlike_10 : decode cX6_joinedTillsSeeAlike 10 = .ok (.iload_n 2, 1) := by decide +kernel
theorem dX6_joinedTillsSeeAlike_11 : decode cX6_joinedTillsSeeAlike 11 = .ok (.invokevirtual 105, 3) := by decide +kernel
theorem dX6_joinedTillsSeeAlike_14 : decode cX6_joinedTillsSeeAlike 14 = .ok (.ifCond .ne 6, 3) := by decide +kernel
theorem dX6_joinedTillsSeeAlike_17 : decode cX6_joinedTillsSeeAlike 17 = .ok (.goto 23, 3) := by decide +kernel
theorem dX6_joinedTillsSeeAlike_20 : decode cX6_joinedTillsSeeAlike 20 = .ok (.aload_n 0, 1) := by decide +kernel
theorem dX6_joinedTillsSeeAlike_21 : decode cX6_joinedTillsSeeAlike 21 = .ok (.iload_n 2, 1) := by decide +kernel
theorem dX6_joinedTillsSeeAlike_22 : decode cX6_joinedTillsSeeAlike 22 = .ok (.invokevirtual 269, 3) := by decide +kernel
theorem dX6_joinedTillsSeeAlike_25 : decode cX6_joinedTillsSeeAlike 25 = .ok (.istore_n 3, 1) := by decide +kernel
theorem dX6_joinedTillsSeeAlike_26 : decode cX6_joinedTillsSeeAlike 26 = .ok (.iload_n 1, 1) := by decide +kernel
theorem dX6_joinedTillsSeeAlike_27 : decode cX6_joinedTillsSeeAlike 27 = .ok (.iconst (-1), 1) := by decide +kernel
theorem dX6_joinedTillsSeeAlike_28 : decode cX6_joinedTillsSeeAlike 28 = .ok (.if_icmp .eq 10, 3) := by decide +kernel
theorem dX6_joinedTillsSeeAlike_31 : decode cX6_joinedTillsSeeAlike 31 = .ok (.iload_n 3, 1) := by decide +kernel
theorem dX6_joinedTillsSeeAlike_32 : decode cX6_joinedTillsSeeAlike 32 = .ok (.iload_n 1, 1) := by decide +kernel
theorem dX6_joinedTillsSeeAlike_33 : decode cX6_joinedTillsSeeAlike 33 = .ok (.if_icmp .eq 5, 3) := by decide +kernel
theorem dX6_joinedTillsSeeAlike_36 : decode cX6_joinedTillsSeeAlike 36 = .ok (.iconst 0, 1) := by decide +kernel
theorem dX6_joinedTillsSeeAlike_37 : decode cX6_joinedTillsSeeAlike 37 = .ok (.ireturn, 1) := by decide +kernel
theorem dX6_joinedTillsSeeAlike_38 : decode cX6_joinedTillsSeeAlike 38 = .ok (.iload_n 3, 1) := by decide +kernel
theorem dX6_joinedTillsSeeAlike_39 : decode cX6_joinedTillsSeeAlike 39 = .ok (.istore_n 1, 1) := by decide +kernel
theorem dX6_joinedTillsSeeAlike_40 : decode cX6_joinedTillsSeeAlike 40 = .ok (.iinc 2 1, 3) := by decide +kernel
theorem dX6_joinedTillsSeeAlike_43 : decode cX6_joinedTillsSeeAlike 43 = .ok (.goto (-39), 3) := by decide +kernel
theorem dX6_joinedTillsSeeAlike_46 : decode cX6_joinedTillsSeeAlike 46 = .ok (.iconst 1, 1) := by decide +kernel
theorem dX6_joinedTillsSeeAlike_47 : decode cX6_joinedTillsSeeAlike 47 = .ok (.ireturn, 1) := by decide +kernel
