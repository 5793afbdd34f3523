theorem dX0_init_0 : decode cX0_init 0 = .ok (.aload_n 0, 1) := by decide +kernel
theorem dX0_init_1 : decode cX0_init 1 = .ok (.invokespecial 1, 3) := by decide +kernel
theorem dX0_init_4 : decode cX0_init 4 = .ok (.aload_n 0, 1) := by decide +kernel
theorem dX0_init_5 : decode cX0_init 5 = .ok (.aload_n 1, 1) := by decide +kernel
theorem dX0_init_6 : decode cX0_init 6 = .ok (.putfield 7, 3) := by decide +kernel
theorem dX0_init_9 : decode cX0_init 9 = .ok (.aload_n 0, 1) := by decide +kernel
theorem dX0_init_10 : decode cX0_init 10 = .ok (.aload_n 2, 1) := by decide +kernel
theorem dX0_init_11 : decode cX0_init 11 = .ok (.putfield 13, 3) := by decide +kernel
theorem dX0_init_14 : decode cX0_init 14 = .ok (.aload_n 0, 1) := by decide +kernel
theorem dX0_init_15 : decode cX0_init 15 = .ok (.iload_n 3, 1) := by decide +kernel
theorem dX0_init_16 : decode cX0_init 16 = .ok (.putfield 17, 3) := by decide +kernel
theorem dX0_init_19 : decode cX0_init 19 = .ok (.aload_n 0, 1) := by decide +kernel
theorem dX0_init_20 : decode cX0_init 20 = .ok (.iload 4, 2) := by decide +kernel
theorem dX0_init_22 : decode cX0_init 22 = .ok (.putfield 21, 3) := by decide +kernel
theorem dX0_init_25 : decode cX0_init 25 = .ok (.aload_n 0, 1) := by decide +kernel
theorem dX0_init_26 : decode cX0_init 26 = .ok (.iconst 1, 1) := by decide +kernel
theorem dX0_init_27 : decode cX0_init 27 = .ok (.iload_n 3, 1) := by decide +kernel
theorem dX0_init_28 : decode cX0_init 28 = .ok (.ishl, 1) := by decide +kernel
theorem dX0_init_29 : decode cX0_init 29 = .ok (.putfield 24, 3) := by decide +kernel
theorem dX0_init_32 : decode cX0_init 32 = .ok (.return_, 1) := by decide +kernel
theorem dX0_isOpen_0 : decode cX0_isOpen 0 = .ok (.aload_n 0, 1) := by decide +kernel
theorem dX0_isOpen_1 : decode cX0_isOpen 1 = .ok (.getfield 27, 3) := by decide +kernel
theorem dX0_isOpen_4 : decode cX0_isOpen 4 = .ok (.ireturn, 1) := by decide +kernel
theorem dX0_isSeenAt_0 : decode cX0_isSeenAt 0 = .ok (.aload_n 0, 1) := by decide +kernel
theorem dX0_isSeenAt_1 : decode cX0_isSeenAt 1 = .ok (.getfield 24, 3) := by decide +kernel
theorem dX0_isSeenAt_4 : decode cX0_isSeenAt 4 = .ok (.iload_n 1, 1) := by decide +kernel
theorem dX0_isSeenAt_5 : decode cX0_isSeenAt 5 = .ok (.ishr, 1) := by decide +kernel
theorem dX0_isSeenAt_6 : decode cX0_isSeenAt 6 = .ok (.iconst 1, 1) := by decide +kernel
theorem dX0_isSeenAt_7 : decode cX0_isSeenAt 7 = .ok (.iand, 1) := by decide +kernel
theorem dX0_isSeenAt_8 : decode cX0_isSeenAt 8 = .ok (.ifCond .eq 7, 3) := by decide +kernel
theorem dX0_isSeenAt_11 : decode cX0_isSeenAt 11 = .ok (.iconst 1, 1) := by decide +kernel
theorem dX0_isSeenAt_12 : decode cX0_isSeenAt 12 = .ok (.goto 4, 3) := by decide +kernel
theorem dX0_isSeenAt_15 : decode cX0_isSeenAt 15 = .ok (.iconst 0, 1) := by decide +kernel
theorem dX0_isSeenAt_16 : decode cX0_isSeenAt 16 = .ok (.ireturn, 1) := by decide +kernel
theorem dX0_showTo_0 : decode cX0_showTo 0 = .ok (.iload_n 1, 1) := by decide +kernel
theorem dX0_showTo_1 : decode cX0_showTo 1 = .ok (.aload_n 0, 1) := by decide +kernel
theorem dX0_showTo_2 : decode cX0_showTo 2 = .ok (.getfield 17, 3) := by decide +kernel
theorem dX0_showTo_5 : decode cX0_showTo 5 = .ok (.ishr, 1) := by decide +kernel
theorem dX0_showTo_6 : decode cX0_showTo 6 = .ok (.iconst 1, 1) := by decide +kernel
theorem dX0_showTo_7 : decode cX0_showTo 7 = .ok (.iand, 1) := by decide +kernel
theorem dX0_showTo_8 : decode cX0_showTo 8 = .ok (.ifCond .eq 8, 3) := by decide +kernel
theorem dX0_showTo_11 : decode cX0_showTo 11 = .ok (.aload_n 0, 1) := by decide +kernel
theorem dX0_showTo_12 : decode cX0_showTo 12 = .ok (.iconst 1, 1) := by decide +kernel
theorem dX0_showTo_13 : decode cX0_showTo 13 = .ok (.putfield 27, 3) := by decide +kernel
theorem dX0_showTo_16 : decode cX0_showTo 16 = .ok (.aload_n 0, 1) := by decide +kernel
theorem dX0_showTo_17 : decode cX0_showTo 17 = .ok (.getfield 27, 3) := by decide +kernel
theorem dX0_showTo_20 : decode cX0_showTo 20 = .ok (.ifCond .eq 13, 3) := by decide +kernel
theorem dX0_showTo_23 : decode cX0_showTo 23 = .ok (.aload_n 0, 1) := by decide +kernel
theorem dX0_showTo_24 : decode cX0_showTo 24 = .ok (.dup, 1) := by decide +kernel
theorem dX0_showTo_25 : decode cX0_showTo 25 = .ok (.getfield 24, 3) := by decide +kernel
theorem dX0_showTo_28 : decode cX0_showTo 28 = .ok (.iload_n 1, 1) := by decide +kernel
theorem dX0_showTo_29 : decode cX0_showTo 29 = .ok (.ior, 1) := by decide +kernel
theorem dX0_showTo_30 : decode cX0_showTo 30 = .ok (.putfield 24, 3) := by decide +kernel
theorem dX0_showTo_33 : decode cX0_showTo 33 = .ok (.return_, 1) := by decide +kernel
set_option maxRecDepth 20000 in
theorem ggX1_init_X0_init : GoodIn wsX1_init wsX0_init := goodIn_r _ [7, 8, 9, 10, 11, 12, 13, 14, 15, 16, 17, 18, 19, 20, 21, 22, 23, 24, 25, 26, 27, 28, 29, 30, 31, 32] (by decide +kernel) (by decide +kernel)
set_option maxRecDepth 20000 in
theorem gX1_init_X0_init : GoodIn wsX1_init (wsX0_init) := ggX1_init_X0_init
theorem dX1_init_0 : decode cX1_init 0 = .ok (.aload_n 0, 1) := by decide +kernel
theorem dX1_init_1 : decode cX1_init 1 = .ok (.aload_n 2, 1) := by decide +kernel
theorem dX1_init_2 : decode cX1_init 2 = .ok (.aload_n 3, 1) := by decide +kernel
theorem dX1_init_3 : decode cX1_init 3 = .ok (.iload 4, 2) := by decide +kernel
theorem dX1_init_5 : decode cX1_init 5 = .ok (.iload 5, 2) := by decide +kernel
theorem dX1_init_7 : decode cX1_init 7 = .ok (.invokespecial 3, 3) := by decide +kernel
theorem dX1_init_10 : decode cX1_init 10 = .ok (.aload_n 0, 1) := by decide +kernel
theorem dX1_init_11 : decode cX1_init 11 = .ok (.iload_n 1, 1) := by decide +kernel
theorem dX1_init_12 : decode cX1_init 12 = .ok (.putfield 9, 3) := by decide +kernel
theorem dX1_init_15 : decode cX1_init 15 = .ok (.aload_n 0, 1) := by decide +kernel
theorem dX1_init_16 : decode cX1_init 16 = .ok (.iload 6, 2) := by decide +kernel
theorem dX1_init_18 : decode cX1_init 18 = .ok (.putfield 15, 3) := by decide +kernel
theorem dX1_init_21 : decode cX1_init 21 = .ok (.aload_n 0, 1) := by decide +kernel
theorem dX1_init_22 : decode cX1_init 22 = .ok (.iconst 0, 1) := by decide +kernel
theorem dX1_init_23 : decode cX1_init 23 = .ok (.putfield 18, 3) := by decide +kernel
theorem dX1_init_26 : decode cX1_init 26 = .ok (.return_, 1) := by decide +kernel
theorem dX1_isKept_0 : decode cX1_isKept 0 = .ok (.aload_n 0, 1) := by decide +kernel
theorem dX1_isKept_1 : decode cX1_isKept 1 = .ok (.getfield 18, 3) := by decide +kernel
theorem dX1_isKept_4 : decode cX1_isKept 4 = .ok (.ifCond .ne 7, 3) := by decide +kernel
theorem dX1_isKept_7 : decode cX1_isKept 7 = .ok (.iconst 1, 1) := by decide +kernel
theorem dX1_isKept_8 : decode cX1_isKept 8 = .ok (.goto 4, 3) := by decide +kernel
theorem dX1_isKept_11 : decode cX1_isKept 11 = .ok (.iconst 0, 1) := by decide +kernel
theorem dX1_isKept_12 : decode cX1_isKept 12 = .ok (.ireturn, 1) := by decide +kernel
theorem dX1_isBehind_0 : decode cX1_isBehind 0 = .ok (.aload_n 0, 1) := by decide +kernel
theorem dX1_isBehind_1 : decode cX1_isBehind 1 = .ok (.getfield 21, 3) := by decide +kernel
theorem dX1_isBehind_4 : decode cX1_isBehind 4 = .ok (.aload_n 1, 1) := by decide +kernel
theorem dX1_isBehind_5 : decode cX1_isBehind 5 = .ok (.getfield 21, 3) := by decide +kernel
theorem dX1_isBehind_8 : decode cX1_isBehind 8 = .ok (.if_icmp .eq 20, 3) := by decide +kernel
theorem dX1_isBehind_11 : decode cX1_isBehind 11 = .ok (.aload_n 0, 1) := by decide +kernel
theorem dX1_isBehind_12 : decode cX1_isBehind 12 = .ok (.getfield 21, 3) := by decide +kernel
theorem dX1_isBehind_15 : decode cX1_isBehind 15 = .ok (.aload_n 1, 1) := by decide +kernel
theorem dX1_isBehind_16 : decode cX1_isBehind 16 = .ok (.getfield 21, 3) := by decide +kernel
theorem dX1_isBehind_19 : decode cX1_isBehind 19 = .ok (.if_icmp .le 7, 3) := by decide +kernel
theorem dX1_isBehind_22 : decode cX1_isBehind 22 = .ok (.iconst 1, 1) := by decide +kernel
theorem dX1_isBehind_23 : decode cX1_isBehind 23 = .ok (.goto 4, 3) := by decide +kernel
theorem dX1_isBehind_26 : decode cX1_isBehind 26 = .ok (.iconst 0, 1) := by decide +kernel
theorem dX1_isBehind_27 : decode cX1_isBehind 27 = .ok (.ireturn, 1) := by decide +kernel
theorem dX1_isBehind_28 : decode cX1_isBehind 28 = .ok (.aload_n 0, 1) := by decide +kernel
theorem dX1_isBehind_29 : decode cX1_isBehind 29 = .ok (.getfield 24, 3) := by decide +kernel
theorem dX1_isBehind_32 : decode cX1_isBehind 32 = .ok (.aload_n 1, 1) := by decide +kernel
theorem dX1_isBehind_33 : decode cX1_isBehind 33 = .ok (.getfield 24, 3) := by decide +kernel
theorem dX1_isBehind_36 : decode cX1_isBehind 36 = .ok (.if_icmp .eq 20, 3) := by decide +kernel
theorem dX1_isBehind_39 : decode cX1_isBehind 39 = .ok (.aload_n 0, 1) := by decide +kernel
theorem dX1_isBehind_40 : decode cX1_isBehind 40 = .ok (.getfield 24, 3) := by decide +kernel
theorem dX1_isBehind_43 : decode cX1_isBehind 43 = .ok (.aload_n 1, 1) := by decide +kernel
theorem dX1_isBehind_44 : decode cX1_isBehind 44 = .ok (.getfield 24, 3) := by decide +kernel
theorem dX1_isBehind_47 : decode cX1_isBehind 47 = .ok (.if_icmp .le 7, 3) := by decide +kernel
theorem dX1_isBehind_50 : decode cX1_isBehind 50 = .ok (.iconst 1, 1) := by decide +kernel
theorem dX1_isBehind_51 : decode cX1_isBehind 51 = .ok (.goto 4, 3) := by decide +kernel
theorem dX1_isBehind_54 : decode cX1_isBehind 54 = .ok (.iconst 0, 1) := by decide +kernel
theorem dX1_isBehind_55 : decode cX1_isBehind 55 = .ok (.ireturn, 1) := by decide +kernel
theorem dX1_isBehind_56 : decode cX1_isBehind 56 = .ok (.aload_n 0, 1) := by decide +kernel
theorem dX1_isBehind_57 : decode cX1_isBehind 57 = .ok (.getfield 9, 3) := by decide +kernel
theorem dX1_isBehind_60 : decode cX1_isBehind 60 = .ok (.aload_n 1, 1) := by decide +kernel
theorem dX1_isBehind_61 : decode cX1_isBehind 61 = .ok (.getfield 9, 3) := by decide +kernel
theorem dX1_isBehind_64 : decode cX1_isBehind 64 = .ok (.if_icmp .le 7, 3) := by decide +kernel
theorem dX1_isBehind_67 : decode cX1_isBehind 67 = .ok (.iconst 1, 1) := by decide +kernel
theorem dX1_isBehind_68 : decode cX1_isBehind 68 = .ok (.goto 4, 3) := by decide +kernel
theorem dX1_isBehind_71 : decode cX1_isBehind 71 = .ok (.iconst 0, 1) := by decide +kernel
theorem dX1_isBehind_72 : decode cX1_isBehind 72 = .ok (.ireturn, 1) := by decide +kernel
theorem dX2_init_0 : decode cX2_init 0 = .ok (.aload_n 0, 1) := by decide +kernel
theorem dX2_init_1 : decode cX2_init 1 = .ok (.invokespecial 1, 3) := by decide +kernel
theorem dX2_init_4 : decode cX2_init 4 = .ok (.aload_n 0, 1) := by decide +kernel
theorem dX2_init_5 : decode cX2_init 5 = .ok (.iload_n 1, 1) := by decide +kernel
theorem dX2_init_6 : decode cX2_init 6 = .ok (.putfield 7, 3) := by decide +kernel
theorem dX2_init_9 : decode cX2_init 9 = .ok (.aload_n 0, 1) := by decide +kernel
theorem dX2_init_10 : decode cX2_init 10 = .ok (.iload_n 2, 1) := by decide +kernel
theorem dX2_init_11 : decode cX2_init 11 = .ok (.putfield 13, 3) := by decide +kernel
theorem dX2_init_14 : decode cX2_init 14 = .ok (.return_, 1) := by decide +kernel
set_option maxRecDepth 20000 in
theorem ggX3_init_X0_init : GoodIn wsX3_init wsX0_init := goodIn_r _ [5, 6, 7, 8, 9, 10, 11, 12, 13, 22, 23, 24, 25, 26, 27, 28, 29, 30, 14, 15, 16, 17, 18, 19, 20, 21] (by decide +kernel) (by decide +kernel)
set_option maxRecDepth 20000 in
theorem gX3_init_X0_init : GoodIn wsX3_init (wsX0_init) := ggX3_init_X0_init
theorem dX3_init_0 : decode cX3_init 0 = .ok (.aload_n 0, 1) := by decide +kernel
theorem dX3_init_1 : decode cX3_init 1 = .ok (.aload_n 1, 1) := by decide +kernel
theorem dX3_init_2 : decode cX3_init 2 = .ok (.aload_n 2, 1) := by decide +kernel
theorem dX3_init_3 : decode cX3_init 3 = .ok (.iload_n 3, 1) := by decide +kernel
theorem dX3_init_4 : decode cX3_init 4 = .ok (.iload 4, 2) := by decide +kernel
theorem dX3_init_6 : decode cX3_init 6 = .ok (.invokespecial 1, 3) := by decide +kernel
theorem dX3_init_9 : decode cX3_init 9 = .ok (.aload_n 0, 1) := by decide +kernel
theorem dX3_init_10 : decode cX3_init 10 = .ok (.iload 5, 2) := by decide +kernel
theorem dX3_init_12 : decode cX3_init 12 = .ok (.putfield 7, 3) := by decide +kernel
theorem dX3_init_15 : decode cX3_init 15 = .ok (.return_, 1) := by decide +kernel
theorem dX3_standsAt_0 : decode cX3_standsAt 0 = .ok (.aload_n 0, 1) := by decide +kernel
theorem dX3_standsAt_1 : decode cX3_standsAt 1 = .ok (.getfield 13, 3) := by decide +kernel
theorem dX3_standsAt_4 : decode cX3_standsAt 4 = .ok (.ifCond .ne 30, 3) := by decide +kernel
theorem dX3_standsAt_7 : decode cX3_standsAt 7 = .ok (.aload_n 0, 1) := by decide +kernel
theorem dX3_standsAt_8 : decode cX3_standsAt 8 = .ok (.getfield 17, 3) := by decide +kernel
theorem dX3_standsAt_11 : decode cX3_standsAt 11 = .ok (.getfield 21, 3) := by decide +kernel
theorem dX3_standsAt_14 : decode cX3_standsAt 14 = .ok (.ifCond .ne 20, 3) := by decide +kernel
theorem dX3_standsAt_17 : decode cX3_standsAt 17 = .ok (.iload_n 1, 1) := by decide +kernel
theorem dX3_standsAt_18 : decode cX3_standsAt 18 = .ok (.aload_n 0, 1) := by decide +kernel
theorem dX3_standsAt_19 : decode cX3_standsAt 19 = .ok (.getfield 26, 3) := by decide +kernel
theorem dX3_standsAt_22 : decode cX3_standsAt 22 = .ok (.isub, 1) := by decide +kernel
theorem dX3_standsAt_23 : decode cX3_standsAt 23 = .ok (.aload_n 0, 1) := by decide +kernel
theorem dX3_standsAt_24 : decode cX3_standsAt 24 = .ok (.getfield 7, 3) := by decide +kernel
theorem dX3_standsAt_27 : decode cX3_standsAt 27 = .ok (.if_icmp .ge 7, 3) := by decide +kernel
theorem dX3_standsAt_30 : decode cX3_standsAt 30 = .ok (.iconst 1, 1) := by decide +kernel
theorem dX3_standsAt_31 : decode cX3_standsAt 31 = .ok (.goto 4, 3) := by decide +kernel
theorem dX3_standsAt_34 : decode cX3_standsAt 34 = .ok (.iconst 0, 1) := by decide +kernel
theorem dX3_standsAt_35 : decode cX3_standsAt 35 = .ok (.ireturn, 1) := by decide +kernel
theorem dX4_init_0 : decode cX4_init 0 = .ok (.aload_n 0, 1) := by decide +kernel
theorem dX4_init_1 : decode cX4_init 1 = .ok (.invokespecial 1, 3) := by decide +kernel
theorem dX4_init_4 : decode cX4_init 4 = .ok (.aload_n 0, 1) := by decide +kernel
theorem dX4_init_5 : decode cX4_init 5 = .ok (.aload_n 1, 1) := by decide +kernel
theorem dX4_init_6 : decode cX4_init 6 = .ok (.putfield 7, 3) := by decide +kernel
theorem dX4_init_9 : decode cX4_init 9 = .ok (.aload_n 0, 1) := by decide +kernel
theorem dX4_init_10 : decode cX4_init 10 = .ok (.iload_n 2, 1) := by decide +kernel
theorem dX4_init_11 : decode cX4_init 11 = .ok (.putfield 13, 3) := by decide +kernel
theorem dX4_init_14 : decode cX4_init 14 = .ok (.return_, 1) := by decide +kernel
set_option maxRecDepth 20000 in
theorem ggX5_init_Jx4a65c_init_da8c8 : GoodIn wsX5_init wsJx4a65c_init_da8c8 := goodIn_r _ [14, 15, 16, 17, 18, 19, 20, 21, 22, 23, 24, 25, 26, 2, 3, 34, 35, 36] (by decide +kernel) (by decide +kernel)
set_option maxRecDepth 20000 in
theorem gX5_init_Jx4a65c_init_da8c8 : GoodIn wsX5_init (wsJx4a65c_init_da8c8) := ggX5_init_Jx4a65c_init_da8c8
theorem dX5_init_0 : decode cX5_init 0 = .ok (.aload_n 0, 1) := by decide +kernel
theorem dX5_init_1 : decode cX5_init 1 = .ok (.invokespecial 1, 3) := by decide +kernel
theorem dX5_init_4 : decode cX5_init 4 = .ok (.aload_n 0, 1) := by decide +kernel
theorem dX5_init_5 : decode cX5_init 5 = .ok (.iload_n 1, 1) := by decide +kernel
theorem dX5_init_6 : decode cX5_init 6 = .ok (.putfield 7, 3) := by decide +kernel
theorem dX5_init_9 : decode cX5_init 9 = .ok (.aload_n 0, 1) := by decide +kernel
theorem dX5_init_10 : decode cX5_init 10 = .ok (.iload_n 2, 1) := by decide +kernel
theorem dX5_init_11 : decode cX5_init 11 = .ok (.putfield 13, 3) := by decide +kernel
theorem dX5_init_14 : decode cX5_init 14 = .ok (.aload_n 0, 1) := by decide +kernel
theorem dX5_init_15 : decode cX5_init 15 = .ok (.iload_n 3, 1) := by decide +kernel
theorem dX5_init_16 : decode cX5_init 16 = .ok (.putfield 16, 3) := by decide +kernel
theorem dX5_init_19 : decode cX5_init 19 = .ok (.aload_n 0, 1) := by decide +kernel
theorem dX5_init_20 : decode cX5_init 20 = .ok (.iload 4, 2) := by decide +kernel
theorem dX5_init_22 : decode cX5_init 22 = .ok (.putfield 19, 3) := by decide +kernel
theorem dX5_init_25 : decode cX5_init 25 = .ok (.aload_n 0, 1) := by decide +kernel
theorem dX5_init_26 : decode cX5_init 26 = .ok (.new 23, 3) := by decide +kernel
theorem dX5_init_29 : decode cX5_init 29 = .ok (.dup, 1) := by decide +kernel
theorem dX5_init_30 : decode cX5_init 30 = .ok (.invokespecial 25, 3) := by decide +kernel
theorem dX5_init_33 : decode cX5_init 33 = .ok (.putfield 26, 3) := by decide +kernel
theorem dX5_init_36 : decode cX5_init 36 = .ok (.return_, 1) := by decide +kernel
set_option maxRecDepth 20000 in
theorem ggX5_pledged_Jx4a65c_size_8abf5 : GoodIn wsX5_pledged wsJx4a65c_size_8abf5 := goodIn_r _ [8, 9, 36, 37, 38] (by decide +kernel) (by decide +kernel)
set_option maxRecDepth 20000 in
theorem gX5_pledged_Jx4a65c_size_8abf5 : GoodIn wsX5_pledged (wsV RX5 30 RJx4a65c yJx4a65c_size_8abf5 wsJx4a65c_size_8abf5) := goodIn_app (goodIn_of _ (by decide +kernel)) ggX5_pledged_Jx4a65c_size_8abf5
set_option maxRecDepth 20000 in
theorem ggX5_pledged_Jx4a65c_get_915e3 : GoodIn wsX5_pledged wsJx4a65c_get_915e3 := goodIn_r _ [13, 9, 14, 15, 16, 17, 18, 19, 20, 21, 22, 23, 24, 7, 25, 26, 36, 37, 38] (by decide +kernel) (by decide +kernel)
set_option maxRecDepth 20000 in
theorem gX5_pledged_Jx4a65c_get_915e3 : GoodIn wsX5_pledged (wsV RX5 34 RJx4a65c yJx4a65c_get_915e3 wsJx4a65c_get_915e3) := goodIn_app (goodIn_of _ (by decide +kernel)) ggX5_pledged_Jx4a65c_get_915e3
theorem dX5_pledged_0 : decode cX5_pledged 0 = .ok (.iconst 0, 1) := by decide +kernel
theorem dX5_pledged_1 : decode cX5_pledged 1 = .ok (.istore_n 1, 1) := by decide +kernel
theorem dX5_pledged_2 : decode cX5_pledged 2 = .ok (.iconst 0, 1) := by decide +kernel
theorem dX5_pledged_3 : decode cX5_pledged 3 = .ok (.istore_n 2, 1) := by decide +kernel
theorem dX5_pledged_4 : decode cX5_pledged 4 = .ok (.iload_n 2, 1) := by decide +kernel
theorem dX5_pledged_5 : decode cX5_pledged 5 = .ok (.aload_n 0, 1) := by decide +kernel
theorem dX5_pledged_6 : decode cX5_pledged 6 = .ok (.getfield 26, 3) := by decide +kernel
theorem dX5_pledged_9 : decode cX5_pledged 9 = .ok (.invokevirtual 30, 3) := by decide +kernel
theorem dX5_pledged_12 : decode cX5_pledged 12 = .ok (.if_icmp .ge 26, 3) := by decide +kernel
theorem dX5_pledged_15 : decode cX5_pledged 15 = .ok (.iload_n 1, 1) := by decide +kernel
theorem dX5_pledged_16 : decode cX5_pledged 16 = .ok (.aload_n 0, 1) := by decide +kernel
theorem dX5_pledged_17 : decode cX5_pledged 17 = .ok (.getfield 26, 3) := by decide +kernel
theorem dX5_pledged_20 : decode cX5_pledged 20 = .ok (.iload_n 2, 1) := by decide +kernel
theorem dX5_pledged_21 : decode cX5_pledged 21 = .ok (.invokevirtual 34, 3) := by decide +kernel
theorem dX5_pledged_24 : decode cX5_pledged 24 = .ok (.checkcast 38, 3) := by decide +kernel
theorem dX5_pledged_27 : decode cX5_pledged 27 = .ok (.getfield 40, 3) := by decide +kernel
theorem dX5_pledged_30 : decode cX5_pledged 30 = .ok (.iadd, 1) := by decide +kernel
theorem dX5_pledged_31 : decode cX5_pledged 31 = .ok (.istore_n 1, 1) := by decide +kernel
theorem dX5_pledged_32 : decode cX5_pledged 32 = .ok (.iinc 2 1, 3) := by decide +kernel
theorem dX5_pledged_35 : decode cX5_pledged 35 = .ok (.goto (-31), 3) := by decide +kernel
theorem dX5_pledged_38 : decode cX5_pledged 38 = .ok (.iload_n 1, 1) := by decide +kernel
theorem dX5_pledged_39 : decode cX5_pledged 39 = .ok (.ireturn, 1) := by decide +kernel
set_option maxRecDepth 20000 in
theorem ggX5_pledgedBy_Jx4a65c_size_8abf5 : GoodIn wsX5_pledgedBy wsJx4a65c_size_8abf5 := goodIn_r _ [9, 10, 37, 38, 39] (by decide +kernel) (by decide +kernel)
set_option maxRecDepth 20000 in
theorem gX5_pledgedBy_Jx4a65c_size_8abf5 : GoodIn wsX5_pledgedBy (wsV RX5 30 RJx4a65c yJx4a65c_size_8abf5 wsJx4a65c_size_8abf5) := goodIn_app (goodIn_of _ (by decide +kernel)) ggX5_pledgedBy_Jx4a65c_size_8abf5
set_option maxRecDepth 20000 in
theorem ggX5_pledgedBy_Jx4a65c_get_915e3 : GoodIn wsX5_pledgedBy wsJx4a65c_get_915e3 := goodIn_r _ [14, 10, 15, 16, 17, 18, 19, 20, 21, 22, 23, 24, 25, 8, 26, 27, 37, 38, 39] (by decide +kernel) (by decide +kernel)
set_option maxRecDepth 20000 in
theorem gX5_pledgedBy_Jx4a65c_get_915e3 : GoodIn wsX5_pledgedBy (wsV RX5 34 RJx4a65c yJx4a65c_get_915e3 wsJx4a65c_get_915e3) := goodIn_app (goodIn_of _ (by decide +kernel)) ggX5_pledgedBy_Jx4a65c_get_915e3
theorem dX5_pledgedBy_0 : decode cX5_pledgedBy 0 = .ok (.iconst 0, 1) := by decide +kernel
theorem dX5_pledgedBy_1 : decode cX5_pledgedBy 1 = .ok (.istore_n 2, 1) := by decide +kernel
theorem dX5_pledgedBy_2 : decode cX5_pledgedBy 2 = .ok (.iconst 0, 1) := by decide +kernel
theorem dX5_pledgedBy_3 : decode cX5_pledgedBy 3 = .ok (.istore_n 3, 1) := by decide +kernel
theorem dX5_pledgedBy_4 : decode cX5_pledgedBy 4 = .ok (.iload_n 3, 1) := by decide +kernel
theorem dX5_pledgedBy_5 : decode cX5_pledgedBy 5 = .ok (.aload_n 0, 1) := by decide +kernel
theorem dX5_pledgedBy_6 : decode cX5_pledgedBy 6 = .ok (.getfield 26, 3) := by decide +kernel
theorem dX5_pledgedBy_9 : decode cX5_pledgedBy 9 = .ok (.invokevirtual 30, 3) := by decide +kernel
theorem dX5_pledgedBy_12 : decode cX5_pledgedBy 12 = .ok (.if_icmp .ge 39, 3) := by decide +kernel
theorem dX5_pledgedBy_15 : decode cX5_pledgedBy 15 = .ok (.aload_n 0, 1) := by decide +kernel
theorem dX5_pledgedBy_16 : decode cX5_pledgedBy 16 = .ok (.getfield 26, 3) := by decide +kernel
theorem dX5_pledgedBy_19 : decode cX5_pledgedBy 19 = .ok (.iload_n 3, 1) := by decide +kernel
theorem dX5_pledgedBy_20 : decode cX5_pledgedBy 20 = .ok (.invokevirtual 34, 3) := by decide +kernel
theorem dX5_pledgedBy_23 : decode cX5_pledgedBy 23 = .ok (.checkcast 38, 3) := by decide +kernel
theorem dX5_pledgedBy_26 : decode cX5_pledgedBy 26 = .ok (.astore 4, 2) := by decide +kernel
theorem dX5_pledgedBy_28 : decode cX5_pledgedBy 28 = .ok (.aload 4, 2) := by decide +kernel
theorem dX5_pledgedBy_30 : decode cX5_pledgedBy 30 = .ok (.getfield 43, 3) := by decide +kernel
theorem dX5_pledgedBy_33 : decode cX5_pledgedBy 33 = .ok (.aload_n 1, 1) := by decide +kernel
theorem dX5_pledgedBy_34 : decode cX5_pledgedBy 34 = .ok (.if_acmp .ne 11, 3) := by decide +kernel
theorem dX5_pledgedBy_37 : decode cX5_pledgedBy 37 = .ok (.iload_n 2, 1) := by decide +kernel
theorem dX5_pledgedBy_38 : decode cX5_pledgedBy 38 = .ok (.aload 4, 2) := by decide +kernel
theorem dX5_pledgedBy_40 : decode cX5_pledgedBy 40 = .ok (.getfield 40, 3) := by decide +kernel
theorem dX5_pledgedBy_43 : decode cX5_pledgedBy 43 = .ok (.iadd, 1) := by decide +kernel
theorem dX5_pledgedBy_44 : decode cX5_pledgedBy 44 = .ok (.istore_n 2, 1) := by decide +kernel
theorem dX5_pledgedBy_45 : decode cX5_pledgedBy 45 = .ok (.iinc 3 1, 3) := by decide +kernel
theorem dX5_pledgedBy_48 : decode cX5_pledgedBy 48 = .ok (.goto (-44), 3) := by decide +kernel
theorem dX5_pledgedBy_51 : decode cX5_pledgedBy 51 = .ok (.iload_n 2, 1) := by decide +kernel
theorem dX5_pledgedBy_52 : decode cX5_pledgedBy 52 = .ok (.ireturn, 1) := by decide +kernel
set_option maxRecDepth 20000 in
theorem ggX5_lacking_X5_pledged : GoodIn wsX5_lacking wsX5_pledged := goodIn_r _ [11, 12, 13, 14, 15, 16, 17, 18, 19, 20, 21, 22, 23, 24, 25, 26, 27, 28, 29, 30, 31, 32, 33, 34, 35, 36, 37, 38, 39, 40, 41, 42, 43, 44, 45, 46, 47, 48, 49] (by decide +kernel) (by decide +kernel)
set_option maxRecDepth 20000 in
theorem gX5_lacking_X5_pledged : GoodIn wsX5_lacking (wsV RX5 47 RX5 yX5_pledged wsX5_pledged) := goodIn_app (goodIn_of _ (by decide +kernel)) ggX5_lacking_X5_pledged
theorem dX5_lacking_0 : decode cX5_lacking 0 = .ok (.aload_n 0, 1) := by decide +kernel
theorem dX5_lacking_1 : decode cX5_lacking 1 = .ok (.getfield 19, 3) := by decide +kernel
theorem dX5_lacking_4 : decode cX5_lacking 4 = .ok (.ifCond .eq 19, 3) := by decide +kernel
theorem dX5_lacking_7 : decode cX5_lacking 7 = .ok (.iconst 0, 1) := by decide +kernel
theorem dX5_lacking_8 : decode cX5_lacking 8 = .ok (.aload_n 0, 1) := by decide +kernel
theorem dX5_lacking_9 : decode cX5_lacking 9 = .ok (.getfield 16, 3) := by decide +kernel
theorem dX5_lacking_12 : decode cX5_lacking 12 = .ok (.aload_n 0, 1) := by decide +kernel
theorem dX5_lacking_13 : decode cX5_lacking 13 = .ok (.invokevirtual 47, 3) := by decide +kernel
theorem dX5_lacking_16 : decode cX5_lacking 16 = .ok (.isub, 1) := by decide +kernel
theorem dX5_lacking_17 : decode cX5_lacking 17 = .ok (.invokestatic 50, 3) := by decide +kernel
theorem dX5_lacking_20 : decode cX5_lacking 20 = .ok (.goto 4, 3) := by decide +kernel
theorem dX5_lacking_23 : decode cX5_lacking 23 = .ok (.iconst 0, 1) := by decide +kernel
theorem dX5_lacking_24 : decode cX5_lacking 24 = .ok (.ireturn, 1) := by decide +kernel
set_option maxRecDepth 20000 in
theorem ggX5_isOrdered_X5_lacking : GoodIn wsX5_isOrdered wsX5_lacking := goodIn_r _ [6, 1, 7, 8, 9, 10, 11, 12, 13, 14, 5, 15, 16, 17, 18, 19, 20, 21, 22, 23, 24, 25, 26, 27, 28, 29, 30, 31, 32, 33, 34, 35, 36, 37, 38, 39, 40, 41, 42, 43, 44, 45, 46, 47, 48, 49, 50, 51, 52, 53] (by decide +kernel) (by decide +kernel)
set_option maxRecDepth 20000 in
theorem gX5_isOrdered_X5_lacking : GoodIn wsX5_isOrdered (wsV RX5 56 RX5 yX5_lacking wsX5_lacking) := goodIn_app (goodIn_of _ (by decide +kernel)) ggX5_isOrdered_X5_lacking
theorem dX5_isOrdered_0 : decode cX5_isOrdered 0 = .ok (.aload_n 0, 1) := by decide +kernel
theorem dX5_isOrdered_1 : decode cX5_isOrdered 1 = .ok (.getfield 19, 3) := by decide +kernel
theorem dX5_isOrdered_4 : decode cX5_isOrdered 4 = .ok (.ifCond .eq 14, 3) := by decide +kernel
theorem dX5_isOrdered_7 : decode cX5_isOrdered 7 = .ok (.aload_n 0, 1) := by decide +kernel
theorem dX5_isOrdered_8 : decode cX5_isOrdered 8 = .ok (.invokevirtual 56, 3) := by decide +kernel
theorem dX5_isOrdered_11 : decode cX5_isOrdered 11 = .ok (.ifCond .ne 7, 3) := by decide +kernel
theorem dX5_isOrdered_14 : decode cX5_isOrdered 14 = .ok (.iconst 1, 1) := by decide +kernel
theorem dX5_isOrdered_15 : decode cX5_isOrdered 15 = .ok (.goto 4, 3) := by decide +kernel
theorem dX5_isOrdered_18 : decode cX5_isOrdered 18 = .ok (.iconst 0, 1) := by decide +kernel
theorem dX5_isOrdered_19 : decode cX5_isOrdered 19 = .ok (.ireturn, 1) := by decide +kernel
set_option maxRecDepth 20000 in
theorem ggX6_init_Jx4a65c_init_da8c8 : GoodIn wsX6_init wsJx4a65c_init_da8c8 := goodIn_r _ [14, 15, 16, 17, 18, 19, 20, 21, 22, 23, 24, 25, 26, 2, 3, 27, 28, 29] (by decide +kernel) (by decide +kernel)
set_option maxRecDepth 20000 in
theorem gX6_init_Jx4a65c_init_da8c8 : GoodIn wsX6_init (wsJx4a65c_init_da8c8) := ggX6_init_Jx4a65c_init_da8c8
theorem dX6_init_0 : decode cX6_init 0 = .ok (.aload_n 0, 1) := by decide +kernel
theorem dX6_init_1 : decode cX6_init 1 = .ok (.invokespecial 3, 3) := by decide +kernel
theorem dX6_init_4 : decode cX6_init 4 = .ok (.aload_n 0, 1) := by decide +kernel
theorem dX6_init_5 : decode cX6_init 5 = .ok (.new 9, 3) := by decide +kernel
theorem dX6_init_8 : decode cX6_init 8 = .ok (.dup, 1) := by decide +kernel
theorem dX6_init_9 : decode cX6_init 9 = .ok (.invokespecial 11, 3) := by decide +kernel
theorem dX6_init_12 : decode cX6_init 12 = .ok (.putfield 12, 3) := by decide +kernel
theorem dX6_init_15 : decode cX6_init 15 = .ok (.aload_n 0, 1) := by decide +kernel
theorem dX6_init_16 : decode cX6_init 16 = .ok (.new 9, 3) := by decide +kernel
theorem dX6_init_19 : decode cX6_init 19 = .ok (.dup, 1) := by decide +kernel
theorem dX6_init_20 : decode cX6_init 20 = .ok (.invokespecial 11, 3) := by decide +kernel
theorem dX6_init_23 : decode cX6_init 23 = .ok (.putfield 16, 3) := by decide +kernel
theorem dX6_init_26 : decode cX6_init 26 = .ok (.aload_n 0, 1) := by decide +kernel
theorem dX6_init_27 : decode cX6_init 27 = .ok (.new 9, 3) := by decide +kernel
theorem dX6_init_30 : decode cX6_init 30 = .ok (.dup, 1) := by decide +kernel
theorem dX6_init_31 : decode cX6_init 31 = .ok (.invokespecial 11, 3) := by decide +kernel
theorem dX6_init_34 : decode cX6_init 34 = .ok (.putfield 19, 3) := by decide +kernel
theorem dX6_init_37 : decode cX6_init 37 = .ok (.aload_n 0, 1) := by decide +kernel
theorem dX6_init_38 : decode cX6_init 38 = .ok (.new 9, 3) := by decide +kernel
theorem dX6_init_41 : decode cX6_init 41 = .ok (.dup, 1) := by decide +kernel
theorem dX6_init_42 : decode cX6_init 42 = .ok (.invokespecial 11, 3) := by decide +kernel
theorem dX6_init_45 : decode cX6_init 45 = .ok (.putfield 22, 3) := by decide +kernel
theorem dX6_init_48 : decode cX6_init 48 = .ok (.aload_n 0, 1) := by decide +kernel
theorem dX6_init_49 : decode cX6_init 49 = .ok (.bipush 7, 2) := by decide +kernel
theorem dX6_init_51 : decode cX6_init 51 = .ok (.putfield 25, 3) := by decide +kernel
theorem dX6_init_54 : decode cX6_init 54 = .ok (.return_, 1) := by decide +kernel
set_option maxRecDepth 20000 in
theorem ggX6_wish_X6_addWish : GoodIn wsX6_wish wsX6_addWish := goodIn_ca (goodIn_r _ [7, 8, 9, 10, 11, 12, 13, 14, 15, 16, 6, 17, 18, 19, 20, 21, 22, 23, 24, 25, 26, 27, 28, 29, 30, 31, 32, 33, 34, 35, 36, 37, 38, 39, 40, 41, 42, 43, 44, 45, 46, 47, 48, 49, 50, 51, 52, 53, 54, 55, 56, 57, 58, 59, 60, 61, 62, 63, 64, 65, 66, 67, 68, 69, 70, 71, 72, 73, 74, 75, 76, 77, 78, 79, 80, 81, 82, 83, 84, 85, 86, 87, 88, 89, 90, 91, 92, 93, 94, 95, 96, 97, 98, 99, 100, 101, 102, 103, 104, 105, 106, 107, 108, 109, 110, 111, 112, 113, 114, 115, 116, 117, 118, 119, 120, 121, 122, 123] (by decide +kernel) (by decide +kernel)) (goodIn_sub (fun _ h => List.mem_cons_of_mem _ (List.mem_append_right _ h)) (by decide +kernel))
set_option maxRecDepth 20000 in
theorem gX6_wish_X6_addWish : GoodIn wsX6_wish (wsV RX6 38 RX6 yX6_addWish wsX6_addWish) := goodIn_app (goodIn_of _ (by decide +kernel)) ggX6_wish_X6_addWish
theorem dX6_wish_0 : decode cX6_wish 0 = .ok (.iload_n 1, 1) := by decide +kernel
theorem dX6_wish_1 : decode cX6_wish 1 = .ok (.iconst 1, 1) := by decide +kernel
theorem dX6_wish_2 : decode cX6_wish 2 = .ok (.if_icmp .lt 8, 3) := by decide +kernel
theorem dX6_wish_5 : decode cX6_wish 5 = .ok (.iload_n 1, 1) := by decide +kernel
theorem dX6_wish_6 : decode cX6_wish 6 = .ok (.iconst 5, 1) := by decide +kernel
theorem dX6_wish_7 : decode cX6_wish 7 = .ok (.if_icmp .le 13, 3) := by decide +kernel
theorem dX6_wish_10 : decode cX6_wish 10 = .ok (.new 29, 3) := by decide +kernel
theorem dX6_wish_13 : decode cX6_wish 13 = .ok (.dup, 1) := by decide +kernel
theorem dX6_wish_14 : decode cX6_wish 14 = .ok (.ldc 31, 2) := by decide +kernel
theorem dX6_wish_16 : decode cX6_wish 16 = .ok (.invokespecial 33, 3) := by decide +kernel
theorem dX6_wish_19 : decode cX6_wish 19 = .ok (.athrow, 1) := by decide +kernel
theorem dX6_wish_20 : decode cX6_wish 20 = .ok (.iload_n 2, 1) := by decide +kernel
theorem dX6_wish_21 : decode cX6_wish 21 = .ok (.iconst 1, 1) := by decide +kernel
theorem dX6_wish_22 : decode cX6_wish 22 = .ok (.if_icmp .lt 10, 3) := by decide +kernel
theorem dX6_wish_25 : decode cX6_wish 25 = .ok (.iload_n 2, 1) := by decide +kernel
theorem dX6_wish_26 : decode cX6_wish 26 = .ok (.sipush 999, 3) := by decide +kernel
theorem dX6_wish_29 : decode cX6_wish 29 = .ok (.if_icmp .le 13, 3) := by decide +kernel
theorem dX6_wish_32 : decode cX6_wish 32 = .ok (.new 29, 3) := by decide +kernel
theorem dX6_wish_35 : decode cX6_wish 35 = .ok (.dup, 1) := by decide +kernel
theorem dX6_wish_36 : decode cX6_wish 36 = .ok (.ldc 36, 2) := by decide +kernel
theorem dX6_wish_38 : decode cX6_wish 38 = .ok (.invokespecial 33, 3) := by decide +kernel
theorem dX6_wish_41 : decode cX6_wish 41 = .ok (.athrow, 1) := by decide +kernel
theorem dX6_wish_42 : decode cX6_wish 42 = .ok (.aload_n 0, 1) := by decide +kernel
theorem dX6_wish_43 : decode cX6_wish 43 = .ok (.iload_n 1, 1) := by decide +kernel
theorem dX6_wish_44 : decode cX6_wish 44 = .ok (.iload_n 2, 1) := by decide +kernel
theorem dX6_wish_45 : decode cX6_wish 45 = .ok (.iconst 0, 1) := by decide +kernel
theorem dX6_wish_46 : decode cX6_wish 46 = .ok (.invokevirtual 38, 3) := by decide +kernel
theorem dX6_wish_49 : decode cX6_wish 49 = .ok (.ireturn, 1) := by decide +kernel
set_option maxRecDepth 20000 in
theorem ggX6_shared_X6_addWish : GoodIn wsX6_shared wsX6_addWish := goodIn_ca (goodIn_r _ [7, 8, 9, 10, 11, 12, 13, 14, 15, 16, 6, 17, 18, 19, 20, 21, 22, 23, 24, 25, 26, 27, 28, 29, 30, 31, 32, 33, 34, 35, 36, 37, 38, 39, 40, 41, 42, 43, 44, 45, 46, 47, 48, 49, 50, 51, 52, 53, 54, 55, 56, 57, 58, 59, 60, 61, 62, 63, 64, 65, 66, 67, 68, 69, 70, 71, 72, 73, 74, 75, 76, 77, 78, 79, 80, 81, 82, 83, 84, 85, 86, 87, 88, 89, 90, 91, 92, 93, 94, 95, 96, 97, 98, 99, 100, 101, 102, 103, 104, 105, 106, 107, 108, 109, 110, 111, 112, 113, 114, 115, 116, 117, 118, 119, 120, 121, 122, 123] (by decide +kernel) (by decide +kernel)) (goodIn_sub (fun _ h => List.mem_cons_of_mem _ (List.mem_append_right _ h)) (by decide +kernel))
set_option maxRecDepth 20000 in
theorem gX6_shared_X6_addWish : GoodIn wsX6_shared (wsV RX6 38 RX6 yX6_addWish wsX6_addWish) := goodIn_app (goodIn_of _ (by decide +kernel)) ggX6_shared_X6_addWish
theorem dX6_shared_0 : decode cX6_shared 0 = .ok (.iload_n 1, 1) := by decide +kernel
theorem dX6_shared_1 : decode cX6_shared 1 = .ok (.iconst 1, 1) := by decide +kernel
theorem dX6_shared_2 : decode cX6_shared 2 = .ok (.if_icmp .lt 10, 3) := by decide +kernel
theorem dX6_shared_5 : decode cX6_shared 5 = .ok (.iload_n 1, 1) := by decide +kernel
theorem dX6_shared_6 : decode cX6_shared 6 = .ok (.sipush 9999, 3) := by decide +kernel
theorem dX6_shared_9 : decode cX6_shared 9 = .ok (.if_icmp .le 13, 3) := by decide +kernel
theorem dX6_shared_12 : decode cX6_shared 12 = .ok (.new 29, 3) := by decide +kernel
theorem dX6_shared_15 : decode cX6_shared 15 = .ok (.dup, 1) := by decide +kernel
theorem dX6_shared_16 : decode cX6_shared 16 = .ok (.ldc 42, 2) := by decide +kernel
theorem dX6_shared_18 : decode cX6_shared 18 = .ok (.invokespecial 33, 3) := by decide +kernel
theorem dX6_shared_21 : decode cX6_shared 21 = .ok (.athrow, 1) := by decide +kernel
theorem dX6_shared_22 : decode cX6_shared 22 = .ok (.aload_n 0, 1) := by decide +kernel
theorem dX6_shared_23 : decode cX6_shared 23 = .ok (.iconst 1, 1) := by decide +kernel
theorem dX6_shared_24 : decode cX6_shared 24 = .ok (.iload_n 1, 1) := by decide +kernel
theorem dX6_shared_25 : decode cX6_shared 25 = .ok (.iconst 1, 1) := by decide +kernel
theorem dX6_shared_26 : decode cX6_shared 26 = .ok (.invokevirtual 38, 3) := by decide +kernel
theorem dX6_shared_29 : decode cX6_shared 29 = .ok (.ireturn, 1) := by decide +kernel
set_option maxRecDepth 20000 in
theorem ggX6_addWish_X6_refuseIfCalledOff : GoodIn wsX6_addWish wsX6_refuseIfCalledOff := goodIn_ca (goodIn_r _ [11, 1, 2, 12, 99, 100, 101, 102, 103, 104, 105, 106, 107] (by decide +kernel) (by decide +kernel)) (goodIn_sub (fun _ h => List.mem_cons_of_mem _ (List.mem_append_right _ h)) (by decide +kernel))
set_option maxRecDepth 20000 in
theorem gX6_addWish_X6_refuseIfCalledOff : GoodIn wsX6_addWish (wsV RX6 44 RX6 yX6_refuseIfCalledOff wsX6_refuseIfCalledOff) := goodIn_app (goodIn_of _ (by decide +kernel)) ggX6_addWish_X6_refuseIfCalledOff
set_option maxRecDepth 20000 in
theorem ggX6_addWish_Jx4a65c_size_8abf5 : GoodIn wsX6_addWish wsJx4a65c_size_8abf5 := goodIn_r _ [17, 18, 115, 116, 117] (by decide +kernel) (by decide +kernel)
set_option maxRecDepth 20000 in
theorem gX6_addWish_Jx4a65c_size_8abf5 : GoodIn wsX6_addWish (wsV RX6 47 RJx4a65c yJx4a65c_size_8abf5 wsJx4a65c_size_8abf5) := goodIn_app (goodIn_of _ (by decide +kernel)) ggX6_addWish_Jx4a65c_size_8abf5
set_option maxRecDepth 20000 in
theorem ggX6_addWish_X5_init : GoodIn wsX6_addWish wsX5_init := goodIn_r _ [21, 22, 23, 24, 25, 26, 27, 28, 29, 30, 16, 31, 32, 33, 34, 35, 36, 37, 38, 39, 40, 41, 42, 43, 44, 45, 46, 108, 109, 110, 111, 112, 113, 114, 115, 116, 117] (by decide +kernel) (by decide +kernel)
set_option maxRecDepth 20000 in
theorem gX6_addWish_X5_init : GoodIn wsX6_addWish (wsX5_init) := ggX6_addWish_X5_init
set_option maxRecDepth 20000 in
theorem ggX6_addWish_Jx4a65c_add_9ea2d : GoodIn wsX6_addWish wsJx4a65c_add_9ea2d := goodIn_r _ [50, 51, 52, 36, 18, 53, 54, 55, 16, 56, 57, 58, 59, 60, 61, 62, 63, 64, 35, 65, 66, 67, 68, 69, 70, 71, 72, 73, 74, 75, 76, 77, 78, 79, 80, 81, 82, 83, 84, 85, 86, 87, 88, 89, 90, 91, 92, 93, 94, 95, 96, 97, 98, 115, 116, 117] (by decide +kernel) (by decide +kernel)
set_option maxRecDepth 20000 in
theorem gX6_addWish_Jx4a65c_add_9ea2d : GoodIn wsX6_addWish (wsV RX6 61 RJx4a65c yJx4a65c_add_9ea2d wsJx4a65c_add_9ea2d) := goodIn_app (goodIn_of _ (by decide +kernel)) ggX6_addWish_Jx4a65c_add_9ea2d
theorem dX6_addWish_0 : decode cX6_addWish 0 = .ok (.aload_n 0, 1) := by decide +kernel
theorem dX6_addWish_1 : decode cX6_addWish 1 = .ok (.invokevirtual 44, 3) := by decide +kernel
theorem dX6_addWish_4 : decode cX6_addWish 4 = .ok (.aload_n 0, 1) := by decide +kernel
theorem dX6_addWish_5 : decode cX6_addWish 5 = .ok (.getfield 12, 3) := by decide +kernel
theorem dX6_addWish_8 : decode cX6_addWish 8 = .ok (.invokevirtual 47, 3) := by decide +kernel
theorem dX6_addWish_11 : decode cX6_addWish 11 = .ok (.istore 4, 2) := by decide +kernel
theorem dX6_addWish_13 : decode cX6_addWish 13 = .ok (.iload 4, 2) := by decide +kernel
theorem dX6_addWish_15 : decode cX6_addWish 15 = .ok (.bipush 8, 2) := by decide +kernel
theorem dX6_addWish_17 : decode cX6_addWish 17 = .ok (.if_icmp .lt 13, 3) := by decide +kernel
theorem dX6_addWish_20 : decode cX6_addWish 20 = .ok (.new 51, 3) := by decide +kernel
theorem dX6_addWish_23 : decode cX6_addWish 23 = .ok (.dup, 1) := by decide +kernel
theorem dX6_addWish_24 : decode cX6_addWish 24 = .ok (.ldc 53, 2) := by decide +kernel
theorem dX6_addWish_26 : decode cX6_addWish 26 = .ok (.invokespecial 55, 3) := by decide +kernel
theorem dX6_addWish_29 : decode cX6_addWish 29 = .ok (.athrow, 1) := by decide +kernel
theorem dX6_addWish_30 : decode cX6_addWish 30 = .ok (.aload_n 0, 1) := by decide +kernel
theorem dX6_addWish_31 : decode cX6_addWish 31 = .ok (.getfield 12, 3) := by decide +kernel
theorem dX6_addWish_34 : decode cX6_addWish 34 = .ok (.new 56, 3) := by decide +kernel
theorem dX6_addWish_37 : decode cX6_addWish 37 = .ok (.dup, 1) := by decide +kernel
theorem dX6_addWish_38 : decode cX6_addWish 38 = .ok (.iload 4, 2) := by decide +kernel
theorem dX6_addWish_40 : decode cX6_addWish 40 = .ok (.iload_n 1, 1) := by decide +kernel
theorem dX6_addWish_41 : decode cX6_addWish 41 = .ok (.iload_n 2, 1) := by decide +kernel
theorem dX6_addWish_42 : decode cX6_addWish 42 = .ok (.iload_n 3, 1) := by decide +kernel
theorem dX6_addWish_43 : decode cX6_addWish 43 = .ok (.invokespecial 58, 3) := by decide +kernel
theorem dX6_addWish_46 : decode cX6_addWish 46 = .ok (.invokevirtual 61, 3) := by decide +kernel
theorem dX6_addWish_49 : decode cX6_addWish 49 = .ok (.pop, 1) := by decide +kernel
theorem dX6_addWish_50 : decode cX6_addWish 50 = .ok (.iload 4, 2) := by decide +kernel
theorem dX6_addWish_52 : decode cX6_addWish 52 = .ok (.ireturn, 1) := by decide +kernel
set_option maxRecDepth 20000 in
theorem ggX6_guest_Jx4a65c_size_8abf5 : GoodIn wsX6_guest wsJx4a65c_size_8abf5 := goodIn_r _ [13, 14, 88, 89, 90] (by decide +kernel) (by decide +kernel)
set_option maxRecDepth 20000 in
theorem gX6_guest_Jx4a65c_size_8abf5 : GoodIn wsX6_guest (wsV RX6 47 RJx4a65c yJx4a65c_size_8abf5 wsJx4a65c_size_8abf5) := goodIn_app (goodIn_of _ (by decide +kernel)) ggX6_guest_Jx4a65c_size_8abf5
set_option maxRecDepth 20000 in
theorem ggX6_guest_X2_init : GoodIn wsX6_guest wsX2_init := goodIn_r _ [17, 18, 19, 20, 21, 22, 86, 87] (by decide +kernel) (by decide +kernel)
set_option maxRecDepth 20000 in
theorem gX6_guest_X2_init : GoodIn wsX6_guest (wsX2_init) := ggX6_guest_X2_init
set_option maxRecDepth 20000 in
theorem ggX6_guest_Jx4a65c_add_9ea2d : GoodIn wsX6_guest wsJx4a65c_add_9ea2d := goodIn_r _ [26, 27, 28, 29, 14, 30, 31, 32, 12, 33, 34, 35, 36, 37, 38, 39, 40, 41, 42, 43, 44, 45, 46, 47, 48, 49, 50, 51, 52, 53, 54, 55, 56, 57, 58, 59, 60, 61, 62, 63, 64, 65, 66, 67, 68, 69, 70, 71, 72, 73, 74, 75, 76, 88, 89, 90] (by decide +kernel) (by decide +kernel)
set_option maxRecDepth 20000 in
theorem gX6_guest_Jx4a65c_add_9ea2d : GoodIn wsX6_guest (wsV RX6 61 RJx4a65c yJx4a65c_add_9ea2d wsJx4a65c_add_9ea2d) := goodIn_app (goodIn_of _ (by decide +kernel)) ggX6_guest_Jx4a65c_add_9ea2d
theorem dX6_guest_0 : decode cX6_guest 0 = .ok (.iload_n 1, 1) := by decide +kernel
theorem dX6_guest_1 : decode cX6_guest 1 = .ok (.ifCond .lt 10, 3) := by decide +kernel
theorem dX6_guest_4 : decode cX6_guest 4 = .ok (.iload_n 1, 1) := by decide +kernel
theorem dX6_guest_5 : decode cX6_guest 5 = .ok (.sipush 9999, 3) := by decide +kernel
theorem dX6_guest_8 : decode cX6_guest 8 = .ok (.if_icmp .le 13, 3) := by decide +kernel
theorem dX6_guest_11 : decode cX6_guest 11 = .ok (.new 29, 3) := by decide +kernel
theorem dX6_guest_14 : decode cX6_guest 14 = .ok (.dup, 1) := by decide +kernel
theorem dX6_guest_15 : decode cX6_guest 15 = .ok (.ldc 65, 2) := by decide +kernel
theorem dX6_guest_17 : decode cX6_guest 17 = .ok (.invokespecial 33, 3) := by decide +kernel
theorem dX6_guest_20 : decode cX6_guest 20 = .ok (.athrow, 1) := by decide +kernel
theorem dX6_guest_21 : decode cX6_guest 21 = .ok (.aload_n 0, 1) := by decide +kernel
theorem dX6_guest_22 : decode cX6_guest 22 = .ok (.getfield 16, 3) := by decide +kernel
theorem dX6_guest_25 : decode cX6_guest 25 = .ok (.invokevirtual 47, 3) := by decide +kernel
theorem dX6_guest_28 : decode cX6_guest 28 = .ok (.istore_n 2, 1) := by decide +kernel
theorem dX6_guest_29 : decode cX6_guest 29 = .ok (.iload_n 2, 1) := by decide +kernel
theorem dX6_guest_30 : decode cX6_guest 30 = .ok (.bipush 6, 2) := by decide +kernel
theorem dX6_guest_32 : decode cX6_guest 32 = .ok (.if_icmp .lt 13, 3) := by decide +kernel
theorem dX6_guest_35 : decode cX6_guest 35 = .ok (.new 51, 3) := by decide +kernel
theorem dX6_guest_38 : decode cX6_guest 38 = .ok (.dup, 1) := by decide +kernel
theorem dX6_guest_39 : decode cX6_guest 39 = .ok (.ldc 67, 2) := by decide +kernel
theorem dX6_guest_41 : decode cX6_guest 41 = .ok (.invokespecial 55, 3) := by decide +kernel
theorem dX6_guest_44 : decode cX6_guest 44 = .ok (.athrow, 1) := by decide +kernel
theorem dX6_guest_45 : decode cX6_guest 45 = .ok (.aload_n 0, 1) := by decide +kernel
theorem dX6_guest_46 : decode cX6_guest 46 = .ok (.getfield 16, 3) := by decide +kernel
theorem dX6_guest_49 : decode cX6_guest 49 = .ok (.new 69, 3) := by decide +kernel
theorem dX6_guest_52 : decode cX6_guest 52 = .ok (.dup, 1) := by decide +kernel
theorem dX6_guest_53 : decode cX6_guest 53 = .ok (.iload_n 2, 1) := by decide +kernel
theorem dX6_guest_54 : decode cX6_guest 54 = .ok (.iload_n 1, 1) := by decide +kernel
theorem dX6_guest_55 : decode cX6_guest 55 = .ok (.invokespecial 71, 3) := by decide +kernel
theorem dX6_guest_58 : decode cX6_guest 58 = .ok (.invokevirtual 61, 3) := by decide +kernel
theorem dX6_guest_61 : decode cX6_guest 61 = .ok (.pop, 1) := by decide +kernel
theorem dX6_guest_62 : decode cX6_guest 62 = .ok (.iload_n 2, 1) := by decide +kernel
theorem dX6_guest_63 : decode cX6_guest 63 = .ok (.ireturn, 1) := by decide +kernel
set_option maxRecDepth 20000 in
theorem ggX6_price_X6_wishNumbered : GoodIn wsX6_price wsX6_wishNumbered := goodIn_ca (goodIn_r _ [9, 10, 11, 12, 13, 14, 15, 16, 17, 18, 19, 20, 21, 22, 23, 24, 25, 26, 27, 28, 29, 30, 31, 32, 33, 34, 35, 36, 113, 114, 115, 116, 117, 118, 119, 120, 121, 122, 123, 124] (by decide +kernel) (by decide +kernel)) (goodIn_sub (fun _ h => List.mem_cons_of_mem _ (List.mem_append_left _ (List.mem_append_right _ h))) (by decide +kernel))
set_option maxRecDepth 20000 in
theorem gX6_price_X6_wishNumbered : GoodIn wsX6_price (wsV RX6 74 RX6 yX6_wishNumbered wsX6_wishNumbered) := goodIn_app (goodIn_of _ (by decide +kernel)) ggX6_price_X6_wishNumbered
set_option maxRecDepth 20000 in
theorem ggX6_price_X6_refuseIfSettled : GoodIn wsX6_price wsX6_refuseIfSettled := goodIn_ca (goodIn_r _ [40, 41, 42, 43, 44, 45, 46, 8, 47, 48, 49, 50, 51, 52, 53, 54, 55, 56, 57, 58, 59, 60, 61, 62, 63, 64, 65, 66, 67, 68, 69, 70, 71, 15, 16, 17, 18, 19, 72, 21, 22, 23, 24, 25, 26, 27, 28, 29, 30, 31, 32, 33, 34, 35, 36, 106, 107, 108, 109, 110, 111, 112, 113, 114, 115, 116, 117, 118, 119, 120, 121, 125, 126, 122, 123, 124] (by decide +kernel) (by decide +kernel)) (goodIn_sub (fun _ h => List.mem_cons_of_mem _ (List.mem_append_right _ h)) (by decide +kernel))
set_option maxRecDepth 20000 in
theorem gX6_price_X6_refuseIfSettled : GoodIn wsX6_price (wsV RX6 84 RX6 yX6_refuseIfSettled wsX6_refuseIfSettled) := goodIn_app (goodIn_of _ (by decide +kernel)) ggX6_price_X6_refuseIfSettled
set_option maxRecDepth 20000 in
theorem ggX6_price_X5_pledged : GoodIn wsX6_price wsX5_pledged := goodIn_r _ [67, 68, 69, 70, 71, 15, 16, 17, 18, 19, 72, 21, 22, 23, 24, 25, 26, 27, 28, 29, 30, 31, 32, 33, 34, 35, 36, 106, 107, 108, 109, 110, 111, 112, 125, 126, 122, 123, 124] (by decide +kernel) (by decide +kernel)
set_option maxRecDepth 20000 in
theorem gX6_price_X5_pledged : GoodIn wsX6_price (wsV RX6 91 RX5 yX5_pledged wsX5_pledged) := goodIn_app (goodIn_of _ (by decide +kernel)) ggX6_price_X5_pledged
set_option maxRecDepth 20000 in
theorem ggX6_price_X6_sendPledgesBack : GoodIn wsX6_price wsX6_sendPledgesBack := goodIn_r _ [77, 78, 61, 62, 63, 79, 80, 81, 82, 83, 84, 85, 14, 15, 16, 17, 18, 19, 20, 21, 22, 23, 24, 25, 26, 27, 28, 29, 30, 31, 32, 33, 34, 35, 36, 86, 87, 88, 8, 89, 90, 91, 92, 93, 94, 95, 96, 97, 98, 99, 100, 101, 102, 103, 104, 105, 106, 107, 108, 109, 110, 111, 112, 125, 126, 122, 123, 124, 127, 128, 113, 114, 115, 116, 117, 118, 119, 120, 121] (by decide +kernel) (by decide +kernel)
set_option maxRecDepth 20000 in
theorem gX6_price_X6_sendPledgesBack : GoodIn wsX6_price (wsV RX6 94 RX6 yX6_sendPledgesBack wsX6_sendPledgesBack) := goodIn_app (goodIn_of _ (by decide +kernel)) ggX6_price_X6_sendPledgesBack
theorem dX6_price_0 : decode cX6_price 0 = .ok (.aload_n 0, 1) := by decide +kernel
theorem dX6_price_1 : decode cX6_price 1 = .ok (.iload_n 1, 1) := by decide +kernel
theorem dX6_price_2 : decode cX6_price 2 = .ok (.invokevirtual 74, 3) := by decide +kernel
theorem dX6_price_5 : decode cX6_price 5 = .ok (.astore_n 3, 1) := by decide +kernel
theorem dX6_price_6 : decode cX6_price 6 = .ok (.iload_n 2, 1) := by decide +kernel
theorem dX6_price_7 : decode cX6_price 7 = .ok (.iconst 1, 1) := by decide +kernel
theorem dX6_price_8 : decode cX6_price 8 = .ok (.if_icmp .lt 23, 3) := by decide +kernel
theorem dX6_price_11 : decode cX6_price 11 = .ok (.iload_n 2, 1) := by decide +kernel
theorem dX6_price_12 : decode cX6_price 12 = .ok (.aload_n 3, 1) := by decide +kernel
theorem dX6_price_13 : decode cX6_price 13 = .ok (.getfield 78, 3) := by decide +kernel
theorem dX6_price_16 : decode cX6_price 16 = .ok (.ifCond .eq 9, 3) := by decide +kernel
theorem dX6_price_19 : decode cX6_price 19 = .ok (.sipush 9999, 3) := by decide +kernel
theorem dX6_price_22 : decode cX6_price 22 = .ok (.goto 6, 3) := by decide +kernel
theorem dX6_price_25 : decode cX6_price 25 = .ok (.sipush 999, 3) := by decide +kernel
theorem dX6_price_28 : decode cX6_price 28 = .ok (.if_icmp .le 13, 3) := by decide +kernel
theorem dX6_price_31 : decode cX6_price 31 = .ok (.new 29, 3) := by decide +kernel
theorem dX6_price_34 : decode cX6_price 34 = .ok (.dup, 1) := by decide +kernel
theorem dX6_price_35 : decode cX6_price 35 = .ok (.ldc 82, 2) := by decide +kernel
theorem dX6_price_37 : decode cX6_price 37 = .ok (.invokespecial 33, 3) := by decide +kernel
theorem dX6_price_40 : decode cX6_price 40 = .ok (.athrow, 1) := by decide +kernel
theorem dX6_price_41 : decode cX6_price 41 = .ok (.aload_n 0, 1) := by decide +kernel
theorem dX6_price_42 : decode cX6_price 42 = .ok (.aload_n 3, 1) := by decide +kernel
theorem dX6_price_43 : decode cX6_price 43 = .ok (.invokevirtual 84, 3) := by decide +kernel
theorem dX6_price_46 : decode cX6_price 46 = .ok (.aload_n 3, 1) := by decide +kernel
theorem dX6_price_47 : decode cX6_price 47 = .ok (.iload_n 2, 1) := by decide +kernel
theorem dX6_price_48 : decode cX6_price 48 = .ok (.putfield 88, 3) := by decide +kernel
theorem dX6_price_51 : decode cX6_price 51 = .ok (.aload_n 0, 1) := by decide +kernel
theorem dX6_price_52 : decode cX6_price 52 = .ok (.aload_n 3, 1) := by decide +kernel
theorem dX6_price_53 : decode cX6_price 53 = .ok (.aload_n 3, 1) := by decide +kernel
theorem dX6_price_54 : decode cX6_price 54 = .ok (.invokevirtual 91, 3) := by decide +kernel
theorem dX6_price_57 : decode cX6_price 57 = .ok (.iload_n 2, 1) := by decide +kernel
theorem dX6_price_58 : decode cX6_price 58 = .ok (.isub, 1) := by decide +kernel
theorem dX6_price_59 : decode cX6_price 59 = .ok (.invokevirtual 94, 3) := by decide +kernel
theorem dX6_price_62 : decode cX6_price 62 = .ok (.ireturn, 1) := by decide +kernel
set_option maxRecDepth 20000 in
theorem ggX6_strike_X6_wishNumbered : GoodIn wsX6_strike wsX6_wishNumbered := goodIn_ca (goodIn_r _ [6, 7, 8, 9, 10, 11, 12, 13, 14, 15, 16, 17, 18, 19, 20, 21, 22, 23, 24, 25, 26, 27, 28, 29, 30, 31, 32, 33, 109, 110, 111, 112, 113, 114, 115, 116, 117, 118, 119, 120] (by decide +kernel) (by decide +kernel)) (goodIn_sub (fun _ h => List.mem_cons_of_mem _ (List.mem_append_left _ (List.mem_append_right _ h))) (by decide +kernel))
set_option maxRecDepth 20000 in
theorem gX6_strike_X6_wishNumbered : GoodIn wsX6_strike (wsV RX6 74 RX6 yX6_wishNumbered wsX6_wishNumbered) := goodIn_app (goodIn_of _ (by decide +kernel)) ggX6_strike_X6_wishNumbered
set_option maxRecDepth 20000 in
theorem ggX6_strike_X6_refuseIfSettled : GoodIn wsX6_strike wsX6_refuseIfSettled := goodIn_ca (goodIn_r _ [37, 38, 39, 1, 40, 41, 42, 5, 43, 44, 45, 46, 47, 48, 49, 50, 51, 52, 53, 54, 55, 56, 57, 58, 59, 60, 61, 62, 63, 64, 65, 66, 67, 12, 13, 14, 15, 16, 68, 18, 19, 20, 21, 22, 23, 24, 25, 26, 27, 28, 29, 30, 31, 32, 33, 102, 103, 104, 105, 106, 107, 108, 109, 110, 111, 112, 113, 114, 115, 116, 117, 121, 122, 118, 119, 120] (by decide +kernel) (by decide +kernel)) (goodIn_sub (fun _ h => List.mem_cons_of_mem _ (List.mem_append_right _ h)) (by decide +kernel))
set_option maxRecDepth 20000 in
theorem gX6_strike_X6_refuseIfSettled : GoodIn wsX6_strike (wsV RX6 84 RX6 yX6_refuseIfSettled wsX6_refuseIfSettled) := goodIn_app (goodIn_of _ (by decide +kernel)) ggX6_strike_X6_refuseIfSettled
set_option maxRecDepth 20000 in
theorem ggX6_strike_X5_pledged : GoodIn wsX6_strike wsX5_pledged := goodIn_r _ [63, 64, 65, 66, 67, 12, 13, 14, 15, 16, 68, 18, 19, 20, 21, 22, 23, 24, 25, 26, 27, 28, 29, 30, 31, 32, 33, 102, 103, 104, 105, 106, 107, 108, 121, 122, 118, 119, 120] (by decide +kernel) (by decide +kernel)
set_option maxRecDepth 20000 in
theorem gX6_strike_X5_pledged : GoodIn wsX6_strike (wsV RX6 91 RX5 yX5_pledged wsX5_pledged) := goodIn_app (goodIn_of _ (by decide +kernel)) ggX6_strike_X5_pledged
set_option maxRecDepth 20000 in
theorem ggX6_strike_X6_sendPledgesBack : GoodIn wsX6_strike wsX6_sendPledgesBack := goodIn_r _ [73, 74, 57, 58, 59, 75, 76, 77, 78, 79, 80, 81, 11, 12, 13, 14, 15, 16, 17, 18, 19, 20, 21, 22, 23, 24, 25, 26, 27, 28, 29, 30, 31, 32, 33, 82, 83, 84, 5, 85, 86, 87, 88, 89, 90, 91, 92, 93, 94, 95, 96, 97, 98, 99, 100, 101, 102, 103, 104, 105, 106, 107, 108, 121, 122, 118, 119, 120, 123, 124, 109, 110, 111, 112, 113, 114, 115, 116, 117] (by decide +kernel) (by decide +kernel)
set_option maxRecDepth 20000 in
theorem gX6_strike_X6_sendPledgesBack : GoodIn wsX6_strike (wsV RX6 94 RX6 yX6_sendPledgesBack wsX6_sendPledgesBack) := goodIn_app (goodIn_of _ (by decide +kernel)) ggX6_strike_X6_sendPledgesBack
theorem dX6_strike_0 : decode cX6_strike 0 = .ok (.aload_n 0, 1) := by decide +kernel
theorem dX6_strike_1 : decode cX6_strike 1 = .ok (.iload_n 1, 1) := by decide +kernel
theorem dX6_strike_2 : decode cX6_strike 2 = .ok (.invokevirtual 74, 3) := by decide +kernel
theorem dX6_strike_5 : decode cX6_strike 5 = .ok (.astore_n 2, 1) := by decide +kernel
theorem dX6_strike_6 : decode cX6_strike 6 = .ok (.aload_n 0, 1) := by decide +kernel
theorem dX6_strike_7 : decode cX6_strike 7 = .ok (.aload_n 2, 1) := by decide +kernel
theorem dX6_strike_8 : decode cX6_strike 8 = .ok (.invokevirtual 84, 3) := by decide +kernel
theorem dX6_strike_11 : decode cX6_strike 11 = .ok (.aload_n 2, 1) := by decide +kernel
theorem dX6_strike_12 : decode cX6_strike 12 = .ok (.iconst 1, 1) := by decide +kernel
theorem dX6_strike_13 : decode cX6_strike 13 = .ok (.putfield 98, 3) := by decide +kernel
theorem dX6_strike_16 : decode cX6_strike 16 = .ok (.aload_n 0, 1) := by decide +kernel
theorem dX6_strike_17 : decode cX6_strike 17 = .ok (.aload_n 2, 1) := by decide +kernel
theorem dX6_strike_18 : decode cX6_strike 18 = .ok (.aload_n 2, 1) := by decide +kernel
theorem dX6_strike_19 : decode cX6_strike 19 = .ok (.invokevirtual 91, 3) := by decide +kernel
theorem dX6_strike_22 : decode cX6_strike 22 = .ok (.invokevirtual 94, 3) := by decide +kernel
theorem dX6_strike_25 : decode cX6_strike 25 = .ok (.ireturn, 1) := by decide +kernel
set_option maxRecDepth 20000 in
theorem ggX6_apart_X6_checkTill : GoodIn wsX6_apart wsX6_checkTill := goodIn_ca (goodIn_r _ [7, 8, 9] (by decide +kernel) (by decide +kernel)) (goodIn_sub (fun _ h => List.mem_cons_of_mem _ (List.mem_append_right _ h)) (by decide +kernel))
set_option maxRecDepth 20000 in
theorem gX6_apart_X6_checkTill : GoodIn wsX6_apart (va_wsS RX6 101 yX6_checkTill wsX6_checkTill) := goodIn_app (goodIn_of _ (by decide +kernel)) ggX6_apart_X6_checkTill
set_option maxRecDepth 20000 in
theorem ggX6_apart_X6_refuseIfCalledOff : GoodIn wsX6_apart wsX6_refuseIfCalledOff := goodIn_ca (goodIn_r _ [13, 1, 2, 14, 26, 27, 28, 29, 30, 31, 32, 33, 34] (by decide +kernel) (by decide +kernel)) (goodIn_sub (fun _ h => List.mem_cons_of_mem _ (List.mem_append_left _ (List.mem_append_right _ h))) (by decide +kernel))
set_option maxRecDepth 20000 in
theorem gX6_apart_X6_refuseIfCalledOff : GoodIn wsX6_apart (wsV RX6 44 RX6 yX6_refuseIfCalledOff wsX6_refuseIfCalledOff) := goodIn_app (goodIn_of _ (by decide +kernel)) ggX6_apart_X6_refuseIfCalledOff
set_option maxRecDepth 20000 in
theorem ggX6_apart_X6_isJoined : GoodIn wsX6_apart wsX6_isJoined := goodIn_r _ [18, 3, 26, 27, 28, 29, 30, 31, 32, 33, 34] (by decide +kernel) (by decide +kernel)
set_option maxRecDepth 20000 in
theorem gX6_apart_X6_isJoined : GoodIn wsX6_apart (wsV RX6 105 RX6 yX6_isJoined wsX6_isJoined) := goodIn_app (goodIn_of _ (by decide +kernel)) ggX6_apart_X6_isJoined
set_option maxRecDepth 20000 in
theorem ggX6_apart_J6_bitCount_0f7a4 : GoodIn wsX6_apart wsJ6_bitCount_0f7a4 := goodIn_r _ [22, 23, 24, 25] (by decide +kernel) (by decide +kernel)
set_option maxRecDepth 20000 in
theorem gX6_apart_J6_bitCount_0f7a4 : GoodIn wsX6_apart (va_wsS RX6 111 yJ6_bitCount_0f7a4 wsJ6_bitCount_0f7a4) := goodIn_app (goodIn_of _ (by decide +kernel)) ggX6_apart_J6_bitCount_0f7a4
theorem dX6_apart_0 : decode cX6_apart 0 = .ok (.iload_n 1, 1) := by decide +kernel
theorem dX6_apart_1 : decode cX6_apart 1 = .ok (.invokestatic 101, 3) := by decide +kernel
theorem dX6_apart_4 : decode cX6_apart 4 = .ok (.aload_n 0, 1) := by decide +kernel
theorem dX6_apart_5 : decode cX6_apart 5 = .ok (.invokevirtual 44, 3) := by decide +kernel
theorem dX6_apart_8 : decode cX6_apart 8 = .ok (.aload_n 0, 1) := by decide +kernel
theorem dX6_apart_9 : decode cX6_apart 9 = .ok (.iload_n 1, 1) := by decide +kernel
theorem dX6_apart_10 : decode cX6_apart 10 = .ok (.invokevirtual 105, 3) := by decide +kernel
theorem dX6_apart_13 : decode cX6_apart 13 = .ok (.ifCond .ne 13, 3) := by decide +kernel
theorem dX6_apart_16 : decode cX6_apart 16 = .ok (.new 51, 3) := by decide +kernel
theorem dX6_apart_19 : decode cX6_apart 19 = .ok (.dup, 1) := by decide +kernel
theorem dX6_apart_20 : decode cX6_apart 20 = .ok (.ldc 109, 2) := by decide +kernel
theorem dX6_apart_22 : decode cX6_apart 22 = .ok (.invokespecial 55, 3) := by decide +kernel
theorem dX6_apart_25 : decode cX6_apart 25 = .ok (.athrow, 1) := by decide +kernel
theorem dX6_apart_26 : decode cX6_apart 26 = .ok (.aload_n 0, 1) := by decide +kernel
theorem dX6_apart_27 : decode cX6_apart 27 = .ok (.dup, 1) := by decide +kernel
theorem dX6_apart_28 : decode cX6_apart 28 = .ok (.getfield 25, 3) := by decide +kernel
theorem dX6_apart_31 : decode cX6_apart 31 = .ok (.iconst 1, 1) := by decide +kernel
theorem dX6_apart_32 : decode cX6_apart 32 = .ok (.iload_n 1, 1) := by decide +kernel
theorem dX6_apart_33 : decode cX6_apart 33 = .ok (.ishl, 1) := by decide +kernel
theorem dX6_apart_34 : decode cX6_apart 34 = .ok (.iconst (-1), 1) := by decide +kernel
theorem dX6_apart_35 : decode cX6_apart 35 = .ok (.ixor, 1) := by decide +kernel
theorem dX6_apart_36 : decode cX6_apart 36 = .ok (.iand, 1) := by decide +kernel
theorem dX6_apart_37 : decode cX6_apart 37 = .ok (.putfield 25, 3) := by decide +kernel
theorem dX6_apart_40 : decode cX6_apart 40 = .ok (.aload_n 0, 1) := by decide +kernel
theorem dX6_apart_41 : decode cX6_apart 41 = .ok (.getfield 25, 3) := by decide +kernel
theorem dX6_apart_44 : decode cX6_apart 44 = .ok (.invokestatic 111, 3) := by decide +kernel
theorem dX6_apart_47 : decode cX6_apart 47 = .ok (.ireturn, 1) := by decide +kernel
set_option maxRecDepth 20000 in
theorem ggX6_join_X6_checkTill : GoodIn wsX6_join wsX6_checkTill := goodIn_ca (goodIn_r _ [9, 10, 11] (by decide +kernel) (by decide +kernel)) (goodIn_sub (fun _ h => List.mem_cons_of_mem _ (List.mem_append_right _ h)) (by decide +kernel))
set_option maxRecDepth 20000 in
theorem gX6_join_X6_checkTill : GoodIn wsX6_join (va_wsS RX6 101 yX6_checkTill wsX6_checkTill) := goodIn_app (goodIn_of _ (by decide +kernel)) ggX6_join_X6_checkTill
set_option maxRecDepth 20000 in
theorem ggX6_join_X6_refuseIfCalledOff : GoodIn wsX6_join wsX6_refuseIfCalledOff := goodIn_ca (goodIn_r _ [15, 1, 2, 16, 118, 119, 120, 121, 122, 123, 124, 125, 126] (by decide +kernel) (by decide +kernel)) (goodIn_sub (fun _ h => List.mem_cons_of_mem _ (List.mem_append_left _ (List.mem_append_right _ h))) (by decide +kernel))
set_option maxRecDepth 20000 in
theorem gX6_join_X6_refuseIfCalledOff : GoodIn wsX6_join (wsV RX6 44 RX6 yX6_refuseIfCalledOff wsX6_refuseIfCalledOff) := goodIn_app (goodIn_of _ (by decide +kernel)) ggX6_join_X6_refuseIfCalledOff
set_option maxRecDepth 20000 in
theorem ggX6_join_X6_isJoined : GoodIn wsX6_join wsX6_isJoined := goodIn_r _ [20, 3, 118, 119, 120, 121, 122, 123, 124, 125, 126] (by decide +kernel) (by decide +kernel)
set_option maxRecDepth 20000 in
theorem gX6_join_X6_isJoined : GoodIn wsX6_join (wsV RX6 105 RX6 yX6_isJoined wsX6_isJoined) := goodIn_app (goodIn_of _ (by decide +kernel)) ggX6_join_X6_isJoined
set_option maxRecDepth 20000 in
theorem ggX6_join_X6_showAllDeeds : GoodIn wsX6_join wsX6_showAllDeeds := goodIn_r _ [24, 25, 26, 3, 27, 28, 29, 30, 31, 32, 33, 34, 35, 36, 37, 38, 39, 40, 41, 42, 43, 44, 45, 46, 47, 48, 49, 50, 51, 52, 53, 54, 55, 56, 57, 58, 59, 60, 61, 62, 63, 118, 119, 120, 121, 122, 123, 124, 125, 126, 127, 128, 129, 130, 131, 132, 133, 134, 135, 136, 137, 138, 139, 140, 141, 142, 143, 144, 145, 146] (by decide +kernel) (by decide +kernel)
set_option maxRecDepth 20000 in
theorem gX6_join_X6_showAllDeeds : GoodIn wsX6_join (wsV RX6 119 RX6 yX6_showAllDeeds wsX6_showAllDeeds) := goodIn_app (goodIn_of _ (by decide +kernel)) ggX6_join_X6_showAllDeeds
set_option maxRecDepth 20000 in
theorem ggX6_join_Jx4a65c_size_8abf5 : GoodIn wsX6_join wsJx4a65c_size_8abf5 := goodIn_r _ [33, 34, 127, 128, 129] (by decide +kernel) (by decide +kernel)
set_option maxRecDepth 20000 in
theorem gX6_join_Jx4a65c_size_8abf5 : GoodIn wsX6_join (wsV RX6 47 RJx4a65c yJx4a65c_size_8abf5 wsJx4a65c_size_8abf5) := goodIn_app (goodIn_of _ (by decide +kernel)) ggX6_join_Jx4a65c_size_8abf5
set_option maxRecDepth 20000 in
theorem ggX6_join_Jx4a65c_get_915e3 : GoodIn wsX6_join wsJx4a65c_get_915e3 := goodIn_r _ [38, 34, 39, 40, 41, 42, 43, 44, 45, 46, 47, 48, 49, 32, 50, 51, 127, 128, 129] (by decide +kernel) (by decide +kernel)
set_option maxRecDepth 20000 in
theorem gX6_join_Jx4a65c_get_915e3 : GoodIn wsX6_join (wsV RX6 122 RJx4a65c yJx4a65c_get_915e3 wsJx4a65c_get_915e3) := goodIn_app (goodIn_of _ (by decide +kernel)) ggX6_join_Jx4a65c_get_915e3
set_option maxRecDepth 20000 in
theorem ggX6_join_X6_takeBackTooMany : GoodIn wsX6_join wsX6_takeBackTooMany := goodIn_r _ [67, 68, 69, 70, 8, 71, 25, 26, 72, 73, 74, 75, 76, 77, 78, 79, 80, 29, 30, 31, 32, 33, 34, 35, 36, 37, 38, 39, 40, 41, 42, 43, 44, 45, 46, 47, 48, 49, 50, 51, 81, 82, 83, 84, 85, 86, 87, 88, 89, 90, 56, 91, 59, 92, 93, 94, 95, 96, 97, 98, 99, 100, 101, 102, 103, 104, 105, 106, 107, 108, 109, 110, 111, 112, 113, 114, 115, 116, 117, 118, 119, 120, 121, 122, 123, 124, 125, 126, 130, 131, 132, 133, 134, 135, 136, 137, 138, 139, 140, 141, 142, 143, 144, 145, 146, 147, 148, 149, 150, 151, 152, 153, 127, 128, 129, 154, 155] (by decide +kernel) (by decide +kernel)
set_option maxRecDepth 20000 in
theorem gX6_join_X6_takeBackTooMany : GoodIn wsX6_join (wsV RX6 126 RX6 yX6_takeBackTooMany wsX6_takeBackTooMany) := goodIn_app (goodIn_of _ (by decide +kernel)) ggX6_join_X6_takeBackTooMany
theorem dX6_join_0 : decode cX6_join 0 = .ok (.iload_n 1, 1) := by decide +kernel
theorem dX6_join_1 : decode cX6_join 1 = .ok (.invokestatic 101, 3) := by decide +kernel
theorem dX6_join_4 : decode cX6_join 4 = .ok (.aload_n 0, 1) := by decide +kernel
theorem dX6_join_5 : decode cX6_join 5 = .ok (.invokevirtual 44, 3) := by decide +kernel
theorem dX6_join_8 : decode cX6_join 8 = .ok (.aload_n 0, 1) := by decide +kernel
theorem dX6_join_9 : decode cX6_join 9 = .ok (.iload_n 1, 1) := by decide +kernel
theorem dX6_join_10 : decode cX6_join 10 = .ok (.invokevirtual 105, 3) := by decide +kernel
theorem dX6_join_13 : decode cX6_join 13 = .ok (.ifCond .eq 13, 3) := by decide +kernel
theorem dX6_join_16 : decode cX6_join 16 = .ok (.new 51, 3) := by decide +kernel
theorem dX6_join_19 : decode cX6_join 19 = .ok (.dup, 1) := by decide +kernel
theorem dX6_join_20 : decode cX6_join 20 = .ok (.ldc 117, 2) := by decide +kernel
theorem dX6_join_22 : decode cX6_join 22 = .ok (.invokespecial 55, 3) := by decide +kernel
theorem dX6_join_25 : decode cX6_join 25 = .ok (.athrow, 1) := by decide +kernel
theorem dX6_join_26 : decode cX6_join 26 = .ok (.aload_n 0, 1) := by decide +kernel
theorem dX6_join_27 : decode cX6_join 27 = .ok (.dup, 1) := by decide +kernel
theorem dX6_join_28 : decode cX6_join 28 = .ok (.getfield 25, 3) := by decide +kernel
theorem dX6_join_31 : decode cX6_join 31 = .ok (.iconst 1, 1) := by decide +kernel
theorem dX6_join_32 : decode cX6_join 32 = .ok (.iload_n 1, 1) := by decide +kernel
theorem dX6_join_33 : decode cX6_join 33 = .ok (.ishl, 1) := by decide +kernel
theorem dX6_join_34 : decode cX6_join 34 = .ok (.ior, 1) := by decide +kernel
theorem dX6_join_35 : decode cX6_join 35 = .ok (.putfield 25, 3) := by decide +kernel
theorem dX6_join_38 : decode cX6_join 38 = .ok (.aload_n 0, 1) := by decide +kernel
theorem dX6_join_39 : decode cX6_join 39 = .ok (.invokevirtual 119, 3) := by decide +kernel
theorem dX6_join_42 : decode cX6_join 42 = .ok (.iconst 0, 1) := by decide +kernel
theorem dX6_join_43 : decode cX6_join 43 = .ok (.istore_n 2, 1) := by decide +kernel
theorem dX6_join_44 : decode cX6_join 44 = .ok (.iconst 0, 1) := by decide +kernel
theorem dX6_join_45 : decode cX6_join 45 = .ok (.istore_n 3, 1) := by decide +kernel
theorem dX6_join_46 : decode cX6_join 46 = .ok (.iload_n 3, 1) := by decide +kernel
theorem dX6_join_47 : decode cX6_join 47 = .ok (.aload_n 0, 1) := by decide +kernel
theorem dX6_join_48 : decode cX6_join 48 = .ok (.getfield 12, 3) := by decide +kernel
theorem dX6_join_51 : decode cX6_join 51 = .ok (.invokevirtual 47, 3) := by decide +kernel
theorem dX6_join_54 : decode cX6_join 54 = .ok (.if_icmp .ge 28, 3) := by decide +kernel
theorem dX6_join_57 : decode cX6_join 57 = .ok (.iload_n 2, 1) := by decide +kernel
theorem dX6_join_58 : decode cX6_join 58 = .ok (.aload_n 0, 1) := by decide +kernel
theorem dX6_join_59 : decode cX6_join 59 = .ok (.aload_n 0, 1) := by decide +kernel
theorem dX6_join_60 : decode cX6_join 60 = .ok (.getfield 12, 3) := by decide +kernel
theorem dX6_join_63 : decode cX6_join 63 = .ok (.iload_n 3, 1) := by decide +kernel
theorem dX6_join_64 : decode cX6_join 64 = .ok (.invokevirtual 122, 3) := by decide +kernel
theorem dX6_join_67 : decode cX6_join 67 = .ok (.checkcast 56, 3) := by decide +kernel
theorem dX6_join_70 : decode cX6_join 70 = .ok (.iload_n 1, 1) := by decide +kernel
theorem dX6_join_71 : decode cX6_join 71 = .ok (.invokevirtual 126, 3) := by decide +kernel
theorem dX6_join_74 : decode cX6_join 74 = .ok (.iadd, 1) := by decide +kernel
theorem dX6_join_75 : decode cX6_join 75 = .ok (.istore_n 2, 1) := by decide +kernel
theorem dX6_join_76 : decode cX6_join 76 = .ok (.iinc 3 1, 3) := by decide +kernel
theorem dX6_join_79 : decode cX6_join 79 = .ok (.goto (-33), 3) := by decide +kernel
theorem dX6_join_82 : decode cX6_join 82 = .ok (.iload_n 2, 1) := by decide +kernel
theorem dX6_join_83 : decode cX6_join 83 = .ok (.ireturn, 1) := by decide +kernel
set_option maxRecDepth 20000 in
theorem ggX6_hold_X6_checkTill : GoodIn wsX6_hold wsX6_checkTill := goodIn_ca (goodIn_r _ [14, 15, 16] (by decide +kernel) (by decide +kernel)) (goodIn_sub (fun _ h => List.mem_cons_of_mem _ (List.mem_append_right _ h)) (by decide +kernel))
set_option maxRecDepth 20000 in
theorem gX6_hold_X6_checkTill : GoodIn wsX6_hold (va_wsS RX6 101 yX6_checkTill wsX6_checkTill) := goodIn_app (goodIn_of _ (by decide +kernel)) ggX6_hold_X6_checkTill
set_option maxRecDepth 20000 in
theorem ggX6_hold_X6_guestNumbered : GoodIn wsX6_hold wsX6_guestNumbered := goodIn_ca (goodIn_r _ [20, 15, 16, 21, 22, 23, 24, 25, 26, 27, 28, 29, 30, 31, 32, 33, 34, 35, 36, 37, 38, 39, 40, 41, 42, 43, 44, 45, 174, 175, 176, 177, 178, 179, 180, 181, 182, 191, 192, 193] (by decide +kernel) (by decide +kernel)) (goodIn_sub (fun _ h => List.mem_cons_of_mem _ (List.mem_append_right _ h)) (by decide +kernel))
set_option maxRecDepth 20000 in
theorem gX6_hold_X6_guestNumbered : GoodIn wsX6_hold (wsV RX6 129 RX6 yX6_guestNumbered wsX6_guestNumbered) := goodIn_app (goodIn_of _ (by decide +kernel)) ggX6_hold_X6_guestNumbered
set_option maxRecDepth 20000 in
theorem ggX6_hold_X6_wishNumbered : GoodIn wsX6_hold wsX6_wishNumbered := goodIn_ca (goodIn_r _ [49, 15, 16, 50, 51, 23, 24, 25, 26, 27, 28, 29, 30, 31, 32, 33, 34, 35, 36, 37, 38, 39, 40, 41, 42, 43, 44, 45, 174, 175, 176, 177, 178, 179, 180, 181, 182, 191, 192, 193] (by decide +kernel) (by decide +kernel)) (goodIn_sub (fun _ h => List.mem_cons_of_mem _ (List.mem_append_right _ h)) (by decide +kernel))
set_option maxRecDepth 20000 in
theorem gX6_hold_X6_wishNumbered : GoodIn wsX6_hold (wsV RX6 74 RX6 yX6_wishNumbered wsX6_wishNumbered) := goodIn_app (goodIn_of _ (by decide +kernel)) ggX6_hold_X6_wishNumbered
set_option maxRecDepth 20000 in
theorem ggX6_hold_X6_refuseIfCalledOff : GoodIn wsX6_hold wsX6_refuseIfCalledOff := goodIn_ca (goodIn_r _ [55, 3, 4, 56, 174, 175, 176, 177, 178, 179, 180, 181, 182] (by decide +kernel) (by decide +kernel)) (goodIn_sub (fun _ h => List.mem_cons_of_mem _ (List.mem_append_left _ (List.mem_append_right _ h))) (by decide +kernel))
set_option maxRecDepth 20000 in
theorem gX6_hold_X6_refuseIfCalledOff : GoodIn wsX6_hold (wsV RX6 44 RX6 yX6_refuseIfCalledOff wsX6_refuseIfCalledOff) := goodIn_app (goodIn_of _ (by decide +kernel)) ggX6_hold_X6_refuseIfCalledOff
set_option maxRecDepth 20000 in
theorem ggX6_hold_Jx4a65c_size_8abf5 : GoodIn wsX6_hold wsJx4a65c_size_8abf5 := goodIn_r _ [27, 28, 191, 192, 193] (by decide +kernel) (by decide +kernel)
set_option maxRecDepth 20000 in
theorem gX6_hold_Jx4a65c_size_8abf5 : GoodIn wsX6_hold (wsV RX6 47 RJx4a65c yJx4a65c_size_8abf5 wsJx4a65c_size_8abf5) := goodIn_app (goodIn_of _ (by decide +kernel)) ggX6_hold_Jx4a65c_size_8abf5
set_option maxRecDepth 20000 in
theorem ggX6_hold_X6_leftAt : GoodIn wsX6_hold wsX6_leftAt := goodIn_r _ [60, 61, 62, 63, 5, 64, 65, 66, 9, 67, 68, 69, 70, 71, 72, 73, 13, 74, 75, 76, 77, 78, 23, 24, 25, 26, 27, 28, 29, 30, 31, 32, 33, 34, 35, 36, 37, 38, 39, 40, 41, 42, 43, 44, 45, 79, 80, 81, 82, 83, 84, 85, 86, 87, 88, 89, 90, 91, 92, 93, 94, 8, 95, 96, 97, 98, 99, 100, 101, 102, 103, 104, 194, 195, 196, 197, 198, 199, 200, 174, 175, 176, 177, 178, 179, 180, 181, 182, 201, 202, 203, 204, 205, 206, 207, 208, 209, 183, 184, 185, 186, 187, 188, 189, 190, 191, 192, 193] (by decide +kernel) (by decide +kernel)
set_option maxRecDepth 20000 in
theorem gX6_hold_X6_leftAt : GoodIn wsX6_hold (wsV RX6 137 RX6 yX6_leftAt wsX6_leftAt) := goodIn_app (goodIn_of _ (by decide +kernel)) ggX6_hold_X6_leftAt
set_option maxRecDepth 20000 in
theorem ggX6_hold_X3_init : GoodIn wsX6_hold wsX3_init := goodIn_r _ [107, 101, 108, 109, 89, 110, 111, 112, 113, 114, 115, 116, 117, 91, 183, 184, 185, 186, 187, 188, 189, 190, 201, 202, 203, 204, 205, 206, 207, 208, 209] (by decide +kernel) (by decide +kernel)
set_option maxRecDepth 20000 in
theorem gX6_hold_X3_init : GoodIn wsX6_hold (wsX3_init) := ggX6_hold_X3_init
set_option maxRecDepth 20000 in
theorem ggX6_hold_X0_showTo : GoodIn wsX6_hold wsX0_showTo := goodIn_r _ [122, 116, 123, 91, 201, 202, 203, 204, 205, 206, 207, 208, 209, 183, 184, 185, 186, 187, 188, 189, 190] (by decide +kernel) (by decide +kernel)
set_option maxRecDepth 20000 in
theorem gX6_hold_X0_showTo_u151X3 : GoodIn wsX6_hold (va_wsU RX6 151 RX3 "Tureenlist$Deed" ⟨"Tureenlist$Hold", "showTo", "(I)V"⟩ yX0_showTo wsX0_showTo) := goodIn_app (goodIn_of _ (by decide +kernel)) ggX6_hold_X0_showTo
set_option maxRecDepth 20000 in
theorem ggX6_hold_Jx4a65c_add_9ea2d : GoodIn wsX6_hold wsJx4a65c_add_9ea2d := goodIn_r _ [127, 128, 129, 45, 28, 130, 131, 132, 26, 133, 134, 135, 136, 137, 138, 139, 140, 141, 142, 143, 68, 69, 70, 144, 145, 146, 147, 148, 149, 150, 151, 152, 153, 154, 155, 156, 157, 158, 159, 160, 161, 162, 163, 164, 165, 166, 167, 168, 169, 170, 171, 172, 173, 191, 192, 193] (by decide +kernel) (by decide +kernel)
set_option maxRecDepth 20000 in
theorem gX6_hold_Jx4a65c_add_9ea2d : GoodIn wsX6_hold (wsV RX6 61 RJx4a65c yJx4a65c_add_9ea2d wsJx4a65c_add_9ea2d) := goodIn_app (goodIn_of _ (by decide +kernel)) ggX6_hold_Jx4a65c_add_9ea2d
theorem dX6_hold_0 : decode cX6_hold 0 = .ok (.iload_n 1, 1) := by decide +kernel
theorem dX6_hold_1 : decode cX6_hold 1 = .ok (.invokestatic 101, 3) := by decide +kernel
theorem dX6_hold_4 : decode cX6_hold 4 = .ok (.aload_n 0, 1) := by decide +kernel
theorem dX6_hold_5 : decode cX6_hold 5 = .ok (.iload_n 2, 1) := by decide +kernel
theorem dX6_hold_6 : decode cX6_hold 6 = .ok (.invokevirtual 129, 3) := by decide +kernel
theorem dX6_hold_9 : decode cX6_hold 9 = .ok (.astore 5, 2) := by decide +kernel
theorem dX6_hold_11 : decode cX6_hold 11 = .ok (.aload_n 0, 1) := by decide +kernel
theorem dX6_hold_12 : decode cX6_hold 12 = .ok (.iload_n 3, 1) := by decide +kernel
theorem dX6_hold_13 : decode cX6_hold 13 = .ok (.invokevirtual 74, 3) := by decide +kernel
theorem dX6_hold_16 : decode cX6_hold 16 = .ok (.astore 6, 2) := by decide +kernel
theorem dX6_hold_18 : decode cX6_hold 18 = .ok (.iload 4, 2) := by decide +kernel
theorem dX6_hold_20 : decode cX6_hold 20 = .ok (.iconst 1, 1) := by decide +kernel
theorem dX6_hold_21 : decode cX6_hold 21 = .ok (.if_icmp .lt 10, 3) := by decide +kernel
theorem dX6_hold_24 : decode cX6_hold 24 = .ok (.iload 4, 2) := by decide +kernel
theorem dX6_hold_26 : decode cX6_hold 26 = .ok (.bipush 60, 2) := by decide +kernel
theorem dX6_hold_28 : decode cX6_hold 28 = .ok (.if_icmp .le 13, 3) := by decide +kernel
theorem dX6_hold_31 : decode cX6_hold 31 = .ok (.new 29, 3) := by decide +kernel
theorem dX6_hold_34 : decode cX6_hold 34 = .ok (.dup, 1) := by decide +kernel
theorem dX6_hold_35 : decode cX6_hold 35 = .ok (.ldc 133, 2) := by decide +kernel
theorem dX6_hold_37 : decode cX6_hold 37 = .ok (.invokespecial 33, 3) := by decide +kernel
theorem dX6_hold_40 : decode cX6_hold 40 = .ok (.athrow, 1) := by decide +kernel
theorem dX6_hold_41 : decode cX6_hold 41 = .ok (.aload_n 0, 1) := by decide +kernel
theorem dX6_hold_42 : decode cX6_hold 42 = .ok (.invokevirtual 44, 3) := by decide +kernel
theorem dX6_hold_45 : decode cX6_hold 45 = .ok (.aload_n 0, 1) := by decide +kernel
theorem dX6_hold_46 : decode cX6_hold 46 = .ok (.getfield 22, 3) := by decide +kernel
theorem dX6_hold_49 : decode cX6_hold 49 = .ok (.invokevirtual 47, 3) := by decide +kernel
theorem dX6_hold_52 : decode cX6_hold 52 = .ok (.istore 7, 2) := by decide +kernel
theorem dX6_hold_54 : decode cX6_hold 54 = .ok (.iload 7, 2) := by decide +kernel
theorem dX6_hold_56 : decode cX6_hold 56 = .ok (.bipush 20, 2) := by decide +kernel
theorem dX6_hold_58 : decode cX6_hold 58 = .ok (.if_icmp .lt 13, 3) := by decide +kernel
theorem dX6_hold_61 : decode cX6_hold 61 = .ok (.new 51, 3) := by decide +kernel
theorem dX6_hold_64 : decode cX6_hold 64 = .ok (.dup, 1) := by decide +kernel
theorem dX6_hold_65 : decode cX6_hold 65 = .ok (.ldc 135, 2) := by decide +kernel
theorem dX6_hold_67 : decode cX6_hold 67 = .ok (.invokespecial 55, 3) := by decide +kernel
theorem dX6_hold_70 : decode cX6_hold 70 = .ok (.athrow, 1) := by decide +kernel
theorem dX6_hold_71 : decode cX6_hold 71 = .ok (.aload_n 0, 1) := by decide +kernel
theorem dX6_hold_72 : decode cX6_hold 72 = .ok (.iload_n 1, 1) := by decide +kernel
theorem dX6_hold_73 : decode cX6_hold 73 = .ok (.aload 6, 2) := by decide +kernel
theorem dX6_hold_75 : decode cX6_hold 75 = .ok (.invokevirtual 137, 3) := by decide +kernel
theorem dX6_hold_78 : decode cX6_hold 78 = .ok (.ifCond .ne 13, 3) := by decide +kernel
theorem dX6_hold_81 : decode cX6_hold 81 = .ok (.new 51, 3) := by decide +kernel
theorem dX6_hold_84 : decode cX6_hold 84 = .ok (.dup, 1) := by decide +kernel
theorem dX6_hold_85 : decode cX6_hold 85 = .ok (.ldc 141, 2) := by decide +kernel
theorem dX6_hold_87 : decode cX6_hold 87 = .ok (.invokespecial 55, 3) := by decide +kernel
theorem dX6_hold_90 : decode cX6_hold 90 = .ok (.athrow, 1) := by decide +kernel
theorem dX6_hold_91 : decode cX6_hold 91 = .ok (.new 143, 3) := by decide +kernel
theorem dX6_hold_94 : decode cX6_hold 94 = .ok (.dup, 1) := by decide +kernel
theorem dX6_hold_95 : decode cX6_hold 95 = .ok (.aload 6, 2) := by decide +kernel
theorem dX6_hold_97 : decode cX6_hold 97 = .ok (.aload 5, 2) := by decide +kernel
theorem dX6_hold_99 : decode cX6_hold 99 = .ok (.iload_n 1, 1) := by decide +kernel
theorem dX6_hold_100 : decode cX6_hold 100 = .ok (.aload_n 0, 1) := by decide +kernel
theorem dX6_hold_101 : decode cX6_hold 101 = .ok (.getfield 145, 3) := by decide +kernel
theorem dX6_hold_104 : decode cX6_hold 104 = .ok (.iload 4, 2) := by decide +kernel
theorem dX6_hold_106 : decode cX6_hold 106 = .ok (.invokespecial 148, 3) := by decide +kernel
theorem dX6_hold_109 : decode cX6_hold 109 = .ok (.astore 8, 2) := by decide +kernel
theorem dX6_hold_111 : decode cX6_hold 111 = .ok (.aload 8, 2) := by decide +kernel
theorem dX6_hold_113 : decode cX6_hold 113 = .ok (.aload_n 0, 1) := by decide +kernel
theorem dX6_hold_114 : decode cX6_hold 114 = .ok (.getfield 25, 3) := by decide +kernel
theorem dX6_hold_117 : decode cX6_hold 117 = .ok (.invokevirtual 151, 3) := by decide +kernel
theorem dX6_hold_120 : decode cX6_hold 120 = .ok (.aload_n 0, 1) := by decide +kernel
theorem dX6_hold_121 : decode cX6_hold 121 = .ok (.getfield 22, 3) := by decide +kernel
theorem dX6_hold_124 : decode cX6_hold 124 = .ok (.aload 8, 2) := by decide +kernel
theorem dX6_hold_126 : decode cX6_hold 126 = .ok (.invokevirtual 61, 3) := by decide +kernel
theorem dX6_hold_129 : decode cX6_hold 129 = .ok (.pop, 1) := by decide +kernel
theorem dX6_hold_130 : decode cX6_hold 130 = .ok (.iload 7, 2) := by decide +kernel
theorem dX6_hold_132 : decode cX6_hold 132 = .ok (.ireturn, 1) := by decide +kernel
set_option maxRecDepth 20000 in
theorem ggX6_buy_X6_checkTill : GoodIn wsX6_buy wsX6_checkTill := goodIn_ca (goodIn_r _ [16, 17, 18] (by decide +kernel) (by decide +kernel)) (goodIn_sub (fun _ h => List.mem_cons_of_mem _ (List.mem_append_right _ h)) (by decide +kernel))
set_option maxRecDepth 20000 in
theorem gX6_buy_X6_checkTill : GoodIn wsX6_buy (va_wsS RX6 101 yX6_checkTill wsX6_checkTill) := goodIn_app (goodIn_of _ (by decide +kernel)) ggX6_buy_X6_checkTill
set_option maxRecDepth 20000 in
theorem ggX6_buy_X6_guestNumbered : GoodIn wsX6_buy wsX6_guestNumbered := goodIn_ca (goodIn_r _ [22, 17, 18, 23, 24, 25, 26, 27, 28, 29, 30, 31, 32, 33, 34, 35, 36, 37, 38, 39, 40, 41, 42, 43, 44, 45, 46, 47, 199, 200, 201, 202, 203, 204, 205, 206, 207, 219, 220, 221] (by decide +kernel) (by decide +kernel)) (goodIn_sub (fun _ h => List.mem_cons_of_mem _ (List.mem_append_right _ h)) (by decide +kernel))
set_option maxRecDepth 20000 in
theorem gX6_buy_X6_guestNumbered : GoodIn wsX6_buy (wsV RX6 129 RX6 yX6_guestNumbered wsX6_guestNumbered) := goodIn_app (goodIn_of _ (by decide +kernel)) ggX6_buy_X6_guestNumbered
set_option maxRecDepth 20000 in
theorem ggX6_buy_X6_wishNumbered : GoodIn wsX6_buy wsX6_wishNumbered := goodIn_ca (goodIn_r _ [51, 17, 18, 52, 53, 25, 26, 27, 28, 29, 30, 31, 32, 33, 34, 35, 36, 37, 38, 39, 40, 41, 42, 43, 44, 45, 46, 47, 199, 200, 201, 202, 203, 204, 205, 206, 207, 219, 220, 221] (by decide +kernel) (by decide +kernel)) (goodIn_sub (fun _ h => List.mem_cons_of_mem _ (List.mem_append_right _ h)) (by decide +kernel))
set_option maxRecDepth 20000 in
theorem gX6_buy_X6_wishNumbered : GoodIn wsX6_buy (wsV RX6 74 RX6 yX6_wishNumbered wsX6_wishNumbered) := goodIn_app (goodIn_of _ (by decide +kernel)) ggX6_buy_X6_wishNumbered
set_option maxRecDepth 20000 in
theorem ggX6_buy_X6_refuseIfCalledOff : GoodIn wsX6_buy wsX6_refuseIfCalledOff := goodIn_ca (goodIn_r _ [57, 1, 2, 58, 199, 200, 201, 202, 203, 204, 205, 206, 207] (by decide +kernel) (by decide +kernel)) (goodIn_sub (fun _ h => List.mem_cons_of_mem _ (List.mem_append_left _ (List.mem_append_right _ h))) (by decide +kernel))
set_option maxRecDepth 20000 in
theorem gX6_buy_X6_refuseIfCalledOff : GoodIn wsX6_buy (wsV RX6 44 RX6 yX6_refuseIfCalledOff wsX6_refuseIfCalledOff) := goodIn_app (goodIn_of _ (by decide +kernel)) ggX6_buy_X6_refuseIfCalledOff
set_option maxRecDepth 20000 in
theorem ggX6_buy_Jx4a65c_size_8abf5 : GoodIn wsX6_buy wsJx4a65c_size_8abf5 := goodIn_r _ [29, 30, 219, 220, 221] (by decide +kernel) (by decide +kernel)
set_option maxRecDepth 20000 in
theorem gX6_buy_Jx4a65c_size_8abf5 : GoodIn wsX6_buy (wsV RX6 47 RJx4a65c yJx4a65c_size_8abf5 wsJx4a65c_size_8abf5) := goodIn_app (goodIn_of _ (by decide +kernel)) ggX6_buy_Jx4a65c_size_8abf5
set_option maxRecDepth 20000 in
theorem ggX6_buy_X6_takePiece : GoodIn wsX6_buy wsX6_takePiece := goodIn_ca (goodIn_r _ [62, 1, 2, 63, 64, 65, 66, 67, 68, 15, 69, 70, 71, 72, 73, 74, 11, 75, 76, 77, 78, 5, 79, 80, 81, 25, 26, 27, 28, 29, 30, 31, 32, 33, 34, 35, 36, 37, 38, 39, 40, 41, 42, 43, 44, 45, 46, 47, 82, 83, 84, 10, 85, 86, 87, 88, 89, 90, 91, 92, 93, 94, 95, 96, 97, 98, 99, 100, 101, 102, 103, 104, 105, 106, 107, 108, 109, 110, 111, 3, 4, 112, 113, 114, 115, 199, 200, 201, 202, 203, 204, 205, 206, 207, 222, 223, 224, 225, 226, 227, 228, 229, 192, 193, 194, 195, 196, 197, 198, 210, 211, 212, 213, 214, 215, 216, 217, 218, 219, 220, 221] (by decide +kernel) (by decide +kernel)) (goodIn_sub (fun _ h => List.mem_cons_of_mem _ (List.mem_append_left _ (List.mem_append_right _ h))) (by decide +kernel))
set_option maxRecDepth 20000 in
theorem gX6_buy_X6_takePiece : GoodIn wsX6_buy (wsV RX6 163 RX6 yX6_takePiece wsX6_takePiece) := goodIn_app (goodIn_of _ (by decide +kernel)) ggX6_buy_X6_takePiece
set_option maxRecDepth 20000 in
theorem ggX6_buy_X6_pay : GoodIn wsX6_buy wsX6_pay := goodIn_r _ [119, 6, 120, 208, 209, 199, 200, 201, 202, 203, 204, 205, 206, 207] (by decide +kernel) (by decide +kernel)
set_option maxRecDepth 20000 in
theorem gX6_buy_X6_pay : GoodIn wsX6_buy (wsV RX6 167 RX6 yX6_pay wsX6_pay) := goodIn_app (goodIn_of _ (by decide +kernel)) ggX6_buy_X6_pay
set_option maxRecDepth 20000 in
theorem ggX6_buy_X1_init : GoodIn wsX6_buy wsX1_init := goodIn_r _ [123, 124, 125, 86, 126, 127, 91, 128, 129, 130, 131, 132, 133, 134, 135, 93, 210, 211, 212, 213, 214, 215, 216, 217, 218, 222, 223, 224, 225, 226, 227, 228, 229] (by decide +kernel) (by decide +kernel)
set_option maxRecDepth 20000 in
theorem gX6_buy_X1_init : GoodIn wsX6_buy (wsX1_init) := ggX6_buy_X1_init
set_option maxRecDepth 20000 in
theorem ggX6_buy_X0_showTo : GoodIn wsX6_buy wsX0_showTo := goodIn_r _ [140, 134, 141, 93, 210, 211, 212, 213, 214, 215, 216, 217, 218, 222, 223, 224, 225, 226, 227, 228, 229] (by decide +kernel) (by decide +kernel)
set_option maxRecDepth 20000 in
theorem gX6_buy_X0_showTo_u176X1 : GoodIn wsX6_buy (va_wsU RX6 176 RX1 "Tureenlist$Deed" ⟨"Tureenlist$Gift", "showTo", "(I)V"⟩ yX0_showTo wsX0_showTo) := goodIn_app (goodIn_of _ (by decide +kernel)) ggX6_buy_X0_showTo
set_option maxRecDepth 20000 in
theorem ggX6_buy_Jx4a65c_add_9ea2d : GoodIn wsX6_buy wsJx4a65c_add_9ea2d := goodIn_r _ [145, 146, 147, 47, 30, 148, 149, 150, 28, 151, 152, 153, 154, 155, 156, 157, 158, 159, 160, 161, 113, 114, 115, 162, 163, 164, 165, 166, 167, 168, 169, 170, 171, 172, 173, 174, 175, 176, 177, 178, 179, 180, 181, 182, 183, 184, 185, 186, 187, 188, 189, 190, 191, 219, 220, 221] (by decide +kernel) (by decide +kernel)
set_option maxRecDepth 20000 in
theorem gX6_buy_Jx4a65c_add_9ea2d : GoodIn wsX6_buy (wsV RX6 61 RJx4a65c yJx4a65c_add_9ea2d wsJx4a65c_add_9ea2d) := goodIn_app (goodIn_of _ (by decide +kernel)) ggX6_buy_Jx4a65c_add_9ea2d
theorem dX6_buy_0 : decode cX6_buy 0 = .ok (.iload_n 1, 1) := by decide +kernel
theorem dX6_buy_1 : decode cX6_buy 1 = .ok (.invokestatic 101, 3) := by decide +kernel
theorem dX6_buy_4 : decode cX6_buy 4 = .ok (.aload_n 0, 1) := by decide +kernel
theorem dX6_buy_5 : decode cX6_buy 5 = .ok (.iload_n 2, 1) := by decide +kernel
theorem dX6_buy_6 : decode cX6_buy 6 = .ok (.invokevirtual 129, 3) := by decide +kernel
theorem dX6_buy_9 : decode cX6_buy 9 = .ok (.astore 4, 2) := by decide +kernel
theorem dX6_buy_11 : decode cX6_buy 11 = .ok (.aload_n 0, 1) := by decide +kernel
theorem dX6_buy_12 : decode cX6_buy 12 = .ok (.iload_n 3, 1) := by decide +kernel
theorem dX6_buy_13 : decode cX6_buy 13 = .ok (.invokevirtual 74, 3) := by decide +kernel
theorem dX6_buy_16 : decode cX6_buy 16 = .ok (.astore 5, 2) := by decide +kernel
theorem dX6_buy_18 : decode cX6_buy 18 = .ok (.aload_n 0, 1) := by decide +kernel
theorem dX6_buy_19 : decode cX6_buy 19 = .ok (.invokevirtual 44, 3) := by decide +kernel
theorem dX6_buy_22 : decode cX6_buy 22 = .ok (.aload 5, 2) := by decide +kernel
theorem dX6_buy_24 : decode cX6_buy 24 = .ok (.getfield 78, 3) := by decide +kernel
theorem dX6_buy_27 : decode cX6_buy 27 = .ok (.ifCond .ne 11, 3) := by decide +kernel
theorem dX6_buy_30 : decode cX6_buy 30 = .ok (.aload 5, 2) := by decide +kernel
theorem dX6_buy_32 : decode cX6_buy 32 = .ok (.getfield 98, 3) := by decide +kernel
theorem dX6_buy_35 : decode cX6_buy 35 = .ok (.ifCond .eq 13, 3) := by decide +kernel
theorem dX6_buy_38 : decode cX6_buy 38 = .ok (.new 51, 3) := by decide +kernel
theorem dX6_buy_41 : decode cX6_buy 41 = .ok (.dup, 1) := by decide +kernel
theorem dX6_buy_42 : decode cX6_buy 42 = .ok (.ldc 154, 2) := by decide +kernel
theorem dX6_buy_44 : decode cX6_buy 44 = .ok (.invokespecial 55, 3) := by decide +kernel
theorem dX6_buy_47 : decode cX6_buy 47 = .ok (.athrow, 1) := by decide +kernel
theorem dX6_buy_48 : decode cX6_buy 48 = .ok (.aload_n 0, 1) := by decide +kernel
theorem dX6_buy_49 : decode cX6_buy 49 = .ok (.getfield 19, 3) := by decide +kernel
theorem dX6_buy_52 : decode cX6_buy 52 = .ok (.invokevirtual 47, 3) := by decide +kernel
theorem dX6_buy_55 : decode cX6_buy 55 = .ok (.istore 6, 2) := by decide +kernel
theorem dX6_buy_57 : decode cX6_buy 57 = .ok (.iload 6, 2) := by decide +kernel
theorem dX6_buy_59 : decode cX6_buy 59 = .ok (.bipush 40, 2) := by decide +kernel
theorem dX6_buy_61 : decode cX6_buy 61 = .ok (.if_icmp .lt 13, 3) := by decide +kernel
theorem dX6_buy_64 : decode cX6_buy 64 = .ok (.new 51, 3) := by decide +kernel
theorem dX6_buy_67 : decode cX6_buy 67 = .ok (.dup, 1) := by decide +kernel
theorem dX6_buy_68 : decode cX6_buy 68 = .ok (.ldc 156, 2) := by decide +kernel
theorem dX6_buy_70 : decode cX6_buy 70 = .ok (.invokespecial 55, 3) := by decide +kernel
theorem dX6_buy_73 : decode cX6_buy 73 = .ok (.athrow, 1) := by decide +kernel
theorem dX6_buy_74 : decode cX6_buy 74 = .ok (.aload 4, 2) := by decide +kernel
theorem dX6_buy_76 : decode cX6_buy 76 = .ok (.getfield 158, 3) := by decide +kernel
theorem dX6_buy_79 : decode cX6_buy 79 = .ok (.aload 5, 2) := by decide +kernel
theorem dX6_buy_81 : decode cX6_buy 81 = .ok (.getfield 88, 3) := by decide +kernel
theorem dX6_buy_84 : decode cX6_buy 84 = .ok (.if_icmp .ge 13, 3) := by decide +kernel
theorem dX6_buy_87 : decode cX6_buy 87 = .ok (.new 51, 3) := by decide +kernel
theorem dX6_buy_90 : decode cX6_buy 90 = .ok (.dup, 1) := by decide +kernel
theorem dX6_buy_91 : decode cX6_buy 91 = .ok (.ldc 161, 2) := by decide +kernel
theorem dX6_buy_93 : decode cX6_buy 93 = .ok (.invokespecial 55, 3) := by decide +kernel
theorem dX6_buy_96 : decode cX6_buy 96 = .ok (.athrow, 1) := by decide +kernel
theorem dX6_buy_97 : decode cX6_buy 97 = .ok (.aload_n 0, 1) := by decide +kernel
theorem dX6_buy_98 : decode cX6_buy 98 = .ok (.iload_n 1, 1) := by decide +kernel
theorem dX6_buy_99 : decode cX6_buy 99 = .ok (.aload 4, 2) := by decide +kernel
theorem dX6_buy_101 : decode cX6_buy 101 = .ok (.aload 5, 2) := by decide +kernel
theorem dX6_buy_103 : decode cX6_buy 103 = .ok (.invokevirtual 163, 3) := by decide +kernel
theorem dX6_buy_106 : decode cX6_buy 106 = .ok (.aload_n 0, 1) := by decide +kernel
theorem dX6_buy_107 : decode cX6_buy 107 = .ok (.aload 4, 2) := by decide +kernel
theorem dX6_buy_109 : decode cX6_buy 109 = .ok (.aload 5, 2) := by decide +kernel
theorem dX6_buy_111 : decode cX6_buy 111 = .ok (.getfield 88, 3) := by decide +kernel
theorem dX6_buy_114 : decode cX6_buy 114 = .ok (.invokevirtual 167, 3) := by decide +kernel
theorem dX6_buy_117 : decode cX6_buy 117 = .ok (.new 171, 3) := by decide +kernel
theorem dX6_buy_120 : decode cX6_buy 120 = .ok (.dup, 1) := by decide +kernel
theorem dX6_buy_121 : decode cX6_buy 121 = .ok (.iload 6, 2) := by decide +kernel
theorem dX6_buy_123 : decode cX6_buy 123 = .ok (.aload 5, 2) := by decide +kernel
theorem dX6_buy_125 : decode cX6_buy 125 = .ok (.aload 4, 2) := by decide +kernel
theorem dX6_buy_127 : decode cX6_buy 127 = .ok (.iload_n 1, 1) := by decide +kernel
theorem dX6_buy_128 : decode cX6_buy 128 = .ok (.aload_n 0, 1) := by decide +kernel
theorem dX6_buy_129 : decode cX6_buy 129 = .ok (.getfield 145, 3) := by decide +kernel
theorem dX6_buy_132 : decode cX6_buy 132 = .ok (.aload 5, 2) := by decide +kernel
theorem dX6_buy_134 : decode cX6_buy 134 = .ok (.getfield 88, 3) := by decide +kernel
theorem dX6_buy_137 : decode cX6_buy 137 = .ok (.invokespecial 173, 3) := by decide +kernel
theorem dX6_buy_140 : decode cX6_buy 140 = .ok (.astore 7, 2) := by decide +kernel
theorem dX6_buy_142 : decode cX6_buy 142 = .ok (.aload 7, 2) := by decide +kernel
theorem dX6_buy_144 : decode cX6_buy 144 = .ok (.aload_n 0, 1) := by decide +kernel
theorem dX6_buy_145 : decode cX6_buy 145 = .ok (.getfield 25, 3) := by decide +kernel
theorem dX6_buy_148 : decode cX6_buy 148 = .ok (.invokevirtual 176, 3) := by decide +kernel
theorem dX6_buy_151 : decode cX6_buy 151 = .ok (.aload_n 0, 1) := by decide +kernel
theorem dX6_buy_152 : decode cX6_buy 152 = .ok (.getfield 19, 3) := by decide +kernel
theorem dX6_buy_155 : decode cX6_buy 155 = .ok (.aload 7, 2) := by decide +kernel
theorem dX6_buy_157 : decode cX6_buy 157 = .ok (.invokevirtual 61, 3) := by decide +kernel
theorem dX6_buy_160 : decode cX6_buy 160 = .ok (.pop, 1) := by decide +kernel
theorem dX6_buy_161 : decode cX6_buy 161 = .ok (.iload 6, 2) := by decide +kernel
theorem dX6_buy_163 : decode cX6_buy 163 = .ok (.ireturn, 1) := by decide +kernel
set_option maxRecDepth 20000 in
theorem ggX6_giveBack_X6_guestNumbered : GoodIn wsX6_giveBack wsX6_guestNumbered := goodIn_ca (goodIn_r _ [16, 17, 18, 19, 20, 21, 22, 23, 24, 25, 26, 27, 28, 29, 30, 31, 32, 33, 34, 35, 36, 37, 38, 39, 40, 41, 42, 43, 73, 74, 75, 76, 77, 78, 79, 80, 81, 99, 100, 101] (by decide +kernel) (by decide +kernel)) (goodIn_sub (fun _ h => List.mem_cons_of_mem _ (List.mem_append_right _ h)) (by decide +kernel))
set_option maxRecDepth 20000 in
theorem gX6_giveBack_X6_guestNumbered : GoodIn wsX6_giveBack (wsV RX6 129 RX6 yX6_guestNumbered wsX6_guestNumbered) := goodIn_app (goodIn_of _ (by decide +kernel)) ggX6_giveBack_X6_guestNumbered
set_option maxRecDepth 20000 in
theorem ggX6_giveBack_X6_wishNumbered : GoodIn wsX6_giveBack wsX6_wishNumbered := goodIn_ca (goodIn_r _ [47, 17, 18, 48, 49, 21, 22, 23, 24, 25, 26, 27, 28, 29, 30, 31, 32, 33, 34, 35, 36, 37, 38, 39, 40, 41, 42, 43, 73, 74, 75, 76, 77, 78, 79, 80, 81, 99, 100, 101] (by decide +kernel) (by decide +kernel)) (goodIn_sub (fun _ h => List.mem_cons_of_mem _ (List.mem_append_right _ h)) (by decide +kernel))
set_option maxRecDepth 20000 in
theorem gX6_giveBack_X6_wishNumbered : GoodIn wsX6_giveBack (wsV RX6 74 RX6 yX6_wishNumbered wsX6_wishNumbered) := goodIn_app (goodIn_of _ (by decide +kernel)) ggX6_giveBack_X6_wishNumbered
set_option maxRecDepth 20000 in
theorem ggX6_giveBack_X6_refuseIfCalledOff : GoodIn wsX6_giveBack wsX6_refuseIfCalledOff := goodIn_ca (goodIn_r _ [53, 1, 2, 54, 73, 74, 75, 76, 77, 78, 79, 80, 81] (by decide +kernel) (by decide +kernel)) (goodIn_sub (fun _ h => List.mem_cons_of_mem _ (List.mem_append_left _ (List.mem_append_right _ h))) (by decide +kernel))
set_option maxRecDepth 20000 in
theorem gX6_giveBack_X6_refuseIfCalledOff : GoodIn wsX6_giveBack (wsV RX6 44 RX6 yX6_refuseIfCalledOff wsX6_refuseIfCalledOff) := goodIn_app (goodIn_of _ (by decide +kernel)) ggX6_giveBack_X6_refuseIfCalledOff
set_option maxRecDepth 20000 in
theorem ggX6_giveBack_Jx4a65c_size_8abf5 : GoodIn wsX6_giveBack wsJx4a65c_size_8abf5 := goodIn_r _ [25, 26, 99, 100, 101] (by decide +kernel) (by decide +kernel)
set_option maxRecDepth 20000 in
theorem gX6_giveBack_Jx4a65c_size_8abf5 : GoodIn wsX6_giveBack (wsV RX6 47 RJx4a65c yJx4a65c_size_8abf5 wsJx4a65c_size_8abf5) := goodIn_app (goodIn_of _ (by decide +kernel)) ggX6_giveBack_Jx4a65c_size_8abf5
set_option maxRecDepth 20000 in
theorem ggX6_giveBack_Jx4a65c_get_915e3 : GoodIn wsX6_giveBack wsJx4a65c_get_915e3 := goodIn_r _ [30, 26, 31, 32, 33, 34, 35, 36, 37, 38, 39, 40, 41, 24, 42, 43, 99, 100, 101] (by decide +kernel) (by decide +kernel)
set_option maxRecDepth 20000 in
theorem gX6_giveBack_Jx4a65c_get_915e3 : GoodIn wsX6_giveBack (wsV RX6 122 RJx4a65c yJx4a65c_get_915e3 wsJx4a65c_get_915e3) := goodIn_app (goodIn_of _ (by decide +kernel)) ggX6_giveBack_Jx4a65c_get_915e3
set_option maxRecDepth 20000 in
theorem ggX6_giveBack_X1_isKept : GoodIn wsX6_giveBack wsX1_isKept := goodIn_r _ [59, 60, 82, 83, 84, 85, 86, 87, 88, 89, 90] (by decide +kernel) (by decide +kernel)
set_option maxRecDepth 20000 in
theorem gX6_giveBack_X1_isKept : GoodIn wsX6_giveBack (wsV RX6 177 RX1 yX1_isKept wsX1_isKept) := goodIn_app (goodIn_of _ (by decide +kernel)) ggX6_giveBack_X1_isKept
set_option maxRecDepth 20000 in
theorem ggX6_giveBack_X6_endGift : GoodIn wsX6_giveBack wsX6_endGift := goodIn_r _ [64, 65, 5, 6, 66, 67, 68, 69, 15, 70, 71, 72, 82, 83, 84, 85, 86, 87, 88, 89, 90, 91, 92, 93, 94, 95, 96, 97, 98, 102, 103, 73, 74, 75, 76, 77, 78, 79, 80, 81] (by decide +kernel) (by decide +kernel)
set_option maxRecDepth 20000 in
theorem gX6_giveBack_X6_endGift : GoodIn wsX6_giveBack (wsV RX6 194 RX6 yX6_endGift wsX6_endGift) := goodIn_app (goodIn_of _ (by decide +kernel)) ggX6_giveBack_X6_endGift
theorem dX6_giveBack_0 : decode cX6_giveBack 0 = .ok (.aload_n 0, 1) := by decide +kernel
theorem dX6_giveBack_1 : decode cX6_giveBack 1 = .ok (.iload_n 1, 1) := by decide +kernel
theorem dX6_giveBack_2 : decode cX6_giveBack 2 = .ok (.invokevirtual 129, 3) := by decide +kernel
theorem dX6_giveBack_5 : decode cX6_giveBack 5 = .ok (.astore_n 3, 1) := by decide +kernel
theorem dX6_giveBack_6 : decode cX6_giveBack 6 = .ok (.aload_n 0, 1) := by decide +kernel
theorem dX6_giveBack_7 : decode cX6_giveBack 7 = .ok (.iload_n 2, 1) := by decide +kernel
theorem dX6_giveBack_8 : decode cX6_giveBack 8 = .ok (.invokevirtual 74, 3) := by decide +kernel
theorem dX6_giveBack_11 : decode cX6_giveBack 11 = .ok (.astore 4, 2) := by decide +kernel
theorem dX6_giveBack_13 : decode cX6_giveBack 13 = .ok (.aload_n 0, 1) := by decide +kernel
theorem dX6_giveBack_14 : decode cX6_giveBack 14 = .ok (.invokevirtual 44, 3) := by decide +kernel
theorem dX6_giveBack_17 : decode cX6_giveBack 17 = .ok (.aload_n 0, 1) := by decide +kernel
theorem dX6_giveBack_18 : decode cX6_giveBack 18 = .ok (.getfield 19, 3) := by decide +kernel
theorem dX6_giveBack_21 : decode cX6_giveBack 21 = .ok (.invokevirtual 47, 3) := by decide +kernel
theorem dX6_giveBack_24 : decode cX6_giveBack 24 = .ok (.iconst 1, 1) := by decide +kernel
theorem dX6_giveBack_25 : decode cX6_giveBack 25 = .ok (.isub, 1) := by decide +kernel
theorem dX6_giveBack_26 : decode cX6_giveBack 26 = .ok (.istore 5, 2) := by decide +kernel
theorem dX6_giveBack_28 : decode cX6_giveBack 28 = .ok (.iload 5, 2) := by decide +kernel
theorem dX6_giveBack_30 : decode cX6_giveBack 30 = .ok (.ifCond .lt 83, 3) := by decide +kernel
theorem dX6_giveBack_33 : decode cX6_giveBack 33 = .ok (.aload_n 0, 1) := by decide +kernel
theorem dX6_giveBack_34 : decode cX6_giveBack 34 = .ok (.getfield 19, 3) := by decide +kernel
theorem dX6_giveBack_37 : decode cX6_giveBack 37 = .ok (.iload 5, 2) := by decide +kernel
theorem dX6_giveBack_39 : decode cX6_giveBack 39 = .ok (.invokevirtual 122, 3) := by decide +kernel
theorem dX6_giveBack_42 : decode cX6_giveBack 42 = .ok (.checkcast 171, 3) := by decide +kernel
theorem dX6_giveBack_45 : decode cX6_giveBack 45 = .ok (.astore 6, 2) := by decide +kernel
theorem dX6_giveBack_47 : decode cX6_giveBack 47 = .ok (.aload 6, 2) := by decide +kernel
theorem dX6_giveBack_49 : decode cX6_giveBack 49 = .ok (.invokevirtual 177, 3) := by decide +kernel
theorem dX6_giveBack_52 : decode cX6_giveBack 52 = .ok (.ifCond .eq 55, 3) := by decide +kernel
theorem dX6_giveBack_55 : decode cX6_giveBack 55 = .ok (.aload 6, 2) := by decide +kernel
theorem dX6_giveBack_57 : decode cX6_giveBack 57 = .ok (.getfield 181, 3) := by decide +kernel
theorem dX6_giveBack_60 : decode cX6_giveBack 60 = .ok (.aload_n 3, 1) := by decide +kernel
theorem dX6_giveBack_61 : decode cX6_giveBack 61 = .ok (.if_acmp .ne 46, 3) := by decide +kernel
theorem dX6_giveBack_64 : decode cX6_giveBack 64 = .ok (.aload 6, 2) := by decide +kernel
theorem dX6_giveBack_66 : decode cX6_giveBack 66 = .ok (.getfield 185, 3) := by decide +kernel
theorem dX6_giveBack_69 : decode cX6_giveBack 69 = .ok (.aload 4, 2) := by decide +kernel
theorem dX6_giveBack_71 : decode cX6_giveBack 71 = .ok (.if_acmp .ne 36, 3) := by decide +kernel
theorem dX6_giveBack_74 : decode cX6_giveBack 74 = .ok (.aload_n 0, 1) := by decide +kernel
theorem dX6_giveBack_75 : decode cX6_giveBack 75 = .ok (.getfield 145, 3) := by decide +kernel
theorem dX6_giveBack_78 : decode cX6_giveBack 78 = .ok (.aload 6, 2) := by decide +kernel
theorem dX6_giveBack_80 : decode cX6_giveBack 80 = .ok (.getfield 189, 3) := by decide +kernel
theorem dX6_giveBack_83 : decode cX6_giveBack 83 = .ok (.isub, 1) := by decide +kernel
theorem dX6_giveBack_84 : decode cX6_giveBack 84 = .ok (.bipush 100, 2) := by decide +kernel
theorem dX6_giveBack_86 : decode cX6_giveBack 86 = .ok (.if_icmp .le 13, 3) := by decide +kernel
theorem dX6_giveBack_89 : decode cX6_giveBack 89 = .ok (.new 51, 3) := by decide +kernel
theorem dX6_giveBack_92 : decode cX6_giveBack 92 = .ok (.dup, 1) := by decide +kernel
theorem dX6_giveBack_93 : decode cX6_giveBack 93 = .ok (.ldc 192, 2) := by decide +kernel
theorem dX6_giveBack_95 : decode cX6_giveBack 95 = .ok (.invokespecial 55, 3) := by decide +kernel
theorem dX6_giveBack_98 : decode cX6_giveBack 98 = .ok (.athrow, 1) := by decide +kernel
theorem dX6_giveBack_99 : decode cX6_giveBack 99 = .ok (.aload_n 0, 1) := by decide +kernel
theorem dX6_giveBack_100 : decode cX6_giveBack 100 = .ok (.aload 6, 2) := by decide +kernel
theorem dX6_giveBack_102 : decode cX6_giveBack 102 = .ok (.iconst 2, 1) := by decide +kernel
theorem dX6_giveBack_103 : decode cX6_giveBack 103 = .ok (.invokevirtual 194, 3) := by decide +kernel
theorem dX6_giveBack_106 : decode cX6_giveBack 106 = .ok (.ireturn, 1) := by decide +kernel
theorem dX6_giveBack_107 : decode cX6_giveBack 107 = .ok (.iinc 5 (-1), 3) := by decide +kernel
theorem dX6_giveBack_110 : decode cX6_giveBack 110 = .ok (.goto (-82), 3) := by decide +kernel
theorem dX6_giveBack_113 : decode cX6_giveBack 113 = .ok (.new 51, 3) := by decide +kernel
theorem dX6_giveBack_116 : decode cX6_giveBack 116 = .ok (.dup, 1) := by decide +kernel
theorem dX6_giveBack_117 : decode cX6_giveBack 117 = .ok (.ldc 198, 2) := by decide +kernel
theorem dX6_giveBack_119 : decode cX6_giveBack 119 = .ok (.invokespecial 55, 3) := by decide +kernel
theorem dX6_giveBack_122 : decode cX6_giveBack 122 = .ok (.athrow, 1) := by decide +kernel
set_option maxRecDepth 20000 in
theorem ggX6_pledge_X6_guestNumbered : GoodIn wsX6_pledge wsX6_guestNumbered := goodIn_ca (goodIn_r _ [19, 20, 21, 22, 23, 24, 25, 26, 27, 28, 29, 30, 31, 32, 33, 34, 35, 36, 37, 38, 39, 40, 41, 42, 43, 44, 45, 46, 159, 160, 161, 162, 163, 164, 165, 166, 167, 168, 169, 170] (by decide +kernel) (by decide +kernel)) (goodIn_sub (fun _ h => List.mem_cons_of_mem _ (List.mem_append_right _ h)) (by decide +kernel))
set_option maxRecDepth 20000 in
theorem gX6_pledge_X6_guestNumbered : GoodIn wsX6_pledge (wsV RX6 129 RX6 yX6_guestNumbered wsX6_guestNumbered) := goodIn_app (goodIn_of _ (by decide +kernel)) ggX6_pledge_X6_guestNumbered
set_option maxRecDepth 20000 in
theorem ggX6_pledge_X6_wishNumbered : GoodIn wsX6_pledge wsX6_wishNumbered := goodIn_ca (goodIn_r _ [50, 20, 21, 51, 52, 24, 25, 26, 27, 28, 29, 30, 31, 32, 33, 34, 35, 36, 37, 38, 39, 40, 41, 42, 43, 44, 45, 46, 159, 160, 161, 162, 163, 164, 165, 166, 167, 168, 169, 170] (by decide +kernel) (by decide +kernel)) (goodIn_sub (fun _ h => List.mem_cons_of_mem _ (List.mem_append_right _ h)) (by decide +kernel))
set_option maxRecDepth 20000 in
theorem gX6_pledge_X6_wishNumbered : GoodIn wsX6_pledge (wsV RX6 74 RX6 yX6_wishNumbered wsX6_wishNumbered) := goodIn_app (goodIn_of _ (by decide +kernel)) ggX6_pledge_X6_wishNumbered
set_option maxRecDepth 20000 in
theorem ggX6_pledge_X6_refuseIfSettled : GoodIn wsX6_pledge wsX6_refuseIfSettled := goodIn_ca (goodIn_r _ [56, 3, 4, 57, 58, 59, 60, 18, 61, 62, 63, 64, 65, 66, 67, 68, 69, 70, 71, 72, 73, 74, 75, 9, 76, 77, 78, 79, 80, 81, 82, 83, 84, 25, 26, 27, 28, 29, 85, 31, 32, 33, 34, 35, 36, 37, 38, 39, 40, 41, 42, 43, 44, 45, 46, 148, 149, 150, 151, 152, 153, 154, 159, 160, 161, 162, 163, 164, 165, 166, 167, 157, 158, 168, 169, 170] (by decide +kernel) (by decide +kernel)) (goodIn_sub (fun _ h => List.mem_cons_of_mem _ (List.mem_append_left _ (List.mem_append_right _ h))) (by decide +kernel))
set_option maxRecDepth 20000 in
theorem gX6_pledge_X6_refuseIfSettled : GoodIn wsX6_pledge (wsV RX6 84 RX6 yX6_refuseIfSettled wsX6_refuseIfSettled) := goodIn_app (goodIn_of _ (by decide +kernel)) ggX6_pledge_X6_refuseIfSettled
set_option maxRecDepth 20000 in
theorem ggX6_pledge_X5_lacking : GoodIn wsX6_pledge wsX5_lacking := goodIn_r _ [72, 68, 73, 74, 75, 9, 76, 77, 78, 79, 66, 80, 81, 82, 83, 84, 25, 26, 27, 28, 29, 85, 31, 32, 33, 34, 35, 36, 37, 38, 39, 40, 41, 42, 43, 44, 45, 46, 148, 149, 150, 151, 152, 153, 154, 157, 158, 168, 169, 170] (by decide +kernel) (by decide +kernel)
set_option maxRecDepth 20000 in
theorem gX6_pledge_X5_lacking : GoodIn wsX6_pledge (wsV RX6 206 RX5 yX5_lacking wsX5_lacking) := goodIn_app (goodIn_of _ (by decide +kernel)) ggX6_pledge_X5_lacking
set_option maxRecDepth 20000 in
theorem ggX6_pledge_X6_pay : GoodIn wsX6_pledge wsX6_pay := goodIn_r _ [90, 6, 91, 155, 156, 159, 160, 161, 162, 163, 164, 165, 166, 167] (by decide +kernel) (by decide +kernel)
set_option maxRecDepth 20000 in
theorem gX6_pledge_X6_pay : GoodIn wsX6_pledge (wsV RX6 167 RX6 yX6_pay wsX6_pay) := goodIn_app (goodIn_of _ (by decide +kernel)) ggX6_pledge_X6_pay
set_option maxRecDepth 20000 in
theorem ggX6_pledge_X4_init : GoodIn wsX6_pledge wsX4_init := goodIn_r _ [94, 95, 96, 97, 98, 99, 157, 158] (by decide +kernel) (by decide +kernel)
set_option maxRecDepth 20000 in
theorem gX6_pledge_X4_init : GoodIn wsX6_pledge (wsX4_init) := ggX6_pledge_X4_init
set_option maxRecDepth 20000 in
theorem ggX6_pledge_Jx4a65c_add_9ea2d : GoodIn wsX6_pledge wsJx4a65c_add_9ea2d := goodIn_r _ [103, 104, 105, 46, 29, 106, 107, 108, 27, 109, 110, 111, 112, 113, 114, 115, 116, 117, 118, 119, 75, 9, 76, 120, 121, 122, 123, 124, 125, 126, 127, 128, 129, 130, 131, 132, 133, 134, 135, 136, 137, 138, 139, 140, 141, 142, 143, 8, 10, 144, 145, 146, 147, 168, 169, 170] (by decide +kernel) (by decide +kernel)
set_option maxRecDepth 20000 in
theorem gX6_pledge_Jx4a65c_add_9ea2d : GoodIn wsX6_pledge (wsV RX6 61 RJx4a65c yJx4a65c_add_9ea2d wsJx4a65c_add_9ea2d) := goodIn_app (goodIn_of _ (by decide +kernel)) ggX6_pledge_Jx4a65c_add_9ea2d
theorem dX6_pledge_0 : decode cX6_pledge 0 = .ok (.aload_n 0, 1) := by decide +kernel
theorem dX6_pledge_1 : decode cX6_pledge 1 = .ok (.iload_n 1, 1) := by decide +kernel
theorem dX6_pledge_2 : decode cX6_pledge 2 = .ok (.invokevirtual 129, 3) := by decide +kernel
theorem dX6_pledge_5 : decode cX6_pledge 5 = .ok (.astore 4, 2) := by decide +kernel
theorem dX6_pledge_7 : decode cX6_pledge 7 = .ok (.aload_n 0, 1) := by decide +kernel
theorem dX6_pledge_8 : decode cX6_pledge 8 = .ok (.iload_n 2, 1) := by decide +kernel
theorem dX6_pledge_9 : decode cX6_pledge 9 = .ok (.invokevirtual 74, 3) := by decide +kernel
theorem dX6_pledge_12 : decode cX6_pledge 12 = .ok (.astore 5, 2) := by decide +kernel
theorem dX6_pledge_14 : decode cX6_pledge 14 = .ok (.iload_n 3, 1) := by decide +kernel
theorem dX6_pledge_15 : decode cX6_pledge 15 = .ok (.iconst 1, 1) := by decide +kernel
theorem dX6_pledge_16 : decode cX6_pledge 16 = .ok (.if_icmp .lt 10, 3) := by decide +kernel
theorem dX6_pledge_19 : decode cX6_pledge 19 = .ok (.iload_n 3, 1) := by decide +kernel
theorem dX6_pledge_20 : decode cX6_pledge 20 = .ok (.sipush 9999, 3) := by decide +kernel
theorem dX6_pledge_23 : decode cX6_pledge 23 = .ok (.if_icmp .le 13, 3) := by decide +kernel
theorem dX6_pledge_26 : decode cX6_pledge 26 = .ok (.new 29, 3) := by decide +kernel
theorem dX6_pledge_29 : decode cX6_pledge 29 = .ok (.dup, 1) := by decide +kernel
theorem dX6_pledge_30 : decode cX6_pledge 30 = .ok (.ldc 200, 2) := by decide +kernel
theorem dX6_pledge_32 : decode cX6_pledge 32 = .ok (.invokespecial 33, 3) := by decide +kernel
theorem dX6_pledge_35 : decode cX6_pledge 35 = .ok (.athrow, 1) := by decide +kernel
theorem dX6_pledge_36 : decode cX6_pledge 36 = .ok (.aload_n 0, 1) := by decide +kernel
theorem dX6_pledge_37 : decode cX6_pledge 37 = .ok (.aload 5, 2) := by decide +kernel
theorem dX6_pledge_39 : decode cX6_pledge 39 = .ok (.invokevirtual 84, 3) := by decide +kernel
theorem dX6_pledge_42 : decode cX6_pledge 42 = .ok (.aload 5, 2) := by decide +kernel
theorem dX6_pledge_44 : decode cX6_pledge 44 = .ok (.getfield 78, 3) := by decide +kernel
theorem dX6_pledge_47 : decode cX6_pledge 47 = .ok (.ifCond .ne 13, 3) := by decide +kernel
theorem dX6_pledge_50 : decode cX6_pledge 50 = .ok (.new 51, 3) := by decide +kernel
theorem dX6_pledge_53 : decode cX6_pledge 53 = .ok (.dup, 1) := by decide +kernel
theorem dX6_pledge_54 : decode cX6_pledge 54 = .ok (.ldc 202, 2) := by decide +kernel
theorem dX6_pledge_56 : decode cX6_pledge 56 = .ok (.invokespecial 55, 3) := by decide +kernel
theorem dX6_pledge_59 : decode cX6_pledge 59 = .ok (.athrow, 1) := by decide +kernel
theorem dX6_pledge_60 : decode cX6_pledge 60 = .ok (.aload 4, 2) := by decide +kernel
theorem dX6_pledge_62 : decode cX6_pledge 62 = .ok (.getfield 158, 3) := by decide +kernel
theorem dX6_pledge_65 : decode cX6_pledge 65 = .ok (.iload_n 3, 1) := by decide +kernel
theorem dX6_pledge_66 : decode cX6_pledge 66 = .ok (.if_icmp .ge 13, 3) := by decide +kernel
theorem dX6_pledge_69 : decode cX6_pledge 69 = .ok (.new 51, 3) := by decide +kernel
theorem dX6_pledge_72 : decode cX6_pledge 72 = .ok (.dup, 1) := by decide +kernel
theorem dX6_pledge_73 : decode cX6_pledge 73 = .ok (.ldc 204, 2) := by decide +kernel
theorem dX6_pledge_75 : decode cX6_pledge 75 = .ok (.invokespecial 55, 3) := by decide +kernel
theorem dX6_pledge_78 : decode cX6_pledge 78 = .ok (.athrow, 1) := by decide +kernel
theorem dX6_pledge_79 : decode cX6_pledge 79 = .ok (.iload_n 3, 1) := by decide +kernel
theorem dX6_pledge_80 : decode cX6_pledge 80 = .ok (.aload 5, 2) := by decide +kernel
theorem dX6_pledge_82 : decode cX6_pledge 82 = .ok (.invokevirtual 206, 3) := by decide +kernel
theorem dX6_pledge_85 : decode cX6_pledge 85 = .ok (.invokestatic 209, 3) := by decide +kernel
theorem dX6_pledge_88 : decode cX6_pledge 88 = .ok (.istore 6, 2) := by decide +kernel
theorem dX6_pledge_90 : decode cX6_pledge 90 = .ok (.aload_n 0, 1) := by decide +kernel
theorem dX6_pledge_91 : decode cX6_pledge 91 = .ok (.aload 4, 2) := by decide +kernel
theorem dX6_pledge_93 : decode cX6_pledge 93 = .ok (.iload 6, 2) := by decide +kernel
theorem dX6_pledge_95 : decode cX6_pledge 95 = .ok (.invokevirtual 167, 3) := by decide +kernel
theorem dX6_pledge_98 : decode cX6_pledge 98 = .ok (.aload 5, 2) := by decide +kernel
theorem dX6_pledge_100 : decode cX6_pledge 100 = .ok (.getfield 215, 3) := by decide +kernel
theorem dX6_pledge_103 : decode cX6_pledge 103 = .ok (.new 218, 3) := by decide +kernel
theorem dX6_pledge_106 : decode cX6_pledge 106 = .ok (.dup, 1) := by decide +kernel
theorem dX6_pledge_107 : decode cX6_pledge 107 = .ok (.aload 4, 2) := by decide +kernel
theorem dX6_pledge_109 : decode cX6_pledge 109 = .ok (.iload 6, 2) := by decide +kernel
theorem dX6_pledge_111 : decode cX6_pledge 111 = .ok (.invokespecial 220, 3) := by decide +kernel
theorem dX6_pledge_114 : decode cX6_pledge 114 = .ok (.invokevirtual 61, 3) := by decide +kernel
theorem dX6_pledge_117 : decode cX6_pledge 117 = .ok (.pop, 1) := by decide +kernel
theorem dX6_pledge_118 : decode cX6_pledge 118 = .ok (.iload 6, 2) := by decide +kernel
theorem dX6_pledge_120 : decode cX6_pledge 120 = .ok (.ireturn, 1) := by decide +kernel
set_option maxRecDepth 20000 in
theorem ggX6_pass_X6_holdsStanding : GoodIn wsX6_pass wsX6_holdsStanding := goodIn_r _ [10, 11, 12, 5, 13, 14, 15, 16, 17, 18, 19, 20, 21, 22, 23, 24, 25, 26, 27, 28, 29, 30, 31, 32, 33, 34, 35, 36, 37, 38, 39, 40, 41, 42, 43, 44, 45, 46, 47, 48, 49, 9, 50, 51, 52, 53, 54, 55, 56, 57, 58, 59, 60, 61, 62, 63, 64, 65, 66, 67, 68, 69, 70, 71, 72, 73, 74, 75, 76, 77, 78, 79, 80, 81, 82, 83, 84, 85, 86] (by decide +kernel) (by decide +kernel)
set_option maxRecDepth 20000 in
theorem gX6_pass_X6_holdsStanding : GoodIn wsX6_pass (wsV RX6 226 RX6 yX6_holdsStanding wsX6_holdsStanding) := goodIn_app (goodIn_of _ (by decide +kernel)) ggX6_pass_X6_holdsStanding
theorem dX6_pass_0 : decode cX6_pass 0 = .ok (.iload_n 1, 1) := by decide +kernel
theorem dX6_pass_1 : decode cX6_pass 1 = .ok (.iconst 1, 1) := by decide +kernel
theorem dX6_pass_2 : decode cX6_pass 2 = .ok (.if_icmp .lt 10, 3) := by decide +kernel
theorem dX6_pass_5 : decode cX6_pass 5 = .ok (.iload_n 1, 1) := by decide +kernel
theorem dX6_pass_6 : decode cX6_pass 6 = .ok (.sipush 500, 3) := by decide +kernel
theorem dX6_pass_9 : decode cX6_pass 9 = .ok (.if_icmp .le 13, 3) := by decide +kernel
theorem dX6_pass_12 : decode cX6_pass 12 = .ok (.new 29, 3) := by decide +kernel
theorem dX6_pass_15 : decode cX6_pass 15 = .ok (.dup, 1) := by decide +kernel
theorem dX6_pass_16 : decode cX6_pass 16 = .ok (.ldc 222, 2) := by decide +kernel
theorem dX6_pass_18 : decode cX6_pass 18 = .ok (.invokespecial 33, 3) := by decide +kernel
theorem dX6_pass_21 : decode cX6_pass 21 = .ok (.athrow, 1) := by decide +kernel
theorem dX6_pass_22 : decode cX6_pass 22 = .ok (.aload_n 0, 1) := by decide +kernel
theorem dX6_pass_23 : decode cX6_pass 23 = .ok (.getfield 145, 3) := by decide +kernel
theorem dX6_pass_26 : decode cX6_pass 26 = .ok (.iload_n 1, 1) := by decide +kernel
theorem dX6_pass_27 : decode cX6_pass 27 = .ok (.iadd, 1) := by decide +kernel
theorem dX6_pass_28 : decode cX6_pass 28 = .ok (.sipush 9999, 3) := by decide +kernel
theorem dX6_pass_31 : decode cX6_pass 31 = .ok (.if_icmp .le 13, 3) := by decide +kernel
theorem dX6_pass_34 : decode cX6_pass 34 = .ok (.new 51, 3) := by decide +kernel
theorem dX6_pass_37 : decode cX6_pass 37 = .ok (.dup, 1) := by decide +kernel
theorem dX6_pass_38 : decode cX6_pass 38 = .ok (.ldc 224, 2) := by decide +kernel
theorem dX6_pass_40 : decode cX6_pass 40 = .ok (.invokespecial 55, 3) := by decide +kernel
theorem dX6_pass_43 : decode cX6_pass 43 = .ok (.athrow, 1) := by decide +kernel
theorem dX6_pass_44 : decode cX6_pass 44 = .ok (.aload_n 0, 1) := by decide +kernel
theorem dX6_pass_45 : decode cX6_pass 45 = .ok (.dup, 1) := by decide +kernel
theorem dX6_pass_46 : decode cX6_pass 46 = .ok (.getfield 145, 3) := by decide +kernel
theorem dX6_pass_49 : decode cX6_pass 49 = .ok (.iload_n 1, 1) := by decide +kernel
theorem dX6_pass_50 : decode cX6_pass 50 = .ok (.iadd, 1) := by decide +kernel
theorem dX6_pass_51 : decode cX6_pass 51 = .ok (.putfield 145, 3) := by decide +kernel
theorem dX6_pass_54 : decode cX6_pass 54 = .ok (.aload_n 0, 1) := by decide +kernel
theorem dX6_pass_55 : decode cX6_pass 55 = .ok (.invokevirtual 226, 3) := by decide +kernel
theorem dX6_pass_58 : decode cX6_pass 58 = .ok (.ireturn, 1) := by decide +kernel
set_option maxRecDepth 20000 in
theorem ggX6_ofWish_X6_wishNumbered : GoodIn wsX6_ofWish wsX6_wishNumbered := goodIn_ca (goodIn_r _ [11, 12, 13, 14, 15, 16, 17, 18, 19, 20, 21, 22, 23, 24, 25, 26, 27, 28, 29, 30, 31, 32, 33, 34, 35, 36, 37, 38, 84, 85, 86, 87, 88, 89, 90, 91, 92, 93, 94, 95] (by decide +kernel) (by decide +kernel)) (goodIn_sub (fun _ h => List.mem_cons_of_mem _ (List.mem_append_right _ h)) (by decide +kernel))
set_option maxRecDepth 20000 in
theorem gX6_ofWish_X6_wishNumbered : GoodIn wsX6_ofWish (wsV RX6 74 RX6 yX6_wishNumbered wsX6_wishNumbered) := goodIn_app (goodIn_of _ (by decide +kernel)) ggX6_ofWish_X6_wishNumbered
set_option maxRecDepth 20000 in
theorem ggX6_ofWish_X6_oneIf : GoodIn wsX6_ofWish wsX6_oneIf := goodIn_r _ [41] (by decide +kernel) (by decide +kernel)
set_option maxRecDepth 20000 in
theorem gX6_ofWish_X6_oneIf : GoodIn wsX6_ofWish (va_wsS RX6 235 yX6_oneIf wsX6_oneIf) := goodIn_app (goodIn_of _ (by decide +kernel)) ggX6_ofWish_X6_oneIf
set_option maxRecDepth 20000 in
theorem ggX6_ofWish_X6_giftsOf : GoodIn wsX6_ofWish wsX6_giftsOf := goodIn_r _ [45, 46, 47, 48, 49, 50, 16, 17, 18, 19, 20, 21, 22, 23, 24, 25, 26, 27, 28, 29, 30, 31, 32, 33, 34, 35, 36, 37, 38, 39, 40, 10, 41, 84, 85, 86, 87, 88, 89, 90, 91, 92, 96, 97, 98, 99, 100, 101, 102, 103, 104, 105, 106, 107, 108, 109, 110, 111, 112, 93, 94, 95] (by decide +kernel) (by decide +kernel)
set_option maxRecDepth 20000 in
theorem gX6_ofWish_X6_giftsOf : GoodIn wsX6_ofWish (wsV RX6 239 RX6 yX6_giftsOf wsX6_giftsOf) := goodIn_app (goodIn_of _ (by decide +kernel)) ggX6_ofWish_X6_giftsOf
set_option maxRecDepth 20000 in
theorem ggX6_ofWish_X5_pledged : GoodIn wsX6_ofWish wsX5_pledged := goodIn_r _ [55, 56, 57, 58, 59, 17, 18, 19, 20, 21, 60, 23, 24, 25, 26, 27, 28, 29, 30, 31, 32, 33, 34, 35, 36, 37, 38, 77, 78, 79, 80, 81, 82, 83, 113, 114, 93, 94, 95] (by decide +kernel) (by decide +kernel)
set_option maxRecDepth 20000 in
theorem gX6_ofWish_X5_pledged : GoodIn wsX6_ofWish (wsV RX6 91 RX5 yX5_pledged wsX5_pledged) := goodIn_app (goodIn_of _ (by decide +kernel)) ggX6_ofWish_X5_pledged
set_option maxRecDepth 20000 in
theorem ggX6_ofWish_X5_lacking : GoodIn wsX6_ofWish wsX5_lacking := goodIn_r _ [64, 65, 66, 67, 68, 69, 70, 71, 52, 53, 54, 55, 56, 57, 58, 59, 17, 18, 19, 20, 21, 60, 23, 24, 25, 26, 27, 28, 29, 30, 31, 32, 33, 34, 35, 36, 37, 38, 77, 78, 79, 80, 81, 82, 83, 113, 114, 93, 94, 95] (by decide +kernel) (by decide +kernel)
set_option maxRecDepth 20000 in
theorem gX6_ofWish_X5_lacking : GoodIn wsX6_ofWish (wsV RX6 206 RX5 yX5_lacking wsX5_lacking) := goodIn_app (goodIn_of _ (by decide +kernel)) ggX6_ofWish_X5_lacking
set_option maxRecDepth 20000 in
theorem ggX6_ofWish_X5_isOrdered : GoodIn wsX6_ofWish wsX5_isOrdered := goodIn_r _ [75, 65, 76, 62, 63, 54, 64, 66, 67, 68, 69, 70, 71, 52, 53, 55, 56, 57, 58, 59, 17, 18, 19, 20, 21, 60, 23, 24, 25, 26, 27, 28, 29, 30, 31, 32, 33, 34, 35, 36, 37, 38, 77, 78, 79, 80, 81, 82, 83, 113, 114, 93, 94, 95] (by decide +kernel) (by decide +kernel)
set_option maxRecDepth 20000 in
theorem gX6_ofWish_X5_isOrdered : GoodIn wsX6_ofWish (wsV RX6 242 RX5 yX5_isOrdered wsX5_isOrdered) := goodIn_app (goodIn_of _ (by decide +kernel)) ggX6_ofWish_X5_isOrdered
theorem dX6_ofWish_0 : decode cX6_ofWish 0 = .ok (.aload_n 0, 1) := by decide +kernel
theorem dX6_ofWish_1 : decode cX6_ofWish 1 = .ok (.iload_n 1, 1) := by decide +kernel
theorem dX6_ofWish_2 : decode cX6_ofWish 2 = .ok (.invokevirtual 74, 3) := by decide +kernel
theorem dX6_ofWish_5 : decode cX6_ofWish 5 = .ok (.astore_n 3, 1) := by decide +kernel
theorem dX6_ofWish_6 : decode cX6_ofWish 6 = .ok (.iload_n 2, 1) := by decide +kernel
theorem dX6_ofWish_7 : decode cX6_ofWish 7 = .ok (.tableswitch 107 0 8 #[49, 54, 59, 67, 75, 82, 89, 94, 99], 49) := by decide +kernel
theorem dX6_ofWish_56 : decode cX6_ofWish 56 = .ok (.aload_n 3, 1) := by decide +kernel
theorem dX6_ofWish_57 : decode cX6_ofWish 57 = .ok (.getfield 232, 3) := by decide +kernel
theorem dX6_ofWish_60 : decode cX6_ofWish 60 = .ok (.ireturn, 1) := by decide +kernel
theorem dX6_ofWish_61 : decode cX6_ofWish 61 = .ok (.aload_n 3, 1) := by decide +kernel
theorem dX6_ofWish_62 : decode cX6_ofWish 62 = .ok (.getfield 88, 3) := by decide +kernel
theorem dX6_ofWish_65 : decode cX6_ofWish 65 = .ok (.ireturn, 1) := by decide +kernel
theorem dX6_ofWish_66 : decode cX6_ofWish 66 = .ok (.aload_n 3, 1) := by decide +kernel
theorem dX6_ofWish_67 : decode cX6_ofWish 67 = .ok (.getfield 78, 3) := by decide +kernel
theorem dX6_ofWish_70 : decode cX6_ofWish 70 = .ok (.invokestatic 235, 3) := by decide +kernel
theorem dX6_ofWish_73 : decode cX6_ofWish 73 = .ok (.ireturn, 1) := by decide +kernel
theorem dX6_ofWish_74 : decode cX6_ofWish 74 = .ok (.aload_n 3, 1) := by decide +kernel
theorem dX6_ofWish_75 : decode cX6_ofWish 75 = .ok (.getfield 98, 3) := by decide +kernel
theorem dX6_ofWish_78 : decode cX6_ofWish 78 = .ok (.invokestatic 235, 3) := by decide +kernel
theorem dX6_ofWish_81 : decode cX6_ofWish 81 = .ok (.ireturn, 1) := by decide +kernel
theorem dX6_ofWish_82 : decode cX6_ofWish 82 = .ok (.aload_n 0, 1) := by decide +kernel
theorem dX6_ofWish_83 : decode cX6_ofWish 83 = .ok (.aload_n 3, 1) := by decide +kernel
theorem dX6_ofWish_84 : decode cX6_ofWish 84 = .ok (.iconst 0, 1) := by decide +kernel
theorem dX6_ofWish_85 : decode cX6_ofWish 85 = .ok (.invokevirtual 239, 3) := by decide +kernel
theorem dX6_ofWish_88 : decode cX6_ofWish 88 = .ok (.ireturn, 1) := by decide +kernel
theorem dX6_ofWish_89 : decode cX6_ofWish 89 = .ok (.aload_n 0, 1) := by decide +kernel
theorem dX6_ofWish_90 : decode cX6_ofWish 90 = .ok (.aload_n 3, 1) := by decide +kernel
theorem dX6_ofWish_91 : decode cX6_ofWish 91 = .ok (.iconst 1, 1) := by decide +kernel
theorem dX6_ofWish_92 : decode cX6_ofWish 92 = .ok (.invokevirtual 239, 3) := by decide +kernel
theorem dX6_ofWish_95 : decode cX6_ofWish 95 = .ok (.ireturn, 1) := by decide +kernel
theorem dX6_ofWish_96 : decode cX6_ofWish 96 = .ok (.aload_n 3, 1) := by decide +kernel
theorem dX6_ofWish_97 : decode cX6_ofWish 97 = .ok (.invokevirtual 91, 3) := by decide +kernel
theorem dX6_ofWish_100 : decode cX6_ofWish 100 = .ok (.ireturn, 1) := by decide +kernel
theorem dX6_ofWish_101 : decode cX6_ofWish 101 = .ok (.aload_n 3, 1) := by decide +kernel
theorem dX6_ofWish_102 : decode cX6_ofWish 102 = .ok (.invokevirtual 206, 3) := by decide +kernel
theorem dX6_ofWish_105 : decode cX6_ofWish 105 = .ok (.ireturn, 1) := by decide +kernel
theorem dX6_ofWish_106 : decode cX6_ofWish 106 = .ok (.aload_n 3, 1) := by decide +kernel
theorem dX6_ofWish_107 : decode cX6_ofWish 107 = .ok (.invokevirtual 242, 3) := by decide +kernel
theorem dX6_ofWish_110 : decode cX6_ofWish 110 = .ok (.invokestatic 235, 3) := by decide +kernel
theorem dX6_ofWish_113 : decode cX6_ofWish 113 = .ok (.ireturn, 1) := by decide +kernel
theorem dX6_ofWish_114 : decode cX6_ofWish 114 = .ok (.new 29, 3) := by decide +kernel
theorem dX6_ofWish_117 : decode cX6_ofWish 117 = .ok (.dup, 1) := by decide +kernel
theorem dX6_ofWish_118 : decode cX6_ofWish 118 = .ok (.ldc 245, 2) := by decide +kernel
theorem dX6_ofWish_120 : decode cX6_ofWish 120 = .ok (.invokespecial 33, 3) := by decide +kernel
theorem dX6_ofWish_123 : decode cX6_ofWish 123 = .ok (.athrow, 1) := by decide +kernel
set_option maxRecDepth 20000 in
theorem ggX6_ofGuest_X6_guestNumbered : GoodIn wsX6_ofGuest wsX6_guestNumbered := goodIn_ca (goodIn_r _ [8, 9, 10, 11, 12, 13, 14, 15, 16, 17, 18, 19, 20, 21, 22, 23, 24, 25, 26, 27, 28, 29, 30, 31, 32, 33, 34, 35, 99, 100, 101, 102, 103, 104, 105, 106, 107, 108, 109, 110] (by decide +kernel) (by decide +kernel)) (goodIn_sub (fun _ h => List.mem_cons_of_mem _ (List.mem_append_right _ h)) (by decide +kernel))
set_option maxRecDepth 20000 in
theorem gX6_ofGuest_X6_guestNumbered : GoodIn wsX6_ofGuest (wsV RX6 129 RX6 yX6_guestNumbered wsX6_guestNumbered) := goodIn_app (goodIn_of _ (by decide +kernel)) ggX6_ofGuest_X6_guestNumbered
set_option maxRecDepth 20000 in
theorem ggX6_ofGuest_X6_giftsBy : GoodIn wsX6_ofGuest wsX6_giftsBy := goodIn_r _ [39, 40, 41, 42, 43, 44, 13, 14, 15, 16, 17, 18, 19, 20, 21, 22, 23, 24, 25, 26, 27, 28, 29, 30, 31, 32, 33, 34, 35, 45, 46, 7, 47, 99, 100, 101, 102, 103, 104, 105, 106, 107, 111, 112, 113, 114, 115, 116, 117, 118, 119, 120, 121, 122, 123, 124, 125, 126, 127, 108, 109, 110] (by decide +kernel) (by decide +kernel)
set_option maxRecDepth 20000 in
theorem gX6_ofGuest_X6_giftsBy : GoodIn wsX6_ofGuest (wsV RX6 247 RX6 yX6_giftsBy wsX6_giftsBy) := goodIn_app (goodIn_of _ (by decide +kernel)) ggX6_ofGuest_X6_giftsBy
set_option maxRecDepth 20000 in
theorem ggX6_ofGuest_X6_paidForKeptBy : GoodIn wsX6_ofGuest wsX6_paidForKeptBy := goodIn_r _ [51, 40, 41, 43, 44, 52, 13, 14, 15, 16, 17, 18, 19, 20, 21, 22, 23, 24, 25, 26, 27, 28, 29, 30, 31, 32, 33, 34, 35, 53, 54, 55, 56, 57, 58, 99, 100, 101, 102, 103, 104, 105, 106, 107, 111, 112, 113, 114, 115, 116, 117, 118, 119, 120, 121, 122, 123, 124, 125, 126, 127, 108, 109, 110] (by decide +kernel) (by decide +kernel)
set_option maxRecDepth 20000 in
theorem gX6_ofGuest_X6_paidForKeptBy : GoodIn wsX6_ofGuest (wsV RX6 251 RX6 yX6_paidForKeptBy wsX6_paidForKeptBy) := goodIn_app (goodIn_of _ (by decide +kernel)) ggX6_ofGuest_X6_paidForKeptBy
set_option maxRecDepth 20000 in
theorem ggX6_ofGuest_X6_pledgedBy : GoodIn wsX6_ofGuest wsX6_pledgedBy := goodIn_r _ [62, 63, 64, 13, 14, 15, 16, 17, 18, 19, 20, 21, 22, 23, 24, 25, 26, 27, 28, 29, 30, 31, 32, 33, 34, 35, 65, 66, 67, 68, 69, 70, 71, 72, 73, 74, 75, 99, 100, 101, 102, 103, 104, 105, 106, 107, 108, 109, 110, 128, 129, 130, 131, 132, 133, 134, 135, 136] (by decide +kernel) (by decide +kernel)
set_option maxRecDepth 20000 in
theorem gX6_ofGuest_X6_pledgedBy : GoodIn wsX6_ofGuest (wsV RX6 255 RX6 yX6_pledgedBy wsX6_pledgedBy) := goodIn_app (goodIn_of _ (by decide +kernel)) ggX6_ofGuest_X6_pledgedBy
set_option maxRecDepth 20000 in
theorem ggX6_ofGuest_X6_holdsStandingOf : GoodIn wsX6_ofGuest wsX6_holdsStandingOf := goodIn_r _ [79, 80, 81, 82, 83, 84, 13, 14, 15, 16, 17, 18, 19, 20, 21, 22, 23, 24, 25, 26, 27, 28, 29, 30, 31, 32, 33, 34, 35, 85, 86, 87, 88, 89, 90, 91, 92, 93, 94, 95, 96, 45, 46, 7, 47, 99, 100, 101, 102, 103, 104, 105, 106, 107, 111, 112, 113, 114, 115, 116, 117, 118, 119, 120, 121, 122, 123, 124, 125, 126, 127, 108, 109, 110, 128, 129, 130, 131, 132, 133, 134] (by decide +kernel) (by decide +kernel)
set_option maxRecDepth 20000 in
theorem gX6_ofGuest_X6_holdsStandingOf : GoodIn wsX6_ofGuest (wsV RX6 258 RX6 yX6_holdsStandingOf wsX6_holdsStandingOf) := goodIn_app (goodIn_of _ (by decide +kernel)) ggX6_ofGuest_X6_holdsStandingOf
theorem dX6_ofGuest_0 : decode cX6_ofGuest 0 = .ok (.aload_n 0, 1) := by decide +kernel
theorem dX6_ofGuest_1 : decode cX6_ofGuest 1 = .ok (.iload_n 1, 1) := by decide +kernel
theorem dX6_ofGuest_2 : decode cX6_ofGuest 2 = .ok (.invokevirtual 129, 3) := by decide +kernel
theorem dX6_ofGuest_5 : decode cX6_ofGuest 5 = .ok (.astore_n 3, 1) := by decide +kernel
theorem dX6_ofGuest_6 : decode cX6_ofGuest 6 = .ok (.iload_n 2, 1) := by decide +kernel
theorem dX6_ofGuest_7 : decode cX6_ofGuest 7 = .ok (.tableswitch 74 0 5 #[37, 42, 49, 55, 61, 68], 37) := by decide +kernel
theorem dX6_ofGuest_44 : decode cX6_ofGuest 44 = .ok (.aload_n 3, 1) := by decide +kernel
theorem dX6_ofGuest_45 : decode cX6_ofGuest 45 = .ok (.getfield 158, 3) := by decide +kernel
theorem dX6_ofGuest_48 : decode cX6_ofGuest 48 = .ok (.ireturn, 1) := by decide +kernel
theorem dX6_ofGuest_49 : decode cX6_ofGuest 49 = .ok (.aload_n 0, 1) := by decide +kernel
theorem dX6_ofGuest_50 : decode cX6_ofGuest 50 = .ok (.aload_n 3, 1) := by decide +kernel
theorem dX6_ofGuest_51 : decode cX6_ofGuest 51 = .ok (.iconst 0, 1) := by decide +kernel
theorem dX6_ofGuest_52 : decode cX6_ofGuest 52 = .ok (.invokevirtual 247, 3) := by decide +kernel
theorem dX6_ofGuest_55 : decode cX6_ofGuest 55 = .ok (.ireturn, 1) := by decide +kernel
theorem dX6_ofGuest_56 : decode cX6_ofGuest 56 = .ok (.aload_n 0, 1) := by decide +kernel
theorem dX6_ofGuest_57 : decode cX6_ofGuest 57 = .ok (.aload_n 3, 1) := by decide +kernel
theorem dX6_ofGuest_58 : decode cX6_ofGuest 58 = .ok (.invokevirtual 251, 3) := by decide +kernel
theorem dX6_ofGuest_61 : decode cX6_ofGuest 61 = .ok (.ireturn, 1) := by decide +kernel
theorem dX6_ofGuest_62 : decode cX6_ofGuest 62 = .ok (.aload_n 0, 1) := by decide +kernel
theorem dX6_ofGuest_63 : decode cX6_ofGuest 63 = .ok (.aload_n 3, 1) := by decide +kernel
theorem dX6_ofGuest_64 : decode cX6_ofGuest 64 = .ok (.invokevirtual 255, 3) := by decide +kernel
theorem dX6_ofGuest_67 : decode cX6_ofGuest 67 = .ok (.ireturn, 1) := by decide +kernel
theorem dX6_ofGuest_68 : decode cX6_ofGuest 68 = .ok (.aload_n 0, 1) := by decide +kernel
theorem dX6_ofGuest_69 : decode cX6_ofGuest 69 = .ok (.aload_n 3, 1) := by decide +kernel
theorem dX6_ofGuest_70 : decode cX6_ofGuest 70 = .ok (.iconst 1, 1) := by decide +kernel
theorem dX6_ofGuest_71 : decode cX6_ofGuest 71 = .ok (.invokevirtual 247, 3) := by decide +kernel
theorem dX6_ofGuest_74 : decode cX6_ofGuest 74 = .ok (.ireturn, 1) := by decide +kernel
theorem dX6_ofGuest_75 : decode cX6_ofGuest 75 = .ok (.aload_n 0, 1) := by decide +kernel
theorem dX6_ofGuest_76 : decode cX6_ofGuest 76 = .ok (.aload_n 3, 1) := by decide +kernel
theorem dX6_ofGuest_77 : decode cX6_ofGuest 77 = .ok (.invokevirtual 258, 3) := by decide +kernel
theorem dX6_ofGuest_80 : decode cX6_ofGuest 80 = .ok (.ireturn, 1) := by decide +kernel
theorem dX6_ofGuest_81 : decode cX6_ofGuest 81 = .ok (.new 29, 3) := by decide +kernel
theorem dX6_ofGuest_84 : decode cX6_ofGuest 84 = .ok (.dup, 1) := by decide +kernel
theorem dX6_ofGuest_85 : decode cX6_ofGuest 85 = .ok (.ldc_w 261, 3) := by decide +kernel
theorem dX6_ofGuest_88 : decode cX6_ofGuest 88 = .ok (.invokespecial 33, 3) := by decide +kernel
theorem dX6_ofGuest_91 : decode cX6_ofGuest 91 = .ok (.athrow, 1) := by decide +kernel
set_option maxRecDepth 20000 in
theorem ggX6_left_X6_checkTill : GoodIn wsX6_left wsX6_checkTill := goodIn_ca (goodIn_r _ [4, 5, 6] (by decide +kernel) (by decide +kernel)) (goodIn_sub (fun _ h => List.mem_cons_of_mem _ (List.mem_append_right _ h)) (by decide +kernel))
set_option maxRecDepth 20000 in
theorem gX6_left_X6_checkTill : GoodIn wsX6_left (va_wsS RX6 101 yX6_checkTill wsX6_checkTill) := goodIn_app (goodIn_of _ (by decide +kernel)) ggX6_left_X6_checkTill
set_option maxRecDepth 20000 in
theorem ggX6_left_X6_wishNumbered : GoodIn wsX6_left wsX6_wishNumbered := goodIn_ca (goodIn_r _ [10, 5, 6, 11, 12, 13, 14, 15, 16, 17, 18, 19, 20, 21, 22, 23, 24, 25, 26, 27, 28, 29, 30, 31, 32, 33, 34, 35, 87, 88, 89, 90, 91, 92, 93, 94, 95, 96, 97, 98] (by decide +kernel) (by decide +kernel)) (goodIn_sub (fun _ h => List.mem_cons_of_mem _ (List.mem_append_right _ h)) (by decide +kernel))
set_option maxRecDepth 20000 in
theorem gX6_left_X6_wishNumbered : GoodIn wsX6_left (wsV RX6 74 RX6 yX6_wishNumbered wsX6_wishNumbered) := goodIn_app (goodIn_of _ (by decide +kernel)) ggX6_left_X6_wishNumbered
set_option maxRecDepth 20000 in
theorem ggX6_left_X6_leftAt : GoodIn wsX6_left wsX6_leftAt := goodIn_r _ [39, 40, 41, 42, 43, 44, 45, 46, 47, 48, 49, 50, 51, 52, 53, 54, 3, 55, 56, 57, 58, 59, 13, 14, 15, 16, 17, 18, 19, 20, 21, 22, 23, 24, 25, 26, 27, 28, 29, 30, 31, 32, 33, 34, 35, 60, 61, 62, 63, 64, 65, 66, 67, 68, 69, 70, 71, 72, 73, 74, 75, 76, 77, 78, 79, 80, 81, 82, 83, 84, 85, 86, 99, 100, 101, 102, 103, 104, 105, 87, 88, 89, 90, 91, 92, 93, 94, 95, 106, 107, 108, 109, 110, 111, 112, 113, 114, 115, 116, 117, 118, 119, 120, 121, 122, 96, 97, 98] (by decide +kernel) (by decide +kernel)
set_option maxRecDepth 20000 in
theorem gX6_left_X6_leftAt : GoodIn wsX6_left (wsV RX6 137 RX6 yX6_leftAt wsX6_leftAt) := goodIn_app (goodIn_of _ (by decide +kernel)) ggX6_left_X6_leftAt
theorem dX6_left_0 : decode cX6_left 0 = .ok (.iload_n 1, 1) := by decide +kernel
theorem dX6_left_1 : decode cX6_left 1 = .ok (.invokestatic 101, 3) := by decide +kernel
theorem dX6_left_4 : decode cX6_left 4 = .ok (.aload_n 0, 1) := by decide +kernel
theorem dX6_left_5 : decode cX6_left 5 = .ok (.iload_n 1, 1) := by decide +kernel
theorem dX6_left_6 : decode cX6_left 6 = .ok (.aload_n 0, 1) := by decide +kernel
theorem dX6_left_7 : decode cX6_left 7 = .ok (.iload_n 2, 1) := by decide +kernel
theorem dX6_left_8 : decode cX6_left 8 = .ok (.invokevirtual 74, 3) := by decide +kernel
theorem dX6_left_11 : decode cX6_left 11 = .ok (.invokevirtual 137, 3) := by decide +kernel
theorem dX6_left_14 : decode cX6_left 14 = .ok (.ireturn, 1) := by decide +kernel
set_option maxRecDepth 20000 in
theorem ggX6_ofTill_X6_checkTill : GoodIn wsX6_ofTill wsX6_checkTill := goodIn_ca (goodIn_r _ [6, 7, 8] (by decide +kernel) (by decide +kernel)) (goodIn_sub (fun _ h => List.mem_cons_of_mem _ (List.mem_append_right _ h)) (by decide +kernel))
set_option maxRecDepth 20000 in
theorem gX6_ofTill_X6_checkTill : GoodIn wsX6_ofTill (va_wsS RX6 101 yX6_checkTill wsX6_checkTill) := goodIn_app (goodIn_of _ (by decide +kernel)) ggX6_ofTill_X6_checkTill
set_option maxRecDepth 20000 in
theorem ggX6_ofTill_X6_isJoined : GoodIn wsX6_ofTill wsX6_isJoined := goodIn_r _ [12, 13, 168, 169, 170, 171, 172, 173, 174, 175, 176] (by decide +kernel) (by decide +kernel)
set_option maxRecDepth 20000 in
theorem gX6_ofTill_X6_isJoined : GoodIn wsX6_ofTill (wsV RX6 105 RX6 yX6_isJoined wsX6_isJoined) := goodIn_app (goodIn_of _ (by decide +kernel)) ggX6_ofTill_X6_isJoined
set_option maxRecDepth 20000 in
theorem ggX6_ofTill_X6_oneIf : GoodIn wsX6_ofTill wsX6_oneIf := goodIn_r _ [16] (by decide +kernel) (by decide +kernel)
set_option maxRecDepth 20000 in
theorem gX6_ofTill_X6_oneIf : GoodIn wsX6_ofTill (va_wsS RX6 235 yX6_oneIf wsX6_oneIf) := goodIn_app (goodIn_of _ (by decide +kernel)) ggX6_ofTill_X6_oneIf
set_option maxRecDepth 20000 in
theorem ggX6_ofTill_X6_keptBoughtAt : GoodIn wsX6_ofTill wsX6_keptBoughtAt := goodIn_r _ [20, 21, 22, 23, 24, 25, 26, 27, 28, 29, 30, 31, 32, 33, 34, 35, 36, 37, 38, 39, 40, 41, 42, 43, 44, 45, 46, 47, 48, 49, 50, 51, 52, 53, 14, 15, 5, 16, 168, 169, 170, 171, 172, 173, 174, 175, 176, 177, 178, 179, 180, 181, 182, 183, 184, 185, 186, 187, 188, 189, 190, 191, 192, 193, 194, 195, 196] (by decide +kernel) (by decide +kernel)
set_option maxRecDepth 20000 in
theorem gX6_ofTill_X6_keptBoughtAt : GoodIn wsX6_ofTill (wsV RX6 263 RX6 yX6_keptBoughtAt wsX6_keptBoughtAt) := goodIn_app (goodIn_of _ (by decide +kernel)) ggX6_ofTill_X6_keptBoughtAt
set_option maxRecDepth 20000 in
theorem ggX6_ofTill_X6_holdsStandingSeenAt : GoodIn wsX6_ofTill wsX6_holdsStandingSeenAt := goodIn_r _ [57, 58, 59, 60, 25, 26, 27, 28, 29, 30, 31, 32, 33, 34, 35, 36, 37, 38, 39, 40, 41, 42, 43, 44, 45, 46, 47, 61, 62, 63, 64, 65, 66, 67, 68, 69, 70, 71, 72, 73, 74, 75, 76, 77, 78, 79, 14, 15, 5, 16, 168, 169, 170, 171, 172, 173, 174, 175, 176, 194, 195, 196, 186, 187, 188, 189, 190, 191, 192, 193, 177, 178, 179, 180, 181, 182, 183, 184, 185, 197, 198, 199, 200, 201, 202, 203] (by decide +kernel) (by decide +kernel)
set_option maxRecDepth 20000 in
theorem gX6_ofTill_X6_holdsStandingSeenAt : GoodIn wsX6_ofTill (wsV RX6 266 RX6 yX6_holdsStandingSeenAt wsX6_holdsStandingSeenAt) := goodIn_app (goodIn_of _ (by decide +kernel)) ggX6_ofTill_X6_holdsStandingSeenAt
set_option maxRecDepth 20000 in
theorem ggX6_ofTill_X6_keptSeenAt : GoodIn wsX6_ofTill wsX6_keptSeenAt := goodIn_r _ [83, 21, 22, 25, 26, 27, 28, 29, 30, 31, 32, 33, 34, 35, 36, 37, 38, 39, 40, 41, 42, 43, 44, 45, 46, 47, 48, 49, 50, 51, 52, 53, 84, 85, 86, 76, 77, 78, 79, 14, 15, 5, 16, 168, 169, 170, 171, 172, 173, 174, 175, 176, 194, 195, 196, 177, 178, 179, 180, 181, 182, 183, 184, 185, 186, 187, 188, 189, 190, 191, 192, 193] (by decide +kernel) (by decide +kernel)
set_option maxRecDepth 20000 in
theorem gX6_ofTill_X6_keptSeenAt : GoodIn wsX6_ofTill (wsV RX6 269 RX6 yX6_keptSeenAt wsX6_keptSeenAt) := goodIn_app (goodIn_of _ (by decide +kernel)) ggX6_ofTill_X6_keptSeenAt
set_option maxRecDepth 20000 in
theorem ggX6_ofTill_X6_takeStock : GoodIn wsX6_ofTill wsX6_takeStock := goodIn_r _ [90, 91, 92, 93, 25, 26, 27, 28, 29, 30, 31, 32, 33, 34, 35, 36, 37, 38, 39, 40, 41, 42, 43, 44, 45, 46, 47, 94, 95, 96, 5, 97, 98, 99, 100, 58, 59, 101, 68, 60, 102, 103, 104, 105, 106, 107, 108, 109, 21, 22, 110, 111, 48, 49, 50, 51, 52, 53, 84, 85, 86, 76, 77, 78, 79, 61, 62, 63, 64, 65, 66, 67, 69, 70, 71, 72, 73, 74, 75, 168, 169, 170, 171, 172, 173, 174, 175, 176, 197, 198, 199, 200, 201, 202, 203, 194, 195, 196, 177, 178, 179, 180, 181, 182, 183, 184, 185, 186, 187, 188, 189, 190, 191, 192, 193] (by decide +kernel) (by decide +kernel)
set_option maxRecDepth 20000 in
theorem gX6_ofTill_X6_takeStock : GoodIn wsX6_ofTill (wsV RX6 272 RX6 yX6_takeStock wsX6_takeStock) := goodIn_app (goodIn_of _ (by decide +kernel)) ggX6_ofTill_X6_takeStock
set_option maxRecDepth 20000 in
theorem ggX6_ofTill_X6_guestsWithoutPart : GoodIn wsX6_ofTill wsX6_guestsWithoutPart := goodIn_r _ [115, 116, 117, 25, 26, 27, 28, 29, 30, 31, 32, 33, 34, 35, 36, 37, 38, 39, 40, 41, 42, 43, 44, 45, 46, 47, 118, 119, 120, 5, 121, 21, 22, 122, 123, 124, 14, 15, 16, 125, 126, 127, 128, 91, 92, 129, 130, 131, 132, 133, 134, 135, 136, 137, 138, 139, 168, 169, 170, 171, 172, 173, 174, 175, 176, 194, 195, 196, 177, 178, 179, 180, 181, 182, 183, 184, 185, 186, 187, 188, 189, 190, 191, 192, 193, 197, 198, 199, 200, 201, 202, 203, 204, 205] (by decide +kernel) (by decide +kernel)
set_option maxRecDepth 20000 in
theorem gX6_ofTill_X6_guestsWithoutPart : GoodIn wsX6_ofTill (wsV RX6 275 RX6 yX6_guestsWithoutPart wsX6_guestsWithoutPart) := goodIn_app (goodIn_of _ (by decide +kernel)) ggX6_ofTill_X6_guestsWithoutPart
set_option maxRecDepth 20000 in
theorem ggX6_ofTill_X6_fillBy : GoodIn wsX6_ofTill wsX6_fillBy := goodIn_r _ [143, 116, 117, 144, 145, 146, 104, 147, 148, 149, 150, 151, 152, 153, 154, 25, 26, 27, 28, 29, 30, 31, 32, 33, 34, 35, 36, 37, 38, 39, 40, 41, 42, 43, 44, 45, 46, 47, 155, 156, 157, 5, 158, 159, 160, 161, 162, 91, 92, 163, 93, 168, 169, 170, 171, 172, 173, 174, 175, 176, 206, 207, 194, 195, 196, 197, 198, 199, 200, 201, 202, 203] (by decide +kernel) (by decide +kernel)
set_option maxRecDepth 20000 in
theorem gX6_ofTill_X6_fillBy : GoodIn wsX6_ofTill (wsV RX6 278 RX6 yX6_fillBy wsX6_fillBy) := goodIn_app (goodIn_of _ (by decide +kernel)) ggX6_ofTill_X6_fillBy
set_option maxRecDepth 20000 in
theorem ggX6_ofTill_X6_allLeftAt : GoodIn wsX6_ofTill wsX6_allLeftAt := goodIn_r _ [167, 91, 92, 25, 26, 27, 28, 29, 30, 31, 32, 33, 34, 35, 36, 37, 38, 39, 40, 41, 42, 43, 44, 45, 46, 47, 94, 95, 96, 5, 97, 98, 99, 100, 58, 59, 101, 68, 60, 102, 103, 104, 105, 106, 107, 108, 109, 21, 22, 110, 111, 48, 49, 50, 51, 52, 53, 84, 85, 86, 76, 77, 78, 79, 61, 62, 63, 64, 65, 66, 67, 69, 70, 71, 72, 73, 74, 75, 168, 169, 170, 171, 172, 173, 174, 175, 176, 194, 195, 196, 197, 198, 199, 200, 201, 202, 203, 177, 178, 179, 180, 181, 182, 183, 184, 185, 186, 187, 188, 189, 190, 191, 192, 193] (by decide +kernel) (by decide +kernel)
set_option maxRecDepth 20000 in
theorem gX6_ofTill_X6_allLeftAt : GoodIn wsX6_ofTill (wsV RX6 281 RX6 yX6_allLeftAt wsX6_allLeftAt) := goodIn_app (goodIn_of _ (by decide +kernel)) ggX6_ofTill_X6_allLeftAt
theorem dX6_ofTill_0 : decode cX6_ofTill 0 = .ok (.iload_n 1, 1) := by decide +kernel
theorem dX6_ofTill_1 : decode cX6_ofTill 1 = .ok (.invokestatic 101, 3) := by decide +kernel
theorem dX6_ofTill_4 : decode cX6_ofTill 4 = .ok (.iload_n 2, 1) := by decide +kernel
theorem dX6_ofTill_5 : decode cX6_ofTill 5 = .ok (.tableswitch 87 0 5 #[39, 48, 54, 60, 66, 81], 39) := by decide +kernel
theorem dX6_ofTill_44 : decode cX6_ofTill 44 = .ok (.aload_n 0, 1) := by decide +kernel
theorem dX6_ofTill_45 : decode cX6_ofTill 45 = .ok (.iload_n 1, 1) := by decide +kernel
theorem dX6_ofTill_46 : decode cX6_ofTill 46 = .ok (.invokevirtual 105, 3) := by decide +kernel
theorem dX6_ofTill_49 : decode cX6_ofTill 49 = .ok (.invokestatic 235, 3) := by decide +kernel
theorem dX6_ofTill_52 : decode cX6_ofTill 52 = .ok (.ireturn, 1) := by decide +kernel
theorem dX6_ofTill_53 : decode cX6_ofTill 53 = .ok (.aload_n 0, 1) := by decide +kernel
theorem dX6_ofTill_54 : decode cX6_ofTill 54 = .ok (.iload_n 1, 1) := by decide +kernel
theorem dX6_ofTill_55 : decode cX6_ofTill 55 = .ok (.invokevirtual 263, 3) := by decide +kernel
theorem dX6_ofTill_58 : decode cX6_ofTill 58 = .ok (.ireturn, 1) := by decide +kernel
theorem dX6_ofTill_59 : decode cX6_ofTill 59 = .ok (.aload_n 0, 1) := by decide +kernel
theorem dX6_ofTill_60 : decode cX6_ofTill 60 = .ok (.iload_n 1, 1) := by decide +kernel
theorem dX6_ofTill_61 : decode cX6_ofTill 61 = .ok (.invokevirtual 266, 3) := by decide +kernel
theorem dX6_ofTill_64 : decode cX6_ofTill 64 = .ok (.ireturn, 1) := by decide +kernel
theorem dX6_ofTill_65 : decode cX6_ofTill 65 = .ok (.aload_n 0, 1) := by decide +kernel
theorem dX6_ofTill_66 : decode cX6_ofTill 66 = .ok (.iload_n 1, 1) := by decide +kernel
theorem dX6_ofTill_67 : decode cX6_ofTill 67 = .ok (.invokevirtual 269, 3) := by decide +kernel
theorem dX6_ofTill_70 : decode cX6_ofTill 70 = .ok (.ireturn, 1) := by decide +kernel
theorem dX6_ofTill_71 : decode cX6_ofTill 71 = .ok (.aload_n 0, 1) := by decide +kernel
theorem dX6_ofTill_72 : decode cX6_ofTill 72 = .ok (.iload_n 1, 1) := by decide +kernel
theorem dX6_ofTill_73 : decode cX6_ofTill 73 = .ok (.invokevirtual 272, 3) := by decide +kernel
theorem dX6_ofTill_76 : decode cX6_ofTill 76 = .ok (.aload_n 0, 1) := by decide +kernel
theorem dX6_ofTill_77 : decode cX6_ofTill 77 = .ok (.aload_n 0, 1) := by decide +kernel
theorem dX6_ofTill_78 : decode cX6_ofTill 78 = .ok (.invokevirtual 275, 3) := by decide +kernel
theorem dX6_ofTill_81 : decode cX6_ofTill 81 = .ok (.iconst (-1), 1) := by decide +kernel
theorem dX6_ofTill_82 : decode cX6_ofTill 82 = .ok (.invokevirtual 278, 3) := by decide +kernel
theorem dX6_ofTill_85 : decode cX6_ofTill 85 = .ok (.ireturn, 1) := by decide +kernel
theorem dX6_ofTill_86 : decode cX6_ofTill 86 = .ok (.aload_n 0, 1) := by decide +kernel
theorem dX6_ofTill_87 : decode cX6_ofTill 87 = .ok (.iload_n 1, 1) := by decide +kernel
theorem dX6_ofTill_88 : decode cX6_ofTill 88 = .ok (.invokevirtual 281, 3) := by decide +kernel
theorem dX6_ofTill_91 : decode cX6_ofTill 91 = .ok (.ireturn, 1) := by decide +kernel
theorem dX6_ofTill_92 : decode cX6_ofTill 92 = .ok (.new 29, 3) := by decide +kernel
theorem dX6_ofTill_95 : decode cX6_ofTill 95 = .ok (.dup, 1) := by decide +kernel
