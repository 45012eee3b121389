theorem dX2_checkDepartment_18 : decode cX2_checkDepartment 18 = .ok (.athrow, 1) := by decide +kernel
theorem dX2_checkDepartment_19 : decode cX2_checkDepartment 19 = .ok (.return_, 1) := by decide +kernel
set_option maxRecDepth 20000 in
theorem ggX2_checkPair_X2_checkDepartment : GoodIn wsX2_checkPair wsX2_checkDepartment := goodIn_ca (goodIn_r _ [6, 1, 2, 7, 8, 5, 9] (by decide +kernel) (by decide +kernel)) (goodIn_sub (fun _ h => List.mem_cons_of_mem _ (List.mem_append_right _ h)) (by decide +kernel))
set_option maxRecDepth 20000 in
theorem gX2_checkPair_X2_checkDepartment : GoodIn wsX2_checkPair (va_wsS RX2 125 yX2_checkDepartment wsX2_checkDepartment) := goodIn_app (goodIn_of _ (by decide +kernel)) ggX2_checkPair_X2_checkDepartment
theorem dX2_checkPair_0 : decode cX2_checkPair 0 = .ok (.iload_n 0, 1) := by decide +kernel
theorem dX2_checkPair_1 : decode cX2_checkPair 1 = .ok (.invokestatic 125, 3) := by decide +kernel
theorem dX2_checkPair_4 : decode cX2_checkPair 4 = .ok (.iload_n 1, 1) := by decide +kernel
theorem dX2_checkPair_5 : decode cX2_checkPair 5 = .ok (.invokestatic 125, 3) := by decide +kernel
theorem dX2_checkPair_8 : decode cX2_checkPair 8 = .ok (.iload_n 0, 1) := by decide +kernel
theorem dX2_checkPair_9 : decode cX2_checkPair 9 = .ok (.iload_n 1, 1) := by decide +kernel
theorem dX2_checkPair_10 : decode cX2_checkPair 10 = .ok (.if_icmp .ne 13, 3) := by decide +kernel
theorem dX2_checkPair_13 : decode cX2_checkPair 13 = .ok (.new 58, 3) := by decide +kernel
theorem dX2_checkPair_16 : decode cX2_checkPair 16 = .ok (.dup, 1) := by decide +kernel
theorem dX2_checkPair_17 : decode cX2_checkPair 17 = .ok (.ldc 253, 2) := by decide +kernel
theorem dX2_checkPair_19 : decode cX2_checkPair 19 = .ok (.invokespecial 62, 3) := by decide +kernel
theorem dX2_checkPair_22 : decode cX2_checkPair 22 = .ok (.athrow, 1) := by decide +kernel
theorem dX2_checkPair_23 : decode cX2_checkPair 23 = .ok (.return_, 1) := by decide +kernel
set_option maxRecDepth 20000 in
theorem ggX2_checkTrade_X2_isOutside : GoodIn wsX2_checkTrade wsX2_isOutside := goodIn_r _ [6] (by decide +kernel) (by decide +kernel)
set_option maxRecDepth 20000 in
theorem gX2_checkTrade_X2_isOutside : GoodIn wsX2_checkTrade (va_wsS RX2 54 yX2_isOutside wsX2_isOutside) := goodIn_app (goodIn_of _ (by decide +kernel)) ggX2_checkTrade_X2_isOutside
theorem dX2_checkTrade_0 : decode cX2_checkTrade 0 = .ok (.iload_n 0, 1) := by decide +kernel
theorem dX2_checkTrade_1 : decode cX2_checkTrade 1 = .ok (.iconst 1, 1) := by decide +kernel
theorem dX2_checkTrade_2 : decode cX2_checkTrade 2 = .ok (.sipush 5000, 3) := by decide +kernel
theorem dX2_checkTrade_5 : decode cX2_checkTrade 5 = .ok (.invokestatic 54, 3) := by decide +kernel
theorem dX2_checkTrade_8 : decode cX2_checkTrade 8 = .ok (.ifCond .eq 13, 3) := by decide +kernel
theorem dX2_checkTrade_11 : decode cX2_checkTrade 11 = .ok (.new 58, 3) := by decide +kernel
theorem dX2_checkTrade_14 : decode cX2_checkTrade 14 = .ok (.dup, 1) := by decide +kernel
theorem dX2_checkTrade_15 : decode cX2_checkTrade 15 = .ok (.ldc 255, 2) := by decide +kernel
theorem dX2_checkTrade_17 : decode cX2_checkTrade 17 = .ok (.invokespecial 62, 3) := by decide +kernel
theorem dX2_checkTrade_20 : decode cX2_checkTrade 20 = .ok (.athrow, 1) := by decide +kernel
theorem dX2_checkTrade_21 : decode cX2_checkTrade 21 = .ok (.return_, 1) := by decide +kernel
theorem dX2_checkStock_0 : decode cX2_checkStock 0 = .ok (.aload_n 0, 1) := by decide +kernel
theorem dX2_checkStock_1 : decode cX2_checkStock 1 = .ok (.getfield 22, 3) := by decide +kernel
theorem dX2_checkStock_4 : decode cX2_checkStock 4 = .ok (.iload_n 1, 1) := by decide +kernel
theorem dX2_checkStock_5 : decode cX2_checkStock 5 = .ok (.iaload, 1) := by decide +kernel
theorem dX2_checkStock_6 : decode cX2_checkStock 6 = .ok (.iload_n 2, 1) := by decide +kernel
theorem dX2_checkStock_7 : decode cX2_checkStock 7 = .ok (.if_icmp .ge 14, 3) := by decide +kernel
theorem dX2_checkStock_10 : decode cX2_checkStock 10 = .ok (.new 257, 3) := by decide +kernel
theorem dX2_checkStock_13 : decode cX2_checkStock 13 = .ok (.dup, 1) := by decide +kernel
theorem dX2_checkStock_14 : decode cX2_checkStock 14 = .ok (.ldc_w 259, 3) := by decide +kernel
theorem dX2_checkStock_17 : decode cX2_checkStock 17 = .ok (.invokespecial 261, 3) := by decide +kernel
theorem dX2_checkStock_20 : decode cX2_checkStock 20 = .ok (.athrow, 1) := by decide +kernel
theorem dX2_checkStock_21 : decode cX2_checkStock 21 = .ok (.return_, 1) := by decide +kernel
set_option maxRecDepth 20000 in
theorem ggX2_checkLive_X1_isLive : GoodIn wsX2_checkLive wsX1_isLive := goodIn_r _ [7, 8, 9, 10, 11, 12, 13, 14, 15] (by decide +kernel) (by decide +kernel)
set_option maxRecDepth 20000 in
theorem gX2_checkLive_X1_isLive : GoodIn wsX2_checkLive (wsV RX2 210 RX1 yX1_isLive wsX1_isLive) := goodIn_app (goodIn_of _ (by decide +kernel)) ggX2_checkLive_X1_isLive
theorem dX2_checkLive_0 : decode cX2_checkLive 0 = .ok (.aload_n 0, 1) := by decide +kernel
theorem dX2_checkLive_1 : decode cX2_checkLive 1 = .ok (.invokevirtual 210, 3) := by decide +kernel
theorem dX2_checkLive_4 : decode cX2_checkLive 4 = .ok (.ifCond .ne 14, 3) := by decide +kernel
theorem dX2_checkLive_7 : decode cX2_checkLive 7 = .ok (.new 71, 3) := by decide +kernel
theorem dX2_checkLive_10 : decode cX2_checkLive 10 = .ok (.dup, 1) := by decide +kernel
theorem dX2_checkLive_11 : decode cX2_checkLive 11 = .ok (.ldc_w 262, 3) := by decide +kernel
theorem dX2_checkLive_14 : decode cX2_checkLive 14 = .ok (.invokespecial 75, 3) := by decide +kernel
theorem dX2_checkLive_17 : decode cX2_checkLive 17 = .ok (.athrow, 1) := by decide +kernel
theorem dX2_checkLive_18 : decode cX2_checkLive 18 = .ok (.return_, 1) := by decide +kernel
set_option maxRecDepth 20000 in
theorem ggX2_sessionAt_Jx4a65c_size_8abf5 : GoodIn wsX2_sessionAt wsJx4a65c_size_8abf5 := goodIn_r _ [9, 10, 43, 44, 45] (by decide +kernel) (by decide +kernel)
set_option maxRecDepth 20000 in
theorem gX2_sessionAt_Jx4a65c_size_8abf5 : GoodIn wsX2_sessionAt (wsV RX2 67 RJx4a65c yJx4a65c_size_8abf5 wsJx4a65c_size_8abf5) := goodIn_app (goodIn_of _ (by decide +kernel)) ggX2_sessionAt_Jx4a65c_size_8abf5
set_option maxRecDepth 20000 in
theorem ggX2_sessionAt_X2_isOutside : GoodIn wsX2_sessionAt wsX2_isOutside := goodIn_r _ [14] (by decide +kernel) (by decide +kernel)
set_option maxRecDepth 20000 in
theorem gX2_sessionAt_X2_isOutside : GoodIn wsX2_sessionAt (va_wsS RX2 54 yX2_isOutside wsX2_isOutside) := goodIn_app (goodIn_of _ (by decide +kernel)) ggX2_sessionAt_X2_isOutside
set_option maxRecDepth 20000 in
theorem ggX2_sessionAt_Jx4a65c_get_915e3 : GoodIn wsX2_sessionAt wsJx4a65c_get_915e3 := goodIn_r _ [18, 10, 19, 20, 21, 22, 23, 24, 25, 26, 27, 28, 29, 8, 30, 31, 43, 44, 45] (by decide +kernel) (by decide +kernel)
set_option maxRecDepth 20000 in
theorem gX2_sessionAt_Jx4a65c_get_915e3 : GoodIn wsX2_sessionAt (wsV RX2 114 RJx4a65c yJx4a65c_get_915e3 wsJx4a65c_get_915e3) := goodIn_app (goodIn_of _ (by decide +kernel)) ggX2_sessionAt_Jx4a65c_get_915e3
theorem dX2_sessionAt_0 : decode cX2_sessionAt 0 = .ok (.iload_n 1, 1) := by decide +kernel
theorem dX2_sessionAt_1 : decode cX2_sessionAt 1 = .ok (.iconst 0, 1) := by decide +kernel
theorem dX2_sessionAt_2 : decode cX2_sessionAt 2 = .ok (.aload_n 0, 1) := by decide +kernel
theorem dX2_sessionAt_3 : decode cX2_sessionAt 3 = .ok (.getfield 40, 3) := by decide +kernel
theorem dX2_sessionAt_6 : decode cX2_sessionAt 6 = .ok (.invokevirtual 67, 3) := by decide +kernel
theorem dX2_sessionAt_9 : decode cX2_sessionAt 9 = .ok (.iconst 1, 1) := by decide +kernel
theorem dX2_sessionAt_10 : decode cX2_sessionAt 10 = .ok (.isub, 1) := by decide +kernel
theorem dX2_sessionAt_11 : decode cX2_sessionAt 11 = .ok (.invokestatic 54, 3) := by decide +kernel
theorem dX2_sessionAt_14 : decode cX2_sessionAt 14 = .ok (.ifCond .eq 14, 3) := by decide +kernel
theorem dX2_sessionAt_17 : decode cX2_sessionAt 17 = .ok (.new 264, 3) := by decide +kernel
theorem dX2_sessionAt_20 : decode cX2_sessionAt 20 = .ok (.dup, 1) := by decide +kernel
theorem dX2_sessionAt_21 : decode cX2_sessionAt 21 = .ok (.ldc_w 269, 3) := by decide +kernel
theorem dX2_sessionAt_24 : decode cX2_sessionAt 24 = .ok (.invokespecial 268, 3) := by decide +kernel
theorem dX2_sessionAt_27 : decode cX2_sessionAt 27 = .ok (.athrow, 1) := by decide +kernel
theorem dX2_sessionAt_28 : decode cX2_sessionAt 28 = .ok (.aload_n 0, 1) := by decide +kernel
theorem dX2_sessionAt_29 : decode cX2_sessionAt 29 = .ok (.getfield 40, 3) := by decide +kernel
theorem dX2_sessionAt_32 : decode cX2_sessionAt 32 = .ok (.iload_n 1, 1) := by decide +kernel
theorem dX2_sessionAt_33 : decode cX2_sessionAt 33 = .ok (.invokevirtual 114, 3) := by decide +kernel
theorem dX2_sessionAt_36 : decode cX2_sessionAt 36 = .ok (.checkcast 147, 3) := by decide +kernel
theorem dX2_sessionAt_39 : decode cX2_sessionAt 39 = .ok (.areturn, 1) := by decide +kernel
set_option maxRecDepth 20000 in
theorem ggX2_liveSessionAt_X2_sessionAt : GoodIn wsX2_liveSessionAt wsX2_sessionAt := goodIn_ca (goodIn_r _ [5, 6, 7, 8, 9, 10, 11, 12, 13, 14, 15, 16, 17, 4, 18, 19, 20, 21, 22, 23, 24, 25, 26, 27, 28, 29, 30, 31, 32, 33, 34, 35, 47, 48, 49, 50, 51, 52, 53, 54, 55, 56, 57, 58, 59, 60] (by decide +kernel) (by decide +kernel)) (goodIn_sub (fun _ h => List.mem_cons_of_mem _ (List.mem_append_left _ (List.mem_append_right _ h))) (by decide +kernel))
set_option maxRecDepth 20000 in
theorem gX2_liveSessionAt_X2_sessionAt : GoodIn wsX2_liveSessionAt (wsV RX2 176 RX2 yX2_sessionAt wsX2_sessionAt) := goodIn_app (goodIn_of _ (by decide +kernel)) ggX2_liveSessionAt_X2_sessionAt
set_option maxRecDepth 20000 in
theorem ggX2_liveSessionAt_X2_checkLive : GoodIn wsX2_liveSessionAt wsX2_checkLive := goodIn_ca (goodIn_r _ [38, 39, 40, 41, 42, 43, 44, 45, 46, 61, 62, 63, 64, 65, 66, 67] (by decide +kernel) (by decide +kernel)) (goodIn_sub (fun _ h => List.mem_cons_of_mem _ (List.mem_append_right _ h)) (by decide +kernel))
set_option maxRecDepth 20000 in
theorem gX2_liveSessionAt_X2_checkLive : GoodIn wsX2_liveSessionAt (va_wsS RX2 184 yX2_checkLive wsX2_checkLive) := goodIn_app (goodIn_of _ (by decide +kernel)) ggX2_liveSessionAt_X2_checkLive
theorem dX2_liveSessionAt_0 : decode cX2_liveSessionAt 0 = .ok (.aload_n 0, 1) := by decide +kernel
theorem dX2_liveSessionAt_1 : decode cX2_liveSessionAt 1 = .ok (.iload_n 1, 1) := by decide +kernel
theorem dX2_liveSessionAt_2 : decode cX2_liveSessionAt 2 = .ok (.invokevirtual 176, 3) := by decide +kernel
theorem dX2_liveSessionAt_5 : decode cX2_liveSessionAt 5 = .ok (.astore_n 2, 1) := by decide +kernel
theorem dX2_liveSessionAt_6 : decode cX2_liveSessionAt 6 = .ok (.aload_n 2, 1) := by decide +kernel
theorem dX2_liveSessionAt_7 : decode cX2_liveSessionAt 7 = .ok (.invokestatic 184, 3) := by decide +kernel
theorem dX2_liveSessionAt_10 : decode cX2_liveSessionAt 10 = .ok (.aload_n 2, 1) := by decide +kernel
theorem dX2_liveSessionAt_11 : decode cX2_liveSessionAt 11 = .ok (.areturn, 1) := by decide +kernel
set_option maxRecDepth 20000 in
theorem ggX2_emptiestMachine_Jx4a65c_size_8abf5 : GoodIn wsX2_emptiestMachine wsJx4a65c_size_8abf5 := goodIn_r _ [10, 11, 59, 60, 61] (by decide +kernel) (by decide +kernel)
set_option maxRecDepth 20000 in
theorem gX2_emptiestMachine_Jx4a65c_size_8abf5 : GoodIn wsX2_emptiestMachine (wsV RX2 67 RJx4a65c yJx4a65c_size_8abf5 wsJx4a65c_size_8abf5) := goodIn_app (goodIn_of _ (by decide +kernel)) ggX2_emptiestMachine_Jx4a65c_size_8abf5
set_option maxRecDepth 20000 in
theorem ggX2_emptiestMachine_Jx4a65c_get_915e3 : GoodIn wsX2_emptiestMachine wsJx4a65c_get_915e3 := goodIn_r _ [15, 11, 16, 17, 18, 19, 20, 21, 22, 23, 24, 25, 26, 9, 27, 28, 59, 60, 61] (by decide +kernel) (by decide +kernel)
set_option maxRecDepth 20000 in
theorem gX2_emptiestMachine_Jx4a65c_get_915e3 : GoodIn wsX2_emptiestMachine (wsV RX2 114 RJx4a65c yJx4a65c_get_915e3 wsJx4a65c_get_915e3) := goodIn_app (goodIn_of _ (by decide +kernel)) ggX2_emptiestMachine_Jx4a65c_get_915e3
set_option maxRecDepth 20000 in
theorem ggX2_emptiestMachine_X0_serves : GoodIn wsX2_emptiestMachine wsX0_serves := goodIn_r _ [33, 34, 35, 53, 54, 55, 56, 57, 58] (by decide +kernel) (by decide +kernel)
set_option maxRecDepth 20000 in
theorem gX2_emptiestMachine_X0_serves : GoodIn wsX2_emptiestMachine (wsV RX2 118 RX0 yX0_serves wsX0_serves) := goodIn_app (goodIn_of _ (by decide +kernel)) ggX2_emptiestMachine_X0_serves
set_option maxRecDepth 20000 in
theorem ggX2_emptiestMachine_X0_freeSeats : GoodIn wsX2_emptiestMachine wsX0_freeSeats := goodIn_r _ [39, 40, 41, 53, 54, 55, 56, 57, 58] (by decide +kernel) (by decide +kernel)
set_option maxRecDepth 20000 in
theorem gX2_emptiestMachine_X0_freeSeats : GoodIn wsX2_emptiestMachine (wsV RX2 105 RX0 yX0_freeSeats wsX0_freeSeats) := goodIn_app (goodIn_of _ (by decide +kernel)) ggX2_emptiestMachine_X0_freeSeats
theorem dX2_emptiestMachine_0 : decode cX2_emptiestMachine 0 = .ok (.aconst_null, 1) := by decide +kernel
theorem dX2_emptiestMachine_1 : decode cX2_emptiestMachine 1 = .ok (.astore_n 2, 1) := by decide +kernel
theorem dX2_emptiestMachine_2 : decode cX2_emptiestMachine 2 = .ok (.iconst 0, 1) := by decide +kernel
theorem dX2_emptiestMachine_3 : decode cX2_emptiestMachine 3 = .ok (.istore_n 3, 1) := by decide +kernel
theorem dX2_emptiestMachine_4 : decode cX2_emptiestMachine 4 = .ok (.iload_n 3, 1) := by decide +kernel
theorem dX2_emptiestMachine_5 : decode cX2_emptiestMachine 5 = .ok (.aload_n 0, 1) := by decide +kernel
theorem dX2_emptiestMachine_6 : decode cX2_emptiestMachine 6 = .ok (.getfield 36, 3) := by decide +kernel
theorem dX2_emptiestMachine_9 : decode cX2_emptiestMachine 9 = .ok (.invokevirtual 67, 3) := by decide +kernel
theorem dX2_emptiestMachine_12 : decode cX2_emptiestMachine 12 = .ok (.if_icmp .ge 58, 3) := by decide +kernel
theorem dX2_emptiestMachine_15 : decode cX2_emptiestMachine 15 = .ok (.aload_n 0, 1) := by decide +kernel
theorem dX2_emptiestMachine_16 : decode cX2_emptiestMachine 16 = .ok (.getfield 36, 3) := by decide +kernel
theorem dX2_emptiestMachine_19 : decode cX2_emptiestMachine 19 = .ok (.iload_n 3, 1) := by decide +kernel
theorem dX2_emptiestMachine_20 : decode cX2_emptiestMachine 20 = .ok (.invokevirtual 114, 3) := by decide +kernel
theorem dX2_emptiestMachine_23 : decode cX2_emptiestMachine 23 = .ok (.checkcast 76, 3) := by decide +kernel
theorem dX2_emptiestMachine_26 : decode cX2_emptiestMachine 26 = .ok (.astore 4, 2) := by decide +kernel
theorem dX2_emptiestMachine_28 : decode cX2_emptiestMachine 28 = .ok (.aload 4, 2) := by decide +kernel
theorem dX2_emptiestMachine_30 : decode cX2_emptiestMachine 30 = .ok (.iload_n 1, 1) := by decide +kernel
theorem dX2_emptiestMachine_31 : decode cX2_emptiestMachine 31 = .ok (.invokevirtual 118, 3) := by decide +kernel
theorem dX2_emptiestMachine_34 : decode cX2_emptiestMachine 34 = .ok (.ifCond .eq 30, 3) := by decide +kernel
theorem dX2_emptiestMachine_37 : decode cX2_emptiestMachine 37 = .ok (.aload 4, 2) := by decide +kernel
theorem dX2_emptiestMachine_39 : decode cX2_emptiestMachine 39 = .ok (.invokevirtual 105, 3) := by decide +kernel
theorem dX2_emptiestMachine_42 : decode cX2_emptiestMachine 42 = .ok (.ifCond .le 22, 3) := by decide +kernel
theorem dX2_emptiestMachine_45 : decode cX2_emptiestMachine 45 = .ok (.aload_n 2, 1) := by decide +kernel
theorem dX2_emptiestMachine_46 : decode cX2_emptiestMachine 46 = .ok (.ifnull 15, 3) := by decide +kernel
theorem dX2_emptiestMachine_49 : decode cX2_emptiestMachine 49 = .ok (.aload 4, 2) := by decide +kernel
theorem dX2_emptiestMachine_51 : decode cX2_emptiestMachine 51 = .ok (.getfield 100, 3) := by decide +kernel
theorem dX2_emptiestMachine_54 : decode cX2_emptiestMachine 54 = .ok (.aload_n 2, 1) := by decide +kernel
theorem dX2_emptiestMachine_55 : decode cX2_emptiestMachine 55 = .ok (.getfield 100, 3) := by decide +kernel
theorem dX2_emptiestMachine_58 : decode cX2_emptiestMachine 58 = .ok (.if_icmp .ge 6, 3) := by decide +kernel
theorem dX2_emptiestMachine_61 : decode cX2_emptiestMachine 61 = .ok (.aload 4, 2) := by decide +kernel
theorem dX2_emptiestMachine_63 : decode cX2_emptiestMachine 63 = .ok (.astore_n 2, 1) := by decide +kernel
theorem dX2_emptiestMachine_64 : decode cX2_emptiestMachine 64 = .ok (.iinc 3 1, 3) := by decide +kernel
theorem dX2_emptiestMachine_67 : decode cX2_emptiestMachine 67 = .ok (.goto (-63), 3) := by decide +kernel
theorem dX2_emptiestMachine_70 : decode cX2_emptiestMachine 70 = .ok (.aload_n 2, 1) := by decide +kernel
theorem dX2_emptiestMachine_71 : decode cX2_emptiestMachine 71 = .ok (.ifnonnull 14, 3) := by decide +kernel
theorem dX2_emptiestMachine_74 : decode cX2_emptiestMachine 74 = .ok (.new 271, 3) := by decide +kernel
theorem dX2_emptiestMachine_77 : decode cX2_emptiestMachine 77 = .ok (.dup, 1) := by decide +kernel
theorem dX2_emptiestMachine_78 : decode cX2_emptiestMachine 78 = .ok (.ldc_w 273, 3) := by decide +kernel
theorem dX2_emptiestMachine_81 : decode cX2_emptiestMachine 81 = .ok (.invokespecial 275, 3) := by decide +kernel
theorem dX2_emptiestMachine_84 : decode cX2_emptiestMachine 84 = .ok (.athrow, 1) := by decide +kernel
theorem dX2_emptiestMachine_85 : decode cX2_emptiestMachine 85 = .ok (.aload_n 2, 1) := by decide +kernel
theorem dX2_emptiestMachine_86 : decode cX2_emptiestMachine 86 = .ok (.areturn, 1) := by decide +kernel
set_option maxRecDepth 20000 in
theorem ggX2_ownsLiveSession_Jx4a65c_size_8abf5 : GoodIn wsX2_ownsLiveSession wsJx4a65c_size_8abf5 := goodIn_r _ [8, 9, 51, 52, 53] (by decide +kernel) (by decide +kernel)
set_option maxRecDepth 20000 in
theorem gX2_ownsLiveSession_Jx4a65c_size_8abf5 : GoodIn wsX2_ownsLiveSession (wsV RX2 67 RJx4a65c yJx4a65c_size_8abf5 wsJx4a65c_size_8abf5) := goodIn_app (goodIn_of _ (by decide +kernel)) ggX2_ownsLiveSession_Jx4a65c_size_8abf5
set_option maxRecDepth 20000 in
theorem ggX2_ownsLiveSession_Jx4a65c_get_915e3 : GoodIn wsX2_ownsLiveSession wsJx4a65c_get_915e3 := goodIn_r _ [13, 9, 14, 15, 16, 17, 18, 19, 20, 21, 22, 23, 24, 7, 25, 26, 51, 52, 53] (by decide +kernel) (by decide +kernel)
set_option maxRecDepth 20000 in
theorem gX2_ownsLiveSession_Jx4a65c_get_915e3 : GoodIn wsX2_ownsLiveSession (wsV RX2 114 RJx4a65c yJx4a65c_get_915e3 wsJx4a65c_get_915e3) := goodIn_app (goodIn_of _ (by decide +kernel)) ggX2_ownsLiveSession_Jx4a65c_get_915e3
set_option maxRecDepth 20000 in
theorem ggX2_ownsLiveSession_X1_isLive : GoodIn wsX2_ownsLiveSession wsX1_isLive := goodIn_r _ [31, 32, 44, 45, 46, 47, 48, 49, 50] (by decide +kernel) (by decide +kernel)
set_option maxRecDepth 20000 in
theorem gX2_ownsLiveSession_X1_isLive : GoodIn wsX2_ownsLiveSession (wsV RX2 210 RX1 yX1_isLive wsX1_isLive) := goodIn_app (goodIn_of _ (by decide +kernel)) ggX2_ownsLiveSession_X1_isLive
theorem dX2_ownsLiveSession_0 : decode cX2_ownsLiveSession 0 = .ok (.iconst 0, 1) := by decide +kernel
theorem dX2_ownsLiveSession_1 : decode cX2_ownsLiveSession 1 = .ok (.istore_n 2, 1) := by decide +kernel
theorem dX2_ownsLiveSession_2 : decode cX2_ownsLiveSession 2 = .ok (.iload_n 2, 1) := by decide +kernel
theorem dX2_ownsLiveSession_3 : decode cX2_ownsLiveSession 3 = .ok (.aload_n 0, 1) := by decide +kernel
theorem dX2_ownsLiveSession_4 : decode cX2_ownsLiveSession 4 = .ok (.getfield 40, 3) := by decide +kernel
theorem dX2_ownsLiveSession_7 : decode cX2_ownsLiveSession 7 = .ok (.invokevirtual 67, 3) := by decide +kernel
theorem dX2_ownsLiveSession_10 : decode cX2_ownsLiveSession 10 = .ok (.if_icmp .ge 38, 3) := by decide +kernel
theorem dX2_ownsLiveSession_13 : decode cX2_ownsLiveSession 13 = .ok (.aload_n 0, 1) := by decide +kernel
theorem dX2_ownsLiveSession_14 : decode cX2_ownsLiveSession 14 = .ok (.getfield 40, 3) := by decide +kernel
theorem dX2_ownsLiveSession_17 : decode cX2_ownsLiveSession 17 = .ok (.iload_n 2, 1) := by decide +kernel
theorem dX2_ownsLiveSession_18 : decode cX2_ownsLiveSession 18 = .ok (.invokevirtual 114, 3) := by decide +kernel
theorem dX2_ownsLiveSession_21 : decode cX2_ownsLiveSession 21 = .ok (.checkcast 147, 3) := by decide +kernel
theorem dX2_ownsLiveSession_24 : decode cX2_ownsLiveSession 24 = .ok (.astore_n 3, 1) := by decide +kernel
theorem dX2_ownsLiveSession_25 : decode cX2_ownsLiveSession 25 = .ok (.aload_n 3, 1) := by decide +kernel
theorem dX2_ownsLiveSession_26 : decode cX2_ownsLiveSession 26 = .ok (.getfield 192, 3) := by decide +kernel
theorem dX2_ownsLiveSession_29 : decode cX2_ownsLiveSession 29 = .ok (.iload_n 1, 1) := by decide +kernel
theorem dX2_ownsLiveSession_30 : decode cX2_ownsLiveSession 30 = .ok (.if_icmp .ne 12, 3) := by decide +kernel
theorem dX2_ownsLiveSession_33 : decode cX2_ownsLiveSession 33 = .ok (.aload_n 3, 1) := by decide +kernel
theorem dX2_ownsLiveSession_34 : decode cX2_ownsLiveSession 34 = .ok (.invokevirtual 210, 3) := by decide +kernel
theorem dX2_ownsLiveSession_37 : decode cX2_ownsLiveSession 37 = .ok (.ifCond .eq 5, 3) := by decide +kernel
theorem dX2_ownsLiveSession_40 : decode cX2_ownsLiveSession 40 = .ok (.iconst 1, 1) := by decide +kernel
theorem dX2_ownsLiveSession_41 : decode cX2_ownsLiveSession 41 = .ok (.ireturn, 1) := by decide +kernel
theorem dX2_ownsLiveSession_42 : decode cX2_ownsLiveSession 42 = .ok (.iinc 2 1, 3) := by decide +kernel
theorem dX2_ownsLiveSession_45 : decode cX2_ownsLiveSession 45 = .ok (.goto (-43), 3) := by decide +kernel
theorem dX2_ownsLiveSession_48 : decode cX2_ownsLiveSession 48 = .ok (.iconst 0, 1) := by decide +kernel
theorem dX2_ownsLiveSession_49 : decode cX2_ownsLiveSession 49 = .ok (.ireturn, 1) := by decide +kernel
theorem dX2_move_0 : decode cX2_move 0 = .ok (.aload_n 0, 1) := by decide +kernel
theorem dX2_move_1 : decode cX2_move 1 = .ok (.getfield 22, 3) := by decide +kernel
theorem dX2_move_4 : decode cX2_move 4 = .ok (.iload_n 1, 1) := by decide +kernel
theorem dX2_move_5 : decode cX2_move 5 = .ok (.dup2, 1) := by decide +kernel
theorem dX2_move_6 : decode cX2_move 6 = .ok (.iaload, 1) := by decide +kernel
theorem dX2_move_7 : decode cX2_move 7 = .ok (.iload_n 3, 1) := by decide +kernel
theorem dX2_move_8 : decode cX2_move 8 = .ok (.isub, 1) := by decide +kernel
theorem dX2_move_9 : decode cX2_move 9 = .ok (.iastore, 1) := by decide +kernel
theorem dX2_move_10 : decode cX2_move 10 = .ok (.aload_n 0, 1) := by decide +kernel
theorem dX2_move_11 : decode cX2_move 11 = .ok (.getfield 22, 3) := by decide +kernel
theorem dX2_move_14 : decode cX2_move 14 = .ok (.iload_n 2, 1) := by decide +kernel
theorem dX2_move_15 : decode cX2_move 15 = .ok (.dup2, 1) := by decide +kernel
theorem dX2_move_16 : decode cX2_move 16 = .ok (.iaload, 1) := by decide +kernel
theorem dX2_move_17 : decode cX2_move 17 = .ok (.iload_n 3, 1) := by decide +kernel
theorem dX2_move_18 : decode cX2_move 18 = .ok (.iadd, 1) := by decide +kernel
theorem dX2_move_19 : decode cX2_move 19 = .ok (.iastore, 1) := by decide +kernel
theorem dX2_move_20 : decode cX2_move 20 = .ok (.return_, 1) := by decide +kernel
theorem dX2_charge_0 : decode cX2_charge 0 = .ok (.aload_n 0, 1) := by decide +kernel
theorem dX2_charge_1 : decode cX2_charge 1 = .ok (.getfield 19, 3) := by decide +kernel
theorem dX2_charge_4 : decode cX2_charge 4 = .ok (.aload_n 1, 1) := by decide +kernel
theorem dX2_charge_5 : decode cX2_charge 5 = .ok (.getfield 179, 3) := by decide +kernel
theorem dX2_charge_8 : decode cX2_charge 8 = .ok (.iaload, 1) := by decide +kernel
theorem dX2_charge_9 : decode cX2_charge 9 = .ok (.istore_n 3, 1) := by decide +kernel
theorem dX2_charge_10 : decode cX2_charge 10 = .ok (.aload_n 0, 1) := by decide +kernel
theorem dX2_charge_11 : decode cX2_charge 11 = .ok (.getfield 22, 3) := by decide +kernel
theorem dX2_charge_14 : decode cX2_charge 14 = .ok (.iload_n 3, 1) := by decide +kernel
theorem dX2_charge_15 : decode cX2_charge 15 = .ok (.dup2, 1) := by decide +kernel
theorem dX2_charge_16 : decode cX2_charge 16 = .ok (.iaload, 1) := by decide +kernel
theorem dX2_charge_17 : decode cX2_charge 17 = .ok (.iload_n 2, 1) := by decide +kernel
theorem dX2_charge_18 : decode cX2_charge 18 = .ok (.isub, 1) := by decide +kernel
theorem dX2_charge_19 : decode cX2_charge 19 = .ok (.iastore, 1) := by decide +kernel
theorem dX2_charge_20 : decode cX2_charge 20 = .ok (.aload_n 1, 1) := by decide +kernel
theorem dX2_charge_21 : decode cX2_charge 21 = .ok (.getfield 149, 3) := by decide +kernel
theorem dX2_charge_24 : decode cX2_charge 24 = .ok (.iload_n 3, 1) := by decide +kernel
theorem dX2_charge_25 : decode cX2_charge 25 = .ok (.dup2, 1) := by decide +kernel
theorem dX2_charge_26 : decode cX2_charge 26 = .ok (.iaload, 1) := by decide +kernel
theorem dX2_charge_27 : decode cX2_charge 27 = .ok (.iload_n 2, 1) := by decide +kernel
theorem dX2_charge_28 : decode cX2_charge 28 = .ok (.iadd, 1) := by decide +kernel
theorem dX2_charge_29 : decode cX2_charge 29 = .ok (.iastore, 1) := by decide +kernel
theorem dX2_charge_30 : decode cX2_charge 30 = .ok (.return_, 1) := by decide +kernel
theorem dX2_passTo_0 : decode cX2_passTo 0 = .ok (.aload_n 1, 1) := by decide +kernel
theorem dX2_passTo_1 : decode cX2_passTo 1 = .ok (.getfield 179, 3) := by decide +kernel
theorem dX2_passTo_4 : decode cX2_passTo 4 = .ok (.istore_n 3, 1) := by decide +kernel
theorem dX2_passTo_5 : decode cX2_passTo 5 = .ok (.aload_n 1, 1) := by decide +kernel
theorem dX2_passTo_6 : decode cX2_passTo 6 = .ok (.iload_n 2, 1) := by decide +kernel
theorem dX2_passTo_7 : decode cX2_passTo 7 = .ok (.putfield 179, 3) := by decide +kernel
theorem dX2_passTo_10 : decode cX2_passTo 10 = .ok (.aload_n 1, 1) := by decide +kernel
theorem dX2_passTo_11 : decode cX2_passTo 11 = .ok (.aload_n 0, 1) := by decide +kernel
theorem dX2_passTo_12 : decode cX2_passTo 12 = .ok (.getfield 43, 3) := by decide +kernel
theorem dX2_passTo_15 : decode cX2_passTo 15 = .ok (.putfield 173, 3) := by decide +kernel
theorem dX2_passTo_18 : decode cX2_passTo 18 = .ok (.iload_n 3, 1) := by decide +kernel
theorem dX2_passTo_19 : decode cX2_passTo 19 = .ok (.ireturn, 1) := by decide +kernel
set_option maxRecDepth 20000 in
theorem ggX2_end_X0_repairWhenEmpty : GoodIn wsX2_end wsX0_repairWhenEmpty := goodIn_r _ [8, 9, 10, 18, 19, 20, 21, 22, 23] (by decide +kernel) (by decide +kernel)
set_option maxRecDepth 20000 in
theorem gX2_end_X0_repairWhenEmpty : GoodIn wsX2_end (wsV RX2 97 RX0 yX0_repairWhenEmpty wsX0_repairWhenEmpty) := goodIn_app (goodIn_of _ (by decide +kernel)) ggX2_end_X0_repairWhenEmpty
theorem dX2_end_0 : decode cX2_end 0 = .ok (.aload_n 1, 1) := by decide +kernel
theorem dX2_end_1 : decode cX2_end 1 = .ok (.iload_n 2, 1) := by decide +kernel
theorem dX2_end_2 : decode cX2_end 2 = .ok (.putfield 214, 3) := by decide +kernel
theorem dX2_end_5 : decode cX2_end 5 = .ok (.aload_n 1, 1) := by decide +kernel
theorem dX2_end_6 : decode cX2_end 6 = .ok (.getfield 203, 3) := by decide +kernel
theorem dX2_end_9 : decode cX2_end 9 = .ok (.dup, 1) := by decide +kernel
theorem dX2_end_10 : decode cX2_end 10 = .ok (.getfield 100, 3) := by decide +kernel
theorem dX2_end_13 : decode cX2_end 13 = .ok (.iconst 1, 1) := by decide +kernel
theorem dX2_end_14 : decode cX2_end 14 = .ok (.isub, 1) := by decide +kernel
theorem dX2_end_15 : decode cX2_end 15 = .ok (.putfield 100, 3) := by decide +kernel
theorem dX2_end_18 : decode cX2_end 18 = .ok (.aload_n 1, 1) := by decide +kernel
theorem dX2_end_19 : decode cX2_end 19 = .ok (.getfield 203, 3) := by decide +kernel
theorem dX2_end_22 : decode cX2_end 22 = .ok (.invokevirtual 97, 3) := by decide +kernel
theorem dX2_end_25 : decode cX2_end 25 = .ok (.return_, 1) := by decide +kernel
set_option maxRecDepth 20000 in
theorem ggX2_chargeLiveSessions_Jx4a65c_size_8abf5 : GoodIn wsX2_chargeLiveSessions wsJx4a65c_size_8abf5 := goodIn_r _ [7, 8, 76, 77, 78] (by decide +kernel) (by decide +kernel)
set_option maxRecDepth 20000 in
theorem gX2_chargeLiveSessions_Jx4a65c_size_8abf5 : GoodIn wsX2_chargeLiveSessions (wsV RX2 67 RJx4a65c yJx4a65c_size_8abf5 wsJx4a65c_size_8abf5) := goodIn_app (goodIn_of _ (by decide +kernel)) ggX2_chargeLiveSessions_Jx4a65c_size_8abf5
set_option maxRecDepth 20000 in
theorem ggX2_chargeLiveSessions_Jx4a65c_get_915e3 : GoodIn wsX2_chargeLiveSessions wsJx4a65c_get_915e3 := goodIn_r _ [12, 8, 13, 14, 15, 16, 17, 18, 19, 20, 21, 22, 23, 6, 24, 25, 76, 77, 78] (by decide +kernel) (by decide +kernel)
set_option maxRecDepth 20000 in
theorem gX2_chargeLiveSessions_Jx4a65c_get_915e3 : GoodIn wsX2_chargeLiveSessions (wsV RX2 114 RJx4a65c yJx4a65c_get_915e3 wsJx4a65c_get_915e3) := goodIn_app (goodIn_of _ (by decide +kernel)) ggX2_chargeLiveSessions_Jx4a65c_get_915e3
set_option maxRecDepth 20000 in
theorem ggX2_chargeLiveSessions_X1_isLive : GoodIn wsX2_chargeLiveSessions wsX1_isLive := goodIn_r _ [30, 31, 79, 80, 81, 82, 83, 84, 85] (by decide +kernel) (by decide +kernel)
set_option maxRecDepth 20000 in
theorem gX2_chargeLiveSessions_X1_isLive : GoodIn wsX2_chargeLiveSessions (wsV RX2 210 RX1 yX1_isLive wsX1_isLive) := goodIn_app (goodIn_of _ (by decide +kernel)) ggX2_chargeLiveSessions_X1_isLive
set_option maxRecDepth 20000 in
theorem ggX2_chargeLiveSessions_X2_afterOneMinute : GoodIn wsX2_chargeLiveSessions wsX2_afterOneMinute := goodIn_r _ [36, 37, 38, 39, 40, 41, 42, 43, 44, 45, 46, 47, 48, 49, 35, 50, 51, 65, 66, 67, 68, 69, 70, 71, 72, 73, 74, 75, 79, 80, 81, 82, 83, 84, 85, 86, 87, 88, 89, 90, 91] (by decide +kernel) (by decide +kernel)
set_option maxRecDepth 20000 in
theorem gX2_chargeLiveSessions_X2_afterOneMinute : GoodIn wsX2_chargeLiveSessions (wsV RX2 276 RX2 yX2_afterOneMinute wsX2_afterOneMinute) := goodIn_app (goodIn_of _ (by decide +kernel)) ggX2_chargeLiveSessions_X2_afterOneMinute
set_option maxRecDepth 20000 in
theorem ggX2_chargeLiveSessions_X2_end : GoodIn wsX2_chargeLiveSessions wsX2_end := goodIn_r _ [55, 56, 40, 57, 58, 59, 60, 61, 62, 63, 64, 79, 80, 81, 82, 83, 84, 85, 86, 87, 88, 89, 90, 91] (by decide +kernel) (by decide +kernel)
set_option maxRecDepth 20000 in
theorem gX2_chargeLiveSessions_X2_end : GoodIn wsX2_chargeLiveSessions (wsV RX2 166 RX2 yX2_end wsX2_end) := goodIn_app (goodIn_of _ (by decide +kernel)) ggX2_chargeLiveSessions_X2_end
theorem dX2_chargeLiveSessions_0 : decode cX2_chargeLiveSessions 0 = .ok (.iconst 0, 1) := by decide +kernel
theorem dX2_chargeLiveSessions_1 : decode cX2_chargeLiveSessions 1 = .ok (.istore_n 1, 1) := by decide +kernel
theorem dX2_chargeLiveSessions_2 : decode cX2_chargeLiveSessions 2 = .ok (.iconst 0, 1) := by decide +kernel
theorem dX2_chargeLiveSessions_3 : decode cX2_chargeLiveSessions 3 = .ok (.istore_n 2, 1) := by decide +kernel
theorem dX2_chargeLiveSessions_4 : decode cX2_chargeLiveSessions 4 = .ok (.iload_n 2, 1) := by decide +kernel
theorem dX2_chargeLiveSessions_5 : decode cX2_chargeLiveSessions 5 = .ok (.aload_n 0, 1) := by decide +kernel
theorem dX2_chargeLiveSessions_6 : decode cX2_chargeLiveSessions 6 = .ok (.getfield 40, 3) := by decide +kernel
theorem dX2_chargeLiveSessions_9 : decode cX2_chargeLiveSessions 9 = .ok (.invokevirtual 67, 3) := by decide +kernel
theorem dX2_chargeLiveSessions_12 : decode cX2_chargeLiveSessions 12 = .ok (.if_icmp .ge 52, 3) := by decide +kernel
theorem dX2_chargeLiveSessions_15 : decode cX2_chargeLiveSessions 15 = .ok (.aload_n 0, 1) := by decide +kernel
theorem dX2_chargeLiveSessions_16 : decode cX2_chargeLiveSessions 16 = .ok (.getfield 40, 3) := by decide +kernel
theorem dX2_chargeLiveSessions_19 : decode cX2_chargeLiveSessions 19 = .ok (.iload_n 2, 1) := by decide +kernel
theorem dX2_chargeLiveSessions_20 : decode cX2_chargeLiveSessions 20 = .ok (.invokevirtual 114, 3) := by decide +kernel
theorem dX2_chargeLiveSessions_23 : decode cX2_chargeLiveSessions 23 = .ok (.checkcast 147, 3) := by decide +kernel
theorem dX2_chargeLiveSessions_26 : decode cX2_chargeLiveSessions 26 = .ok (.astore_n 3, 1) := by decide +kernel
theorem dX2_chargeLiveSessions_27 : decode cX2_chargeLiveSessions 27 = .ok (.aload_n 3, 1) := by decide +kernel
theorem dX2_chargeLiveSessions_28 : decode cX2_chargeLiveSessions 28 = .ok (.invokevirtual 210, 3) := by decide +kernel
theorem dX2_chargeLiveSessions_31 : decode cX2_chargeLiveSessions 31 = .ok (.ifCond .eq 27, 3) := by decide +kernel
theorem dX2_chargeLiveSessions_34 : decode cX2_chargeLiveSessions 34 = .ok (.aload_n 0, 1) := by decide +kernel
theorem dX2_chargeLiveSessions_35 : decode cX2_chargeLiveSessions 35 = .ok (.aload_n 3, 1) := by decide +kernel
theorem dX2_chargeLiveSessions_36 : decode cX2_chargeLiveSessions 36 = .ok (.invokevirtual 276, 3) := by decide +kernel
theorem dX2_chargeLiveSessions_39 : decode cX2_chargeLiveSessions 39 = .ok (.istore 4, 2) := by decide +kernel
theorem dX2_chargeLiveSessions_41 : decode cX2_chargeLiveSessions 41 = .ok (.iload 4, 2) := by decide +kernel
theorem dX2_chargeLiveSessions_43 : decode cX2_chargeLiveSessions 43 = .ok (.bipush 97, 2) := by decide +kernel
theorem dX2_chargeLiveSessions_45 : decode cX2_chargeLiveSessions 45 = .ok (.if_icmp .eq 13, 3) := by decide +kernel
theorem dX2_chargeLiveSessions_48 : decode cX2_chargeLiveSessions 48 = .ok (.aload_n 0, 1) := by decide +kernel
theorem dX2_chargeLiveSessions_49 : decode cX2_chargeLiveSessions 49 = .ok (.aload_n 3, 1) := by decide +kernel
theorem dX2_chargeLiveSessions_50 : decode cX2_chargeLiveSessions 50 = .ok (.iload 4, 2) := by decide +kernel
theorem dX2_chargeLiveSessions_52 : decode cX2_chargeLiveSessions 52 = .ok (.invokevirtual 166, 3) := by decide +kernel
theorem dX2_chargeLiveSessions_55 : decode cX2_chargeLiveSessions 55 = .ok (.iinc 1 1, 3) := by decide +kernel
theorem dX2_chargeLiveSessions_58 : decode cX2_chargeLiveSessions 58 = .ok (.iinc 2 1, 3) := by decide +kernel
theorem dX2_chargeLiveSessions_61 : decode cX2_chargeLiveSessions 61 = .ok (.goto (-57), 3) := by decide +kernel
theorem dX2_chargeLiveSessions_64 : decode cX2_chargeLiveSessions 64 = .ok (.iload_n 1, 1) := by decide +kernel
theorem dX2_chargeLiveSessions_65 : decode cX2_chargeLiveSessions 65 = .ok (.ireturn, 1) := by decide +kernel
set_option maxRecDepth 20000 in
theorem ggX2_afterOneMinute_X2_charge : GoodIn wsX2_afterOneMinute wsX2_charge := goodIn_r _ [15, 2, 3, 1, 16, 17, 18, 19, 20, 21, 22, 23, 24, 25, 26, 27, 28, 29, 30, 31, 32, 33, 34] (by decide +kernel) (by decide +kernel)
set_option maxRecDepth 20000 in
theorem gX2_afterOneMinute_X2_charge : GoodIn wsX2_afterOneMinute (wsV RX2 199 RX2 yX2_charge wsX2_charge) := goodIn_app (goodIn_of _ (by decide +kernel)) ggX2_afterOneMinute_X2_charge
theorem dX2_afterOneMinute_0 : decode cX2_afterOneMinute 0 = .ok (.aload_n 0, 1) := by decide +kernel
theorem dX2_afterOneMinute_1 : decode cX2_afterOneMinute 1 = .ok (.getfield 22, 3) := by decide +kernel
theorem dX2_afterOneMinute_4 : decode cX2_afterOneMinute 4 = .ok (.aload_n 0, 1) := by decide +kernel
theorem dX2_afterOneMinute_5 : decode cX2_afterOneMinute 5 = .ok (.getfield 19, 3) := by decide +kernel
theorem dX2_afterOneMinute_8 : decode cX2_afterOneMinute 8 = .ok (.aload_n 1, 1) := by decide +kernel
theorem dX2_afterOneMinute_9 : decode cX2_afterOneMinute 9 = .ok (.getfield 179, 3) := by decide +kernel
theorem dX2_afterOneMinute_12 : decode cX2_afterOneMinute 12 = .ok (.iaload, 1) := by decide +kernel
theorem dX2_afterOneMinute_13 : decode cX2_afterOneMinute 13 = .ok (.iaload, 1) := by decide +kernel
theorem dX2_afterOneMinute_14 : decode cX2_afterOneMinute 14 = .ok (.iconst 1, 1) := by decide +kernel
theorem dX2_afterOneMinute_15 : decode cX2_afterOneMinute 15 = .ok (.if_icmp .ge 6, 3) := by decide +kernel
theorem dX2_afterOneMinute_18 : decode cX2_afterOneMinute 18 = .ok (.bipush 111, 2) := by decide +kernel
theorem dX2_afterOneMinute_20 : decode cX2_afterOneMinute 20 = .ok (.ireturn, 1) := by decide +kernel
theorem dX2_afterOneMinute_21 : decode cX2_afterOneMinute 21 = .ok (.aload_n 0, 1) := by decide +kernel
theorem dX2_afterOneMinute_22 : decode cX2_afterOneMinute 22 = .ok (.aload_n 1, 1) := by decide +kernel
theorem dX2_afterOneMinute_23 : decode cX2_afterOneMinute 23 = .ok (.iconst 1, 1) := by decide +kernel
theorem dX2_afterOneMinute_24 : decode cX2_afterOneMinute 24 = .ok (.invokevirtual 199, 3) := by decide +kernel
theorem dX2_afterOneMinute_27 : decode cX2_afterOneMinute 27 = .ok (.aload_n 1, 1) := by decide +kernel
theorem dX2_afterOneMinute_28 : decode cX2_afterOneMinute 28 = .ok (.getfield 203, 3) := by decide +kernel
theorem dX2_afterOneMinute_31 : decode cX2_afterOneMinute 31 = .ok (.getfield 215, 3) := by decide +kernel
theorem dX2_afterOneMinute_34 : decode cX2_afterOneMinute 34 = .ok (.istore_n 2, 1) := by decide +kernel
theorem dX2_afterOneMinute_35 : decode cX2_afterOneMinute 35 = .ok (.aload_n 0, 1) := by decide +kernel
theorem dX2_afterOneMinute_36 : decode cX2_afterOneMinute 36 = .ok (.getfield 43, 3) := by decide +kernel
theorem dX2_afterOneMinute_39 : decode cX2_afterOneMinute 39 = .ok (.aload_n 1, 1) := by decide +kernel
theorem dX2_afterOneMinute_40 : decode cX2_afterOneMinute 40 = .ok (.getfield 173, 3) := by decide +kernel
theorem dX2_afterOneMinute_43 : decode cX2_afterOneMinute 43 = .ok (.isub, 1) := by decide +kernel
theorem dX2_afterOneMinute_44 : decode cX2_afterOneMinute 44 = .ok (.aload_n 0, 1) := by decide +kernel
theorem dX2_afterOneMinute_45 : decode cX2_afterOneMinute 45 = .ok (.getfield 9, 3) := by decide +kernel
theorem dX2_afterOneMinute_48 : decode cX2_afterOneMinute 48 = .ok (.iload_n 2, 1) := by decide +kernel
theorem dX2_afterOneMinute_49 : decode cX2_afterOneMinute 49 = .ok (.iaload, 1) := by decide +kernel
theorem dX2_afterOneMinute_50 : decode cX2_afterOneMinute 50 = .ok (.if_icmp .lt 6, 3) := by decide +kernel
theorem dX2_afterOneMinute_53 : decode cX2_afterOneMinute 53 = .ok (.bipush 105, 2) := by decide +kernel
theorem dX2_afterOneMinute_55 : decode cX2_afterOneMinute 55 = .ok (.ireturn, 1) := by decide +kernel
theorem dX2_afterOneMinute_56 : decode cX2_afterOneMinute 56 = .ok (.aload_n 0, 1) := by decide +kernel
theorem dX2_afterOneMinute_57 : decode cX2_afterOneMinute 57 = .ok (.getfield 43, 3) := by decide +kernel
theorem dX2_afterOneMinute_60 : decode cX2_afterOneMinute 60 = .ok (.aload_n 1, 1) := by decide +kernel
theorem dX2_afterOneMinute_61 : decode cX2_afterOneMinute 61 = .ok (.getfield 218, 3) := by decide +kernel
theorem dX2_afterOneMinute_64 : decode cX2_afterOneMinute 64 = .ok (.isub, 1) := by decide +kernel
theorem dX2_afterOneMinute_65 : decode cX2_afterOneMinute 65 = .ok (.aload_n 0, 1) := by decide +kernel
theorem dX2_afterOneMinute_66 : decode cX2_afterOneMinute 66 = .ok (.getfield 13, 3) := by decide +kernel
theorem dX2_afterOneMinute_69 : decode cX2_afterOneMinute 69 = .ok (.iload_n 2, 1) := by decide +kernel
theorem dX2_afterOneMinute_70 : decode cX2_afterOneMinute 70 = .ok (.iaload, 1) := by decide +kernel
theorem dX2_afterOneMinute_71 : decode cX2_afterOneMinute 71 = .ok (.if_icmp .lt 6, 3) := by decide +kernel
theorem dX2_afterOneMinute_74 : decode cX2_afterOneMinute 74 = .ok (.bipush 120, 2) := by decide +kernel
theorem dX2_afterOneMinute_76 : decode cX2_afterOneMinute 76 = .ok (.ireturn, 1) := by decide +kernel
theorem dX2_afterOneMinute_77 : decode cX2_afterOneMinute 77 = .ok (.bipush 97, 2) := by decide +kernel
theorem dX2_afterOneMinute_79 : decode cX2_afterOneMinute 79 = .ok (.ireturn, 1) := by decide +kernel
set_option maxRecDepth 20000 in
theorem ggX2_chargedToAllSessions_Jx4a65c_size_8abf5 : GoodIn wsX2_chargedToAllSessions wsJx4a65c_size_8abf5 := goodIn_r _ [7, 8, 43, 44, 45] (by decide +kernel) (by decide +kernel)
set_option maxRecDepth 20000 in
theorem gX2_chargedToAllSessions_Jx4a65c_size_8abf5 : GoodIn wsX2_chargedToAllSessions (wsV RX2 67 RJx4a65c yJx4a65c_size_8abf5 wsJx4a65c_size_8abf5) := goodIn_app (goodIn_of _ (by decide +kernel)) ggX2_chargedToAllSessions_Jx4a65c_size_8abf5
set_option maxRecDepth 20000 in
theorem ggX2_chargedToAllSessions_Jx4a65c_get_915e3 : GoodIn wsX2_chargedToAllSessions wsJx4a65c_get_915e3 := goodIn_r _ [12, 8, 13, 14, 15, 16, 17, 18, 19, 20, 21, 22, 23, 6, 24, 25, 43, 44, 45] (by decide +kernel) (by decide +kernel)
set_option maxRecDepth 20000 in
theorem gX2_chargedToAllSessions_Jx4a65c_get_915e3 : GoodIn wsX2_chargedToAllSessions (wsV RX2 114 RJx4a65c yJx4a65c_get_915e3 wsJx4a65c_get_915e3) := goodIn_app (goodIn_of _ (by decide +kernel)) ggX2_chargedToAllSessions_Jx4a65c_get_915e3
set_option maxRecDepth 20000 in
theorem ggX2_chargedToAllSessions_X1_chargedInAll : GoodIn wsX2_chargedToAllSessions wsX1_chargedInAll := goodIn_r _ [30, 31, 46, 47, 48, 49, 50, 51, 52] (by decide +kernel) (by decide +kernel)
set_option maxRecDepth 20000 in
theorem gX2_chargedToAllSessions_X1_chargedInAll : GoodIn wsX2_chargedToAllSessions (wsV RX2 170 RX1 yX1_chargedInAll wsX1_chargedInAll) := goodIn_app (goodIn_of _ (by decide +kernel)) ggX2_chargedToAllSessions_X1_chargedInAll
theorem dX2_chargedToAllSessions_0 : decode cX2_chargedToAllSessions 0 = .ok (.iconst 0, 1) := by decide +kernel
theorem dX2_chargedToAllSessions_1 : decode cX2_chargedToAllSessions 1 = .ok (.istore_n 1, 1) := by decide +kernel
theorem dX2_chargedToAllSessions_2 : decode cX2_chargedToAllSessions 2 = .ok (.iconst 0, 1) := by decide +kernel
theorem dX2_chargedToAllSessions_3 : decode cX2_chargedToAllSessions 3 = .ok (.istore_n 2, 1) := by decide +kernel
theorem dX2_chargedToAllSessions_4 : decode cX2_chargedToAllSessions 4 = .ok (.iload_n 2, 1) := by decide +kernel
theorem dX2_chargedToAllSessions_5 : decode cX2_chargedToAllSessions 5 = .ok (.aload_n 0, 1) := by decide +kernel
theorem dX2_chargedToAllSessions_6 : decode cX2_chargedToAllSessions 6 = .ok (.getfield 40, 3) := by decide +kernel
theorem dX2_chargedToAllSessions_9 : decode cX2_chargedToAllSessions 9 = .ok (.invokevirtual 67, 3) := by decide +kernel
theorem dX2_chargedToAllSessions_12 : decode cX2_chargedToAllSessions 12 = .ok (.if_icmp .ge 26, 3) := by decide +kernel
theorem dX2_chargedToAllSessions_15 : decode cX2_chargedToAllSessions 15 = .ok (.iload_n 1, 1) := by decide +kernel
theorem dX2_chargedToAllSessions_16 : decode cX2_chargedToAllSessions 16 = .ok (.aload_n 0, 1) := by decide +kernel
theorem dX2_chargedToAllSessions_17 : decode cX2_chargedToAllSessions 17 = .ok (.getfield 40, 3) := by decide +kernel
theorem dX2_chargedToAllSessions_20 : decode cX2_chargedToAllSessions 20 = .ok (.iload_n 2, 1) := by decide +kernel
theorem dX2_chargedToAllSessions_21 : decode cX2_chargedToAllSessions 21 = .ok (.invokevirtual 114, 3) := by decide +kernel
theorem dX2_chargedToAllSessions_24 : decode cX2_chargedToAllSessions 24 = .ok (.checkcast 147, 3) := by decide +kernel
theorem dX2_chargedToAllSessions_27 : decode cX2_chargedToAllSessions 27 = .ok (.invokevirtual 170, 3) := by decide +kernel
theorem dX2_chargedToAllSessions_30 : decode cX2_chargedToAllSessions 30 = .ok (.iadd, 1) := by decide +kernel
theorem dX2_chargedToAllSessions_31 : decode cX2_chargedToAllSessions 31 = .ok (.istore_n 1, 1) := by decide +kernel
theorem dX2_chargedToAllSessions_32 : decode cX2_chargedToAllSessions 32 = .ok (.iinc 2 1, 3) := by decide +kernel
theorem dX2_chargedToAllSessions_35 : decode cX2_chargedToAllSessions 35 = .ok (.goto (-31), 3) := by decide +kernel
theorem dX2_chargedToAllSessions_38 : decode cX2_chargedToAllSessions 38 = .ok (.iload_n 1, 1) := by decide +kernel
theorem dX2_chargedToAllSessions_39 : decode cX2_chargedToAllSessions 39 = .ok (.ireturn, 1) := by decide +kernel
theorem dX3_init_0 : decode cX3_init 0 = .ok (.aload_n 0, 1) := by decide +kernel
theorem dX3_init_1 : decode cX3_init 1 = .ok (.invokespecial 1, 3) := by decide +kernel
theorem dX3_init_4 : decode cX3_init 4 = .ok (.aload_n 0, 1) := by decide +kernel
theorem dX3_init_5 : decode cX3_init 5 = .ok (.iconst 4, 1) := by decide +kernel
theorem dX3_init_6 : decode cX3_init 6 = .ok (.newarray .int, 2) := by decide +kernel
theorem dX3_init_8 : decode cX3_init 8 = .ok (.putfield 7, 3) := by decide +kernel
theorem dX3_init_11 : decode cX3_init 11 = .ok (.aload_n 0, 1) := by decide +kernel
theorem dX3_init_12 : decode cX3_init 12 = .ok (.iconst 4, 1) := by decide +kernel
theorem dX3_init_13 : decode cX3_init 13 = .ok (.iconst 4, 1) := by decide +kernel
theorem dX3_init_14 : decode cX3_init 14 = .ok (.multianewarray 13 2, 4) := by decide +kernel
theorem dX3_init_18 : decode cX3_init 18 = .ok (.putfield 15, 3) := by decide +kernel
theorem dX3_init_21 : decode cX3_init 21 = .ok (.aload_n 0, 1) := by decide +kernel
theorem dX3_init_22 : decode cX3_init 22 = .ok (.bipush 10, 2) := by decide +kernel
theorem dX3_init_24 : decode cX3_init 24 = .ok (.newarray .int, 2) := by decide +kernel
theorem dX3_init_26 : decode cX3_init 26 = .ok (.putfield 18, 3) := by decide +kernel
theorem dX3_init_29 : decode cX3_init 29 = .ok (.aload_n 0, 1) := by decide +kernel
theorem dX3_init_30 : decode cX3_init 30 = .ok (.bipush 40, 2) := by decide +kernel
theorem dX3_init_32 : decode cX3_init 32 = .ok (.newarray .int, 2) := by decide +kernel
theorem dX3_init_34 : decode cX3_init 34 = .ok (.putfield 21, 3) := by decide +kernel
theorem dX3_init_37 : decode cX3_init 37 = .ok (.aload_n 0, 1) := by decide +kernel
theorem dX3_init_38 : decode cX3_init 38 = .ok (.bipush 40, 2) := by decide +kernel
theorem dX3_init_40 : decode cX3_init 40 = .ok (.newarray .int, 2) := by decide +kernel
theorem dX3_init_42 : decode cX3_init 42 = .ok (.putfield 24, 3) := by decide +kernel
theorem dX3_init_45 : decode cX3_init 45 = .ok (.aload_n 0, 1) := by decide +kernel
theorem dX3_init_46 : decode cX3_init 46 = .ok (.bipush 40, 2) := by decide +kernel
theorem dX3_init_48 : decode cX3_init 48 = .ok (.newarray .int, 2) := by decide +kernel
theorem dX3_init_50 : decode cX3_init 50 = .ok (.putfield 27, 3) := by decide +kernel
theorem dX3_init_53 : decode cX3_init 53 = .ok (.aload_n 0, 1) := by decide +kernel
theorem dX3_init_54 : decode cX3_init 54 = .ok (.bipush 40, 2) := by decide +kernel
theorem dX3_init_56 : decode cX3_init 56 = .ok (.newarray .int, 2) := by decide +kernel
theorem dX3_init_58 : decode cX3_init 58 = .ok (.putfield 30, 3) := by decide +kernel
theorem dX3_init_61 : decode cX3_init 61 = .ok (.aload_n 0, 1) := by decide +kernel
theorem dX3_init_62 : decode cX3_init 62 = .ok (.bipush 40, 2) := by decide +kernel
theorem dX3_init_64 : decode cX3_init 64 = .ok (.newarray .char, 2) := by decide +kernel
theorem dX3_init_66 : decode cX3_init 66 = .ok (.putfield 33, 3) := by decide +kernel
theorem dX3_init_69 : decode cX3_init 69 = .ok (.aload_n 0, 1) := by decide +kernel
theorem dX3_init_70 : decode cX3_init 70 = .ok (.bipush 40, 2) := by decide +kernel
theorem dX3_init_72 : decode cX3_init 72 = .ok (.iconst 4, 1) := by decide +kernel
theorem dX3_init_73 : decode cX3_init 73 = .ok (.multianewarray 13 2, 4) := by decide +kernel
theorem dX3_init_77 : decode cX3_init 77 = .ok (.putfield 37, 3) := by decide +kernel
theorem dX3_init_80 : decode cX3_init 80 = .ok (.return_, 1) := by decide +kernel
theorem dX3_isLive_0 : decode cX3_isLive 0 = .ok (.aload_n 0, 1) := by decide +kernel
theorem dX3_isLive_1 : decode cX3_isLive 1 = .ok (.getfield 33, 3) := by decide +kernel
theorem dX3_isLive_4 : decode cX3_isLive 4 = .ok (.iload_n 1, 1) := by decide +kernel
theorem dX3_isLive_5 : decode cX3_isLive 5 = .ok (.caload, 1) := by decide +kernel
theorem dX3_isLive_6 : decode cX3_isLive 6 = .ok (.ifCond .ne 7, 3) := by decide +kernel
theorem dX3_isLive_9 : decode cX3_isLive 9 = .ok (.iconst 1, 1) := by decide +kernel
theorem dX3_isLive_10 : decode cX3_isLive 10 = .ok (.goto 4, 3) := by decide +kernel
theorem dX3_isLive_13 : decode cX3_isLive 13 = .ok (.iconst 0, 1) := by decide +kernel
theorem dX3_isLive_14 : decode cX3_isLive 14 = .ok (.ireturn, 1) := by decide +kernel
set_option maxRecDepth 20000 in
theorem ggX3_live_X3_isLive : GoodIn wsX3_live wsX3_isLive := goodIn_r _ [6, 7, 8, 9, 10, 11, 12, 13, 14, 15, 16, 17, 18, 19, 20, 21] (by decide +kernel) (by decide +kernel)
set_option maxRecDepth 20000 in
theorem gX3_live_X3_isLive : GoodIn wsX3_live (wsV RX3 44 RX3 yX3_isLive wsX3_isLive) := goodIn_app (goodIn_of _ (by decide +kernel)) ggX3_live_X3_isLive
theorem dX3_live_0 : decode cX3_live 0 = .ok (.iconst 0, 1) := by decide +kernel
theorem dX3_live_1 : decode cX3_live 1 = .ok (.istore_n 1, 1) := by decide +kernel
theorem dX3_live_2 : decode cX3_live 2 = .ok (.iconst 0, 1) := by decide +kernel
theorem dX3_live_3 : decode cX3_live 3 = .ok (.istore_n 2, 1) := by decide +kernel
theorem dX3_live_4 : decode cX3_live 4 = .ok (.iload_n 2, 1) := by decide +kernel
theorem dX3_live_5 : decode cX3_live 5 = .ok (.aload_n 0, 1) := by decide +kernel
theorem dX3_live_6 : decode cX3_live 6 = .ok (.getfield 40, 3) := by decide +kernel
theorem dX3_live_9 : decode cX3_live 9 = .ok (.if_icmp .ge 25, 3) := by decide +kernel
theorem dX3_live_12 : decode cX3_live 12 = .ok (.iload_n 1, 1) := by decide +kernel
theorem dX3_live_13 : decode cX3_live 13 = .ok (.aload_n 0, 1) := by decide +kernel
theorem dX3_live_14 : decode cX3_live 14 = .ok (.iload_n 2, 1) := by decide +kernel
theorem dX3_live_15 : decode cX3_live 15 = .ok (.invokevirtual 44, 3) := by decide +kernel
theorem dX3_live_18 : decode cX3_live 18 = .ok (.ifCond .eq 7, 3) := by decide +kernel
theorem dX3_live_21 : decode cX3_live 21 = .ok (.iconst 1, 1) := by decide +kernel
theorem dX3_live_22 : decode cX3_live 22 = .ok (.goto 4, 3) := by decide +kernel
theorem dX3_live_25 : decode cX3_live 25 = .ok (.iconst 0, 1) := by decide +kernel
theorem dX3_live_26 : decode cX3_live 26 = .ok (.iadd, 1) := by decide +kernel
theorem dX3_live_27 : decode cX3_live 27 = .ok (.istore_n 1, 1) := by decide +kernel
theorem dX3_live_28 : decode cX3_live 28 = .ok (.iinc 2 1, 3) := by decide +kernel
theorem dX3_live_31 : decode cX3_live 31 = .ok (.goto (-27), 3) := by decide +kernel
theorem dX3_live_34 : decode cX3_live 34 = .ok (.iload_n 1, 1) := by decide +kernel
theorem dX3_live_35 : decode cX3_live 35 = .ok (.ireturn, 1) := by decide +kernel
theorem dX3_charge_0 : decode cX3_charge 0 = .ok (.aload_n 0, 1) := by decide +kernel
theorem dX3_charge_1 : decode cX3_charge 1 = .ok (.getfield 7, 3) := by decide +kernel
theorem dX3_charge_4 : decode cX3_charge 4 = .ok (.aload_n 0, 1) := by decide +kernel
theorem dX3_charge_5 : decode cX3_charge 5 = .ok (.getfield 18, 3) := by decide +kernel
theorem dX3_charge_8 : decode cX3_charge 8 = .ok (.aload_n 0, 1) := by decide +kernel
theorem dX3_charge_9 : decode cX3_charge 9 = .ok (.getfield 24, 3) := by decide +kernel
theorem dX3_charge_12 : decode cX3_charge 12 = .ok (.iload_n 1, 1) := by decide +kernel
theorem dX3_charge_13 : decode cX3_charge 13 = .ok (.iaload, 1) := by decide +kernel
theorem dX3_charge_14 : decode cX3_charge 14 = .ok (.iaload, 1) := by decide +kernel
theorem dX3_charge_15 : decode cX3_charge 15 = .ok (.dup2, 1) := by decide +kernel
theorem dX3_charge_16 : decode cX3_charge 16 = .ok (.iaload, 1) := by decide +kernel
theorem dX3_charge_17 : decode cX3_charge 17 = .ok (.iload_n 2, 1) := by decide +kernel
theorem dX3_charge_18 : decode cX3_charge 18 = .ok (.isub, 1) := by decide +kernel
theorem dX3_charge_19 : decode cX3_charge 19 = .ok (.iastore, 1) := by decide +kernel
theorem dX3_charge_20 : decode cX3_charge 20 = .ok (.aload_n 0, 1) := by decide +kernel
theorem dX3_charge_21 : decode cX3_charge 21 = .ok (.getfield 37, 3) := by decide +kernel
theorem dX3_charge_24 : decode cX3_charge 24 = .ok (.iload_n 1, 1) := by decide +kernel
theorem dX3_charge_25 : decode cX3_charge 25 = .ok (.aaload, 1) := by decide +kernel
theorem dX3_charge_26 : decode cX3_charge 26 = .ok (.aload_n 0, 1) := by decide +kernel
theorem dX3_charge_27 : decode cX3_charge 27 = .ok (.getfield 18, 3) := by decide +kernel
theorem dX3_charge_30 : decode cX3_charge 30 = .ok (.aload_n 0, 1) := by decide +kernel
theorem dX3_charge_31 : decode cX3_charge 31 = .ok (.getfield 24, 3) := by decide +kernel
theorem dX3_charge_34 : decode cX3_charge 34 = .ok (.iload_n 1, 1) := by decide +kernel
theorem dX3_charge_35 : decode cX3_charge 35 = .ok (.iaload, 1) := by decide +kernel
theorem dX3_charge_36 : decode cX3_charge 36 = .ok (.iaload, 1) := by decide +kernel
theorem dX3_charge_37 : decode cX3_charge 37 = .ok (.dup2, 1) := by decide +kernel
theorem dX3_charge_38 : decode cX3_charge 38 = .ok (.iaload, 1) := by decide +kernel
theorem dX3_charge_39 : decode cX3_charge 39 = .ok (.iload_n 2, 1) := by decide +kernel
theorem dX3_charge_40 : decode cX3_charge 40 = .ok (.iadd, 1) := by decide +kernel
theorem dX3_charge_41 : decode cX3_charge 41 = .ok (.iastore, 1) := by decide +kernel
theorem dX3_charge_42 : decode cX3_charge 42 = .ok (.aload_n 0, 1) := by decide +kernel
theorem dX3_charge_43 : decode cX3_charge 43 = .ok (.dup, 1) := by decide +kernel
theorem dX3_charge_44 : decode cX3_charge 44 = .ok (.getfield 48, 3) := by decide +kernel
theorem dX3_charge_47 : decode cX3_charge 47 = .ok (.iload_n 2, 1) := by decide +kernel
theorem dX3_charge_48 : decode cX3_charge 48 = .ok (.iadd, 1) := by decide +kernel
theorem dX3_charge_49 : decode cX3_charge 49 = .ok (.putfield 48, 3) := by decide +kernel
theorem dX3_charge_52 : decode cX3_charge 52 = .ok (.return_, 1) := by decide +kernel
set_option maxRecDepth 20000 in
theorem ggX3_pass_X3_isLive : GoodIn wsX3_pass wsX3_isLive := goodIn_r _ [13, 6, 20, 21, 22, 23, 24, 25, 26, 27, 28, 29, 30, 31, 32, 33] (by decide +kernel) (by decide +kernel)
set_option maxRecDepth 20000 in
theorem gX3_pass_X3_isLive : GoodIn wsX3_pass (wsV RX3 44 RX3 yX3_isLive wsX3_isLive) := goodIn_app (goodIn_of _ (by decide +kernel)) ggX3_pass_X3_isLive
set_option maxRecDepth 20000 in
theorem ggX3_pass_X3_charge : GoodIn wsX3_pass wsX3_charge := goodIn_r _ [17, 3, 4, 5, 18, 19, 20, 21, 22, 23, 24, 25, 26, 27, 28, 29, 30, 31, 32, 33] (by decide +kernel) (by decide +kernel)
set_option maxRecDepth 20000 in
theorem gX3_pass_X3_charge : GoodIn wsX3_pass (wsV RX3 54 RX3 yX3_charge wsX3_charge) := goodIn_app (goodIn_of _ (by decide +kernel)) ggX3_pass_X3_charge
theorem dX3_pass_0 : decode cX3_pass 0 = .ok (.iconst 0, 1) := by decide +kernel
theorem dX3_pass_1 : decode cX3_pass 1 = .ok (.istore_n 1, 1) := by decide +kernel
theorem dX3_pass_2 : decode cX3_pass 2 = .ok (.aload_n 0, 1) := by decide +kernel
theorem dX3_pass_3 : decode cX3_pass 3 = .ok (.dup, 1) := by decide +kernel
theorem dX3_pass_4 : decode cX3_pass 4 = .ok (.getfield 51, 3) := by decide +kernel
theorem dX3_pass_7 : decode cX3_pass 7 = .ok (.iconst 1, 1) := by decide +kernel
theorem dX3_pass_8 : decode cX3_pass 8 = .ok (.iadd, 1) := by decide +kernel
theorem dX3_pass_9 : decode cX3_pass 9 = .ok (.putfield 51, 3) := by decide +kernel
theorem dX3_pass_12 : decode cX3_pass 12 = .ok (.iconst 0, 1) := by decide +kernel
theorem dX3_pass_13 : decode cX3_pass 13 = .ok (.istore_n 2, 1) := by decide +kernel
theorem dX3_pass_14 : decode cX3_pass 14 = .ok (.iload_n 2, 1) := by decide +kernel
theorem dX3_pass_15 : decode cX3_pass 15 = .ok (.aload_n 0, 1) := by decide +kernel
theorem dX3_pass_16 : decode cX3_pass 16 = .ok (.getfield 40, 3) := by decide +kernel
theorem dX3_pass_19 : decode cX3_pass 19 = .ok (.if_icmp .ge 121, 3) := by decide +kernel
theorem dX3_pass_22 : decode cX3_pass 22 = .ok (.aload_n 0, 1) := by decide +kernel
theorem dX3_pass_23 : decode cX3_pass 23 = .ok (.iload_n 2, 1) := by decide +kernel
theorem dX3_pass_24 : decode cX3_pass 24 = .ok (.invokevirtual 44, 3) := by decide +kernel
theorem dX3_pass_27 : decode cX3_pass 27 = .ok (.ifCond .ne 6, 3) := by decide +kernel
theorem dX3_pass_30 : decode cX3_pass 30 = .ok (.goto 104, 3) := by decide +kernel
theorem dX3_pass_33 : decode cX3_pass 33 = .ok (.aload_n 0, 1) := by decide +kernel
theorem dX3_pass_34 : decode cX3_pass 34 = .ok (.getfield 7, 3) := by decide +kernel
theorem dX3_pass_37 : decode cX3_pass 37 = .ok (.aload_n 0, 1) := by decide +kernel
theorem dX3_pass_38 : decode cX3_pass 38 = .ok (.getfield 18, 3) := by decide +kernel
theorem dX3_pass_41 : decode cX3_pass 41 = .ok (.aload_n 0, 1) := by decide +kernel
theorem dX3_pass_42 : decode cX3_pass 42 = .ok (.getfield 24, 3) := by decide +kernel
theorem dX3_pass_45 : decode cX3_pass 45 = .ok (.iload_n 2, 1) := by decide +kernel
theorem dX3_pass_46 : decode cX3_pass 46 = .ok (.iaload, 1) := by decide +kernel
theorem dX3_pass_47 : decode cX3_pass 47 = .ok (.iaload, 1) := by decide +kernel
theorem dX3_pass_48 : decode cX3_pass 48 = .ok (.iaload, 1) := by decide +kernel
theorem dX3_pass_49 : decode cX3_pass 49 = .ok (.ifCond .ne 14, 3) := by decide +kernel
theorem dX3_pass_52 : decode cX3_pass 52 = .ok (.aload_n 0, 1) := by decide +kernel
theorem dX3_pass_53 : decode cX3_pass 53 = .ok (.getfield 33, 3) := by decide +kernel
theorem dX3_pass_56 : decode cX3_pass 56 = .ok (.iload_n 2, 1) := by decide +kernel
theorem dX3_pass_57 : decode cX3_pass 57 = .ok (.bipush 111, 2) := by decide +kernel
theorem dX3_pass_59 : decode cX3_pass 59 = .ok (.castore, 1) := by decide +kernel
theorem dX3_pass_60 : decode cX3_pass 60 = .ok (.goto 58, 3) := by decide +kernel
theorem dX3_pass_63 : decode cX3_pass 63 = .ok (.aload_n 0, 1) := by decide +kernel
theorem dX3_pass_64 : decode cX3_pass 64 = .ok (.iload_n 2, 1) := by decide +kernel
theorem dX3_pass_65 : decode cX3_pass 65 = .ok (.iconst 1, 1) := by decide +kernel
theorem dX3_pass_66 : decode cX3_pass 66 = .ok (.invokevirtual 54, 3) := by decide +kernel
theorem dX3_pass_69 : decode cX3_pass 69 = .ok (.aload_n 0, 1) := by decide +kernel
theorem dX3_pass_70 : decode cX3_pass 70 = .ok (.getfield 33, 3) := by decide +kernel
theorem dX3_pass_73 : decode cX3_pass 73 = .ok (.iload_n 2, 1) := by decide +kernel
theorem dX3_pass_74 : decode cX3_pass 74 = .ok (.aload_n 0, 1) := by decide +kernel
theorem dX3_pass_75 : decode cX3_pass 75 = .ok (.getfield 51, 3) := by decide +kernel
theorem dX3_pass_78 : decode cX3_pass 78 = .ok (.aload_n 0, 1) := by decide +kernel
theorem dX3_pass_79 : decode cX3_pass 79 = .ok (.getfield 30, 3) := by decide +kernel
theorem dX3_pass_82 : decode cX3_pass 82 = .ok (.iload_n 2, 1) := by decide +kernel
theorem dX3_pass_83 : decode cX3_pass 83 = .ok (.iaload, 1) := by decide +kernel
theorem dX3_pass_84 : decode cX3_pass 84 = .ok (.isub, 1) := by decide +kernel
theorem dX3_pass_85 : decode cX3_pass 85 = .ok (.bipush 14, 2) := by decide +kernel
theorem dX3_pass_87 : decode cX3_pass 87 = .ok (.if_icmp .le 8, 3) := by decide +kernel
theorem dX3_pass_90 : decode cX3_pass 90 = .ok (.bipush 105, 2) := by decide +kernel
theorem dX3_pass_92 : decode cX3_pass 92 = .ok (.goto 25, 3) := by decide +kernel
theorem dX3_pass_95 : decode cX3_pass 95 = .ok (.aload_n 0, 1) := by decide +kernel
theorem dX3_pass_96 : decode cX3_pass 96 = .ok (.getfield 51, 3) := by decide +kernel
theorem dX3_pass_99 : decode cX3_pass 99 = .ok (.aload_n 0, 1) := by decide +kernel
theorem dX3_pass_100 : decode cX3_pass 100 = .ok (.getfield 27, 3) := by decide +kernel
theorem dX3_pass_103 : decode cX3_pass 103 = .ok (.iload_n 2, 1) := by decide +kernel
theorem dX3_pass_104 : decode cX3_pass 104 = .ok (.iaload, 1) := by decide +kernel
theorem dX3_pass_105 : decode cX3_pass 105 = .ok (.isub, 1) := by decide +kernel
theorem dX3_pass_106 : decode cX3_pass 106 = .ok (.bipush 49, 2) := by decide +kernel
theorem dX3_pass_108 : decode cX3_pass 108 = .ok (.if_icmp .le 8, 3) := by decide +kernel
theorem dX3_pass_111 : decode cX3_pass 111 = .ok (.bipush 120, 2) := by decide +kernel
theorem dX3_pass_113 : decode cX3_pass 113 = .ok (.goto 4, 3) := by decide +kernel
theorem dX3_pass_116 : decode cX3_pass 116 = .ok (.iconst 0, 1) := by decide +kernel
theorem dX3_pass_117 : decode cX3_pass 117 = .ok (.castore, 1) := by decide +kernel
theorem dX3_pass_118 : decode cX3_pass 118 = .ok (.iload_n 1, 1) := by decide +kernel
theorem dX3_pass_119 : decode cX3_pass 119 = .ok (.aload_n 0, 1) := by decide +kernel
theorem dX3_pass_120 : decode cX3_pass 120 = .ok (.iload_n 2, 1) := by decide +kernel
theorem dX3_pass_121 : decode cX3_pass 121 = .ok (.invokevirtual 44, 3) := by decide +kernel
theorem dX3_pass_124 : decode cX3_pass 124 = .ok (.ifCond .eq 7, 3) := by decide +kernel
theorem dX3_pass_127 : decode cX3_pass 127 = .ok (.iconst 0, 1) := by decide +kernel
theorem dX3_pass_128 : decode cX3_pass 128 = .ok (.goto 4, 3) := by decide +kernel
theorem dX3_pass_131 : decode cX3_pass 131 = .ok (.iconst 1, 1) := by decide +kernel
theorem dX3_pass_132 : decode cX3_pass 132 = .ok (.iadd, 1) := by decide +kernel
theorem dX3_pass_133 : decode cX3_pass 133 = .ok (.istore_n 1, 1) := by decide +kernel
theorem dX3_pass_134 : decode cX3_pass 134 = .ok (.iinc 2 1, 3) := by decide +kernel
theorem dX3_pass_137 : decode cX3_pass 137 = .ok (.goto (-123), 3) := by decide +kernel
theorem dX3_pass_140 : decode cX3_pass 140 = .ok (.iload_n 1, 1) := by decide +kernel
theorem dX3_pass_141 : decode cX3_pass 141 = .ok (.ireturn, 1) := by decide +kernel
theorem dJ9_max_7cf53_0 : decode cJ9_max_7cf53 0 = .ok (.iload_n 0, 1) := by decide +kernel
theorem dJ9_max_7cf53_1 : decode cJ9_max_7cf53 1 = .ok (.iload_n 1, 1) := by decide +kernel
theorem dJ9_max_7cf53_2 : decode cJ9_max_7cf53 2 = .ok (.if_icmp .lt 7, 3) := by decide +kernel
theorem dJ9_max_7cf53_5 : decode cJ9_max_7cf53 5 = .ok (.iload_n 0, 1) := by decide +kernel
theorem dJ9_max_7cf53_6 : decode cJ9_max_7cf53 6 = .ok (.goto 4, 3) := by decide +kernel
theorem dJ9_max_7cf53_9 : decode cJ9_max_7cf53 9 = .ok (.iload_n 1, 1) := by decide +kernel
theorem dJ9_max_7cf53_10 : decode cJ9_max_7cf53 10 = .ok (.ireturn, 1) := by decide +kernel
theorem dJ9_min_7cf53_0 : decode cJ9_min_7cf53 0 = .ok (.iload_n 0, 1) := by decide +kernel
theorem dJ9_min_7cf53_1 : decode cJ9_min_7cf53 1 = .ok (.iload_n 1, 1) := by decide +kernel
theorem dJ9_min_7cf53_2 : decode cJ9_min_7cf53 2 = .ok (.if_icmp .gt 7, 3) := by decide +kernel
theorem dJ9_min_7cf53_5 : decode cJ9_min_7cf53 5 = .ok (.iload_n 0, 1) := by decide +kernel
theorem dJ9_min_7cf53_6 : decode cJ9_min_7cf53 6 = .ok (.goto 4, 3) := by decide +kernel
theorem dJ9_min_7cf53_9 : decode cJ9_min_7cf53 9 = .ok (.iload_n 1, 1) := by decide +kernel
theorem dJ9_min_7cf53_10 : decode cJ9_min_7cf53 10 = .ok (.ireturn, 1) := by decide +kernel
theorem dJxa1e45_init_da8c8_0 : decode cJxa1e45_init_da8c8 0 = .ok (.aload_n 0, 1) := by decide +kernel
theorem dJxa1e45_init_da8c8_1 : decode cJxa1e45_init_da8c8 1 = .ok (.invokespecial 1, 3) := by decide +kernel
theorem dJxa1e45_init_da8c8_4 : decode cJxa1e45_init_da8c8 4 = .ok (.return_, 1) := by decide +kernel
set_option maxRecDepth 20000 in
theorem ggJxc12de_init_da8c8_Jxa1e45_init_da8c8 : GoodIn wsJxc12de_init_da8c8 wsJxa1e45_init_da8c8 := goodIn_r _ [5, 6, 7, 8] (by decide +kernel) (by decide +kernel)
set_option maxRecDepth 20000 in
theorem gJxc12de_init_da8c8_Jxa1e45_init_da8c8 : GoodIn wsJxc12de_init_da8c8 (wsJxa1e45_init_da8c8) := ggJxc12de_init_da8c8_Jxa1e45_init_da8c8
theorem dJxc12de_init_da8c8_0 : decode cJxc12de_init_da8c8 0 = .ok (.aload_n 0, 1) := by decide +kernel
theorem dJxc12de_init_da8c8_1 : decode cJxc12de_init_da8c8 1 = .ok (.invokespecial 1, 3) := by decide +kernel
theorem dJxc12de_init_da8c8_4 : decode cJxc12de_init_da8c8 4 = .ok (.aload_n 0, 1) := by decide +kernel
theorem dJxc12de_init_da8c8_5 : decode cJxc12de_init_da8c8 5 = .ok (.iconst 0, 1) := by decide +kernel
theorem dJxc12de_init_da8c8_6 : decode cJxc12de_init_da8c8 6 = .ok (.putfield 7, 3) := by decide +kernel
theorem dJxc12de_init_da8c8_9 : decode cJxc12de_init_da8c8 9 = .ok (.return_, 1) := by decide +kernel
set_option maxRecDepth 20000 in
theorem ggJx4a65c_init_da8c8_Jxc12de_init_da8c8 : GoodIn wsJx4a65c_init_da8c8 wsJxc12de_init_da8c8 := goodIn_r _ [6, 7, 8, 9, 10, 11, 12, 13, 14, 15, 16, 17] (by decide +kernel) (by decide +kernel)
set_option maxRecDepth 20000 in
theorem gJx4a65c_init_da8c8_Jxc12de_init_da8c8 : GoodIn wsJx4a65c_init_da8c8 (wsJxc12de_init_da8c8) := ggJx4a65c_init_da8c8_Jxc12de_init_da8c8
theorem dJx4a65c_init_da8c8_0 : decode cJx4a65c_init_da8c8 0 = .ok (.aload_n 0, 1) := by decide +kernel
theorem dJx4a65c_init_da8c8_1 : decode cJx4a65c_init_da8c8 1 = .ok (.invokespecial 1, 3) := by decide +kernel
theorem dJx4a65c_init_da8c8_4 : decode cJx4a65c_init_da8c8 4 = .ok (.aload_n 0, 1) := by decide +kernel
theorem dJx4a65c_init_da8c8_5 : decode cJx4a65c_init_da8c8 5 = .ok (.getstatic 39, 3) := by decide +kernel
theorem dJx4a65c_init_da8c8_8 : decode cJx4a65c_init_da8c8 8 = .ok (.putfield 9, 3) := by decide +kernel
theorem dJx4a65c_init_da8c8_11 : decode cJx4a65c_init_da8c8 11 = .ok (.return_, 1) := by decide +kernel
set_option maxRecDepth 20000 in
theorem ggJx4a65c_grow_92f84_J8_newLength_cabcc : GoodIn wsJx4a65c_grow_92f84 wsJ8_newLength_cabcc := goodIn_r _ [11, 12, 4, 5, 6, 13, 14, 15, 10, 16] (by decide +kernel) (by decide +kernel)
set_option maxRecDepth 20000 in
theorem gJx4a65c_grow_92f84_J8_newLength_cabcc : GoodIn wsJx4a65c_grow_92f84 (va_wsS RJx4a65c 73 yJ8_newLength_cabcc wsJ8_newLength_cabcc) := goodIn_app (goodIn_of _ (by decide +kernel)) ggJx4a65c_grow_92f84_J8_newLength_cabcc
set_option maxRecDepth 20000 in
theorem ggJx4a65c_grow_92f84_J7_copyOf_1904c : GoodIn wsJx4a65c_grow_92f84 wsJ7_copyOf_1904c := goodIn_r _ [20, 21, 22, 23, 24, 25, 26, 19, 27, 28, 29, 30, 31, 5, 32, 33, 34, 35, 36] (by decide +kernel) (by decide +kernel)
set_option maxRecDepth 20000 in
theorem gJx4a65c_grow_92f84_J7_copyOf_1904c : GoodIn wsJx4a65c_grow_92f84 (va_wsS RJx4a65c 66 yJ7_copyOf_1904c wsJ7_copyOf_1904c) := goodIn_app (goodIn_of _ (by decide +kernel)) ggJx4a65c_grow_92f84_J7_copyOf_1904c
theorem dJx4a65c_grow_92f84_0 : decode cJx4a65c_grow_92f84 0 = .ok (.aload_n 0, 1) := by decide +kernel
theorem dJx4a65c_grow_92f84_1 : decode cJx4a65c_grow_92f84 1 = .ok (.getfield 9, 3) := by decide +kernel
theorem dJx4a65c_grow_92f84_4 : decode cJx4a65c_grow_92f84 4 = .ok (.arraylength, 1) := by decide +kernel
theorem dJx4a65c_grow_92f84_5 : decode cJx4a65c_grow_92f84 5 = .ok (.istore_n 2, 1) := by decide +kernel
theorem dJx4a65c_grow_92f84_6 : decode cJx4a65c_grow_92f84 6 = .ok (.iload_n 2, 1) := by decide +kernel
theorem dJx4a65c_grow_92f84_7 : decode cJx4a65c_grow_92f84 7 = .ok (.ifCond .gt 13, 3) := by decide +kernel
theorem dJx4a65c_grow_92f84_10 : decode cJx4a65c_grow_92f84 10 = .ok (.aload_n 0, 1) := by decide +kernel
theorem dJx4a65c_grow_92f84_11 : decode cJx4a65c_grow_92f84 11 = .ok (.getfield 9, 3) := by decide +kernel
theorem dJx4a65c_grow_92f84_14 : decode cJx4a65c_grow_92f84 14 = .ok (.getstatic 39, 3) := by decide +kernel
theorem dJx4a65c_grow_92f84_17 : decode cJx4a65c_grow_92f84 17 = .ok (.if_acmp .eq 28, 3) := by decide +kernel
theorem dJx4a65c_grow_92f84_20 : decode cJx4a65c_grow_92f84 20 = .ok (.iload_n 2, 1) := by decide +kernel
theorem dJx4a65c_grow_92f84_21 : decode cJx4a65c_grow_92f84 21 = .ok (.iload_n 1, 1) := by decide +kernel
theorem dJx4a65c_grow_92f84_22 : decode cJx4a65c_grow_92f84 22 = .ok (.iload_n 2, 1) := by decide +kernel
theorem dJx4a65c_grow_92f84_23 : decode cJx4a65c_grow_92f84 23 = .ok (.isub, 1) := by decide +kernel
theorem dJx4a65c_grow_92f84_24 : decode cJx4a65c_grow_92f84 24 = .ok (.iload_n 2, 1) := by decide +kernel
theorem dJx4a65c_grow_92f84_25 : decode cJx4a65c_grow_92f84 25 = .ok (.iconst 1, 1) := by decide +kernel
theorem dJx4a65c_grow_92f84_26 : decode cJx4a65c_grow_92f84 26 = .ok (.ishr, 1) := by decide +kernel
theorem dJx4a65c_grow_92f84_27 : decode cJx4a65c_grow_92f84 27 = .ok (.invokestatic 73, 3) := by decide +kernel
theorem dJx4a65c_grow_92f84_30 : decode cJx4a65c_grow_92f84 30 = .ok (.istore_n 3, 1) := by decide +kernel
theorem dJx4a65c_grow_92f84_31 : decode cJx4a65c_grow_92f84 31 = .ok (.aload_n 0, 1) := by decide +kernel
theorem dJx4a65c_grow_92f84_32 : decode cJx4a65c_grow_92f84 32 = .ok (.aload_n 0, 1) := by decide +kernel
theorem dJx4a65c_grow_92f84_33 : decode cJx4a65c_grow_92f84 33 = .ok (.getfield 9, 3) := by decide +kernel
theorem dJx4a65c_grow_92f84_36 : decode cJx4a65c_grow_92f84 36 = .ok (.iload_n 3, 1) := by decide +kernel
theorem dJx4a65c_grow_92f84_37 : decode cJx4a65c_grow_92f84 37 = .ok (.invokestatic 66, 3) := by decide +kernel
theorem dJx4a65c_grow_92f84_40 : decode cJx4a65c_grow_92f84 40 = .ok (.dup_x1, 1) := by decide +kernel
theorem dJx4a65c_grow_92f84_41 : decode cJx4a65c_grow_92f84 41 = .ok (.putfield 9, 3) := by decide +kernel
theorem dJx4a65c_grow_92f84_44 : decode cJx4a65c_grow_92f84 44 = .ok (.areturn, 1) := by decide +kernel
theorem dJx4a65c_grow_92f84_45 : decode cJx4a65c_grow_92f84 45 = .ok (.aload_n 0, 1) := by decide +kernel
theorem dJx4a65c_grow_92f84_46 : decode cJx4a65c_grow_92f84 46 = .ok (.bipush 10, 2) := by decide +kernel
theorem dJx4a65c_grow_92f84_48 : decode cJx4a65c_grow_92f84 48 = .ok (.iload_n 1, 1) := by decide +kernel
theorem dJx4a65c_grow_92f84_49 : decode cJx4a65c_grow_92f84 49 = .ok (.invokestatic 79, 3) := by decide +kernel
theorem dJx4a65c_grow_92f84_52 : decode cJx4a65c_grow_92f84 52 = .ok (.anewarray 7, 3) := by decide +kernel
theorem dJx4a65c_grow_92f84_55 : decode cJx4a65c_grow_92f84 55 = .ok (.dup_x1, 1) := by decide +kernel
theorem dJx4a65c_grow_92f84_56 : decode cJx4a65c_grow_92f84 56 = .ok (.putfield 9, 3) := by decide +kernel
theorem dJx4a65c_grow_92f84_59 : decode cJx4a65c_grow_92f84 59 = .ok (.areturn, 1) := by decide +kernel
set_option maxRecDepth 20000 in
theorem ggJx4a65c_grow_d5877_Jx4a65c_grow_92f84 : GoodIn wsJx4a65c_grow_d5877 wsJx4a65c_grow_92f84 := goodIn_r _ [6, 7, 8, 9, 10, 11, 12, 13, 14, 15, 16, 17, 18, 19, 20, 21, 22, 23, 24, 25, 26, 27, 28, 29, 30, 31, 32, 33, 34, 35, 36, 37, 38, 39, 40, 41, 42, 43, 44, 45] (by decide +kernel) (by decide +kernel)
set_option maxRecDepth 20000 in
theorem gJx4a65c_grow_d5877_Jx4a65c_grow_92f84 : GoodIn wsJx4a65c_grow_d5877 (wsV RJx4a65c 69 RJx4a65c yJx4a65c_grow_92f84 wsJx4a65c_grow_92f84) := goodIn_app (goodIn_of _ (by decide +kernel)) ggJx4a65c_grow_d5877_Jx4a65c_grow_92f84
theorem dJx4a65c_grow_d5877_0 : decode cJx4a65c_grow_d5877 0 = .ok (.aload_n 0, 1) := by decide +kernel
theorem dJx4a65c_grow_d5877_1 : decode cJx4a65c_grow_d5877 1 = .ok (.aload_n 0, 1) := by decide +kernel
theorem dJx4a65c_grow_d5877_2 : decode cJx4a65c_grow_d5877 2 = .ok (.getfield 48, 3) := by decide +kernel
theorem dJx4a65c_grow_d5877_5 : decode cJx4a65c_grow_d5877 5 = .ok (.iconst 1, 1) := by decide +kernel
theorem dJx4a65c_grow_d5877_6 : decode cJx4a65c_grow_d5877 6 = .ok (.iadd, 1) := by decide +kernel
theorem dJx4a65c_grow_d5877_7 : decode cJx4a65c_grow_d5877 7 = .ok (.invokevirtual 69, 3) := by decide +kernel
theorem dJx4a65c_grow_d5877_10 : decode cJx4a65c_grow_d5877 10 = .ok (.areturn, 1) := by decide +kernel
theorem dJx4a65c_size_8abf5_0 : decode cJx4a65c_size_8abf5 0 = .ok (.aload_n 0, 1) := by decide +kernel
theorem dJx4a65c_size_8abf5_1 : decode cJx4a65c_size_8abf5 1 = .ok (.getfield 48, 3) := by decide +kernel
theorem dJx4a65c_size_8abf5_4 : decode cJx4a65c_size_8abf5 4 = .ok (.ireturn, 1) := by decide +kernel
theorem dJx4a65c_elementData_915e3_0 : decode cJx4a65c_elementData_915e3 0 = .ok (.aload_n 0, 1) := by decide +kernel
theorem dJx4a65c_elementData_915e3_1 : decode cJx4a65c_elementData_915e3 1 = .ok (.getfield 9, 3) := by decide +kernel
theorem dJx4a65c_elementData_915e3_4 : decode cJx4a65c_elementData_915e3 4 = .ok (.iload_n 1, 1) := by decide +kernel
theorem dJx4a65c_elementData_915e3_5 : decode cJx4a65c_elementData_915e3 5 = .ok (.aaload, 1) := by decide +kernel
theorem dJx4a65c_elementData_915e3_6 : decode cJx4a65c_elementData_915e3 6 = .ok (.areturn, 1) := by decide +kernel
set_option maxRecDepth 20000 in
theorem ggJx4a65c_get_915e3_J15_checkIndex_7cf53 : GoodIn wsJx4a65c_get_915e3 wsJ15_checkIndex_7cf53 := goodIn_r _ [5, 6, 7, 8, 9] (by decide +kernel) (by decide +kernel)
set_option maxRecDepth 20000 in
theorem gJx4a65c_get_915e3_J15_checkIndex_7cf53 : GoodIn wsJx4a65c_get_915e3 (va_wsS RJx4a65c 118 yJ15_checkIndex_7cf53 wsJ15_checkIndex_7cf53) := goodIn_app (goodIn_of _ (by decide +kernel)) ggJx4a65c_get_915e3_J15_checkIndex_7cf53
set_option maxRecDepth 20000 in
theorem ggJx4a65c_get_915e3_Jx4a65c_elementData_915e3 : GoodIn wsJx4a65c_get_915e3 wsJx4a65c_elementData_915e3 := goodIn_r _ [14, 15, 16, 17, 18] (by decide +kernel) (by decide +kernel)
set_option maxRecDepth 20000 in
theorem gJx4a65c_get_915e3_Jx4a65c_elementData_915e3 : GoodIn wsJx4a65c_get_915e3 (wsV RJx4a65c 123 RJx4a65c yJx4a65c_elementData_915e3 wsJx4a65c_elementData_915e3) := goodIn_app (goodIn_of _ (by decide +kernel)) ggJx4a65c_get_915e3_Jx4a65c_elementData_915e3
theorem dJx4a65c_get_915e3_0 : decode cJx4a65c_get_915e3 0 = .ok (.iload_n 1, 1) := by decide +kernel
theorem dJx4a65c_get_915e3_1 : decode cJx4a65c_get_915e3 1 = .ok (.aload_n 0, 1) := by decide +kernel
theorem dJx4a65c_get_915e3_2 : decode cJx4a65c_get_915e3 2 = .ok (.getfield 48, 3) := by decide +kernel
theorem dJx4a65c_get_915e3_5 : decode cJx4a65c_get_915e3 5 = .ok (.invokestatic 118, 3) := by decide +kernel
theorem dJx4a65c_get_915e3_8 : decode cJx4a65c_get_915e3 8 = .ok (.pop, 1) := by decide +kernel
theorem dJx4a65c_get_915e3_9 : decode cJx4a65c_get_915e3 9 = .ok (.aload_n 0, 1) := by decide +kernel
theorem dJx4a65c_get_915e3_10 : decode cJx4a65c_get_915e3 10 = .ok (.iload_n 1, 1) := by decide +kernel
theorem dJx4a65c_get_915e3_11 : decode cJx4a65c_get_915e3 11 = .ok (.invokevirtual 123, 3) := by decide +kernel
theorem dJx4a65c_get_915e3_14 : decode cJx4a65c_get_915e3 14 = .ok (.areturn, 1) := by decide +kernel
set_option maxRecDepth 20000 in
theorem ggJx4a65c_add_72be8_Jx4a65c_grow_d5877 : GoodIn wsJx4a65c_add_72be8 wsJx4a65c_grow_d5877 := goodIn_r _ [6, 1, 7, 8, 9, 5, 10, 11, 12, 13, 14, 15, 16, 17, 18, 19, 20, 21, 22, 23, 24, 25, 26, 27, 28, 29, 30, 31, 32, 33, 34, 35, 36, 37, 38, 39, 40, 41, 42, 43, 44, 45, 46, 47, 48, 49] (by decide +kernel) (by decide +kernel)
set_option maxRecDepth 20000 in
theorem gJx4a65c_add_72be8_Jx4a65c_grow_d5877 : GoodIn wsJx4a65c_add_72be8 (wsV RJx4a65c 129 RJx4a65c yJx4a65c_grow_d5877 wsJx4a65c_grow_d5877) := goodIn_app (goodIn_of _ (by decide +kernel)) ggJx4a65c_add_72be8_Jx4a65c_grow_d5877
theorem dJx4a65c_add_72be8_0 : decode cJx4a65c_add_72be8 0 = .ok (.iload_n 3, 1) := by decide +kernel
theorem dJx4a65c_add_72be8_1 : decode cJx4a65c_add_72be8 1 = .ok (.aload_n 2, 1) := by decide +kernel
theorem dJx4a65c_add_72be8_2 : decode cJx4a65c_add_72be8 2 = .ok (.arraylength, 1) := by decide +kernel
theorem dJx4a65c_add_72be8_3 : decode cJx4a65c_add_72be8 3 = .ok (.if_icmp .ne 8, 3) := by decide +kernel
theorem dJx4a65c_add_72be8_6 : decode cJx4a65c_add_72be8 6 = .ok (.aload_n 0, 1) := by decide +kernel
theorem dJx4a65c_add_72be8_7 : decode cJx4a65c_add_72be8 7 = .ok (.invokevirtual 129, 3) := by decide +kernel
theorem dJx4a65c_add_72be8_10 : decode cJx4a65c_add_72be8 10 = .ok (.astore_n 2, 1) := by decide +kernel
theorem dJx4a65c_add_72be8_11 : decode cJx4a65c_add_72be8 11 = .ok (.aload_n 2, 1) := by decide +kernel
theorem dJx4a65c_add_72be8_12 : decode cJx4a65c_add_72be8 12 = .ok (.iload_n 3, 1) := by decide +kernel
theorem dJx4a65c_add_72be8_13 : decode cJx4a65c_add_72be8 13 = .ok (.aload_n 1, 1) := by decide +kernel
theorem dJx4a65c_add_72be8_14 : decode cJx4a65c_add_72be8 14 = .ok (.aastore, 1) := by decide +kernel
theorem dJx4a65c_add_72be8_15 : decode cJx4a65c_add_72be8 15 = .ok (.aload_n 0, 1) := by decide +kernel
theorem dJx4a65c_add_72be8_16 : decode cJx4a65c_add_72be8 16 = .ok (.iload_n 3, 1) := by decide +kernel
theorem dJx4a65c_add_72be8_17 : decode cJx4a65c_add_72be8 17 = .ok (.iconst 1, 1) := by decide +kernel
theorem dJx4a65c_add_72be8_18 : decode cJx4a65c_add_72be8 18 = .ok (.iadd, 1) := by decide +kernel
theorem dJx4a65c_add_72be8_19 : decode cJx4a65c_add_72be8 19 = .ok (.putfield 48, 3) := by decide +kernel
theorem dJx4a65c_add_72be8_22 : decode cJx4a65c_add_72be8 22 = .ok (.return_, 1) := by decide +kernel
set_option maxRecDepth 20000 in
theorem ggJx4a65c_add_9ea2d_Jx4a65c_add_72be8 : GoodIn wsJx4a65c_add_9ea2d wsJx4a65c_add_72be8 := goodIn_r _ [9, 4, 10, 11, 12, 8, 13, 14, 15, 16, 17, 3, 18, 19, 20, 21, 22, 23, 24, 25, 26, 27, 28, 29, 30, 31, 32, 33, 34, 35, 36, 37, 38, 39, 40, 41, 42, 43, 44, 45, 46, 47, 48, 49, 50, 51, 52, 53, 54, 55] (by decide +kernel) (by decide +kernel)
set_option maxRecDepth 20000 in
theorem gJx4a65c_add_9ea2d_Jx4a65c_add_72be8 : GoodIn wsJx4a65c_add_9ea2d (wsV RJx4a65c 131 RJx4a65c yJx4a65c_add_72be8 wsJx4a65c_add_72be8) := goodIn_app (goodIn_of _ (by decide +kernel)) ggJx4a65c_add_9ea2d_Jx4a65c_add_72be8
theorem dJx4a65c_add_9ea2d_0 : decode cJx4a65c_add_9ea2d 0 = .ok (.aload_n 0, 1) := by decide +kernel
theorem dJx4a65c_add_9ea2d_1 : decode cJx4a65c_add_9ea2d 1 = .ok (.dup, 1) := by decide +kernel
theorem dJx4a65c_add_9ea2d_2 : decode cJx4a65c_add_9ea2d 2 = .ok (.getfield 63, 3) := by decide +kernel
theorem dJx4a65c_add_9ea2d_5 : decode cJx4a65c_add_9ea2d 5 = .ok (.iconst 1, 1) := by decide +kernel
theorem dJx4a65c_add_9ea2d_6 : decode cJx4a65c_add_9ea2d 6 = .ok (.iadd, 1) := by decide +kernel
theorem dJx4a65c_add_9ea2d_7 : decode cJx4a65c_add_9ea2d 7 = .ok (.putfield 63, 3) := by decide +kernel
theorem dJx4a65c_add_9ea2d_10 : decode cJx4a65c_add_9ea2d 10 = .ok (.aload_n 0, 1) := by decide +kernel
theorem dJx4a65c_add_9ea2d_11 : decode cJx4a65c_add_9ea2d 11 = .ok (.aload_n 1, 1) := by decide +kernel
theorem dJx4a65c_add_9ea2d_12 : decode cJx4a65c_add_9ea2d 12 = .ok (.aload_n 0, 1) := by decide +kernel
theorem dJx4a65c_add_9ea2d_13 : decode cJx4a65c_add_9ea2d 13 = .ok (.getfield 9, 3) := by decide +kernel
theorem dJx4a65c_add_9ea2d_16 : decode cJx4a65c_add_9ea2d 16 = .ok (.aload_n 0, 1) := by decide +kernel
theorem dJx4a65c_add_9ea2d_17 : decode cJx4a65c_add_9ea2d 17 = .ok (.getfield 48, 3) := by decide +kernel
theorem dJx4a65c_add_9ea2d_20 : decode cJx4a65c_add_9ea2d 20 = .ok (.invokevirtual 131, 3) := by decide +kernel
theorem dJx4a65c_add_9ea2d_23 : decode cJx4a65c_add_9ea2d 23 = .ok (.iconst 1, 1) := by decide +kernel
theorem dJx4a65c_add_9ea2d_24 : decode cJx4a65c_add_9ea2d 24 = .ok (.ireturn, 1) := by decide +kernel
set_option maxRecDepth 20000 in
theorem ggJ7_copyOf_1904c_J7_copyOf_6403c : GoodIn wsJ7_copyOf_1904c wsJ7_copyOf_6403c := goodIn_r _ [8, 9, 10, 11, 12, 13, 14, 15, 16, 17, 18] (by decide +kernel) (by decide +kernel)
set_option maxRecDepth 20000 in
theorem gJ7_copyOf_1904c_J7_copyOf_6403c : GoodIn wsJ7_copyOf_1904c (va_wsS RJ7 300 yJ7_copyOf_6403c wsJ7_copyOf_6403c) := goodIn_app (goodIn_of _ (by decide +kernel)) ggJ7_copyOf_1904c_J7_copyOf_6403c
theorem dJ7_copyOf_1904c_0 : decode cJ7_copyOf_1904c 0 = .ok (.aload_n 0, 1) := by decide +kernel
theorem dJ7_copyOf_1904c_1 : decode cJ7_copyOf_1904c 1 = .ok (.iload_n 1, 1) := by decide +kernel
theorem dJ7_copyOf_1904c_2 : decode cJ7_copyOf_1904c 2 = .ok (.aload_n 0, 1) := by decide +kernel
theorem dJ7_copyOf_1904c_3 : decode cJ7_copyOf_1904c 3 = .ok (.invokevirtual 86, 3) := by decide +kernel
theorem dJ7_copyOf_1904c_6 : decode cJ7_copyOf_1904c 6 = .ok (.invokestatic 300, 3) := by decide +kernel
theorem dJ7_copyOf_1904c_9 : decode cJ7_copyOf_1904c 9 = .ok (.areturn, 1) := by decide +kernel
theorem dJ7_copyOf_6403c_0 : decode cJ7_copyOf_6403c 0 = .ok (.aload_n 2, 1) := by decide +kernel
theorem dJ7_copyOf_6403c_1 : decode cJ7_copyOf_6403c 1 = .ok (.ldc 110, 2) := by decide +kernel
theorem dJ7_copyOf_6403c_3 : decode cJ7_copyOf_6403c 3 = .ok (.if_acmp .ne 10, 3) := by decide +kernel
theorem dJ7_copyOf_6403c_6 : decode cJ7_copyOf_6403c 6 = .ok (.iload_n 1, 1) := by decide +kernel
theorem dJ7_copyOf_6403c_7 : decode cJ7_copyOf_6403c 7 = .ok (.anewarray 2, 3) := by decide +kernel
theorem dJ7_copyOf_6403c_10 : decode cJ7_copyOf_6403c 10 = .ok (.goto 14, 3) := by decide +kernel
theorem dJ7_copyOf_6403c_13 : decode cJ7_copyOf_6403c 13 = .ok (.aload_n 2, 1) := by decide +kernel
theorem dJ7_copyOf_6403c_14 : decode cJ7_copyOf_6403c 14 = .ok (.invokevirtual 90, 3) := by decide +kernel
theorem dJ7_copyOf_6403c_17 : decode cJ7_copyOf_6403c 17 = .ok (.iload_n 1, 1) := by decide +kernel
theorem dJ7_copyOf_6403c_18 : decode cJ7_copyOf_6403c 18 = .ok (.invokestatic 95, 3) := by decide +kernel
theorem dJ7_copyOf_6403c_21 : decode cJ7_copyOf_6403c 21 = .ok (.checkcast 110, 3) := by decide +kernel
theorem dJ7_copyOf_6403c_24 : decode cJ7_copyOf_6403c 24 = .ok (.astore_n 3, 1) := by decide +kernel
theorem dJ7_copyOf_6403c_25 : decode cJ7_copyOf_6403c 25 = .ok (.aload_n 0, 1) := by decide +kernel
theorem dJ7_copyOf_6403c_26 : decode cJ7_copyOf_6403c 26 = .ok (.iconst 0, 1) := by decide +kernel
theorem dJ7_copyOf_6403c_27 : decode cJ7_copyOf_6403c 27 = .ok (.aload_n 3, 1) := by decide +kernel
theorem dJ7_copyOf_6403c_28 : decode cJ7_copyOf_6403c 28 = .ok (.iconst 0, 1) := by decide +kernel
theorem dJ7_copyOf_6403c_29 : decode cJ7_copyOf_6403c 29 = .ok (.aload_n 0, 1) := by decide +kernel
theorem dJ7_copyOf_6403c_30 : decode cJ7_copyOf_6403c 30 = .ok (.arraylength, 1) := by decide +kernel
theorem dJ7_copyOf_6403c_31 : decode cJ7_copyOf_6403c 31 = .ok (.iload_n 1, 1) := by decide +kernel
theorem dJ7_copyOf_6403c_32 : decode cJ7_copyOf_6403c 32 = .ok (.invokestatic 304, 3) := by decide +kernel
theorem dJ7_copyOf_6403c_35 : decode cJ7_copyOf_6403c 35 = .ok (.invokestatic 150, 3) := by decide +kernel
theorem dJ7_copyOf_6403c_38 : decode cJ7_copyOf_6403c 38 = .ok (.aload_n 3, 1) := by decide +kernel
theorem dJ7_copyOf_6403c_39 : decode cJ7_copyOf_6403c 39 = .ok (.areturn, 1) := by decide +kernel
set_option maxRecDepth 20000 in
theorem ggJ15_checkIndex_7cf53_J3_checkIndex_8e157 : GoodIn wsJ15_checkIndex_7cf53 wsJ3_checkIndex_8e157 := goodIn_r _ [4] (by decide +kernel) (by decide +kernel)
set_option maxRecDepth 20000 in
theorem gJ15_checkIndex_7cf53_J3_checkIndex_8e157 : GoodIn wsJ15_checkIndex_7cf53 (va_wsS RJ15 105 yJ3_checkIndex_8e157 wsJ3_checkIndex_8e157) := goodIn_app (goodIn_of _ (by decide +kernel)) ggJ15_checkIndex_7cf53_J3_checkIndex_8e157
theorem dJ15_checkIndex_7cf53_0 : decode cJ15_checkIndex_7cf53 0 = .ok (.iload_n 0, 1) := by decide +kernel
theorem dJ15_checkIndex_7cf53_1 : decode cJ15_checkIndex_7cf53 1 = .ok (.iload_n 1, 1) := by decide +kernel
theorem dJ15_checkIndex_7cf53_2 : decode cJ15_checkIndex_7cf53 2 = .ok (.aconst_null, 1) := by decide +kernel
theorem dJ15_checkIndex_7cf53_3 : decode cJ15_checkIndex_7cf53 3 = .ok (.invokestatic 105, 3) := by decide +kernel
theorem dJ15_checkIndex_7cf53_6 : decode cJ15_checkIndex_7cf53 6 = .ok (.ireturn, 1) := by decide +kernel
set_option maxRecDepth 20000 in
theorem ggJ8_newLength_cabcc_J8_hugeLength_7cf53 : GoodIn wsJ8_newLength_cabcc wsJ8_hugeLength_7cf53 := goodIn_r _ [9, 5] (by decide +kernel) (by decide +kernel)
set_option maxRecDepth 20000 in
theorem gJ8_newLength_cabcc_J8_hugeLength_7cf53 : GoodIn wsJ8_newLength_cabcc (va_wsS RJ8 201 yJ8_hugeLength_7cf53 wsJ8_hugeLength_7cf53) := goodIn_app (goodIn_of _ (by decide +kernel)) ggJ8_newLength_cabcc_J8_hugeLength_7cf53
theorem dJ8_newLength_cabcc_0 : decode cJ8_newLength_cabcc 0 = .ok (.iload_n 0, 1) := by decide +kernel
theorem dJ8_newLength_cabcc_1 : decode cJ8_newLength_cabcc 1 = .ok (.iload_n 1, 1) := by decide +kernel
theorem dJ8_newLength_cabcc_2 : decode cJ8_newLength_cabcc 2 = .ok (.iload_n 2, 1) := by decide +kernel
theorem dJ8_newLength_cabcc_3 : decode cJ8_newLength_cabcc 3 = .ok (.invokestatic 194, 3) := by decide +kernel
theorem dJ8_newLength_cabcc_6 : decode cJ8_newLength_cabcc 6 = .ok (.iadd, 1) := by decide +kernel
theorem dJ8_newLength_cabcc_7 : decode cJ8_newLength_cabcc 7 = .ok (.istore_n 3, 1) := by decide +kernel
theorem dJ8_newLength_cabcc_8 : decode cJ8_newLength_cabcc 8 = .ok (.iconst 0, 1) := by decide +kernel
theorem dJ8_newLength_cabcc_9 : decode cJ8_newLength_cabcc 9 = .ok (.iload_n 3, 1) := by decide +kernel
theorem dJ8_newLength_cabcc_10 : decode cJ8_newLength_cabcc 10 = .ok (.if_icmp .ge 11, 3) := by decide +kernel
theorem dJ8_newLength_cabcc_13 : decode cJ8_newLength_cabcc 13 = .ok (.iload_n 3, 1) := by decide +kernel
theorem dJ8_newLength_cabcc_14 : decode cJ8_newLength_cabcc 14 = .ok (.ldc 200, 2) := by decide +kernel
theorem dJ8_newLength_cabcc_16 : decode cJ8_newLength_cabcc 16 = .ok (.if_icmp .gt 5, 3) := by decide +kernel
theorem dJ8_newLength_cabcc_19 : decode cJ8_newLength_cabcc 19 = .ok (.iload_n 3, 1) := by decide +kernel
theorem dJ8_newLength_cabcc_20 : decode cJ8_newLength_cabcc 20 = .ok (.ireturn, 1) := by decide +kernel
theorem dJ8_newLength_cabcc_21 : decode cJ8_newLength_cabcc 21 = .ok (.iload_n 0, 1) := by decide +kernel
theorem dJ8_newLength_cabcc_22 : decode cJ8_newLength_cabcc 22 = .ok (.iload_n 1, 1) := by decide +kernel
theorem dJ8_newLength_cabcc_23 : decode cJ8_newLength_cabcc 23 = .ok (.invokestatic 201, 3) := by decide +kernel
theorem dJ8_newLength_cabcc_26 : decode cJ8_newLength_cabcc 26 = .ok (.ireturn, 1) := by decide +kernel
theorem dJ8_hugeLength_7cf53_0 : decode cJ8_hugeLength_7cf53 0 = .ok (.iload_n 0, 1) := by decide +kernel
theorem dJ8_hugeLength_7cf53_1 : decode cJ8_hugeLength_7cf53 1 = .ok (.iload_n 1, 1) := by decide +kernel
theorem dJ8_hugeLength_7cf53_2 : decode cJ8_hugeLength_7cf53 2 = .ok (.iadd, 1) := by decide +kernel
theorem dJ8_hugeLength_7cf53_3 : decode cJ8_hugeLength_7cf53 3 = .ok (.istore_n 2, 1) := by decide +kernel
theorem dJ8_hugeLength_7cf53_4 : decode cJ8_hugeLength_7cf53 4 = .ok (.iload_n 2, 1) := by decide +kernel
theorem dJ8_hugeLength_7cf53_5 : decode cJ8_hugeLength_7cf53 5 = .ok (.ifCond .ge 44, 3) := by decide +kernel
theorem dJ8_hugeLength_7cf53_8 : decode cJ8_hugeLength_7cf53 8 = .ok (.new 204, 3) := by decide +kernel
theorem dJ8_hugeLength_7cf53_11 : decode cJ8_hugeLength_7cf53 11 = .ok (.dup, 1) := by decide +kernel
theorem dJ8_hugeLength_7cf53_12 : decode cJ8_hugeLength_7cf53 12 = .ok (.new 89, 3) := by decide +kernel
theorem dJ8_hugeLength_7cf53_15 : decode cJ8_hugeLength_7cf53 15 = .ok (.dup, 1) := by decide +kernel
theorem dJ8_hugeLength_7cf53_16 : decode cJ8_hugeLength_7cf53 16 = .ok (.invokespecial 91, 3) := by decide +kernel
theorem dJ8_hugeLength_7cf53_19 : decode cJ8_hugeLength_7cf53 19 = .ok (.ldc 206, 2) := by decide +kernel
theorem dJ8_hugeLength_7cf53_21 : decode cJ8_hugeLength_7cf53 21 = .ok (.invokevirtual 94, 3) := by decide +kernel
theorem dJ8_hugeLength_7cf53_24 : decode cJ8_hugeLength_7cf53 24 = .ok (.iload_n 0, 1) := by decide +kernel
theorem dJ8_hugeLength_7cf53_25 : decode cJ8_hugeLength_7cf53 25 = .ok (.invokevirtual 98, 3) := by decide +kernel
theorem dJ8_hugeLength_7cf53_28 : decode cJ8_hugeLength_7cf53 28 = .ok (.ldc 208, 2) := by decide +kernel
theorem dJ8_hugeLength_7cf53_30 : decode cJ8_hugeLength_7cf53 30 = .ok (.invokevirtual 94, 3) := by decide +kernel
theorem dJ8_hugeLength_7cf53_33 : decode cJ8_hugeLength_7cf53 33 = .ok (.iload_n 1, 1) := by decide +kernel
theorem dJ8_hugeLength_7cf53_34 : decode cJ8_hugeLength_7cf53 34 = .ok (.invokevirtual 98, 3) := by decide +kernel
theorem dJ8_hugeLength_7cf53_37 : decode cJ8_hugeLength_7cf53 37 = .ok (.ldc 210, 2) := by decide +kernel
theorem dJ8_hugeLength_7cf53_39 : decode cJ8_hugeLength_7cf53 39 = .ok (.invokevirtual 94, 3) := by decide +kernel
theorem dJ8_hugeLength_7cf53_42 : decode cJ8_hugeLength_7cf53 42 = .ok (.invokevirtual 101, 3) := by decide +kernel
theorem dJ8_hugeLength_7cf53_45 : decode cJ8_hugeLength_7cf53 45 = .ok (.invokespecial 212, 3) := by decide +kernel
theorem dJ8_hugeLength_7cf53_48 : decode cJ8_hugeLength_7cf53 48 = .ok (.athrow, 1) := by decide +kernel
theorem dJ8_hugeLength_7cf53_49 : decode cJ8_hugeLength_7cf53 49 = .ok (.iload_n 2, 1) := by decide +kernel
theorem dJ8_hugeLength_7cf53_50 : decode cJ8_hugeLength_7cf53 50 = .ok (.ldc 200, 2) := by decide +kernel
theorem dJ8_hugeLength_7cf53_52 : decode cJ8_hugeLength_7cf53 52 = .ok (.if_icmp .gt 6, 3) := by decide +kernel
theorem dJ8_hugeLength_7cf53_55 : decode cJ8_hugeLength_7cf53 55 = .ok (.ldc 200, 2) := by decide +kernel
theorem dJ8_hugeLength_7cf53_57 : decode cJ8_hugeLength_7cf53 57 = .ok (.ireturn, 1) := by decide +kernel
theorem dJ8_hugeLength_7cf53_58 : decode cJ8_hugeLength_7cf53 58 = .ok (.iload_n 2, 1) := by decide +kernel
theorem dJ8_hugeLength_7cf53_59 : decode cJ8_hugeLength_7cf53 59 = .ok (.ireturn, 1) := by decide +kernel
theorem dJ3_checkIndex_8e157_0 : decode cJ3_checkIndex_8e157 0 = .ok (.iload_n 0, 1) := by decide +kernel
theorem dJ3_checkIndex_8e157_1 : decode cJ3_checkIndex_8e157 1 = .ok (.ifCond .lt 8, 3) := by decide +kernel
theorem dJ3_checkIndex_8e157_4 : decode cJ3_checkIndex_8e157 4 = .ok (.iload_n 0, 1) := by decide +kernel
theorem dJ3_checkIndex_8e157_5 : decode cJ3_checkIndex_8e157 5 = .ok (.iload_n 1, 1) := by decide +kernel
theorem dJ3_checkIndex_8e157_6 : decode cJ3_checkIndex_8e157 6 = .ok (.if_icmp .lt 10, 3) := by decide +kernel
theorem dJ3_checkIndex_8e157_9 : decode cJ3_checkIndex_8e157 9 = .ok (.aload_n 2, 1) := by decide +kernel
theorem dJ3_checkIndex_8e157_10 : decode cJ3_checkIndex_8e157 10 = .ok (.iload_n 0, 1) := by decide +kernel
theorem dJ3_checkIndex_8e157_11 : decode cJ3_checkIndex_8e157 11 = .ok (.iload_n 1, 1) := by decide +kernel
theorem dJ3_checkIndex_8e157_12 : decode cJ3_checkIndex_8e157 12 = .ok (.invokestatic 95, 3) := by decide +kernel
theorem dJ3_checkIndex_8e157_15 : decode cJ3_checkIndex_8e157 15 = .ok (.athrow, 1) := by decide +kernel
theorem dJ3_checkIndex_8e157_16 : decode cJ3_checkIndex_8e157 16 = .ok (.iload_n 0, 1) := by decide +kernel
theorem dJ3_checkIndex_8e157_17 : decode cJ3_checkIndex_8e157 17 = .ok (.ireturn, 1) := by decide +kernel
theorem dL_cell_0 : decode cL_cell 0 = .ok (.iload_n 1, 1) := by decide +kernel
theorem dL_cell_1 : decode cL_cell 1 = .ok (.aload_n 0, 1) := by decide +kernel
theorem dL_cell_2 : decode cL_cell 2 = .ok (.arraylength, 1) := by decide +kernel
theorem dL_cell_3 : decode cL_cell 3 = .ok (.if_icmp .ge 9, 3) := by decide +kernel
theorem dL_cell_6 : decode cL_cell 6 = .ok (.aload_n 0, 1) := by decide +kernel
theorem dL_cell_7 : decode cL_cell 7 = .ok (.iload_n 1, 1) := by decide +kernel
theorem dL_cell_8 : decode cL_cell 8 = .ok (.iaload, 1) := by decide +kernel
theorem dL_cell_9 : decode cL_cell 9 = .ok (.goto 11, 3) := by decide +kernel
theorem dL_cell_12 : decode cL_cell 12 = .ok (.ldc 7, 2) := by decide +kernel
theorem dL_cell_14 : decode cL_cell 14 = .ok (.iload_n 1, 1) := by decide +kernel
theorem dL_cell_15 : decode cL_cell 15 = .ok (.imul, 1) := by decide +kernel
theorem dL_cell_16 : decode cL_cell 16 = .ok (.sipush 2153, 3) := by decide +kernel
theorem dL_cell_19 : decode cL_cell 19 = .ok (.iadd, 1) := by decide +kernel
theorem dL_cell_20 : decode cL_cell 20 = .ok (.ireturn, 1) := by decide +kernel
theorem dL_low_0 : decode cL_low 0 = .ok (.iload_n 0, 1) := by decide +kernel
theorem dL_low_1 : decode cL_low 1 = .ok (.ldc 8, 2) := by decide +kernel
theorem dL_low_3 : decode cL_low 3 = .ok (.iand, 1) := by decide +kernel
theorem dL_low_4 : decode cL_low 4 = .ok (.iload_n 1, 1) := by decide +kernel
theorem dL_low_5 : decode cL_low 5 = .ok (.irem, 1) := by decide +kernel
theorem dL_low_6 : decode cL_low 6 = .ok (.ireturn, 1) := by decide +kernel
set_option maxRecDepth 20000 in
theorem ggL_agrees_X2_time : GoodIn wsL_agrees wsX2_time := goodIn_r _ [5, 6, 147, 148, 149, 150, 151, 152, 153, 154, 155, 156, 157] (by decide +kernel) (by decide +kernel)
set_option maxRecDepth 20000 in
theorem gL_agrees_X2_time : GoodIn wsL_agrees (wsV RL 9 RX2 yX2_time wsX2_time) := goodIn_app (goodIn_of _ (by decide +kernel)) ggL_agrees_X2_time
set_option maxRecDepth 20000 in
theorem ggL_agrees_X2_free : GoodIn wsL_agrees wsX2_free := goodIn_ca (goodIn_r _ [10, 11, 12, 13, 14, 4, 15, 16, 17, 18, 19, 20, 21, 22, 23, 24, 25, 26, 27, 28, 29, 30, 31, 32, 33, 34, 35, 36, 37, 38, 39, 40, 41, 42, 43, 44, 45, 46, 47, 48, 49, 50, 51, 52, 53, 54, 55, 56, 147, 148, 149, 150, 151, 152, 153, 154, 155, 156, 157, 158, 159, 160, 161, 162, 163, 164, 165, 166] (by decide +kernel) (by decide +kernel)) (goodIn_sub (fun _ h => List.mem_cons_of_mem _ (List.mem_append_left _ (List.mem_append_left _ (List.mem_append_right _ h)))) (by decide +kernel))
set_option maxRecDepth 20000 in
theorem gL_agrees_X2_free : GoodIn wsL_agrees (wsV RL 20 RX2 yX2_free wsX2_free) := goodIn_app (goodIn_of _ (by decide +kernel)) ggL_agrees_X2_free
set_option maxRecDepth 20000 in
theorem ggL_agrees_X3_live : GoodIn wsL_agrees wsX3_live := goodIn_r _ [61, 62, 63, 64, 65, 60, 66, 67, 133, 134, 135, 136, 137, 138, 139, 140, 141, 142, 143, 144, 145, 146] (by decide +kernel) (by decide +kernel)
set_option maxRecDepth 20000 in
theorem gL_agrees_X3_live : GoodIn wsL_agrees (wsV RL 24 RX3 yX3_live wsX3_live) := goodIn_app (goodIn_of _ (by decide +kernel)) ggL_agrees_X3_live
set_option maxRecDepth 20000 in
theorem ggL_agrees_X2_minutes : GoodIn wsL_agrees wsX2_minutes := goodIn_ca (goodIn_r _ [71, 72, 73, 74, 4, 75, 16, 17, 18, 19, 20, 147, 148, 149, 150, 151, 152, 153, 154, 155, 156, 157] (by decide +kernel) (by decide +kernel)) (goodIn_sub (fun _ h => List.mem_cons_of_mem _ (List.mem_append_left _ (List.mem_append_left _ (List.mem_append_right _ h)))) (by decide +kernel))
set_option maxRecDepth 20000 in
theorem gL_agrees_X2_minutes : GoodIn wsL_agrees (wsV RL 27 RX2 yX2_minutes wsX2_minutes) := goodIn_app (goodIn_of _ (by decide +kernel)) ggL_agrees_X2_minutes
set_option maxRecDepth 20000 in
theorem ggL_agrees_X2_minutesBySessions : GoodIn wsL_agrees wsX2_minutesBySessions := goodIn_ca (goodIn_r _ [79, 80, 81, 82, 83, 84, 73, 74, 4, 75, 16, 17, 18, 19, 20, 21, 22, 23, 24, 25, 26, 27, 28, 29, 30, 31, 32, 33, 34, 35, 36, 37, 38, 39, 40, 41, 42, 43, 147, 148, 149, 150, 151, 152, 153, 154, 155, 156, 157, 167, 168, 169, 170, 171, 172, 173, 158, 159, 160] (by decide +kernel) (by decide +kernel)) (goodIn_sub (fun _ h => List.mem_cons_of_mem _ (List.mem_append_left _ (List.mem_append_left _ (List.mem_append_right _ h)))) (by decide +kernel))
set_option maxRecDepth 20000 in
theorem gL_agrees_X2_minutesBySessions : GoodIn wsL_agrees (wsV RL 33 RX2 yX2_minutesBySessions wsX2_minutesBySessions) := goodIn_app (goodIn_of _ (by decide +kernel)) ggL_agrees_X2_minutesBySessions
set_option maxRecDepth 20000 in
theorem ggL_agrees_X2_userOf : GoodIn wsL_agrees wsX2_userOf := goodIn_ca (goodIn_r _ [88, 89, 90, 91, 92, 4, 93, 94, 95, 82, 83, 21, 22, 23, 24, 25, 26, 18, 19, 20, 27, 28, 29, 30, 31, 32, 33, 34, 35, 36, 37, 38, 39, 40, 41, 42, 43, 167, 168, 169, 170, 171, 172, 173, 147, 148, 149, 150, 151, 152, 153, 154, 155, 156, 157, 158, 159, 160] (by decide +kernel) (by decide +kernel)) (goodIn_sub (fun _ h => List.mem_cons_of_mem _ (List.mem_append_left _ (List.mem_append_right _ h))) (by decide +kernel))
set_option maxRecDepth 20000 in
theorem gL_agrees_X2_userOf : GoodIn wsL_agrees (wsV RL 39 RX2 yX2_userOf wsX2_userOf) := goodIn_app (goodIn_of _ (by decide +kernel)) ggL_agrees_X2_userOf
set_option maxRecDepth 20000 in
theorem ggL_agrees_X2_state : GoodIn wsL_agrees wsX2_state := goodIn_ca (goodIn_r _ [99, 89, 100, 101, 90, 91, 92, 4, 93, 94, 95, 82, 83, 21, 22, 23, 24, 25, 26, 18, 19, 20, 27, 28, 29, 30, 31, 32, 33, 34, 35, 36, 37, 38, 39, 40, 41, 42, 43, 102, 103, 104, 105, 106, 107, 167, 168, 169, 170, 171, 172, 173, 147, 148, 149, 150, 151, 152, 153, 154, 155, 156, 157, 158, 159, 160] (by decide +kernel) (by decide +kernel)) (goodIn_sub (fun _ h => List.mem_cons_of_mem _ (List.mem_append_left _ (List.mem_append_right _ h))) (by decide +kernel))
set_option maxRecDepth 20000 in
theorem gL_agrees_X2_state : GoodIn wsL_agrees (wsV RL 45 RX2 yX2_state wsX2_state) := goodIn_app (goodIn_of _ (by decide +kernel)) ggL_agrees_X2_state
set_option maxRecDepth 20000 in
theorem ggL_agrees_X3_isLive : GoodIn wsL_agrees wsX3_isLive := goodIn_r _ [66, 67, 133, 134, 135, 136, 137, 138, 139, 140, 141, 142, 143, 144, 145, 146] (by decide +kernel) (by decide +kernel)
set_option maxRecDepth 20000 in
theorem gL_agrees_X3_isLive : GoodIn wsL_agrees (wsV RL 49 RX3 yX3_isLive wsX3_isLive) := goodIn_app (goodIn_of _ (by decide +kernel)) ggL_agrees_X3_isLive
set_option maxRecDepth 20000 in
theorem ggL_agrees_X2_charged : GoodIn wsL_agrees wsX2_charged := goodIn_ca (goodIn_ca (goodIn_r _ [112, 84, 90, 91, 92, 4, 93, 94, 95, 82, 83, 21, 22, 23, 24, 25, 26, 18, 19, 20, 27, 28, 29, 30, 31, 32, 33, 34, 35, 36, 37, 38, 39, 40, 41, 42, 43, 73, 74, 75, 16, 17, 167, 168, 169, 170, 171, 172, 173, 147, 148, 149, 150, 151, 152, 153, 154, 155, 156, 157, 158, 159, 160] (by decide +kernel) (by decide +kernel)) (goodIn_sub (fun _ h => List.mem_cons_of_mem _ (List.mem_append_left _ (List.mem_append_right _ h))) (by decide +kernel))) (goodIn_sub (fun _ h => List.mem_cons_of_mem _ (List.mem_append_left _ (List.mem_append_left _ (List.mem_append_right _ h)))) (by decide +kernel))
set_option maxRecDepth 20000 in
theorem gL_agrees_X2_charged : GoodIn wsL_agrees (wsV RL 60 RX2 yX2_charged wsX2_charged) := goodIn_app (goodIn_of _ (by decide +kernel)) ggL_agrees_X2_charged
set_option maxRecDepth 20000 in
theorem ggL_agrees_X2_pageShare : GoodIn wsL_agrees wsX2_pageShare := goodIn_ca (goodIn_r _ [116, 117, 118, 119, 120, 121, 122, 4, 123, 82, 83, 21, 22, 23, 24, 25, 26, 27, 28, 29, 30, 31, 32, 33, 34, 35, 36, 37, 38, 39, 40, 41, 42, 43, 124, 125, 126, 105, 127, 128, 147, 148, 149, 150, 151, 152, 153, 154, 155, 156, 157, 158, 159, 160, 167, 168, 169, 170, 171, 172, 173] (by decide +kernel) (by decide +kernel)) (goodIn_sub (fun _ h => List.mem_cons_of_mem _ (List.mem_append_right _ h)) (by decide +kernel))
set_option maxRecDepth 20000 in
theorem gL_agrees_X2_pageShare : GoodIn wsL_agrees (wsV RL 70 RX2 yX2_pageShare wsX2_pageShare) := goodIn_app (goodIn_of _ (by decide +kernel)) ggL_agrees_X2_pageShare
set_option maxRecDepth 20000 in
theorem ggL_agrees_X2_meanCharge : GoodIn wsL_agrees wsX2_meanCharge := goodIn_ca (goodIn_r _ [132, 117, 118, 82, 21, 22, 23, 24, 25, 26, 120, 121, 122, 4, 123, 83, 27, 28, 29, 30, 31, 32, 33, 34, 35, 36, 37, 38, 39, 40, 41, 42, 43, 124, 125, 126, 105, 127, 128, 147, 148, 149, 150, 151, 152, 153, 154, 155, 156, 157, 158, 159, 160, 167, 168, 169, 170, 171, 172, 173] (by decide +kernel) (by decide +kernel)) (goodIn_sub (fun _ h => List.mem_cons_of_mem _ (List.mem_append_right _ h)) (by decide +kernel))
set_option maxRecDepth 20000 in
theorem gL_agrees_X2_meanCharge : GoodIn wsL_agrees (wsV RL 77 RX2 yX2_meanCharge wsX2_meanCharge) := goodIn_app (goodIn_of _ (by decide +kernel)) ggL_agrees_X2_meanCharge
theorem dL_agrees_0 : decode cL_agrees 0 = .ok (.aload_n 0, 1) := by decide +kernel
theorem dL_agrees_1 : decode cL_agrees 1 = .ok (.invokevirtual 9, 3) := by decide +kernel
theorem dL_agrees_4 : decode cL_agrees 4 = .ok (.aload_n 1, 1) := by decide +kernel
theorem dL_agrees_5 : decode cL_agrees 5 = .ok (.getfield 15, 3) := by decide +kernel
theorem dL_agrees_8 : decode cL_agrees 8 = .ok (.if_icmp .ne 22, 3) := by decide +kernel
theorem dL_agrees_11 : decode cL_agrees 11 = .ok (.aload_n 0, 1) := by decide +kernel
theorem dL_agrees_12 : decode cL_agrees 12 = .ok (.iconst 0, 1) := by decide +kernel
theorem dL_agrees_13 : decode cL_agrees 13 = .ok (.invokevirtual 20, 3) := by decide +kernel
theorem dL_agrees_16 : decode cL_agrees 16 = .ok (.bipush 12, 2) := by decide +kernel
theorem dL_agrees_18 : decode cL_agrees 18 = .ok (.aload_n 1, 1) := by decide +kernel
theorem dL_agrees_19 : decode cL_agrees 19 = .ok (.invokevirtual 24, 3) := by decide +kernel
theorem dL_agrees_22 : decode cL_agrees 22 = .ok (.isub, 1) := by decide +kernel
theorem dL_agrees_23 : decode cL_agrees 23 = .ok (.if_icmp .ne 7, 3) := by decide +kernel
theorem dL_agrees_26 : decode cL_agrees 26 = .ok (.iconst 1, 1) := by decide +kernel
theorem dL_agrees_27 : decode cL_agrees 27 = .ok (.goto 4, 3) := by decide +kernel
theorem dL_agrees_30 : decode cL_agrees 30 = .ok (.iconst 0, 1) := by decide +kernel
theorem dL_agrees_31 : decode cL_agrees 31 = .ok (.istore_n 2, 1) := by decide +kernel
theorem dL_agrees_32 : decode cL_agrees 32 = .ok (.iconst 0, 1) := by decide +kernel
theorem dL_agrees_33 : decode cL_agrees 33 = .ok (.istore_n 3, 1) := by decide +kernel
theorem dL_agrees_34 : decode cL_agrees 34 = .ok (.iload_n 3, 1) := by decide +kernel
theorem dL_agrees_35 : decode cL_agrees 35 = .ok (.iconst 4, 1) := by decide +kernel
theorem dL_agrees_36 : decode cL_agrees 36 = .ok (.if_icmp .ge 47, 3) := by decide +kernel
theorem dL_agrees_39 : decode cL_agrees 39 = .ok (.iload_n 2, 1) := by decide +kernel
theorem dL_agrees_40 : decode cL_agrees 40 = .ok (.ifCond .eq 43, 3) := by decide +kernel
theorem dL_agrees_43 : decode cL_agrees 43 = .ok (.aload_n 0, 1) := by decide +kernel
theorem dL_agrees_44 : decode cL_agrees 44 = .ok (.iload_n 3, 1) := by decide +kernel
theorem dL_agrees_45 : decode cL_agrees 45 = .ok (.invokevirtual 27, 3) := by decide +kernel
theorem dL_agrees_48 : decode cL_agrees 48 = .ok (.aload_n 1, 1) := by decide +kernel
theorem dL_agrees_49 : decode cL_agrees 49 = .ok (.getfield 30, 3) := by decide +kernel
theorem dL_agrees_52 : decode cL_agrees 52 = .ok (.iload_n 3, 1) := by decide +kernel
theorem dL_agrees_53 : decode cL_agrees 53 = .ok (.iaload, 1) := by decide +kernel
theorem dL_agrees_54 : decode cL_agrees 54 = .ok (.if_icmp .ne 21, 3) := by decide +kernel
theorem dL_agrees_57 : decode cL_agrees 57 = .ok (.aload_n 0, 1) := by decide +kernel
theorem dL_agrees_58 : decode cL_agrees 58 = .ok (.iload_n 3, 1) := by decide +kernel
theorem dL_agrees_59 : decode cL_agrees 59 = .ok (.invokevirtual 33, 3) := by decide +kernel
theorem dL_agrees_62 : decode cL_agrees 62 = .ok (.aload_n 1, 1) := by decide +kernel
theorem dL_agrees_63 : decode cL_agrees 63 = .ok (.getfield 30, 3) := by decide +kernel
theorem dL_agrees_66 : decode cL_agrees 66 = .ok (.iload_n 3, 1) := by decide +kernel
theorem dL_agrees_67 : decode cL_agrees 67 = .ok (.iaload, 1) := by decide +kernel
theorem dL_agrees_68 : decode cL_agrees 68 = .ok (.if_icmp .ne 7, 3) := by decide +kernel
theorem dL_agrees_71 : decode cL_agrees 71 = .ok (.iconst 1, 1) := by decide +kernel
theorem dL_agrees_72 : decode cL_agrees 72 = .ok (.goto 4, 3) := by decide +kernel
theorem dL_agrees_75 : decode cL_agrees 75 = .ok (.iconst 0, 1) := by decide +kernel
theorem dL_agrees_76 : decode cL_agrees 76 = .ok (.istore_n 2, 1) := by decide +kernel
theorem dL_agrees_77 : decode cL_agrees 77 = .ok (.iinc 3 1, 3) := by decide +kernel
theorem dL_agrees_80 : decode cL_agrees 80 = .ok (.goto (-46), 3) := by decide +kernel
theorem dL_agrees_83 : decode cL_agrees 83 = .ok (.iconst 0, 1) := by decide +kernel
theorem dL_agrees_84 : decode cL_agrees 84 = .ok (.istore_n 3, 1) := by decide +kernel
theorem dL_agrees_85 : decode cL_agrees 85 = .ok (.iload_n 3, 1) := by decide +kernel
theorem dL_agrees_86 : decode cL_agrees 86 = .ok (.aload_n 1, 1) := by decide +kernel
theorem dL_agrees_87 : decode cL_agrees 87 = .ok (.getfield 36, 3) := by decide +kernel
theorem dL_agrees_90 : decode cL_agrees 90 = .ok (.if_icmp .ge 124, 3) := by decide +kernel
theorem dL_agrees_93 : decode cL_agrees 93 = .ok (.iload_n 2, 1) := by decide +kernel
theorem dL_agrees_94 : decode cL_agrees 94 = .ok (.ifCond .eq 120, 3) := by decide +kernel
theorem dL_agrees_97 : decode cL_agrees 97 = .ok (.aload_n 0, 1) := by decide +kernel
theorem dL_agrees_98 : decode cL_agrees 98 = .ok (.iload_n 3, 1) := by decide +kernel
theorem dL_agrees_99 : decode cL_agrees 99 = .ok (.invokevirtual 39, 3) := by decide +kernel
theorem dL_agrees_102 : decode cL_agrees 102 = .ok (.aload_n 1, 1) := by decide +kernel
theorem dL_agrees_103 : decode cL_agrees 103 = .ok (.getfield 42, 3) := by decide +kernel
theorem dL_agrees_106 : decode cL_agrees 106 = .ok (.iload_n 3, 1) := by decide +kernel
theorem dL_agrees_107 : decode cL_agrees 107 = .ok (.iaload, 1) := by decide +kernel
theorem dL_agrees_108 : decode cL_agrees 108 = .ok (.if_icmp .ne 54, 3) := by decide +kernel
theorem dL_agrees_111 : decode cL_agrees 111 = .ok (.aload_n 0, 1) := by decide +kernel
theorem dL_agrees_112 : decode cL_agrees 112 = .ok (.iload_n 3, 1) := by decide +kernel
theorem dL_agrees_113 : decode cL_agrees 113 = .ok (.invokevirtual 45, 3) := by decide +kernel
theorem dL_agrees_116 : decode cL_agrees 116 = .ok (.aload_n 1, 1) := by decide +kernel
theorem dL_agrees_117 : decode cL_agrees 117 = .ok (.iload_n 3, 1) := by decide +kernel
theorem dL_agrees_118 : decode cL_agrees 118 = .ok (.invokevirtual 49, 3) := by decide +kernel
theorem dL_agrees_121 : decode cL_agrees 121 = .ok (.ifCond .ne 12, 3) := by decide +kernel
theorem dL_agrees_124 : decode cL_agrees 124 = .ok (.aload_n 1, 1) := by decide +kernel
theorem dL_agrees_125 : decode cL_agrees 125 = .ok (.getfield 53, 3) := by decide +kernel
theorem dL_agrees_128 : decode cL_agrees 128 = .ok (.iload_n 3, 1) := by decide +kernel
theorem dL_agrees_129 : decode cL_agrees 129 = .ok (.caload, 1) := by decide +kernel
theorem dL_agrees_130 : decode cL_agrees 130 = .ok (.goto 25, 3) := by decide +kernel
theorem dL_agrees_133 : decode cL_agrees 133 = .ok (.aload_n 1, 1) := by decide +kernel
theorem dL_agrees_134 : decode cL_agrees 134 = .ok (.getfield 42, 3) := by decide +kernel
theorem dL_agrees_137 : decode cL_agrees 137 = .ok (.iload_n 3, 1) := by decide +kernel
theorem dL_agrees_138 : decode cL_agrees 138 = .ok (.iaload, 1) := by decide +kernel
theorem dL_agrees_139 : decode cL_agrees 139 = .ok (.aload_n 1, 1) := by decide +kernel
theorem dL_agrees_140 : decode cL_agrees 140 = .ok (.getfield 57, 3) := by decide +kernel
theorem dL_agrees_143 : decode cL_agrees 143 = .ok (.iload_n 3, 1) := by decide +kernel
theorem dL_agrees_144 : decode cL_agrees 144 = .ok (.iaload, 1) := by decide +kernel
theorem dL_agrees_145 : decode cL_agrees 145 = .ok (.if_icmp .ne 8, 3) := by decide +kernel
theorem dL_agrees_148 : decode cL_agrees 148 = .ok (.bipush 97, 2) := by decide +kernel
theorem dL_agrees_150 : decode cL_agrees 150 = .ok (.goto 5, 3) := by decide +kernel
theorem dL_agrees_153 : decode cL_agrees 153 = .ok (.bipush 116, 2) := by decide +kernel
