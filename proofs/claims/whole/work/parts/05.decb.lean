theorem dX2_end_9 : decode cX2_end 9 = .ok (.dup, 1) := by decide +kernel
theorem dX2_end_10 : decode cX2_end 10 = .ok (.getfield 100, 3) := by decide +kernel
theorem dX2_end_13 : decode cX2_end 13 = .ok (.iconst 1, 1) := by decide +kernel
theorem dX2_end_14 : decode cX2_end 14 = .ok (.isub, 1) := by decide +kernel
theorem dX2_end_15 : decode cX2_end 15 = .ok (.putfield 100, 3) := by decide +kernel
theorem dX2_end_18 : decode cX2_end 18 = .ok (.aload_n 1, 1) := by decide +kernel
theorem dX2_end_19 : decode cX2_end 19 = .ok (.getfield 203, 3) := by decide +kernel
theorem dX2_end_22 : decode cX2_end 22 = .ok (.invokevirtual 97, 3) := by decide +kernel
theorem dX2_end_25 : decode cX2_end 25 = .ok (.return_, 1) := by decide +kernel
set_option maxRecDepth 20000 in
theorem ggX2_chargeLiveSessions_Jx4a65c_size_8abf5 : GoodIn wsX2_chargeLiveSessions wsJx4a65c_size_8abf5 := goodIn_r _ [7, 8, 76, 77, 78] (by decide +kernel) (by decide +kernel)
set_option maxRecDepth 20000 in
theorem gX2_chargeLiveSessions_Jx4a65c_size_8abf5 : GoodIn wsX2_chargeLiveSessions (wsV RX2 67 RJx4a65c yJx4a65c_size_8abf5 wsJx4a65c_size_8abf5) := goodIn_app (goodIn_of _ (by decide +kernel)) ggX2_chargeLiveSessions_Jx4a65c_size_8abf5
set_option maxRecDepth 20000 in
theorem ggX2_chargeLiveSessions_Jx4a65c_get_915e3 : GoodIn wsX2_chargeLiveSessions wsJx4a65c_get_915e3 := goodIn_r _ [12, 8, 13, 14, 15, 16, 17, 18, 19, 20, 21, 22, 23, 6, 24, 25, 76, 77, 78] (by decide +kernel) (by decide +kernel)
set_option maxRecDepth 20000 in
theorem gX2_chargeLiveSessions_Jx4a65c_get_915e3 : GoodIn wsX2_chargeLiveSessions (wsV RX2 114 RJx4a65c yJx4a65c_get_915e3 wsJx4a65c_get_915e3) := goodIn_app (goodIn_of _ (by decide +kernel)) ggX2_chargeLiveSessions_Jx4a65c_get_915e3
set_option maxRecDepth 20000 in
theorem ggX2_chargeLiveSessions_X1_isLive : GoodIn wsX2_chargeLiveSessions wsX1_isLive := goodIn_r _ [30, 31, 79, 80, 81, 82, 83, 84, 85] (by decide +kernel) (by decide +kernel)
set_option maxRecDepth 20000 in
theorem gX2_chargeLiveSessions_X1_isLive : GoodIn wsX2_chargeLiveSessions (wsV RX2 210 RX1 yX1_isLive wsX1_isLive) := goodIn_app (goodIn_of _ (by decide +kernel)) ggX2_chargeLiveSessions_X1_isLive
set_option maxRecDepth 20000 in
theorem ggX2_chargeLiveSessions_X2_afterOneMinute : GoodIn wsX2_chargeLiveSessions wsX2_afterOneMinute := goodIn_ca (goodIn_r _ [36, 37, 38, 39, 40, 41, 42, 43, 44, 45, 46, 47, 48, 49, 35, 50, 51, 65, 66, 67, 68, 69, 70, 71, 72, 73, 74, 75, 79, 80, 81, 82, 83, 84, 85, 86, 87, 88, 89, 90, 91] (by decide +kernel) (by decide +kernel)) (goodIn_sub (fun _ h => List.mem_cons_of_mem _ (List.mem_append_right _ h)) (by decide +kernel))
set_option maxRecDepth 20000 in
theorem gX2_chargeLiveSessions_X2_afterOneMinute : GoodIn wsX2_chargeLiveSessions (wsV RX2 276 RX2 yX2_afterOneMinute wsX2_afterOneMinute) := goodIn_app (goodIn_of _ (by decide +kernel)) ggX2_chargeLiveSessions_X2_afterOneMinute
set_option maxRecDepth 20000 in
theorem ggX2_chargeLiveSessions_X2_end : GoodIn wsX2_chargeLiveSessions wsX2_end := goodIn_r _ [55, 56, 40, 57, 58, 59, 60, 61, 62, 63, 64, 79, 80, 81, 82, 83, 84, 85, 86, 87, 88, 89, 90, 91] (by decide +kernel) (by decide +kernel)
set_option maxRecDepth 20000 in
theorem gX2_chargeLiveSessions_X2_end : GoodIn wsX2_chargeLiveSessions (wsV RX2 166 RX2 yX2_end wsX2_end) := goodIn_app (goodIn_of _ (by decide +kernel)) ggX2_chargeLiveSessions_X2_end
theorem dX2_chargeLiveSessions_0 : decode cX2_chargeLiveSessions 0 = .ok (.iconst 0, 1) := by decide +kernel
theorem dX2_chargeLiveSessions_1 : decode cX2_chargeLiveSessions 1 = .ok (.istore_n 1, 1) := by decide +kernel
theorem dX2_chargeLiveSessions_2 : decode cX2_chargeLiveSessions 2 = .ok (.iconst 0, 1) := by decide +kernel
theorem dX2_chargeLiveSessions_3 : decode cX2_chargeLiveSessions 3 = .ok (.istore_n 2, 1) := by decide +kernel
theorem dX2_chargeLiveSessions_4 : decode cX2_chargeLiveSessions 4 = .ok (.iload_n 2, 1) := by decide +kernel
theorem dX2_chargeLiveSessions_5 : decode cX2_chargeLiveSessions 5 = .ok (.aload_n 0, 1) := by decide +kernel
theorem dX2_chargeLiveSessions_6 : decode cX2_chargeLiveSessions 6 = .ok (.getfield 40, 3) := by decide +kernel
theorem dX2_chargeLiveSessions_9 : decode cX2_chargeLiveSessions 9 = .ok (.invokevirtual 67, 3) := by decide +kernel
theorem dX2_chargeLiveSessions_12 : decode cX2_chargeLiveSessions 12 = .ok (.if_icmp .ge 52, 3) := by decide +kernel
theorem dX2_chargeLiveSessions_15 : decode cX2_chargeLiveSessions 15 = .ok (.aload_n 0, 1) := by decide +kernel
theorem dX2_chargeLiveSessions_16 : decode cX2_chargeLiveSessions 16 = .ok (.getfield 40, 3) := by decide +kernel
theorem dX2_chargeLiveSessions_19 : decode cX2_chargeLiveSessions 19 = .ok (.iload_n 2, 1) := by decide +kernel
theorem dX2_chargeLiveSessions_20 : decode cX2_chargeLiveSessions 20 = .ok (.invokevirtual 114, 3) := by decide +kernel
theorem dX2_chargeLiveSessions_23 : decode cX2_chargeLiveSessions 23 = .ok (.checkcast 147, 3) := by decide +kernel
theorem dX2_chargeLiveSessions_26 : decode cX2_chargeLiveSessions 26 = .ok (.astore_n 3, 1) := by decide +kernel
theorem dX2_chargeLiveSessions_27 : decode cX2_chargeLiveSessions 27 = .ok (.aload_n 3, 1) := by decide +kernel
theorem dX2_chargeLiveSessions_28 : decode cX2_chargeLiveSessions 28 = .ok (.invokevirtual 210, 3) := by decide +kernel
theorem dX2_chargeLiveSessions_31 : decode cX2_chargeLiveSessions 31 = .ok (.ifCond .eq 27, 3) := by decide +kernel
theorem dX2_chargeLiveSessions_34 : decode cX2_chargeLiveSessions 34 = .ok (.aload_n 0, 1) := by decide +kernel
theorem dX2_chargeLiveSessions_35 : decode cX2_chargeLiveSessions 35 = .ok (.aload_n 3, 1) := by decide +kernel
theorem dX2_chargeLiveSessions_36 : decode cX2_chargeLiveSessions 36 = .ok (.invokevirtual 276, 3) := by decide +kernel
theorem dX2_chargeLiveSessions_39 : decode cX2_chargeLiveSessions 39 = .ok (.istore 4, 2) := by decide +kernel
theorem dX2_chargeLiveSessions_41 : decode cX2_chargeLiveSessions 41 = .ok (.iload 4, 2) := by decide +kernel
theorem dX2_chargeLiveSessions_43 : decode cX2_chargeLiveSessions 43 = .ok (.bipush 97, 2) := by decide +kernel
theorem dX2_chargeLiveSessions_45 : decode cX2_chargeLiveSessions 45 = .ok (.if_icmp .eq 13, 3) := by decide +kernel
theorem dX2_chargeLiveSessions_48 : decode cX2_chargeLiveSessions 48 = .ok (.aload_n 0, 1) := by decide +kernel
theorem dX2_chargeLiveSessions_49 : decode cX2_chargeLiveSessions 49 = .ok (.aload_n 3, 1) := by decide +kernel
theorem dX2_chargeLiveSessions_50 : decode cX2_chargeLiveSessions 50 = .ok (.iload 4, 2) := by decide +kernel
theorem dX2_chargeLiveSessions_52 : decode cX2_chargeLiveSessions 52 = .ok (.invokevirtual 166, 3) := by decide +kernel
theorem dX2_chargeLiveSessions_55 : decode cX2_chargeLiveSessions 55 = .ok (.iinc 1 1, 3) := by decide +kernel
theorem dX2_chargeLiveSessions_58 : decode cX2_chargeLiveSessions 58 = .ok (.iinc 2 1, 3) := by decide +kernel
theorem dX2_chargeLiveSessions_61 : decode cX2_chargeLiveSessions 61 = .ok (.goto (-57), 3) := by decide +kernel
theorem dX2_chargeLiveSessions_64 : decode cX2_chargeLiveSessions 64 = .ok (.iload_n 1, 1) := by decide +kernel
theorem dX2_chargeLiveSessions_65 : decode cX2_chargeLiveSessions 65 = .ok (.ireturn, 1) := by decide +kernel
set_option maxRecDepth 20000 in
theorem ggX2_afterOneMinute_X2_charge : GoodIn wsX2_afterOneMinute wsX2_charge := goodIn_ca (goodIn_r _ [15, 2, 3, 1, 16, 17, 18, 19, 20, 21, 22, 23, 24, 25, 26, 27, 28, 29, 30, 31, 32, 33, 34] (by decide +kernel) (by decide +kernel)) (goodIn_sub (fun _ h => List.mem_cons_of_mem _ (List.mem_append_right _ h)) (by decide +kernel))
set_option maxRecDepth 20000 in
theorem gX2_afterOneMinute_X2_charge : GoodIn wsX2_afterOneMinute (wsV RX2 199 RX2 yX2_charge wsX2_charge) := goodIn_app (goodIn_of _ (by decide +kernel)) ggX2_afterOneMinute_X2_charge
theorem dX2_afterOneMinute_0 : decode cX2_afterOneMinute 0 = .ok (.aload_n 0, 1) := by decide +kernel
theorem dX2_afterOneMinute_1 : decode cX2_afterOneMinute 1 = .ok (.getfield 22, 3) := by decide +kernel
theorem dX2_afterOneMinute_4 : decode cX2_afterOneMinute 4 = .ok (.aload_n 0, 1) := by decide +kernel
theorem dX2_afterOneMinute_5 : decode cX2_afterOneMinute 5 = .ok (.getfield 19, 3) := by decide +kernel
theorem dX2_afterOneMinute_8 : decode cX2_afterOneMinute 8 = .ok (.aload_n 1, 1) := by decide +kernel
theorem dX2_afterOneMinute_9 : decode cX2_afterOneMinute 9 = .ok (.getfield 179, 3) := by decide +kernel
theorem dX2_afterOneMinute_12 : decode cX2_afterOneMinute 12 = .ok (.iaload, 1) := by decide +kernel
theorem dX2_afterOneMinute_13 : decode cX2_afterOneMinute 13 = .ok (.iaload, 1) := by decide +kernel
theorem dX2_afterOneMinute_14 : decode cX2_afterOneMinute 14 = .ok (.iconst 1, 1) := by decide +kernel
theorem dX2_afterOneMinute_15 : decode cX2_afterOneMinute 15 = .ok (.if_icmp .ge 6, 3) := by decide +kernel
theorem dX2_afterOneMinute_18 : decode cX2_afterOneMinute 18 = .ok (.bipush 111, 2) := by decide +kernel
theorem dX2_afterOneMinute_20 : decode cX2_afterOneMinute 20 = .ok (.ireturn, 1) := by decide +kernel
theorem dX2_afterOneMinute_21 : decode cX2_afterOneMinute 21 = .ok (.aload_n 0, 1) := by decide +kernel
theorem dX2_afterOneMinute_22 : decode cX2_afterOneMinute 22 = .ok (.aload_n 1, 1) := by decide +kernel
theorem dX2_afterOneMinute_23 : decode cX2_afterOneMinute 23 = .ok (.iconst 1, 1) := by decide +kernel
theorem dX2_afterOneMinute_24 : decode cX2_afterOneMinute 24 = .ok (.invokevirtual 199, 3) := by decide +kernel
theorem dX2_afterOneMinute_27 : decode cX2_afterOneMinute 27 = .ok (.aload_n 1, 1) := by decide +kernel
theorem dX2_afterOneMinute_28 : decode cX2_afterOneMinute 28 = .ok (.getfield 203, 3) := by decide +kernel
theorem dX2_afterOneMinute_31 : decode cX2_afterOneMinute 31 = .ok (.getfield 215, 3) := by decide +kernel
theorem dX2_afterOneMinute_34 : decode cX2_afterOneMinute 34 = .ok (.istore_n 2, 1) := by decide +kernel
theorem dX2_afterOneMinute_35 : decode cX2_afterOneMinute 35 = .ok (.aload_n 0, 1) := by decide +kernel
theorem dX2_afterOneMinute_36 : decode cX2_afterOneMinute 36 = .ok (.getfield 43, 3) := by decide +kernel
theorem dX2_afterOneMinute_39 : decode cX2_afterOneMinute 39 = .ok (.aload_n 1, 1) := by decide +kernel
theorem dX2_afterOneMinute_40 : decode cX2_afterOneMinute 40 = .ok (.getfield 173, 3) := by decide +kernel
theorem dX2_afterOneMinute_43 : decode cX2_afterOneMinute 43 = .ok (.isub, 1) := by decide +kernel
theorem dX2_afterOneMinute_44 : decode cX2_afterOneMinute 44 = .ok (.aload_n 0, 1) := by decide +kernel
theorem dX2_afterOneMinute_45 : decode cX2_afterOneMinute 45 = .ok (.getfield 9, 3) := by decide +kernel
theorem dX2_afterOneMinute_48 : decode cX2_afterOneMinute 48 = .ok (.iload_n 2, 1) := by decide +kernel
theorem dX2_afterOneMinute_49 : decode cX2_afterOneMinute 49 = .ok (.iaload, 1) := by decide +kernel
theorem dX2_afterOneMinute_50 : decode cX2_afterOneMinute 50 = .ok (.if_icmp .lt 6, 3) := by decide +kernel
theorem dX2_afterOneMinute_53 : decode cX2_afterOneMinute 53 = .ok (.bipush 105, 2) := by decide +kernel
theorem dX2_afterOneMinute_55 : decode cX2_afterOneMinute 55 = .ok (.ireturn, 1) := by decide +kernel
theorem dX2_afterOneMinute_56 : decode cX2_afterOneMinute 56 = .ok (.aload_n 0, 1) := by decide +kernel
theorem dX2_afterOneMinute_57 : decode cX2_afterOneMinute 57 = .ok (.getfield 43, 3) := by decide +kernel
theorem dX2_afterOneMinute_60 : decode cX2_afterOneMinute 60 = .ok (.aload_n 1, 1) := by decide +kernel
theorem dX2_afterOneMinute_61 : decode cX2_afterOneMinute 61 = .ok (.getfield 218, 3) := by decide +kernel
theorem dX2_afterOneMinute_64 : decode cX2_afterOneMinute 64 = .ok (.isub, 1) := by decide +kernel
theorem dX2_afterOneMinute_65 : decode cX2_afterOneMinute 65 = .ok (.aload_n 0, 1) := by decide +kernel
theorem dX2_afterOneMinute_66 : decode cX2_afterOneMinute 66 = .ok (.getfield 13, 3) := by decide +kernel
theorem dX2_afterOneMinute_69 : decode cX2_afterOneMinute 69 = .ok (.iload_n 2, 1) := by decide +kernel
theorem dX2_afterOneMinute_70 : decode cX2_afterOneMinute 70 = .ok (.iaload, 1) := by decide +kernel
theorem dX2_afterOneMinute_71 : decode cX2_afterOneMinute 71 = .ok (.if_icmp .lt 6, 3) := by decide +kernel
theorem dX2_afterOneMinute_74 : decode cX2_afterOneMinute 74 = .ok (.bipush 120, 2) := by decide +kernel
theorem dX2_afterOneMinute_76 : decode cX2_afterOneMinute 76 = .ok (.ireturn, 1) := by decide +kernel
theorem dX2_afterOneMinute_77 : decode cX2_afterOneMinute 77 = .ok (.bipush 97, 2) := by decide +kernel
theorem dX2_afterOneMinute_79 : decode cX2_afterOneMinute 79 = .ok (.ireturn, 1) := by decide +kernel
set_option maxRecDepth 20000 in
theorem ggX2_chargedToAllSessions_Jx4a65c_size_8abf5 : GoodIn wsX2_chargedToAllSessions wsJx4a65c_size_8abf5 := goodIn_r _ [7, 8, 43, 44, 45] (by decide +kernel) (by decide +kernel)
set_option maxRecDepth 20000 in
theorem gX2_chargedToAllSessions_Jx4a65c_size_8abf5 : GoodIn wsX2_chargedToAllSessions (wsV RX2 67 RJx4a65c yJx4a65c_size_8abf5 wsJx4a65c_size_8abf5) := goodIn_app (goodIn_of _ (by decide +kernel)) ggX2_chargedToAllSessions_Jx4a65c_size_8abf5
set_option maxRecDepth 20000 in
theorem ggX2_chargedToAllSessions_Jx4a65c_get_915e3 : GoodIn wsX2_chargedToAllSessions wsJx4a65c_get_915e3 := goodIn_r _ [12, 8, 13, 14, 15, 16, 17, 18, 19, 20, 21, 22, 23, 6, 24, 25, 43, 44, 45] (by decide +kernel) (by decide +kernel)
set_option maxRecDepth 20000 in
theorem gX2_chargedToAllSessions_Jx4a65c_get_915e3 : GoodIn wsX2_chargedToAllSessions (wsV RX2 114 RJx4a65c yJx4a65c_get_915e3 wsJx4a65c_get_915e3) := goodIn_app (goodIn_of _ (by decide +kernel)) ggX2_chargedToAllSessions_Jx4a65c_get_915e3
set_option maxRecDepth 20000 in
theorem ggX2_chargedToAllSessions_X1_chargedInAll : GoodIn wsX2_chargedToAllSessions wsX1_chargedInAll := goodIn_ca (goodIn_r _ [30, 31, 46, 47, 48, 49, 50, 51, 52] (by decide +kernel) (by decide +kernel)) (goodIn_sub (fun _ h => List.mem_cons_of_mem _ (List.mem_append_right _ h)) (by decide +kernel))
set_option maxRecDepth 20000 in
theorem gX2_chargedToAllSessions_X1_chargedInAll : GoodIn wsX2_chargedToAllSessions (wsV RX2 170 RX1 yX1_chargedInAll wsX1_chargedInAll) := goodIn_app (goodIn_of _ (by decide +kernel)) ggX2_chargedToAllSessions_X1_chargedInAll
theorem dX2_chargedToAllSessions_0 : decode cX2_chargedToAllSessions 0 = .ok (.iconst 0, 1) := by decide +kernel
theorem dX2_chargedToAllSessions_1 : decode cX2_chargedToAllSessions 1 = .ok (.istore_n 1, 1) := by decide +kernel
theorem dX2_chargedToAllSessions_2 : decode cX2_chargedToAllSessions 2 = .ok (.iconst 0, 1) := by decide +kernel
theorem dX2_chargedToAllSessions_3 : decode cX2_chargedToAllSessions 3 = .ok (.istore_n 2, 1) := by decide +kernel
theorem dX2_chargedToAllSessions_4 : decode cX2_chargedToAllSessions 4 = .ok (.iload_n 2, 1) := by decide +kernel
theorem dX2_chargedToAllSessions_5 : decode cX2_chargedToAllSessions 5 = .ok (.aload_n 0, 1) := by decide +kernel
theorem dX2_chargedToAllSessions_6 : decode cX2_chargedToAllSessions 6 = .ok (.getfield 40, 3) := by decide +kernel
theorem dX2_chargedToAllSessions_9 : decode cX2_chargedToAllSessions 9 = .ok (.invokevirtual 67, 3) := by decide +kernel
theorem dX2_chargedToAllSessions_12 : decode cX2_chargedToAllSessions 12 = .ok (.if_icmp .ge 26, 3) := by decide +kernel
theorem dX2_chargedToAllSessions_15 : decode cX2_chargedToAllSessions 15 = .ok (.iload_n 1, 1) := by decide +kernel
theorem dX2_chargedToAllSessions_16 : decode cX2_chargedToAllSessions 16 = .ok (.aload_n 0, 1) := by decide +kernel
theorem dX2_chargedToAllSessions_17 : decode cX2_chargedToAllSessions 17 = .ok (.getfield 40, 3) := by decide +kernel
theorem dX2_chargedToAllSessions_20 : decode cX2_chargedToAllSessions 20 = .ok (.iload_n 2, 1) := by decide +kernel
theorem dX2_chargedToAllSessions_21 : decode cX2_chargedToAllSessions 21 = .ok (.invokevirtual 114, 3) := by decide +kernel
theorem dX2_chargedToAllSessions_24 : decode cX2_chargedToAllSessions 24 = .ok (.checkcast 147, 3) := by decide +kernel
theorem dX2_chargedToAllSessions_27 : decode cX2_chargedToAllSessions 27 = .ok (.invokevirtual 170, 3) := by decide +kernel
theorem dX2_chargedToAllSessions_30 : decode cX2_chargedToAllSessions 30 = .ok (.iadd, 1) := by decide +kernel
theorem dX2_chargedToAllSessions_31 : decode cX2_chargedToAllSessions 31 = .ok (.istore_n 1, 1) := by decide +kernel
theorem dX2_chargedToAllSessions_32 : decode cX2_chargedToAllSessions 32 = .ok (.iinc 2 1, 3) := by decide +kernel
theorem dX2_chargedToAllSessions_35 : decode cX2_chargedToAllSessions 35 = .ok (.goto (-31), 3) := by decide +kernel
theorem dX2_chargedToAllSessions_38 : decode cX2_chargedToAllSessions 38 = .ok (.iload_n 1, 1) := by decide +kernel
theorem dX2_chargedToAllSessions_39 : decode cX2_chargedToAllSessions 39 = .ok (.ireturn, 1) := by decide +kernel
theorem dX3_init_0 : decode cX3_init 0 = .ok (.aload_n 0, 1) := by decide +kernel
theorem dX3_init_1 : decode cX3_init 1 = .ok (.invokespecial 1, 3) := by decide +kernel
theorem dX3_init_4 : decode cX3_init 4 = .ok (.aload_n 0, 1) := by decide +kernel
theorem dX3_init_5 : decode cX3_init 5 = .ok (.iconst 3, 1) := by decide +kernel
theorem dX3_init_6 : decode cX3_init 6 = .ok (.newarray .int, 2) := by decide +kernel
theorem dX3_init_8 : decode cX3_init 8 = .ok (.dup, 1) := by decide +kernel
theorem dX3_init_9 : decode cX3_init 9 = .ok (.iconst 0, 1) := by decide +kernel
theorem dX3_init_10 : decode cX3_init 10 = .ok (.bipush 30, 2) := by decide +kernel
theorem dX3_init_12 : decode cX3_init 12 = .ok (.iastore, 1) := by decide +kernel
theorem dX3_init_13 : decode cX3_init 13 = .ok (.dup, 1) := by decide +kernel
theorem dX3_init_14 : decode cX3_init 14 = .ok (.iconst 1, 1) := by decide +kernel
theorem dX3_init_15 : decode cX3_init 15 = .ok (.bipush 30, 2) := by decide +kernel
theorem dX3_init_17 : decode cX3_init 17 = .ok (.iastore, 1) := by decide +kernel
theorem dX3_init_18 : decode cX3_init 18 = .ok (.dup, 1) := by decide +kernel
theorem dX3_init_19 : decode cX3_init 19 = .ok (.iconst 2, 1) := by decide +kernel
theorem dX3_init_20 : decode cX3_init 20 = .ok (.bipush 30, 2) := by decide +kernel
theorem dX3_init_22 : decode cX3_init 22 = .ok (.iastore, 1) := by decide +kernel
theorem dX3_init_23 : decode cX3_init 23 = .ok (.putfield 7, 3) := by decide +kernel
theorem dX3_init_26 : decode cX3_init 26 = .ok (.aload_n 0, 1) := by decide +kernel
theorem dX3_init_27 : decode cX3_init 27 = .ok (.iconst 3, 1) := by decide +kernel
theorem dX3_init_28 : decode cX3_init 28 = .ok (.newarray .int, 2) := by decide +kernel
theorem dX3_init_30 : decode cX3_init 30 = .ok (.dup, 1) := by decide +kernel
theorem dX3_init_31 : decode cX3_init 31 = .ok (.iconst 0, 1) := by decide +kernel
theorem dX3_init_32 : decode cX3_init 32 = .ok (.sipush 240, 3) := by decide +kernel
theorem dX3_init_35 : decode cX3_init 35 = .ok (.iastore, 1) := by decide +kernel
theorem dX3_init_36 : decode cX3_init 36 = .ok (.dup, 1) := by decide +kernel
theorem dX3_init_37 : decode cX3_init 37 = .ok (.iconst 1, 1) := by decide +kernel
theorem dX3_init_38 : decode cX3_init 38 = .ok (.sipush 240, 3) := by decide +kernel
theorem dX3_init_41 : decode cX3_init 41 = .ok (.iastore, 1) := by decide +kernel
theorem dX3_init_42 : decode cX3_init 42 = .ok (.dup, 1) := by decide +kernel
theorem dX3_init_43 : decode cX3_init 43 = .ok (.iconst 2, 1) := by decide +kernel
theorem dX3_init_44 : decode cX3_init 44 = .ok (.sipush 240, 3) := by decide +kernel
theorem dX3_init_47 : decode cX3_init 47 = .ok (.iastore, 1) := by decide +kernel
theorem dX3_init_48 : decode cX3_init 48 = .ok (.putfield 13, 3) := by decide +kernel
theorem dX3_init_51 : decode cX3_init 51 = .ok (.aload_n 0, 1) := by decide +kernel
theorem dX3_init_52 : decode cX3_init 52 = .ok (.bipush 6, 2) := by decide +kernel
theorem dX3_init_54 : decode cX3_init 54 = .ok (.newarray .int, 2) := by decide +kernel
theorem dX3_init_56 : decode cX3_init 56 = .ok (.putfield 16, 3) := by decide +kernel
theorem dX3_init_59 : decode cX3_init 59 = .ok (.aload_n 0, 1) := by decide +kernel
theorem dX3_init_60 : decode cX3_init 60 = .ok (.bipush 6, 2) := by decide +kernel
theorem dX3_init_62 : decode cX3_init 62 = .ok (.newarray .int, 2) := by decide +kernel
theorem dX3_init_64 : decode cX3_init 64 = .ok (.putfield 19, 3) := by decide +kernel
theorem dX3_init_67 : decode cX3_init 67 = .ok (.aload_n 0, 1) := by decide +kernel
theorem dX3_init_68 : decode cX3_init 68 = .ok (.bipush 6, 2) := by decide +kernel
theorem dX3_init_70 : decode cX3_init 70 = .ok (.newarray .int, 2) := by decide +kernel
theorem dX3_init_72 : decode cX3_init 72 = .ok (.putfield 22, 3) := by decide +kernel
theorem dX3_init_75 : decode cX3_init 75 = .ok (.aload_n 0, 1) := by decide +kernel
theorem dX3_init_76 : decode cX3_init 76 = .ok (.bipush 6, 2) := by decide +kernel
theorem dX3_init_78 : decode cX3_init 78 = .ok (.newarray .char, 2) := by decide +kernel
theorem dX3_init_80 : decode cX3_init 80 = .ok (.putfield 25, 3) := by decide +kernel
theorem dX3_init_83 : decode cX3_init 83 = .ok (.aload_n 0, 1) := by decide +kernel
theorem dX3_init_84 : decode cX3_init 84 = .ok (.iconst 4, 1) := by decide +kernel
theorem dX3_init_85 : decode cX3_init 85 = .ok (.newarray .int, 2) := by decide +kernel
theorem dX3_init_87 : decode cX3_init 87 = .ok (.putfield 29, 3) := by decide +kernel
theorem dX3_init_90 : decode cX3_init 90 = .ok (.aload_n 0, 1) := by decide +kernel
theorem dX3_init_91 : decode cX3_init 91 = .ok (.bipush 16, 2) := by decide +kernel
theorem dX3_init_93 : decode cX3_init 93 = .ok (.newarray .int, 2) := by decide +kernel
theorem dX3_init_95 : decode cX3_init 95 = .ok (.putfield 32, 3) := by decide +kernel
theorem dX3_init_98 : decode cX3_init 98 = .ok (.aload_n 0, 1) := by decide +kernel
theorem dX3_init_99 : decode cX3_init 99 = .ok (.bipush 10, 2) := by decide +kernel
theorem dX3_init_101 : decode cX3_init 101 = .ok (.newarray .int, 2) := by decide +kernel
theorem dX3_init_103 : decode cX3_init 103 = .ok (.putfield 35, 3) := by decide +kernel
theorem dX3_init_106 : decode cX3_init 106 = .ok (.aload_n 0, 1) := by decide +kernel
theorem dX3_init_107 : decode cX3_init 107 = .ok (.bipush 40, 2) := by decide +kernel
theorem dX3_init_109 : decode cX3_init 109 = .ok (.newarray .int, 2) := by decide +kernel
theorem dX3_init_111 : decode cX3_init 111 = .ok (.putfield 38, 3) := by decide +kernel
theorem dX3_init_114 : decode cX3_init 114 = .ok (.aload_n 0, 1) := by decide +kernel
theorem dX3_init_115 : decode cX3_init 115 = .ok (.bipush 40, 2) := by decide +kernel
theorem dX3_init_117 : decode cX3_init 117 = .ok (.newarray .int, 2) := by decide +kernel
theorem dX3_init_119 : decode cX3_init 119 = .ok (.putfield 41, 3) := by decide +kernel
theorem dX3_init_122 : decode cX3_init 122 = .ok (.aload_n 0, 1) := by decide +kernel
theorem dX3_init_123 : decode cX3_init 123 = .ok (.bipush 40, 2) := by decide +kernel
theorem dX3_init_125 : decode cX3_init 125 = .ok (.newarray .int, 2) := by decide +kernel
theorem dX3_init_127 : decode cX3_init 127 = .ok (.putfield 44, 3) := by decide +kernel
theorem dX3_init_130 : decode cX3_init 130 = .ok (.aload_n 0, 1) := by decide +kernel
theorem dX3_init_131 : decode cX3_init 131 = .ok (.bipush 40, 2) := by decide +kernel
theorem dX3_init_133 : decode cX3_init 133 = .ok (.newarray .int, 2) := by decide +kernel
theorem dX3_init_135 : decode cX3_init 135 = .ok (.putfield 47, 3) := by decide +kernel
theorem dX3_init_138 : decode cX3_init 138 = .ok (.aload_n 0, 1) := by decide +kernel
theorem dX3_init_139 : decode cX3_init 139 = .ok (.bipush 40, 2) := by decide +kernel
theorem dX3_init_141 : decode cX3_init 141 = .ok (.newarray .int, 2) := by decide +kernel
theorem dX3_init_143 : decode cX3_init 143 = .ok (.putfield 50, 3) := by decide +kernel
theorem dX3_init_146 : decode cX3_init 146 = .ok (.aload_n 0, 1) := by decide +kernel
theorem dX3_init_147 : decode cX3_init 147 = .ok (.sipush 160, 3) := by decide +kernel
theorem dX3_init_150 : decode cX3_init 150 = .ok (.newarray .int, 2) := by decide +kernel
theorem dX3_init_152 : decode cX3_init 152 = .ok (.putfield 53, 3) := by decide +kernel
theorem dX3_init_155 : decode cX3_init 155 = .ok (.aload_n 0, 1) := by decide +kernel
theorem dX3_init_156 : decode cX3_init 156 = .ok (.bipush 40, 2) := by decide +kernel
theorem dX3_init_158 : decode cX3_init 158 = .ok (.newarray .char, 2) := by decide +kernel
theorem dX3_init_160 : decode cX3_init 160 = .ok (.putfield 56, 3) := by decide +kernel
theorem dX3_init_163 : decode cX3_init 163 = .ok (.aload_n 0, 1) := by decide +kernel
theorem dX3_init_164 : decode cX3_init 164 = .ok (.iconst 3, 1) := by decide +kernel
theorem dX3_init_165 : decode cX3_init 165 = .ok (.newarray .int, 2) := by decide +kernel
theorem dX3_init_167 : decode cX3_init 167 = .ok (.putfield 59, 3) := by decide +kernel
theorem dX3_init_170 : decode cX3_init 170 = .ok (.return_, 1) := by decide +kernel
theorem dX3_thrown_0 : decode cX3_thrown 0 = .ok (.aload_n 0, 1) := by decide +kernel
theorem dX3_thrown_1 : decode cX3_thrown 1 = .ok (.getfield 62, 3) := by decide +kernel
theorem dX3_thrown_4 : decode cX3_thrown 4 = .ok (.ireturn, 1) := by decide +kernel
theorem dX3_in_0 : decode cX3_in 0 = .ok (.iload_n 0, 1) := by decide +kernel
theorem dX3_in_1 : decode cX3_in 1 = .ok (.iload_n 1, 1) := by decide +kernel
theorem dX3_in_2 : decode cX3_in 2 = .ok (.if_icmp .lt 12, 3) := by decide +kernel
theorem dX3_in_5 : decode cX3_in 5 = .ok (.iload_n 0, 1) := by decide +kernel
theorem dX3_in_6 : decode cX3_in 6 = .ok (.iload_n 2, 1) := by decide +kernel
theorem dX3_in_7 : decode cX3_in 7 = .ok (.if_icmp .gt 7, 3) := by decide +kernel
theorem dX3_in_10 : decode cX3_in 10 = .ok (.iconst 1, 1) := by decide +kernel
theorem dX3_in_11 : decode cX3_in 11 = .ok (.goto 4, 3) := by decide +kernel
theorem dX3_in_14 : decode cX3_in 14 = .ok (.iconst 0, 1) := by decide +kernel
theorem dX3_in_15 : decode cX3_in 15 = .ok (.ireturn, 1) := by decide +kernel
theorem dX3_goesOn_0 : decode cX3_goesOn 0 = .ok (.aload_n 0, 1) := by decide +kernel
theorem dX3_goesOn_1 : decode cX3_goesOn 1 = .ok (.iload_n 1, 1) := by decide +kernel
theorem dX3_goesOn_2 : decode cX3_goesOn 2 = .ok (.putfield 62, 3) := by decide +kernel
theorem dX3_goesOn_5 : decode cX3_goesOn 5 = .ok (.iload_n 1, 1) := by decide +kernel
theorem dX3_goesOn_6 : decode cX3_goesOn 6 = .ok (.ifCond .ne 7, 3) := by decide +kernel
theorem dX3_goesOn_9 : decode cX3_goesOn 9 = .ok (.iconst 1, 1) := by decide +kernel
theorem dX3_goesOn_10 : decode cX3_goesOn 10 = .ok (.goto 4, 3) := by decide +kernel
theorem dX3_goesOn_13 : decode cX3_goesOn 13 = .ok (.iconst 0, 1) := by decide +kernel
theorem dX3_goesOn_14 : decode cX3_goesOn 14 = .ok (.ireturn, 1) := by decide +kernel
set_option maxRecDepth 20000 in
theorem ggX3_isPool_X3_in : GoodIn wsX3_isPool wsX3_in := goodIn_r _ [4] (by decide +kernel) (by decide +kernel)
set_option maxRecDepth 20000 in
theorem gX3_isPool_X3_in : GoodIn wsX3_isPool (va_wsS RX3 66 yX3_in wsX3_in) := goodIn_app (goodIn_of _ (by decide +kernel)) ggX3_isPool_X3_in
theorem dX3_isPool_0 : decode cX3_isPool 0 = .ok (.iload_n 0, 1) := by decide +kernel
theorem dX3_isPool_1 : decode cX3_isPool 1 = .ok (.iconst 0, 1) := by decide +kernel
theorem dX3_isPool_2 : decode cX3_isPool 2 = .ok (.iconst 2, 1) := by decide +kernel
theorem dX3_isPool_3 : decode cX3_isPool 3 = .ok (.invokestatic 66, 3) := by decide +kernel
theorem dX3_isPool_6 : decode cX3_isPool 6 = .ok (.ireturn, 1) := by decide +kernel
set_option maxRecDepth 20000 in
theorem ggX3_isDepartment_X3_in : GoodIn wsX3_isDepartment wsX3_in := goodIn_r _ [4] (by decide +kernel) (by decide +kernel)
set_option maxRecDepth 20000 in
theorem gX3_isDepartment_X3_in : GoodIn wsX3_isDepartment (va_wsS RX3 66 yX3_in wsX3_in) := goodIn_app (goodIn_of _ (by decide +kernel)) ggX3_isDepartment_X3_in
theorem dX3_isDepartment_0 : decode cX3_isDepartment 0 = .ok (.iload_n 0, 1) := by decide +kernel
theorem dX3_isDepartment_1 : decode cX3_isDepartment 1 = .ok (.iconst 0, 1) := by decide +kernel
theorem dX3_isDepartment_2 : decode cX3_isDepartment 2 = .ok (.iconst 3, 1) := by decide +kernel
theorem dX3_isDepartment_3 : decode cX3_isDepartment 3 = .ok (.invokestatic 66, 3) := by decide +kernel
theorem dX3_isDepartment_6 : decode cX3_isDepartment 6 = .ok (.ireturn, 1) := by decide +kernel
set_option maxRecDepth 20000 in
theorem ggX3_isUser_X3_in : GoodIn wsX3_isUser wsX3_in := goodIn_r _ [4] (by decide +kernel) (by decide +kernel)
set_option maxRecDepth 20000 in
theorem gX3_isUser_X3_in : GoodIn wsX3_isUser (va_wsS RX3 66 yX3_in wsX3_in) := goodIn_app (goodIn_of _ (by decide +kernel)) ggX3_isUser_X3_in
theorem dX3_isUser_0 : decode cX3_isUser 0 = .ok (.iload_n 0, 1) := by decide +kernel
theorem dX3_isUser_1 : decode cX3_isUser 1 = .ok (.iconst 0, 1) := by decide +kernel
theorem dX3_isUser_2 : decode cX3_isUser 2 = .ok (.bipush 9, 2) := by decide +kernel
theorem dX3_isUser_4 : decode cX3_isUser 4 = .ok (.invokestatic 66, 3) := by decide +kernel
theorem dX3_isUser_7 : decode cX3_isUser 7 = .ok (.ireturn, 1) := by decide +kernel
set_option maxRecDepth 20000 in
theorem ggX3_isMachine_X3_in : GoodIn wsX3_isMachine wsX3_in := goodIn_r _ [5] (by decide +kernel) (by decide +kernel)
set_option maxRecDepth 20000 in
theorem gX3_isMachine_X3_in : GoodIn wsX3_isMachine (va_wsS RX3 66 yX3_in wsX3_in) := goodIn_app (goodIn_of _ (by decide +kernel)) ggX3_isMachine_X3_in
theorem dX3_isMachine_0 : decode cX3_isMachine 0 = .ok (.iload_n 1, 1) := by decide +kernel
theorem dX3_isMachine_1 : decode cX3_isMachine 1 = .ok (.iconst 0, 1) := by decide +kernel
theorem dX3_isMachine_2 : decode cX3_isMachine 2 = .ok (.aload_n 0, 1) := by decide +kernel
theorem dX3_isMachine_3 : decode cX3_isMachine 3 = .ok (.getfield 70, 3) := by decide +kernel
theorem dX3_isMachine_6 : decode cX3_isMachine 6 = .ok (.iconst 1, 1) := by decide +kernel
theorem dX3_isMachine_7 : decode cX3_isMachine 7 = .ok (.isub, 1) := by decide +kernel
theorem dX3_isMachine_8 : decode cX3_isMachine 8 = .ok (.invokestatic 66, 3) := by decide +kernel
theorem dX3_isMachine_11 : decode cX3_isMachine 11 = .ok (.ireturn, 1) := by decide +kernel
set_option maxRecDepth 20000 in
theorem ggX3_isSession_X3_in : GoodIn wsX3_isSession wsX3_in := goodIn_r _ [5] (by decide +kernel) (by decide +kernel)
set_option maxRecDepth 20000 in
theorem gX3_isSession_X3_in : GoodIn wsX3_isSession (va_wsS RX3 66 yX3_in wsX3_in) := goodIn_app (goodIn_of _ (by decide +kernel)) ggX3_isSession_X3_in
theorem dX3_isSession_0 : decode cX3_isSession 0 = .ok (.iload_n 1, 1) := by decide +kernel
theorem dX3_isSession_1 : decode cX3_isSession 1 = .ok (.iconst 0, 1) := by decide +kernel
theorem dX3_isSession_2 : decode cX3_isSession 2 = .ok (.aload_n 0, 1) := by decide +kernel
theorem dX3_isSession_3 : decode cX3_isSession 3 = .ok (.getfield 73, 3) := by decide +kernel
theorem dX3_isSession_6 : decode cX3_isSession 6 = .ok (.iconst 1, 1) := by decide +kernel
theorem dX3_isSession_7 : decode cX3_isSession 7 = .ok (.isub, 1) := by decide +kernel
theorem dX3_isSession_8 : decode cX3_isSession 8 = .ok (.invokestatic 66, 3) := by decide +kernel
theorem dX3_isSession_11 : decode cX3_isSession 11 = .ok (.ireturn, 1) := by decide +kernel
theorem dX3_isLive_0 : decode cX3_isLive 0 = .ok (.aload_n 0, 1) := by decide +kernel
theorem dX3_isLive_1 : decode cX3_isLive 1 = .ok (.getfield 56, 3) := by decide +kernel
theorem dX3_isLive_4 : decode cX3_isLive 4 = .ok (.iload_n 1, 1) := by decide +kernel
theorem dX3_isLive_5 : decode cX3_isLive 5 = .ok (.caload, 1) := by decide +kernel
theorem dX3_isLive_6 : decode cX3_isLive 6 = .ok (.ifCond .ne 7, 3) := by decide +kernel
theorem dX3_isLive_9 : decode cX3_isLive 9 = .ok (.iconst 1, 1) := by decide +kernel
theorem dX3_isLive_10 : decode cX3_isLive 10 = .ok (.goto 4, 3) := by decide +kernel
theorem dX3_isLive_13 : decode cX3_isLive 13 = .ok (.iconst 0, 1) := by decide +kernel
theorem dX3_isLive_14 : decode cX3_isLive 14 = .ok (.ireturn, 1) := by decide +kernel
set_option maxRecDepth 20000 in
theorem ggX3_liveOn_X3_isLive : GoodIn wsX3_liveOn wsX3_isLive := goodIn_ca (goodIn_r _ [7, 8, 9, 10, 11, 12, 13, 14, 15, 16, 17, 18, 19, 20, 21, 22, 23, 24, 25, 26, 27, 28, 29, 30, 31] (by decide +kernel) (by decide +kernel)) (goodIn_sub (fun _ h => List.mem_cons_of_mem _ (List.mem_append_right _ h)) (by decide +kernel))
set_option maxRecDepth 20000 in
theorem gX3_liveOn_X3_isLive : GoodIn wsX3_liveOn (wsV RX3 76 RX3 yX3_isLive wsX3_isLive) := goodIn_app (goodIn_of _ (by decide +kernel)) ggX3_liveOn_X3_isLive
theorem dX3_liveOn_0 : decode cX3_liveOn 0 = .ok (.iconst 0, 1) := by decide +kernel
theorem dX3_liveOn_1 : decode cX3_liveOn 1 = .ok (.istore_n 2, 1) := by decide +kernel
theorem dX3_liveOn_2 : decode cX3_liveOn 2 = .ok (.iconst 0, 1) := by decide +kernel
theorem dX3_liveOn_3 : decode cX3_liveOn 3 = .ok (.istore_n 3, 1) := by decide +kernel
theorem dX3_liveOn_4 : decode cX3_liveOn 4 = .ok (.iload_n 3, 1) := by decide +kernel
theorem dX3_liveOn_5 : decode cX3_liveOn 5 = .ok (.aload_n 0, 1) := by decide +kernel
theorem dX3_liveOn_6 : decode cX3_liveOn 6 = .ok (.getfield 73, 3) := by decide +kernel
theorem dX3_liveOn_9 : decode cX3_liveOn 9 = .ok (.if_icmp .ge 35, 3) := by decide +kernel
theorem dX3_liveOn_12 : decode cX3_liveOn 12 = .ok (.iload_n 2, 1) := by decide +kernel
theorem dX3_liveOn_13 : decode cX3_liveOn 13 = .ok (.aload_n 0, 1) := by decide +kernel
theorem dX3_liveOn_14 : decode cX3_liveOn 14 = .ok (.iload_n 3, 1) := by decide +kernel
theorem dX3_liveOn_15 : decode cX3_liveOn 15 = .ok (.invokevirtual 76, 3) := by decide +kernel
theorem dX3_liveOn_18 : decode cX3_liveOn 18 = .ok (.ifCond .eq 17, 3) := by decide +kernel
theorem dX3_liveOn_21 : decode cX3_liveOn 21 = .ok (.aload_n 0, 1) := by decide +kernel
theorem dX3_liveOn_22 : decode cX3_liveOn 22 = .ok (.getfield 44, 3) := by decide +kernel
theorem dX3_liveOn_25 : decode cX3_liveOn 25 = .ok (.iload_n 3, 1) := by decide +kernel
theorem dX3_liveOn_26 : decode cX3_liveOn 26 = .ok (.iaload, 1) := by decide +kernel
theorem dX3_liveOn_27 : decode cX3_liveOn 27 = .ok (.iload_n 1, 1) := by decide +kernel
theorem dX3_liveOn_28 : decode cX3_liveOn 28 = .ok (.if_icmp .ne 7, 3) := by decide +kernel
theorem dX3_liveOn_31 : decode cX3_liveOn 31 = .ok (.iconst 1, 1) := by decide +kernel
theorem dX3_liveOn_32 : decode cX3_liveOn 32 = .ok (.goto 4, 3) := by decide +kernel
theorem dX3_liveOn_35 : decode cX3_liveOn 35 = .ok (.iconst 0, 1) := by decide +kernel
theorem dX3_liveOn_36 : decode cX3_liveOn 36 = .ok (.iadd, 1) := by decide +kernel
theorem dX3_liveOn_37 : decode cX3_liveOn 37 = .ok (.istore_n 2, 1) := by decide +kernel
theorem dX3_liveOn_38 : decode cX3_liveOn 38 = .ok (.iinc 3 1, 3) := by decide +kernel
theorem dX3_liveOn_41 : decode cX3_liveOn 41 = .ok (.goto (-37), 3) := by decide +kernel
theorem dX3_liveOn_44 : decode cX3_liveOn 44 = .ok (.iload_n 2, 1) := by decide +kernel
theorem dX3_liveOn_45 : decode cX3_liveOn 45 = .ok (.ireturn, 1) := by decide +kernel
set_option maxRecDepth 20000 in
theorem ggX3_addMachine_X3_isPool : GoodIn wsX3_addMachine wsX3_isPool := goodIn_r _ [9, 10, 11, 8, 12] (by decide +kernel) (by decide +kernel)
set_option maxRecDepth 20000 in
theorem gX3_addMachine_X3_isPool : GoodIn wsX3_addMachine (va_wsS RX3 80 yX3_isPool wsX3_isPool) := goodIn_app (goodIn_of _ (by decide +kernel)) ggX3_addMachine_X3_isPool
set_option maxRecDepth 20000 in
theorem ggX3_addMachine_X3_in : GoodIn wsX3_addMachine wsX3_in := goodIn_r _ [12] (by decide +kernel) (by decide +kernel)
set_option maxRecDepth 20000 in
theorem gX3_addMachine_X3_in : GoodIn wsX3_addMachine (va_wsS RX3 66 yX3_in wsX3_in) := goodIn_app (goodIn_of _ (by decide +kernel)) ggX3_addMachine_X3_in
set_option maxRecDepth 20000 in
theorem ggX3_addMachine_X3_goesOn : GoodIn wsX3_addMachine wsX3_goesOn := goodIn_r _ [16, 17, 18, 19, 20, 21, 22, 23, 24, 25, 26, 27, 28, 29, 30, 31, 32, 33, 34, 35, 36, 37, 38, 39, 40] (by decide +kernel) (by decide +kernel)
set_option maxRecDepth 20000 in
theorem gX3_addMachine_X3_goesOn : GoodIn wsX3_addMachine (wsV RX3 83 RX3 yX3_goesOn wsX3_goesOn) := goodIn_app (goodIn_of _ (by decide +kernel)) ggX3_addMachine_X3_goesOn
theorem dX3_addMachine_0 : decode cX3_addMachine 0 = .ok (.aload_n 0, 1) := by decide +kernel
theorem dX3_addMachine_1 : decode cX3_addMachine 1 = .ok (.iload_n 1, 1) := by decide +kernel
theorem dX3_addMachine_2 : decode cX3_addMachine 2 = .ok (.invokestatic 80, 3) := by decide +kernel
theorem dX3_addMachine_5 : decode cX3_addMachine 5 = .ok (.ifCond .eq 21, 3) := by decide +kernel
theorem dX3_addMachine_8 : decode cX3_addMachine 8 = .ok (.iload_n 2, 1) := by decide +kernel
theorem dX3_addMachine_9 : decode cX3_addMachine 9 = .ok (.iconst 0, 1) := by decide +kernel
theorem dX3_addMachine_10 : decode cX3_addMachine 10 = .ok (.iconst 2, 1) := by decide +kernel
theorem dX3_addMachine_11 : decode cX3_addMachine 11 = .ok (.invokestatic 66, 3) := by decide +kernel
theorem dX3_addMachine_14 : decode cX3_addMachine 14 = .ok (.ifCond .eq 12, 3) := by decide +kernel
theorem dX3_addMachine_17 : decode cX3_addMachine 17 = .ok (.iload_n 3, 1) := by decide +kernel
theorem dX3_addMachine_18 : decode cX3_addMachine 18 = .ok (.iconst 1, 1) := by decide +kernel
theorem dX3_addMachine_19 : decode cX3_addMachine 19 = .ok (.iconst 4, 1) := by decide +kernel
theorem dX3_addMachine_20 : decode cX3_addMachine 20 = .ok (.invokestatic 66, 3) := by decide +kernel
theorem dX3_addMachine_23 : decode cX3_addMachine 23 = .ok (.ifCond .ne 7, 3) := by decide +kernel
theorem dX3_addMachine_26 : decode cX3_addMachine 26 = .ok (.iconst 1, 1) := by decide +kernel
theorem dX3_addMachine_27 : decode cX3_addMachine 27 = .ok (.goto 17, 3) := by decide +kernel
theorem dX3_addMachine_30 : decode cX3_addMachine 30 = .ok (.aload_n 0, 1) := by decide +kernel
theorem dX3_addMachine_31 : decode cX3_addMachine 31 = .ok (.getfield 70, 3) := by decide +kernel
theorem dX3_addMachine_34 : decode cX3_addMachine 34 = .ok (.bipush 6, 2) := by decide +kernel
theorem dX3_addMachine_36 : decode cX3_addMachine 36 = .ok (.if_icmp .ne 7, 3) := by decide +kernel
theorem dX3_addMachine_39 : decode cX3_addMachine 39 = .ok (.iconst 2, 1) := by decide +kernel
theorem dX3_addMachine_40 : decode cX3_addMachine 40 = .ok (.goto 4, 3) := by decide +kernel
theorem dX3_addMachine_43 : decode cX3_addMachine 43 = .ok (.iconst 0, 1) := by decide +kernel
theorem dX3_addMachine_44 : decode cX3_addMachine 44 = .ok (.invokevirtual 83, 3) := by decide +kernel
theorem dX3_addMachine_47 : decode cX3_addMachine 47 = .ok (.ifCond .ne 5, 3) := by decide +kernel
theorem dX3_addMachine_50 : decode cX3_addMachine 50 = .ok (.iconst 0, 1) := by decide +kernel
theorem dX3_addMachine_51 : decode cX3_addMachine 51 = .ok (.ireturn, 1) := by decide +kernel
theorem dX3_addMachine_52 : decode cX3_addMachine 52 = .ok (.aload_n 0, 1) := by decide +kernel
theorem dX3_addMachine_53 : decode cX3_addMachine 53 = .ok (.getfield 16, 3) := by decide +kernel
theorem dX3_addMachine_56 : decode cX3_addMachine 56 = .ok (.aload_n 0, 1) := by decide +kernel
theorem dX3_addMachine_57 : decode cX3_addMachine 57 = .ok (.getfield 70, 3) := by decide +kernel
theorem dX3_addMachine_60 : decode cX3_addMachine 60 = .ok (.iload_n 1, 1) := by decide +kernel
theorem dX3_addMachine_61 : decode cX3_addMachine 61 = .ok (.iastore, 1) := by decide +kernel
theorem dX3_addMachine_62 : decode cX3_addMachine 62 = .ok (.aload_n 0, 1) := by decide +kernel
theorem dX3_addMachine_63 : decode cX3_addMachine 63 = .ok (.getfield 19, 3) := by decide +kernel
theorem dX3_addMachine_66 : decode cX3_addMachine 66 = .ok (.aload_n 0, 1) := by decide +kernel
theorem dX3_addMachine_67 : decode cX3_addMachine 67 = .ok (.getfield 70, 3) := by decide +kernel
theorem dX3_addMachine_70 : decode cX3_addMachine 70 = .ok (.iload_n 2, 1) := by decide +kernel
theorem dX3_addMachine_71 : decode cX3_addMachine 71 = .ok (.iastore, 1) := by decide +kernel
theorem dX3_addMachine_72 : decode cX3_addMachine 72 = .ok (.aload_n 0, 1) := by decide +kernel
theorem dX3_addMachine_73 : decode cX3_addMachine 73 = .ok (.getfield 22, 3) := by decide +kernel
theorem dX3_addMachine_76 : decode cX3_addMachine 76 = .ok (.aload_n 0, 1) := by decide +kernel
theorem dX3_addMachine_77 : decode cX3_addMachine 77 = .ok (.getfield 70, 3) := by decide +kernel
theorem dX3_addMachine_80 : decode cX3_addMachine 80 = .ok (.iload_n 3, 1) := by decide +kernel
theorem dX3_addMachine_81 : decode cX3_addMachine 81 = .ok (.iastore, 1) := by decide +kernel
theorem dX3_addMachine_82 : decode cX3_addMachine 82 = .ok (.aload_n 0, 1) := by decide +kernel
theorem dX3_addMachine_83 : decode cX3_addMachine 83 = .ok (.getfield 25, 3) := by decide +kernel
theorem dX3_addMachine_86 : decode cX3_addMachine 86 = .ok (.aload_n 0, 1) := by decide +kernel
theorem dX3_addMachine_87 : decode cX3_addMachine 87 = .ok (.getfield 70, 3) := by decide +kernel
theorem dX3_addMachine_90 : decode cX3_addMachine 90 = .ok (.bipush 117, 2) := by decide +kernel
theorem dX3_addMachine_92 : decode cX3_addMachine 92 = .ok (.castore, 1) := by decide +kernel
theorem dX3_addMachine_93 : decode cX3_addMachine 93 = .ok (.aload_n 0, 1) := by decide +kernel
theorem dX3_addMachine_94 : decode cX3_addMachine 94 = .ok (.dup, 1) := by decide +kernel
theorem dX3_addMachine_95 : decode cX3_addMachine 95 = .ok (.getfield 70, 3) := by decide +kernel
theorem dX3_addMachine_98 : decode cX3_addMachine 98 = .ok (.iconst 1, 1) := by decide +kernel
theorem dX3_addMachine_99 : decode cX3_addMachine 99 = .ok (.iadd, 1) := by decide +kernel
theorem dX3_addMachine_100 : decode cX3_addMachine 100 = .ok (.putfield 70, 3) := by decide +kernel
theorem dX3_addMachine_103 : decode cX3_addMachine 103 = .ok (.aload_n 0, 1) := by decide +kernel
theorem dX3_addMachine_104 : decode cX3_addMachine 104 = .ok (.getfield 70, 3) := by decide +kernel
theorem dX3_addMachine_107 : decode cX3_addMachine 107 = .ok (.iconst 1, 1) := by decide +kernel
theorem dX3_addMachine_108 : decode cX3_addMachine 108 = .ok (.isub, 1) := by decide +kernel
theorem dX3_addMachine_109 : decode cX3_addMachine 109 = .ok (.ireturn, 1) := by decide +kernel
set_option maxRecDepth 20000 in
theorem ggX3_setLimits_X3_isPool : GoodIn wsX3_setLimits wsX3_isPool := goodIn_r _ [6, 7, 8, 5, 9] (by decide +kernel) (by decide +kernel)
set_option maxRecDepth 20000 in
theorem gX3_setLimits_X3_isPool : GoodIn wsX3_setLimits (va_wsS RX3 80 yX3_isPool wsX3_isPool) := goodIn_app (goodIn_of _ (by decide +kernel)) ggX3_setLimits_X3_isPool
set_option maxRecDepth 20000 in
theorem ggX3_setLimits_X3_in : GoodIn wsX3_setLimits wsX3_in := goodIn_r _ [9] (by decide +kernel) (by decide +kernel)
set_option maxRecDepth 20000 in
theorem gX3_setLimits_X3_in : GoodIn wsX3_setLimits (va_wsS RX3 66 yX3_in wsX3_in) := goodIn_app (goodIn_of _ (by decide +kernel)) ggX3_setLimits_X3_in
set_option maxRecDepth 20000 in
theorem ggX3_setLimits_X3_goesOn : GoodIn wsX3_setLimits wsX3_goesOn := goodIn_r _ [13, 14, 15, 16, 17, 18, 19, 20, 21, 22, 23, 24, 25, 26, 27, 28, 29, 30, 31, 32, 33, 34, 35, 36, 37] (by decide +kernel) (by decide +kernel)
set_option maxRecDepth 20000 in
theorem gX3_setLimits_X3_goesOn : GoodIn wsX3_setLimits (wsV RX3 83 RX3 yX3_goesOn wsX3_goesOn) := goodIn_app (goodIn_of _ (by decide +kernel)) ggX3_setLimits_X3_goesOn
theorem dX3_setLimits_0 : decode cX3_setLimits 0 = .ok (.aload_n 0, 1) := by decide +kernel
theorem dX3_setLimits_1 : decode cX3_setLimits 1 = .ok (.iload_n 1, 1) := by decide +kernel
theorem dX3_setLimits_2 : decode cX3_setLimits 2 = .ok (.invokestatic 80, 3) := by decide +kernel
theorem dX3_setLimits_5 : decode cX3_setLimits 5 = .ok (.ifCond .eq 25, 3) := by decide +kernel
theorem dX3_setLimits_8 : decode cX3_setLimits 8 = .ok (.iload_n 2, 1) := by decide +kernel
theorem dX3_setLimits_9 : decode cX3_setLimits 9 = .ok (.iconst 1, 1) := by decide +kernel
theorem dX3_setLimits_10 : decode cX3_setLimits 10 = .ok (.sipush 999, 3) := by decide +kernel
theorem dX3_setLimits_13 : decode cX3_setLimits 13 = .ok (.invokestatic 66, 3) := by decide +kernel
theorem dX3_setLimits_16 : decode cX3_setLimits 16 = .ok (.ifCond .eq 14, 3) := by decide +kernel
theorem dX3_setLimits_19 : decode cX3_setLimits 19 = .ok (.iload_n 3, 1) := by decide +kernel
theorem dX3_setLimits_20 : decode cX3_setLimits 20 = .ok (.iconst 1, 1) := by decide +kernel
theorem dX3_setLimits_21 : decode cX3_setLimits 21 = .ok (.sipush 999, 3) := by decide +kernel
theorem dX3_setLimits_24 : decode cX3_setLimits 24 = .ok (.invokestatic 66, 3) := by decide +kernel
theorem dX3_setLimits_27 : decode cX3_setLimits 27 = .ok (.ifCond .ne 7, 3) := by decide +kernel
theorem dX3_setLimits_30 : decode cX3_setLimits 30 = .ok (.iconst 1, 1) := by decide +kernel
theorem dX3_setLimits_31 : decode cX3_setLimits 31 = .ok (.goto 4, 3) := by decide +kernel
theorem dX3_setLimits_34 : decode cX3_setLimits 34 = .ok (.iconst 0, 1) := by decide +kernel
theorem dX3_setLimits_35 : decode cX3_setLimits 35 = .ok (.invokevirtual 83, 3) := by decide +kernel
theorem dX3_setLimits_38 : decode cX3_setLimits 38 = .ok (.ifCond .ne 5, 3) := by decide +kernel
theorem dX3_setLimits_41 : decode cX3_setLimits 41 = .ok (.iconst 0, 1) := by decide +kernel
theorem dX3_setLimits_42 : decode cX3_setLimits 42 = .ok (.ireturn, 1) := by decide +kernel
theorem dX3_setLimits_43 : decode cX3_setLimits 43 = .ok (.aload_n 0, 1) := by decide +kernel
theorem dX3_setLimits_44 : decode cX3_setLimits 44 = .ok (.getfield 7, 3) := by decide +kernel
theorem dX3_setLimits_47 : decode cX3_setLimits 47 = .ok (.iload_n 1, 1) := by decide +kernel
theorem dX3_setLimits_48 : decode cX3_setLimits 48 = .ok (.iaload, 1) := by decide +kernel
theorem dX3_setLimits_49 : decode cX3_setLimits 49 = .ok (.istore 4, 2) := by decide +kernel
theorem dX3_setLimits_51 : decode cX3_setLimits 51 = .ok (.aload_n 0, 1) := by decide +kernel
theorem dX3_setLimits_52 : decode cX3_setLimits 52 = .ok (.getfield 7, 3) := by decide +kernel
theorem dX3_setLimits_55 : decode cX3_setLimits 55 = .ok (.iload_n 1, 1) := by decide +kernel
theorem dX3_setLimits_56 : decode cX3_setLimits 56 = .ok (.iload_n 2, 1) := by decide +kernel
theorem dX3_setLimits_57 : decode cX3_setLimits 57 = .ok (.iastore, 1) := by decide +kernel
theorem dX3_setLimits_58 : decode cX3_setLimits 58 = .ok (.aload_n 0, 1) := by decide +kernel
theorem dX3_setLimits_59 : decode cX3_setLimits 59 = .ok (.getfield 13, 3) := by decide +kernel
theorem dX3_setLimits_62 : decode cX3_setLimits 62 = .ok (.iload_n 1, 1) := by decide +kernel
theorem dX3_setLimits_63 : decode cX3_setLimits 63 = .ok (.iload_n 3, 1) := by decide +kernel
theorem dX3_setLimits_64 : decode cX3_setLimits 64 = .ok (.iastore, 1) := by decide +kernel
theorem dX3_setLimits_65 : decode cX3_setLimits 65 = .ok (.iload 4, 2) := by decide +kernel
theorem dX3_setLimits_67 : decode cX3_setLimits 67 = .ok (.ireturn, 1) := by decide +kernel
set_option maxRecDepth 20000 in
theorem ggX3_empties_X3_liveOn : GoodIn wsX3_empties wsX3_liveOn := goodIn_ca (goodIn_r _ [7, 8, 9, 10, 11, 12, 6, 13, 14, 15, 16, 17, 18, 19, 20, 21, 22, 23, 24, 25, 26, 27, 28, 29, 30, 31, 32, 33, 34, 35, 36, 37] (by decide +kernel) (by decide +kernel)) (goodIn_sub (fun _ h => List.mem_cons_of_mem _ (List.mem_append_right _ h)) (by decide +kernel))
set_option maxRecDepth 20000 in
theorem gX3_empties_X3_liveOn : GoodIn wsX3_empties (wsV RX3 86 RX3 yX3_liveOn wsX3_liveOn) := goodIn_app (goodIn_of _ (by decide +kernel)) ggX3_empties_X3_liveOn
theorem dX3_empties_0 : decode cX3_empties 0 = .ok (.iconst 0, 1) := by decide +kernel
theorem dX3_empties_1 : decode cX3_empties 1 = .ok (.istore_n 1, 1) := by decide +kernel
theorem dX3_empties_2 : decode cX3_empties 2 = .ok (.iload_n 1, 1) := by decide +kernel
theorem dX3_empties_3 : decode cX3_empties 3 = .ok (.aload_n 0, 1) := by decide +kernel
theorem dX3_empties_4 : decode cX3_empties 4 = .ok (.getfield 70, 3) := by decide +kernel
theorem dX3_empties_7 : decode cX3_empties 7 = .ok (.if_icmp .ge 45, 3) := by decide +kernel
theorem dX3_empties_10 : decode cX3_empties 10 = .ok (.aload_n 0, 1) := by decide +kernel
theorem dX3_empties_11 : decode cX3_empties 11 = .ok (.getfield 25, 3) := by decide +kernel
theorem dX3_empties_14 : decode cX3_empties 14 = .ok (.iload_n 1, 1) := by decide +kernel
theorem dX3_empties_15 : decode cX3_empties 15 = .ok (.aload_n 0, 1) := by decide +kernel
theorem dX3_empties_16 : decode cX3_empties 16 = .ok (.getfield 25, 3) := by decide +kernel
theorem dX3_empties_19 : decode cX3_empties 19 = .ok (.iload_n 1, 1) := by decide +kernel
theorem dX3_empties_20 : decode cX3_empties 20 = .ok (.caload, 1) := by decide +kernel
theorem dX3_empties_21 : decode cX3_empties 21 = .ok (.bipush 103, 2) := by decide +kernel
theorem dX3_empties_23 : decode cX3_empties 23 = .ok (.if_icmp .ne 16, 3) := by decide +kernel
theorem dX3_empties_26 : decode cX3_empties 26 = .ok (.aload_n 0, 1) := by decide +kernel
theorem dX3_empties_27 : decode cX3_empties 27 = .ok (.iload_n 1, 1) := by decide +kernel
theorem dX3_empties_28 : decode cX3_empties 28 = .ok (.invokevirtual 86, 3) := by decide +kernel
theorem dX3_empties_31 : decode cX3_empties 31 = .ok (.ifCond .ne 8, 3) := by decide +kernel
theorem dX3_empties_34 : decode cX3_empties 34 = .ok (.bipush 109, 2) := by decide +kernel
theorem dX3_empties_36 : decode cX3_empties 36 = .ok (.goto 9, 3) := by decide +kernel
theorem dX3_empties_39 : decode cX3_empties 39 = .ok (.aload_n 0, 1) := by decide +kernel
theorem dX3_empties_40 : decode cX3_empties 40 = .ok (.getfield 25, 3) := by decide +kernel
theorem dX3_empties_43 : decode cX3_empties 43 = .ok (.iload_n 1, 1) := by decide +kernel
theorem dX3_empties_44 : decode cX3_empties 44 = .ok (.caload, 1) := by decide +kernel
theorem dX3_empties_45 : decode cX3_empties 45 = .ok (.castore, 1) := by decide +kernel
theorem dX3_empties_46 : decode cX3_empties 46 = .ok (.iinc 1 1, 3) := by decide +kernel
theorem dX3_empties_49 : decode cX3_empties 49 = .ok (.goto (-47), 3) := by decide +kernel
theorem dX3_empties_52 : decode cX3_empties 52 = .ok (.return_, 1) := by decide +kernel
set_option maxRecDepth 20000 in
theorem ggX3_drain_X3_isMachine : GoodIn wsX3_drain wsX3_isMachine := goodIn_r _ [6, 7, 8, 9, 5, 10, 31, 32, 33, 34, 35, 36, 37, 38, 39, 40, 41, 42, 43, 44, 45, 46, 47, 48, 49, 50, 51, 52, 53] (by decide +kernel) (by decide +kernel)
set_option maxRecDepth 20000 in
theorem gX3_drain_X3_isMachine : GoodIn wsX3_drain (wsV RX3 90 RX3 yX3_isMachine wsX3_isMachine) := goodIn_app (goodIn_of _ (by decide +kernel)) ggX3_drain_X3_isMachine
set_option maxRecDepth 20000 in
theorem ggX3_drain_X3_goesOn : GoodIn wsX3_drain wsX3_goesOn := goodIn_r _ [14, 15, 31, 32, 33, 34, 35, 36, 37, 38, 39, 40, 41, 42, 43, 44, 45, 46, 47, 48, 49, 50, 51, 52, 53] (by decide +kernel) (by decide +kernel)
set_option maxRecDepth 20000 in
theorem gX3_drain_X3_goesOn : GoodIn wsX3_drain (wsV RX3 83 RX3 yX3_goesOn wsX3_goesOn) := goodIn_app (goodIn_of _ (by decide +kernel)) ggX3_drain_X3_goesOn
set_option maxRecDepth 20000 in
theorem ggX3_drain_X3_empties : GoodIn wsX3_drain wsX3_empties := goodIn_ca (goodIn_r _ [19, 7, 1, 20, 21, 22, 5, 23, 24, 25, 26, 27, 28, 29, 30, 31, 32, 33, 34, 35, 36, 37, 38, 39, 40, 41, 42, 43, 44, 45, 46, 47, 48, 49, 50, 51, 52, 53] (by decide +kernel) (by decide +kernel)) (goodIn_sub (fun _ h => List.mem_cons_of_mem _ (List.mem_append_right _ h)) (by decide +kernel))
set_option maxRecDepth 20000 in
theorem gX3_drain_X3_empties : GoodIn wsX3_drain (wsV RX3 93 RX3 yX3_empties wsX3_empties) := goodIn_app (goodIn_of _ (by decide +kernel)) ggX3_drain_X3_empties
set_option maxRecDepth 20000 in
theorem ggX3_drain_X3_liveOn : GoodIn wsX3_drain wsX3_liveOn := goodIn_ca (goodIn_r _ [23, 24, 25, 26, 27, 28, 5, 29, 30, 31, 32, 33, 34, 35, 36, 37, 38, 39, 40, 41, 42, 43, 44, 45, 46, 47, 48, 49, 50, 51, 52, 53] (by decide +kernel) (by decide +kernel)) (goodIn_sub (fun _ h => List.mem_cons_of_mem _ (List.mem_append_right _ h)) (by decide +kernel))
set_option maxRecDepth 20000 in
theorem gX3_drain_X3_liveOn : GoodIn wsX3_drain (wsV RX3 86 RX3 yX3_liveOn wsX3_liveOn) := goodIn_app (goodIn_of _ (by decide +kernel)) ggX3_drain_X3_liveOn
theorem dX3_drain_0 : decode cX3_drain 0 = .ok (.aload_n 0, 1) := by decide +kernel
theorem dX3_drain_1 : decode cX3_drain 1 = .ok (.aload_n 0, 1) := by decide +kernel
theorem dX3_drain_2 : decode cX3_drain 2 = .ok (.iload_n 1, 1) := by decide +kernel
theorem dX3_drain_3 : decode cX3_drain 3 = .ok (.invokevirtual 90, 3) := by decide +kernel
theorem dX3_drain_6 : decode cX3_drain 6 = .ok (.ifCond .ne 7, 3) := by decide +kernel
theorem dX3_drain_9 : decode cX3_drain 9 = .ok (.iconst 1, 1) := by decide +kernel
theorem dX3_drain_10 : decode cX3_drain 10 = .ok (.goto 19, 3) := by decide +kernel
theorem dX3_drain_13 : decode cX3_drain 13 = .ok (.aload_n 0, 1) := by decide +kernel
theorem dX3_drain_14 : decode cX3_drain 14 = .ok (.getfield 25, 3) := by decide +kernel
theorem dX3_drain_17 : decode cX3_drain 17 = .ok (.iload_n 1, 1) := by decide +kernel
theorem dX3_drain_18 : decode cX3_drain 18 = .ok (.caload, 1) := by decide +kernel
theorem dX3_drain_19 : decode cX3_drain 19 = .ok (.bipush 117, 2) := by decide +kernel
theorem dX3_drain_21 : decode cX3_drain 21 = .ok (.if_icmp .eq 7, 3) := by decide +kernel
theorem dX3_drain_24 : decode cX3_drain 24 = .ok (.iconst 2, 1) := by decide +kernel
theorem dX3_drain_25 : decode cX3_drain 25 = .ok (.goto 4, 3) := by decide +kernel
theorem dX3_drain_28 : decode cX3_drain 28 = .ok (.iconst 0, 1) := by decide +kernel
theorem dX3_drain_29 : decode cX3_drain 29 = .ok (.invokevirtual 83, 3) := by decide +kernel
theorem dX3_drain_32 : decode cX3_drain 32 = .ok (.ifCond .ne 5, 3) := by decide +kernel
theorem dX3_drain_35 : decode cX3_drain 35 = .ok (.iconst 0, 1) := by decide +kernel
theorem dX3_drain_36 : decode cX3_drain 36 = .ok (.ireturn, 1) := by decide +kernel
theorem dX3_drain_37 : decode cX3_drain 37 = .ok (.aload_n 0, 1) := by decide +kernel
theorem dX3_drain_38 : decode cX3_drain 38 = .ok (.getfield 25, 3) := by decide +kernel
theorem dX3_drain_41 : decode cX3_drain 41 = .ok (.iload_n 1, 1) := by decide +kernel
theorem dX3_drain_42 : decode cX3_drain 42 = .ok (.bipush 103, 2) := by decide +kernel
theorem dX3_drain_44 : decode cX3_drain 44 = .ok (.castore, 1) := by decide +kernel
theorem dX3_drain_45 : decode cX3_drain 45 = .ok (.aload_n 0, 1) := by decide +kernel
theorem dX3_drain_46 : decode cX3_drain 46 = .ok (.invokevirtual 93, 3) := by decide +kernel
theorem dX3_drain_49 : decode cX3_drain 49 = .ok (.aload_n 0, 1) := by decide +kernel
theorem dX3_drain_50 : decode cX3_drain 50 = .ok (.iload_n 1, 1) := by decide +kernel
theorem dX3_drain_51 : decode cX3_drain 51 = .ok (.invokevirtual 86, 3) := by decide +kernel
theorem dX3_drain_54 : decode cX3_drain 54 = .ok (.ireturn, 1) := by decide +kernel
set_option maxRecDepth 20000 in
theorem ggX3_putUp_X3_isMachine : GoodIn wsX3_putUp wsX3_isMachine := goodIn_r _ [7, 8, 9, 10, 6, 11, 28, 29, 30, 31, 32, 33, 34, 35, 36, 37, 38, 39, 40, 41, 42, 43, 44, 45, 46, 47, 48, 49, 50] (by decide +kernel) (by decide +kernel)
set_option maxRecDepth 20000 in
theorem gX3_putUp_X3_isMachine : GoodIn wsX3_putUp (wsV RX3 90 RX3 yX3_isMachine wsX3_isMachine) := goodIn_app (goodIn_of _ (by decide +kernel)) ggX3_putUp_X3_isMachine
set_option maxRecDepth 20000 in
theorem ggX3_putUp_X3_goesOn : GoodIn wsX3_putUp wsX3_goesOn := goodIn_r _ [15, 16, 28, 29, 30, 31, 32, 33, 34, 35, 36, 37, 38, 39, 40, 41, 42, 43, 44, 45, 46, 47, 48, 49, 50] (by decide +kernel) (by decide +kernel)
set_option maxRecDepth 20000 in
theorem gX3_putUp_X3_goesOn : GoodIn wsX3_putUp (wsV RX3 83 RX3 yX3_goesOn wsX3_goesOn) := goodIn_app (goodIn_of _ (by decide +kernel)) ggX3_putUp_X3_goesOn
set_option maxRecDepth 20000 in
theorem ggX3_putUp_X3_liveOn : GoodIn wsX3_putUp wsX3_liveOn := goodIn_ca (goodIn_r _ [20, 21, 22, 23, 24, 25, 6, 26, 27, 28, 29, 30, 31, 32, 33, 34, 35, 36, 37, 38, 39, 40, 41, 42, 43, 44, 45, 46, 47, 48, 49, 50] (by decide +kernel) (by decide +kernel)) (goodIn_sub (fun _ h => List.mem_cons_of_mem _ (List.mem_append_right _ h)) (by decide +kernel))
set_option maxRecDepth 20000 in
theorem gX3_putUp_X3_liveOn : GoodIn wsX3_putUp (wsV RX3 86 RX3 yX3_liveOn wsX3_liveOn) := goodIn_app (goodIn_of _ (by decide +kernel)) ggX3_putUp_X3_liveOn
theorem dX3_putUp_0 : decode cX3_putUp 0 = .ok (.aload_n 0, 1) := by decide +kernel
theorem dX3_putUp_1 : decode cX3_putUp 1 = .ok (.aload_n 0, 1) := by decide +kernel
theorem dX3_putUp_2 : decode cX3_putUp 2 = .ok (.iload_n 1, 1) := by decide +kernel
theorem dX3_putUp_3 : decode cX3_putUp 3 = .ok (.invokevirtual 90, 3) := by decide +kernel
theorem dX3_putUp_6 : decode cX3_putUp 6 = .ok (.ifCond .ne 7, 3) := by decide +kernel
theorem dX3_putUp_9 : decode cX3_putUp 9 = .ok (.iconst 1, 1) := by decide +kernel
theorem dX3_putUp_10 : decode cX3_putUp 10 = .ok (.goto 19, 3) := by decide +kernel
theorem dX3_putUp_13 : decode cX3_putUp 13 = .ok (.aload_n 0, 1) := by decide +kernel
theorem dX3_putUp_14 : decode cX3_putUp 14 = .ok (.getfield 25, 3) := by decide +kernel
theorem dX3_putUp_17 : decode cX3_putUp 17 = .ok (.iload_n 1, 1) := by decide +kernel
theorem dX3_putUp_18 : decode cX3_putUp 18 = .ok (.caload, 1) := by decide +kernel
theorem dX3_putUp_19 : decode cX3_putUp 19 = .ok (.bipush 117, 2) := by decide +kernel
theorem dX3_putUp_21 : decode cX3_putUp 21 = .ok (.if_icmp .ne 7, 3) := by decide +kernel
theorem dX3_putUp_24 : decode cX3_putUp 24 = .ok (.iconst 2, 1) := by decide +kernel
theorem dX3_putUp_25 : decode cX3_putUp 25 = .ok (.goto 4, 3) := by decide +kernel
theorem dX3_putUp_28 : decode cX3_putUp 28 = .ok (.iconst 0, 1) := by decide +kernel
theorem dX3_putUp_29 : decode cX3_putUp 29 = .ok (.invokevirtual 83, 3) := by decide +kernel
theorem dX3_putUp_32 : decode cX3_putUp 32 = .ok (.ifCond .ne 5, 3) := by decide +kernel
theorem dX3_putUp_35 : decode cX3_putUp 35 = .ok (.iconst 0, 1) := by decide +kernel
theorem dX3_putUp_36 : decode cX3_putUp 36 = .ok (.ireturn, 1) := by decide +kernel
theorem dX3_putUp_37 : decode cX3_putUp 37 = .ok (.aload_n 0, 1) := by decide +kernel
theorem dX3_putUp_38 : decode cX3_putUp 38 = .ok (.getfield 25, 3) := by decide +kernel
theorem dX3_putUp_41 : decode cX3_putUp 41 = .ok (.iload_n 1, 1) := by decide +kernel
theorem dX3_putUp_42 : decode cX3_putUp 42 = .ok (.bipush 117, 2) := by decide +kernel
theorem dX3_putUp_44 : decode cX3_putUp 44 = .ok (.castore, 1) := by decide +kernel
theorem dX3_putUp_45 : decode cX3_putUp 45 = .ok (.aload_n 0, 1) := by decide +kernel
theorem dX3_putUp_46 : decode cX3_putUp 46 = .ok (.getfield 22, 3) := by decide +kernel
theorem dX3_putUp_49 : decode cX3_putUp 49 = .ok (.iload_n 1, 1) := by decide +kernel
theorem dX3_putUp_50 : decode cX3_putUp 50 = .ok (.iaload, 1) := by decide +kernel
theorem dX3_putUp_51 : decode cX3_putUp 51 = .ok (.aload_n 0, 1) := by decide +kernel
theorem dX3_putUp_52 : decode cX3_putUp 52 = .ok (.iload_n 1, 1) := by decide +kernel
theorem dX3_putUp_53 : decode cX3_putUp 53 = .ok (.invokevirtual 86, 3) := by decide +kernel
theorem dX3_putUp_56 : decode cX3_putUp 56 = .ok (.isub, 1) := by decide +kernel
theorem dX3_putUp_57 : decode cX3_putUp 57 = .ok (.ireturn, 1) := by decide +kernel
set_option maxRecDepth 20000 in
theorem ggX3_machine_X3_isMachine : GoodIn wsX3_machine wsX3_isMachine := goodIn_r _ [6, 7, 8, 9, 5, 10, 16, 17, 18, 19, 20, 21, 22, 23, 24, 25, 26, 27, 28, 29, 30, 31, 32, 33, 34, 35, 36, 37, 38] (by decide +kernel) (by decide +kernel)
set_option maxRecDepth 20000 in
theorem gX3_machine_X3_isMachine : GoodIn wsX3_machine (wsV RX3 90 RX3 yX3_isMachine wsX3_isMachine) := goodIn_app (goodIn_of _ (by decide +kernel)) ggX3_machine_X3_isMachine
set_option maxRecDepth 20000 in
theorem ggX3_machine_X3_goesOn : GoodIn wsX3_machine wsX3_goesOn := goodIn_r _ [14, 15, 16, 17, 18, 19, 20, 21, 22, 23, 24, 25, 26, 27, 28, 29, 30, 31, 32, 33, 34, 35, 36, 37, 38] (by decide +kernel) (by decide +kernel)
set_option maxRecDepth 20000 in
theorem gX3_machine_X3_goesOn : GoodIn wsX3_machine (wsV RX3 83 RX3 yX3_goesOn wsX3_goesOn) := goodIn_app (goodIn_of _ (by decide +kernel)) ggX3_machine_X3_goesOn
theorem dX3_machine_0 : decode cX3_machine 0 = .ok (.aload_n 0, 1) := by decide +kernel
theorem dX3_machine_1 : decode cX3_machine 1 = .ok (.aload_n 0, 1) := by decide +kernel
theorem dX3_machine_2 : decode cX3_machine 2 = .ok (.iload_n 1, 1) := by decide +kernel
theorem dX3_machine_3 : decode cX3_machine 3 = .ok (.invokevirtual 90, 3) := by decide +kernel
theorem dX3_machine_6 : decode cX3_machine 6 = .ok (.ifCond .eq 7, 3) := by decide +kernel
theorem dX3_machine_9 : decode cX3_machine 9 = .ok (.iconst 0, 1) := by decide +kernel
theorem dX3_machine_10 : decode cX3_machine 10 = .ok (.goto 4, 3) := by decide +kernel
theorem dX3_machine_13 : decode cX3_machine 13 = .ok (.iconst 1, 1) := by decide +kernel
theorem dX3_machine_14 : decode cX3_machine 14 = .ok (.invokevirtual 83, 3) := by decide +kernel
theorem dX3_machine_17 : decode cX3_machine 17 = .ok (.ifCond .eq 12, 3) := by decide +kernel
theorem dX3_machine_20 : decode cX3_machine 20 = .ok (.aload_n 0, 1) := by decide +kernel
theorem dX3_machine_21 : decode cX3_machine 21 = .ok (.getfield 25, 3) := by decide +kernel
theorem dX3_machine_24 : decode cX3_machine 24 = .ok (.iload_n 1, 1) := by decide +kernel
theorem dX3_machine_25 : decode cX3_machine 25 = .ok (.caload, 1) := by decide +kernel
theorem dX3_machine_26 : decode cX3_machine 26 = .ok (.goto 4, 3) := by decide +kernel
theorem dX3_machine_29 : decode cX3_machine 29 = .ok (.iconst 0, 1) := by decide +kernel
theorem dX3_machine_30 : decode cX3_machine 30 = .ok (.ireturn, 1) := by decide +kernel
set_option maxRecDepth 20000 in
theorem ggX3_nextIn_X3_liveOn : GoodIn wsX3_nextIn wsX3_liveOn := goodIn_ca (goodIn_r _ [9, 10, 11, 12, 13, 14, 8, 15, 16, 17, 18, 19, 20, 21, 22, 23, 24, 25, 26, 27, 28, 29, 30, 31, 32, 33, 34, 35, 36, 37, 38, 39] (by decide +kernel) (by decide +kernel)) (goodIn_sub (fun _ h => List.mem_cons_of_mem _ (List.mem_append_right _ h)) (by decide +kernel))
set_option maxRecDepth 20000 in
theorem gX3_nextIn_X3_liveOn : GoodIn wsX3_nextIn (wsV RX3 86 RX3 yX3_liveOn wsX3_liveOn) := goodIn_app (goodIn_of _ (by decide +kernel)) ggX3_nextIn_X3_liveOn
theorem dX3_nextIn_0 : decode cX3_nextIn 0 = .ok (.iconst (-1), 1) := by decide +kernel
theorem dX3_nextIn_1 : decode cX3_nextIn 1 = .ok (.istore_n 2, 1) := by decide +kernel
theorem dX3_nextIn_2 : decode cX3_nextIn 2 = .ok (.iconst 0, 1) := by decide +kernel
theorem dX3_nextIn_3 : decode cX3_nextIn 3 = .ok (.istore_n 3, 1) := by decide +kernel
theorem dX3_nextIn_4 : decode cX3_nextIn 4 = .ok (.iload_n 3, 1) := by decide +kernel
theorem dX3_nextIn_5 : decode cX3_nextIn 5 = .ok (.aload_n 0, 1) := by decide +kernel
theorem dX3_nextIn_6 : decode cX3_nextIn 6 = .ok (.getfield 70, 3) := by decide +kernel
theorem dX3_nextIn_9 : decode cX3_nextIn 9 = .ok (.if_icmp .ge 80, 3) := by decide +kernel
theorem dX3_nextIn_12 : decode cX3_nextIn 12 = .ok (.aload_n 0, 1) := by decide +kernel
theorem dX3_nextIn_13 : decode cX3_nextIn 13 = .ok (.getfield 16, 3) := by decide +kernel
theorem dX3_nextIn_16 : decode cX3_nextIn 16 = .ok (.iload_n 3, 1) := by decide +kernel
theorem dX3_nextIn_17 : decode cX3_nextIn 17 = .ok (.iaload, 1) := by decide +kernel
theorem dX3_nextIn_18 : decode cX3_nextIn 18 = .ok (.iload_n 1, 1) := by decide +kernel
theorem dX3_nextIn_19 : decode cX3_nextIn 19 = .ok (.if_icmp .ne 32, 3) := by decide +kernel
theorem dX3_nextIn_22 : decode cX3_nextIn 22 = .ok (.aload_n 0, 1) := by decide +kernel
theorem dX3_nextIn_23 : decode cX3_nextIn 23 = .ok (.getfield 25, 3) := by decide +kernel
theorem dX3_nextIn_26 : decode cX3_nextIn 26 = .ok (.iload_n 3, 1) := by decide +kernel
theorem dX3_nextIn_27 : decode cX3_nextIn 27 = .ok (.caload, 1) := by decide +kernel
theorem dX3_nextIn_28 : decode cX3_nextIn 28 = .ok (.bipush 117, 2) := by decide +kernel
theorem dX3_nextIn_30 : decode cX3_nextIn 30 = .ok (.if_icmp .ne 21, 3) := by decide +kernel
theorem dX3_nextIn_33 : decode cX3_nextIn 33 = .ok (.aload_n 0, 1) := by decide +kernel
theorem dX3_nextIn_34 : decode cX3_nextIn 34 = .ok (.iload_n 3, 1) := by decide +kernel
theorem dX3_nextIn_35 : decode cX3_nextIn 35 = .ok (.invokevirtual 86, 3) := by decide +kernel
theorem dX3_nextIn_38 : decode cX3_nextIn 38 = .ok (.aload_n 0, 1) := by decide +kernel
theorem dX3_nextIn_39 : decode cX3_nextIn 39 = .ok (.getfield 22, 3) := by decide +kernel
theorem dX3_nextIn_42 : decode cX3_nextIn 42 = .ok (.iload_n 3, 1) := by decide +kernel
theorem dX3_nextIn_43 : decode cX3_nextIn 43 = .ok (.iaload, 1) := by decide +kernel
theorem dX3_nextIn_44 : decode cX3_nextIn 44 = .ok (.if_icmp .ge 7, 3) := by decide +kernel
theorem dX3_nextIn_47 : decode cX3_nextIn 47 = .ok (.iconst 1, 1) := by decide +kernel
theorem dX3_nextIn_48 : decode cX3_nextIn 48 = .ok (.goto 4, 3) := by decide +kernel
theorem dX3_nextIn_51 : decode cX3_nextIn 51 = .ok (.iconst 0, 1) := by decide +kernel
theorem dX3_nextIn_52 : decode cX3_nextIn 52 = .ok (.istore 4, 2) := by decide +kernel
theorem dX3_nextIn_54 : decode cX3_nextIn 54 = .ok (.iload 4, 2) := by decide +kernel
theorem dX3_nextIn_56 : decode cX3_nextIn 56 = .ok (.ifCond .eq 25, 3) := by decide +kernel
theorem dX3_nextIn_59 : decode cX3_nextIn 59 = .ok (.iload_n 2, 1) := by decide +kernel
theorem dX3_nextIn_60 : decode cX3_nextIn 60 = .ok (.iconst (-1), 1) := by decide +kernel
theorem dX3_nextIn_61 : decode cX3_nextIn 61 = .ok (.if_icmp .eq 16, 3) := by decide +kernel
theorem dX3_nextIn_64 : decode cX3_nextIn 64 = .ok (.aload_n 0, 1) := by decide +kernel
theorem dX3_nextIn_65 : decode cX3_nextIn 65 = .ok (.iload_n 3, 1) := by decide +kernel
theorem dX3_nextIn_66 : decode cX3_nextIn 66 = .ok (.invokevirtual 86, 3) := by decide +kernel
theorem dX3_nextIn_69 : decode cX3_nextIn 69 = .ok (.aload_n 0, 1) := by decide +kernel
theorem dX3_nextIn_70 : decode cX3_nextIn 70 = .ok (.iload_n 2, 1) := by decide +kernel
theorem dX3_nextIn_71 : decode cX3_nextIn 71 = .ok (.invokevirtual 86, 3) := by decide +kernel
theorem dX3_nextIn_74 : decode cX3_nextIn 74 = .ok (.if_icmp .ge 7, 3) := by decide +kernel
theorem dX3_nextIn_77 : decode cX3_nextIn 77 = .ok (.iload_n 3, 1) := by decide +kernel
theorem dX3_nextIn_78 : decode cX3_nextIn 78 = .ok (.goto 4, 3) := by decide +kernel
theorem dX3_nextIn_81 : decode cX3_nextIn 81 = .ok (.iload_n 2, 1) := by decide +kernel
theorem dX3_nextIn_82 : decode cX3_nextIn 82 = .ok (.istore_n 2, 1) := by decide +kernel
theorem dX3_nextIn_83 : decode cX3_nextIn 83 = .ok (.iinc 3 1, 3) := by decide +kernel
theorem dX3_nextIn_86 : decode cX3_nextIn 86 = .ok (.goto (-82), 3) := by decide +kernel
theorem dX3_nextIn_89 : decode cX3_nextIn 89 = .ok (.iload_n 2, 1) := by decide +kernel
theorem dX3_nextIn_90 : decode cX3_nextIn 90 = .ok (.ireturn, 1) := by decide +kernel
set_option maxRecDepth 20000 in
theorem ggX3_next_X3_isPool : GoodIn wsX3_next wsX3_isPool := goodIn_r _ [4, 5, 6, 3, 7] (by decide +kernel) (by decide +kernel)
set_option maxRecDepth 20000 in
theorem gX3_next_X3_isPool : GoodIn wsX3_next (va_wsS RX3 80 yX3_isPool wsX3_isPool) := goodIn_app (goodIn_of _ (by decide +kernel)) ggX3_next_X3_isPool
set_option maxRecDepth 20000 in
theorem ggX3_next_X3_nextIn : GoodIn wsX3_next wsX3_nextIn := goodIn_ca (goodIn_r _ [11, 12, 13, 14, 15, 16, 17, 18, 3, 19, 20, 21, 22, 23, 24, 25, 26, 32, 33, 34, 35, 36, 37, 38, 39, 40, 41, 42, 43, 44, 45, 46, 47, 48, 49, 50, 51, 52, 53, 54] (by decide +kernel) (by decide +kernel)) (goodIn_sub (fun _ h => List.mem_cons_of_mem _ (List.mem_append_right _ h)) (by decide +kernel))
set_option maxRecDepth 20000 in
theorem gX3_next_X3_nextIn : GoodIn wsX3_next (wsV RX3 96 RX3 yX3_nextIn wsX3_nextIn) := goodIn_app (goodIn_of _ (by decide +kernel)) ggX3_next_X3_nextIn
set_option maxRecDepth 20000 in
theorem ggX3_next_X3_goesOn : GoodIn wsX3_next wsX3_goesOn := goodIn_r _ [30, 31, 32, 33, 34, 35, 36, 37, 38, 39, 40, 41, 42, 43, 44, 45, 46, 47, 48, 49, 50, 51, 52, 53, 54] (by decide +kernel) (by decide +kernel)
set_option maxRecDepth 20000 in
theorem gX3_next_X3_goesOn : GoodIn wsX3_next (wsV RX3 83 RX3 yX3_goesOn wsX3_goesOn) := goodIn_app (goodIn_of _ (by decide +kernel)) ggX3_next_X3_goesOn
theorem dX3_next_0 : decode cX3_next 0 = .ok (.iload_n 1, 1) := by decide +kernel
theorem dX3_next_1 : decode cX3_next 1 = .ok (.invokestatic 80, 3) := by decide +kernel
theorem dX3_next_4 : decode cX3_next 4 = .ok (.ifCond .eq 11, 3) := by decide +kernel
theorem dX3_next_7 : decode cX3_next 7 = .ok (.aload_n 0, 1) := by decide +kernel
theorem dX3_next_8 : decode cX3_next 8 = .ok (.iload_n 1, 1) := by decide +kernel
theorem dX3_next_9 : decode cX3_next 9 = .ok (.invokevirtual 96, 3) := by decide +kernel
theorem dX3_next_12 : decode cX3_next 12 = .ok (.goto 4, 3) := by decide +kernel
theorem dX3_next_15 : decode cX3_next 15 = .ok (.iconst (-1), 1) := by decide +kernel
theorem dX3_next_16 : decode cX3_next 16 = .ok (.istore_n 2, 1) := by decide +kernel
theorem dX3_next_17 : decode cX3_next 17 = .ok (.aload_n 0, 1) := by decide +kernel
theorem dX3_next_18 : decode cX3_next 18 = .ok (.iload_n 1, 1) := by decide +kernel
theorem dX3_next_19 : decode cX3_next 19 = .ok (.invokestatic 80, 3) := by decide +kernel
theorem dX3_next_22 : decode cX3_next 22 = .ok (.ifCond .ne 7, 3) := by decide +kernel
theorem dX3_next_25 : decode cX3_next 25 = .ok (.iconst 1, 1) := by decide +kernel
theorem dX3_next_26 : decode cX3_next 26 = .ok (.goto 13, 3) := by decide +kernel
theorem dX3_next_29 : decode cX3_next 29 = .ok (.iload_n 2, 1) := by decide +kernel
theorem dX3_next_30 : decode cX3_next 30 = .ok (.iconst (-1), 1) := by decide +kernel
theorem dX3_next_31 : decode cX3_next 31 = .ok (.if_icmp .ne 7, 3) := by decide +kernel
theorem dX3_next_34 : decode cX3_next 34 = .ok (.iconst 2, 1) := by decide +kernel
theorem dX3_next_35 : decode cX3_next 35 = .ok (.goto 4, 3) := by decide +kernel
theorem dX3_next_38 : decode cX3_next 38 = .ok (.iconst 0, 1) := by decide +kernel
theorem dX3_next_39 : decode cX3_next 39 = .ok (.invokevirtual 83, 3) := by decide +kernel
theorem dX3_next_42 : decode cX3_next 42 = .ok (.ifCond .eq 7, 3) := by decide +kernel
theorem dX3_next_45 : decode cX3_next 45 = .ok (.iload_n 2, 1) := by decide +kernel
theorem dX3_next_46 : decode cX3_next 46 = .ok (.goto 4, 3) := by decide +kernel
theorem dX3_next_49 : decode cX3_next 49 = .ok (.iconst 0, 1) := by decide +kernel
theorem dX3_next_50 : decode cX3_next 50 = .ok (.ireturn, 1) := by decide +kernel
set_option maxRecDepth 20000 in
theorem ggX3_free_X3_isPool : GoodIn wsX3_free wsX3_isPool := goodIn_r _ [8, 9, 10, 7, 11] (by decide +kernel) (by decide +kernel)
set_option maxRecDepth 20000 in
theorem gX3_free_X3_isPool : GoodIn wsX3_free (va_wsS RX3 80 yX3_isPool wsX3_isPool) := goodIn_app (goodIn_of _ (by decide +kernel)) ggX3_free_X3_isPool
set_option maxRecDepth 20000 in
theorem ggX3_free_X3_goesOn : GoodIn wsX3_free wsX3_goesOn := goodIn_r _ [15, 16, 28, 29, 30, 31, 32, 33, 34, 35, 36, 37, 38, 39, 40, 41, 42, 43, 44, 45, 46, 47, 48, 49, 50] (by decide +kernel) (by decide +kernel)
set_option maxRecDepth 20000 in
theorem gX3_free_X3_goesOn : GoodIn wsX3_free (wsV RX3 83 RX3 yX3_goesOn wsX3_goesOn) := goodIn_app (goodIn_of _ (by decide +kernel)) ggX3_free_X3_goesOn
set_option maxRecDepth 20000 in
theorem ggX3_free_X3_liveOn : GoodIn wsX3_free wsX3_liveOn := goodIn_ca (goodIn_r _ [20, 21, 22, 23, 24, 25, 7, 26, 27, 28, 29, 30, 31, 32, 33, 34, 35, 36, 37, 38, 39, 40, 41, 42, 43, 44, 45, 46, 47, 48, 49, 50] (by decide +kernel) (by decide +kernel)) (goodIn_sub (fun _ h => List.mem_cons_of_mem _ (List.mem_append_right _ h)) (by decide +kernel))
set_option maxRecDepth 20000 in
theorem gX3_free_X3_liveOn : GoodIn wsX3_free (wsV RX3 86 RX3 yX3_liveOn wsX3_liveOn) := goodIn_app (goodIn_of _ (by decide +kernel)) ggX3_free_X3_liveOn
theorem dX3_free_0 : decode cX3_free 0 = .ok (.aload_n 0, 1) := by decide +kernel
theorem dX3_free_1 : decode cX3_free 1 = .ok (.iload_n 1, 1) := by decide +kernel
theorem dX3_free_2 : decode cX3_free 2 = .ok (.invokestatic 80, 3) := by decide +kernel
theorem dX3_free_5 : decode cX3_free 5 = .ok (.ifCond .eq 7, 3) := by decide +kernel
theorem dX3_free_8 : decode cX3_free 8 = .ok (.iconst 0, 1) := by decide +kernel
theorem dX3_free_9 : decode cX3_free 9 = .ok (.goto 4, 3) := by decide +kernel
theorem dX3_free_12 : decode cX3_free 12 = .ok (.iconst 1, 1) := by decide +kernel
theorem dX3_free_13 : decode cX3_free 13 = .ok (.invokevirtual 83, 3) := by decide +kernel
theorem dX3_free_16 : decode cX3_free 16 = .ok (.ifCond .ne 5, 3) := by decide +kernel
theorem dX3_free_19 : decode cX3_free 19 = .ok (.iconst 0, 1) := by decide +kernel
theorem dX3_free_20 : decode cX3_free 20 = .ok (.ireturn, 1) := by decide +kernel
theorem dX3_free_21 : decode cX3_free 21 = .ok (.iconst 0, 1) := by decide +kernel
theorem dX3_free_22 : decode cX3_free 22 = .ok (.istore_n 2, 1) := by decide +kernel
theorem dX3_free_23 : decode cX3_free 23 = .ok (.iconst 0, 1) := by decide +kernel
theorem dX3_free_24 : decode cX3_free 24 = .ok (.istore_n 3, 1) := by decide +kernel
theorem dX3_free_25 : decode cX3_free 25 = .ok (.iload_n 3, 1) := by decide +kernel
theorem dX3_free_26 : decode cX3_free 26 = .ok (.aload_n 0, 1) := by decide +kernel
theorem dX3_free_27 : decode cX3_free 27 = .ok (.getfield 70, 3) := by decide +kernel
theorem dX3_free_30 : decode cX3_free 30 = .ok (.if_icmp .ge 49, 3) := by decide +kernel
theorem dX3_free_33 : decode cX3_free 33 = .ok (.iload_n 2, 1) := by decide +kernel
theorem dX3_free_34 : decode cX3_free 34 = .ok (.aload_n 0, 1) := by decide +kernel
theorem dX3_free_35 : decode cX3_free 35 = .ok (.getfield 16, 3) := by decide +kernel
theorem dX3_free_38 : decode cX3_free 38 = .ok (.iload_n 3, 1) := by decide +kernel
theorem dX3_free_39 : decode cX3_free 39 = .ok (.iaload, 1) := by decide +kernel
theorem dX3_free_40 : decode cX3_free 40 = .ok (.iload_n 1, 1) := by decide +kernel
theorem dX3_free_41 : decode cX3_free 41 = .ok (.if_icmp .ne 29, 3) := by decide +kernel
theorem dX3_free_44 : decode cX3_free 44 = .ok (.aload_n 0, 1) := by decide +kernel
theorem dX3_free_45 : decode cX3_free 45 = .ok (.getfield 25, 3) := by decide +kernel
theorem dX3_free_48 : decode cX3_free 48 = .ok (.iload_n 3, 1) := by decide +kernel
theorem dX3_free_49 : decode cX3_free 49 = .ok (.caload, 1) := by decide +kernel
theorem dX3_free_50 : decode cX3_free 50 = .ok (.bipush 117, 2) := by decide +kernel
theorem dX3_free_52 : decode cX3_free 52 = .ok (.if_icmp .ne 18, 3) := by decide +kernel
theorem dX3_free_55 : decode cX3_free 55 = .ok (.aload_n 0, 1) := by decide +kernel
theorem dX3_free_56 : decode cX3_free 56 = .ok (.getfield 22, 3) := by decide +kernel
theorem dX3_free_59 : decode cX3_free 59 = .ok (.iload_n 3, 1) := by decide +kernel
theorem dX3_free_60 : decode cX3_free 60 = .ok (.iaload, 1) := by decide +kernel
theorem dX3_free_61 : decode cX3_free 61 = .ok (.aload_n 0, 1) := by decide +kernel
theorem dX3_free_62 : decode cX3_free 62 = .ok (.iload_n 3, 1) := by decide +kernel
theorem dX3_free_63 : decode cX3_free 63 = .ok (.invokevirtual 86, 3) := by decide +kernel
theorem dX3_free_66 : decode cX3_free 66 = .ok (.isub, 1) := by decide +kernel
theorem dX3_free_67 : decode cX3_free 67 = .ok (.goto 4, 3) := by decide +kernel
theorem dX3_free_70 : decode cX3_free 70 = .ok (.iconst 0, 1) := by decide +kernel
theorem dX3_free_71 : decode cX3_free 71 = .ok (.iadd, 1) := by decide +kernel
theorem dX3_free_72 : decode cX3_free 72 = .ok (.istore_n 2, 1) := by decide +kernel
theorem dX3_free_73 : decode cX3_free 73 = .ok (.iinc 3 1, 3) := by decide +kernel
theorem dX3_free_76 : decode cX3_free 76 = .ok (.goto (-51), 3) := by decide +kernel
theorem dX3_free_79 : decode cX3_free 79 = .ok (.iload_n 2, 1) := by decide +kernel
theorem dX3_free_80 : decode cX3_free 80 = .ok (.ireturn, 1) := by decide +kernel
set_option maxRecDepth 20000 in
theorem ggX3_assign_X3_isUser : GoodIn wsX3_assign wsX3_isUser := goodIn_r _ [5, 6, 7, 4, 8] (by decide +kernel) (by decide +kernel)
set_option maxRecDepth 20000 in
theorem gX3_assign_X3_isUser : GoodIn wsX3_assign (va_wsS RX3 99 yX3_isUser wsX3_isUser) := goodIn_app (goodIn_of _ (by decide +kernel)) ggX3_assign_X3_isUser
set_option maxRecDepth 20000 in
theorem ggX3_assign_X3_isDepartment : GoodIn wsX3_assign wsX3_isDepartment := goodIn_r _ [11, 6, 7, 4, 8] (by decide +kernel) (by decide +kernel)
set_option maxRecDepth 20000 in
theorem gX3_assign_X3_isDepartment : GoodIn wsX3_assign (va_wsS RX3 102 yX3_isDepartment wsX3_isDepartment) := goodIn_app (goodIn_of _ (by decide +kernel)) ggX3_assign_X3_isDepartment
set_option maxRecDepth 20000 in
theorem ggX3_assign_X3_goesOn : GoodIn wsX3_assign wsX3_goesOn := goodIn_r _ [15, 16, 17, 18, 19, 20, 21, 22, 23, 24, 25, 26, 27, 28, 29, 30, 31, 32, 33, 34, 35, 36, 37, 38, 39] (by decide +kernel) (by decide +kernel)
set_option maxRecDepth 20000 in
theorem gX3_assign_X3_goesOn : GoodIn wsX3_assign (wsV RX3 83 RX3 yX3_goesOn wsX3_goesOn) := goodIn_app (goodIn_of _ (by decide +kernel)) ggX3_assign_X3_goesOn
theorem dX3_assign_0 : decode cX3_assign 0 = .ok (.aload_n 0, 1) := by decide +kernel
theorem dX3_assign_1 : decode cX3_assign 1 = .ok (.iload_n 1, 1) := by decide +kernel
theorem dX3_assign_2 : decode cX3_assign 2 = .ok (.invokestatic 99, 3) := by decide +kernel
theorem dX3_assign_5 : decode cX3_assign 5 = .ok (.ifCond .eq 14, 3) := by decide +kernel
theorem dX3_assign_8 : decode cX3_assign 8 = .ok (.iload_n 2, 1) := by decide +kernel
theorem dX3_assign_9 : decode cX3_assign 9 = .ok (.invokestatic 102, 3) := by decide +kernel
theorem dX3_assign_12 : decode cX3_assign 12 = .ok (.ifCond .eq 7, 3) := by decide +kernel
theorem dX3_assign_15 : decode cX3_assign 15 = .ok (.iconst 0, 1) := by decide +kernel
theorem dX3_assign_16 : decode cX3_assign 16 = .ok (.goto 4, 3) := by decide +kernel
theorem dX3_assign_19 : decode cX3_assign 19 = .ok (.iconst 1, 1) := by decide +kernel
theorem dX3_assign_20 : decode cX3_assign 20 = .ok (.invokevirtual 83, 3) := by decide +kernel
theorem dX3_assign_23 : decode cX3_assign 23 = .ok (.ifCond .ne 5, 3) := by decide +kernel
theorem dX3_assign_26 : decode cX3_assign 26 = .ok (.iconst 0, 1) := by decide +kernel
theorem dX3_assign_27 : decode cX3_assign 27 = .ok (.ireturn, 1) := by decide +kernel
theorem dX3_assign_28 : decode cX3_assign 28 = .ok (.aload_n 0, 1) := by decide +kernel
theorem dX3_assign_29 : decode cX3_assign 29 = .ok (.getfield 35, 3) := by decide +kernel
theorem dX3_assign_32 : decode cX3_assign 32 = .ok (.iload_n 1, 1) := by decide +kernel
theorem dX3_assign_33 : decode cX3_assign 33 = .ok (.iaload, 1) := by decide +kernel
theorem dX3_assign_34 : decode cX3_assign 34 = .ok (.istore_n 3, 1) := by decide +kernel
theorem dX3_assign_35 : decode cX3_assign 35 = .ok (.aload_n 0, 1) := by decide +kernel
theorem dX3_assign_36 : decode cX3_assign 36 = .ok (.getfield 35, 3) := by decide +kernel
theorem dX3_assign_39 : decode cX3_assign 39 = .ok (.iload_n 1, 1) := by decide +kernel
theorem dX3_assign_40 : decode cX3_assign 40 = .ok (.iload_n 2, 1) := by decide +kernel
theorem dX3_assign_41 : decode cX3_assign 41 = .ok (.iastore, 1) := by decide +kernel
theorem dX3_assign_42 : decode cX3_assign 42 = .ok (.iload_n 3, 1) := by decide +kernel
theorem dX3_assign_43 : decode cX3_assign 43 = .ok (.ireturn, 1) := by decide +kernel
set_option maxRecDepth 20000 in
theorem ggX3_buy_X3_isDepartment : GoodIn wsX3_buy wsX3_isDepartment := goodIn_r _ [6, 7, 8, 5, 9] (by decide +kernel) (by decide +kernel)
set_option maxRecDepth 20000 in
theorem gX3_buy_X3_isDepartment : GoodIn wsX3_buy (va_wsS RX3 102 yX3_isDepartment wsX3_isDepartment) := goodIn_app (goodIn_of _ (by decide +kernel)) ggX3_buy_X3_isDepartment
set_option maxRecDepth 20000 in
theorem ggX3_buy_X3_in : GoodIn wsX3_buy wsX3_in := goodIn_r _ [9] (by decide +kernel) (by decide +kernel)
set_option maxRecDepth 20000 in
theorem gX3_buy_X3_in : GoodIn wsX3_buy (va_wsS RX3 66 yX3_in wsX3_in) := goodIn_app (goodIn_of _ (by decide +kernel)) ggX3_buy_X3_in
set_option maxRecDepth 20000 in
theorem ggX3_buy_X3_goesOn : GoodIn wsX3_buy wsX3_goesOn := goodIn_r _ [13, 14, 15, 16, 17, 18, 19, 20, 21, 22, 23, 24, 25, 26, 27, 28, 29, 30, 31, 32, 33, 34, 35, 36, 37] (by decide +kernel) (by decide +kernel)
set_option maxRecDepth 20000 in
theorem gX3_buy_X3_goesOn : GoodIn wsX3_buy (wsV RX3 83 RX3 yX3_goesOn wsX3_goesOn) := goodIn_app (goodIn_of _ (by decide +kernel)) ggX3_buy_X3_goesOn
theorem dX3_buy_0 : decode cX3_buy 0 = .ok (.aload_n 0, 1) := by decide +kernel
theorem dX3_buy_1 : decode cX3_buy 1 = .ok (.iload_n 1, 1) := by decide +kernel
theorem dX3_buy_2 : decode cX3_buy 2 = .ok (.invokestatic 102, 3) := by decide +kernel
theorem dX3_buy_5 : decode cX3_buy 5 = .ok (.ifCond .eq 14, 3) := by decide +kernel
theorem dX3_buy_8 : decode cX3_buy 8 = .ok (.iload_n 2, 1) := by decide +kernel
theorem dX3_buy_9 : decode cX3_buy 9 = .ok (.iconst 1, 1) := by decide +kernel
theorem dX3_buy_10 : decode cX3_buy 10 = .ok (.sipush 5000, 3) := by decide +kernel
theorem dX3_buy_13 : decode cX3_buy 13 = .ok (.invokestatic 66, 3) := by decide +kernel
theorem dX3_buy_16 : decode cX3_buy 16 = .ok (.ifCond .ne 7, 3) := by decide +kernel
theorem dX3_buy_19 : decode cX3_buy 19 = .ok (.iconst 1, 1) := by decide +kernel
theorem dX3_buy_20 : decode cX3_buy 20 = .ok (.goto 21, 3) := by decide +kernel
theorem dX3_buy_23 : decode cX3_buy 23 = .ok (.aload_n 0, 1) := by decide +kernel
theorem dX3_buy_24 : decode cX3_buy 24 = .ok (.getfield 29, 3) := by decide +kernel
theorem dX3_buy_27 : decode cX3_buy 27 = .ok (.iload_n 1, 1) := by decide +kernel
theorem dX3_buy_28 : decode cX3_buy 28 = .ok (.iaload, 1) := by decide +kernel
theorem dX3_buy_29 : decode cX3_buy 29 = .ok (.iload_n 2, 1) := by decide +kernel
theorem dX3_buy_30 : decode cX3_buy 30 = .ok (.iadd, 1) := by decide +kernel
theorem dX3_buy_31 : decode cX3_buy 31 = .ok (.ldc 105, 2) := by decide +kernel
theorem dX3_buy_33 : decode cX3_buy 33 = .ok (.if_icmp .le 7, 3) := by decide +kernel
theorem dX3_buy_36 : decode cX3_buy 36 = .ok (.iconst 2, 1) := by decide +kernel
theorem dX3_buy_37 : decode cX3_buy 37 = .ok (.goto 4, 3) := by decide +kernel
theorem dX3_buy_40 : decode cX3_buy 40 = .ok (.iconst 0, 1) := by decide +kernel
theorem dX3_buy_41 : decode cX3_buy 41 = .ok (.invokevirtual 83, 3) := by decide +kernel
theorem dX3_buy_44 : decode cX3_buy 44 = .ok (.ifCond .ne 5, 3) := by decide +kernel
theorem dX3_buy_47 : decode cX3_buy 47 = .ok (.iconst 0, 1) := by decide +kernel
theorem dX3_buy_48 : decode cX3_buy 48 = .ok (.ireturn, 1) := by decide +kernel
theorem dX3_buy_49 : decode cX3_buy 49 = .ok (.aload_n 0, 1) := by decide +kernel
theorem dX3_buy_50 : decode cX3_buy 50 = .ok (.getfield 29, 3) := by decide +kernel
theorem dX3_buy_53 : decode cX3_buy 53 = .ok (.iload_n 1, 1) := by decide +kernel
theorem dX3_buy_54 : decode cX3_buy 54 = .ok (.dup2, 1) := by decide +kernel
theorem dX3_buy_55 : decode cX3_buy 55 = .ok (.iaload, 1) := by decide +kernel
theorem dX3_buy_56 : decode cX3_buy 56 = .ok (.iload_n 2, 1) := by decide +kernel
theorem dX3_buy_57 : decode cX3_buy 57 = .ok (.iadd, 1) := by decide +kernel
theorem dX3_buy_58 : decode cX3_buy 58 = .ok (.iastore, 1) := by decide +kernel
theorem dX3_buy_59 : decode cX3_buy 59 = .ok (.aload_n 0, 1) := by decide +kernel
theorem dX3_buy_60 : decode cX3_buy 60 = .ok (.getfield 29, 3) := by decide +kernel
theorem dX3_buy_63 : decode cX3_buy 63 = .ok (.iload_n 1, 1) := by decide +kernel
theorem dX3_buy_64 : decode cX3_buy 64 = .ok (.iaload, 1) := by decide +kernel
theorem dX3_buy_65 : decode cX3_buy 65 = .ok (.ireturn, 1) := by decide +kernel
set_option maxRecDepth 20000 in
theorem ggX3_areTwo_X3_isDepartment : GoodIn wsX3_areTwo wsX3_isDepartment := goodIn_r _ [4, 5, 6, 3, 7] (by decide +kernel) (by decide +kernel)
set_option maxRecDepth 20000 in
theorem gX3_areTwo_X3_isDepartment : GoodIn wsX3_areTwo (va_wsS RX3 102 yX3_isDepartment wsX3_isDepartment) := goodIn_app (goodIn_of _ (by decide +kernel)) ggX3_areTwo_X3_isDepartment
set_option maxRecDepth 20000 in
theorem ggX3_areTwo_X3_in : GoodIn wsX3_areTwo wsX3_in := goodIn_r _ [7] (by decide +kernel) (by decide +kernel)
set_option maxRecDepth 20000 in
theorem gX3_areTwo_X3_in : GoodIn wsX3_areTwo (va_wsS RX3 66 yX3_in wsX3_in) := goodIn_app (goodIn_of _ (by decide +kernel)) ggX3_areTwo_X3_in
theorem dX3_areTwo_0 : decode cX3_areTwo 0 = .ok (.iload_n 0, 1) := by decide +kernel
theorem dX3_areTwo_1 : decode cX3_areTwo 1 = .ok (.invokestatic 102, 3) := by decide +kernel
theorem dX3_areTwo_4 : decode cX3_areTwo 4 = .ok (.ifCond .eq 30, 3) := by decide +kernel
theorem dX3_areTwo_7 : decode cX3_areTwo 7 = .ok (.iload_n 1, 1) := by decide +kernel
theorem dX3_areTwo_8 : decode cX3_areTwo 8 = .ok (.invokestatic 102, 3) := by decide +kernel
theorem dX3_areTwo_11 : decode cX3_areTwo 11 = .ok (.ifCond .eq 23, 3) := by decide +kernel
theorem dX3_areTwo_14 : decode cX3_areTwo 14 = .ok (.iload_n 0, 1) := by decide +kernel
theorem dX3_areTwo_15 : decode cX3_areTwo 15 = .ok (.iload_n 1, 1) := by decide +kernel
theorem dX3_areTwo_16 : decode cX3_areTwo 16 = .ok (.if_icmp .eq 18, 3) := by decide +kernel
theorem dX3_areTwo_19 : decode cX3_areTwo 19 = .ok (.iload_n 2, 1) := by decide +kernel
theorem dX3_areTwo_20 : decode cX3_areTwo 20 = .ok (.iconst 1, 1) := by decide +kernel
theorem dX3_areTwo_21 : decode cX3_areTwo 21 = .ok (.sipush 5000, 3) := by decide +kernel
theorem dX3_areTwo_24 : decode cX3_areTwo 24 = .ok (.invokestatic 66, 3) := by decide +kernel
theorem dX3_areTwo_27 : decode cX3_areTwo 27 = .ok (.ifCond .eq 7, 3) := by decide +kernel
theorem dX3_areTwo_30 : decode cX3_areTwo 30 = .ok (.iconst 1, 1) := by decide +kernel
theorem dX3_areTwo_31 : decode cX3_areTwo 31 = .ok (.goto 4, 3) := by decide +kernel
theorem dX3_areTwo_34 : decode cX3_areTwo 34 = .ok (.iconst 0, 1) := by decide +kernel
theorem dX3_areTwo_35 : decode cX3_areTwo 35 = .ok (.ireturn, 1) := by decide +kernel
set_option maxRecDepth 20000 in
theorem ggX3_lend_X3_areTwo : GoodIn wsX3_lend wsX3_areTwo := goodIn_r _ [6, 7, 8, 5, 9, 10, 11, 12] (by decide +kernel) (by decide +kernel)
set_option maxRecDepth 20000 in
theorem gX3_lend_X3_areTwo : GoodIn wsX3_lend (va_wsS RX3 106 yX3_areTwo wsX3_areTwo) := goodIn_app (goodIn_of _ (by decide +kernel)) ggX3_lend_X3_areTwo
set_option maxRecDepth 20000 in
theorem ggX3_lend_X3_goesOn : GoodIn wsX3_lend wsX3_goesOn := goodIn_r _ [16, 17, 18, 19, 20, 21, 22, 23, 24, 25, 26, 27, 28, 29, 30, 31, 32, 33, 34, 35, 36, 37, 38, 39, 40] (by decide +kernel) (by decide +kernel)
set_option maxRecDepth 20000 in
theorem gX3_lend_X3_goesOn : GoodIn wsX3_lend (wsV RX3 83 RX3 yX3_goesOn wsX3_goesOn) := goodIn_app (goodIn_of _ (by decide +kernel)) ggX3_lend_X3_goesOn
theorem dX3_lend_0 : decode cX3_lend 0 = .ok (.aload_n 0, 1) := by decide +kernel
theorem dX3_lend_1 : decode cX3_lend 1 = .ok (.iload_n 1, 1) := by decide +kernel
theorem dX3_lend_2 : decode cX3_lend 2 = .ok (.iload_n 2, 1) := by decide +kernel
theorem dX3_lend_3 : decode cX3_lend 3 = .ok (.iload_n 3, 1) := by decide +kernel
theorem dX3_lend_4 : decode cX3_lend 4 = .ok (.invokestatic 106, 3) := by decide +kernel
theorem dX3_lend_7 : decode cX3_lend 7 = .ok (.ifCond .ne 7, 3) := by decide +kernel
theorem dX3_lend_10 : decode cX3_lend 10 = .ok (.iconst 1, 1) := by decide +kernel
theorem dX3_lend_11 : decode cX3_lend 11 = .ok (.goto 18, 3) := by decide +kernel
theorem dX3_lend_14 : decode cX3_lend 14 = .ok (.aload_n 0, 1) := by decide +kernel
theorem dX3_lend_15 : decode cX3_lend 15 = .ok (.getfield 29, 3) := by decide +kernel
theorem dX3_lend_18 : decode cX3_lend 18 = .ok (.iload_n 1, 1) := by decide +kernel
theorem dX3_lend_19 : decode cX3_lend 19 = .ok (.iaload, 1) := by decide +kernel
theorem dX3_lend_20 : decode cX3_lend 20 = .ok (.iload_n 3, 1) := by decide +kernel
theorem dX3_lend_21 : decode cX3_lend 21 = .ok (.if_icmp .ge 7, 3) := by decide +kernel
theorem dX3_lend_24 : decode cX3_lend 24 = .ok (.iconst 2, 1) := by decide +kernel
theorem dX3_lend_25 : decode cX3_lend 25 = .ok (.goto 4, 3) := by decide +kernel
theorem dX3_lend_28 : decode cX3_lend 28 = .ok (.iconst 0, 1) := by decide +kernel
theorem dX3_lend_29 : decode cX3_lend 29 = .ok (.invokevirtual 83, 3) := by decide +kernel
theorem dX3_lend_32 : decode cX3_lend 32 = .ok (.ifCond .ne 5, 3) := by decide +kernel
theorem dX3_lend_35 : decode cX3_lend 35 = .ok (.iconst 0, 1) := by decide +kernel
theorem dX3_lend_36 : decode cX3_lend 36 = .ok (.ireturn, 1) := by decide +kernel
theorem dX3_lend_37 : decode cX3_lend 37 = .ok (.aload_n 0, 1) := by decide +kernel
theorem dX3_lend_38 : decode cX3_lend 38 = .ok (.getfield 29, 3) := by decide +kernel
theorem dX3_lend_41 : decode cX3_lend 41 = .ok (.iload_n 1, 1) := by decide +kernel
theorem dX3_lend_42 : decode cX3_lend 42 = .ok (.dup2, 1) := by decide +kernel
theorem dX3_lend_43 : decode cX3_lend 43 = .ok (.iaload, 1) := by decide +kernel
theorem dX3_lend_44 : decode cX3_lend 44 = .ok (.iload_n 3, 1) := by decide +kernel
theorem dX3_lend_45 : decode cX3_lend 45 = .ok (.isub, 1) := by decide +kernel
theorem dX3_lend_46 : decode cX3_lend 46 = .ok (.iastore, 1) := by decide +kernel
theorem dX3_lend_47 : decode cX3_lend 47 = .ok (.aload_n 0, 1) := by decide +kernel
theorem dX3_lend_48 : decode cX3_lend 48 = .ok (.getfield 29, 3) := by decide +kernel
theorem dX3_lend_51 : decode cX3_lend 51 = .ok (.iload_n 2, 1) := by decide +kernel
theorem dX3_lend_52 : decode cX3_lend 52 = .ok (.dup2, 1) := by decide +kernel
theorem dX3_lend_53 : decode cX3_lend 53 = .ok (.iaload, 1) := by decide +kernel
theorem dX3_lend_54 : decode cX3_lend 54 = .ok (.iload_n 3, 1) := by decide +kernel
theorem dX3_lend_55 : decode cX3_lend 55 = .ok (.iadd, 1) := by decide +kernel
theorem dX3_lend_56 : decode cX3_lend 56 = .ok (.iastore, 1) := by decide +kernel
theorem dX3_lend_57 : decode cX3_lend 57 = .ok (.aload_n 0, 1) := by decide +kernel
theorem dX3_lend_58 : decode cX3_lend 58 = .ok (.getfield 32, 3) := by decide +kernel
theorem dX3_lend_61 : decode cX3_lend 61 = .ok (.iconst 4, 1) := by decide +kernel
theorem dX3_lend_62 : decode cX3_lend 62 = .ok (.iload_n 2, 1) := by decide +kernel
theorem dX3_lend_63 : decode cX3_lend 63 = .ok (.imul, 1) := by decide +kernel
theorem dX3_lend_64 : decode cX3_lend 64 = .ok (.iload_n 1, 1) := by decide +kernel
theorem dX3_lend_65 : decode cX3_lend 65 = .ok (.iadd, 1) := by decide +kernel
theorem dX3_lend_66 : decode cX3_lend 66 = .ok (.dup2, 1) := by decide +kernel
theorem dX3_lend_67 : decode cX3_lend 67 = .ok (.iaload, 1) := by decide +kernel
theorem dX3_lend_68 : decode cX3_lend 68 = .ok (.iload_n 3, 1) := by decide +kernel
theorem dX3_lend_69 : decode cX3_lend 69 = .ok (.iadd, 1) := by decide +kernel
theorem dX3_lend_70 : decode cX3_lend 70 = .ok (.iastore, 1) := by decide +kernel
theorem dX3_lend_71 : decode cX3_lend 71 = .ok (.aload_n 0, 1) := by decide +kernel
theorem dX3_lend_72 : decode cX3_lend 72 = .ok (.getfield 32, 3) := by decide +kernel
theorem dX3_lend_75 : decode cX3_lend 75 = .ok (.iconst 4, 1) := by decide +kernel
theorem dX3_lend_76 : decode cX3_lend 76 = .ok (.iload_n 2, 1) := by decide +kernel
theorem dX3_lend_77 : decode cX3_lend 77 = .ok (.imul, 1) := by decide +kernel
theorem dX3_lend_78 : decode cX3_lend 78 = .ok (.iload_n 1, 1) := by decide +kernel
theorem dX3_lend_79 : decode cX3_lend 79 = .ok (.iadd, 1) := by decide +kernel
theorem dX3_lend_80 : decode cX3_lend 80 = .ok (.iaload, 1) := by decide +kernel
theorem dX3_lend_81 : decode cX3_lend 81 = .ok (.ireturn, 1) := by decide +kernel
set_option maxRecDepth 20000 in
theorem ggX3_giveBack_X3_areTwo : GoodIn wsX3_giveBack wsX3_areTwo := goodIn_r _ [6, 7, 8, 5, 9, 10, 11, 12] (by decide +kernel) (by decide +kernel)
set_option maxRecDepth 20000 in
theorem gX3_giveBack_X3_areTwo : GoodIn wsX3_giveBack (va_wsS RX3 106 yX3_areTwo wsX3_areTwo) := goodIn_app (goodIn_of _ (by decide +kernel)) ggX3_giveBack_X3_areTwo
set_option maxRecDepth 20000 in
theorem ggX3_giveBack_X3_goesOn : GoodIn wsX3_giveBack wsX3_goesOn := goodIn_r _ [16, 17, 18, 19, 20, 21, 22, 23, 24, 25, 26, 27, 28, 29, 30, 31, 32, 33, 34, 35, 36, 37, 38, 39, 40] (by decide +kernel) (by decide +kernel)
set_option maxRecDepth 20000 in
theorem gX3_giveBack_X3_goesOn : GoodIn wsX3_giveBack (wsV RX3 83 RX3 yX3_goesOn wsX3_goesOn) := goodIn_app (goodIn_of _ (by decide +kernel)) ggX3_giveBack_X3_goesOn
theorem dX3_giveBack_0 : decode cX3_giveBack 0 = .ok (.iload_n 1, 1) := by decide +kernel
theorem dX3_giveBack_1 : decode cX3_giveBack 1 = .ok (.iload_n 2, 1) := by decide +kernel
theorem dX3_giveBack_2 : decode cX3_giveBack 2 = .ok (.iload_n 3, 1) := by decide +kernel
theorem dX3_giveBack_3 : decode cX3_giveBack 3 = .ok (.invokestatic 106, 3) := by decide +kernel
theorem dX3_giveBack_6 : decode cX3_giveBack 6 = .ok (.ifCond .ne 7, 3) := by decide +kernel
theorem dX3_giveBack_9 : decode cX3_giveBack 9 = .ok (.iconst 1, 1) := by decide +kernel
theorem dX3_giveBack_10 : decode cX3_giveBack 10 = .ok (.goto 4, 3) := by decide +kernel
theorem dX3_giveBack_13 : decode cX3_giveBack 13 = .ok (.iconst 0, 1) := by decide +kernel
theorem dX3_giveBack_14 : decode cX3_giveBack 14 = .ok (.istore 4, 2) := by decide +kernel
theorem dX3_giveBack_16 : decode cX3_giveBack 16 = .ok (.iload 4, 2) := by decide +kernel
theorem dX3_giveBack_18 : decode cX3_giveBack 18 = .ok (.ifCond .ne 21, 3) := by decide +kernel
theorem dX3_giveBack_21 : decode cX3_giveBack 21 = .ok (.aload_n 0, 1) := by decide +kernel
theorem dX3_giveBack_22 : decode cX3_giveBack 22 = .ok (.getfield 32, 3) := by decide +kernel
theorem dX3_giveBack_25 : decode cX3_giveBack 25 = .ok (.iconst 4, 1) := by decide +kernel
theorem dX3_giveBack_26 : decode cX3_giveBack 26 = .ok (.iload_n 1, 1) := by decide +kernel
theorem dX3_giveBack_27 : decode cX3_giveBack 27 = .ok (.imul, 1) := by decide +kernel
theorem dX3_giveBack_28 : decode cX3_giveBack 28 = .ok (.iload_n 2, 1) := by decide +kernel
theorem dX3_giveBack_29 : decode cX3_giveBack 29 = .ok (.iadd, 1) := by decide +kernel
theorem dX3_giveBack_30 : decode cX3_giveBack 30 = .ok (.iaload, 1) := by decide +kernel
theorem dX3_giveBack_31 : decode cX3_giveBack 31 = .ok (.iload_n 3, 1) := by decide +kernel
theorem dX3_giveBack_32 : decode cX3_giveBack 32 = .ok (.if_icmp .ge 7, 3) := by decide +kernel
theorem dX3_giveBack_35 : decode cX3_giveBack 35 = .ok (.iconst 2, 1) := by decide +kernel
theorem dX3_giveBack_36 : decode cX3_giveBack 36 = .ok (.goto 24, 3) := by decide +kernel
theorem dX3_giveBack_39 : decode cX3_giveBack 39 = .ok (.iload 4, 2) := by decide +kernel
theorem dX3_giveBack_41 : decode cX3_giveBack 41 = .ok (.ifCond .ne 17, 3) := by decide +kernel
theorem dX3_giveBack_44 : decode cX3_giveBack 44 = .ok (.aload_n 0, 1) := by decide +kernel
theorem dX3_giveBack_45 : decode cX3_giveBack 45 = .ok (.getfield 29, 3) := by decide +kernel
theorem dX3_giveBack_48 : decode cX3_giveBack 48 = .ok (.iload_n 1, 1) := by decide +kernel
theorem dX3_giveBack_49 : decode cX3_giveBack 49 = .ok (.iaload, 1) := by decide +kernel
theorem dX3_giveBack_50 : decode cX3_giveBack 50 = .ok (.iload_n 3, 1) := by decide +kernel
theorem dX3_giveBack_51 : decode cX3_giveBack 51 = .ok (.if_icmp .ge 7, 3) := by decide +kernel
theorem dX3_giveBack_54 : decode cX3_giveBack 54 = .ok (.iconst 3, 1) := by decide +kernel
theorem dX3_giveBack_55 : decode cX3_giveBack 55 = .ok (.goto 5, 3) := by decide +kernel
theorem dX3_giveBack_58 : decode cX3_giveBack 58 = .ok (.iload 4, 2) := by decide +kernel
theorem dX3_giveBack_60 : decode cX3_giveBack 60 = .ok (.istore 4, 2) := by decide +kernel
theorem dX3_giveBack_62 : decode cX3_giveBack 62 = .ok (.aload_n 0, 1) := by decide +kernel
theorem dX3_giveBack_63 : decode cX3_giveBack 63 = .ok (.iload 4, 2) := by decide +kernel
theorem dX3_giveBack_65 : decode cX3_giveBack 65 = .ok (.invokevirtual 83, 3) := by decide +kernel
theorem dX3_giveBack_68 : decode cX3_giveBack 68 = .ok (.ifCond .ne 5, 3) := by decide +kernel
theorem dX3_giveBack_71 : decode cX3_giveBack 71 = .ok (.iconst 0, 1) := by decide +kernel
theorem dX3_giveBack_72 : decode cX3_giveBack 72 = .ok (.ireturn, 1) := by decide +kernel
theorem dX3_giveBack_73 : decode cX3_giveBack 73 = .ok (.aload_n 0, 1) := by decide +kernel
theorem dX3_giveBack_74 : decode cX3_giveBack 74 = .ok (.getfield 29, 3) := by decide +kernel
theorem dX3_giveBack_77 : decode cX3_giveBack 77 = .ok (.iload_n 1, 1) := by decide +kernel
theorem dX3_giveBack_78 : decode cX3_giveBack 78 = .ok (.dup2, 1) := by decide +kernel
theorem dX3_giveBack_79 : decode cX3_giveBack 79 = .ok (.iaload, 1) := by decide +kernel
theorem dX3_giveBack_80 : decode cX3_giveBack 80 = .ok (.iload_n 3, 1) := by decide +kernel
theorem dX3_giveBack_81 : decode cX3_giveBack 81 = .ok (.isub, 1) := by decide +kernel
theorem dX3_giveBack_82 : decode cX3_giveBack 82 = .ok (.iastore, 1) := by decide +kernel
theorem dX3_giveBack_83 : decode cX3_giveBack 83 = .ok (.aload_n 0, 1) := by decide +kernel
theorem dX3_giveBack_84 : decode cX3_giveBack 84 = .ok (.getfield 29, 3) := by decide +kernel
theorem dX3_giveBack_87 : decode cX3_giveBack 87 = .ok (.iload_n 2, 1) := by decide +kernel
theorem dX3_giveBack_88 : decode cX3_giveBack 88 = .ok (.dup2, 1) := by decide +kernel
theorem dX3_giveBack_89 : decode cX3_giveBack 89 = .ok (.iaload, 1) := by decide +kernel
theorem dX3_giveBack_90 : decode cX3_giveBack 90 = .ok (.iload_n 3, 1) := by decide +kernel
theorem dX3_giveBack_91 : decode cX3_giveBack 91 = .ok (.iadd, 1) := by decide +kernel
theorem dX3_giveBack_92 : decode cX3_giveBack 92 = .ok (.iastore, 1) := by decide +kernel
theorem dX3_giveBack_93 : decode cX3_giveBack 93 = .ok (.aload_n 0, 1) := by decide +kernel
theorem dX3_giveBack_94 : decode cX3_giveBack 94 = .ok (.getfield 32, 3) := by decide +kernel
theorem dX3_giveBack_97 : decode cX3_giveBack 97 = .ok (.iconst 4, 1) := by decide +kernel
theorem dX3_giveBack_98 : decode cX3_giveBack 98 = .ok (.iload_n 1, 1) := by decide +kernel
theorem dX3_giveBack_99 : decode cX3_giveBack 99 = .ok (.imul, 1) := by decide +kernel
theorem dX3_giveBack_100 : decode cX3_giveBack 100 = .ok (.iload_n 2, 1) := by decide +kernel
theorem dX3_giveBack_101 : decode cX3_giveBack 101 = .ok (.iadd, 1) := by decide +kernel
theorem dX3_giveBack_102 : decode cX3_giveBack 102 = .ok (.dup2, 1) := by decide +kernel
theorem dX3_giveBack_103 : decode cX3_giveBack 103 = .ok (.iaload, 1) := by decide +kernel
theorem dX3_giveBack_104 : decode cX3_giveBack 104 = .ok (.iload_n 3, 1) := by decide +kernel
theorem dX3_giveBack_105 : decode cX3_giveBack 105 = .ok (.isub, 1) := by decide +kernel
theorem dX3_giveBack_106 : decode cX3_giveBack 106 = .ok (.iastore, 1) := by decide +kernel
theorem dX3_giveBack_107 : decode cX3_giveBack 107 = .ok (.aload_n 0, 1) := by decide +kernel
theorem dX3_giveBack_108 : decode cX3_giveBack 108 = .ok (.getfield 32, 3) := by decide +kernel
theorem dX3_giveBack_111 : decode cX3_giveBack 111 = .ok (.iconst 4, 1) := by decide +kernel
theorem dX3_giveBack_112 : decode cX3_giveBack 112 = .ok (.iload_n 1, 1) := by decide +kernel
theorem dX3_giveBack_113 : decode cX3_giveBack 113 = .ok (.imul, 1) := by decide +kernel
theorem dX3_giveBack_114 : decode cX3_giveBack 114 = .ok (.iload_n 2, 1) := by decide +kernel
theorem dX3_giveBack_115 : decode cX3_giveBack 115 = .ok (.iadd, 1) := by decide +kernel
theorem dX3_giveBack_116 : decode cX3_giveBack 116 = .ok (.iaload, 1) := by decide +kernel
theorem dX3_giveBack_117 : decode cX3_giveBack 117 = .ok (.ireturn, 1) := by decide +kernel
set_option maxRecDepth 20000 in
theorem ggX3_minutes_X3_isDepartment : GoodIn wsX3_minutes wsX3_isDepartment := goodIn_r _ [5, 6, 7, 4, 8] (by decide +kernel) (by decide +kernel)
set_option maxRecDepth 20000 in
theorem gX3_minutes_X3_isDepartment : GoodIn wsX3_minutes (va_wsS RX3 102 yX3_isDepartment wsX3_isDepartment) := goodIn_app (goodIn_of _ (by decide +kernel)) ggX3_minutes_X3_isDepartment
set_option maxRecDepth 20000 in
theorem ggX3_minutes_X3_goesOn : GoodIn wsX3_minutes wsX3_goesOn := goodIn_r _ [12, 13, 14, 15, 16, 17, 18, 19, 20, 21, 22, 23, 24, 25, 26, 27, 28, 29, 30, 31, 32, 33, 34, 35, 36] (by decide +kernel) (by decide +kernel)
set_option maxRecDepth 20000 in
theorem gX3_minutes_X3_goesOn : GoodIn wsX3_minutes (wsV RX3 83 RX3 yX3_goesOn wsX3_goesOn) := goodIn_app (goodIn_of _ (by decide +kernel)) ggX3_minutes_X3_goesOn
theorem dX3_minutes_0 : decode cX3_minutes 0 = .ok (.aload_n 0, 1) := by decide +kernel
theorem dX3_minutes_1 : decode cX3_minutes 1 = .ok (.iload_n 1, 1) := by decide +kernel
theorem dX3_minutes_2 : decode cX3_minutes 2 = .ok (.invokestatic 102, 3) := by decide +kernel
theorem dX3_minutes_5 : decode cX3_minutes 5 = .ok (.ifCond .eq 7, 3) := by decide +kernel
theorem dX3_minutes_8 : decode cX3_minutes 8 = .ok (.iconst 0, 1) := by decide +kernel
theorem dX3_minutes_9 : decode cX3_minutes 9 = .ok (.goto 4, 3) := by decide +kernel
theorem dX3_minutes_12 : decode cX3_minutes 12 = .ok (.iconst 1, 1) := by decide +kernel
theorem dX3_minutes_13 : decode cX3_minutes 13 = .ok (.invokevirtual 83, 3) := by decide +kernel
theorem dX3_minutes_16 : decode cX3_minutes 16 = .ok (.ifCond .eq 12, 3) := by decide +kernel
theorem dX3_minutes_19 : decode cX3_minutes 19 = .ok (.aload_n 0, 1) := by decide +kernel
theorem dX3_minutes_20 : decode cX3_minutes 20 = .ok (.getfield 29, 3) := by decide +kernel
theorem dX3_minutes_23 : decode cX3_minutes 23 = .ok (.iload_n 1, 1) := by decide +kernel
theorem dX3_minutes_24 : decode cX3_minutes 24 = .ok (.iaload, 1) := by decide +kernel
theorem dX3_minutes_25 : decode cX3_minutes 25 = .ok (.goto 4, 3) := by decide +kernel
theorem dX3_minutes_28 : decode cX3_minutes 28 = .ok (.iconst 0, 1) := by decide +kernel
theorem dX3_minutes_29 : decode cX3_minutes 29 = .ok (.ireturn, 1) := by decide +kernel
set_option maxRecDepth 20000 in
theorem ggX3_minutesBySessions_X3_minutes : GoodIn wsX3_minutesBySessions wsX3_minutes := goodIn_ca (goodIn_r _ [5, 6, 7, 8, 4, 9, 10, 11, 12, 13, 14, 15, 16, 17, 18, 19, 20, 21, 22, 23, 24, 25, 26, 27, 28, 29, 30, 31, 32, 33, 34, 35, 36, 37, 38, 39, 40] (by decide +kernel) (by decide +kernel)) (goodIn_sub (fun _ h => List.mem_cons_of_mem _ (List.mem_append_right _ h)) (by decide +kernel))
set_option maxRecDepth 20000 in
theorem gX3_minutesBySessions_X3_minutes : GoodIn wsX3_minutesBySessions (wsV RX3 109 RX3 yX3_minutes wsX3_minutes) := goodIn_app (goodIn_of _ (by decide +kernel)) ggX3_minutesBySessions_X3_minutes
theorem dX3_minutesBySessions_0 : decode cX3_minutesBySessions 0 = .ok (.aload_n 0, 1) := by decide +kernel
theorem dX3_minutesBySessions_1 : decode cX3_minutesBySessions 1 = .ok (.iload_n 1, 1) := by decide +kernel
theorem dX3_minutesBySessions_2 : decode cX3_minutesBySessions 2 = .ok (.invokevirtual 109, 3) := by decide +kernel
theorem dX3_minutesBySessions_5 : decode cX3_minutesBySessions 5 = .ok (.ireturn, 1) := by decide +kernel
set_option maxRecDepth 20000 in
theorem ggX3_owns_X3_isLive : GoodIn wsX3_owns wsX3_isLive := goodIn_ca (goodIn_r _ [7, 8, 9, 10, 11, 12, 13, 14, 15, 16, 17, 18, 19, 20, 21, 22, 23, 24, 25, 26, 27, 28, 29, 30, 31] (by decide +kernel) (by decide +kernel)) (goodIn_sub (fun _ h => List.mem_cons_of_mem _ (List.mem_append_right _ h)) (by decide +kernel))
set_option maxRecDepth 20000 in
theorem gX3_owns_X3_isLive : GoodIn wsX3_owns (wsV RX3 76 RX3 yX3_isLive wsX3_isLive) := goodIn_app (goodIn_of _ (by decide +kernel)) ggX3_owns_X3_isLive
theorem dX3_owns_0 : decode cX3_owns 0 = .ok (.iconst 0, 1) := by decide +kernel
theorem dX3_owns_1 : decode cX3_owns 1 = .ok (.istore_n 2, 1) := by decide +kernel
theorem dX3_owns_2 : decode cX3_owns 2 = .ok (.iconst 0, 1) := by decide +kernel
theorem dX3_owns_3 : decode cX3_owns 3 = .ok (.istore_n 3, 1) := by decide +kernel
theorem dX3_owns_4 : decode cX3_owns 4 = .ok (.iload_n 3, 1) := by decide +kernel
theorem dX3_owns_5 : decode cX3_owns 5 = .ok (.aload_n 0, 1) := by decide +kernel
theorem dX3_owns_6 : decode cX3_owns 6 = .ok (.getfield 73, 3) := by decide +kernel
theorem dX3_owns_9 : decode cX3_owns 9 = .ok (.if_icmp .ge 37, 3) := by decide +kernel
theorem dX3_owns_12 : decode cX3_owns 12 = .ok (.iload_n 2, 1) := by decide +kernel
theorem dX3_owns_13 : decode cX3_owns 13 = .ok (.ifCond .ne 21, 3) := by decide +kernel
theorem dX3_owns_16 : decode cX3_owns 16 = .ok (.aload_n 0, 1) := by decide +kernel
theorem dX3_owns_17 : decode cX3_owns 17 = .ok (.iload_n 3, 1) := by decide +kernel
theorem dX3_owns_18 : decode cX3_owns 18 = .ok (.invokevirtual 76, 3) := by decide +kernel
theorem dX3_owns_21 : decode cX3_owns 21 = .ok (.ifCond .eq 17, 3) := by decide +kernel
theorem dX3_owns_24 : decode cX3_owns 24 = .ok (.aload_n 0, 1) := by decide +kernel
theorem dX3_owns_25 : decode cX3_owns 25 = .ok (.getfield 38, 3) := by decide +kernel
theorem dX3_owns_28 : decode cX3_owns 28 = .ok (.iload_n 3, 1) := by decide +kernel
theorem dX3_owns_29 : decode cX3_owns 29 = .ok (.iaload, 1) := by decide +kernel
theorem dX3_owns_30 : decode cX3_owns 30 = .ok (.iload_n 1, 1) := by decide +kernel
theorem dX3_owns_31 : decode cX3_owns 31 = .ok (.if_icmp .ne 7, 3) := by decide +kernel
theorem dX3_owns_34 : decode cX3_owns 34 = .ok (.iconst 1, 1) := by decide +kernel
theorem dX3_owns_35 : decode cX3_owns 35 = .ok (.goto 4, 3) := by decide +kernel
theorem dX3_owns_38 : decode cX3_owns 38 = .ok (.iconst 0, 1) := by decide +kernel
theorem dX3_owns_39 : decode cX3_owns 39 = .ok (.istore_n 2, 1) := by decide +kernel
theorem dX3_owns_40 : decode cX3_owns 40 = .ok (.iinc 3 1, 3) := by decide +kernel
theorem dX3_owns_43 : decode cX3_owns 43 = .ok (.goto (-39), 3) := by decide +kernel
theorem dX3_owns_46 : decode cX3_owns 46 = .ok (.iload_n 2, 1) := by decide +kernel
theorem dX3_owns_47 : decode cX3_owns 47 = .ok (.ireturn, 1) := by decide +kernel
set_option maxRecDepth 20000 in
theorem ggX3_logIn_X3_isUser : GoodIn wsX3_logIn wsX3_isUser := goodIn_r _ [13, 14, 15, 12, 16] (by decide +kernel) (by decide +kernel)
set_option maxRecDepth 20000 in
theorem gX3_logIn_X3_isUser : GoodIn wsX3_logIn (va_wsS RX3 99 yX3_isUser wsX3_isUser) := goodIn_app (goodIn_of _ (by decide +kernel)) ggX3_logIn_X3_isUser
set_option maxRecDepth 20000 in
theorem ggX3_logIn_X3_isPool : GoodIn wsX3_logIn wsX3_isPool := goodIn_r _ [19, 14, 15, 12, 16] (by decide +kernel) (by decide +kernel)
set_option maxRecDepth 20000 in
theorem gX3_logIn_X3_isPool : GoodIn wsX3_logIn (va_wsS RX3 80 yX3_isPool wsX3_isPool) := goodIn_app (goodIn_of _ (by decide +kernel)) ggX3_logIn_X3_isPool
set_option maxRecDepth 20000 in
theorem ggX3_logIn_X3_owns : GoodIn wsX3_logIn wsX3_owns := goodIn_ca (goodIn_r _ [23, 1, 4, 24, 25, 26, 12, 27, 28, 46, 47, 48, 49, 50, 51, 52, 53, 54, 55, 56, 57, 58, 59, 60, 61, 62, 63, 64, 65, 66, 67, 68] (by decide +kernel) (by decide +kernel)) (goodIn_sub (fun _ h => List.mem_cons_of_mem _ (List.mem_append_right _ h)) (by decide +kernel))
set_option maxRecDepth 20000 in
theorem gX3_logIn_X3_owns : GoodIn wsX3_logIn (wsV RX3 111 RX3 yX3_owns wsX3_owns) := goodIn_app (goodIn_of _ (by decide +kernel)) ggX3_logIn_X3_owns
set_option maxRecDepth 20000 in
theorem ggX3_logIn_X3_nextIn : GoodIn wsX3_logIn wsX3_nextIn := goodIn_ca (goodIn_r _ [32, 33, 34, 35, 36, 37, 38, 39, 12, 40, 1, 6, 24, 25, 26, 27, 28, 46, 47, 48, 49, 50, 51, 52, 53, 54, 55, 56, 57, 58, 59, 60, 61, 62, 63, 64, 65, 66, 67, 68] (by decide +kernel) (by decide +kernel)) (goodIn_sub (fun _ h => List.mem_cons_of_mem _ (List.mem_append_right _ h)) (by decide +kernel))
set_option maxRecDepth 20000 in
theorem gX3_logIn_X3_nextIn : GoodIn wsX3_logIn (wsV RX3 96 RX3 yX3_nextIn wsX3_nextIn) := goodIn_app (goodIn_of _ (by decide +kernel)) ggX3_logIn_X3_nextIn
set_option maxRecDepth 20000 in
theorem ggX3_logIn_X3_goesOn : GoodIn wsX3_logIn wsX3_goesOn := goodIn_r _ [44, 45, 46, 47, 48, 49, 50, 51, 52, 53, 54, 55, 56, 57, 58, 59, 60, 61, 62, 63, 64, 65, 66, 67, 68] (by decide +kernel) (by decide +kernel)
set_option maxRecDepth 20000 in
theorem gX3_logIn_X3_goesOn : GoodIn wsX3_logIn (wsV RX3 83 RX3 yX3_goesOn wsX3_goesOn) := goodIn_app (goodIn_of _ (by decide +kernel)) ggX3_logIn_X3_goesOn
theorem dX3_logIn_0 : decode cX3_logIn 0 = .ok (.iload_n 1, 1) := by decide +kernel
theorem dX3_logIn_1 : decode cX3_logIn 1 = .ok (.invokestatic 99, 3) := by decide +kernel
theorem dX3_logIn_4 : decode cX3_logIn 4 = .ok (.ifCond .eq 10, 3) := by decide +kernel
theorem dX3_logIn_7 : decode cX3_logIn 7 = .ok (.iload_n 2, 1) := by decide +kernel
theorem dX3_logIn_8 : decode cX3_logIn 8 = .ok (.invokestatic 80, 3) := by decide +kernel
theorem dX3_logIn_11 : decode cX3_logIn 11 = .ok (.ifCond .ne 7, 3) := by decide +kernel
theorem dX3_logIn_14 : decode cX3_logIn 14 = .ok (.iconst 1, 1) := by decide +kernel
theorem dX3_logIn_15 : decode cX3_logIn 15 = .ok (.goto 56, 3) := by decide +kernel
theorem dX3_logIn_18 : decode cX3_logIn 18 = .ok (.aload_n 0, 1) := by decide +kernel
theorem dX3_logIn_19 : decode cX3_logIn 19 = .ok (.iload_n 1, 1) := by decide +kernel
theorem dX3_logIn_20 : decode cX3_logIn 20 = .ok (.invokevirtual 111, 3) := by decide +kernel
theorem dX3_logIn_23 : decode cX3_logIn 23 = .ok (.ifCond .ne 12, 3) := by decide +kernel
theorem dX3_logIn_26 : decode cX3_logIn 26 = .ok (.aload_n 0, 1) := by decide +kernel
theorem dX3_logIn_27 : decode cX3_logIn 27 = .ok (.getfield 73, 3) := by decide +kernel
theorem dX3_logIn_30 : decode cX3_logIn 30 = .ok (.bipush 40, 2) := by decide +kernel
theorem dX3_logIn_32 : decode cX3_logIn 32 = .ok (.if_icmp .ne 7, 3) := by decide +kernel
theorem dX3_logIn_35 : decode cX3_logIn 35 = .ok (.iconst 2, 1) := by decide +kernel
theorem dX3_logIn_36 : decode cX3_logIn 36 = .ok (.goto 35, 3) := by decide +kernel
theorem dX3_logIn_39 : decode cX3_logIn 39 = .ok (.aload_n 0, 1) := by decide +kernel
theorem dX3_logIn_40 : decode cX3_logIn 40 = .ok (.getfield 29, 3) := by decide +kernel
theorem dX3_logIn_43 : decode cX3_logIn 43 = .ok (.aload_n 0, 1) := by decide +kernel
theorem dX3_logIn_44 : decode cX3_logIn 44 = .ok (.getfield 35, 3) := by decide +kernel
theorem dX3_logIn_47 : decode cX3_logIn 47 = .ok (.iload_n 1, 1) := by decide +kernel
theorem dX3_logIn_48 : decode cX3_logIn 48 = .ok (.iaload, 1) := by decide +kernel
theorem dX3_logIn_49 : decode cX3_logIn 49 = .ok (.iaload, 1) := by decide +kernel
theorem dX3_logIn_50 : decode cX3_logIn 50 = .ok (.ifCond .ne 7, 3) := by decide +kernel
theorem dX3_logIn_53 : decode cX3_logIn 53 = .ok (.iconst 3, 1) := by decide +kernel
theorem dX3_logIn_54 : decode cX3_logIn 54 = .ok (.goto 17, 3) := by decide +kernel
theorem dX3_logIn_57 : decode cX3_logIn 57 = .ok (.aload_n 0, 1) := by decide +kernel
theorem dX3_logIn_58 : decode cX3_logIn 58 = .ok (.iload_n 2, 1) := by decide +kernel
theorem dX3_logIn_59 : decode cX3_logIn 59 = .ok (.invokevirtual 96, 3) := by decide +kernel
theorem dX3_logIn_62 : decode cX3_logIn 62 = .ok (.iconst (-1), 1) := by decide +kernel
theorem dX3_logIn_63 : decode cX3_logIn 63 = .ok (.if_icmp .ne 7, 3) := by decide +kernel
theorem dX3_logIn_66 : decode cX3_logIn 66 = .ok (.iconst 4, 1) := by decide +kernel
theorem dX3_logIn_67 : decode cX3_logIn 67 = .ok (.goto 4, 3) := by decide +kernel
theorem dX3_logIn_70 : decode cX3_logIn 70 = .ok (.iconst 0, 1) := by decide +kernel
theorem dX3_logIn_71 : decode cX3_logIn 71 = .ok (.istore_n 3, 1) := by decide +kernel
theorem dX3_logIn_72 : decode cX3_logIn 72 = .ok (.aload_n 0, 1) := by decide +kernel
theorem dX3_logIn_73 : decode cX3_logIn 73 = .ok (.iload_n 3, 1) := by decide +kernel
theorem dX3_logIn_74 : decode cX3_logIn 74 = .ok (.invokevirtual 83, 3) := by decide +kernel
theorem dX3_logIn_77 : decode cX3_logIn 77 = .ok (.ifCond .ne 5, 3) := by decide +kernel
theorem dX3_logIn_80 : decode cX3_logIn 80 = .ok (.iconst 0, 1) := by decide +kernel
theorem dX3_logIn_81 : decode cX3_logIn 81 = .ok (.ireturn, 1) := by decide +kernel
theorem dX3_logIn_82 : decode cX3_logIn 82 = .ok (.aload_n 0, 1) := by decide +kernel
theorem dX3_logIn_83 : decode cX3_logIn 83 = .ok (.iload_n 2, 1) := by decide +kernel
theorem dX3_logIn_84 : decode cX3_logIn 84 = .ok (.invokevirtual 96, 3) := by decide +kernel
theorem dX3_logIn_87 : decode cX3_logIn 87 = .ok (.istore 4, 2) := by decide +kernel
theorem dX3_logIn_89 : decode cX3_logIn 89 = .ok (.aload_n 0, 1) := by decide +kernel
theorem dX3_logIn_90 : decode cX3_logIn 90 = .ok (.getfield 38, 3) := by decide +kernel
theorem dX3_logIn_93 : decode cX3_logIn 93 = .ok (.aload_n 0, 1) := by decide +kernel
theorem dX3_logIn_94 : decode cX3_logIn 94 = .ok (.getfield 73, 3) := by decide +kernel
theorem dX3_logIn_97 : decode cX3_logIn 97 = .ok (.iload_n 1, 1) := by decide +kernel
theorem dX3_logIn_98 : decode cX3_logIn 98 = .ok (.iastore, 1) := by decide +kernel
theorem dX3_logIn_99 : decode cX3_logIn 99 = .ok (.aload_n 0, 1) := by decide +kernel
theorem dX3_logIn_100 : decode cX3_logIn 100 = .ok (.getfield 41, 3) := by decide +kernel
theorem dX3_logIn_103 : decode cX3_logIn 103 = .ok (.aload_n 0, 1) := by decide +kernel
theorem dX3_logIn_104 : decode cX3_logIn 104 = .ok (.getfield 73, 3) := by decide +kernel
theorem dX3_logIn_107 : decode cX3_logIn 107 = .ok (.iload_n 1, 1) := by decide +kernel
theorem dX3_logIn_108 : decode cX3_logIn 108 = .ok (.iastore, 1) := by decide +kernel
theorem dX3_logIn_109 : decode cX3_logIn 109 = .ok (.aload_n 0, 1) := by decide +kernel
theorem dX3_logIn_110 : decode cX3_logIn 110 = .ok (.getfield 44, 3) := by decide +kernel
theorem dX3_logIn_113 : decode cX3_logIn 113 = .ok (.aload_n 0, 1) := by decide +kernel
theorem dX3_logIn_114 : decode cX3_logIn 114 = .ok (.getfield 73, 3) := by decide +kernel
theorem dX3_logIn_117 : decode cX3_logIn 117 = .ok (.iload 4, 2) := by decide +kernel
theorem dX3_logIn_119 : decode cX3_logIn 119 = .ok (.iastore, 1) := by decide +kernel
theorem dX3_logIn_120 : decode cX3_logIn 120 = .ok (.aload_n 0, 1) := by decide +kernel
theorem dX3_logIn_121 : decode cX3_logIn 121 = .ok (.getfield 47, 3) := by decide +kernel
theorem dX3_logIn_124 : decode cX3_logIn 124 = .ok (.aload_n 0, 1) := by decide +kernel
theorem dX3_logIn_125 : decode cX3_logIn 125 = .ok (.getfield 73, 3) := by decide +kernel
theorem dX3_logIn_128 : decode cX3_logIn 128 = .ok (.aload_n 0, 1) := by decide +kernel
theorem dX3_logIn_129 : decode cX3_logIn 129 = .ok (.getfield 114, 3) := by decide +kernel
theorem dX3_logIn_132 : decode cX3_logIn 132 = .ok (.iastore, 1) := by decide +kernel
theorem dX3_logIn_133 : decode cX3_logIn 133 = .ok (.aload_n 0, 1) := by decide +kernel
theorem dX3_logIn_134 : decode cX3_logIn 134 = .ok (.getfield 50, 3) := by decide +kernel
theorem dX3_logIn_137 : decode cX3_logIn 137 = .ok (.aload_n 0, 1) := by decide +kernel
theorem dX3_logIn_138 : decode cX3_logIn 138 = .ok (.getfield 73, 3) := by decide +kernel
theorem dX3_logIn_141 : decode cX3_logIn 141 = .ok (.aload_n 0, 1) := by decide +kernel
theorem dX3_logIn_142 : decode cX3_logIn 142 = .ok (.getfield 114, 3) := by decide +kernel
theorem dX3_logIn_145 : decode cX3_logIn 145 = .ok (.iastore, 1) := by decide +kernel
theorem dX3_logIn_146 : decode cX3_logIn 146 = .ok (.aload_n 0, 1) := by decide +kernel
theorem dX3_logIn_147 : decode cX3_logIn 147 = .ok (.dup, 1) := by decide +kernel
theorem dX3_logIn_148 : decode cX3_logIn 148 = .ok (.getfield 73, 3) := by decide +kernel
theorem dX3_logIn_151 : decode cX3_logIn 151 = .ok (.iconst 1, 1) := by decide +kernel
theorem dX3_logIn_152 : decode cX3_logIn 152 = .ok (.iadd, 1) := by decide +kernel
theorem dX3_logIn_153 : decode cX3_logIn 153 = .ok (.putfield 73, 3) := by decide +kernel
theorem dX3_logIn_156 : decode cX3_logIn 156 = .ok (.aload_n 0, 1) := by decide +kernel
theorem dX3_logIn_157 : decode cX3_logIn 157 = .ok (.getfield 73, 3) := by decide +kernel
theorem dX3_logIn_160 : decode cX3_logIn 160 = .ok (.iconst 1, 1) := by decide +kernel
theorem dX3_logIn_161 : decode cX3_logIn 161 = .ok (.isub, 1) := by decide +kernel
theorem dX3_logIn_162 : decode cX3_logIn 162 = .ok (.ireturn, 1) := by decide +kernel
theorem dX3_chargedTo_0 : decode cX3_chargedTo 0 = .ok (.iconst 0, 1) := by decide +kernel
theorem dX3_chargedTo_1 : decode cX3_chargedTo 1 = .ok (.istore_n 2, 1) := by decide +kernel
theorem dX3_chargedTo_2 : decode cX3_chargedTo 2 = .ok (.iconst 0, 1) := by decide +kernel
theorem dX3_chargedTo_3 : decode cX3_chargedTo 3 = .ok (.istore_n 3, 1) := by decide +kernel
theorem dX3_chargedTo_4 : decode cX3_chargedTo 4 = .ok (.iload_n 3, 1) := by decide +kernel
theorem dX3_chargedTo_5 : decode cX3_chargedTo 5 = .ok (.iconst 4, 1) := by decide +kernel
theorem dX3_chargedTo_6 : decode cX3_chargedTo 6 = .ok (.if_icmp .ge 22, 3) := by decide +kernel
theorem dX3_chargedTo_9 : decode cX3_chargedTo 9 = .ok (.iload_n 2, 1) := by decide +kernel
theorem dX3_chargedTo_10 : decode cX3_chargedTo 10 = .ok (.aload_n 0, 1) := by decide +kernel
theorem dX3_chargedTo_11 : decode cX3_chargedTo 11 = .ok (.getfield 53, 3) := by decide +kernel
theorem dX3_chargedTo_14 : decode cX3_chargedTo 14 = .ok (.iconst 4, 1) := by decide +kernel
theorem dX3_chargedTo_15 : decode cX3_chargedTo 15 = .ok (.iload_n 1, 1) := by decide +kernel
theorem dX3_chargedTo_16 : decode cX3_chargedTo 16 = .ok (.imul, 1) := by decide +kernel
theorem dX3_chargedTo_17 : decode cX3_chargedTo 17 = .ok (.iload_n 3, 1) := by decide +kernel
theorem dX3_chargedTo_18 : decode cX3_chargedTo 18 = .ok (.iadd, 1) := by decide +kernel
theorem dX3_chargedTo_19 : decode cX3_chargedTo 19 = .ok (.iaload, 1) := by decide +kernel
theorem dX3_chargedTo_20 : decode cX3_chargedTo 20 = .ok (.iadd, 1) := by decide +kernel
theorem dX3_chargedTo_21 : decode cX3_chargedTo 21 = .ok (.istore_n 2, 1) := by decide +kernel
theorem dX3_chargedTo_22 : decode cX3_chargedTo 22 = .ok (.iinc 3 1, 3) := by decide +kernel
theorem dX3_chargedTo_25 : decode cX3_chargedTo 25 = .ok (.goto (-21), 3) := by decide +kernel
theorem dX3_chargedTo_28 : decode cX3_chargedTo 28 = .ok (.iload_n 2, 1) := by decide +kernel
theorem dX3_chargedTo_29 : decode cX3_chargedTo 29 = .ok (.ireturn, 1) := by decide +kernel
set_option maxRecDepth 20000 in
theorem ggX3_liveFault_X3_isSession : GoodIn wsX3_liveFault wsX3_isSession := goodIn_r _ [5, 6, 7, 8, 4, 9, 15, 16, 17, 18, 19, 20, 21, 22, 23, 24, 25, 26, 27, 28, 29, 30, 31, 32, 33, 34, 35, 36, 37] (by decide +kernel) (by decide +kernel)
set_option maxRecDepth 20000 in
theorem gX3_liveFault_X3_isSession : GoodIn wsX3_liveFault (wsV RX3 117 RX3 yX3_isSession wsX3_isSession) := goodIn_app (goodIn_of _ (by decide +kernel)) ggX3_liveFault_X3_isSession
set_option maxRecDepth 20000 in
theorem ggX3_liveFault_X3_isLive : GoodIn wsX3_liveFault wsX3_isLive := goodIn_ca (goodIn_r _ [13, 14, 15, 16, 17, 18, 19, 20, 21, 22, 23, 24, 25, 26, 27, 28, 29, 30, 31, 32, 33, 34, 35, 36, 37] (by decide +kernel) (by decide +kernel)) (goodIn_sub (fun _ h => List.mem_cons_of_mem _ (List.mem_append_right _ h)) (by decide +kernel))
set_option maxRecDepth 20000 in
theorem gX3_liveFault_X3_isLive : GoodIn wsX3_liveFault (wsV RX3 76 RX3 yX3_isLive wsX3_isLive) := goodIn_app (goodIn_of _ (by decide +kernel)) ggX3_liveFault_X3_isLive
theorem dX3_liveFault_0 : decode cX3_liveFault 0 = .ok (.aload_n 0, 1) := by decide +kernel
theorem dX3_liveFault_1 : decode cX3_liveFault 1 = .ok (.iload_n 1, 1) := by decide +kernel
theorem dX3_liveFault_2 : decode cX3_liveFault 2 = .ok (.invokevirtual 117, 3) := by decide +kernel
theorem dX3_liveFault_5 : decode cX3_liveFault 5 = .ok (.ifCond .ne 7, 3) := by decide +kernel
theorem dX3_liveFault_8 : decode cX3_liveFault 8 = .ok (.iconst 1, 1) := by decide +kernel
theorem dX3_liveFault_9 : decode cX3_liveFault 9 = .ok (.goto 16, 3) := by decide +kernel
theorem dX3_liveFault_12 : decode cX3_liveFault 12 = .ok (.aload_n 0, 1) := by decide +kernel
theorem dX3_liveFault_13 : decode cX3_liveFault 13 = .ok (.iload_n 1, 1) := by decide +kernel
theorem dX3_liveFault_14 : decode cX3_liveFault 14 = .ok (.invokevirtual 76, 3) := by decide +kernel
theorem dX3_liveFault_17 : decode cX3_liveFault 17 = .ok (.ifCond .ne 7, 3) := by decide +kernel
theorem dX3_liveFault_20 : decode cX3_liveFault 20 = .ok (.iconst 2, 1) := by decide +kernel
theorem dX3_liveFault_21 : decode cX3_liveFault 21 = .ok (.goto 4, 3) := by decide +kernel
theorem dX3_liveFault_24 : decode cX3_liveFault 24 = .ok (.iconst 0, 1) := by decide +kernel
theorem dX3_liveFault_25 : decode cX3_liveFault 25 = .ok (.ireturn, 1) := by decide +kernel
set_option maxRecDepth 20000 in
theorem ggX3_logOut_X3_liveFault : GoodIn wsX3_logOut wsX3_liveFault := goodIn_ca (goodIn_r _ [6, 7, 8, 9, 5, 10, 11, 12, 13, 14, 15, 16, 17, 18, 1, 40, 41, 42, 43, 44, 45, 46, 47, 48, 49, 50, 51, 52, 53, 54, 55, 56, 57, 58, 59, 60, 61, 62] (by decide +kernel) (by decide +kernel)) (goodIn_sub (fun _ h => List.mem_cons_of_mem _ (List.mem_append_right _ h)) (by decide +kernel))
set_option maxRecDepth 20000 in
theorem gX3_logOut_X3_liveFault : GoodIn wsX3_logOut (wsV RX3 120 RX3 yX3_liveFault wsX3_liveFault) := goodIn_app (goodIn_of _ (by decide +kernel)) ggX3_logOut_X3_liveFault
set_option maxRecDepth 20000 in
theorem ggX3_logOut_X3_goesOn : GoodIn wsX3_logOut wsX3_goesOn := goodIn_r _ [22, 23, 40, 41, 42, 43, 44, 45, 46, 47, 48, 49, 50, 51, 52, 53, 54, 55, 56, 57, 58, 59, 60, 61, 62] (by decide +kernel) (by decide +kernel)
set_option maxRecDepth 20000 in
theorem gX3_logOut_X3_goesOn : GoodIn wsX3_logOut (wsV RX3 83 RX3 yX3_goesOn wsX3_goesOn) := goodIn_app (goodIn_of _ (by decide +kernel)) ggX3_logOut_X3_goesOn
set_option maxRecDepth 20000 in
theorem ggX3_logOut_X3_empties : GoodIn wsX3_logOut wsX3_empties := goodIn_ca (goodIn_r _ [27, 28, 29, 30, 31, 32, 5, 33, 11, 34, 15, 16, 17, 18, 1, 40, 41, 42, 43, 44, 45, 46, 47, 48, 49, 50, 51, 52, 53, 54, 55, 56, 57, 58, 59, 60, 61, 62] (by decide +kernel) (by decide +kernel)) (goodIn_sub (fun _ h => List.mem_cons_of_mem _ (List.mem_append_right _ h)) (by decide +kernel))
set_option maxRecDepth 20000 in
theorem gX3_logOut_X3_empties : GoodIn wsX3_logOut (wsV RX3 93 RX3 yX3_empties wsX3_empties) := goodIn_app (goodIn_of _ (by decide +kernel)) ggX3_logOut_X3_empties
set_option maxRecDepth 20000 in
theorem ggX3_logOut_X3_chargedTo : GoodIn wsX3_logOut wsX3_chargedTo := goodIn_ca (goodIn_r _ [38, 39, 40, 41, 42, 43, 44, 45, 46, 47, 48, 49, 50, 51, 52, 53, 54, 55, 56, 57, 58, 59, 60, 61, 62] (by decide +kernel) (by decide +kernel)) (goodIn_sub (fun _ h => List.mem_cons_of_mem _ (List.mem_append_right _ h)) (by decide +kernel))
set_option maxRecDepth 20000 in
theorem gX3_logOut_X3_chargedTo : GoodIn wsX3_logOut (wsV RX3 123 RX3 yX3_chargedTo wsX3_chargedTo) := goodIn_app (goodIn_of _ (by decide +kernel)) ggX3_logOut_X3_chargedTo
theorem dX3_logOut_0 : decode cX3_logOut 0 = .ok (.aload_n 0, 1) := by decide +kernel
theorem dX3_logOut_1 : decode cX3_logOut 1 = .ok (.aload_n 0, 1) := by decide +kernel
theorem dX3_logOut_2 : decode cX3_logOut 2 = .ok (.iload_n 1, 1) := by decide +kernel
theorem dX3_logOut_3 : decode cX3_logOut 3 = .ok (.invokevirtual 120, 3) := by decide +kernel
theorem dX3_logOut_6 : decode cX3_logOut 6 = .ok (.invokevirtual 83, 3) := by decide +kernel
theorem dX3_logOut_9 : decode cX3_logOut 9 = .ok (.ifCond .ne 5, 3) := by decide +kernel
theorem dX3_logOut_12 : decode cX3_logOut 12 = .ok (.iconst 0, 1) := by decide +kernel
theorem dX3_logOut_13 : decode cX3_logOut 13 = .ok (.ireturn, 1) := by decide +kernel
theorem dX3_logOut_14 : decode cX3_logOut 14 = .ok (.aload_n 0, 1) := by decide +kernel
theorem dX3_logOut_15 : decode cX3_logOut 15 = .ok (.getfield 56, 3) := by decide +kernel
theorem dX3_logOut_18 : decode cX3_logOut 18 = .ok (.iload_n 1, 1) := by decide +kernel
theorem dX3_logOut_19 : decode cX3_logOut 19 = .ok (.bipush 108, 2) := by decide +kernel
theorem dX3_logOut_21 : decode cX3_logOut 21 = .ok (.castore, 1) := by decide +kernel
theorem dX3_logOut_22 : decode cX3_logOut 22 = .ok (.aload_n 0, 1) := by decide +kernel
theorem dX3_logOut_23 : decode cX3_logOut 23 = .ok (.invokevirtual 93, 3) := by decide +kernel
theorem dX3_logOut_26 : decode cX3_logOut 26 = .ok (.aload_n 0, 1) := by decide +kernel
theorem dX3_logOut_27 : decode cX3_logOut 27 = .ok (.iload_n 1, 1) := by decide +kernel
theorem dX3_logOut_28 : decode cX3_logOut 28 = .ok (.invokevirtual 123, 3) := by decide +kernel
theorem dX3_logOut_31 : decode cX3_logOut 31 = .ok (.ireturn, 1) := by decide +kernel
set_option maxRecDepth 20000 in
theorem ggX3_use_X3_liveFault : GoodIn wsX3_use wsX3_liveFault := goodIn_ca (goodIn_r _ [7, 8, 9, 10, 6, 11, 12, 13, 14, 15, 16, 17, 18, 19, 20, 26, 27, 28, 29, 30, 31, 32, 33, 34, 35, 36, 37, 38, 39, 40, 41, 42, 43, 44, 45, 46, 47, 48] (by decide +kernel) (by decide +kernel)) (goodIn_sub (fun _ h => List.mem_cons_of_mem _ (List.mem_append_right _ h)) (by decide +kernel))
set_option maxRecDepth 20000 in
theorem gX3_use_X3_liveFault : GoodIn wsX3_use (wsV RX3 120 RX3 yX3_liveFault wsX3_liveFault) := goodIn_app (goodIn_of _ (by decide +kernel)) ggX3_use_X3_liveFault
set_option maxRecDepth 20000 in
theorem ggX3_use_X3_goesOn : GoodIn wsX3_use wsX3_goesOn := goodIn_r _ [24, 25, 26, 27, 28, 29, 30, 31, 32, 33, 34, 35, 36, 37, 38, 39, 40, 41, 42, 43, 44, 45, 46, 47, 48] (by decide +kernel) (by decide +kernel)
set_option maxRecDepth 20000 in
theorem gX3_use_X3_goesOn : GoodIn wsX3_use (wsV RX3 83 RX3 yX3_goesOn wsX3_goesOn) := goodIn_app (goodIn_of _ (by decide +kernel)) ggX3_use_X3_goesOn
theorem dX3_use_0 : decode cX3_use 0 = .ok (.aload_n 0, 1) := by decide +kernel
theorem dX3_use_1 : decode cX3_use 1 = .ok (.aload_n 0, 1) := by decide +kernel
theorem dX3_use_2 : decode cX3_use 2 = .ok (.iload_n 1, 1) := by decide +kernel
theorem dX3_use_3 : decode cX3_use 3 = .ok (.invokevirtual 120, 3) := by decide +kernel
theorem dX3_use_6 : decode cX3_use 6 = .ok (.invokevirtual 83, 3) := by decide +kernel
theorem dX3_use_9 : decode cX3_use 9 = .ok (.ifCond .ne 5, 3) := by decide +kernel
theorem dX3_use_12 : decode cX3_use 12 = .ok (.iconst 0, 1) := by decide +kernel
theorem dX3_use_13 : decode cX3_use 13 = .ok (.ireturn, 1) := by decide +kernel
theorem dX3_use_14 : decode cX3_use 14 = .ok (.aload_n 0, 1) := by decide +kernel
theorem dX3_use_15 : decode cX3_use 15 = .ok (.getfield 50, 3) := by decide +kernel
theorem dX3_use_18 : decode cX3_use 18 = .ok (.iload_n 1, 1) := by decide +kernel
theorem dX3_use_19 : decode cX3_use 19 = .ok (.iaload, 1) := by decide +kernel
theorem dX3_use_20 : decode cX3_use 20 = .ok (.istore_n 2, 1) := by decide +kernel
theorem dX3_use_21 : decode cX3_use 21 = .ok (.aload_n 0, 1) := by decide +kernel
theorem dX3_use_22 : decode cX3_use 22 = .ok (.getfield 50, 3) := by decide +kernel
theorem dX3_use_25 : decode cX3_use 25 = .ok (.iload_n 1, 1) := by decide +kernel
theorem dX3_use_26 : decode cX3_use 26 = .ok (.aload_n 0, 1) := by decide +kernel
theorem dX3_use_27 : decode cX3_use 27 = .ok (.getfield 114, 3) := by decide +kernel
theorem dX3_use_30 : decode cX3_use 30 = .ok (.iastore, 1) := by decide +kernel
theorem dX3_use_31 : decode cX3_use 31 = .ok (.aload_n 0, 1) := by decide +kernel
theorem dX3_use_32 : decode cX3_use 32 = .ok (.getfield 114, 3) := by decide +kernel
theorem dX3_use_35 : decode cX3_use 35 = .ok (.iload_n 2, 1) := by decide +kernel
theorem dX3_use_36 : decode cX3_use 36 = .ok (.isub, 1) := by decide +kernel
theorem dX3_use_37 : decode cX3_use 37 = .ok (.ireturn, 1) := by decide +kernel
set_option maxRecDepth 20000 in
theorem ggX3_takeOver_X3_isSession : GoodIn wsX3_takeOver wsX3_isSession := goodIn_r _ [10, 11, 12, 13, 9, 14, 28, 29, 30, 31, 32, 33, 34, 35, 36, 37, 38, 39, 40, 41, 42, 43, 44, 45, 46, 47, 48, 49, 50] (by decide +kernel) (by decide +kernel)
set_option maxRecDepth 20000 in
theorem gX3_takeOver_X3_isSession : GoodIn wsX3_takeOver (wsV RX3 117 RX3 yX3_isSession wsX3_isSession) := goodIn_app (goodIn_of _ (by decide +kernel)) ggX3_takeOver_X3_isSession
set_option maxRecDepth 20000 in
theorem ggX3_takeOver_X3_isUser : GoodIn wsX3_takeOver wsX3_isUser := goodIn_r _ [17, 12, 13, 9, 14] (by decide +kernel) (by decide +kernel)
set_option maxRecDepth 20000 in
theorem gX3_takeOver_X3_isUser : GoodIn wsX3_takeOver (va_wsS RX3 99 yX3_isUser wsX3_isUser) := goodIn_app (goodIn_of _ (by decide +kernel)) ggX3_takeOver_X3_isUser
set_option maxRecDepth 20000 in
theorem ggX3_takeOver_X3_isLive : GoodIn wsX3_takeOver wsX3_isLive := goodIn_ca (goodIn_r _ [21, 22, 28, 29, 30, 31, 32, 33, 34, 35, 36, 37, 38, 39, 40, 41, 42, 43, 44, 45, 46, 47, 48, 49, 50] (by decide +kernel) (by decide +kernel)) (goodIn_sub (fun _ h => List.mem_cons_of_mem _ (List.mem_append_right _ h)) (by decide +kernel))
set_option maxRecDepth 20000 in
theorem gX3_takeOver_X3_isLive : GoodIn wsX3_takeOver (wsV RX3 76 RX3 yX3_isLive wsX3_isLive) := goodIn_app (goodIn_of _ (by decide +kernel)) ggX3_takeOver_X3_isLive
set_option maxRecDepth 20000 in
theorem ggX3_takeOver_X3_goesOn : GoodIn wsX3_takeOver wsX3_goesOn := goodIn_r _ [26, 27, 28, 29, 30, 31, 32, 33, 34, 35, 36, 37, 38, 39, 40, 41, 42, 43, 44, 45, 46, 47, 48, 49, 50] (by decide +kernel) (by decide +kernel)
set_option maxRecDepth 20000 in
theorem gX3_takeOver_X3_goesOn : GoodIn wsX3_takeOver (wsV RX3 83 RX3 yX3_goesOn wsX3_goesOn) := goodIn_app (goodIn_of _ (by decide +kernel)) ggX3_takeOver_X3_goesOn
theorem dX3_takeOver_0 : decode cX3_takeOver 0 = .ok (.aload_n 0, 1) := by decide +kernel
theorem dX3_takeOver_1 : decode cX3_takeOver 1 = .ok (.iload_n 1, 1) := by decide +kernel
theorem dX3_takeOver_2 : decode cX3_takeOver 2 = .ok (.invokevirtual 117, 3) := by decide +kernel
theorem dX3_takeOver_5 : decode cX3_takeOver 5 = .ok (.ifCond .ne 7, 3) := by decide +kernel
theorem dX3_takeOver_8 : decode cX3_takeOver 8 = .ok (.iconst 1, 1) := by decide +kernel
theorem dX3_takeOver_9 : decode cX3_takeOver 9 = .ok (.goto 55, 3) := by decide +kernel
theorem dX3_takeOver_12 : decode cX3_takeOver 12 = .ok (.iload_n 2, 1) := by decide +kernel
theorem dX3_takeOver_13 : decode cX3_takeOver 13 = .ok (.invokestatic 99, 3) := by decide +kernel
theorem dX3_takeOver_16 : decode cX3_takeOver 16 = .ok (.ifCond .eq 13, 3) := by decide +kernel
theorem dX3_takeOver_19 : decode cX3_takeOver 19 = .ok (.aload_n 0, 1) := by decide +kernel
theorem dX3_takeOver_20 : decode cX3_takeOver 20 = .ok (.getfield 41, 3) := by decide +kernel
theorem dX3_takeOver_23 : decode cX3_takeOver 23 = .ok (.iload_n 1, 1) := by decide +kernel
theorem dX3_takeOver_24 : decode cX3_takeOver 24 = .ok (.iaload, 1) := by decide +kernel
theorem dX3_takeOver_25 : decode cX3_takeOver 25 = .ok (.iload_n 2, 1) := by decide +kernel
theorem dX3_takeOver_26 : decode cX3_takeOver 26 = .ok (.if_icmp .ne 7, 3) := by decide +kernel
theorem dX3_takeOver_29 : decode cX3_takeOver 29 = .ok (.iconst 2, 1) := by decide +kernel
theorem dX3_takeOver_30 : decode cX3_takeOver 30 = .ok (.goto 34, 3) := by decide +kernel
theorem dX3_takeOver_33 : decode cX3_takeOver 33 = .ok (.aload_n 0, 1) := by decide +kernel
theorem dX3_takeOver_34 : decode cX3_takeOver 34 = .ok (.iload_n 1, 1) := by decide +kernel
theorem dX3_takeOver_35 : decode cX3_takeOver 35 = .ok (.invokevirtual 76, 3) := by decide +kernel
theorem dX3_takeOver_38 : decode cX3_takeOver 38 = .ok (.ifCond .ne 7, 3) := by decide +kernel
theorem dX3_takeOver_41 : decode cX3_takeOver 41 = .ok (.iconst 3, 1) := by decide +kernel
theorem dX3_takeOver_42 : decode cX3_takeOver 42 = .ok (.goto 22, 3) := by decide +kernel
theorem dX3_takeOver_45 : decode cX3_takeOver 45 = .ok (.aload_n 0, 1) := by decide +kernel
theorem dX3_takeOver_46 : decode cX3_takeOver 46 = .ok (.getfield 29, 3) := by decide +kernel
theorem dX3_takeOver_49 : decode cX3_takeOver 49 = .ok (.aload_n 0, 1) := by decide +kernel
theorem dX3_takeOver_50 : decode cX3_takeOver 50 = .ok (.getfield 35, 3) := by decide +kernel
theorem dX3_takeOver_53 : decode cX3_takeOver 53 = .ok (.iload_n 2, 1) := by decide +kernel
theorem dX3_takeOver_54 : decode cX3_takeOver 54 = .ok (.iaload, 1) := by decide +kernel
theorem dX3_takeOver_55 : decode cX3_takeOver 55 = .ok (.iaload, 1) := by decide +kernel
theorem dX3_takeOver_56 : decode cX3_takeOver 56 = .ok (.ifCond .ne 7, 3) := by decide +kernel
theorem dX3_takeOver_59 : decode cX3_takeOver 59 = .ok (.iconst 4, 1) := by decide +kernel
theorem dX3_takeOver_60 : decode cX3_takeOver 60 = .ok (.goto 4, 3) := by decide +kernel
theorem dX3_takeOver_63 : decode cX3_takeOver 63 = .ok (.iconst 0, 1) := by decide +kernel
theorem dX3_takeOver_64 : decode cX3_takeOver 64 = .ok (.istore_n 3, 1) := by decide +kernel
theorem dX3_takeOver_65 : decode cX3_takeOver 65 = .ok (.aload_n 0, 1) := by decide +kernel
theorem dX3_takeOver_66 : decode cX3_takeOver 66 = .ok (.iload_n 3, 1) := by decide +kernel
theorem dX3_takeOver_67 : decode cX3_takeOver 67 = .ok (.invokevirtual 83, 3) := by decide +kernel
theorem dX3_takeOver_70 : decode cX3_takeOver 70 = .ok (.ifCond .ne 5, 3) := by decide +kernel
theorem dX3_takeOver_73 : decode cX3_takeOver 73 = .ok (.iconst 0, 1) := by decide +kernel
theorem dX3_takeOver_74 : decode cX3_takeOver 74 = .ok (.ireturn, 1) := by decide +kernel
theorem dX3_takeOver_75 : decode cX3_takeOver 75 = .ok (.aload_n 0, 1) := by decide +kernel
theorem dX3_takeOver_76 : decode cX3_takeOver 76 = .ok (.getfield 41, 3) := by decide +kernel
theorem dX3_takeOver_79 : decode cX3_takeOver 79 = .ok (.iload_n 1, 1) := by decide +kernel
theorem dX3_takeOver_80 : decode cX3_takeOver 80 = .ok (.iaload, 1) := by decide +kernel
theorem dX3_takeOver_81 : decode cX3_takeOver 81 = .ok (.istore 4, 2) := by decide +kernel
theorem dX3_takeOver_83 : decode cX3_takeOver 83 = .ok (.aload_n 0, 1) := by decide +kernel
theorem dX3_takeOver_84 : decode cX3_takeOver 84 = .ok (.getfield 41, 3) := by decide +kernel
theorem dX3_takeOver_87 : decode cX3_takeOver 87 = .ok (.iload_n 1, 1) := by decide +kernel
theorem dX3_takeOver_88 : decode cX3_takeOver 88 = .ok (.iload_n 2, 1) := by decide +kernel
theorem dX3_takeOver_89 : decode cX3_takeOver 89 = .ok (.iastore, 1) := by decide +kernel
theorem dX3_takeOver_90 : decode cX3_takeOver 90 = .ok (.aload_n 0, 1) := by decide +kernel
theorem dX3_takeOver_91 : decode cX3_takeOver 91 = .ok (.getfield 50, 3) := by decide +kernel
theorem dX3_takeOver_94 : decode cX3_takeOver 94 = .ok (.iload_n 1, 1) := by decide +kernel
theorem dX3_takeOver_95 : decode cX3_takeOver 95 = .ok (.aload_n 0, 1) := by decide +kernel
theorem dX3_takeOver_96 : decode cX3_takeOver 96 = .ok (.getfield 114, 3) := by decide +kernel
theorem dX3_takeOver_99 : decode cX3_takeOver 99 = .ok (.iastore, 1) := by decide +kernel
theorem dX3_takeOver_100 : decode cX3_takeOver 100 = .ok (.iload 4, 2) := by decide +kernel
theorem dX3_takeOver_102 : decode cX3_takeOver 102 = .ok (.ireturn, 1) := by decide +kernel
set_option maxRecDepth 20000 in
theorem ggX3_handBack_X3_liveFault : GoodIn wsX3_handBack wsX3_liveFault := goodIn_ca (goodIn_r _ [9, 10, 11, 12, 8, 13, 14, 15, 16, 17, 18, 19, 20, 21, 22, 28, 29, 30, 31, 32, 33, 34, 35, 36, 37, 38, 39, 40, 41, 42, 43, 44, 45, 46, 47, 48, 49, 50] (by decide +kernel) (by decide +kernel)) (goodIn_sub (fun _ h => List.mem_cons_of_mem _ (List.mem_append_right _ h)) (by decide +kernel))
set_option maxRecDepth 20000 in
theorem gX3_handBack_X3_liveFault : GoodIn wsX3_handBack (wsV RX3 120 RX3 yX3_liveFault wsX3_liveFault) := goodIn_app (goodIn_of _ (by decide +kernel)) ggX3_handBack_X3_liveFault
set_option maxRecDepth 20000 in
theorem ggX3_handBack_X3_goesOn : GoodIn wsX3_handBack wsX3_goesOn := goodIn_r _ [26, 27, 28, 29, 30, 31, 32, 33, 34, 35, 36, 37, 38, 39, 40, 41, 42, 43, 44, 45, 46, 47, 48, 49, 50] (by decide +kernel) (by decide +kernel)
set_option maxRecDepth 20000 in
theorem gX3_handBack_X3_goesOn : GoodIn wsX3_handBack (wsV RX3 83 RX3 yX3_goesOn wsX3_goesOn) := goodIn_app (goodIn_of _ (by decide +kernel)) ggX3_handBack_X3_goesOn
theorem dX3_handBack_0 : decode cX3_handBack 0 = .ok (.aload_n 0, 1) := by decide +kernel
theorem dX3_handBack_1 : decode cX3_handBack 1 = .ok (.iload_n 1, 1) := by decide +kernel
theorem dX3_handBack_2 : decode cX3_handBack 2 = .ok (.invokevirtual 120, 3) := by decide +kernel
theorem dX3_handBack_5 : decode cX3_handBack 5 = .ok (.istore_n 2, 1) := by decide +kernel
theorem dX3_handBack_6 : decode cX3_handBack 6 = .ok (.aload_n 0, 1) := by decide +kernel
theorem dX3_handBack_7 : decode cX3_handBack 7 = .ok (.iload_n 2, 1) := by decide +kernel
theorem dX3_handBack_8 : decode cX3_handBack 8 = .ok (.ifCond .ne 22, 3) := by decide +kernel
theorem dX3_handBack_11 : decode cX3_handBack 11 = .ok (.aload_n 0, 1) := by decide +kernel
theorem dX3_handBack_12 : decode cX3_handBack 12 = .ok (.getfield 41, 3) := by decide +kernel
theorem dX3_handBack_15 : decode cX3_handBack 15 = .ok (.iload_n 1, 1) := by decide +kernel
theorem dX3_handBack_16 : decode cX3_handBack 16 = .ok (.iaload, 1) := by decide +kernel
theorem dX3_handBack_17 : decode cX3_handBack 17 = .ok (.aload_n 0, 1) := by decide +kernel
theorem dX3_handBack_18 : decode cX3_handBack 18 = .ok (.getfield 38, 3) := by decide +kernel
theorem dX3_handBack_21 : decode cX3_handBack 21 = .ok (.iload_n 1, 1) := by decide +kernel
theorem dX3_handBack_22 : decode cX3_handBack 22 = .ok (.iaload, 1) := by decide +kernel
theorem dX3_handBack_23 : decode cX3_handBack 23 = .ok (.if_icmp .ne 7, 3) := by decide +kernel
theorem dX3_handBack_26 : decode cX3_handBack 26 = .ok (.iconst 2, 1) := by decide +kernel
theorem dX3_handBack_27 : decode cX3_handBack 27 = .ok (.goto 4, 3) := by decide +kernel
theorem dX3_handBack_30 : decode cX3_handBack 30 = .ok (.iload_n 2, 1) := by decide +kernel
theorem dX3_handBack_31 : decode cX3_handBack 31 = .ok (.invokevirtual 83, 3) := by decide +kernel
theorem dX3_handBack_34 : decode cX3_handBack 34 = .ok (.ifCond .ne 5, 3) := by decide +kernel
theorem dX3_handBack_37 : decode cX3_handBack 37 = .ok (.iconst 0, 1) := by decide +kernel
theorem dX3_handBack_38 : decode cX3_handBack 38 = .ok (.ireturn, 1) := by decide +kernel
theorem dX3_handBack_39 : decode cX3_handBack 39 = .ok (.aload_n 0, 1) := by decide +kernel
theorem dX3_handBack_40 : decode cX3_handBack 40 = .ok (.getfield 41, 3) := by decide +kernel
theorem dX3_handBack_43 : decode cX3_handBack 43 = .ok (.iload_n 1, 1) := by decide +kernel
theorem dX3_handBack_44 : decode cX3_handBack 44 = .ok (.iaload, 1) := by decide +kernel
theorem dX3_handBack_45 : decode cX3_handBack 45 = .ok (.istore_n 3, 1) := by decide +kernel
theorem dX3_handBack_46 : decode cX3_handBack 46 = .ok (.aload_n 0, 1) := by decide +kernel
theorem dX3_handBack_47 : decode cX3_handBack 47 = .ok (.getfield 41, 3) := by decide +kernel
theorem dX3_handBack_50 : decode cX3_handBack 50 = .ok (.iload_n 1, 1) := by decide +kernel
theorem dX3_handBack_51 : decode cX3_handBack 51 = .ok (.aload_n 0, 1) := by decide +kernel
theorem dX3_handBack_52 : decode cX3_handBack 52 = .ok (.getfield 38, 3) := by decide +kernel
theorem dX3_handBack_55 : decode cX3_handBack 55 = .ok (.iload_n 1, 1) := by decide +kernel
theorem dX3_handBack_56 : decode cX3_handBack 56 = .ok (.iaload, 1) := by decide +kernel
theorem dX3_handBack_57 : decode cX3_handBack 57 = .ok (.iastore, 1) := by decide +kernel
theorem dX3_handBack_58 : decode cX3_handBack 58 = .ok (.aload_n 0, 1) := by decide +kernel
theorem dX3_handBack_59 : decode cX3_handBack 59 = .ok (.getfield 50, 3) := by decide +kernel
theorem dX3_handBack_62 : decode cX3_handBack 62 = .ok (.iload_n 1, 1) := by decide +kernel
theorem dX3_handBack_63 : decode cX3_handBack 63 = .ok (.aload_n 0, 1) := by decide +kernel
theorem dX3_handBack_64 : decode cX3_handBack 64 = .ok (.getfield 114, 3) := by decide +kernel
theorem dX3_handBack_67 : decode cX3_handBack 67 = .ok (.iastore, 1) := by decide +kernel
theorem dX3_handBack_68 : decode cX3_handBack 68 = .ok (.iload_n 3, 1) := by decide +kernel
theorem dX3_handBack_69 : decode cX3_handBack 69 = .ok (.ireturn, 1) := by decide +kernel
theorem dX3_charges_0 : decode cX3_charges 0 = .ok (.aload_n 0, 1) := by decide +kernel
theorem dX3_charges_1 : decode cX3_charges 1 = .ok (.getfield 35, 3) := by decide +kernel
theorem dX3_charges_4 : decode cX3_charges 4 = .ok (.aload_n 0, 1) := by decide +kernel
theorem dX3_charges_5 : decode cX3_charges 5 = .ok (.getfield 41, 3) := by decide +kernel
theorem dX3_charges_8 : decode cX3_charges 8 = .ok (.iload_n 1, 1) := by decide +kernel
theorem dX3_charges_9 : decode cX3_charges 9 = .ok (.iaload, 1) := by decide +kernel
theorem dX3_charges_10 : decode cX3_charges 10 = .ok (.iaload, 1) := by decide +kernel
theorem dX3_charges_11 : decode cX3_charges 11 = .ok (.istore_n 3, 1) := by decide +kernel
theorem dX3_charges_12 : decode cX3_charges 12 = .ok (.aload_n 0, 1) := by decide +kernel
theorem dX3_charges_13 : decode cX3_charges 13 = .ok (.getfield 29, 3) := by decide +kernel
theorem dX3_charges_16 : decode cX3_charges 16 = .ok (.iload_n 3, 1) := by decide +kernel
theorem dX3_charges_17 : decode cX3_charges 17 = .ok (.dup2, 1) := by decide +kernel
theorem dX3_charges_18 : decode cX3_charges 18 = .ok (.iaload, 1) := by decide +kernel
theorem dX3_charges_19 : decode cX3_charges 19 = .ok (.iload_n 2, 1) := by decide +kernel
theorem dX3_charges_20 : decode cX3_charges 20 = .ok (.isub, 1) := by decide +kernel
theorem dX3_charges_21 : decode cX3_charges 21 = .ok (.iastore, 1) := by decide +kernel
theorem dX3_charges_22 : decode cX3_charges 22 = .ok (.aload_n 0, 1) := by decide +kernel
theorem dX3_charges_23 : decode cX3_charges 23 = .ok (.getfield 53, 3) := by decide +kernel
theorem dX3_charges_26 : decode cX3_charges 26 = .ok (.iconst 4, 1) := by decide +kernel
theorem dX3_charges_27 : decode cX3_charges 27 = .ok (.iload_n 1, 1) := by decide +kernel
theorem dX3_charges_28 : decode cX3_charges 28 = .ok (.imul, 1) := by decide +kernel
theorem dX3_charges_29 : decode cX3_charges 29 = .ok (.iload_n 3, 1) := by decide +kernel
theorem dX3_charges_30 : decode cX3_charges 30 = .ok (.iadd, 1) := by decide +kernel
theorem dX3_charges_31 : decode cX3_charges 31 = .ok (.dup2, 1) := by decide +kernel
theorem dX3_charges_32 : decode cX3_charges 32 = .ok (.iaload, 1) := by decide +kernel
theorem dX3_charges_33 : decode cX3_charges 33 = .ok (.iload_n 2, 1) := by decide +kernel
theorem dX3_charges_34 : decode cX3_charges 34 = .ok (.iadd, 1) := by decide +kernel
theorem dX3_charges_35 : decode cX3_charges 35 = .ok (.iastore, 1) := by decide +kernel
theorem dX3_charges_36 : decode cX3_charges 36 = .ok (.aload_n 0, 1) := by decide +kernel
theorem dX3_charges_37 : decode cX3_charges 37 = .ok (.dup, 1) := by decide +kernel
theorem dX3_charges_38 : decode cX3_charges 38 = .ok (.getfield 126, 3) := by decide +kernel
theorem dX3_charges_41 : decode cX3_charges 41 = .ok (.iload_n 2, 1) := by decide +kernel
theorem dX3_charges_42 : decode cX3_charges 42 = .ok (.iadd, 1) := by decide +kernel
theorem dX3_charges_43 : decode cX3_charges 43 = .ok (.putfield 126, 3) := by decide +kernel
theorem dX3_charges_46 : decode cX3_charges 46 = .ok (.return_, 1) := by decide +kernel
set_option maxRecDepth 20000 in
theorem ggX3_print_X3_isSession : GoodIn wsX3_print wsX3_isSession := goodIn_r _ [14, 15, 16, 17, 13, 18, 35, 36, 37, 38, 39, 40, 41, 42, 43, 44, 45, 46, 47, 48, 49, 50, 51, 52, 53, 54, 55, 56, 57] (by decide +kernel) (by decide +kernel)
set_option maxRecDepth 20000 in
theorem gX3_print_X3_isSession : GoodIn wsX3_print (wsV RX3 117 RX3 yX3_isSession wsX3_isSession) := goodIn_app (goodIn_of _ (by decide +kernel)) ggX3_print_X3_isSession
set_option maxRecDepth 20000 in
theorem ggX3_print_X3_in : GoodIn wsX3_print wsX3_in := goodIn_r _ [18] (by decide +kernel) (by decide +kernel)
set_option maxRecDepth 20000 in
theorem gX3_print_X3_in : GoodIn wsX3_print (va_wsS RX3 66 yX3_in wsX3_in) := goodIn_app (goodIn_of _ (by decide +kernel)) ggX3_print_X3_in
set_option maxRecDepth 20000 in
theorem ggX3_print_X3_isLive : GoodIn wsX3_print wsX3_isLive := goodIn_ca (goodIn_r _ [22, 23, 35, 36, 37, 38, 39, 40, 41, 42, 43, 44, 45, 46, 47, 48, 49, 50, 51, 52, 53, 54, 55, 56, 57] (by decide +kernel) (by decide +kernel)) (goodIn_sub (fun _ h => List.mem_cons_of_mem _ (List.mem_append_right _ h)) (by decide +kernel))
set_option maxRecDepth 20000 in
theorem gX3_print_X3_isLive : GoodIn wsX3_print (wsV RX3 76 RX3 yX3_isLive wsX3_isLive) := goodIn_app (goodIn_of _ (by decide +kernel)) ggX3_print_X3_isLive
set_option maxRecDepth 20000 in
theorem ggX3_print_X3_goesOn : GoodIn wsX3_print wsX3_goesOn := goodIn_r _ [27, 28, 35, 36, 37, 38, 39, 40, 41, 42, 43, 44, 45, 46, 47, 48, 49, 50, 51, 52, 53, 54, 55, 56, 57] (by decide +kernel) (by decide +kernel)
set_option maxRecDepth 20000 in
theorem gX3_print_X3_goesOn : GoodIn wsX3_print (wsV RX3 83 RX3 yX3_goesOn wsX3_goesOn) := goodIn_app (goodIn_of _ (by decide +kernel)) ggX3_print_X3_goesOn
set_option maxRecDepth 20000 in
theorem ggX3_print_X3_charges : GoodIn wsX3_print wsX3_charges := goodIn_ca (goodIn_r _ [32, 2, 3, 1, 33, 34, 35, 36, 37, 38, 39, 40, 41, 42, 43, 44, 45, 46, 47, 48, 49, 50, 51, 52, 53, 54, 55, 56, 57] (by decide +kernel) (by decide +kernel)) (goodIn_sub (fun _ h => List.mem_cons_of_mem _ (List.mem_append_right _ h)) (by decide +kernel))
set_option maxRecDepth 20000 in
theorem gX3_print_X3_charges : GoodIn wsX3_print (wsV RX3 129 RX3 yX3_charges wsX3_charges) := goodIn_app (goodIn_of _ (by decide +kernel)) ggX3_print_X3_charges
