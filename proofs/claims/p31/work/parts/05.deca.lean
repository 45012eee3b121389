theorem dX0_init_0 : decode cX0_init 0 = .ok (.aload_n 0, 1) := by decide +kernel
theorem dX0_init_1 : decode cX0_init 1 = .ok (.invokespecial 3, 3) := by decide +kernel
theorem dX0_init_4 : decode cX0_init 4 = .ok (.aload_n 0, 1) := by decide +kernel
theorem dX0_init_5 : decode cX0_init 5 = .ok (.bipush 117, 2) := by decide +kernel
theorem dX0_init_7 : decode cX0_init 7 = .ok (.putfield 9, 3) := by decide +kernel
theorem dX0_init_10 : decode cX0_init 10 = .ok (.aload_n 0, 1) := by decide +kernel
theorem dX0_init_11 : decode cX0_init 11 = .ok (.iconst 0, 1) := by decide +kernel
theorem dX0_init_12 : decode cX0_init 12 = .ok (.putfield 15, 3) := by decide +kernel
theorem dX0_init_15 : decode cX0_init 15 = .ok (.aload_n 0, 1) := by decide +kernel
theorem dX0_init_16 : decode cX0_init 16 = .ok (.iload_n 1, 1) := by decide +kernel
theorem dX0_init_17 : decode cX0_init 17 = .ok (.putfield 19, 3) := by decide +kernel
theorem dX0_init_20 : decode cX0_init 20 = .ok (.aload_n 0, 1) := by decide +kernel
theorem dX0_init_21 : decode cX0_init 21 = .ok (.iload_n 2, 1) := by decide +kernel
theorem dX0_init_22 : decode cX0_init 22 = .ok (.putfield 22, 3) := by decide +kernel
theorem dX0_init_25 : decode cX0_init 25 = .ok (.aload_n 0, 1) := by decide +kernel
theorem dX0_init_26 : decode cX0_init 26 = .ok (.iload_n 3, 1) := by decide +kernel
theorem dX0_init_27 : decode cX0_init 27 = .ok (.putfield 25, 3) := by decide +kernel
theorem dX0_init_30 : decode cX0_init 30 = .ok (.aload_n 0, 1) := by decide +kernel
theorem dX0_init_31 : decode cX0_init 31 = .ok (.iload 4, 2) := by decide +kernel
theorem dX0_init_33 : decode cX0_init 33 = .ok (.putfield 28, 3) := by decide +kernel
theorem dX0_init_36 : decode cX0_init 36 = .ok (.return_, 1) := by decide +kernel
theorem dX0_freeSeats_0 : decode cX0_freeSeats 0 = .ok (.aload_n 0, 1) := by decide +kernel
theorem dX0_freeSeats_1 : decode cX0_freeSeats 1 = .ok (.getfield 28, 3) := by decide +kernel
theorem dX0_freeSeats_4 : decode cX0_freeSeats 4 = .ok (.aload_n 0, 1) := by decide +kernel
theorem dX0_freeSeats_5 : decode cX0_freeSeats 5 = .ok (.getfield 15, 3) := by decide +kernel
theorem dX0_freeSeats_8 : decode cX0_freeSeats 8 = .ok (.isub, 1) := by decide +kernel
theorem dX0_freeSeats_9 : decode cX0_freeSeats 9 = .ok (.ireturn, 1) := by decide +kernel
theorem dX0_serves_0 : decode cX0_serves 0 = .ok (.aload_n 0, 1) := by decide +kernel
theorem dX0_serves_1 : decode cX0_serves 1 = .ok (.getfield 9, 3) := by decide +kernel
theorem dX0_serves_4 : decode cX0_serves 4 = .ok (.bipush 117, 2) := by decide +kernel
theorem dX0_serves_6 : decode cX0_serves 6 = .ok (.if_icmp .ne 15, 3) := by decide +kernel
theorem dX0_serves_9 : decode cX0_serves 9 = .ok (.aload_n 0, 1) := by decide +kernel
theorem dX0_serves_10 : decode cX0_serves 10 = .ok (.getfield 22, 3) := by decide +kernel
theorem dX0_serves_13 : decode cX0_serves 13 = .ok (.iload_n 1, 1) := by decide +kernel
theorem dX0_serves_14 : decode cX0_serves 14 = .ok (.if_icmp .ne 7, 3) := by decide +kernel
theorem dX0_serves_17 : decode cX0_serves 17 = .ok (.iconst 1, 1) := by decide +kernel
theorem dX0_serves_18 : decode cX0_serves 18 = .ok (.goto 4, 3) := by decide +kernel
theorem dX0_serves_21 : decode cX0_serves 21 = .ok (.iconst 0, 1) := by decide +kernel
theorem dX0_serves_22 : decode cX0_serves 22 = .ok (.ireturn, 1) := by decide +kernel
theorem dX0_repairWhenEmpty_0 : decode cX0_repairWhenEmpty 0 = .ok (.aload_n 0, 1) := by decide +kernel
theorem dX0_repairWhenEmpty_1 : decode cX0_repairWhenEmpty 1 = .ok (.getfield 9, 3) := by decide +kernel
theorem dX0_repairWhenEmpty_4 : decode cX0_repairWhenEmpty 4 = .ok (.bipush 103, 2) := by decide +kernel
theorem dX0_repairWhenEmpty_6 : decode cX0_repairWhenEmpty 6 = .ok (.if_icmp .ne 16, 3) := by decide +kernel
theorem dX0_repairWhenEmpty_9 : decode cX0_repairWhenEmpty 9 = .ok (.aload_n 0, 1) := by decide +kernel
theorem dX0_repairWhenEmpty_10 : decode cX0_repairWhenEmpty 10 = .ok (.getfield 15, 3) := by decide +kernel
theorem dX0_repairWhenEmpty_13 : decode cX0_repairWhenEmpty 13 = .ok (.ifCond .ne 9, 3) := by decide +kernel
theorem dX0_repairWhenEmpty_16 : decode cX0_repairWhenEmpty 16 = .ok (.aload_n 0, 1) := by decide +kernel
theorem dX0_repairWhenEmpty_17 : decode cX0_repairWhenEmpty 17 = .ok (.bipush 109, 2) := by decide +kernel
theorem dX0_repairWhenEmpty_19 : decode cX0_repairWhenEmpty 19 = .ok (.putfield 9, 3) := by decide +kernel
theorem dX0_repairWhenEmpty_22 : decode cX0_repairWhenEmpty 22 = .ok (.return_, 1) := by decide +kernel
theorem dX1_init_0 : decode cX1_init 0 = .ok (.aload_n 0, 1) := by decide +kernel
theorem dX1_init_1 : decode cX1_init 1 = .ok (.invokespecial 3, 3) := by decide +kernel
theorem dX1_init_4 : decode cX1_init 4 = .ok (.aload_n 0, 1) := by decide +kernel
theorem dX1_init_5 : decode cX1_init 5 = .ok (.iconst 4, 1) := by decide +kernel
theorem dX1_init_6 : decode cX1_init 6 = .ok (.newarray .int, 2) := by decide +kernel
theorem dX1_init_8 : decode cX1_init 8 = .ok (.putfield 9, 3) := by decide +kernel
theorem dX1_init_11 : decode cX1_init 11 = .ok (.aload_n 0, 1) := by decide +kernel
theorem dX1_init_12 : decode cX1_init 12 = .ok (.bipush 97, 2) := by decide +kernel
theorem dX1_init_14 : decode cX1_init 14 = .ok (.putfield 15, 3) := by decide +kernel
theorem dX1_init_17 : decode cX1_init 17 = .ok (.aload_n 0, 1) := by decide +kernel
theorem dX1_init_18 : decode cX1_init 18 = .ok (.iload_n 1, 1) := by decide +kernel
theorem dX1_init_19 : decode cX1_init 19 = .ok (.putfield 19, 3) := by decide +kernel
theorem dX1_init_22 : decode cX1_init 22 = .ok (.aload_n 0, 1) := by decide +kernel
theorem dX1_init_23 : decode cX1_init 23 = .ok (.aload_n 2, 1) := by decide +kernel
theorem dX1_init_24 : decode cX1_init 24 = .ok (.putfield 23, 3) := by decide +kernel
theorem dX1_init_27 : decode cX1_init 27 = .ok (.aload_n 0, 1) := by decide +kernel
theorem dX1_init_28 : decode cX1_init 28 = .ok (.iload_n 3, 1) := by decide +kernel
theorem dX1_init_29 : decode cX1_init 29 = .ok (.putfield 27, 3) := by decide +kernel
theorem dX1_init_32 : decode cX1_init 32 = .ok (.aload_n 0, 1) := by decide +kernel
theorem dX1_init_33 : decode cX1_init 33 = .ok (.iload_n 1, 1) := by decide +kernel
theorem dX1_init_34 : decode cX1_init 34 = .ok (.putfield 30, 3) := by decide +kernel
theorem dX1_init_37 : decode cX1_init 37 = .ok (.aload_n 0, 1) := by decide +kernel
theorem dX1_init_38 : decode cX1_init 38 = .ok (.iload_n 3, 1) := by decide +kernel
theorem dX1_init_39 : decode cX1_init 39 = .ok (.putfield 33, 3) := by decide +kernel
theorem dX1_init_42 : decode cX1_init 42 = .ok (.return_, 1) := by decide +kernel
theorem dX1_isLive_0 : decode cX1_isLive 0 = .ok (.aload_n 0, 1) := by decide +kernel
theorem dX1_isLive_1 : decode cX1_isLive 1 = .ok (.getfield 15, 3) := by decide +kernel
theorem dX1_isLive_4 : decode cX1_isLive 4 = .ok (.bipush 97, 2) := by decide +kernel
theorem dX1_isLive_6 : decode cX1_isLive 6 = .ok (.if_icmp .ne 7, 3) := by decide +kernel
theorem dX1_isLive_9 : decode cX1_isLive 9 = .ok (.iconst 1, 1) := by decide +kernel
theorem dX1_isLive_10 : decode cX1_isLive 10 = .ok (.goto 4, 3) := by decide +kernel
theorem dX1_isLive_13 : decode cX1_isLive 13 = .ok (.iconst 0, 1) := by decide +kernel
theorem dX1_isLive_14 : decode cX1_isLive 14 = .ok (.ireturn, 1) := by decide +kernel
theorem dX1_chargedInAll_0 : decode cX1_chargedInAll 0 = .ok (.iconst 0, 1) := by decide +kernel
theorem dX1_chargedInAll_1 : decode cX1_chargedInAll 1 = .ok (.istore_n 1, 1) := by decide +kernel
theorem dX1_chargedInAll_2 : decode cX1_chargedInAll 2 = .ok (.iconst 0, 1) := by decide +kernel
theorem dX1_chargedInAll_3 : decode cX1_chargedInAll 3 = .ok (.istore_n 2, 1) := by decide +kernel
theorem dX1_chargedInAll_4 : decode cX1_chargedInAll 4 = .ok (.iload_n 2, 1) := by decide +kernel
theorem dX1_chargedInAll_5 : decode cX1_chargedInAll 5 = .ok (.iconst 4, 1) := by decide +kernel
theorem dX1_chargedInAll_6 : decode cX1_chargedInAll 6 = .ok (.if_icmp .ge 18, 3) := by decide +kernel
theorem dX1_chargedInAll_9 : decode cX1_chargedInAll 9 = .ok (.iload_n 1, 1) := by decide +kernel
theorem dX1_chargedInAll_10 : decode cX1_chargedInAll 10 = .ok (.aload_n 0, 1) := by decide +kernel
theorem dX1_chargedInAll_11 : decode cX1_chargedInAll 11 = .ok (.getfield 9, 3) := by decide +kernel
theorem dX1_chargedInAll_14 : decode cX1_chargedInAll 14 = .ok (.iload_n 2, 1) := by decide +kernel
theorem dX1_chargedInAll_15 : decode cX1_chargedInAll 15 = .ok (.iaload, 1) := by decide +kernel
theorem dX1_chargedInAll_16 : decode cX1_chargedInAll 16 = .ok (.iadd, 1) := by decide +kernel
theorem dX1_chargedInAll_17 : decode cX1_chargedInAll 17 = .ok (.istore_n 1, 1) := by decide +kernel
theorem dX1_chargedInAll_18 : decode cX1_chargedInAll 18 = .ok (.iinc 2 1, 3) := by decide +kernel
theorem dX1_chargedInAll_21 : decode cX1_chargedInAll 21 = .ok (.goto (-17), 3) := by decide +kernel
theorem dX1_chargedInAll_24 : decode cX1_chargedInAll 24 = .ok (.iload_n 1, 1) := by decide +kernel
theorem dX1_chargedInAll_25 : decode cX1_chargedInAll 25 = .ok (.ireturn, 1) := by decide +kernel
set_option maxRecDepth 20000 in
theorem ggX2_init_Jx4a65c_init_da8c8 : GoodIn wsX2_init wsJx4a65c_init_da8c8 := goodIn_r _ [22, 23, 24, 25, 26, 27, 28, 29, 30, 31, 32, 33, 34, 2, 3, 46, 47, 48] (by decide +kernel) (by decide +kernel)
set_option maxRecDepth 20000 in
theorem gX2_init_Jx4a65c_init_da8c8 : GoodIn wsX2_init (wsJx4a65c_init_da8c8) := ggX2_init_Jx4a65c_init_da8c8
theorem dX2_init_0 : decode cX2_init 0 = .ok (.aload_n 0, 1) := by decide +kernel
theorem dX2_init_1 : decode cX2_init 1 = .ok (.invokespecial 1, 3) := by decide +kernel
theorem dX2_init_4 : decode cX2_init 4 = .ok (.aload_n 0, 1) := by decide +kernel
theorem dX2_init_5 : decode cX2_init 5 = .ok (.iconst 3, 1) := by decide +kernel
theorem dX2_init_6 : decode cX2_init 6 = .ok (.newarray .int, 2) := by decide +kernel
theorem dX2_init_8 : decode cX2_init 8 = .ok (.putfield 9, 3) := by decide +kernel
theorem dX2_init_11 : decode cX2_init 11 = .ok (.aload_n 0, 1) := by decide +kernel
theorem dX2_init_12 : decode cX2_init 12 = .ok (.iconst 3, 1) := by decide +kernel
theorem dX2_init_13 : decode cX2_init 13 = .ok (.newarray .int, 2) := by decide +kernel
theorem dX2_init_15 : decode cX2_init 15 = .ok (.putfield 13, 3) := by decide +kernel
theorem dX2_init_18 : decode cX2_init 18 = .ok (.aload_n 0, 1) := by decide +kernel
theorem dX2_init_19 : decode cX2_init 19 = .ok (.iconst 3, 1) := by decide +kernel
theorem dX2_init_20 : decode cX2_init 20 = .ok (.newarray .int, 2) := by decide +kernel
theorem dX2_init_22 : decode cX2_init 22 = .ok (.putfield 16, 3) := by decide +kernel
theorem dX2_init_25 : decode cX2_init 25 = .ok (.aload_n 0, 1) := by decide +kernel
theorem dX2_init_26 : decode cX2_init 26 = .ok (.bipush 10, 2) := by decide +kernel
theorem dX2_init_28 : decode cX2_init 28 = .ok (.newarray .int, 2) := by decide +kernel
theorem dX2_init_30 : decode cX2_init 30 = .ok (.putfield 19, 3) := by decide +kernel
theorem dX2_init_33 : decode cX2_init 33 = .ok (.aload_n 0, 1) := by decide +kernel
theorem dX2_init_34 : decode cX2_init 34 = .ok (.iconst 4, 1) := by decide +kernel
theorem dX2_init_35 : decode cX2_init 35 = .ok (.newarray .int, 2) := by decide +kernel
theorem dX2_init_37 : decode cX2_init 37 = .ok (.putfield 22, 3) := by decide +kernel
theorem dX2_init_40 : decode cX2_init 40 = .ok (.aload_n 0, 1) := by decide +kernel
theorem dX2_init_41 : decode cX2_init 41 = .ok (.iconst 4, 1) := by decide +kernel
theorem dX2_init_42 : decode cX2_init 42 = .ok (.newarray .int, 2) := by decide +kernel
theorem dX2_init_44 : decode cX2_init 44 = .ok (.putfield 25, 3) := by decide +kernel
theorem dX2_init_47 : decode cX2_init 47 = .ok (.aload_n 0, 1) := by decide +kernel
theorem dX2_init_48 : decode cX2_init 48 = .ok (.iconst 4, 1) := by decide +kernel
theorem dX2_init_49 : decode cX2_init 49 = .ok (.iconst 4, 1) := by decide +kernel
theorem dX2_init_50 : decode cX2_init 50 = .ok (.multianewarray 28 2, 4) := by decide +kernel
theorem dX2_init_54 : decode cX2_init 54 = .ok (.putfield 30, 3) := by decide +kernel
theorem dX2_init_57 : decode cX2_init 57 = .ok (.aload_n 0, 1) := by decide +kernel
theorem dX2_init_58 : decode cX2_init 58 = .ok (.new 33, 3) := by decide +kernel
theorem dX2_init_61 : decode cX2_init 61 = .ok (.dup, 1) := by decide +kernel
theorem dX2_init_62 : decode cX2_init 62 = .ok (.invokespecial 35, 3) := by decide +kernel
theorem dX2_init_65 : decode cX2_init 65 = .ok (.putfield 36, 3) := by decide +kernel
theorem dX2_init_68 : decode cX2_init 68 = .ok (.aload_n 0, 1) := by decide +kernel
theorem dX2_init_69 : decode cX2_init 69 = .ok (.new 33, 3) := by decide +kernel
theorem dX2_init_72 : decode cX2_init 72 = .ok (.dup, 1) := by decide +kernel
theorem dX2_init_73 : decode cX2_init 73 = .ok (.invokespecial 35, 3) := by decide +kernel
theorem dX2_init_76 : decode cX2_init 76 = .ok (.putfield 40, 3) := by decide +kernel
theorem dX2_init_79 : decode cX2_init 79 = .ok (.aload_n 0, 1) := by decide +kernel
theorem dX2_init_80 : decode cX2_init 80 = .ok (.iconst 0, 1) := by decide +kernel
theorem dX2_init_81 : decode cX2_init 81 = .ok (.putfield 43, 3) := by decide +kernel
theorem dX2_init_84 : decode cX2_init 84 = .ok (.aload_n 0, 1) := by decide +kernel
theorem dX2_init_85 : decode cX2_init 85 = .ok (.iconst 0, 1) := by decide +kernel
theorem dX2_init_86 : decode cX2_init 86 = .ok (.putfield 47, 3) := by decide +kernel
theorem dX2_init_89 : decode cX2_init 89 = .ok (.iconst 0, 1) := by decide +kernel
theorem dX2_init_90 : decode cX2_init 90 = .ok (.istore_n 1, 1) := by decide +kernel
theorem dX2_init_91 : decode cX2_init 91 = .ok (.iload_n 1, 1) := by decide +kernel
theorem dX2_init_92 : decode cX2_init 92 = .ok (.iconst 3, 1) := by decide +kernel
theorem dX2_init_93 : decode cX2_init 93 = .ok (.if_icmp .ge 26, 3) := by decide +kernel
theorem dX2_init_96 : decode cX2_init 96 = .ok (.aload_n 0, 1) := by decide +kernel
theorem dX2_init_97 : decode cX2_init 97 = .ok (.getfield 9, 3) := by decide +kernel
theorem dX2_init_100 : decode cX2_init 100 = .ok (.iload_n 1, 1) := by decide +kernel
theorem dX2_init_101 : decode cX2_init 101 = .ok (.bipush 30, 2) := by decide +kernel
theorem dX2_init_103 : decode cX2_init 103 = .ok (.iastore, 1) := by decide +kernel
theorem dX2_init_104 : decode cX2_init 104 = .ok (.aload_n 0, 1) := by decide +kernel
theorem dX2_init_105 : decode cX2_init 105 = .ok (.getfield 13, 3) := by decide +kernel
theorem dX2_init_108 : decode cX2_init 108 = .ok (.iload_n 1, 1) := by decide +kernel
theorem dX2_init_109 : decode cX2_init 109 = .ok (.sipush 240, 3) := by decide +kernel
theorem dX2_init_112 : decode cX2_init 112 = .ok (.iastore, 1) := by decide +kernel
theorem dX2_init_113 : decode cX2_init 113 = .ok (.iinc 1 1, 3) := by decide +kernel
theorem dX2_init_116 : decode cX2_init 116 = .ok (.goto (-25), 3) := by decide +kernel
theorem dX2_init_119 : decode cX2_init 119 = .ok (.return_, 1) := by decide +kernel
set_option maxRecDepth 20000 in
theorem ggX2_addMachine_X2_checkPool : GoodIn wsX2_addMachine wsX2_checkPool := goodIn_ca (goodIn_r _ [12, 1, 2, 13, 14, 11, 15] (by decide +kernel) (by decide +kernel)) (goodIn_sub (fun _ h => List.mem_cons_of_mem _ (List.mem_append_left _ (List.mem_append_right _ h))) (by decide +kernel))
set_option maxRecDepth 20000 in
theorem gX2_addMachine_X2_checkPool : GoodIn wsX2_addMachine (va_wsS RX2 50 yX2_checkPool wsX2_checkPool) := goodIn_app (goodIn_of _ (by decide +kernel)) ggX2_addMachine_X2_checkPool
set_option maxRecDepth 20000 in
theorem ggX2_addMachine_X2_isOutside : GoodIn wsX2_addMachine wsX2_isOutside := goodIn_r _ [15] (by decide +kernel) (by decide +kernel)
set_option maxRecDepth 20000 in
theorem gX2_addMachine_X2_isOutside : GoodIn wsX2_addMachine (va_wsS RX2 54 yX2_isOutside wsX2_isOutside) := goodIn_app (goodIn_of _ (by decide +kernel)) ggX2_addMachine_X2_isOutside
set_option maxRecDepth 20000 in
theorem ggX2_addMachine_Jx4a65c_size_8abf5 : GoodIn wsX2_addMachine wsJx4a65c_size_8abf5 := goodIn_r _ [20, 21, 105, 106, 107] (by decide +kernel) (by decide +kernel)
set_option maxRecDepth 20000 in
theorem gX2_addMachine_Jx4a65c_size_8abf5 : GoodIn wsX2_addMachine (wsV RX2 67 RJx4a65c yJx4a65c_size_8abf5 wsJx4a65c_size_8abf5) := goodIn_app (goodIn_of _ (by decide +kernel)) ggX2_addMachine_Jx4a65c_size_8abf5
set_option maxRecDepth 20000 in
theorem ggX2_addMachine_X0_init : GoodIn wsX2_addMachine wsX0_init := goodIn_r _ [24, 25, 26, 27, 28, 29, 30, 31, 32, 33, 99, 100, 101, 102, 103, 104] (by decide +kernel) (by decide +kernel)
set_option maxRecDepth 20000 in
theorem gX2_addMachine_X0_init : GoodIn wsX2_addMachine (wsX0_init) := ggX2_addMachine_X0_init
set_option maxRecDepth 20000 in
theorem ggX2_addMachine_Jx4a65c_add_9ea2d : GoodIn wsX2_addMachine wsJx4a65c_add_9ea2d := goodIn_r _ [37, 38, 39, 40, 21, 41, 42, 43, 19, 44, 45, 46, 47, 48, 49, 50, 51, 52, 53, 54, 55, 56, 57, 58, 59, 60, 61, 62, 63, 64, 65, 66, 67, 68, 69, 70, 71, 72, 73, 74, 75, 76, 77, 78, 79, 80, 81, 82, 83, 84, 85, 86, 87, 105, 106, 107] (by decide +kernel) (by decide +kernel)
set_option maxRecDepth 20000 in
theorem gX2_addMachine_Jx4a65c_add_9ea2d : GoodIn wsX2_addMachine (wsV RX2 81 RJx4a65c yJx4a65c_add_9ea2d wsJx4a65c_add_9ea2d) := goodIn_app (goodIn_of _ (by decide +kernel)) ggX2_addMachine_Jx4a65c_add_9ea2d
theorem dX2_addMachine_0 : decode cX2_addMachine 0 = .ok (.iload_n 1, 1) := by decide +kernel
theorem dX2_addMachine_1 : decode cX2_addMachine 1 = .ok (.invokestatic 50, 3) := by decide +kernel
theorem dX2_addMachine_4 : decode cX2_addMachine 4 = .ok (.iload_n 2, 1) := by decide +kernel
theorem dX2_addMachine_5 : decode cX2_addMachine 5 = .ok (.iconst 0, 1) := by decide +kernel
theorem dX2_addMachine_6 : decode cX2_addMachine 6 = .ok (.iconst 2, 1) := by decide +kernel
theorem dX2_addMachine_7 : decode cX2_addMachine 7 = .ok (.invokestatic 54, 3) := by decide +kernel
theorem dX2_addMachine_10 : decode cX2_addMachine 10 = .ok (.ifCond .eq 13, 3) := by decide +kernel
theorem dX2_addMachine_13 : decode cX2_addMachine 13 = .ok (.new 58, 3) := by decide +kernel
theorem dX2_addMachine_16 : decode cX2_addMachine 16 = .ok (.dup, 1) := by decide +kernel
theorem dX2_addMachine_17 : decode cX2_addMachine 17 = .ok (.ldc 60, 2) := by decide +kernel
theorem dX2_addMachine_19 : decode cX2_addMachine 19 = .ok (.invokespecial 62, 3) := by decide +kernel
theorem dX2_addMachine_22 : decode cX2_addMachine 22 = .ok (.athrow, 1) := by decide +kernel
theorem dX2_addMachine_23 : decode cX2_addMachine 23 = .ok (.iload_n 3, 1) := by decide +kernel
theorem dX2_addMachine_24 : decode cX2_addMachine 24 = .ok (.iconst 1, 1) := by decide +kernel
theorem dX2_addMachine_25 : decode cX2_addMachine 25 = .ok (.iconst 4, 1) := by decide +kernel
theorem dX2_addMachine_26 : decode cX2_addMachine 26 = .ok (.invokestatic 54, 3) := by decide +kernel
theorem dX2_addMachine_29 : decode cX2_addMachine 29 = .ok (.ifCond .eq 13, 3) := by decide +kernel
theorem dX2_addMachine_32 : decode cX2_addMachine 32 = .ok (.new 58, 3) := by decide +kernel
theorem dX2_addMachine_35 : decode cX2_addMachine 35 = .ok (.dup, 1) := by decide +kernel
theorem dX2_addMachine_36 : decode cX2_addMachine 36 = .ok (.ldc 65, 2) := by decide +kernel
theorem dX2_addMachine_38 : decode cX2_addMachine 38 = .ok (.invokespecial 62, 3) := by decide +kernel
theorem dX2_addMachine_41 : decode cX2_addMachine 41 = .ok (.athrow, 1) := by decide +kernel
theorem dX2_addMachine_42 : decode cX2_addMachine 42 = .ok (.aload_n 0, 1) := by decide +kernel
theorem dX2_addMachine_43 : decode cX2_addMachine 43 = .ok (.getfield 36, 3) := by decide +kernel
theorem dX2_addMachine_46 : decode cX2_addMachine 46 = .ok (.invokevirtual 67, 3) := by decide +kernel
theorem dX2_addMachine_49 : decode cX2_addMachine 49 = .ok (.istore 4, 2) := by decide +kernel
theorem dX2_addMachine_51 : decode cX2_addMachine 51 = .ok (.iload 4, 2) := by decide +kernel
theorem dX2_addMachine_53 : decode cX2_addMachine 53 = .ok (.bipush 6, 2) := by decide +kernel
theorem dX2_addMachine_55 : decode cX2_addMachine 55 = .ok (.if_icmp .lt 13, 3) := by decide +kernel
theorem dX2_addMachine_58 : decode cX2_addMachine 58 = .ok (.new 71, 3) := by decide +kernel
theorem dX2_addMachine_61 : decode cX2_addMachine 61 = .ok (.dup, 1) := by decide +kernel
theorem dX2_addMachine_62 : decode cX2_addMachine 62 = .ok (.ldc 73, 2) := by decide +kernel
theorem dX2_addMachine_64 : decode cX2_addMachine 64 = .ok (.invokespecial 75, 3) := by decide +kernel
theorem dX2_addMachine_67 : decode cX2_addMachine 67 = .ok (.athrow, 1) := by decide +kernel
theorem dX2_addMachine_68 : decode cX2_addMachine 68 = .ok (.aload_n 0, 1) := by decide +kernel
theorem dX2_addMachine_69 : decode cX2_addMachine 69 = .ok (.getfield 36, 3) := by decide +kernel
theorem dX2_addMachine_72 : decode cX2_addMachine 72 = .ok (.new 76, 3) := by decide +kernel
theorem dX2_addMachine_75 : decode cX2_addMachine 75 = .ok (.dup, 1) := by decide +kernel
theorem dX2_addMachine_76 : decode cX2_addMachine 76 = .ok (.iload 4, 2) := by decide +kernel
theorem dX2_addMachine_78 : decode cX2_addMachine 78 = .ok (.iload_n 1, 1) := by decide +kernel
theorem dX2_addMachine_79 : decode cX2_addMachine 79 = .ok (.iload_n 2, 1) := by decide +kernel
theorem dX2_addMachine_80 : decode cX2_addMachine 80 = .ok (.iload_n 3, 1) := by decide +kernel
theorem dX2_addMachine_81 : decode cX2_addMachine 81 = .ok (.invokespecial 78, 3) := by decide +kernel
theorem dX2_addMachine_84 : decode cX2_addMachine 84 = .ok (.invokevirtual 81, 3) := by decide +kernel
theorem dX2_addMachine_87 : decode cX2_addMachine 87 = .ok (.pop, 1) := by decide +kernel
theorem dX2_addMachine_88 : decode cX2_addMachine 88 = .ok (.iload 4, 2) := by decide +kernel
theorem dX2_addMachine_90 : decode cX2_addMachine 90 = .ok (.ireturn, 1) := by decide +kernel
set_option maxRecDepth 20000 in
theorem ggX2_setLimits_X2_checkPool : GoodIn wsX2_setLimits wsX2_checkPool := goodIn_ca (goodIn_r _ [8, 1, 2, 9, 10, 7, 11] (by decide +kernel) (by decide +kernel)) (goodIn_sub (fun _ h => List.mem_cons_of_mem _ (List.mem_append_right _ h)) (by decide +kernel))
set_option maxRecDepth 20000 in
theorem gX2_setLimits_X2_checkPool : GoodIn wsX2_setLimits (va_wsS RX2 50 yX2_checkPool wsX2_checkPool) := goodIn_app (goodIn_of _ (by decide +kernel)) ggX2_setLimits_X2_checkPool
set_option maxRecDepth 20000 in
theorem ggX2_setLimits_X2_isOutside : GoodIn wsX2_setLimits wsX2_isOutside := goodIn_r _ [11] (by decide +kernel) (by decide +kernel)
set_option maxRecDepth 20000 in
theorem gX2_setLimits_X2_isOutside : GoodIn wsX2_setLimits (va_wsS RX2 54 yX2_isOutside wsX2_isOutside) := goodIn_app (goodIn_of _ (by decide +kernel)) ggX2_setLimits_X2_isOutside
theorem dX2_setLimits_0 : decode cX2_setLimits 0 = .ok (.iload_n 1, 1) := by decide +kernel
theorem dX2_setLimits_1 : decode cX2_setLimits 1 = .ok (.invokestatic 50, 3) := by decide +kernel
theorem dX2_setLimits_4 : decode cX2_setLimits 4 = .ok (.iload_n 2, 1) := by decide +kernel
theorem dX2_setLimits_5 : decode cX2_setLimits 5 = .ok (.iconst 1, 1) := by decide +kernel
theorem dX2_setLimits_6 : decode cX2_setLimits 6 = .ok (.sipush 999, 3) := by decide +kernel
theorem dX2_setLimits_9 : decode cX2_setLimits 9 = .ok (.invokestatic 54, 3) := by decide +kernel
theorem dX2_setLimits_12 : decode cX2_setLimits 12 = .ok (.ifCond .ne 14, 3) := by decide +kernel
theorem dX2_setLimits_15 : decode cX2_setLimits 15 = .ok (.iload_n 3, 1) := by decide +kernel
theorem dX2_setLimits_16 : decode cX2_setLimits 16 = .ok (.iconst 1, 1) := by decide +kernel
theorem dX2_setLimits_17 : decode cX2_setLimits 17 = .ok (.sipush 999, 3) := by decide +kernel
theorem dX2_setLimits_20 : decode cX2_setLimits 20 = .ok (.invokestatic 54, 3) := by decide +kernel
theorem dX2_setLimits_23 : decode cX2_setLimits 23 = .ok (.ifCond .eq 13, 3) := by decide +kernel
theorem dX2_setLimits_26 : decode cX2_setLimits 26 = .ok (.new 58, 3) := by decide +kernel
theorem dX2_setLimits_29 : decode cX2_setLimits 29 = .ok (.dup, 1) := by decide +kernel
theorem dX2_setLimits_30 : decode cX2_setLimits 30 = .ok (.ldc 85, 2) := by decide +kernel
theorem dX2_setLimits_32 : decode cX2_setLimits 32 = .ok (.invokespecial 62, 3) := by decide +kernel
theorem dX2_setLimits_35 : decode cX2_setLimits 35 = .ok (.athrow, 1) := by decide +kernel
theorem dX2_setLimits_36 : decode cX2_setLimits 36 = .ok (.aload_n 0, 1) := by decide +kernel
theorem dX2_setLimits_37 : decode cX2_setLimits 37 = .ok (.getfield 9, 3) := by decide +kernel
theorem dX2_setLimits_40 : decode cX2_setLimits 40 = .ok (.iload_n 1, 1) := by decide +kernel
theorem dX2_setLimits_41 : decode cX2_setLimits 41 = .ok (.iaload, 1) := by decide +kernel
theorem dX2_setLimits_42 : decode cX2_setLimits 42 = .ok (.istore 4, 2) := by decide +kernel
theorem dX2_setLimits_44 : decode cX2_setLimits 44 = .ok (.aload_n 0, 1) := by decide +kernel
theorem dX2_setLimits_45 : decode cX2_setLimits 45 = .ok (.getfield 9, 3) := by decide +kernel
theorem dX2_setLimits_48 : decode cX2_setLimits 48 = .ok (.iload_n 1, 1) := by decide +kernel
theorem dX2_setLimits_49 : decode cX2_setLimits 49 = .ok (.iload_n 2, 1) := by decide +kernel
theorem dX2_setLimits_50 : decode cX2_setLimits 50 = .ok (.iastore, 1) := by decide +kernel
theorem dX2_setLimits_51 : decode cX2_setLimits 51 = .ok (.aload_n 0, 1) := by decide +kernel
theorem dX2_setLimits_52 : decode cX2_setLimits 52 = .ok (.getfield 13, 3) := by decide +kernel
theorem dX2_setLimits_55 : decode cX2_setLimits 55 = .ok (.iload_n 1, 1) := by decide +kernel
theorem dX2_setLimits_56 : decode cX2_setLimits 56 = .ok (.iload_n 3, 1) := by decide +kernel
theorem dX2_setLimits_57 : decode cX2_setLimits 57 = .ok (.iastore, 1) := by decide +kernel
theorem dX2_setLimits_58 : decode cX2_setLimits 58 = .ok (.iload 4, 2) := by decide +kernel
theorem dX2_setLimits_60 : decode cX2_setLimits 60 = .ok (.ireturn, 1) := by decide +kernel
set_option maxRecDepth 20000 in
theorem ggX2_free_X2_checkPool : GoodIn wsX2_free wsX2_checkPool := goodIn_ca (goodIn_r _ [6, 7, 8, 9, 10, 5, 11] (by decide +kernel) (by decide +kernel)) (goodIn_sub (fun _ h => List.mem_cons_of_mem _ (List.mem_append_right _ h)) (by decide +kernel))
set_option maxRecDepth 20000 in
theorem gX2_free_X2_checkPool : GoodIn wsX2_free (va_wsS RX2 50 yX2_checkPool wsX2_checkPool) := goodIn_app (goodIn_of _ (by decide +kernel)) ggX2_free_X2_checkPool
set_option maxRecDepth 20000 in
theorem ggX2_free_Jx4a65c_size_8abf5 : GoodIn wsX2_free wsJx4a65c_size_8abf5 := goodIn_r _ [16, 17, 59, 60, 61] (by decide +kernel) (by decide +kernel)
set_option maxRecDepth 20000 in
theorem gX2_free_Jx4a65c_size_8abf5 : GoodIn wsX2_free (wsV RX2 67 RJx4a65c yJx4a65c_size_8abf5 wsJx4a65c_size_8abf5) := goodIn_app (goodIn_of _ (by decide +kernel)) ggX2_free_Jx4a65c_size_8abf5
set_option maxRecDepth 20000 in
theorem ggX2_free_Jx4a65c_get_915e3 : GoodIn wsX2_free wsJx4a65c_get_915e3 := goodIn_r _ [21, 17, 22, 23, 24, 25, 26, 27, 28, 29, 30, 31, 32, 15, 33, 34, 59, 60, 61] (by decide +kernel) (by decide +kernel)
set_option maxRecDepth 20000 in
theorem gX2_free_Jx4a65c_get_915e3 : GoodIn wsX2_free (wsV RX2 114 RJx4a65c yJx4a65c_get_915e3 wsJx4a65c_get_915e3) := goodIn_app (goodIn_of _ (by decide +kernel)) ggX2_free_Jx4a65c_get_915e3
set_option maxRecDepth 20000 in
theorem ggX2_free_X0_serves : GoodIn wsX2_free wsX0_serves := goodIn_r _ [39, 40, 41, 62, 63, 64, 65, 66, 67] (by decide +kernel) (by decide +kernel)
set_option maxRecDepth 20000 in
theorem gX2_free_X0_serves : GoodIn wsX2_free (wsV RX2 118 RX0 yX0_serves wsX0_serves) := goodIn_app (goodIn_of _ (by decide +kernel)) ggX2_free_X0_serves
set_option maxRecDepth 20000 in
theorem ggX2_free_X0_freeSeats : GoodIn wsX2_free wsX0_freeSeats := goodIn_r _ [45, 46, 47, 62, 63, 64, 65, 66, 67] (by decide +kernel) (by decide +kernel)
set_option maxRecDepth 20000 in
theorem gX2_free_X0_freeSeats : GoodIn wsX2_free (wsV RX2 105 RX0 yX0_freeSeats wsX0_freeSeats) := goodIn_app (goodIn_of _ (by decide +kernel)) ggX2_free_X0_freeSeats
theorem dX2_free_0 : decode cX2_free 0 = .ok (.iload_n 1, 1) := by decide +kernel
theorem dX2_free_1 : decode cX2_free 1 = .ok (.invokestatic 50, 3) := by decide +kernel
theorem dX2_free_4 : decode cX2_free 4 = .ok (.iconst 0, 1) := by decide +kernel
theorem dX2_free_5 : decode cX2_free 5 = .ok (.istore_n 2, 1) := by decide +kernel
theorem dX2_free_6 : decode cX2_free 6 = .ok (.iconst 0, 1) := by decide +kernel
theorem dX2_free_7 : decode cX2_free 7 = .ok (.istore_n 3, 1) := by decide +kernel
theorem dX2_free_8 : decode cX2_free 8 = .ok (.iload_n 3, 1) := by decide +kernel
theorem dX2_free_9 : decode cX2_free 9 = .ok (.aload_n 0, 1) := by decide +kernel
theorem dX2_free_10 : decode cX2_free 10 = .ok (.getfield 36, 3) := by decide +kernel
theorem dX2_free_13 : decode cX2_free 13 = .ok (.invokevirtual 67, 3) := by decide +kernel
theorem dX2_free_16 : decode cX2_free 16 = .ok (.if_icmp .ge 39, 3) := by decide +kernel
theorem dX2_free_19 : decode cX2_free 19 = .ok (.aload_n 0, 1) := by decide +kernel
theorem dX2_free_20 : decode cX2_free 20 = .ok (.getfield 36, 3) := by decide +kernel
theorem dX2_free_23 : decode cX2_free 23 = .ok (.iload_n 3, 1) := by decide +kernel
theorem dX2_free_24 : decode cX2_free 24 = .ok (.invokevirtual 114, 3) := by decide +kernel
theorem dX2_free_27 : decode cX2_free 27 = .ok (.checkcast 76, 3) := by decide +kernel
theorem dX2_free_30 : decode cX2_free 30 = .ok (.astore 4, 2) := by decide +kernel
theorem dX2_free_32 : decode cX2_free 32 = .ok (.aload 4, 2) := by decide +kernel
theorem dX2_free_34 : decode cX2_free 34 = .ok (.iload_n 1, 1) := by decide +kernel
theorem dX2_free_35 : decode cX2_free 35 = .ok (.invokevirtual 118, 3) := by decide +kernel
theorem dX2_free_38 : decode cX2_free 38 = .ok (.ifCond .eq 11, 3) := by decide +kernel
theorem dX2_free_41 : decode cX2_free 41 = .ok (.iload_n 2, 1) := by decide +kernel
theorem dX2_free_42 : decode cX2_free 42 = .ok (.aload 4, 2) := by decide +kernel
theorem dX2_free_44 : decode cX2_free 44 = .ok (.invokevirtual 105, 3) := by decide +kernel
theorem dX2_free_47 : decode cX2_free 47 = .ok (.iadd, 1) := by decide +kernel
theorem dX2_free_48 : decode cX2_free 48 = .ok (.istore_n 2, 1) := by decide +kernel
theorem dX2_free_49 : decode cX2_free 49 = .ok (.iinc 3 1, 3) := by decide +kernel
theorem dX2_free_52 : decode cX2_free 52 = .ok (.goto (-44), 3) := by decide +kernel
theorem dX2_free_55 : decode cX2_free 55 = .ok (.iload_n 2, 1) := by decide +kernel
theorem dX2_free_56 : decode cX2_free 56 = .ok (.ireturn, 1) := by decide +kernel
set_option maxRecDepth 20000 in
theorem ggX2_assign_X2_checkUser : GoodIn wsX2_assign wsX2_checkUser := goodIn_ca (goodIn_r _ [5, 6, 7, 8, 9, 4, 10] (by decide +kernel) (by decide +kernel)) (goodIn_sub (fun _ h => List.mem_cons_of_mem _ (List.mem_append_right _ h)) (by decide +kernel))
set_option maxRecDepth 20000 in
theorem gX2_assign_X2_checkUser : GoodIn wsX2_assign (va_wsS RX2 122 yX2_checkUser wsX2_checkUser) := goodIn_app (goodIn_of _ (by decide +kernel)) ggX2_assign_X2_checkUser
set_option maxRecDepth 20000 in
theorem ggX2_assign_X2_checkDepartment : GoodIn wsX2_assign wsX2_checkDepartment := goodIn_ca (goodIn_r _ [13, 6, 7, 8, 9, 4, 10] (by decide +kernel) (by decide +kernel)) (goodIn_sub (fun _ h => List.mem_cons_of_mem _ (List.mem_append_right _ h)) (by decide +kernel))
set_option maxRecDepth 20000 in
theorem gX2_assign_X2_checkDepartment : GoodIn wsX2_assign (va_wsS RX2 125 yX2_checkDepartment wsX2_checkDepartment) := goodIn_app (goodIn_of _ (by decide +kernel)) ggX2_assign_X2_checkDepartment
theorem dX2_assign_0 : decode cX2_assign 0 = .ok (.iload_n 1, 1) := by decide +kernel
theorem dX2_assign_1 : decode cX2_assign 1 = .ok (.invokestatic 122, 3) := by decide +kernel
theorem dX2_assign_4 : decode cX2_assign 4 = .ok (.iload_n 2, 1) := by decide +kernel
theorem dX2_assign_5 : decode cX2_assign 5 = .ok (.invokestatic 125, 3) := by decide +kernel
theorem dX2_assign_8 : decode cX2_assign 8 = .ok (.aload_n 0, 1) := by decide +kernel
theorem dX2_assign_9 : decode cX2_assign 9 = .ok (.getfield 19, 3) := by decide +kernel
theorem dX2_assign_12 : decode cX2_assign 12 = .ok (.iload_n 1, 1) := by decide +kernel
theorem dX2_assign_13 : decode cX2_assign 13 = .ok (.iaload, 1) := by decide +kernel
theorem dX2_assign_14 : decode cX2_assign 14 = .ok (.istore_n 3, 1) := by decide +kernel
theorem dX2_assign_15 : decode cX2_assign 15 = .ok (.aload_n 0, 1) := by decide +kernel
theorem dX2_assign_16 : decode cX2_assign 16 = .ok (.getfield 19, 3) := by decide +kernel
theorem dX2_assign_19 : decode cX2_assign 19 = .ok (.iload_n 1, 1) := by decide +kernel
theorem dX2_assign_20 : decode cX2_assign 20 = .ok (.iload_n 2, 1) := by decide +kernel
theorem dX2_assign_21 : decode cX2_assign 21 = .ok (.iastore, 1) := by decide +kernel
theorem dX2_assign_22 : decode cX2_assign 22 = .ok (.iload_n 3, 1) := by decide +kernel
theorem dX2_assign_23 : decode cX2_assign 23 = .ok (.ireturn, 1) := by decide +kernel
set_option maxRecDepth 20000 in
theorem ggX2_buy_X2_checkDepartment : GoodIn wsX2_buy wsX2_checkDepartment := goodIn_ca (goodIn_r _ [9, 10, 11, 12, 13, 8, 14] (by decide +kernel) (by decide +kernel)) (goodIn_sub (fun _ h => List.mem_cons_of_mem _ (List.mem_append_right _ h)) (by decide +kernel))
set_option maxRecDepth 20000 in
theorem gX2_buy_X2_checkDepartment : GoodIn wsX2_buy (va_wsS RX2 125 yX2_checkDepartment wsX2_checkDepartment) := goodIn_app (goodIn_of _ (by decide +kernel)) ggX2_buy_X2_checkDepartment
set_option maxRecDepth 20000 in
theorem ggX2_buy_X2_checkTrade : GoodIn wsX2_buy wsX2_checkTrade := goodIn_ca (goodIn_r _ [17, 10, 11, 12, 13, 8, 14] (by decide +kernel) (by decide +kernel)) (goodIn_sub (fun _ h => List.mem_cons_of_mem _ (List.mem_append_right _ h)) (by decide +kernel))
set_option maxRecDepth 20000 in
theorem gX2_buy_X2_checkTrade : GoodIn wsX2_buy (va_wsS RX2 128 yX2_checkTrade wsX2_checkTrade) := goodIn_app (goodIn_of _ (by decide +kernel)) ggX2_buy_X2_checkTrade
theorem dX2_buy_0 : decode cX2_buy 0 = .ok (.iload_n 1, 1) := by decide +kernel
theorem dX2_buy_1 : decode cX2_buy 1 = .ok (.invokestatic 125, 3) := by decide +kernel
theorem dX2_buy_4 : decode cX2_buy 4 = .ok (.iload_n 2, 1) := by decide +kernel
theorem dX2_buy_5 : decode cX2_buy 5 = .ok (.invokestatic 128, 3) := by decide +kernel
theorem dX2_buy_8 : decode cX2_buy 8 = .ok (.aload_n 0, 1) := by decide +kernel
theorem dX2_buy_9 : decode cX2_buy 9 = .ok (.getfield 22, 3) := by decide +kernel
theorem dX2_buy_12 : decode cX2_buy 12 = .ok (.iload_n 1, 1) := by decide +kernel
theorem dX2_buy_13 : decode cX2_buy 13 = .ok (.iaload, 1) := by decide +kernel
theorem dX2_buy_14 : decode cX2_buy 14 = .ok (.iload_n 2, 1) := by decide +kernel
theorem dX2_buy_15 : decode cX2_buy 15 = .ok (.iadd, 1) := by decide +kernel
theorem dX2_buy_16 : decode cX2_buy 16 = .ok (.ldc 131, 2) := by decide +kernel
theorem dX2_buy_18 : decode cX2_buy 18 = .ok (.if_icmp .le 13, 3) := by decide +kernel
theorem dX2_buy_21 : decode cX2_buy 21 = .ok (.new 71, 3) := by decide +kernel
theorem dX2_buy_24 : decode cX2_buy 24 = .ok (.dup, 1) := by decide +kernel
theorem dX2_buy_25 : decode cX2_buy 25 = .ok (.ldc 132, 2) := by decide +kernel
theorem dX2_buy_27 : decode cX2_buy 27 = .ok (.invokespecial 75, 3) := by decide +kernel
theorem dX2_buy_30 : decode cX2_buy 30 = .ok (.athrow, 1) := by decide +kernel
theorem dX2_buy_31 : decode cX2_buy 31 = .ok (.aload_n 0, 1) := by decide +kernel
theorem dX2_buy_32 : decode cX2_buy 32 = .ok (.getfield 25, 3) := by decide +kernel
theorem dX2_buy_35 : decode cX2_buy 35 = .ok (.iload_n 1, 1) := by decide +kernel
theorem dX2_buy_36 : decode cX2_buy 36 = .ok (.dup2, 1) := by decide +kernel
theorem dX2_buy_37 : decode cX2_buy 37 = .ok (.iaload, 1) := by decide +kernel
theorem dX2_buy_38 : decode cX2_buy 38 = .ok (.iload_n 2, 1) := by decide +kernel
theorem dX2_buy_39 : decode cX2_buy 39 = .ok (.iadd, 1) := by decide +kernel
theorem dX2_buy_40 : decode cX2_buy 40 = .ok (.iastore, 1) := by decide +kernel
theorem dX2_buy_41 : decode cX2_buy 41 = .ok (.aload_n 0, 1) := by decide +kernel
theorem dX2_buy_42 : decode cX2_buy 42 = .ok (.getfield 22, 3) := by decide +kernel
theorem dX2_buy_45 : decode cX2_buy 45 = .ok (.iload_n 1, 1) := by decide +kernel
theorem dX2_buy_46 : decode cX2_buy 46 = .ok (.dup2, 1) := by decide +kernel
theorem dX2_buy_47 : decode cX2_buy 47 = .ok (.iaload, 1) := by decide +kernel
theorem dX2_buy_48 : decode cX2_buy 48 = .ok (.iload_n 2, 1) := by decide +kernel
theorem dX2_buy_49 : decode cX2_buy 49 = .ok (.iadd, 1) := by decide +kernel
theorem dX2_buy_50 : decode cX2_buy 50 = .ok (.iastore, 1) := by decide +kernel
theorem dX2_buy_51 : decode cX2_buy 51 = .ok (.aload_n 0, 1) := by decide +kernel
theorem dX2_buy_52 : decode cX2_buy 52 = .ok (.getfield 22, 3) := by decide +kernel
theorem dX2_buy_55 : decode cX2_buy 55 = .ok (.iload_n 1, 1) := by decide +kernel
theorem dX2_buy_56 : decode cX2_buy 56 = .ok (.iaload, 1) := by decide +kernel
theorem dX2_buy_57 : decode cX2_buy 57 = .ok (.ireturn, 1) := by decide +kernel
set_option maxRecDepth 20000 in
theorem ggX2_lend_X2_checkPair : GoodIn wsX2_lend wsX2_checkPair := goodIn_ca (goodIn_r _ [5, 6, 7, 8, 9, 4, 10, 11, 12, 13] (by decide +kernel) (by decide +kernel)) (goodIn_sub (fun _ h => List.mem_cons_of_mem _ (List.mem_append_left _ (List.mem_append_right _ h))) (by decide +kernel))
set_option maxRecDepth 20000 in
theorem gX2_lend_X2_checkPair : GoodIn wsX2_lend (va_wsS RX2 134 yX2_checkPair wsX2_checkPair) := goodIn_app (goodIn_of _ (by decide +kernel)) ggX2_lend_X2_checkPair
set_option maxRecDepth 20000 in
theorem ggX2_lend_X2_checkTrade : GoodIn wsX2_lend wsX2_checkTrade := goodIn_ca (goodIn_r _ [16, 6, 7, 11, 12, 4, 13] (by decide +kernel) (by decide +kernel)) (goodIn_sub (fun _ h => List.mem_cons_of_mem _ (List.mem_append_left _ (List.mem_append_right _ h))) (by decide +kernel))
set_option maxRecDepth 20000 in
theorem gX2_lend_X2_checkTrade : GoodIn wsX2_lend (va_wsS RX2 128 yX2_checkTrade wsX2_checkTrade) := goodIn_app (goodIn_of _ (by decide +kernel)) ggX2_lend_X2_checkTrade
set_option maxRecDepth 20000 in
theorem ggX2_lend_X2_checkStock : GoodIn wsX2_lend wsX2_checkStock := goodIn_ca (goodIn_r _ [20, 21, 22, 23, 28, 29, 30, 31, 32, 33, 34, 35, 36, 37, 38] (by decide +kernel) (by decide +kernel)) (goodIn_sub (fun _ h => List.mem_cons_of_mem _ (List.mem_append_right _ h)) (by decide +kernel))
set_option maxRecDepth 20000 in
theorem gX2_lend_X2_checkStock : GoodIn wsX2_lend (wsV RX2 138 RX2 yX2_checkStock wsX2_checkStock) := goodIn_app (goodIn_of _ (by decide +kernel)) ggX2_lend_X2_checkStock
set_option maxRecDepth 20000 in
theorem ggX2_lend_X2_move : GoodIn wsX2_lend wsX2_move := goodIn_r _ [27, 23, 28, 29, 30, 31, 32, 33, 34, 35, 36, 37, 38] (by decide +kernel) (by decide +kernel)
set_option maxRecDepth 20000 in
theorem gX2_lend_X2_move : GoodIn wsX2_lend (wsV RX2 141 RX2 yX2_move wsX2_move) := goodIn_app (goodIn_of _ (by decide +kernel)) ggX2_lend_X2_move
theorem dX2_lend_0 : decode cX2_lend 0 = .ok (.iload_n 1, 1) := by decide +kernel
theorem dX2_lend_1 : decode cX2_lend 1 = .ok (.iload_n 2, 1) := by decide +kernel
theorem dX2_lend_2 : decode cX2_lend 2 = .ok (.invokestatic 134, 3) := by decide +kernel
theorem dX2_lend_5 : decode cX2_lend 5 = .ok (.iload_n 3, 1) := by decide +kernel
theorem dX2_lend_6 : decode cX2_lend 6 = .ok (.invokestatic 128, 3) := by decide +kernel
theorem dX2_lend_9 : decode cX2_lend 9 = .ok (.aload_n 0, 1) := by decide +kernel
theorem dX2_lend_10 : decode cX2_lend 10 = .ok (.iload_n 1, 1) := by decide +kernel
theorem dX2_lend_11 : decode cX2_lend 11 = .ok (.iload_n 3, 1) := by decide +kernel
theorem dX2_lend_12 : decode cX2_lend 12 = .ok (.invokevirtual 138, 3) := by decide +kernel
theorem dX2_lend_15 : decode cX2_lend 15 = .ok (.aload_n 0, 1) := by decide +kernel
theorem dX2_lend_16 : decode cX2_lend 16 = .ok (.iload_n 1, 1) := by decide +kernel
theorem dX2_lend_17 : decode cX2_lend 17 = .ok (.iload_n 2, 1) := by decide +kernel
theorem dX2_lend_18 : decode cX2_lend 18 = .ok (.iload_n 3, 1) := by decide +kernel
theorem dX2_lend_19 : decode cX2_lend 19 = .ok (.invokevirtual 141, 3) := by decide +kernel
theorem dX2_lend_22 : decode cX2_lend 22 = .ok (.aload_n 0, 1) := by decide +kernel
theorem dX2_lend_23 : decode cX2_lend 23 = .ok (.getfield 30, 3) := by decide +kernel
theorem dX2_lend_26 : decode cX2_lend 26 = .ok (.iload_n 2, 1) := by decide +kernel
theorem dX2_lend_27 : decode cX2_lend 27 = .ok (.aaload, 1) := by decide +kernel
theorem dX2_lend_28 : decode cX2_lend 28 = .ok (.iload_n 1, 1) := by decide +kernel
theorem dX2_lend_29 : decode cX2_lend 29 = .ok (.dup2, 1) := by decide +kernel
theorem dX2_lend_30 : decode cX2_lend 30 = .ok (.iaload, 1) := by decide +kernel
theorem dX2_lend_31 : decode cX2_lend 31 = .ok (.iload_n 3, 1) := by decide +kernel
theorem dX2_lend_32 : decode cX2_lend 32 = .ok (.iadd, 1) := by decide +kernel
theorem dX2_lend_33 : decode cX2_lend 33 = .ok (.iastore, 1) := by decide +kernel
theorem dX2_lend_34 : decode cX2_lend 34 = .ok (.aload_n 0, 1) := by decide +kernel
theorem dX2_lend_35 : decode cX2_lend 35 = .ok (.getfield 30, 3) := by decide +kernel
theorem dX2_lend_38 : decode cX2_lend 38 = .ok (.iload_n 2, 1) := by decide +kernel
theorem dX2_lend_39 : decode cX2_lend 39 = .ok (.aaload, 1) := by decide +kernel
theorem dX2_lend_40 : decode cX2_lend 40 = .ok (.iload_n 1, 1) := by decide +kernel
theorem dX2_lend_41 : decode cX2_lend 41 = .ok (.iaload, 1) := by decide +kernel
theorem dX2_lend_42 : decode cX2_lend 42 = .ok (.ireturn, 1) := by decide +kernel
set_option maxRecDepth 20000 in
theorem ggX2_giveBack_X2_checkPair : GoodIn wsX2_giveBack wsX2_checkPair := goodIn_ca (goodIn_r _ [7, 8, 9, 10, 11, 6, 12, 13, 14, 15] (by decide +kernel) (by decide +kernel)) (goodIn_sub (fun _ h => List.mem_cons_of_mem _ (List.mem_append_left _ (List.mem_append_right _ h))) (by decide +kernel))
set_option maxRecDepth 20000 in
theorem gX2_giveBack_X2_checkPair : GoodIn wsX2_giveBack (va_wsS RX2 134 yX2_checkPair wsX2_checkPair) := goodIn_app (goodIn_of _ (by decide +kernel)) ggX2_giveBack_X2_checkPair
set_option maxRecDepth 20000 in
theorem ggX2_giveBack_X2_checkTrade : GoodIn wsX2_giveBack wsX2_checkTrade := goodIn_ca (goodIn_r _ [18, 8, 9, 13, 14, 6, 15] (by decide +kernel) (by decide +kernel)) (goodIn_sub (fun _ h => List.mem_cons_of_mem _ (List.mem_append_left _ (List.mem_append_right _ h))) (by decide +kernel))
set_option maxRecDepth 20000 in
theorem gX2_giveBack_X2_checkTrade : GoodIn wsX2_giveBack (va_wsS RX2 128 yX2_checkTrade wsX2_checkTrade) := goodIn_app (goodIn_of _ (by decide +kernel)) ggX2_giveBack_X2_checkTrade
set_option maxRecDepth 20000 in
theorem ggX2_giveBack_X2_checkStock : GoodIn wsX2_giveBack wsX2_checkStock := goodIn_ca (goodIn_r _ [22, 23, 24, 25, 30, 31, 32, 33, 34, 35, 36, 37, 38, 39, 40] (by decide +kernel) (by decide +kernel)) (goodIn_sub (fun _ h => List.mem_cons_of_mem _ (List.mem_append_right _ h)) (by decide +kernel))
set_option maxRecDepth 20000 in
theorem gX2_giveBack_X2_checkStock : GoodIn wsX2_giveBack (wsV RX2 138 RX2 yX2_checkStock wsX2_checkStock) := goodIn_app (goodIn_of _ (by decide +kernel)) ggX2_giveBack_X2_checkStock
set_option maxRecDepth 20000 in
theorem ggX2_giveBack_X2_move : GoodIn wsX2_giveBack wsX2_move := goodIn_r _ [29, 25, 30, 31, 32, 33, 34, 35, 36, 37, 38, 39, 40] (by decide +kernel) (by decide +kernel)
set_option maxRecDepth 20000 in
theorem gX2_giveBack_X2_move : GoodIn wsX2_giveBack (wsV RX2 141 RX2 yX2_move wsX2_move) := goodIn_app (goodIn_of _ (by decide +kernel)) ggX2_giveBack_X2_move
theorem dX2_giveBack_0 : decode cX2_giveBack 0 = .ok (.iload_n 1, 1) := by decide +kernel
theorem dX2_giveBack_1 : decode cX2_giveBack 1 = .ok (.iload_n 2, 1) := by decide +kernel
theorem dX2_giveBack_2 : decode cX2_giveBack 2 = .ok (.invokestatic 134, 3) := by decide +kernel
theorem dX2_giveBack_5 : decode cX2_giveBack 5 = .ok (.iload_n 3, 1) := by decide +kernel
theorem dX2_giveBack_6 : decode cX2_giveBack 6 = .ok (.invokestatic 128, 3) := by decide +kernel
theorem dX2_giveBack_9 : decode cX2_giveBack 9 = .ok (.aload_n 0, 1) := by decide +kernel
theorem dX2_giveBack_10 : decode cX2_giveBack 10 = .ok (.getfield 30, 3) := by decide +kernel
theorem dX2_giveBack_13 : decode cX2_giveBack 13 = .ok (.iload_n 1, 1) := by decide +kernel
theorem dX2_giveBack_14 : decode cX2_giveBack 14 = .ok (.aaload, 1) := by decide +kernel
theorem dX2_giveBack_15 : decode cX2_giveBack 15 = .ok (.iload_n 2, 1) := by decide +kernel
theorem dX2_giveBack_16 : decode cX2_giveBack 16 = .ok (.iaload, 1) := by decide +kernel
theorem dX2_giveBack_17 : decode cX2_giveBack 17 = .ok (.iload_n 3, 1) := by decide +kernel
theorem dX2_giveBack_18 : decode cX2_giveBack 18 = .ok (.if_icmp .ge 13, 3) := by decide +kernel
theorem dX2_giveBack_21 : decode cX2_giveBack 21 = .ok (.new 71, 3) := by decide +kernel
theorem dX2_giveBack_24 : decode cX2_giveBack 24 = .ok (.dup, 1) := by decide +kernel
theorem dX2_giveBack_25 : decode cX2_giveBack 25 = .ok (.ldc 145, 2) := by decide +kernel
theorem dX2_giveBack_27 : decode cX2_giveBack 27 = .ok (.invokespecial 75, 3) := by decide +kernel
theorem dX2_giveBack_30 : decode cX2_giveBack 30 = .ok (.athrow, 1) := by decide +kernel
theorem dX2_giveBack_31 : decode cX2_giveBack 31 = .ok (.aload_n 0, 1) := by decide +kernel
theorem dX2_giveBack_32 : decode cX2_giveBack 32 = .ok (.iload_n 1, 1) := by decide +kernel
theorem dX2_giveBack_33 : decode cX2_giveBack 33 = .ok (.iload_n 3, 1) := by decide +kernel
theorem dX2_giveBack_34 : decode cX2_giveBack 34 = .ok (.invokevirtual 138, 3) := by decide +kernel
theorem dX2_giveBack_37 : decode cX2_giveBack 37 = .ok (.aload_n 0, 1) := by decide +kernel
theorem dX2_giveBack_38 : decode cX2_giveBack 38 = .ok (.iload_n 1, 1) := by decide +kernel
theorem dX2_giveBack_39 : decode cX2_giveBack 39 = .ok (.iload_n 2, 1) := by decide +kernel
theorem dX2_giveBack_40 : decode cX2_giveBack 40 = .ok (.iload_n 3, 1) := by decide +kernel
theorem dX2_giveBack_41 : decode cX2_giveBack 41 = .ok (.invokevirtual 141, 3) := by decide +kernel
theorem dX2_giveBack_44 : decode cX2_giveBack 44 = .ok (.aload_n 0, 1) := by decide +kernel
theorem dX2_giveBack_45 : decode cX2_giveBack 45 = .ok (.getfield 30, 3) := by decide +kernel
theorem dX2_giveBack_48 : decode cX2_giveBack 48 = .ok (.iload_n 1, 1) := by decide +kernel
theorem dX2_giveBack_49 : decode cX2_giveBack 49 = .ok (.aaload, 1) := by decide +kernel
theorem dX2_giveBack_50 : decode cX2_giveBack 50 = .ok (.iload_n 2, 1) := by decide +kernel
theorem dX2_giveBack_51 : decode cX2_giveBack 51 = .ok (.dup2, 1) := by decide +kernel
theorem dX2_giveBack_52 : decode cX2_giveBack 52 = .ok (.iaload, 1) := by decide +kernel
theorem dX2_giveBack_53 : decode cX2_giveBack 53 = .ok (.iload_n 3, 1) := by decide +kernel
theorem dX2_giveBack_54 : decode cX2_giveBack 54 = .ok (.isub, 1) := by decide +kernel
theorem dX2_giveBack_55 : decode cX2_giveBack 55 = .ok (.iastore, 1) := by decide +kernel
theorem dX2_giveBack_56 : decode cX2_giveBack 56 = .ok (.aload_n 0, 1) := by decide +kernel
theorem dX2_giveBack_57 : decode cX2_giveBack 57 = .ok (.getfield 30, 3) := by decide +kernel
theorem dX2_giveBack_60 : decode cX2_giveBack 60 = .ok (.iload_n 1, 1) := by decide +kernel
theorem dX2_giveBack_61 : decode cX2_giveBack 61 = .ok (.aaload, 1) := by decide +kernel
theorem dX2_giveBack_62 : decode cX2_giveBack 62 = .ok (.iload_n 2, 1) := by decide +kernel
theorem dX2_giveBack_63 : decode cX2_giveBack 63 = .ok (.iaload, 1) := by decide +kernel
theorem dX2_giveBack_64 : decode cX2_giveBack 64 = .ok (.ireturn, 1) := by decide +kernel
set_option maxRecDepth 20000 in
theorem ggX2_minutes_X2_checkDepartment : GoodIn wsX2_minutes wsX2_checkDepartment := goodIn_ca (goodIn_r _ [5, 6, 7, 8, 9, 4, 10] (by decide +kernel) (by decide +kernel)) (goodIn_sub (fun _ h => List.mem_cons_of_mem _ (List.mem_append_right _ h)) (by decide +kernel))
set_option maxRecDepth 20000 in
theorem gX2_minutes_X2_checkDepartment : GoodIn wsX2_minutes (va_wsS RX2 125 yX2_checkDepartment wsX2_checkDepartment) := goodIn_app (goodIn_of _ (by decide +kernel)) ggX2_minutes_X2_checkDepartment
theorem dX2_minutes_0 : decode cX2_minutes 0 = .ok (.iload_n 1, 1) := by decide +kernel
theorem dX2_minutes_1 : decode cX2_minutes 1 = .ok (.invokestatic 125, 3) := by decide +kernel
theorem dX2_minutes_4 : decode cX2_minutes 4 = .ok (.aload_n 0, 1) := by decide +kernel
theorem dX2_minutes_5 : decode cX2_minutes 5 = .ok (.getfield 22, 3) := by decide +kernel
theorem dX2_minutes_8 : decode cX2_minutes 8 = .ok (.iload_n 1, 1) := by decide +kernel
theorem dX2_minutes_9 : decode cX2_minutes 9 = .ok (.iaload, 1) := by decide +kernel
theorem dX2_minutes_10 : decode cX2_minutes 10 = .ok (.ireturn, 1) := by decide +kernel
set_option maxRecDepth 20000 in
theorem ggX2_minutesBySessions_X2_checkDepartment : GoodIn wsX2_minutesBySessions wsX2_checkDepartment := goodIn_ca (goodIn_r _ [9, 10, 11, 12, 13, 8, 14] (by decide +kernel) (by decide +kernel)) (goodIn_sub (fun _ h => List.mem_cons_of_mem _ (List.mem_append_right _ h)) (by decide +kernel))
set_option maxRecDepth 20000 in
theorem gX2_minutesBySessions_X2_checkDepartment : GoodIn wsX2_minutesBySessions (va_wsS RX2 125 yX2_checkDepartment wsX2_checkDepartment) := goodIn_app (goodIn_of _ (by decide +kernel)) ggX2_minutesBySessions_X2_checkDepartment
set_option maxRecDepth 20000 in
theorem ggX2_minutesBySessions_Jx4a65c_size_8abf5 : GoodIn wsX2_minutesBySessions wsJx4a65c_size_8abf5 := goodIn_r _ [19, 20, 56, 57, 58] (by decide +kernel) (by decide +kernel)
set_option maxRecDepth 20000 in
theorem gX2_minutesBySessions_Jx4a65c_size_8abf5 : GoodIn wsX2_minutesBySessions (wsV RX2 67 RJx4a65c yJx4a65c_size_8abf5 wsJx4a65c_size_8abf5) := goodIn_app (goodIn_of _ (by decide +kernel)) ggX2_minutesBySessions_Jx4a65c_size_8abf5
set_option maxRecDepth 20000 in
theorem ggX2_minutesBySessions_Jx4a65c_get_915e3 : GoodIn wsX2_minutesBySessions wsJx4a65c_get_915e3 := goodIn_r _ [24, 20, 25, 26, 27, 28, 29, 30, 31, 32, 33, 34, 35, 18, 36, 37, 56, 57, 58] (by decide +kernel) (by decide +kernel)
set_option maxRecDepth 20000 in
theorem gX2_minutesBySessions_Jx4a65c_get_915e3 : GoodIn wsX2_minutesBySessions (wsV RX2 114 RJx4a65c yJx4a65c_get_915e3 wsJx4a65c_get_915e3) := goodIn_app (goodIn_of _ (by decide +kernel)) ggX2_minutesBySessions_Jx4a65c_get_915e3
theorem dX2_minutesBySessions_0 : decode cX2_minutesBySessions 0 = .ok (.iload_n 1, 1) := by decide +kernel
theorem dX2_minutesBySessions_1 : decode cX2_minutesBySessions 1 = .ok (.invokestatic 125, 3) := by decide +kernel
theorem dX2_minutesBySessions_4 : decode cX2_minutesBySessions 4 = .ok (.aload_n 0, 1) := by decide +kernel
theorem dX2_minutesBySessions_5 : decode cX2_minutesBySessions 5 = .ok (.getfield 25, 3) := by decide +kernel
theorem dX2_minutesBySessions_8 : decode cX2_minutesBySessions 8 = .ok (.iload_n 1, 1) := by decide +kernel
theorem dX2_minutesBySessions_9 : decode cX2_minutesBySessions 9 = .ok (.iaload, 1) := by decide +kernel
theorem dX2_minutesBySessions_10 : decode cX2_minutesBySessions 10 = .ok (.istore_n 2, 1) := by decide +kernel
theorem dX2_minutesBySessions_11 : decode cX2_minutesBySessions 11 = .ok (.iconst 0, 1) := by decide +kernel
theorem dX2_minutesBySessions_12 : decode cX2_minutesBySessions 12 = .ok (.istore_n 3, 1) := by decide +kernel
theorem dX2_minutesBySessions_13 : decode cX2_minutesBySessions 13 = .ok (.iload_n 3, 1) := by decide +kernel
theorem dX2_minutesBySessions_14 : decode cX2_minutesBySessions 14 = .ok (.iconst 4, 1) := by decide +kernel
theorem dX2_minutesBySessions_15 : decode cX2_minutesBySessions 15 = .ok (.if_icmp .ge 29, 3) := by decide +kernel
theorem dX2_minutesBySessions_18 : decode cX2_minutesBySessions 18 = .ok (.iload_n 2, 1) := by decide +kernel
theorem dX2_minutesBySessions_19 : decode cX2_minutesBySessions 19 = .ok (.aload_n 0, 1) := by decide +kernel
theorem dX2_minutesBySessions_20 : decode cX2_minutesBySessions 20 = .ok (.getfield 30, 3) := by decide +kernel
theorem dX2_minutesBySessions_23 : decode cX2_minutesBySessions 23 = .ok (.iload_n 1, 1) := by decide +kernel
theorem dX2_minutesBySessions_24 : decode cX2_minutesBySessions 24 = .ok (.aaload, 1) := by decide +kernel
theorem dX2_minutesBySessions_25 : decode cX2_minutesBySessions 25 = .ok (.iload_n 3, 1) := by decide +kernel
theorem dX2_minutesBySessions_26 : decode cX2_minutesBySessions 26 = .ok (.iaload, 1) := by decide +kernel
theorem dX2_minutesBySessions_27 : decode cX2_minutesBySessions 27 = .ok (.aload_n 0, 1) := by decide +kernel
theorem dX2_minutesBySessions_28 : decode cX2_minutesBySessions 28 = .ok (.getfield 30, 3) := by decide +kernel
theorem dX2_minutesBySessions_31 : decode cX2_minutesBySessions 31 = .ok (.iload_n 3, 1) := by decide +kernel
theorem dX2_minutesBySessions_32 : decode cX2_minutesBySessions 32 = .ok (.aaload, 1) := by decide +kernel
theorem dX2_minutesBySessions_33 : decode cX2_minutesBySessions 33 = .ok (.iload_n 1, 1) := by decide +kernel
theorem dX2_minutesBySessions_34 : decode cX2_minutesBySessions 34 = .ok (.iaload, 1) := by decide +kernel
theorem dX2_minutesBySessions_35 : decode cX2_minutesBySessions 35 = .ok (.isub, 1) := by decide +kernel
theorem dX2_minutesBySessions_36 : decode cX2_minutesBySessions 36 = .ok (.iadd, 1) := by decide +kernel
theorem dX2_minutesBySessions_37 : decode cX2_minutesBySessions 37 = .ok (.istore_n 2, 1) := by decide +kernel
theorem dX2_minutesBySessions_38 : decode cX2_minutesBySessions 38 = .ok (.iinc 3 1, 3) := by decide +kernel
theorem dX2_minutesBySessions_41 : decode cX2_minutesBySessions 41 = .ok (.goto (-28), 3) := by decide +kernel
theorem dX2_minutesBySessions_44 : decode cX2_minutesBySessions 44 = .ok (.iconst 0, 1) := by decide +kernel
theorem dX2_minutesBySessions_45 : decode cX2_minutesBySessions 45 = .ok (.istore_n 3, 1) := by decide +kernel
theorem dX2_minutesBySessions_46 : decode cX2_minutesBySessions 46 = .ok (.iload_n 3, 1) := by decide +kernel
theorem dX2_minutesBySessions_47 : decode cX2_minutesBySessions 47 = .ok (.aload_n 0, 1) := by decide +kernel
theorem dX2_minutesBySessions_48 : decode cX2_minutesBySessions 48 = .ok (.getfield 40, 3) := by decide +kernel
theorem dX2_minutesBySessions_51 : decode cX2_minutesBySessions 51 = .ok (.invokevirtual 67, 3) := by decide +kernel
theorem dX2_minutesBySessions_54 : decode cX2_minutesBySessions 54 = .ok (.if_icmp .ge 28, 3) := by decide +kernel
theorem dX2_minutesBySessions_57 : decode cX2_minutesBySessions 57 = .ok (.iload_n 2, 1) := by decide +kernel
theorem dX2_minutesBySessions_58 : decode cX2_minutesBySessions 58 = .ok (.aload_n 0, 1) := by decide +kernel
theorem dX2_minutesBySessions_59 : decode cX2_minutesBySessions 59 = .ok (.getfield 40, 3) := by decide +kernel
theorem dX2_minutesBySessions_62 : decode cX2_minutesBySessions 62 = .ok (.iload_n 3, 1) := by decide +kernel
theorem dX2_minutesBySessions_63 : decode cX2_minutesBySessions 63 = .ok (.invokevirtual 114, 3) := by decide +kernel
theorem dX2_minutesBySessions_66 : decode cX2_minutesBySessions 66 = .ok (.checkcast 147, 3) := by decide +kernel
theorem dX2_minutesBySessions_69 : decode cX2_minutesBySessions 69 = .ok (.getfield 149, 3) := by decide +kernel
theorem dX2_minutesBySessions_72 : decode cX2_minutesBySessions 72 = .ok (.iload_n 1, 1) := by decide +kernel
theorem dX2_minutesBySessions_73 : decode cX2_minutesBySessions 73 = .ok (.iaload, 1) := by decide +kernel
theorem dX2_minutesBySessions_74 : decode cX2_minutesBySessions 74 = .ok (.isub, 1) := by decide +kernel
theorem dX2_minutesBySessions_75 : decode cX2_minutesBySessions 75 = .ok (.istore_n 2, 1) := by decide +kernel
theorem dX2_minutesBySessions_76 : decode cX2_minutesBySessions 76 = .ok (.iinc 3 1, 3) := by decide +kernel
theorem dX2_minutesBySessions_79 : decode cX2_minutesBySessions 79 = .ok (.goto (-33), 3) := by decide +kernel
theorem dX2_minutesBySessions_82 : decode cX2_minutesBySessions 82 = .ok (.iload_n 2, 1) := by decide +kernel
theorem dX2_minutesBySessions_83 : decode cX2_minutesBySessions 83 = .ok (.ireturn, 1) := by decide +kernel
set_option maxRecDepth 20000 in
theorem ggX2_logIn_X2_checkUser : GoodIn wsX2_logIn wsX2_checkUser := goodIn_ca (goodIn_r _ [13, 14, 15, 16, 17, 12, 18] (by decide +kernel) (by decide +kernel)) (goodIn_sub (fun _ h => List.mem_cons_of_mem _ (List.mem_append_left _ (List.mem_append_left _ (List.mem_append_right _ h)))) (by decide +kernel))
set_option maxRecDepth 20000 in
theorem gX2_logIn_X2_checkUser : GoodIn wsX2_logIn (va_wsS RX2 122 yX2_checkUser wsX2_checkUser) := goodIn_app (goodIn_of _ (by decide +kernel)) ggX2_logIn_X2_checkUser
set_option maxRecDepth 20000 in
theorem ggX2_logIn_X2_checkPool : GoodIn wsX2_logIn wsX2_checkPool := goodIn_ca (goodIn_r _ [21, 14, 15, 16, 17, 12, 18] (by decide +kernel) (by decide +kernel)) (goodIn_sub (fun _ h => List.mem_cons_of_mem _ (List.mem_append_left _ (List.mem_append_left _ (List.mem_append_right _ h)))) (by decide +kernel))
set_option maxRecDepth 20000 in
theorem gX2_logIn_X2_checkPool : GoodIn wsX2_logIn (va_wsS RX2 50 yX2_checkPool wsX2_checkPool) := goodIn_app (goodIn_of _ (by decide +kernel)) ggX2_logIn_X2_checkPool
set_option maxRecDepth 20000 in
theorem ggX2_logIn_X2_ownsLiveSession : GoodIn wsX2_logIn wsX2_ownsLiveSession := goodIn_r _ [25, 3, 26, 27, 28, 29, 30, 31, 32, 33, 34, 35, 36, 37, 38, 39, 40, 41, 42, 43, 44, 45, 46, 47, 48, 49, 50, 51, 52, 53, 8, 54, 55, 150, 151, 152, 153, 154, 155, 156, 157, 158, 159, 160, 167, 168, 169, 170, 171, 172, 173, 174, 175, 176] (by decide +kernel) (by decide +kernel)
set_option maxRecDepth 20000 in
theorem gX2_logIn_X2_ownsLiveSession : GoodIn wsX2_logIn (wsV RX2 152 RX2 yX2_ownsLiveSession wsX2_ownsLiveSession) := goodIn_app (goodIn_of _ (by decide +kernel)) ggX2_logIn_X2_ownsLiveSession
set_option maxRecDepth 20000 in
theorem ggX2_logIn_Jx4a65c_size_8abf5 : GoodIn wsX2_logIn wsJx4a65c_size_8abf5 := goodIn_r _ [32, 33, 174, 175, 176] (by decide +kernel) (by decide +kernel)
set_option maxRecDepth 20000 in
theorem gX2_logIn_Jx4a65c_size_8abf5 : GoodIn wsX2_logIn (wsV RX2 67 RJx4a65c yJx4a65c_size_8abf5 wsJx4a65c_size_8abf5) := goodIn_app (goodIn_of _ (by decide +kernel)) ggX2_logIn_Jx4a65c_size_8abf5
set_option maxRecDepth 20000 in
theorem ggX2_logIn_X2_checkStock : GoodIn wsX2_logIn wsX2_checkStock := goodIn_ca (goodIn_r _ [59, 60, 61, 62, 150, 151, 152, 153, 154, 155, 156, 157, 158, 159, 160] (by decide +kernel) (by decide +kernel)) (goodIn_sub (fun _ h => List.mem_cons_of_mem _ (List.mem_append_left _ (List.mem_append_right _ h))) (by decide +kernel))
set_option maxRecDepth 20000 in
theorem gX2_logIn_X2_checkStock : GoodIn wsX2_logIn (wsV RX2 138 RX2 yX2_checkStock wsX2_checkStock) := goodIn_app (goodIn_of _ (by decide +kernel)) ggX2_logIn_X2_checkStock
set_option maxRecDepth 20000 in
theorem ggX2_logIn_X2_emptiestMachine : GoodIn wsX2_logIn wsX2_emptiestMachine := goodIn_ca (goodIn_r _ [66, 67, 68, 69, 70, 5, 28, 29, 30, 31, 32, 33, 34, 35, 36, 37, 38, 39, 40, 41, 42, 43, 44, 45, 46, 47, 48, 49, 50, 71, 72, 73, 74, 75, 76, 77, 78, 79, 80, 81, 82, 83, 150, 151, 152, 153, 154, 155, 156, 157, 158, 159, 160, 161, 162, 163, 164, 165, 166, 174, 175, 176] (by decide +kernel) (by decide +kernel)) (goodIn_sub (fun _ h => List.mem_cons_of_mem _ (List.mem_append_right _ h)) (by decide +kernel))
set_option maxRecDepth 20000 in
theorem gX2_logIn_X2_emptiestMachine : GoodIn wsX2_logIn (wsV RX2 108 RX2 yX2_emptiestMachine wsX2_emptiestMachine) := goodIn_app (goodIn_of _ (by decide +kernel)) ggX2_logIn_X2_emptiestMachine
set_option maxRecDepth 20000 in
theorem ggX2_logIn_X1_init : GoodIn wsX2_logIn wsX1_init := goodIn_r _ [86, 87, 88, 89, 90, 91, 55, 92, 93, 94, 95, 96, 167, 168, 169, 170, 171, 172, 173] (by decide +kernel) (by decide +kernel)
set_option maxRecDepth 20000 in
theorem gX2_logIn_X1_init : GoodIn wsX2_logIn (wsX1_init) := ggX2_logIn_X1_init
set_option maxRecDepth 20000 in
theorem ggX2_logIn_Jx4a65c_add_9ea2d : GoodIn wsX2_logIn wsJx4a65c_add_9ea2d := goodIn_r _ [100, 101, 102, 50, 33, 103, 104, 105, 31, 106, 107, 108, 109, 110, 111, 112, 113, 114, 115, 116, 117, 118, 119, 120, 121, 122, 123, 124, 125, 126, 127, 128, 129, 130, 131, 132, 133, 134, 135, 136, 137, 138, 139, 140, 141, 142, 143, 144, 145, 146, 147, 148, 149, 174, 175, 176] (by decide +kernel) (by decide +kernel)
set_option maxRecDepth 20000 in
theorem gX2_logIn_Jx4a65c_add_9ea2d : GoodIn wsX2_logIn (wsV RX2 81 RJx4a65c yJx4a65c_add_9ea2d wsJx4a65c_add_9ea2d) := goodIn_app (goodIn_of _ (by decide +kernel)) ggX2_logIn_Jx4a65c_add_9ea2d
theorem dX2_logIn_0 : decode cX2_logIn 0 = .ok (.iload_n 1, 1) := by decide +kernel
theorem dX2_logIn_1 : decode cX2_logIn 1 = .ok (.invokestatic 122, 3) := by decide +kernel
theorem dX2_logIn_4 : decode cX2_logIn 4 = .ok (.iload_n 2, 1) := by decide +kernel
theorem dX2_logIn_5 : decode cX2_logIn 5 = .ok (.invokestatic 50, 3) := by decide +kernel
theorem dX2_logIn_8 : decode cX2_logIn 8 = .ok (.aload_n 0, 1) := by decide +kernel
theorem dX2_logIn_9 : decode cX2_logIn 9 = .ok (.iload_n 1, 1) := by decide +kernel
theorem dX2_logIn_10 : decode cX2_logIn 10 = .ok (.invokevirtual 152, 3) := by decide +kernel
theorem dX2_logIn_13 : decode cX2_logIn 13 = .ok (.ifCond .eq 13, 3) := by decide +kernel
theorem dX2_logIn_16 : decode cX2_logIn 16 = .ok (.new 71, 3) := by decide +kernel
theorem dX2_logIn_19 : decode cX2_logIn 19 = .ok (.dup, 1) := by decide +kernel
theorem dX2_logIn_20 : decode cX2_logIn 20 = .ok (.ldc 155, 2) := by decide +kernel
theorem dX2_logIn_22 : decode cX2_logIn 22 = .ok (.invokespecial 75, 3) := by decide +kernel
theorem dX2_logIn_25 : decode cX2_logIn 25 = .ok (.athrow, 1) := by decide +kernel
theorem dX2_logIn_26 : decode cX2_logIn 26 = .ok (.aload_n 0, 1) := by decide +kernel
theorem dX2_logIn_27 : decode cX2_logIn 27 = .ok (.getfield 40, 3) := by decide +kernel
theorem dX2_logIn_30 : decode cX2_logIn 30 = .ok (.invokevirtual 67, 3) := by decide +kernel
theorem dX2_logIn_33 : decode cX2_logIn 33 = .ok (.istore_n 3, 1) := by decide +kernel
theorem dX2_logIn_34 : decode cX2_logIn 34 = .ok (.iload_n 3, 1) := by decide +kernel
theorem dX2_logIn_35 : decode cX2_logIn 35 = .ok (.bipush 40, 2) := by decide +kernel
theorem dX2_logIn_37 : decode cX2_logIn 37 = .ok (.if_icmp .lt 13, 3) := by decide +kernel
theorem dX2_logIn_40 : decode cX2_logIn 40 = .ok (.new 71, 3) := by decide +kernel
theorem dX2_logIn_43 : decode cX2_logIn 43 = .ok (.dup, 1) := by decide +kernel
theorem dX2_logIn_44 : decode cX2_logIn 44 = .ok (.ldc 157, 2) := by decide +kernel
theorem dX2_logIn_46 : decode cX2_logIn 46 = .ok (.invokespecial 75, 3) := by decide +kernel
theorem dX2_logIn_49 : decode cX2_logIn 49 = .ok (.athrow, 1) := by decide +kernel
theorem dX2_logIn_50 : decode cX2_logIn 50 = .ok (.aload_n 0, 1) := by decide +kernel
theorem dX2_logIn_51 : decode cX2_logIn 51 = .ok (.aload_n 0, 1) := by decide +kernel
theorem dX2_logIn_52 : decode cX2_logIn 52 = .ok (.getfield 19, 3) := by decide +kernel
theorem dX2_logIn_55 : decode cX2_logIn 55 = .ok (.iload_n 1, 1) := by decide +kernel
theorem dX2_logIn_56 : decode cX2_logIn 56 = .ok (.iaload, 1) := by decide +kernel
theorem dX2_logIn_57 : decode cX2_logIn 57 = .ok (.iconst 1, 1) := by decide +kernel
theorem dX2_logIn_58 : decode cX2_logIn 58 = .ok (.invokevirtual 138, 3) := by decide +kernel
theorem dX2_logIn_61 : decode cX2_logIn 61 = .ok (.aload_n 0, 1) := by decide +kernel
theorem dX2_logIn_62 : decode cX2_logIn 62 = .ok (.iload_n 2, 1) := by decide +kernel
theorem dX2_logIn_63 : decode cX2_logIn 63 = .ok (.invokevirtual 108, 3) := by decide +kernel
theorem dX2_logIn_66 : decode cX2_logIn 66 = .ok (.astore 4, 2) := by decide +kernel
theorem dX2_logIn_68 : decode cX2_logIn 68 = .ok (.aload 4, 2) := by decide +kernel
theorem dX2_logIn_70 : decode cX2_logIn 70 = .ok (.dup, 1) := by decide +kernel
theorem dX2_logIn_71 : decode cX2_logIn 71 = .ok (.getfield 100, 3) := by decide +kernel
theorem dX2_logIn_74 : decode cX2_logIn 74 = .ok (.iconst 1, 1) := by decide +kernel
theorem dX2_logIn_75 : decode cX2_logIn 75 = .ok (.iadd, 1) := by decide +kernel
theorem dX2_logIn_76 : decode cX2_logIn 76 = .ok (.putfield 100, 3) := by decide +kernel
theorem dX2_logIn_79 : decode cX2_logIn 79 = .ok (.aload_n 0, 1) := by decide +kernel
theorem dX2_logIn_80 : decode cX2_logIn 80 = .ok (.getfield 40, 3) := by decide +kernel
theorem dX2_logIn_83 : decode cX2_logIn 83 = .ok (.new 147, 3) := by decide +kernel
theorem dX2_logIn_86 : decode cX2_logIn 86 = .ok (.dup, 1) := by decide +kernel
theorem dX2_logIn_87 : decode cX2_logIn 87 = .ok (.iload_n 1, 1) := by decide +kernel
theorem dX2_logIn_88 : decode cX2_logIn 88 = .ok (.aload 4, 2) := by decide +kernel
theorem dX2_logIn_90 : decode cX2_logIn 90 = .ok (.aload_n 0, 1) := by decide +kernel
theorem dX2_logIn_91 : decode cX2_logIn 91 = .ok (.getfield 43, 3) := by decide +kernel
theorem dX2_logIn_94 : decode cX2_logIn 94 = .ok (.invokespecial 159, 3) := by decide +kernel
theorem dX2_logIn_97 : decode cX2_logIn 97 = .ok (.invokevirtual 81, 3) := by decide +kernel
theorem dX2_logIn_100 : decode cX2_logIn 100 = .ok (.pop, 1) := by decide +kernel
theorem dX2_logIn_101 : decode cX2_logIn 101 = .ok (.iload_n 3, 1) := by decide +kernel
theorem dX2_logIn_102 : decode cX2_logIn 102 = .ok (.ireturn, 1) := by decide +kernel
set_option maxRecDepth 20000 in
theorem ggX2_logOut_X2_liveSessionAt : GoodIn wsX2_logOut wsX2_liveSessionAt := goodIn_ca (goodIn_ca (goodIn_r _ [5, 6, 7, 8, 4, 9, 10, 11, 12, 13, 14, 15, 16, 17, 18, 19, 20, 21, 22, 23, 24, 25, 26, 27, 28, 29, 30, 31, 32, 33, 34, 35, 36, 37, 38, 39, 40, 41, 42, 43, 44, 45, 46, 47, 48, 49, 50, 70, 71, 72, 73, 74, 75, 76, 77, 78, 79, 80, 81, 82, 83, 84, 85, 86, 87, 88, 89, 90] (by decide +kernel) (by decide +kernel)) (goodIn_sub (fun _ h => List.mem_cons_of_mem _ (List.mem_append_left _ (List.mem_append_right _ h))) (by decide +kernel))) (goodIn_sub (fun _ h => List.mem_cons_of_mem _ (List.mem_append_right _ h)) (by decide +kernel))
set_option maxRecDepth 20000 in
theorem gX2_logOut_X2_liveSessionAt : GoodIn wsX2_logOut (wsV RX2 162 RX2 yX2_liveSessionAt wsX2_liveSessionAt) := goodIn_app (goodIn_of _ (by decide +kernel)) ggX2_logOut_X2_liveSessionAt
set_option maxRecDepth 20000 in
theorem ggX2_logOut_X2_end : GoodIn wsX2_logOut wsX2_end := goodIn_r _ [54, 55, 56, 57, 58, 59, 60, 61, 62, 63, 64, 84, 85, 86, 87, 88, 89, 90, 91, 92, 93, 94, 95, 96] (by decide +kernel) (by decide +kernel)
set_option maxRecDepth 20000 in
theorem gX2_logOut_X2_end : GoodIn wsX2_logOut (wsV RX2 166 RX2 yX2_end wsX2_end) := goodIn_app (goodIn_of _ (by decide +kernel)) ggX2_logOut_X2_end
set_option maxRecDepth 20000 in
theorem ggX2_logOut_X1_chargedInAll : GoodIn wsX2_logOut wsX1_chargedInAll := goodIn_r _ [68, 69, 84, 85, 86, 87, 88, 89, 90] (by decide +kernel) (by decide +kernel)
set_option maxRecDepth 20000 in
theorem gX2_logOut_X1_chargedInAll : GoodIn wsX2_logOut (wsV RX2 170 RX1 yX1_chargedInAll wsX1_chargedInAll) := goodIn_app (goodIn_of _ (by decide +kernel)) ggX2_logOut_X1_chargedInAll
theorem dX2_logOut_0 : decode cX2_logOut 0 = .ok (.aload_n 0, 1) := by decide +kernel
theorem dX2_logOut_1 : decode cX2_logOut 1 = .ok (.iload_n 1, 1) := by decide +kernel
theorem dX2_logOut_2 : decode cX2_logOut 2 = .ok (.invokevirtual 162, 3) := by decide +kernel
theorem dX2_logOut_5 : decode cX2_logOut 5 = .ok (.astore_n 2, 1) := by decide +kernel
theorem dX2_logOut_6 : decode cX2_logOut 6 = .ok (.aload_n 0, 1) := by decide +kernel
theorem dX2_logOut_7 : decode cX2_logOut 7 = .ok (.aload_n 2, 1) := by decide +kernel
theorem dX2_logOut_8 : decode cX2_logOut 8 = .ok (.bipush 108, 2) := by decide +kernel
theorem dX2_logOut_10 : decode cX2_logOut 10 = .ok (.invokevirtual 166, 3) := by decide +kernel
theorem dX2_logOut_13 : decode cX2_logOut 13 = .ok (.aload_n 2, 1) := by decide +kernel
theorem dX2_logOut_14 : decode cX2_logOut 14 = .ok (.invokevirtual 170, 3) := by decide +kernel
theorem dX2_logOut_17 : decode cX2_logOut 17 = .ok (.ireturn, 1) := by decide +kernel
set_option maxRecDepth 20000 in
theorem ggX2_takeOver_X2_sessionAt : GoodIn wsX2_takeOver wsX2_sessionAt := goodIn_ca (goodIn_r _ [9, 10, 11, 12, 13, 14, 15, 16, 17, 18, 19, 20, 21, 8, 22, 23, 24, 25, 26, 27, 28, 29, 30, 31, 32, 33, 34, 35, 36, 37, 38, 39, 74, 75, 76, 77, 78, 79, 80, 81, 82, 83, 84, 85, 86, 87] (by decide +kernel) (by decide +kernel)) (goodIn_sub (fun _ h => List.mem_cons_of_mem _ (List.mem_append_left _ (List.mem_append_left _ (List.mem_append_right _ h)))) (by decide +kernel))
set_option maxRecDepth 20000 in
theorem gX2_takeOver_X2_sessionAt : GoodIn wsX2_takeOver (wsV RX2 176 RX2 yX2_sessionAt wsX2_sessionAt) := goodIn_app (goodIn_of _ (by decide +kernel)) ggX2_takeOver_X2_sessionAt
set_option maxRecDepth 20000 in
theorem ggX2_takeOver_X2_checkUser : GoodIn wsX2_takeOver wsX2_checkUser := goodIn_ca (goodIn_r _ [42, 1, 2, 20, 21, 8, 22] (by decide +kernel) (by decide +kernel)) (goodIn_sub (fun _ h => List.mem_cons_of_mem _ (List.mem_append_left _ (List.mem_append_left _ (List.mem_append_left _ (List.mem_append_right _ h))))) (by decide +kernel))
set_option maxRecDepth 20000 in
theorem gX2_takeOver_X2_checkUser : GoodIn wsX2_takeOver (va_wsS RX2 122 yX2_checkUser wsX2_checkUser) := goodIn_app (goodIn_of _ (by decide +kernel)) ggX2_takeOver_X2_checkUser
set_option maxRecDepth 20000 in
theorem ggX2_takeOver_X2_checkLive : GoodIn wsX2_takeOver wsX2_checkLive := goodIn_ca (goodIn_r _ [45, 46, 47, 48, 49, 50, 51, 52, 53, 67, 68, 69, 70, 71, 72, 73] (by decide +kernel) (by decide +kernel)) (goodIn_sub (fun _ h => List.mem_cons_of_mem _ (List.mem_append_left _ (List.mem_append_right _ h))) (by decide +kernel))
set_option maxRecDepth 20000 in
theorem gX2_takeOver_X2_checkLive : GoodIn wsX2_takeOver (va_wsS RX2 184 yX2_checkLive wsX2_checkLive) := goodIn_app (goodIn_of _ (by decide +kernel)) ggX2_takeOver_X2_checkLive
set_option maxRecDepth 20000 in
theorem ggX2_takeOver_X2_checkStock : GoodIn wsX2_takeOver wsX2_checkStock := goodIn_ca (goodIn_r _ [57, 58, 59, 60, 74, 75, 76, 77, 78, 79, 80, 81, 82, 83, 84] (by decide +kernel) (by decide +kernel)) (goodIn_sub (fun _ h => List.mem_cons_of_mem _ (List.mem_append_right _ h)) (by decide +kernel))
set_option maxRecDepth 20000 in
theorem gX2_takeOver_X2_checkStock : GoodIn wsX2_takeOver (wsV RX2 138 RX2 yX2_checkStock wsX2_checkStock) := goodIn_app (goodIn_of _ (by decide +kernel)) ggX2_takeOver_X2_checkStock
set_option maxRecDepth 20000 in
theorem ggX2_takeOver_X2_passTo : GoodIn wsX2_takeOver wsX2_passTo := goodIn_r _ [64, 3, 65, 66, 67, 68, 69, 70, 71, 72, 73, 74, 75, 76, 77, 78, 79, 80, 81, 82, 83, 84] (by decide +kernel) (by decide +kernel)
set_option maxRecDepth 20000 in
theorem gX2_takeOver_X2_passTo : GoodIn wsX2_takeOver (wsV RX2 188 RX2 yX2_passTo wsX2_passTo) := goodIn_app (goodIn_of _ (by decide +kernel)) ggX2_takeOver_X2_passTo
theorem dX2_takeOver_0 : decode cX2_takeOver 0 = .ok (.aload_n 0, 1) := by decide +kernel
theorem dX2_takeOver_1 : decode cX2_takeOver 1 = .ok (.iload_n 1, 1) := by decide +kernel
theorem dX2_takeOver_2 : decode cX2_takeOver 2 = .ok (.invokevirtual 176, 3) := by decide +kernel
theorem dX2_takeOver_5 : decode cX2_takeOver 5 = .ok (.astore_n 3, 1) := by decide +kernel
theorem dX2_takeOver_6 : decode cX2_takeOver 6 = .ok (.iload_n 2, 1) := by decide +kernel
theorem dX2_takeOver_7 : decode cX2_takeOver 7 = .ok (.invokestatic 122, 3) := by decide +kernel
theorem dX2_takeOver_10 : decode cX2_takeOver 10 = .ok (.aload_n 3, 1) := by decide +kernel
theorem dX2_takeOver_11 : decode cX2_takeOver 11 = .ok (.getfield 179, 3) := by decide +kernel
theorem dX2_takeOver_14 : decode cX2_takeOver 14 = .ok (.iload_n 2, 1) := by decide +kernel
theorem dX2_takeOver_15 : decode cX2_takeOver 15 = .ok (.if_icmp .ne 13, 3) := by decide +kernel
theorem dX2_takeOver_18 : decode cX2_takeOver 18 = .ok (.new 58, 3) := by decide +kernel
theorem dX2_takeOver_21 : decode cX2_takeOver 21 = .ok (.dup, 1) := by decide +kernel
theorem dX2_takeOver_22 : decode cX2_takeOver 22 = .ok (.ldc 182, 2) := by decide +kernel
theorem dX2_takeOver_24 : decode cX2_takeOver 24 = .ok (.invokespecial 62, 3) := by decide +kernel
theorem dX2_takeOver_27 : decode cX2_takeOver 27 = .ok (.athrow, 1) := by decide +kernel
theorem dX2_takeOver_28 : decode cX2_takeOver 28 = .ok (.aload_n 3, 1) := by decide +kernel
theorem dX2_takeOver_29 : decode cX2_takeOver 29 = .ok (.invokestatic 184, 3) := by decide +kernel
theorem dX2_takeOver_32 : decode cX2_takeOver 32 = .ok (.aload_n 0, 1) := by decide +kernel
theorem dX2_takeOver_33 : decode cX2_takeOver 33 = .ok (.aload_n 0, 1) := by decide +kernel
theorem dX2_takeOver_34 : decode cX2_takeOver 34 = .ok (.getfield 19, 3) := by decide +kernel
theorem dX2_takeOver_37 : decode cX2_takeOver 37 = .ok (.iload_n 2, 1) := by decide +kernel
theorem dX2_takeOver_38 : decode cX2_takeOver 38 = .ok (.iaload, 1) := by decide +kernel
theorem dX2_takeOver_39 : decode cX2_takeOver 39 = .ok (.iconst 1, 1) := by decide +kernel
theorem dX2_takeOver_40 : decode cX2_takeOver 40 = .ok (.invokevirtual 138, 3) := by decide +kernel
theorem dX2_takeOver_43 : decode cX2_takeOver 43 = .ok (.aload_n 0, 1) := by decide +kernel
theorem dX2_takeOver_44 : decode cX2_takeOver 44 = .ok (.aload_n 3, 1) := by decide +kernel
theorem dX2_takeOver_45 : decode cX2_takeOver 45 = .ok (.iload_n 2, 1) := by decide +kernel
theorem dX2_takeOver_46 : decode cX2_takeOver 46 = .ok (.invokevirtual 188, 3) := by decide +kernel
theorem dX2_takeOver_49 : decode cX2_takeOver 49 = .ok (.ireturn, 1) := by decide +kernel
set_option maxRecDepth 20000 in
theorem ggX2_handBack_X2_liveSessionAt : GoodIn wsX2_handBack wsX2_liveSessionAt := goodIn_ca (goodIn_ca (goodIn_r _ [9, 10, 11, 12, 8, 13, 14, 15, 16, 17, 18, 19, 20, 21, 22, 23, 24, 25, 26, 27, 28, 29, 30, 31, 32, 33, 34, 35, 36, 37, 38, 39, 40, 41, 42, 43, 44, 45, 46, 1, 2, 47, 48, 49, 50, 51, 52, 66, 67, 68, 69, 70, 71, 72, 73, 74, 75, 76, 77, 78, 79, 59, 60, 61, 62, 63, 64, 65] (by decide +kernel) (by decide +kernel)) (goodIn_sub (fun _ h => List.mem_cons_of_mem _ (List.mem_append_right _ h)) (by decide +kernel))) (goodIn_sub (fun _ h => List.mem_cons_of_mem _ (List.mem_append_left _ (List.mem_append_right _ h))) (by decide +kernel))
set_option maxRecDepth 20000 in
theorem gX2_handBack_X2_liveSessionAt : GoodIn wsX2_handBack (wsV RX2 162 RX2 yX2_liveSessionAt wsX2_liveSessionAt) := goodIn_app (goodIn_of _ (by decide +kernel)) ggX2_handBack_X2_liveSessionAt
set_option maxRecDepth 20000 in
theorem ggX2_handBack_X2_passTo : GoodIn wsX2_handBack wsX2_passTo := goodIn_r _ [56, 3, 57, 58, 59, 60, 61, 62, 63, 64, 65, 66, 67, 68, 69, 70, 71, 72, 73, 74, 75, 76] (by decide +kernel) (by decide +kernel)
set_option maxRecDepth 20000 in
theorem gX2_handBack_X2_passTo : GoodIn wsX2_handBack (wsV RX2 188 RX2 yX2_passTo wsX2_passTo) := goodIn_app (goodIn_of _ (by decide +kernel)) ggX2_handBack_X2_passTo
theorem dX2_handBack_0 : decode cX2_handBack 0 = .ok (.aload_n 0, 1) := by decide +kernel
theorem dX2_handBack_1 : decode cX2_handBack 1 = .ok (.iload_n 1, 1) := by decide +kernel
theorem dX2_handBack_2 : decode cX2_handBack 2 = .ok (.invokevirtual 162, 3) := by decide +kernel
theorem dX2_handBack_5 : decode cX2_handBack 5 = .ok (.astore_n 2, 1) := by decide +kernel
theorem dX2_handBack_6 : decode cX2_handBack 6 = .ok (.aload_n 2, 1) := by decide +kernel
theorem dX2_handBack_7 : decode cX2_handBack 7 = .ok (.getfield 179, 3) := by decide +kernel
theorem dX2_handBack_10 : decode cX2_handBack 10 = .ok (.aload_n 2, 1) := by decide +kernel
theorem dX2_handBack_11 : decode cX2_handBack 11 = .ok (.getfield 192, 3) := by decide +kernel
theorem dX2_handBack_14 : decode cX2_handBack 14 = .ok (.if_icmp .ne 13, 3) := by decide +kernel
theorem dX2_handBack_17 : decode cX2_handBack 17 = .ok (.new 71, 3) := by decide +kernel
theorem dX2_handBack_20 : decode cX2_handBack 20 = .ok (.dup, 1) := by decide +kernel
theorem dX2_handBack_21 : decode cX2_handBack 21 = .ok (.ldc 195, 2) := by decide +kernel
theorem dX2_handBack_23 : decode cX2_handBack 23 = .ok (.invokespecial 75, 3) := by decide +kernel
theorem dX2_handBack_26 : decode cX2_handBack 26 = .ok (.athrow, 1) := by decide +kernel
theorem dX2_handBack_27 : decode cX2_handBack 27 = .ok (.aload_n 0, 1) := by decide +kernel
theorem dX2_handBack_28 : decode cX2_handBack 28 = .ok (.aload_n 2, 1) := by decide +kernel
theorem dX2_handBack_29 : decode cX2_handBack 29 = .ok (.aload_n 2, 1) := by decide +kernel
theorem dX2_handBack_30 : decode cX2_handBack 30 = .ok (.getfield 192, 3) := by decide +kernel
theorem dX2_handBack_33 : decode cX2_handBack 33 = .ok (.invokevirtual 188, 3) := by decide +kernel
theorem dX2_handBack_36 : decode cX2_handBack 36 = .ok (.ireturn, 1) := by decide +kernel
set_option maxRecDepth 20000 in
theorem ggX2_print_X2_sessionAt : GoodIn wsX2_print wsX2_sessionAt := goodIn_ca (goodIn_r _ [15, 16, 17, 18, 19, 20, 21, 22, 23, 24, 25, 26, 27, 14, 28, 29, 30, 31, 32, 33, 34, 35, 36, 37, 38, 39, 40, 41, 42, 43, 44, 45, 69, 70, 71, 72, 73, 74, 75, 76, 77, 78, 79, 93, 94, 95] (by decide +kernel) (by decide +kernel)) (goodIn_sub (fun _ h => List.mem_cons_of_mem _ (List.mem_append_left _ (List.mem_append_left _ (List.mem_append_right _ h)))) (by decide +kernel))
set_option maxRecDepth 20000 in
theorem gX2_print_X2_sessionAt : GoodIn wsX2_print (wsV RX2 176 RX2 yX2_sessionAt wsX2_sessionAt) := goodIn_app (goodIn_of _ (by decide +kernel)) ggX2_print_X2_sessionAt
set_option maxRecDepth 20000 in
theorem ggX2_print_X2_isOutside : GoodIn wsX2_print wsX2_isOutside := goodIn_r _ [28] (by decide +kernel) (by decide +kernel)
set_option maxRecDepth 20000 in
theorem gX2_print_X2_isOutside : GoodIn wsX2_print (va_wsS RX2 54 yX2_isOutside wsX2_isOutside) := goodIn_app (goodIn_of _ (by decide +kernel)) ggX2_print_X2_isOutside
set_option maxRecDepth 20000 in
theorem ggX2_print_X2_checkLive : GoodIn wsX2_print wsX2_checkLive := goodIn_ca (goodIn_r _ [48, 49, 50, 51, 52, 53, 54, 55, 56, 80, 81, 82, 83, 84, 85, 86] (by decide +kernel) (by decide +kernel)) (goodIn_sub (fun _ h => List.mem_cons_of_mem _ (List.mem_append_left _ (List.mem_append_right _ h))) (by decide +kernel))
set_option maxRecDepth 20000 in
theorem gX2_print_X2_checkLive : GoodIn wsX2_print (va_wsS RX2 184 yX2_checkLive wsX2_checkLive) := goodIn_app (goodIn_of _ (by decide +kernel)) ggX2_print_X2_checkLive
set_option maxRecDepth 20000 in
theorem ggX2_print_X2_checkStock : GoodIn wsX2_print wsX2_checkStock := goodIn_ca (goodIn_r _ [60, 61, 62, 63, 69, 70, 71, 72, 73, 74, 75, 76, 77, 78, 79] (by decide +kernel) (by decide +kernel)) (goodIn_sub (fun _ h => List.mem_cons_of_mem _ (List.mem_append_right _ h)) (by decide +kernel))
set_option maxRecDepth 20000 in
theorem gX2_print_X2_checkStock : GoodIn wsX2_print (wsV RX2 138 RX2 yX2_checkStock wsX2_checkStock) := goodIn_app (goodIn_of _ (by decide +kernel)) ggX2_print_X2_checkStock
set_option maxRecDepth 20000 in
theorem ggX2_print_X2_charge : GoodIn wsX2_print wsX2_charge := goodIn_r _ [67, 3, 4, 63, 68, 69, 70, 71, 72, 73, 74, 75, 76, 77, 78, 79, 80, 81, 82, 83, 84, 85, 86] (by decide +kernel) (by decide +kernel)
set_option maxRecDepth 20000 in
theorem gX2_print_X2_charge : GoodIn wsX2_print (wsV RX2 199 RX2 yX2_charge wsX2_charge) := goodIn_app (goodIn_of _ (by decide +kernel)) ggX2_print_X2_charge
theorem dX2_print_0 : decode cX2_print 0 = .ok (.aload_n 0, 1) := by decide +kernel
theorem dX2_print_1 : decode cX2_print 1 = .ok (.iload_n 1, 1) := by decide +kernel
theorem dX2_print_2 : decode cX2_print 2 = .ok (.invokevirtual 176, 3) := by decide +kernel
theorem dX2_print_5 : decode cX2_print 5 = .ok (.astore_n 3, 1) := by decide +kernel
theorem dX2_print_6 : decode cX2_print 6 = .ok (.iload_n 2, 1) := by decide +kernel
theorem dX2_print_7 : decode cX2_print 7 = .ok (.iconst 1, 1) := by decide +kernel
theorem dX2_print_8 : decode cX2_print 8 = .ok (.bipush 99, 2) := by decide +kernel
theorem dX2_print_10 : decode cX2_print 10 = .ok (.invokestatic 54, 3) := by decide +kernel
theorem dX2_print_13 : decode cX2_print 13 = .ok (.ifCond .eq 13, 3) := by decide +kernel
theorem dX2_print_16 : decode cX2_print 16 = .ok (.new 58, 3) := by decide +kernel
theorem dX2_print_19 : decode cX2_print 19 = .ok (.dup, 1) := by decide +kernel
theorem dX2_print_20 : decode cX2_print 20 = .ok (.ldc 197, 2) := by decide +kernel
theorem dX2_print_22 : decode cX2_print 22 = .ok (.invokespecial 62, 3) := by decide +kernel
theorem dX2_print_25 : decode cX2_print 25 = .ok (.athrow, 1) := by decide +kernel
theorem dX2_print_26 : decode cX2_print 26 = .ok (.aload_n 3, 1) := by decide +kernel
theorem dX2_print_27 : decode cX2_print 27 = .ok (.invokestatic 184, 3) := by decide +kernel
theorem dX2_print_30 : decode cX2_print 30 = .ok (.iload_n 2, 1) := by decide +kernel
theorem dX2_print_31 : decode cX2_print 31 = .ok (.iconst 2, 1) := by decide +kernel
theorem dX2_print_32 : decode cX2_print 32 = .ok (.imul, 1) := by decide +kernel
theorem dX2_print_33 : decode cX2_print 33 = .ok (.istore 4, 2) := by decide +kernel
theorem dX2_print_35 : decode cX2_print 35 = .ok (.aload_n 0, 1) := by decide +kernel
theorem dX2_print_36 : decode cX2_print 36 = .ok (.aload_n 0, 1) := by decide +kernel
theorem dX2_print_37 : decode cX2_print 37 = .ok (.getfield 19, 3) := by decide +kernel
theorem dX2_print_40 : decode cX2_print 40 = .ok (.aload_n 3, 1) := by decide +kernel
theorem dX2_print_41 : decode cX2_print 41 = .ok (.getfield 179, 3) := by decide +kernel
theorem dX2_print_44 : decode cX2_print 44 = .ok (.iaload, 1) := by decide +kernel
theorem dX2_print_45 : decode cX2_print 45 = .ok (.iload 4, 2) := by decide +kernel
theorem dX2_print_47 : decode cX2_print 47 = .ok (.invokevirtual 138, 3) := by decide +kernel
theorem dX2_print_50 : decode cX2_print 50 = .ok (.aload_n 0, 1) := by decide +kernel
theorem dX2_print_51 : decode cX2_print 51 = .ok (.aload_n 3, 1) := by decide +kernel
theorem dX2_print_52 : decode cX2_print 52 = .ok (.iload 4, 2) := by decide +kernel
theorem dX2_print_54 : decode cX2_print 54 = .ok (.invokevirtual 199, 3) := by decide +kernel
theorem dX2_print_57 : decode cX2_print 57 = .ok (.aload_n 0, 1) := by decide +kernel
theorem dX2_print_58 : decode cX2_print 58 = .ok (.dup, 1) := by decide +kernel
theorem dX2_print_59 : decode cX2_print 59 = .ok (.getfield 47, 3) := by decide +kernel
theorem dX2_print_62 : decode cX2_print 62 = .ok (.iload 4, 2) := by decide +kernel
theorem dX2_print_64 : decode cX2_print 64 = .ok (.iadd, 1) := by decide +kernel
theorem dX2_print_65 : decode cX2_print 65 = .ok (.putfield 47, 3) := by decide +kernel
theorem dX2_print_68 : decode cX2_print 68 = .ok (.aload_n 3, 1) := by decide +kernel
theorem dX2_print_69 : decode cX2_print 69 = .ok (.aload_n 0, 1) := by decide +kernel
theorem dX2_print_70 : decode cX2_print 70 = .ok (.getfield 43, 3) := by decide +kernel
theorem dX2_print_73 : decode cX2_print 73 = .ok (.putfield 173, 3) := by decide +kernel
theorem dX2_print_76 : decode cX2_print 76 = .ok (.aload_n 3, 1) := by decide +kernel
theorem dX2_print_77 : decode cX2_print 77 = .ok (.getfield 203, 3) := by decide +kernel
theorem dX2_print_80 : decode cX2_print 80 = .ok (.getfield 207, 3) := by decide +kernel
theorem dX2_print_83 : decode cX2_print 83 = .ok (.istore 5, 2) := by decide +kernel
theorem dX2_print_85 : decode cX2_print 85 = .ok (.aload_n 0, 1) := by decide +kernel
theorem dX2_print_86 : decode cX2_print 86 = .ok (.getfield 16, 3) := by decide +kernel
theorem dX2_print_89 : decode cX2_print 89 = .ok (.iload 5, 2) := by decide +kernel
theorem dX2_print_91 : decode cX2_print 91 = .ok (.dup2, 1) := by decide +kernel
theorem dX2_print_92 : decode cX2_print 92 = .ok (.iaload, 1) := by decide +kernel
theorem dX2_print_93 : decode cX2_print 93 = .ok (.iload_n 2, 1) := by decide +kernel
theorem dX2_print_94 : decode cX2_print 94 = .ok (.iadd, 1) := by decide +kernel
theorem dX2_print_95 : decode cX2_print 95 = .ok (.iastore, 1) := by decide +kernel
theorem dX2_print_96 : decode cX2_print 96 = .ok (.aload_n 0, 1) := by decide +kernel
theorem dX2_print_97 : decode cX2_print 97 = .ok (.getfield 16, 3) := by decide +kernel
theorem dX2_print_100 : decode cX2_print 100 = .ok (.iload 5, 2) := by decide +kernel
theorem dX2_print_102 : decode cX2_print 102 = .ok (.iaload, 1) := by decide +kernel
theorem dX2_print_103 : decode cX2_print 103 = .ok (.ireturn, 1) := by decide +kernel
set_option maxRecDepth 20000 in
theorem ggX2_state_X2_sessionAt : GoodIn wsX2_state wsX2_sessionAt := goodIn_ca (goodIn_r _ [8, 9, 10, 11, 12, 13, 14, 15, 16, 17, 18, 19, 20, 7, 21, 22, 23, 24, 25, 26, 27, 28, 29, 30, 31, 32, 33, 34, 35, 36, 37, 38, 52, 53, 54, 55, 56, 57, 58, 59, 60, 61, 62, 63, 64, 65] (by decide +kernel) (by decide +kernel)) (goodIn_sub (fun _ h => List.mem_cons_of_mem _ (List.mem_append_right _ h)) (by decide +kernel))
set_option maxRecDepth 20000 in
theorem gX2_state_X2_sessionAt : GoodIn wsX2_state (wsV RX2 176 RX2 yX2_sessionAt wsX2_sessionAt) := goodIn_app (goodIn_of _ (by decide +kernel)) ggX2_state_X2_sessionAt
set_option maxRecDepth 20000 in
theorem ggX2_state_X1_isLive : GoodIn wsX2_state wsX1_isLive := goodIn_r _ [43, 44, 45, 46, 47, 48, 49, 50, 51] (by decide +kernel) (by decide +kernel)
set_option maxRecDepth 20000 in
theorem gX2_state_X1_isLive : GoodIn wsX2_state (wsV RX2 210 RX1 yX1_isLive wsX1_isLive) := goodIn_app (goodIn_of _ (by decide +kernel)) ggX2_state_X1_isLive
theorem dX2_state_0 : decode cX2_state 0 = .ok (.aload_n 0, 1) := by decide +kernel
theorem dX2_state_1 : decode cX2_state 1 = .ok (.iload_n 1, 1) := by decide +kernel
theorem dX2_state_2 : decode cX2_state 2 = .ok (.invokevirtual 176, 3) := by decide +kernel
theorem dX2_state_5 : decode cX2_state 5 = .ok (.astore_n 2, 1) := by decide +kernel
theorem dX2_state_6 : decode cX2_state 6 = .ok (.aload_n 2, 1) := by decide +kernel
theorem dX2_state_7 : decode cX2_state 7 = .ok (.invokevirtual 210, 3) := by decide +kernel
theorem dX2_state_10 : decode cX2_state 10 = .ok (.ifCond .eq 17, 3) := by decide +kernel
theorem dX2_state_13 : decode cX2_state 13 = .ok (.aload_n 2, 1) := by decide +kernel
theorem dX2_state_14 : decode cX2_state 14 = .ok (.getfield 179, 3) := by decide +kernel
theorem dX2_state_17 : decode cX2_state 17 = .ok (.aload_n 2, 1) := by decide +kernel
theorem dX2_state_18 : decode cX2_state 18 = .ok (.getfield 192, 3) := by decide +kernel
theorem dX2_state_21 : decode cX2_state 21 = .ok (.if_icmp .eq 6, 3) := by decide +kernel
theorem dX2_state_24 : decode cX2_state 24 = .ok (.bipush 116, 2) := by decide +kernel
theorem dX2_state_26 : decode cX2_state 26 = .ok (.ireturn, 1) := by decide +kernel
theorem dX2_state_27 : decode cX2_state 27 = .ok (.aload_n 2, 1) := by decide +kernel
theorem dX2_state_28 : decode cX2_state 28 = .ok (.getfield 214, 3) := by decide +kernel
theorem dX2_state_31 : decode cX2_state 31 = .ok (.ireturn, 1) := by decide +kernel
set_option maxRecDepth 20000 in
theorem ggX2_userOf_X2_sessionAt : GoodIn wsX2_userOf wsX2_sessionAt := goodIn_ca (goodIn_r _ [6, 7, 8, 9, 10, 11, 12, 13, 14, 15, 16, 17, 18, 5, 19, 20, 21, 22, 23, 24, 25, 26, 27, 28, 29, 30, 31, 32, 33, 34, 35, 36, 44, 45, 46, 47, 48, 49, 50, 51, 52, 53, 54, 55, 56, 57] (by decide +kernel) (by decide +kernel)) (goodIn_sub (fun _ h => List.mem_cons_of_mem _ (List.mem_append_right _ h)) (by decide +kernel))
set_option maxRecDepth 20000 in
theorem gX2_userOf_X2_sessionAt : GoodIn wsX2_userOf (wsV RX2 176 RX2 yX2_sessionAt wsX2_sessionAt) := goodIn_app (goodIn_of _ (by decide +kernel)) ggX2_userOf_X2_sessionAt
theorem dX2_userOf_0 : decode cX2_userOf 0 = .ok (.aload_n 0, 1) := by decide +kernel
theorem dX2_userOf_1 : decode cX2_userOf 1 = .ok (.iload_n 1, 1) := by decide +kernel
theorem dX2_userOf_2 : decode cX2_userOf 2 = .ok (.invokevirtual 176, 3) := by decide +kernel
theorem dX2_userOf_5 : decode cX2_userOf 5 = .ok (.getfield 179, 3) := by decide +kernel
theorem dX2_userOf_8 : decode cX2_userOf 8 = .ok (.ireturn, 1) := by decide +kernel
set_option maxRecDepth 20000 in
theorem ggX2_charged_X2_sessionAt : GoodIn wsX2_charged wsX2_sessionAt := goodIn_ca (goodIn_r _ [6, 7, 8, 9, 10, 11, 12, 13, 14, 15, 16, 17, 18, 5, 19, 20, 21, 22, 23, 24, 25, 26, 27, 28, 29, 30, 31, 32, 33, 34, 35, 36, 49, 50, 51, 52, 53, 54, 55, 56, 57, 58, 59, 60, 61, 62] (by decide +kernel) (by decide +kernel)) (goodIn_sub (fun _ h => List.mem_cons_of_mem _ (List.mem_append_left _ (List.mem_append_right _ h))) (by decide +kernel))
set_option maxRecDepth 20000 in
theorem gX2_charged_X2_sessionAt : GoodIn wsX2_charged (wsV RX2 176 RX2 yX2_sessionAt wsX2_sessionAt) := goodIn_app (goodIn_of _ (by decide +kernel)) ggX2_charged_X2_sessionAt
set_option maxRecDepth 20000 in
theorem ggX2_charged_X2_checkDepartment : GoodIn wsX2_charged wsX2_checkDepartment := goodIn_ca (goodIn_r _ [39, 40, 41, 17, 18, 5, 19] (by decide +kernel) (by decide +kernel)) (goodIn_sub (fun _ h => List.mem_cons_of_mem _ (List.mem_append_right _ h)) (by decide +kernel))
set_option maxRecDepth 20000 in
theorem gX2_charged_X2_checkDepartment : GoodIn wsX2_charged (va_wsS RX2 125 yX2_checkDepartment wsX2_checkDepartment) := goodIn_app (goodIn_of _ (by decide +kernel)) ggX2_charged_X2_checkDepartment
theorem dX2_charged_0 : decode cX2_charged 0 = .ok (.aload_n 0, 1) := by decide +kernel
theorem dX2_charged_1 : decode cX2_charged 1 = .ok (.iload_n 1, 1) := by decide +kernel
theorem dX2_charged_2 : decode cX2_charged 2 = .ok (.invokevirtual 176, 3) := by decide +kernel
theorem dX2_charged_5 : decode cX2_charged 5 = .ok (.astore_n 3, 1) := by decide +kernel
theorem dX2_charged_6 : decode cX2_charged 6 = .ok (.iload_n 2, 1) := by decide +kernel
theorem dX2_charged_7 : decode cX2_charged 7 = .ok (.invokestatic 125, 3) := by decide +kernel
theorem dX2_charged_10 : decode cX2_charged 10 = .ok (.aload_n 3, 1) := by decide +kernel
theorem dX2_charged_11 : decode cX2_charged 11 = .ok (.getfield 149, 3) := by decide +kernel
theorem dX2_charged_14 : decode cX2_charged 14 = .ok (.iload_n 2, 1) := by decide +kernel
theorem dX2_charged_15 : decode cX2_charged 15 = .ok (.iaload, 1) := by decide +kernel
theorem dX2_charged_16 : decode cX2_charged 16 = .ok (.ireturn, 1) := by decide +kernel
set_option maxRecDepth 20000 in
theorem ggX2_pass_X2_isOutside : GoodIn wsX2_pass wsX2_isOutside := goodIn_r _ [7] (by decide +kernel) (by decide +kernel)
set_option maxRecDepth 20000 in
theorem gX2_pass_X2_isOutside : GoodIn wsX2_pass (va_wsS RX2 54 yX2_isOutside wsX2_isOutside) := goodIn_app (goodIn_of _ (by decide +kernel)) ggX2_pass_X2_isOutside
set_option maxRecDepth 20000 in
theorem ggX2_pass_X2_chargeLiveSessions : GoodIn wsX2_pass wsX2_chargeLiveSessions := goodIn_r _ [11, 12, 13, 14, 15, 16, 17, 18, 19, 20, 21, 22, 23, 24, 25, 26, 27, 28, 29, 30, 31, 32, 33, 34, 35, 36, 37, 38, 39, 40, 41, 42, 43, 44, 45, 6, 46, 47, 48, 49, 50, 51, 3, 52, 53, 54, 55, 56, 57, 58, 59, 60, 61, 62, 63, 64, 65, 66, 67, 68, 69, 70, 71, 72, 73, 74, 75, 76, 77, 78, 79, 80, 81, 82, 83, 84, 85, 86, 87, 88, 89, 90, 91, 92, 93, 94, 95, 96, 97, 98, 99, 100] (by decide +kernel) (by decide +kernel)
set_option maxRecDepth 20000 in
theorem gX2_pass_X2_chargeLiveSessions : GoodIn wsX2_pass (wsV RX2 234 RX2 yX2_chargeLiveSessions wsX2_chargeLiveSessions) := goodIn_app (goodIn_of _ (by decide +kernel)) ggX2_pass_X2_chargeLiveSessions
theorem dX2_pass_0 : decode cX2_pass 0 = .ok (.iload_n 1, 1) := by decide +kernel
theorem dX2_pass_1 : decode cX2_pass 1 = .ok (.iconst 1, 1) := by decide +kernel
theorem dX2_pass_2 : decode cX2_pass 2 = .ok (.bipush 60, 2) := by decide +kernel
theorem dX2_pass_4 : decode cX2_pass 4 = .ok (.invokestatic 54, 3) := by decide +kernel
theorem dX2_pass_7 : decode cX2_pass 7 = .ok (.ifCond .eq 13, 3) := by decide +kernel
theorem dX2_pass_10 : decode cX2_pass 10 = .ok (.new 58, 3) := by decide +kernel
theorem dX2_pass_13 : decode cX2_pass 13 = .ok (.dup, 1) := by decide +kernel
theorem dX2_pass_14 : decode cX2_pass 14 = .ok (.ldc 230, 2) := by decide +kernel
theorem dX2_pass_16 : decode cX2_pass 16 = .ok (.invokespecial 62, 3) := by decide +kernel
theorem dX2_pass_19 : decode cX2_pass 19 = .ok (.athrow, 1) := by decide +kernel
theorem dX2_pass_20 : decode cX2_pass 20 = .ok (.aload_n 0, 1) := by decide +kernel
theorem dX2_pass_21 : decode cX2_pass 21 = .ok (.getfield 43, 3) := by decide +kernel
theorem dX2_pass_24 : decode cX2_pass 24 = .ok (.iload_n 1, 1) := by decide +kernel
theorem dX2_pass_25 : decode cX2_pass 25 = .ok (.iadd, 1) := by decide +kernel
theorem dX2_pass_26 : decode cX2_pass 26 = .ok (.sipush 5000, 3) := by decide +kernel
theorem dX2_pass_29 : decode cX2_pass 29 = .ok (.if_icmp .le 13, 3) := by decide +kernel
theorem dX2_pass_32 : decode cX2_pass 32 = .ok (.new 58, 3) := by decide +kernel
theorem dX2_pass_35 : decode cX2_pass 35 = .ok (.dup, 1) := by decide +kernel
theorem dX2_pass_36 : decode cX2_pass 36 = .ok (.ldc 232, 2) := by decide +kernel
theorem dX2_pass_38 : decode cX2_pass 38 = .ok (.invokespecial 62, 3) := by decide +kernel
theorem dX2_pass_41 : decode cX2_pass 41 = .ok (.athrow, 1) := by decide +kernel
theorem dX2_pass_42 : decode cX2_pass 42 = .ok (.iconst 0, 1) := by decide +kernel
theorem dX2_pass_43 : decode cX2_pass 43 = .ok (.istore_n 2, 1) := by decide +kernel
theorem dX2_pass_44 : decode cX2_pass 44 = .ok (.iconst 0, 1) := by decide +kernel
theorem dX2_pass_45 : decode cX2_pass 45 = .ok (.istore_n 3, 1) := by decide +kernel
theorem dX2_pass_46 : decode cX2_pass 46 = .ok (.iload_n 3, 1) := by decide +kernel
theorem dX2_pass_47 : decode cX2_pass 47 = .ok (.iload_n 1, 1) := by decide +kernel
theorem dX2_pass_48 : decode cX2_pass 48 = .ok (.if_icmp .ge 26, 3) := by decide +kernel
theorem dX2_pass_51 : decode cX2_pass 51 = .ok (.aload_n 0, 1) := by decide +kernel
theorem dX2_pass_52 : decode cX2_pass 52 = .ok (.dup, 1) := by decide +kernel
theorem dX2_pass_53 : decode cX2_pass 53 = .ok (.getfield 43, 3) := by decide +kernel
theorem dX2_pass_56 : decode cX2_pass 56 = .ok (.iconst 1, 1) := by decide +kernel
theorem dX2_pass_57 : decode cX2_pass 57 = .ok (.iadd, 1) := by decide +kernel
theorem dX2_pass_58 : decode cX2_pass 58 = .ok (.putfield 43, 3) := by decide +kernel
theorem dX2_pass_61 : decode cX2_pass 61 = .ok (.iload_n 2, 1) := by decide +kernel
theorem dX2_pass_62 : decode cX2_pass 62 = .ok (.aload_n 0, 1) := by decide +kernel
theorem dX2_pass_63 : decode cX2_pass 63 = .ok (.invokevirtual 234, 3) := by decide +kernel
theorem dX2_pass_66 : decode cX2_pass 66 = .ok (.iadd, 1) := by decide +kernel
theorem dX2_pass_67 : decode cX2_pass 67 = .ok (.istore_n 2, 1) := by decide +kernel
theorem dX2_pass_68 : decode cX2_pass 68 = .ok (.iinc 3 1, 3) := by decide +kernel
theorem dX2_pass_71 : decode cX2_pass 71 = .ok (.goto (-25), 3) := by decide +kernel
theorem dX2_pass_74 : decode cX2_pass 74 = .ok (.iload_n 2, 1) := by decide +kernel
theorem dX2_pass_75 : decode cX2_pass 75 = .ok (.ireturn, 1) := by decide +kernel
theorem dX2_time_0 : decode cX2_time 0 = .ok (.aload_n 0, 1) := by decide +kernel
theorem dX2_time_1 : decode cX2_time 1 = .ok (.getfield 43, 3) := by decide +kernel
theorem dX2_time_4 : decode cX2_time 4 = .ok (.ireturn, 1) := by decide +kernel
set_option maxRecDepth 20000 in
theorem ggX2_pageShare_X2_chargedToAllSessions : GoodIn wsX2_pageShare wsX2_chargedToAllSessions := goodIn_r _ [8, 9, 10, 11, 12, 13, 14, 15, 16, 17, 18, 19, 20, 21, 22, 23, 24, 25, 26, 27, 28, 29, 30, 31, 32, 33, 34, 35, 36, 37, 38, 39, 40, 41, 42, 43, 44, 45, 46, 47, 48, 49, 50, 51, 52, 53, 54, 55, 56, 57, 58, 59, 60] (by decide +kernel) (by decide +kernel)
set_option maxRecDepth 20000 in
theorem gX2_pageShare_X2_chargedToAllSessions : GoodIn wsX2_pageShare (wsV RX2 237 RX2 yX2_chargedToAllSessions wsX2_chargedToAllSessions) := goodIn_app (goodIn_of _ (by decide +kernel)) ggX2_pageShare_X2_chargedToAllSessions
theorem dX2_pageShare_0 : decode cX2_pageShare 0 = .ok (.aload_n 0, 1) := by decide +kernel
theorem dX2_pageShare_1 : decode cX2_pageShare 1 = .ok (.invokevirtual 237, 3) := by decide +kernel
theorem dX2_pageShare_4 : decode cX2_pageShare 4 = .ok (.istore_n 1, 1) := by decide +kernel
theorem dX2_pageShare_5 : decode cX2_pageShare 5 = .ok (.iload_n 1, 1) := by decide +kernel
theorem dX2_pageShare_6 : decode cX2_pageShare 6 = .ok (.ifCond .ne 13, 3) := by decide +kernel
theorem dX2_pageShare_9 : decode cX2_pageShare 9 = .ok (.new 240, 3) := by decide +kernel
theorem dX2_pageShare_12 : decode cX2_pageShare 12 = .ok (.dup, 1) := by decide +kernel
theorem dX2_pageShare_13 : decode cX2_pageShare 13 = .ok (.ldc 242, 2) := by decide +kernel
theorem dX2_pageShare_15 : decode cX2_pageShare 15 = .ok (.invokespecial 244, 3) := by decide +kernel
theorem dX2_pageShare_18 : decode cX2_pageShare 18 = .ok (.athrow, 1) := by decide +kernel
theorem dX2_pageShare_19 : decode cX2_pageShare 19 = .ok (.aload_n 0, 1) := by decide +kernel
theorem dX2_pageShare_20 : decode cX2_pageShare 20 = .ok (.getfield 47, 3) := by decide +kernel
theorem dX2_pageShare_23 : decode cX2_pageShare 23 = .ok (.i2f, 1) := by decide +kernel
theorem dX2_pageShare_24 : decode cX2_pageShare 24 = .ok (.iload_n 1, 1) := by decide +kernel
theorem dX2_pageShare_25 : decode cX2_pageShare 25 = .ok (.i2f, 1) := by decide +kernel
theorem dX2_pageShare_26 : decode cX2_pageShare 26 = .ok (.fdiv, 1) := by decide +kernel
theorem dX2_pageShare_27 : decode cX2_pageShare 27 = .ok (.freturn, 1) := by decide +kernel
set_option maxRecDepth 20000 in
theorem ggX2_meanCharge_Jx4a65c_size_8abf5 : GoodIn wsX2_meanCharge wsJx4a65c_size_8abf5 := goodIn_r _ [8, 9, 50, 51, 52] (by decide +kernel) (by decide +kernel)
set_option maxRecDepth 20000 in
theorem gX2_meanCharge_Jx4a65c_size_8abf5 : GoodIn wsX2_meanCharge (wsV RX2 67 RJx4a65c yJx4a65c_size_8abf5 wsJx4a65c_size_8abf5) := goodIn_app (goodIn_of _ (by decide +kernel)) ggX2_meanCharge_Jx4a65c_size_8abf5
set_option maxRecDepth 20000 in
theorem ggX2_meanCharge_X2_chargedToAllSessions : GoodIn wsX2_meanCharge wsX2_chargedToAllSessions := goodIn_r _ [14, 3, 15, 4, 5, 6, 7, 8, 9, 16, 17, 18, 19, 20, 21, 22, 23, 24, 25, 26, 27, 28, 29, 30, 31, 32, 33, 34, 35, 36, 37, 38, 39, 40, 41, 42, 43, 44, 45, 46, 47, 48, 49, 50, 51, 52, 53, 54, 55, 56, 57, 58, 59] (by decide +kernel) (by decide +kernel)
set_option maxRecDepth 20000 in
theorem gX2_meanCharge_X2_chargedToAllSessions : GoodIn wsX2_meanCharge (wsV RX2 237 RX2 yX2_chargedToAllSessions wsX2_chargedToAllSessions) := goodIn_app (goodIn_of _ (by decide +kernel)) ggX2_meanCharge_X2_chargedToAllSessions
theorem dX2_meanCharge_0 : decode cX2_meanCharge 0 = .ok (.aload_n 0, 1) := by decide +kernel
theorem dX2_meanCharge_1 : decode cX2_meanCharge 1 = .ok (.getfield 40, 3) := by decide +kernel
theorem dX2_meanCharge_4 : decode cX2_meanCharge 4 = .ok (.invokevirtual 67, 3) := by decide +kernel
theorem dX2_meanCharge_7 : decode cX2_meanCharge 7 = .ok (.istore_n 1, 1) := by decide +kernel
theorem dX2_meanCharge_8 : decode cX2_meanCharge 8 = .ok (.iload_n 1, 1) := by decide +kernel
theorem dX2_meanCharge_9 : decode cX2_meanCharge 9 = .ok (.ifCond .ne 13, 3) := by decide +kernel
theorem dX2_meanCharge_12 : decode cX2_meanCharge 12 = .ok (.new 240, 3) := by decide +kernel
theorem dX2_meanCharge_15 : decode cX2_meanCharge 15 = .ok (.dup, 1) := by decide +kernel
theorem dX2_meanCharge_16 : decode cX2_meanCharge 16 = .ok (.ldc 245, 2) := by decide +kernel
theorem dX2_meanCharge_18 : decode cX2_meanCharge 18 = .ok (.invokespecial 244, 3) := by decide +kernel
theorem dX2_meanCharge_21 : decode cX2_meanCharge 21 = .ok (.athrow, 1) := by decide +kernel
theorem dX2_meanCharge_22 : decode cX2_meanCharge 22 = .ok (.aload_n 0, 1) := by decide +kernel
theorem dX2_meanCharge_23 : decode cX2_meanCharge 23 = .ok (.invokevirtual 237, 3) := by decide +kernel
theorem dX2_meanCharge_26 : decode cX2_meanCharge 26 = .ok (.i2d, 1) := by decide +kernel
theorem dX2_meanCharge_27 : decode cX2_meanCharge 27 = .ok (.iload_n 1, 1) := by decide +kernel
theorem dX2_meanCharge_28 : decode cX2_meanCharge 28 = .ok (.i2d, 1) := by decide +kernel
theorem dX2_meanCharge_29 : decode cX2_meanCharge 29 = .ok (.ddiv, 1) := by decide +kernel
theorem dX2_meanCharge_30 : decode cX2_meanCharge 30 = .ok (.dreturn, 1) := by decide +kernel
theorem dX2_isOutside_0 : decode cX2_isOutside 0 = .ok (.iload_n 0, 1) := by decide +kernel
theorem dX2_isOutside_1 : decode cX2_isOutside 1 = .ok (.iload_n 1, 1) := by decide +kernel
theorem dX2_isOutside_2 : decode cX2_isOutside 2 = .ok (.if_icmp .lt 8, 3) := by decide +kernel
theorem dX2_isOutside_5 : decode cX2_isOutside 5 = .ok (.iload_n 0, 1) := by decide +kernel
theorem dX2_isOutside_6 : decode cX2_isOutside 6 = .ok (.iload_n 2, 1) := by decide +kernel
theorem dX2_isOutside_7 : decode cX2_isOutside 7 = .ok (.if_icmp .le 7, 3) := by decide +kernel
theorem dX2_isOutside_10 : decode cX2_isOutside 10 = .ok (.iconst 1, 1) := by decide +kernel
theorem dX2_isOutside_11 : decode cX2_isOutside 11 = .ok (.goto 4, 3) := by decide +kernel
theorem dX2_isOutside_14 : decode cX2_isOutside 14 = .ok (.iconst 0, 1) := by decide +kernel
theorem dX2_isOutside_15 : decode cX2_isOutside 15 = .ok (.ireturn, 1) := by decide +kernel
set_option maxRecDepth 20000 in
theorem ggX2_checkPool_X2_isOutside : GoodIn wsX2_checkPool wsX2_isOutside := goodIn_r _ [6] (by decide +kernel) (by decide +kernel)
set_option maxRecDepth 20000 in
theorem gX2_checkPool_X2_isOutside : GoodIn wsX2_checkPool (va_wsS RX2 54 yX2_isOutside wsX2_isOutside) := goodIn_app (goodIn_of _ (by decide +kernel)) ggX2_checkPool_X2_isOutside
theorem dX2_checkPool_0 : decode cX2_checkPool 0 = .ok (.iload_n 0, 1) := by decide +kernel
theorem dX2_checkPool_1 : decode cX2_checkPool 1 = .ok (.iconst 0, 1) := by decide +kernel
theorem dX2_checkPool_2 : decode cX2_checkPool 2 = .ok (.iconst 2, 1) := by decide +kernel
theorem dX2_checkPool_3 : decode cX2_checkPool 3 = .ok (.invokestatic 54, 3) := by decide +kernel
theorem dX2_checkPool_6 : decode cX2_checkPool 6 = .ok (.ifCond .eq 13, 3) := by decide +kernel
theorem dX2_checkPool_9 : decode cX2_checkPool 9 = .ok (.new 58, 3) := by decide +kernel
theorem dX2_checkPool_12 : decode cX2_checkPool 12 = .ok (.dup, 1) := by decide +kernel
theorem dX2_checkPool_13 : decode cX2_checkPool 13 = .ok (.ldc 247, 2) := by decide +kernel
theorem dX2_checkPool_15 : decode cX2_checkPool 15 = .ok (.invokespecial 62, 3) := by decide +kernel
theorem dX2_checkPool_18 : decode cX2_checkPool 18 = .ok (.athrow, 1) := by decide +kernel
theorem dX2_checkPool_19 : decode cX2_checkPool 19 = .ok (.return_, 1) := by decide +kernel
set_option maxRecDepth 20000 in
theorem ggX2_checkUser_X2_isOutside : GoodIn wsX2_checkUser wsX2_isOutside := goodIn_r _ [6] (by decide +kernel) (by decide +kernel)
set_option maxRecDepth 20000 in
theorem gX2_checkUser_X2_isOutside : GoodIn wsX2_checkUser (va_wsS RX2 54 yX2_isOutside wsX2_isOutside) := goodIn_app (goodIn_of _ (by decide +kernel)) ggX2_checkUser_X2_isOutside
theorem dX2_checkUser_0 : decode cX2_checkUser 0 = .ok (.iload_n 0, 1) := by decide +kernel
theorem dX2_checkUser_1 : decode cX2_checkUser 1 = .ok (.iconst 0, 1) := by decide +kernel
theorem dX2_checkUser_2 : decode cX2_checkUser 2 = .ok (.bipush 9, 2) := by decide +kernel
theorem dX2_checkUser_4 : decode cX2_checkUser 4 = .ok (.invokestatic 54, 3) := by decide +kernel
theorem dX2_checkUser_7 : decode cX2_checkUser 7 = .ok (.ifCond .eq 13, 3) := by decide +kernel
theorem dX2_checkUser_10 : decode cX2_checkUser 10 = .ok (.new 58, 3) := by decide +kernel
theorem dX2_checkUser_13 : decode cX2_checkUser 13 = .ok (.dup, 1) := by decide +kernel
theorem dX2_checkUser_14 : decode cX2_checkUser 14 = .ok (.ldc 249, 2) := by decide +kernel
theorem dX2_checkUser_16 : decode cX2_checkUser 16 = .ok (.invokespecial 62, 3) := by decide +kernel
theorem dX2_checkUser_19 : decode cX2_checkUser 19 = .ok (.athrow, 1) := by decide +kernel
theorem dX2_checkUser_20 : decode cX2_checkUser 20 = .ok (.return_, 1) := by decide +kernel
set_option maxRecDepth 20000 in
theorem ggX2_checkDepartment_X2_isOutside : GoodIn wsX2_checkDepartment wsX2_isOutside := goodIn_r _ [6] (by decide +kernel) (by decide +kernel)
set_option maxRecDepth 20000 in
theorem gX2_checkDepartment_X2_isOutside : GoodIn wsX2_checkDepartment (va_wsS RX2 54 yX2_isOutside wsX2_isOutside) := goodIn_app (goodIn_of _ (by decide +kernel)) ggX2_checkDepartment_X2_isOutside
theorem dX2_checkDepartment_0 : decode cX2_checkDepartment 0 = .ok (.iload_n 0, 1) := by decide +kernel
theorem dX2_checkDepartment_1 : decode cX2_checkDepartment 1 = .ok (.iconst 0, 1) := by decide +kernel
theorem dX2_checkDepartment_2 : decode cX2_checkDepartment 2 = .ok (.iconst 3, 1) := by decide +kernel
theorem dX2_checkDepartment_3 : decode cX2_checkDepartment 3 = .ok (.invokestatic 54, 3) := by decide +kernel
theorem dX2_checkDepartment_6 : decode cX2_checkDepartment 6 = .ok (.ifCond .eq 13, 3) := by decide +kernel
theorem dX2_checkDepartment_9 : decode cX2_checkDepartment 9 = .ok (.new 58, 3) := by decide +kernel
theorem dX2_checkDepartment_12 : decode cX2_checkDepartment 12 = .ok (.dup, 1) := by decide +kernel
theorem dX2_checkDepartment_13 : decode cX2_checkDepartment 13 = .ok (.ldc 251, 2) := by decide +kernel
theorem dX2_checkDepartment_15 : decode cX2_checkDepartment 15 = .ok (.invokespecial 62, 3) := by decide +kernel
