theorem dX3_print_0 : decode cX3_print 0 = .ok (.aload_n 0, 1) := by decide +kernel
theorem dX3_print_1 : decode cX3_print 1 = .ok (.iload_n 1, 1) := by decide +kernel
theorem dX3_print_2 : decode cX3_print 2 = .ok (.invokevirtual 117, 3) := by decide +kernel
theorem dX3_print_5 : decode cX3_print 5 = .ok (.ifCond .ne 7, 3) := by decide +kernel
theorem dX3_print_8 : decode cX3_print 8 = .ok (.iconst 1, 1) := by decide +kernel
theorem dX3_print_9 : decode cX3_print 9 = .ok (.goto 56, 3) := by decide +kernel
theorem dX3_print_12 : decode cX3_print 12 = .ok (.iload_n 2, 1) := by decide +kernel
theorem dX3_print_13 : decode cX3_print 13 = .ok (.iconst 1, 1) := by decide +kernel
theorem dX3_print_14 : decode cX3_print 14 = .ok (.bipush 99, 2) := by decide +kernel
theorem dX3_print_16 : decode cX3_print 16 = .ok (.invokestatic 66, 3) := by decide +kernel
theorem dX3_print_19 : decode cX3_print 19 = .ok (.ifCond .ne 7, 3) := by decide +kernel
theorem dX3_print_22 : decode cX3_print 22 = .ok (.iconst 2, 1) := by decide +kernel
theorem dX3_print_23 : decode cX3_print 23 = .ok (.goto 42, 3) := by decide +kernel
theorem dX3_print_26 : decode cX3_print 26 = .ok (.aload_n 0, 1) := by decide +kernel
theorem dX3_print_27 : decode cX3_print 27 = .ok (.iload_n 1, 1) := by decide +kernel
theorem dX3_print_28 : decode cX3_print 28 = .ok (.invokevirtual 76, 3) := by decide +kernel
theorem dX3_print_31 : decode cX3_print 31 = .ok (.ifCond .ne 7, 3) := by decide +kernel
theorem dX3_print_34 : decode cX3_print 34 = .ok (.iconst 3, 1) := by decide +kernel
theorem dX3_print_35 : decode cX3_print 35 = .ok (.goto 30, 3) := by decide +kernel
theorem dX3_print_38 : decode cX3_print 38 = .ok (.aload_n 0, 1) := by decide +kernel
theorem dX3_print_39 : decode cX3_print 39 = .ok (.getfield 29, 3) := by decide +kernel
theorem dX3_print_42 : decode cX3_print 42 = .ok (.aload_n 0, 1) := by decide +kernel
theorem dX3_print_43 : decode cX3_print 43 = .ok (.getfield 35, 3) := by decide +kernel
theorem dX3_print_46 : decode cX3_print 46 = .ok (.aload_n 0, 1) := by decide +kernel
theorem dX3_print_47 : decode cX3_print 47 = .ok (.getfield 41, 3) := by decide +kernel
theorem dX3_print_50 : decode cX3_print 50 = .ok (.iload_n 1, 1) := by decide +kernel
theorem dX3_print_51 : decode cX3_print 51 = .ok (.iaload, 1) := by decide +kernel
theorem dX3_print_52 : decode cX3_print 52 = .ok (.iaload, 1) := by decide +kernel
theorem dX3_print_53 : decode cX3_print 53 = .ok (.iaload, 1) := by decide +kernel
theorem dX3_print_54 : decode cX3_print 54 = .ok (.iconst 2, 1) := by decide +kernel
theorem dX3_print_55 : decode cX3_print 55 = .ok (.iload_n 2, 1) := by decide +kernel
theorem dX3_print_56 : decode cX3_print 56 = .ok (.imul, 1) := by decide +kernel
theorem dX3_print_57 : decode cX3_print 57 = .ok (.if_icmp .ge 7, 3) := by decide +kernel
theorem dX3_print_60 : decode cX3_print 60 = .ok (.iconst 4, 1) := by decide +kernel
theorem dX3_print_61 : decode cX3_print 61 = .ok (.goto 4, 3) := by decide +kernel
theorem dX3_print_64 : decode cX3_print 64 = .ok (.iconst 0, 1) := by decide +kernel
theorem dX3_print_65 : decode cX3_print 65 = .ok (.istore_n 3, 1) := by decide +kernel
theorem dX3_print_66 : decode cX3_print 66 = .ok (.aload_n 0, 1) := by decide +kernel
theorem dX3_print_67 : decode cX3_print 67 = .ok (.iload_n 3, 1) := by decide +kernel
theorem dX3_print_68 : decode cX3_print 68 = .ok (.invokevirtual 83, 3) := by decide +kernel
theorem dX3_print_71 : decode cX3_print 71 = .ok (.ifCond .ne 5, 3) := by decide +kernel
theorem dX3_print_74 : decode cX3_print 74 = .ok (.iconst 0, 1) := by decide +kernel
theorem dX3_print_75 : decode cX3_print 75 = .ok (.ireturn, 1) := by decide +kernel
theorem dX3_print_76 : decode cX3_print 76 = .ok (.aload_n 0, 1) := by decide +kernel
theorem dX3_print_77 : decode cX3_print 77 = .ok (.iload_n 1, 1) := by decide +kernel
theorem dX3_print_78 : decode cX3_print 78 = .ok (.iconst 2, 1) := by decide +kernel
theorem dX3_print_79 : decode cX3_print 79 = .ok (.iload_n 2, 1) := by decide +kernel
theorem dX3_print_80 : decode cX3_print 80 = .ok (.imul, 1) := by decide +kernel
theorem dX3_print_81 : decode cX3_print 81 = .ok (.invokevirtual 129, 3) := by decide +kernel
theorem dX3_print_84 : decode cX3_print 84 = .ok (.aload_n 0, 1) := by decide +kernel
theorem dX3_print_85 : decode cX3_print 85 = .ok (.dup, 1) := by decide +kernel
theorem dX3_print_86 : decode cX3_print 86 = .ok (.getfield 133, 3) := by decide +kernel
theorem dX3_print_89 : decode cX3_print 89 = .ok (.iconst 2, 1) := by decide +kernel
theorem dX3_print_90 : decode cX3_print 90 = .ok (.iload_n 2, 1) := by decide +kernel
theorem dX3_print_91 : decode cX3_print 91 = .ok (.imul, 1) := by decide +kernel
theorem dX3_print_92 : decode cX3_print 92 = .ok (.iadd, 1) := by decide +kernel
theorem dX3_print_93 : decode cX3_print 93 = .ok (.putfield 133, 3) := by decide +kernel
theorem dX3_print_96 : decode cX3_print 96 = .ok (.aload_n 0, 1) := by decide +kernel
theorem dX3_print_97 : decode cX3_print 97 = .ok (.getfield 50, 3) := by decide +kernel
theorem dX3_print_100 : decode cX3_print 100 = .ok (.iload_n 1, 1) := by decide +kernel
theorem dX3_print_101 : decode cX3_print 101 = .ok (.aload_n 0, 1) := by decide +kernel
theorem dX3_print_102 : decode cX3_print 102 = .ok (.getfield 114, 3) := by decide +kernel
theorem dX3_print_105 : decode cX3_print 105 = .ok (.iastore, 1) := by decide +kernel
theorem dX3_print_106 : decode cX3_print 106 = .ok (.aload_n 0, 1) := by decide +kernel
theorem dX3_print_107 : decode cX3_print 107 = .ok (.getfield 59, 3) := by decide +kernel
theorem dX3_print_110 : decode cX3_print 110 = .ok (.aload_n 0, 1) := by decide +kernel
theorem dX3_print_111 : decode cX3_print 111 = .ok (.getfield 19, 3) := by decide +kernel
theorem dX3_print_114 : decode cX3_print 114 = .ok (.aload_n 0, 1) := by decide +kernel
theorem dX3_print_115 : decode cX3_print 115 = .ok (.getfield 44, 3) := by decide +kernel
theorem dX3_print_118 : decode cX3_print 118 = .ok (.iload_n 1, 1) := by decide +kernel
theorem dX3_print_119 : decode cX3_print 119 = .ok (.iaload, 1) := by decide +kernel
theorem dX3_print_120 : decode cX3_print 120 = .ok (.iaload, 1) := by decide +kernel
theorem dX3_print_121 : decode cX3_print 121 = .ok (.dup2, 1) := by decide +kernel
theorem dX3_print_122 : decode cX3_print 122 = .ok (.iaload, 1) := by decide +kernel
theorem dX3_print_123 : decode cX3_print 123 = .ok (.iload_n 2, 1) := by decide +kernel
theorem dX3_print_124 : decode cX3_print 124 = .ok (.iadd, 1) := by decide +kernel
theorem dX3_print_125 : decode cX3_print 125 = .ok (.iastore, 1) := by decide +kernel
theorem dX3_print_126 : decode cX3_print 126 = .ok (.aload_n 0, 1) := by decide +kernel
theorem dX3_print_127 : decode cX3_print 127 = .ok (.getfield 59, 3) := by decide +kernel
theorem dX3_print_130 : decode cX3_print 130 = .ok (.aload_n 0, 1) := by decide +kernel
theorem dX3_print_131 : decode cX3_print 131 = .ok (.getfield 19, 3) := by decide +kernel
theorem dX3_print_134 : decode cX3_print 134 = .ok (.aload_n 0, 1) := by decide +kernel
theorem dX3_print_135 : decode cX3_print 135 = .ok (.getfield 44, 3) := by decide +kernel
theorem dX3_print_138 : decode cX3_print 138 = .ok (.iload_n 1, 1) := by decide +kernel
theorem dX3_print_139 : decode cX3_print 139 = .ok (.iaload, 1) := by decide +kernel
theorem dX3_print_140 : decode cX3_print 140 = .ok (.iaload, 1) := by decide +kernel
theorem dX3_print_141 : decode cX3_print 141 = .ok (.iaload, 1) := by decide +kernel
theorem dX3_print_142 : decode cX3_print 142 = .ok (.ireturn, 1) := by decide +kernel
set_option maxRecDepth 20000 in
theorem ggX3_state_X3_isSession : GoodIn wsX3_state wsX3_isSession := goodIn_r _ [8, 9, 10, 11, 7, 12, 22, 23, 24, 25, 26, 27, 28, 29, 30, 31, 32, 33, 34, 35, 36, 37, 38, 39, 40, 41, 42, 43, 44] (by decide +kernel) (by decide +kernel)
set_option maxRecDepth 20000 in
theorem gX3_state_X3_isSession : GoodIn wsX3_state (wsV RX3 117 RX3 yX3_isSession wsX3_isSession) := goodIn_app (goodIn_of _ (by decide +kernel)) ggX3_state_X3_isSession
set_option maxRecDepth 20000 in
theorem ggX3_state_X3_goesOn : GoodIn wsX3_state wsX3_goesOn := goodIn_r _ [16, 17, 22, 23, 24, 25, 26, 27, 28, 29, 30, 31, 32, 33, 34, 35, 36, 37, 38, 39, 40, 41, 42, 43, 44] (by decide +kernel) (by decide +kernel)
set_option maxRecDepth 20000 in
theorem gX3_state_X3_goesOn : GoodIn wsX3_state (wsV RX3 83 RX3 yX3_goesOn wsX3_goesOn) := goodIn_app (goodIn_of _ (by decide +kernel)) ggX3_state_X3_goesOn
set_option maxRecDepth 20000 in
theorem ggX3_state_X3_isLive : GoodIn wsX3_state wsX3_isLive := goodIn_ca (goodIn_r _ [21, 1, 22, 23, 24, 25, 26, 27, 28, 29, 30, 31, 32, 33, 34, 35, 36, 37, 38, 39, 40, 41, 42, 43, 44] (by decide +kernel) (by decide +kernel)) (goodIn_sub (fun _ h => List.mem_cons_of_mem _ (List.mem_append_right _ h)) (by decide +kernel))
set_option maxRecDepth 20000 in
theorem gX3_state_X3_isLive : GoodIn wsX3_state (wsV RX3 76 RX3 yX3_isLive wsX3_isLive) := goodIn_app (goodIn_of _ (by decide +kernel)) ggX3_state_X3_isLive
theorem dX3_state_0 : decode cX3_state 0 = .ok (.aload_n 0, 1) := by decide +kernel
theorem dX3_state_1 : decode cX3_state 1 = .ok (.aload_n 0, 1) := by decide +kernel
theorem dX3_state_2 : decode cX3_state 2 = .ok (.iload_n 1, 1) := by decide +kernel
theorem dX3_state_3 : decode cX3_state 3 = .ok (.invokevirtual 117, 3) := by decide +kernel
theorem dX3_state_6 : decode cX3_state 6 = .ok (.ifCond .eq 7, 3) := by decide +kernel
theorem dX3_state_9 : decode cX3_state 9 = .ok (.iconst 0, 1) := by decide +kernel
theorem dX3_state_10 : decode cX3_state 10 = .ok (.goto 4, 3) := by decide +kernel
theorem dX3_state_13 : decode cX3_state 13 = .ok (.iconst 1, 1) := by decide +kernel
theorem dX3_state_14 : decode cX3_state 14 = .ok (.invokevirtual 83, 3) := by decide +kernel
theorem dX3_state_17 : decode cX3_state 17 = .ok (.ifCond .ne 5, 3) := by decide +kernel
theorem dX3_state_20 : decode cX3_state 20 = .ok (.iconst 0, 1) := by decide +kernel
theorem dX3_state_21 : decode cX3_state 21 = .ok (.ireturn, 1) := by decide +kernel
theorem dX3_state_22 : decode cX3_state 22 = .ok (.aload_n 0, 1) := by decide +kernel
theorem dX3_state_23 : decode cX3_state 23 = .ok (.iload_n 1, 1) := by decide +kernel
theorem dX3_state_24 : decode cX3_state 24 = .ok (.invokevirtual 76, 3) := by decide +kernel
theorem dX3_state_27 : decode cX3_state 27 = .ok (.ifCond .ne 12, 3) := by decide +kernel
theorem dX3_state_30 : decode cX3_state 30 = .ok (.aload_n 0, 1) := by decide +kernel
theorem dX3_state_31 : decode cX3_state 31 = .ok (.getfield 56, 3) := by decide +kernel
theorem dX3_state_34 : decode cX3_state 34 = .ok (.iload_n 1, 1) := by decide +kernel
theorem dX3_state_35 : decode cX3_state 35 = .ok (.caload, 1) := by decide +kernel
theorem dX3_state_36 : decode cX3_state 36 = .ok (.goto 25, 3) := by decide +kernel
theorem dX3_state_39 : decode cX3_state 39 = .ok (.aload_n 0, 1) := by decide +kernel
theorem dX3_state_40 : decode cX3_state 40 = .ok (.getfield 41, 3) := by decide +kernel
theorem dX3_state_43 : decode cX3_state 43 = .ok (.iload_n 1, 1) := by decide +kernel
theorem dX3_state_44 : decode cX3_state 44 = .ok (.iaload, 1) := by decide +kernel
theorem dX3_state_45 : decode cX3_state 45 = .ok (.aload_n 0, 1) := by decide +kernel
theorem dX3_state_46 : decode cX3_state 46 = .ok (.getfield 38, 3) := by decide +kernel
theorem dX3_state_49 : decode cX3_state 49 = .ok (.iload_n 1, 1) := by decide +kernel
theorem dX3_state_50 : decode cX3_state 50 = .ok (.iaload, 1) := by decide +kernel
theorem dX3_state_51 : decode cX3_state 51 = .ok (.if_icmp .ne 8, 3) := by decide +kernel
theorem dX3_state_54 : decode cX3_state 54 = .ok (.bipush 97, 2) := by decide +kernel
theorem dX3_state_56 : decode cX3_state 56 = .ok (.goto 5, 3) := by decide +kernel
theorem dX3_state_59 : decode cX3_state 59 = .ok (.bipush 116, 2) := by decide +kernel
theorem dX3_state_61 : decode cX3_state 61 = .ok (.ireturn, 1) := by decide +kernel
set_option maxRecDepth 20000 in
theorem ggX3_machineOf_X3_isSession : GoodIn wsX3_machineOf wsX3_isSession := goodIn_r _ [6, 7, 8, 9, 5, 10, 16, 17, 18, 19, 20, 21, 22, 23, 24, 25, 26, 27, 28, 29, 30, 31, 32, 33, 34, 35, 36, 37, 38] (by decide +kernel) (by decide +kernel)
set_option maxRecDepth 20000 in
theorem gX3_machineOf_X3_isSession : GoodIn wsX3_machineOf (wsV RX3 117 RX3 yX3_isSession wsX3_isSession) := goodIn_app (goodIn_of _ (by decide +kernel)) ggX3_machineOf_X3_isSession
set_option maxRecDepth 20000 in
theorem ggX3_machineOf_X3_goesOn : GoodIn wsX3_machineOf wsX3_goesOn := goodIn_r _ [14, 15, 16, 17, 18, 19, 20, 21, 22, 23, 24, 25, 26, 27, 28, 29, 30, 31, 32, 33, 34, 35, 36, 37, 38] (by decide +kernel) (by decide +kernel)
set_option maxRecDepth 20000 in
theorem gX3_machineOf_X3_goesOn : GoodIn wsX3_machineOf (wsV RX3 83 RX3 yX3_goesOn wsX3_goesOn) := goodIn_app (goodIn_of _ (by decide +kernel)) ggX3_machineOf_X3_goesOn
theorem dX3_machineOf_0 : decode cX3_machineOf 0 = .ok (.aload_n 0, 1) := by decide +kernel
theorem dX3_machineOf_1 : decode cX3_machineOf 1 = .ok (.aload_n 0, 1) := by decide +kernel
theorem dX3_machineOf_2 : decode cX3_machineOf 2 = .ok (.iload_n 1, 1) := by decide +kernel
theorem dX3_machineOf_3 : decode cX3_machineOf 3 = .ok (.invokevirtual 117, 3) := by decide +kernel
theorem dX3_machineOf_6 : decode cX3_machineOf 6 = .ok (.ifCond .eq 7, 3) := by decide +kernel
theorem dX3_machineOf_9 : decode cX3_machineOf 9 = .ok (.iconst 0, 1) := by decide +kernel
theorem dX3_machineOf_10 : decode cX3_machineOf 10 = .ok (.goto 4, 3) := by decide +kernel
theorem dX3_machineOf_13 : decode cX3_machineOf 13 = .ok (.iconst 1, 1) := by decide +kernel
theorem dX3_machineOf_14 : decode cX3_machineOf 14 = .ok (.invokevirtual 83, 3) := by decide +kernel
theorem dX3_machineOf_17 : decode cX3_machineOf 17 = .ok (.ifCond .eq 12, 3) := by decide +kernel
theorem dX3_machineOf_20 : decode cX3_machineOf 20 = .ok (.aload_n 0, 1) := by decide +kernel
theorem dX3_machineOf_21 : decode cX3_machineOf 21 = .ok (.getfield 44, 3) := by decide +kernel
theorem dX3_machineOf_24 : decode cX3_machineOf 24 = .ok (.iload_n 1, 1) := by decide +kernel
theorem dX3_machineOf_25 : decode cX3_machineOf 25 = .ok (.iaload, 1) := by decide +kernel
theorem dX3_machineOf_26 : decode cX3_machineOf 26 = .ok (.goto 4, 3) := by decide +kernel
theorem dX3_machineOf_29 : decode cX3_machineOf 29 = .ok (.iconst 0, 1) := by decide +kernel
theorem dX3_machineOf_30 : decode cX3_machineOf 30 = .ok (.ireturn, 1) := by decide +kernel
set_option maxRecDepth 20000 in
theorem ggX3_userOf_X3_isSession : GoodIn wsX3_userOf wsX3_isSession := goodIn_r _ [6, 7, 8, 9, 5, 10, 16, 17, 18, 19, 20, 21, 22, 23, 24, 25, 26, 27, 28, 29, 30, 31, 32, 33, 34, 35, 36, 37, 38] (by decide +kernel) (by decide +kernel)
set_option maxRecDepth 20000 in
theorem gX3_userOf_X3_isSession : GoodIn wsX3_userOf (wsV RX3 117 RX3 yX3_isSession wsX3_isSession) := goodIn_app (goodIn_of _ (by decide +kernel)) ggX3_userOf_X3_isSession
set_option maxRecDepth 20000 in
theorem ggX3_userOf_X3_goesOn : GoodIn wsX3_userOf wsX3_goesOn := goodIn_r _ [14, 15, 16, 17, 18, 19, 20, 21, 22, 23, 24, 25, 26, 27, 28, 29, 30, 31, 32, 33, 34, 35, 36, 37, 38] (by decide +kernel) (by decide +kernel)
set_option maxRecDepth 20000 in
theorem gX3_userOf_X3_goesOn : GoodIn wsX3_userOf (wsV RX3 83 RX3 yX3_goesOn wsX3_goesOn) := goodIn_app (goodIn_of _ (by decide +kernel)) ggX3_userOf_X3_goesOn
theorem dX3_userOf_0 : decode cX3_userOf 0 = .ok (.aload_n 0, 1) := by decide +kernel
theorem dX3_userOf_1 : decode cX3_userOf 1 = .ok (.aload_n 0, 1) := by decide +kernel
theorem dX3_userOf_2 : decode cX3_userOf 2 = .ok (.iload_n 1, 1) := by decide +kernel
theorem dX3_userOf_3 : decode cX3_userOf 3 = .ok (.invokevirtual 117, 3) := by decide +kernel
theorem dX3_userOf_6 : decode cX3_userOf 6 = .ok (.ifCond .eq 7, 3) := by decide +kernel
theorem dX3_userOf_9 : decode cX3_userOf 9 = .ok (.iconst 0, 1) := by decide +kernel
theorem dX3_userOf_10 : decode cX3_userOf 10 = .ok (.goto 4, 3) := by decide +kernel
theorem dX3_userOf_13 : decode cX3_userOf 13 = .ok (.iconst 1, 1) := by decide +kernel
theorem dX3_userOf_14 : decode cX3_userOf 14 = .ok (.invokevirtual 83, 3) := by decide +kernel
theorem dX3_userOf_17 : decode cX3_userOf 17 = .ok (.ifCond .eq 12, 3) := by decide +kernel
theorem dX3_userOf_20 : decode cX3_userOf 20 = .ok (.aload_n 0, 1) := by decide +kernel
theorem dX3_userOf_21 : decode cX3_userOf 21 = .ok (.getfield 41, 3) := by decide +kernel
theorem dX3_userOf_24 : decode cX3_userOf 24 = .ok (.iload_n 1, 1) := by decide +kernel
theorem dX3_userOf_25 : decode cX3_userOf 25 = .ok (.iaload, 1) := by decide +kernel
theorem dX3_userOf_26 : decode cX3_userOf 26 = .ok (.goto 4, 3) := by decide +kernel
theorem dX3_userOf_29 : decode cX3_userOf 29 = .ok (.iconst 0, 1) := by decide +kernel
theorem dX3_userOf_30 : decode cX3_userOf 30 = .ok (.ireturn, 1) := by decide +kernel
set_option maxRecDepth 20000 in
theorem ggX3_charged_X3_isSession : GoodIn wsX3_charged wsX3_isSession := goodIn_r _ [6, 7, 8, 9, 5, 10, 19, 20, 21, 22, 23, 24, 25, 26, 27, 28, 29, 30, 31, 32, 33, 34, 35, 36, 37, 38, 39, 40, 41] (by decide +kernel) (by decide +kernel)
set_option maxRecDepth 20000 in
theorem gX3_charged_X3_isSession : GoodIn wsX3_charged (wsV RX3 117 RX3 yX3_isSession wsX3_isSession) := goodIn_app (goodIn_of _ (by decide +kernel)) ggX3_charged_X3_isSession
set_option maxRecDepth 20000 in
theorem ggX3_charged_X3_isDepartment : GoodIn wsX3_charged wsX3_isDepartment := goodIn_r _ [13, 8, 9, 5, 10] (by decide +kernel) (by decide +kernel)
set_option maxRecDepth 20000 in
theorem gX3_charged_X3_isDepartment : GoodIn wsX3_charged (va_wsS RX3 102 yX3_isDepartment wsX3_isDepartment) := goodIn_app (goodIn_of _ (by decide +kernel)) ggX3_charged_X3_isDepartment
set_option maxRecDepth 20000 in
theorem ggX3_charged_X3_goesOn : GoodIn wsX3_charged wsX3_goesOn := goodIn_r _ [17, 18, 19, 20, 21, 22, 23, 24, 25, 26, 27, 28, 29, 30, 31, 32, 33, 34, 35, 36, 37, 38, 39, 40, 41] (by decide +kernel) (by decide +kernel)
set_option maxRecDepth 20000 in
theorem gX3_charged_X3_goesOn : GoodIn wsX3_charged (wsV RX3 83 RX3 yX3_goesOn wsX3_goesOn) := goodIn_app (goodIn_of _ (by decide +kernel)) ggX3_charged_X3_goesOn
theorem dX3_charged_0 : decode cX3_charged 0 = .ok (.aload_n 0, 1) := by decide +kernel
theorem dX3_charged_1 : decode cX3_charged 1 = .ok (.aload_n 0, 1) := by decide +kernel
theorem dX3_charged_2 : decode cX3_charged 2 = .ok (.iload_n 1, 1) := by decide +kernel
theorem dX3_charged_3 : decode cX3_charged 3 = .ok (.invokevirtual 117, 3) := by decide +kernel
theorem dX3_charged_6 : decode cX3_charged 6 = .ok (.ifCond .ne 7, 3) := by decide +kernel
theorem dX3_charged_9 : decode cX3_charged 9 = .ok (.iconst 1, 1) := by decide +kernel
theorem dX3_charged_10 : decode cX3_charged 10 = .ok (.goto 15, 3) := by decide +kernel
theorem dX3_charged_13 : decode cX3_charged 13 = .ok (.iload_n 2, 1) := by decide +kernel
theorem dX3_charged_14 : decode cX3_charged 14 = .ok (.invokestatic 102, 3) := by decide +kernel
theorem dX3_charged_17 : decode cX3_charged 17 = .ok (.ifCond .ne 7, 3) := by decide +kernel
theorem dX3_charged_20 : decode cX3_charged 20 = .ok (.iconst 2, 1) := by decide +kernel
theorem dX3_charged_21 : decode cX3_charged 21 = .ok (.goto 4, 3) := by decide +kernel
theorem dX3_charged_24 : decode cX3_charged 24 = .ok (.iconst 0, 1) := by decide +kernel
theorem dX3_charged_25 : decode cX3_charged 25 = .ok (.invokevirtual 83, 3) := by decide +kernel
theorem dX3_charged_28 : decode cX3_charged 28 = .ok (.ifCond .eq 16, 3) := by decide +kernel
theorem dX3_charged_31 : decode cX3_charged 31 = .ok (.aload_n 0, 1) := by decide +kernel
theorem dX3_charged_32 : decode cX3_charged 32 = .ok (.getfield 53, 3) := by decide +kernel
theorem dX3_charged_35 : decode cX3_charged 35 = .ok (.iconst 4, 1) := by decide +kernel
theorem dX3_charged_36 : decode cX3_charged 36 = .ok (.iload_n 1, 1) := by decide +kernel
theorem dX3_charged_37 : decode cX3_charged 37 = .ok (.imul, 1) := by decide +kernel
theorem dX3_charged_38 : decode cX3_charged 38 = .ok (.iload_n 2, 1) := by decide +kernel
theorem dX3_charged_39 : decode cX3_charged 39 = .ok (.iadd, 1) := by decide +kernel
theorem dX3_charged_40 : decode cX3_charged 40 = .ok (.iaload, 1) := by decide +kernel
theorem dX3_charged_41 : decode cX3_charged 41 = .ok (.goto 4, 3) := by decide +kernel
theorem dX3_charged_44 : decode cX3_charged 44 = .ok (.iconst 0, 1) := by decide +kernel
theorem dX3_charged_45 : decode cX3_charged 45 = .ok (.ireturn, 1) := by decide +kernel
set_option maxRecDepth 20000 in
theorem ggX3_endsIn_X3_liveFault : GoodIn wsX3_endsIn wsX3_liveFault := goodIn_ca (goodIn_r _ [12, 13, 14, 15, 11, 16, 17, 18, 19, 20, 21, 22, 23, 24, 25, 31, 32, 33, 34, 35, 36, 37, 38, 39, 40, 41, 42, 43, 44, 45, 46, 47, 48, 49, 50, 51, 52, 53] (by decide +kernel) (by decide +kernel)) (goodIn_sub (fun _ h => List.mem_cons_of_mem _ (List.mem_append_right _ h)) (by decide +kernel))
set_option maxRecDepth 20000 in
theorem gX3_endsIn_X3_liveFault : GoodIn wsX3_endsIn (wsV RX3 120 RX3 yX3_liveFault wsX3_liveFault) := goodIn_app (goodIn_of _ (by decide +kernel)) ggX3_endsIn_X3_liveFault
set_option maxRecDepth 20000 in
theorem ggX3_endsIn_X3_goesOn : GoodIn wsX3_endsIn wsX3_goesOn := goodIn_r _ [29, 30, 31, 32, 33, 34, 35, 36, 37, 38, 39, 40, 41, 42, 43, 44, 45, 46, 47, 48, 49, 50, 51, 52, 53] (by decide +kernel) (by decide +kernel)
set_option maxRecDepth 20000 in
theorem gX3_endsIn_X3_goesOn : GoodIn wsX3_endsIn (wsV RX3 83 RX3 yX3_goesOn wsX3_goesOn) := goodIn_app (goodIn_of _ (by decide +kernel)) ggX3_endsIn_X3_goesOn
theorem dX3_endsIn_0 : decode cX3_endsIn 0 = .ok (.aload_n 0, 1) := by decide +kernel
theorem dX3_endsIn_1 : decode cX3_endsIn 1 = .ok (.aload_n 0, 1) := by decide +kernel
theorem dX3_endsIn_2 : decode cX3_endsIn 2 = .ok (.iload_n 1, 1) := by decide +kernel
theorem dX3_endsIn_3 : decode cX3_endsIn 3 = .ok (.invokevirtual 120, 3) := by decide +kernel
theorem dX3_endsIn_6 : decode cX3_endsIn 6 = .ok (.invokevirtual 83, 3) := by decide +kernel
theorem dX3_endsIn_9 : decode cX3_endsIn 9 = .ok (.ifCond .ne 5, 3) := by decide +kernel
theorem dX3_endsIn_12 : decode cX3_endsIn 12 = .ok (.iconst 0, 1) := by decide +kernel
theorem dX3_endsIn_13 : decode cX3_endsIn 13 = .ok (.ireturn, 1) := by decide +kernel
theorem dX3_endsIn_14 : decode cX3_endsIn 14 = .ok (.aload_n 0, 1) := by decide +kernel
theorem dX3_endsIn_15 : decode cX3_endsIn 15 = .ok (.getfield 16, 3) := by decide +kernel
theorem dX3_endsIn_18 : decode cX3_endsIn 18 = .ok (.aload_n 0, 1) := by decide +kernel
theorem dX3_endsIn_19 : decode cX3_endsIn 19 = .ok (.getfield 44, 3) := by decide +kernel
theorem dX3_endsIn_22 : decode cX3_endsIn 22 = .ok (.iload_n 1, 1) := by decide +kernel
theorem dX3_endsIn_23 : decode cX3_endsIn 23 = .ok (.iaload, 1) := by decide +kernel
theorem dX3_endsIn_24 : decode cX3_endsIn 24 = .ok (.iaload, 1) := by decide +kernel
theorem dX3_endsIn_25 : decode cX3_endsIn 25 = .ok (.istore_n 2, 1) := by decide +kernel
theorem dX3_endsIn_26 : decode cX3_endsIn 26 = .ok (.aload_n 0, 1) := by decide +kernel
theorem dX3_endsIn_27 : decode cX3_endsIn 27 = .ok (.getfield 7, 3) := by decide +kernel
theorem dX3_endsIn_30 : decode cX3_endsIn 30 = .ok (.iload_n 2, 1) := by decide +kernel
theorem dX3_endsIn_31 : decode cX3_endsIn 31 = .ok (.iaload, 1) := by decide +kernel
theorem dX3_endsIn_32 : decode cX3_endsIn 32 = .ok (.aload_n 0, 1) := by decide +kernel
theorem dX3_endsIn_33 : decode cX3_endsIn 33 = .ok (.getfield 114, 3) := by decide +kernel
theorem dX3_endsIn_36 : decode cX3_endsIn 36 = .ok (.isub, 1) := by decide +kernel
theorem dX3_endsIn_37 : decode cX3_endsIn 37 = .ok (.aload_n 0, 1) := by decide +kernel
theorem dX3_endsIn_38 : decode cX3_endsIn 38 = .ok (.getfield 50, 3) := by decide +kernel
theorem dX3_endsIn_41 : decode cX3_endsIn 41 = .ok (.iload_n 1, 1) := by decide +kernel
theorem dX3_endsIn_42 : decode cX3_endsIn 42 = .ok (.iaload, 1) := by decide +kernel
theorem dX3_endsIn_43 : decode cX3_endsIn 43 = .ok (.iadd, 1) := by decide +kernel
theorem dX3_endsIn_44 : decode cX3_endsIn 44 = .ok (.istore_n 3, 1) := by decide +kernel
theorem dX3_endsIn_45 : decode cX3_endsIn 45 = .ok (.aload_n 0, 1) := by decide +kernel
theorem dX3_endsIn_46 : decode cX3_endsIn 46 = .ok (.getfield 13, 3) := by decide +kernel
theorem dX3_endsIn_49 : decode cX3_endsIn 49 = .ok (.iload_n 2, 1) := by decide +kernel
theorem dX3_endsIn_50 : decode cX3_endsIn 50 = .ok (.iaload, 1) := by decide +kernel
theorem dX3_endsIn_51 : decode cX3_endsIn 51 = .ok (.aload_n 0, 1) := by decide +kernel
theorem dX3_endsIn_52 : decode cX3_endsIn 52 = .ok (.getfield 114, 3) := by decide +kernel
theorem dX3_endsIn_55 : decode cX3_endsIn 55 = .ok (.isub, 1) := by decide +kernel
theorem dX3_endsIn_56 : decode cX3_endsIn 56 = .ok (.aload_n 0, 1) := by decide +kernel
theorem dX3_endsIn_57 : decode cX3_endsIn 57 = .ok (.getfield 47, 3) := by decide +kernel
theorem dX3_endsIn_60 : decode cX3_endsIn 60 = .ok (.iload_n 1, 1) := by decide +kernel
theorem dX3_endsIn_61 : decode cX3_endsIn 61 = .ok (.iaload, 1) := by decide +kernel
theorem dX3_endsIn_62 : decode cX3_endsIn 62 = .ok (.iadd, 1) := by decide +kernel
theorem dX3_endsIn_63 : decode cX3_endsIn 63 = .ok (.istore 4, 2) := by decide +kernel
theorem dX3_endsIn_65 : decode cX3_endsIn 65 = .ok (.iload_n 3, 1) := by decide +kernel
theorem dX3_endsIn_66 : decode cX3_endsIn 66 = .ok (.iload 4, 2) := by decide +kernel
theorem dX3_endsIn_68 : decode cX3_endsIn 68 = .ok (.if_icmp .ge 7, 3) := by decide +kernel
theorem dX3_endsIn_71 : decode cX3_endsIn 71 = .ok (.iload_n 3, 1) := by decide +kernel
theorem dX3_endsIn_72 : decode cX3_endsIn 72 = .ok (.goto 5, 3) := by decide +kernel
theorem dX3_endsIn_75 : decode cX3_endsIn 75 = .ok (.iload 4, 2) := by decide +kernel
theorem dX3_endsIn_77 : decode cX3_endsIn 77 = .ok (.istore 5, 2) := by decide +kernel
theorem dX3_endsIn_79 : decode cX3_endsIn 79 = .ok (.iload 5, 2) := by decide +kernel
theorem dX3_endsIn_81 : decode cX3_endsIn 81 = .ok (.iconst 1, 1) := by decide +kernel
theorem dX3_endsIn_82 : decode cX3_endsIn 82 = .ok (.if_icmp .ge 7, 3) := by decide +kernel
theorem dX3_endsIn_85 : decode cX3_endsIn 85 = .ok (.iconst 1, 1) := by decide +kernel
theorem dX3_endsIn_86 : decode cX3_endsIn 86 = .ok (.goto 5, 3) := by decide +kernel
theorem dX3_endsIn_89 : decode cX3_endsIn 89 = .ok (.iload 5, 2) := by decide +kernel
theorem dX3_endsIn_91 : decode cX3_endsIn 91 = .ok (.ireturn, 1) := by decide +kernel
set_option maxRecDepth 20000 in
theorem ggX3_passes_X3_charges : GoodIn wsX3_passes wsX3_charges := goodIn_ca (goodIn_r _ [16, 4, 5, 3, 17, 18, 23, 24, 25, 26, 27, 28, 29, 30, 31, 32, 33, 34, 35, 36, 37, 38, 39, 40, 41, 42, 43, 44, 45] (by decide +kernel) (by decide +kernel)) (goodIn_sub (fun _ h => List.mem_cons_of_mem _ (List.mem_append_right _ h)) (by decide +kernel))
set_option maxRecDepth 20000 in
theorem gX3_passes_X3_charges : GoodIn wsX3_passes (wsV RX3 129 RX3 yX3_charges wsX3_charges) := goodIn_app (goodIn_of _ (by decide +kernel)) ggX3_passes_X3_charges
set_option maxRecDepth 20000 in
theorem ggX3_passes_X3_isLive : GoodIn wsX3_passes wsX3_isLive := goodIn_ca (goodIn_r _ [22, 6, 23, 24, 25, 26, 27, 28, 29, 30, 31, 32, 33, 34, 35, 36, 37, 38, 39, 40, 41, 42, 43, 44, 45] (by decide +kernel) (by decide +kernel)) (goodIn_sub (fun _ h => List.mem_cons_of_mem _ (List.mem_append_right _ h)) (by decide +kernel))
set_option maxRecDepth 20000 in
theorem gX3_passes_X3_isLive : GoodIn wsX3_passes (wsV RX3 76 RX3 yX3_isLive wsX3_isLive) := goodIn_app (goodIn_of _ (by decide +kernel)) ggX3_passes_X3_isLive
theorem dX3_passes_0 : decode cX3_passes 0 = .ok (.aload_n 0, 1) := by decide +kernel
theorem dX3_passes_1 : decode cX3_passes 1 = .ok (.getfield 16, 3) := by decide +kernel
theorem dX3_passes_4 : decode cX3_passes 4 = .ok (.aload_n 0, 1) := by decide +kernel
theorem dX3_passes_5 : decode cX3_passes 5 = .ok (.getfield 44, 3) := by decide +kernel
theorem dX3_passes_8 : decode cX3_passes 8 = .ok (.iload_n 1, 1) := by decide +kernel
theorem dX3_passes_9 : decode cX3_passes 9 = .ok (.iaload, 1) := by decide +kernel
theorem dX3_passes_10 : decode cX3_passes 10 = .ok (.iaload, 1) := by decide +kernel
theorem dX3_passes_11 : decode cX3_passes 11 = .ok (.istore_n 2, 1) := by decide +kernel
theorem dX3_passes_12 : decode cX3_passes 12 = .ok (.aload_n 0, 1) := by decide +kernel
theorem dX3_passes_13 : decode cX3_passes 13 = .ok (.getfield 29, 3) := by decide +kernel
theorem dX3_passes_16 : decode cX3_passes 16 = .ok (.aload_n 0, 1) := by decide +kernel
theorem dX3_passes_17 : decode cX3_passes 17 = .ok (.getfield 35, 3) := by decide +kernel
theorem dX3_passes_20 : decode cX3_passes 20 = .ok (.aload_n 0, 1) := by decide +kernel
theorem dX3_passes_21 : decode cX3_passes 21 = .ok (.getfield 41, 3) := by decide +kernel
theorem dX3_passes_24 : decode cX3_passes 24 = .ok (.iload_n 1, 1) := by decide +kernel
theorem dX3_passes_25 : decode cX3_passes 25 = .ok (.iaload, 1) := by decide +kernel
theorem dX3_passes_26 : decode cX3_passes 26 = .ok (.iaload, 1) := by decide +kernel
theorem dX3_passes_27 : decode cX3_passes 27 = .ok (.iaload, 1) := by decide +kernel
theorem dX3_passes_28 : decode cX3_passes 28 = .ok (.ifCond .ne 13, 3) := by decide +kernel
theorem dX3_passes_31 : decode cX3_passes 31 = .ok (.aload_n 0, 1) := by decide +kernel
theorem dX3_passes_32 : decode cX3_passes 32 = .ok (.getfield 56, 3) := by decide +kernel
theorem dX3_passes_35 : decode cX3_passes 35 = .ok (.iload_n 1, 1) := by decide +kernel
theorem dX3_passes_36 : decode cX3_passes 36 = .ok (.bipush 111, 2) := by decide +kernel
theorem dX3_passes_38 : decode cX3_passes 38 = .ok (.castore, 1) := by decide +kernel
theorem dX3_passes_39 : decode cX3_passes 39 = .ok (.iconst 1, 1) := by decide +kernel
theorem dX3_passes_40 : decode cX3_passes 40 = .ok (.ireturn, 1) := by decide +kernel
theorem dX3_passes_41 : decode cX3_passes 41 = .ok (.aload_n 0, 1) := by decide +kernel
theorem dX3_passes_42 : decode cX3_passes 42 = .ok (.iload_n 1, 1) := by decide +kernel
theorem dX3_passes_43 : decode cX3_passes 43 = .ok (.iconst 1, 1) := by decide +kernel
theorem dX3_passes_44 : decode cX3_passes 44 = .ok (.invokevirtual 129, 3) := by decide +kernel
theorem dX3_passes_47 : decode cX3_passes 47 = .ok (.aload_n 0, 1) := by decide +kernel
theorem dX3_passes_48 : decode cX3_passes 48 = .ok (.getfield 56, 3) := by decide +kernel
theorem dX3_passes_51 : decode cX3_passes 51 = .ok (.iload_n 1, 1) := by decide +kernel
theorem dX3_passes_52 : decode cX3_passes 52 = .ok (.aload_n 0, 1) := by decide +kernel
theorem dX3_passes_53 : decode cX3_passes 53 = .ok (.getfield 114, 3) := by decide +kernel
theorem dX3_passes_56 : decode cX3_passes 56 = .ok (.aload_n 0, 1) := by decide +kernel
theorem dX3_passes_57 : decode cX3_passes 57 = .ok (.getfield 50, 3) := by decide +kernel
theorem dX3_passes_60 : decode cX3_passes 60 = .ok (.iload_n 1, 1) := by decide +kernel
theorem dX3_passes_61 : decode cX3_passes 61 = .ok (.iaload, 1) := by decide +kernel
theorem dX3_passes_62 : decode cX3_passes 62 = .ok (.isub, 1) := by decide +kernel
theorem dX3_passes_63 : decode cX3_passes 63 = .ok (.aload_n 0, 1) := by decide +kernel
theorem dX3_passes_64 : decode cX3_passes 64 = .ok (.getfield 7, 3) := by decide +kernel
theorem dX3_passes_67 : decode cX3_passes 67 = .ok (.iload_n 2, 1) := by decide +kernel
theorem dX3_passes_68 : decode cX3_passes 68 = .ok (.iaload, 1) := by decide +kernel
theorem dX3_passes_69 : decode cX3_passes 69 = .ok (.if_icmp .lt 8, 3) := by decide +kernel
theorem dX3_passes_72 : decode cX3_passes 72 = .ok (.bipush 105, 2) := by decide +kernel
theorem dX3_passes_74 : decode cX3_passes 74 = .ok (.goto 34, 3) := by decide +kernel
theorem dX3_passes_77 : decode cX3_passes 77 = .ok (.aload_n 0, 1) := by decide +kernel
theorem dX3_passes_78 : decode cX3_passes 78 = .ok (.getfield 114, 3) := by decide +kernel
theorem dX3_passes_81 : decode cX3_passes 81 = .ok (.aload_n 0, 1) := by decide +kernel
theorem dX3_passes_82 : decode cX3_passes 82 = .ok (.getfield 47, 3) := by decide +kernel
theorem dX3_passes_85 : decode cX3_passes 85 = .ok (.iload_n 1, 1) := by decide +kernel
theorem dX3_passes_86 : decode cX3_passes 86 = .ok (.iaload, 1) := by decide +kernel
theorem dX3_passes_87 : decode cX3_passes 87 = .ok (.isub, 1) := by decide +kernel
theorem dX3_passes_88 : decode cX3_passes 88 = .ok (.aload_n 0, 1) := by decide +kernel
theorem dX3_passes_89 : decode cX3_passes 89 = .ok (.getfield 13, 3) := by decide +kernel
theorem dX3_passes_92 : decode cX3_passes 92 = .ok (.iload_n 2, 1) := by decide +kernel
theorem dX3_passes_93 : decode cX3_passes 93 = .ok (.iaload, 1) := by decide +kernel
theorem dX3_passes_94 : decode cX3_passes 94 = .ok (.if_icmp .lt 8, 3) := by decide +kernel
theorem dX3_passes_97 : decode cX3_passes 97 = .ok (.bipush 120, 2) := by decide +kernel
theorem dX3_passes_99 : decode cX3_passes 99 = .ok (.goto 9, 3) := by decide +kernel
theorem dX3_passes_102 : decode cX3_passes 102 = .ok (.aload_n 0, 1) := by decide +kernel
theorem dX3_passes_103 : decode cX3_passes 103 = .ok (.getfield 56, 3) := by decide +kernel
theorem dX3_passes_106 : decode cX3_passes 106 = .ok (.iload_n 1, 1) := by decide +kernel
theorem dX3_passes_107 : decode cX3_passes 107 = .ok (.caload, 1) := by decide +kernel
theorem dX3_passes_108 : decode cX3_passes 108 = .ok (.castore, 1) := by decide +kernel
theorem dX3_passes_109 : decode cX3_passes 109 = .ok (.aload_n 0, 1) := by decide +kernel
theorem dX3_passes_110 : decode cX3_passes 110 = .ok (.iload_n 1, 1) := by decide +kernel
theorem dX3_passes_111 : decode cX3_passes 111 = .ok (.invokevirtual 76, 3) := by decide +kernel
theorem dX3_passes_114 : decode cX3_passes 114 = .ok (.ifCond .ne 7, 3) := by decide +kernel
theorem dX3_passes_117 : decode cX3_passes 117 = .ok (.iconst 1, 1) := by decide +kernel
theorem dX3_passes_118 : decode cX3_passes 118 = .ok (.goto 4, 3) := by decide +kernel
theorem dX3_passes_121 : decode cX3_passes 121 = .ok (.iconst 0, 1) := by decide +kernel
theorem dX3_passes_122 : decode cX3_passes 122 = .ok (.ireturn, 1) := by decide +kernel
set_option maxRecDepth 20000 in
theorem ggX3_pass_X3_in : GoodIn wsX3_pass wsX3_in := goodIn_r _ [6] (by decide +kernel) (by decide +kernel)
set_option maxRecDepth 20000 in
theorem gX3_pass_X3_in : GoodIn wsX3_pass (va_wsS RX3 66 yX3_in wsX3_in) := goodIn_app (goodIn_of _ (by decide +kernel)) ggX3_pass_X3_in
set_option maxRecDepth 20000 in
theorem ggX3_pass_X3_goesOn : GoodIn wsX3_pass wsX3_goesOn := goodIn_r _ [10, 11, 46, 47, 48, 49, 50, 51, 52, 53, 54, 55, 56, 57, 58, 59, 60, 61, 62, 63, 64, 65, 66, 67, 68] (by decide +kernel) (by decide +kernel)
set_option maxRecDepth 20000 in
theorem gX3_pass_X3_goesOn : GoodIn wsX3_pass (wsV RX3 83 RX3 yX3_goesOn wsX3_goesOn) := goodIn_app (goodIn_of _ (by decide +kernel)) ggX3_pass_X3_goesOn
set_option maxRecDepth 20000 in
theorem ggX3_pass_X3_isLive : GoodIn wsX3_pass wsX3_isLive := goodIn_ca (goodIn_r _ [15, 16, 46, 47, 48, 49, 50, 51, 52, 53, 54, 55, 56, 57, 58, 59, 60, 61, 62, 63, 64, 65, 66, 67, 68] (by decide +kernel) (by decide +kernel)) (goodIn_sub (fun _ h => List.mem_cons_of_mem _ (List.mem_append_right _ h)) (by decide +kernel))
set_option maxRecDepth 20000 in
theorem gX3_pass_X3_isLive : GoodIn wsX3_pass (wsV RX3 76 RX3 yX3_isLive wsX3_isLive) := goodIn_app (goodIn_of _ (by decide +kernel)) ggX3_pass_X3_isLive
set_option maxRecDepth 20000 in
theorem ggX3_pass_X3_passes : GoodIn wsX3_pass wsX3_passes := goodIn_ca (goodIn_r _ [20, 21, 22, 23, 24, 25, 16, 1, 26, 27, 28, 29, 30, 31, 32, 5, 33, 34, 35, 12, 13, 14, 15, 46, 47, 48, 49, 50, 51, 52, 53, 54, 55, 56, 57, 58, 59, 60, 61, 62, 63, 64, 65, 66, 67, 68] (by decide +kernel) (by decide +kernel)) (goodIn_sub (fun _ h => List.mem_cons_of_mem _ (List.mem_append_right _ h)) (by decide +kernel))
set_option maxRecDepth 20000 in
theorem gX3_pass_X3_passes : GoodIn wsX3_pass (wsV RX3 136 RX3 yX3_passes wsX3_passes) := goodIn_app (goodIn_of _ (by decide +kernel)) ggX3_pass_X3_passes
set_option maxRecDepth 20000 in
theorem ggX3_pass_X3_empties : GoodIn wsX3_pass wsX3_empties := goodIn_ca (goodIn_r _ [39, 40, 41, 42, 43, 44, 5, 45, 2, 22, 12, 13, 14, 15, 16, 46, 47, 48, 49, 50, 51, 52, 53, 54, 55, 56, 57, 58, 59, 60, 61, 62, 63, 64, 65, 66, 67, 68] (by decide +kernel) (by decide +kernel)) (goodIn_sub (fun _ h => List.mem_cons_of_mem _ (List.mem_append_right _ h)) (by decide +kernel))
set_option maxRecDepth 20000 in
theorem gX3_pass_X3_empties : GoodIn wsX3_pass (wsV RX3 93 RX3 yX3_empties wsX3_empties) := goodIn_app (goodIn_of _ (by decide +kernel)) ggX3_pass_X3_empties
theorem dX3_pass_0 : decode cX3_pass 0 = .ok (.aload_n 0, 1) := by decide +kernel
theorem dX3_pass_1 : decode cX3_pass 1 = .ok (.iload_n 1, 1) := by decide +kernel
theorem dX3_pass_2 : decode cX3_pass 2 = .ok (.iconst 1, 1) := by decide +kernel
theorem dX3_pass_3 : decode cX3_pass 3 = .ok (.bipush 60, 2) := by decide +kernel
theorem dX3_pass_5 : decode cX3_pass 5 = .ok (.invokestatic 66, 3) := by decide +kernel
theorem dX3_pass_8 : decode cX3_pass 8 = .ok (.ifCond .eq 15, 3) := by decide +kernel
theorem dX3_pass_11 : decode cX3_pass 11 = .ok (.aload_n 0, 1) := by decide +kernel
theorem dX3_pass_12 : decode cX3_pass 12 = .ok (.getfield 114, 3) := by decide +kernel
theorem dX3_pass_15 : decode cX3_pass 15 = .ok (.iload_n 1, 1) := by decide +kernel
theorem dX3_pass_16 : decode cX3_pass 16 = .ok (.iadd, 1) := by decide +kernel
theorem dX3_pass_17 : decode cX3_pass 17 = .ok (.sipush 5000, 3) := by decide +kernel
theorem dX3_pass_20 : decode cX3_pass 20 = .ok (.if_icmp .le 7, 3) := by decide +kernel
theorem dX3_pass_23 : decode cX3_pass 23 = .ok (.iconst 1, 1) := by decide +kernel
theorem dX3_pass_24 : decode cX3_pass 24 = .ok (.goto 4, 3) := by decide +kernel
theorem dX3_pass_27 : decode cX3_pass 27 = .ok (.iconst 0, 1) := by decide +kernel
theorem dX3_pass_28 : decode cX3_pass 28 = .ok (.invokevirtual 83, 3) := by decide +kernel
theorem dX3_pass_31 : decode cX3_pass 31 = .ok (.ifCond .ne 5, 3) := by decide +kernel
theorem dX3_pass_34 : decode cX3_pass 34 = .ok (.iconst 0, 1) := by decide +kernel
theorem dX3_pass_35 : decode cX3_pass 35 = .ok (.ireturn, 1) := by decide +kernel
theorem dX3_pass_36 : decode cX3_pass 36 = .ok (.iconst 0, 1) := by decide +kernel
theorem dX3_pass_37 : decode cX3_pass 37 = .ok (.istore_n 2, 1) := by decide +kernel
theorem dX3_pass_38 : decode cX3_pass 38 = .ok (.iconst 0, 1) := by decide +kernel
theorem dX3_pass_39 : decode cX3_pass 39 = .ok (.istore_n 3, 1) := by decide +kernel
theorem dX3_pass_40 : decode cX3_pass 40 = .ok (.iload_n 3, 1) := by decide +kernel
theorem dX3_pass_41 : decode cX3_pass 41 = .ok (.iload_n 1, 1) := by decide +kernel
theorem dX3_pass_42 : decode cX3_pass 42 = .ok (.if_icmp .ge 63, 3) := by decide +kernel
theorem dX3_pass_45 : decode cX3_pass 45 = .ok (.aload_n 0, 1) := by decide +kernel
theorem dX3_pass_46 : decode cX3_pass 46 = .ok (.dup, 1) := by decide +kernel
theorem dX3_pass_47 : decode cX3_pass 47 = .ok (.getfield 114, 3) := by decide +kernel
theorem dX3_pass_50 : decode cX3_pass 50 = .ok (.iconst 1, 1) := by decide +kernel
theorem dX3_pass_51 : decode cX3_pass 51 = .ok (.iadd, 1) := by decide +kernel
theorem dX3_pass_52 : decode cX3_pass 52 = .ok (.putfield 114, 3) := by decide +kernel
theorem dX3_pass_55 : decode cX3_pass 55 = .ok (.iconst 0, 1) := by decide +kernel
theorem dX3_pass_56 : decode cX3_pass 56 = .ok (.istore 4, 2) := by decide +kernel
theorem dX3_pass_58 : decode cX3_pass 58 = .ok (.iload 4, 2) := by decide +kernel
theorem dX3_pass_60 : decode cX3_pass 60 = .ok (.aload_n 0, 1) := by decide +kernel
theorem dX3_pass_61 : decode cX3_pass 61 = .ok (.getfield 73, 3) := by decide +kernel
theorem dX3_pass_64 : decode cX3_pass 64 = .ok (.if_icmp .ge 35, 3) := by decide +kernel
theorem dX3_pass_67 : decode cX3_pass 67 = .ok (.iload_n 2, 1) := by decide +kernel
theorem dX3_pass_68 : decode cX3_pass 68 = .ok (.aload_n 0, 1) := by decide +kernel
theorem dX3_pass_69 : decode cX3_pass 69 = .ok (.iload 4, 2) := by decide +kernel
theorem dX3_pass_71 : decode cX3_pass 71 = .ok (.invokevirtual 76, 3) := by decide +kernel
theorem dX3_pass_74 : decode cX3_pass 74 = .ok (.ifCond .eq 16, 3) := by decide +kernel
theorem dX3_pass_77 : decode cX3_pass 77 = .ok (.aload_n 0, 1) := by decide +kernel
theorem dX3_pass_78 : decode cX3_pass 78 = .ok (.iload 4, 2) := by decide +kernel
theorem dX3_pass_80 : decode cX3_pass 80 = .ok (.invokevirtual 136, 3) := by decide +kernel
theorem dX3_pass_83 : decode cX3_pass 83 = .ok (.ifCond .eq 7, 3) := by decide +kernel
theorem dX3_pass_86 : decode cX3_pass 86 = .ok (.iconst 1, 1) := by decide +kernel
theorem dX3_pass_87 : decode cX3_pass 87 = .ok (.goto 4, 3) := by decide +kernel
theorem dX3_pass_90 : decode cX3_pass 90 = .ok (.iconst 0, 1) := by decide +kernel
theorem dX3_pass_91 : decode cX3_pass 91 = .ok (.iadd, 1) := by decide +kernel
theorem dX3_pass_92 : decode cX3_pass 92 = .ok (.istore_n 2, 1) := by decide +kernel
theorem dX3_pass_93 : decode cX3_pass 93 = .ok (.iinc 4 1, 3) := by decide +kernel
theorem dX3_pass_96 : decode cX3_pass 96 = .ok (.goto (-38), 3) := by decide +kernel
theorem dX3_pass_99 : decode cX3_pass 99 = .ok (.iinc 3 1, 3) := by decide +kernel
theorem dX3_pass_102 : decode cX3_pass 102 = .ok (.goto (-62), 3) := by decide +kernel
theorem dX3_pass_105 : decode cX3_pass 105 = .ok (.aload_n 0, 1) := by decide +kernel
theorem dX3_pass_106 : decode cX3_pass 106 = .ok (.invokevirtual 93, 3) := by decide +kernel
theorem dX3_pass_109 : decode cX3_pass 109 = .ok (.iload_n 2, 1) := by decide +kernel
theorem dX3_pass_110 : decode cX3_pass 110 = .ok (.ireturn, 1) := by decide +kernel
theorem dX3_time_0 : decode cX3_time 0 = .ok (.aload_n 0, 1) := by decide +kernel
theorem dX3_time_1 : decode cX3_time 1 = .ok (.iconst 0, 1) := by decide +kernel
theorem dX3_time_2 : decode cX3_time 2 = .ok (.putfield 62, 3) := by decide +kernel
theorem dX3_time_5 : decode cX3_time 5 = .ok (.aload_n 0, 1) := by decide +kernel
theorem dX3_time_6 : decode cX3_time 6 = .ok (.getfield 114, 3) := by decide +kernel
theorem dX3_time_9 : decode cX3_time 9 = .ok (.ireturn, 1) := by decide +kernel
set_option maxRecDepth 20000 in
theorem ggX3_pageShare_X3_goesOn : GoodIn wsX3_pageShare wsX3_goesOn := goodIn_r _ [7, 8, 9, 10, 11, 12, 13, 14, 15, 16, 17, 18, 19, 20, 21, 22, 23, 24, 25, 26, 27, 28, 29, 30, 31] (by decide +kernel) (by decide +kernel)
set_option maxRecDepth 20000 in
theorem gX3_pageShare_X3_goesOn : GoodIn wsX3_pageShare (wsV RX3 83 RX3 yX3_goesOn wsX3_goesOn) := goodIn_app (goodIn_of _ (by decide +kernel)) ggX3_pageShare_X3_goesOn
theorem dX3_pageShare_0 : decode cX3_pageShare 0 = .ok (.aload_n 0, 1) := by decide +kernel
theorem dX3_pageShare_1 : decode cX3_pageShare 1 = .ok (.aload_n 0, 1) := by decide +kernel
theorem dX3_pageShare_2 : decode cX3_pageShare 2 = .ok (.getfield 126, 3) := by decide +kernel
theorem dX3_pageShare_5 : decode cX3_pageShare 5 = .ok (.ifCond .ne 7, 3) := by decide +kernel
theorem dX3_pageShare_8 : decode cX3_pageShare 8 = .ok (.iconst 1, 1) := by decide +kernel
theorem dX3_pageShare_9 : decode cX3_pageShare 9 = .ok (.goto 4, 3) := by decide +kernel
theorem dX3_pageShare_12 : decode cX3_pageShare 12 = .ok (.iconst 0, 1) := by decide +kernel
theorem dX3_pageShare_13 : decode cX3_pageShare 13 = .ok (.invokevirtual 83, 3) := by decide +kernel
theorem dX3_pageShare_16 : decode cX3_pageShare 16 = .ok (.ifCond .eq 17, 3) := by decide +kernel
theorem dX3_pageShare_19 : decode cX3_pageShare 19 = .ok (.aload_n 0, 1) := by decide +kernel
theorem dX3_pageShare_20 : decode cX3_pageShare 20 = .ok (.getfield 133, 3) := by decide +kernel
theorem dX3_pageShare_23 : decode cX3_pageShare 23 = .ok (.i2f, 1) := by decide +kernel
theorem dX3_pageShare_24 : decode cX3_pageShare 24 = .ok (.aload_n 0, 1) := by decide +kernel
theorem dX3_pageShare_25 : decode cX3_pageShare 25 = .ok (.getfield 126, 3) := by decide +kernel
theorem dX3_pageShare_28 : decode cX3_pageShare 28 = .ok (.i2f, 1) := by decide +kernel
theorem dX3_pageShare_29 : decode cX3_pageShare 29 = .ok (.fdiv, 1) := by decide +kernel
theorem dX3_pageShare_30 : decode cX3_pageShare 30 = .ok (.goto 4, 3) := by decide +kernel
theorem dX3_pageShare_33 : decode cX3_pageShare 33 = .ok (.fconst 0, 1) := by decide +kernel
theorem dX3_pageShare_34 : decode cX3_pageShare 34 = .ok (.freturn, 1) := by decide +kernel
set_option maxRecDepth 20000 in
theorem ggX3_meanCharge_X3_goesOn : GoodIn wsX3_meanCharge wsX3_goesOn := goodIn_r _ [7, 8, 9, 10, 11, 12, 13, 14, 15, 16, 17, 18, 19, 20, 21, 22, 23, 24, 25, 26, 27, 28, 29, 30, 31] (by decide +kernel) (by decide +kernel)
set_option maxRecDepth 20000 in
theorem gX3_meanCharge_X3_goesOn : GoodIn wsX3_meanCharge (wsV RX3 83 RX3 yX3_goesOn wsX3_goesOn) := goodIn_app (goodIn_of _ (by decide +kernel)) ggX3_meanCharge_X3_goesOn
theorem dX3_meanCharge_0 : decode cX3_meanCharge 0 = .ok (.aload_n 0, 1) := by decide +kernel
theorem dX3_meanCharge_1 : decode cX3_meanCharge 1 = .ok (.aload_n 0, 1) := by decide +kernel
theorem dX3_meanCharge_2 : decode cX3_meanCharge 2 = .ok (.getfield 73, 3) := by decide +kernel
theorem dX3_meanCharge_5 : decode cX3_meanCharge 5 = .ok (.ifCond .ne 7, 3) := by decide +kernel
theorem dX3_meanCharge_8 : decode cX3_meanCharge 8 = .ok (.iconst 1, 1) := by decide +kernel
theorem dX3_meanCharge_9 : decode cX3_meanCharge 9 = .ok (.goto 4, 3) := by decide +kernel
theorem dX3_meanCharge_12 : decode cX3_meanCharge 12 = .ok (.iconst 0, 1) := by decide +kernel
theorem dX3_meanCharge_13 : decode cX3_meanCharge 13 = .ok (.invokevirtual 83, 3) := by decide +kernel
theorem dX3_meanCharge_16 : decode cX3_meanCharge 16 = .ok (.ifCond .eq 17, 3) := by decide +kernel
theorem dX3_meanCharge_19 : decode cX3_meanCharge 19 = .ok (.aload_n 0, 1) := by decide +kernel
theorem dX3_meanCharge_20 : decode cX3_meanCharge 20 = .ok (.getfield 126, 3) := by decide +kernel
theorem dX3_meanCharge_23 : decode cX3_meanCharge 23 = .ok (.i2d, 1) := by decide +kernel
theorem dX3_meanCharge_24 : decode cX3_meanCharge 24 = .ok (.aload_n 0, 1) := by decide +kernel
theorem dX3_meanCharge_25 : decode cX3_meanCharge 25 = .ok (.getfield 73, 3) := by decide +kernel
theorem dX3_meanCharge_28 : decode cX3_meanCharge 28 = .ok (.i2d, 1) := by decide +kernel
theorem dX3_meanCharge_29 : decode cX3_meanCharge 29 = .ok (.ddiv, 1) := by decide +kernel
theorem dX3_meanCharge_30 : decode cX3_meanCharge 30 = .ok (.goto 4, 3) := by decide +kernel
theorem dX3_meanCharge_33 : decode cX3_meanCharge 33 = .ok (.dconst 0, 1) := by decide +kernel
theorem dX3_meanCharge_34 : decode cX3_meanCharge 34 = .ok (.dreturn, 1) := by decide +kernel
theorem dJx00060_init_a7421_0 : decode cJx00060_init_a7421 0 = .ok (.aload_n 0, 1) := by decide +kernel
theorem dJx00060_init_a7421_1 : decode cJx00060_init_a7421 1 = .ok (.aload_n 1, 1) := by decide +kernel
theorem dJx00060_init_a7421_2 : decode cJx00060_init_a7421 2 = .ok (.invokespecial 7, 3) := by decide +kernel
theorem dJx00060_init_a7421_5 : decode cJx00060_init_a7421 5 = .ok (.return_, 1) := by decide +kernel
theorem dJ9_max_7cf53_0 : decode cJ9_max_7cf53 0 = .ok (.iload_n 0, 1) := by decide +kernel
theorem dJ9_max_7cf53_1 : decode cJ9_max_7cf53 1 = .ok (.iload_n 1, 1) := by decide +kernel
theorem dJ9_max_7cf53_2 : decode cJ9_max_7cf53 2 = .ok (.if_icmp .lt 7, 3) := by decide +kernel
theorem dJ9_max_7cf53_5 : decode cJ9_max_7cf53 5 = .ok (.iload_n 0, 1) := by decide +kernel
theorem dJ9_max_7cf53_6 : decode cJ9_max_7cf53 6 = .ok (.goto 4, 3) := by decide +kernel
theorem dJ9_max_7cf53_9 : decode cJ9_max_7cf53 9 = .ok (.iload_n 1, 1) := by decide +kernel
theorem dJ9_max_7cf53_10 : decode cJ9_max_7cf53 10 = .ok (.ireturn, 1) := by decide +kernel
theorem dJ9_min_7cf53_0 : decode cJ9_min_7cf53 0 = .ok (.iload_n 0, 1) := by decide +kernel
theorem dJ9_min_7cf53_1 : decode cJ9_min_7cf53 1 = .ok (.iload_n 1, 1) := by decide +kernel
theorem dJ9_min_7cf53_2 : decode cJ9_min_7cf53 2 = .ok (.if_icmp .gt 7, 3) := by decide +kernel
theorem dJ9_min_7cf53_5 : decode cJ9_min_7cf53 5 = .ok (.iload_n 0, 1) := by decide +kernel
theorem dJ9_min_7cf53_6 : decode cJ9_min_7cf53 6 = .ok (.goto 4, 3) := by decide +kernel
theorem dJ9_min_7cf53_9 : decode cJ9_min_7cf53 9 = .ok (.iload_n 1, 1) := by decide +kernel
theorem dJ9_min_7cf53_10 : decode cJ9_min_7cf53 10 = .ok (.ireturn, 1) := by decide +kernel
theorem dJxa1e45_init_da8c8_0 : decode cJxa1e45_init_da8c8 0 = .ok (.aload_n 0, 1) := by decide +kernel
theorem dJxa1e45_init_da8c8_1 : decode cJxa1e45_init_da8c8 1 = .ok (.invokespecial 1, 3) := by decide +kernel
theorem dJxa1e45_init_da8c8_4 : decode cJxa1e45_init_da8c8 4 = .ok (.return_, 1) := by decide +kernel
set_option maxRecDepth 20000 in
theorem ggJxc12de_init_da8c8_Jxa1e45_init_da8c8 : GoodIn wsJxc12de_init_da8c8 wsJxa1e45_init_da8c8 := goodIn_r _ [5, 6, 7, 8] (by decide +kernel) (by decide +kernel)
set_option maxRecDepth 20000 in
theorem gJxc12de_init_da8c8_Jxa1e45_init_da8c8 : GoodIn wsJxc12de_init_da8c8 (wsJxa1e45_init_da8c8) := ggJxc12de_init_da8c8_Jxa1e45_init_da8c8
theorem dJxc12de_init_da8c8_0 : decode cJxc12de_init_da8c8 0 = .ok (.aload_n 0, 1) := by decide +kernel
theorem dJxc12de_init_da8c8_1 : decode cJxc12de_init_da8c8 1 = .ok (.invokespecial 1, 3) := by decide +kernel
theorem dJxc12de_init_da8c8_4 : decode cJxc12de_init_da8c8 4 = .ok (.aload_n 0, 1) := by decide +kernel
theorem dJxc12de_init_da8c8_5 : decode cJxc12de_init_da8c8 5 = .ok (.iconst 0, 1) := by decide +kernel
theorem dJxc12de_init_da8c8_6 : decode cJxc12de_init_da8c8 6 = .ok (.putfield 7, 3) := by decide +kernel
theorem dJxc12de_init_da8c8_9 : decode cJxc12de_init_da8c8 9 = .ok (.return_, 1) := by decide +kernel
set_option maxRecDepth 20000 in
theorem ggJx4a65c_init_da8c8_Jxc12de_init_da8c8 : GoodIn wsJx4a65c_init_da8c8 wsJxc12de_init_da8c8 := goodIn_r _ [6, 7, 8, 9, 10, 11, 12, 13, 14, 15, 16, 17] (by decide +kernel) (by decide +kernel)
set_option maxRecDepth 20000 in
theorem gJx4a65c_init_da8c8_Jxc12de_init_da8c8 : GoodIn wsJx4a65c_init_da8c8 (wsJxc12de_init_da8c8) := ggJx4a65c_init_da8c8_Jxc12de_init_da8c8
theorem dJx4a65c_init_da8c8_0 : decode cJx4a65c_init_da8c8 0 = .ok (.aload_n 0, 1) := by decide +kernel
theorem dJx4a65c_init_da8c8_1 : decode cJx4a65c_init_da8c8 1 = .ok (.invokespecial 1, 3) := by decide +kernel
theorem dJx4a65c_init_da8c8_4 : decode cJx4a65c_init_da8c8 4 = .ok (.aload_n 0, 1) := by decide +kernel
theorem dJx4a65c_init_da8c8_5 : decode cJx4a65c_init_da8c8 5 = .ok (.getstatic 39, 3) := by decide +kernel
theorem dJx4a65c_init_da8c8_8 : decode cJx4a65c_init_da8c8 8 = .ok (.putfield 9, 3) := by decide +kernel
theorem dJx4a65c_init_da8c8_11 : decode cJx4a65c_init_da8c8 11 = .ok (.return_, 1) := by decide +kernel
set_option maxRecDepth 20000 in
theorem ggJx4a65c_grow_92f84_J8_newLength_cabcc : GoodIn wsJx4a65c_grow_92f84 wsJ8_newLength_cabcc := goodIn_r _ [11, 12, 4, 5, 6, 13, 14, 15, 10, 16] (by decide +kernel) (by decide +kernel)
set_option maxRecDepth 20000 in
theorem gJx4a65c_grow_92f84_J8_newLength_cabcc : GoodIn wsJx4a65c_grow_92f84 (va_wsS RJx4a65c 73 yJ8_newLength_cabcc wsJ8_newLength_cabcc) := goodIn_app (goodIn_of _ (by decide +kernel)) ggJx4a65c_grow_92f84_J8_newLength_cabcc
set_option maxRecDepth 20000 in
theorem ggJx4a65c_grow_92f84_J7_copyOf_1904c : GoodIn wsJx4a65c_grow_92f84 wsJ7_copyOf_1904c := goodIn_r _ [20, 21, 22, 23, 24, 25, 26, 19, 27, 28, 29, 30, 31, 5, 32, 33, 34, 35, 36] (by decide +kernel) (by decide +kernel)
set_option maxRecDepth 20000 in
theorem gJx4a65c_grow_92f84_J7_copyOf_1904c : GoodIn wsJx4a65c_grow_92f84 (va_wsS RJx4a65c 66 yJ7_copyOf_1904c wsJ7_copyOf_1904c) := goodIn_app (goodIn_of _ (by decide +kernel)) ggJx4a65c_grow_92f84_J7_copyOf_1904c
theorem dJx4a65c_grow_92f84_0 : decode cJx4a65c_grow_92f84 0 = .ok (.aload_n 0, 1) := by decide +kernel
theorem dJx4a65c_grow_92f84_1 : decode cJx4a65c_grow_92f84 1 = .ok (.getfield 9, 3) := by decide +kernel
theorem dJx4a65c_grow_92f84_4 : decode cJx4a65c_grow_92f84 4 = .ok (.arraylength, 1) := by decide +kernel
theorem dJx4a65c_grow_92f84_5 : decode cJx4a65c_grow_92f84 5 = .ok (.istore_n 2, 1) := by decide +kernel
theorem dJx4a65c_grow_92f84_6 : decode cJx4a65c_grow_92f84 6 = .ok (.iload_n 2, 1) := by decide +kernel
theorem dJx4a65c_grow_92f84_7 : decode cJx4a65c_grow_92f84 7 = .ok (.ifCond .gt 13, 3) := by decide +kernel
theorem dJx4a65c_grow_92f84_10 : decode cJx4a65c_grow_92f84 10 = .ok (.aload_n 0, 1) := by decide +kernel
theorem dJx4a65c_grow_92f84_11 : decode cJx4a65c_grow_92f84 11 = .ok (.getfield 9, 3) := by decide +kernel
theorem dJx4a65c_grow_92f84_14 : decode cJx4a65c_grow_92f84 14 = .ok (.getstatic 39, 3) := by decide +kernel
theorem dJx4a65c_grow_92f84_17 : decode cJx4a65c_grow_92f84 17 = .ok (.if_acmp .eq 28, 3) := by decide +kernel
theorem dJx4a65c_grow_92f84_20 : decode cJx4a65c_grow_92f84 20 = .ok (.iload_n 2, 1) := by decide +kernel
theorem dJx4a65c_grow_92f84_21 : decode cJx4a65c_grow_92f84 21 = .ok (.iload_n 1, 1) := by decide +kernel
theorem dJx4a65c_grow_92f84_22 : decode cJx4a65c_grow_92f84 22 = .ok (.iload_n 2, 1) := by decide +kernel
theorem dJx4a65c_grow_92f84_23 : decode cJx4a65c_grow_92f84 23 = .ok (.isub, 1) := by decide +kernel
theorem dJx4a65c_grow_92f84_24 : decode cJx4a65c_grow_92f84 24 = .ok (.iload_n 2, 1) := by decide +kernel
theorem dJx4a65c_grow_92f84_25 : decode cJx4a65c_grow_92f84 25 = .ok (.iconst 1, 1) := by decide +kernel
theorem dJx4a65c_grow_92f84_26 : decode cJx4a65c_grow_92f84 26 = .ok (.ishr, 1) := by decide +kernel
theorem dJx4a65c_grow_92f84_27 : decode cJx4a65c_grow_92f84 27 = .ok (.invokestatic 73, 3) := by decide +kernel
theorem dJx4a65c_grow_92f84_30 : decode cJx4a65c_grow_92f84 30 = .ok (.istore_n 3, 1) := by decide +kernel
theorem dJx4a65c_grow_92f84_31 : decode cJx4a65c_grow_92f84 31 = .ok (.aload_n 0, 1) := by decide +kernel
theorem dJx4a65c_grow_92f84_32 : decode cJx4a65c_grow_92f84 32 = .ok (.aload_n 0, 1) := by decide +kernel
theorem dJx4a65c_grow_92f84_33 : decode cJx4a65c_grow_92f84 33 = .ok (.getfield 9, 3) := by decide +kernel
theorem dJx4a65c_grow_92f84_36 : decode cJx4a65c_grow_92f84 36 = .ok (.iload_n 3, 1) := by decide +kernel
theorem dJx4a65c_grow_92f84_37 : decode cJx4a65c_grow_92f84 37 = .ok (.invokestatic 66, 3) := by decide +kernel
theorem dJx4a65c_grow_92f84_40 : decode cJx4a65c_grow_92f84 40 = .ok (.dup_x1, 1) := by decide +kernel
theorem dJx4a65c_grow_92f84_41 : decode cJx4a65c_grow_92f84 41 = .ok (.putfield 9, 3) := by decide +kernel
theorem dJx4a65c_grow_92f84_44 : decode cJx4a65c_grow_92f84 44 = .ok (.areturn, 1) := by decide +kernel
theorem dJx4a65c_grow_92f84_45 : decode cJx4a65c_grow_92f84 45 = .ok (.aload_n 0, 1) := by decide +kernel
theorem dJx4a65c_grow_92f84_46 : decode cJx4a65c_grow_92f84 46 = .ok (.bipush 10, 2) := by decide +kernel
theorem dJx4a65c_grow_92f84_48 : decode cJx4a65c_grow_92f84 48 = .ok (.iload_n 1, 1) := by decide +kernel
theorem dJx4a65c_grow_92f84_49 : decode cJx4a65c_grow_92f84 49 = .ok (.invokestatic 79, 3) := by decide +kernel
theorem dJx4a65c_grow_92f84_52 : decode cJx4a65c_grow_92f84 52 = .ok (.anewarray 7, 3) := by decide +kernel
theorem dJx4a65c_grow_92f84_55 : decode cJx4a65c_grow_92f84 55 = .ok (.dup_x1, 1) := by decide +kernel
theorem dJx4a65c_grow_92f84_56 : decode cJx4a65c_grow_92f84 56 = .ok (.putfield 9, 3) := by decide +kernel
theorem dJx4a65c_grow_92f84_59 : decode cJx4a65c_grow_92f84 59 = .ok (.areturn, 1) := by decide +kernel
set_option maxRecDepth 20000 in
theorem ggJx4a65c_grow_d5877_Jx4a65c_grow_92f84 : GoodIn wsJx4a65c_grow_d5877 wsJx4a65c_grow_92f84 := goodIn_r _ [6, 7, 8, 9, 10, 11, 12, 13, 14, 15, 16, 17, 18, 19, 20, 21, 22, 23, 24, 25, 26, 27, 28, 29, 30, 31, 32, 33, 34, 35, 36, 37, 38, 39, 40, 41, 42, 43, 44, 45] (by decide +kernel) (by decide +kernel)
set_option maxRecDepth 20000 in
theorem gJx4a65c_grow_d5877_Jx4a65c_grow_92f84 : GoodIn wsJx4a65c_grow_d5877 (wsV RJx4a65c 69 RJx4a65c yJx4a65c_grow_92f84 wsJx4a65c_grow_92f84) := goodIn_app (goodIn_of _ (by decide +kernel)) ggJx4a65c_grow_d5877_Jx4a65c_grow_92f84
theorem dJx4a65c_grow_d5877_0 : decode cJx4a65c_grow_d5877 0 = .ok (.aload_n 0, 1) := by decide +kernel
theorem dJx4a65c_grow_d5877_1 : decode cJx4a65c_grow_d5877 1 = .ok (.aload_n 0, 1) := by decide +kernel
theorem dJx4a65c_grow_d5877_2 : decode cJx4a65c_grow_d5877 2 = .ok (.getfield 48, 3) := by decide +kernel
theorem dJx4a65c_grow_d5877_5 : decode cJx4a65c_grow_d5877 5 = .ok (.iconst 1, 1) := by decide +kernel
theorem dJx4a65c_grow_d5877_6 : decode cJx4a65c_grow_d5877 6 = .ok (.iadd, 1) := by decide +kernel
theorem dJx4a65c_grow_d5877_7 : decode cJx4a65c_grow_d5877 7 = .ok (.invokevirtual 69, 3) := by decide +kernel
theorem dJx4a65c_grow_d5877_10 : decode cJx4a65c_grow_d5877 10 = .ok (.areturn, 1) := by decide +kernel
theorem dJx4a65c_size_8abf5_0 : decode cJx4a65c_size_8abf5 0 = .ok (.aload_n 0, 1) := by decide +kernel
theorem dJx4a65c_size_8abf5_1 : decode cJx4a65c_size_8abf5 1 = .ok (.getfield 48, 3) := by decide +kernel
theorem dJx4a65c_size_8abf5_4 : decode cJx4a65c_size_8abf5 4 = .ok (.ireturn, 1) := by decide +kernel
theorem dJx4a65c_elementData_915e3_0 : decode cJx4a65c_elementData_915e3 0 = .ok (.aload_n 0, 1) := by decide +kernel
theorem dJx4a65c_elementData_915e3_1 : decode cJx4a65c_elementData_915e3 1 = .ok (.getfield 9, 3) := by decide +kernel
theorem dJx4a65c_elementData_915e3_4 : decode cJx4a65c_elementData_915e3 4 = .ok (.iload_n 1, 1) := by decide +kernel
theorem dJx4a65c_elementData_915e3_5 : decode cJx4a65c_elementData_915e3 5 = .ok (.aaload, 1) := by decide +kernel
theorem dJx4a65c_elementData_915e3_6 : decode cJx4a65c_elementData_915e3 6 = .ok (.areturn, 1) := by decide +kernel
set_option maxRecDepth 20000 in
theorem ggJx4a65c_get_915e3_J15_checkIndex_7cf53 : GoodIn wsJx4a65c_get_915e3 wsJ15_checkIndex_7cf53 := goodIn_r _ [5, 6, 7, 8, 9] (by decide +kernel) (by decide +kernel)
set_option maxRecDepth 20000 in
theorem gJx4a65c_get_915e3_J15_checkIndex_7cf53 : GoodIn wsJx4a65c_get_915e3 (va_wsS RJx4a65c 118 yJ15_checkIndex_7cf53 wsJ15_checkIndex_7cf53) := goodIn_app (goodIn_of _ (by decide +kernel)) ggJx4a65c_get_915e3_J15_checkIndex_7cf53
set_option maxRecDepth 20000 in
theorem ggJx4a65c_get_915e3_Jx4a65c_elementData_915e3 : GoodIn wsJx4a65c_get_915e3 wsJx4a65c_elementData_915e3 := goodIn_r _ [14, 15, 16, 17, 18] (by decide +kernel) (by decide +kernel)
set_option maxRecDepth 20000 in
theorem gJx4a65c_get_915e3_Jx4a65c_elementData_915e3 : GoodIn wsJx4a65c_get_915e3 (wsV RJx4a65c 123 RJx4a65c yJx4a65c_elementData_915e3 wsJx4a65c_elementData_915e3) := goodIn_app (goodIn_of _ (by decide +kernel)) ggJx4a65c_get_915e3_Jx4a65c_elementData_915e3
theorem dJx4a65c_get_915e3_0 : decode cJx4a65c_get_915e3 0 = .ok (.iload_n 1, 1) := by decide +kernel
theorem dJx4a65c_get_915e3_1 : decode cJx4a65c_get_915e3 1 = .ok (.aload_n 0, 1) := by decide +kernel
theorem dJx4a65c_get_915e3_2 : decode cJx4a65c_get_915e3 2 = .ok (.getfield 48, 3) := by decide +kernel
theorem dJx4a65c_get_915e3_5 : decode cJx4a65c_get_915e3 5 = .ok (.invokestatic 118, 3) := by decide +kernel
theorem dJx4a65c_get_915e3_8 : decode cJx4a65c_get_915e3 8 = .ok (.pop, 1) := by decide +kernel
theorem dJx4a65c_get_915e3_9 : decode cJx4a65c_get_915e3 9 = .ok (.aload_n 0, 1) := by decide +kernel
theorem dJx4a65c_get_915e3_10 : decode cJx4a65c_get_915e3 10 = .ok (.iload_n 1, 1) := by decide +kernel
theorem dJx4a65c_get_915e3_11 : decode cJx4a65c_get_915e3 11 = .ok (.invokevirtual 123, 3) := by decide +kernel
theorem dJx4a65c_get_915e3_14 : decode cJx4a65c_get_915e3 14 = .ok (.areturn, 1) := by decide +kernel
set_option maxRecDepth 20000 in
theorem ggJx4a65c_add_72be8_Jx4a65c_grow_d5877 : GoodIn wsJx4a65c_add_72be8 wsJx4a65c_grow_d5877 := goodIn_r _ [6, 1, 7, 8, 9, 5, 10, 11, 12, 13, 14, 15, 16, 17, 18, 19, 20, 21, 22, 23, 24, 25, 26, 27, 28, 29, 30, 31, 32, 33, 34, 35, 36, 37, 38, 39, 40, 41, 42, 43, 44, 45, 46, 47, 48, 49] (by decide +kernel) (by decide +kernel)
set_option maxRecDepth 20000 in
theorem gJx4a65c_add_72be8_Jx4a65c_grow_d5877 : GoodIn wsJx4a65c_add_72be8 (wsV RJx4a65c 129 RJx4a65c yJx4a65c_grow_d5877 wsJx4a65c_grow_d5877) := goodIn_app (goodIn_of _ (by decide +kernel)) ggJx4a65c_add_72be8_Jx4a65c_grow_d5877
theorem dJx4a65c_add_72be8_0 : decode cJx4a65c_add_72be8 0 = .ok (.iload_n 3, 1) := by decide +kernel
theorem dJx4a65c_add_72be8_1 : decode cJx4a65c_add_72be8 1 = .ok (.aload_n 2, 1) := by decide +kernel
theorem dJx4a65c_add_72be8_2 : decode cJx4a65c_add_72be8 2 = .ok (.arraylength, 1) := by decide +kernel
theorem dJx4a65c_add_72be8_3 : decode cJx4a65c_add_72be8 3 = .ok (.if_icmp .ne 8, 3) := by decide +kernel
theorem dJx4a65c_add_72be8_6 : decode cJx4a65c_add_72be8 6 = .ok (.aload_n 0, 1) := by decide +kernel
theorem dJx4a65c_add_72be8_7 : decode cJx4a65c_add_72be8 7 = .ok (.invokevirtual 129, 3) := by decide +kernel
theorem dJx4a65c_add_72be8_10 : decode cJx4a65c_add_72be8 10 = .ok (.astore_n 2, 1) := by decide +kernel
theorem dJx4a65c_add_72be8_11 : decode cJx4a65c_add_72be8 11 = .ok (.aload_n 2, 1) := by decide +kernel
theorem dJx4a65c_add_72be8_12 : decode cJx4a65c_add_72be8 12 = .ok (.iload_n 3, 1) := by decide +kernel
theorem dJx4a65c_add_72be8_13 : decode cJx4a65c_add_72be8 13 = .ok (.aload_n 1, 1) := by decide +kernel
theorem dJx4a65c_add_72be8_14 : decode cJx4a65c_add_72be8 14 = .ok (.aastore, 1) := by decide +kernel
theorem dJx4a65c_add_72be8_15 : decode cJx4a65c_add_72be8 15 = .ok (.aload_n 0, 1) := by decide +kernel
theorem dJx4a65c_add_72be8_16 : decode cJx4a65c_add_72be8 16 = .ok (.iload_n 3, 1) := by decide +kernel
theorem dJx4a65c_add_72be8_17 : decode cJx4a65c_add_72be8 17 = .ok (.iconst 1, 1) := by decide +kernel
theorem dJx4a65c_add_72be8_18 : decode cJx4a65c_add_72be8 18 = .ok (.iadd, 1) := by decide +kernel
theorem dJx4a65c_add_72be8_19 : decode cJx4a65c_add_72be8 19 = .ok (.putfield 48, 3) := by decide +kernel
theorem dJx4a65c_add_72be8_22 : decode cJx4a65c_add_72be8 22 = .ok (.return_, 1) := by decide +kernel
set_option maxRecDepth 20000 in
theorem ggJx4a65c_add_9ea2d_Jx4a65c_add_72be8 : GoodIn wsJx4a65c_add_9ea2d wsJx4a65c_add_72be8 := goodIn_r _ [9, 4, 10, 11, 12, 8, 13, 14, 15, 16, 17, 3, 18, 19, 20, 21, 22, 23, 24, 25, 26, 27, 28, 29, 30, 31, 32, 33, 34, 35, 36, 37, 38, 39, 40, 41, 42, 43, 44, 45, 46, 47, 48, 49, 50, 51, 52, 53, 54, 55] (by decide +kernel) (by decide +kernel)
set_option maxRecDepth 20000 in
theorem gJx4a65c_add_9ea2d_Jx4a65c_add_72be8 : GoodIn wsJx4a65c_add_9ea2d (wsV RJx4a65c 131 RJx4a65c yJx4a65c_add_72be8 wsJx4a65c_add_72be8) := goodIn_app (goodIn_of _ (by decide +kernel)) ggJx4a65c_add_9ea2d_Jx4a65c_add_72be8
theorem dJx4a65c_add_9ea2d_0 : decode cJx4a65c_add_9ea2d 0 = .ok (.aload_n 0, 1) := by decide +kernel
theorem dJx4a65c_add_9ea2d_1 : decode cJx4a65c_add_9ea2d 1 = .ok (.dup, 1) := by decide +kernel
theorem dJx4a65c_add_9ea2d_2 : decode cJx4a65c_add_9ea2d 2 = .ok (.getfield 63, 3) := by decide +kernel
theorem dJx4a65c_add_9ea2d_5 : decode cJx4a65c_add_9ea2d 5 = .ok (.iconst 1, 1) := by decide +kernel
theorem dJx4a65c_add_9ea2d_6 : decode cJx4a65c_add_9ea2d 6 = .ok (.iadd, 1) := by decide +kernel
theorem dJx4a65c_add_9ea2d_7 : decode cJx4a65c_add_9ea2d 7 = .ok (.putfield 63, 3) := by decide +kernel
theorem dJx4a65c_add_9ea2d_10 : decode cJx4a65c_add_9ea2d 10 = .ok (.aload_n 0, 1) := by decide +kernel
theorem dJx4a65c_add_9ea2d_11 : decode cJx4a65c_add_9ea2d 11 = .ok (.aload_n 1, 1) := by decide +kernel
theorem dJx4a65c_add_9ea2d_12 : decode cJx4a65c_add_9ea2d 12 = .ok (.aload_n 0, 1) := by decide +kernel
theorem dJx4a65c_add_9ea2d_13 : decode cJx4a65c_add_9ea2d 13 = .ok (.getfield 9, 3) := by decide +kernel
theorem dJx4a65c_add_9ea2d_16 : decode cJx4a65c_add_9ea2d 16 = .ok (.aload_n 0, 1) := by decide +kernel
theorem dJx4a65c_add_9ea2d_17 : decode cJx4a65c_add_9ea2d 17 = .ok (.getfield 48, 3) := by decide +kernel
theorem dJx4a65c_add_9ea2d_20 : decode cJx4a65c_add_9ea2d 20 = .ok (.invokevirtual 131, 3) := by decide +kernel
theorem dJx4a65c_add_9ea2d_23 : decode cJx4a65c_add_9ea2d 23 = .ok (.iconst 1, 1) := by decide +kernel
theorem dJx4a65c_add_9ea2d_24 : decode cJx4a65c_add_9ea2d 24 = .ok (.ireturn, 1) := by decide +kernel
set_option maxRecDepth 20000 in
theorem ggJ7_copyOf_1904c_J7_copyOf_6403c : GoodIn wsJ7_copyOf_1904c wsJ7_copyOf_6403c := goodIn_r _ [8, 9, 10, 11, 12, 13, 14, 15, 16, 17, 18] (by decide +kernel) (by decide +kernel)
set_option maxRecDepth 20000 in
theorem gJ7_copyOf_1904c_J7_copyOf_6403c : GoodIn wsJ7_copyOf_1904c (va_wsS RJ7 300 yJ7_copyOf_6403c wsJ7_copyOf_6403c) := goodIn_app (goodIn_of _ (by decide +kernel)) ggJ7_copyOf_1904c_J7_copyOf_6403c
theorem dJ7_copyOf_1904c_0 : decode cJ7_copyOf_1904c 0 = .ok (.aload_n 0, 1) := by decide +kernel
theorem dJ7_copyOf_1904c_1 : decode cJ7_copyOf_1904c 1 = .ok (.iload_n 1, 1) := by decide +kernel
theorem dJ7_copyOf_1904c_2 : decode cJ7_copyOf_1904c 2 = .ok (.aload_n 0, 1) := by decide +kernel
theorem dJ7_copyOf_1904c_3 : decode cJ7_copyOf_1904c 3 = .ok (.invokevirtual 86, 3) := by decide +kernel
theorem dJ7_copyOf_1904c_6 : decode cJ7_copyOf_1904c 6 = .ok (.invokestatic 300, 3) := by decide +kernel
theorem dJ7_copyOf_1904c_9 : decode cJ7_copyOf_1904c 9 = .ok (.areturn, 1) := by decide +kernel
theorem dJ7_copyOf_6403c_0 : decode cJ7_copyOf_6403c 0 = .ok (.aload_n 2, 1) := by decide +kernel
theorem dJ7_copyOf_6403c_1 : decode cJ7_copyOf_6403c 1 = .ok (.ldc 110, 2) := by decide +kernel
theorem dJ7_copyOf_6403c_3 : decode cJ7_copyOf_6403c 3 = .ok (.if_acmp .ne 10, 3) := by decide +kernel
theorem dJ7_copyOf_6403c_6 : decode cJ7_copyOf_6403c 6 = .ok (.iload_n 1, 1) := by decide +kernel
theorem dJ7_copyOf_6403c_7 : decode cJ7_copyOf_6403c 7 = .ok (.anewarray 2, 3) := by decide +kernel
theorem dJ7_copyOf_6403c_10 : decode cJ7_copyOf_6403c 10 = .ok (.goto 14, 3) := by decide +kernel
theorem dJ7_copyOf_6403c_13 : decode cJ7_copyOf_6403c 13 = .ok (.aload_n 2, 1) := by decide +kernel
theorem dJ7_copyOf_6403c_14 : decode cJ7_copyOf_6403c 14 = .ok (.invokevirtual 90, 3) := by decide +kernel
theorem dJ7_copyOf_6403c_17 : decode cJ7_copyOf_6403c 17 = .ok (.iload_n 1, 1) := by decide +kernel
theorem dJ7_copyOf_6403c_18 : decode cJ7_copyOf_6403c 18 = .ok (.invokestatic 95, 3) := by decide +kernel
theorem dJ7_copyOf_6403c_21 : decode cJ7_copyOf_6403c 21 = .ok (.checkcast 110, 3) := by decide +kernel
theorem dJ7_copyOf_6403c_24 : decode cJ7_copyOf_6403c 24 = .ok (.astore_n 3, 1) := by decide +kernel
theorem dJ7_copyOf_6403c_25 : decode cJ7_copyOf_6403c 25 = .ok (.aload_n 0, 1) := by decide +kernel
theorem dJ7_copyOf_6403c_26 : decode cJ7_copyOf_6403c 26 = .ok (.iconst 0, 1) := by decide +kernel
theorem dJ7_copyOf_6403c_27 : decode cJ7_copyOf_6403c 27 = .ok (.aload_n 3, 1) := by decide +kernel
theorem dJ7_copyOf_6403c_28 : decode cJ7_copyOf_6403c 28 = .ok (.iconst 0, 1) := by decide +kernel
theorem dJ7_copyOf_6403c_29 : decode cJ7_copyOf_6403c 29 = .ok (.aload_n 0, 1) := by decide +kernel
theorem dJ7_copyOf_6403c_30 : decode cJ7_copyOf_6403c 30 = .ok (.arraylength, 1) := by decide +kernel
theorem dJ7_copyOf_6403c_31 : decode cJ7_copyOf_6403c 31 = .ok (.iload_n 1, 1) := by decide +kernel
theorem dJ7_copyOf_6403c_32 : decode cJ7_copyOf_6403c 32 = .ok (.invokestatic 304, 3) := by decide +kernel
theorem dJ7_copyOf_6403c_35 : decode cJ7_copyOf_6403c 35 = .ok (.invokestatic 150, 3) := by decide +kernel
theorem dJ7_copyOf_6403c_38 : decode cJ7_copyOf_6403c 38 = .ok (.aload_n 3, 1) := by decide +kernel
theorem dJ7_copyOf_6403c_39 : decode cJ7_copyOf_6403c 39 = .ok (.areturn, 1) := by decide +kernel
set_option maxRecDepth 20000 in
theorem ggJ15_checkIndex_7cf53_J3_checkIndex_8e157 : GoodIn wsJ15_checkIndex_7cf53 wsJ3_checkIndex_8e157 := goodIn_r _ [4] (by decide +kernel) (by decide +kernel)
set_option maxRecDepth 20000 in
theorem gJ15_checkIndex_7cf53_J3_checkIndex_8e157 : GoodIn wsJ15_checkIndex_7cf53 (va_wsS RJ15 105 yJ3_checkIndex_8e157 wsJ3_checkIndex_8e157) := goodIn_app (goodIn_of _ (by decide +kernel)) ggJ15_checkIndex_7cf53_J3_checkIndex_8e157
theorem dJ15_checkIndex_7cf53_0 : decode cJ15_checkIndex_7cf53 0 = .ok (.iload_n 0, 1) := by decide +kernel
theorem dJ15_checkIndex_7cf53_1 : decode cJ15_checkIndex_7cf53 1 = .ok (.iload_n 1, 1) := by decide +kernel
theorem dJ15_checkIndex_7cf53_2 : decode cJ15_checkIndex_7cf53 2 = .ok (.aconst_null, 1) := by decide +kernel
theorem dJ15_checkIndex_7cf53_3 : decode cJ15_checkIndex_7cf53 3 = .ok (.invokestatic 105, 3) := by decide +kernel
theorem dJ15_checkIndex_7cf53_6 : decode cJ15_checkIndex_7cf53 6 = .ok (.ireturn, 1) := by decide +kernel
set_option maxRecDepth 20000 in
theorem ggJ8_newLength_cabcc_J8_hugeLength_7cf53 : GoodIn wsJ8_newLength_cabcc wsJ8_hugeLength_7cf53 := goodIn_r _ [9, 5] (by decide +kernel) (by decide +kernel)
set_option maxRecDepth 20000 in
theorem gJ8_newLength_cabcc_J8_hugeLength_7cf53 : GoodIn wsJ8_newLength_cabcc (va_wsS RJ8 201 yJ8_hugeLength_7cf53 wsJ8_hugeLength_7cf53) := goodIn_app (goodIn_of _ (by decide +kernel)) ggJ8_newLength_cabcc_J8_hugeLength_7cf53
theorem dJ8_newLength_cabcc_0 : decode cJ8_newLength_cabcc 0 = .ok (.iload_n 0, 1) := by decide +kernel
theorem dJ8_newLength_cabcc_1 : decode cJ8_newLength_cabcc 1 = .ok (.iload_n 1, 1) := by decide +kernel
theorem dJ8_newLength_cabcc_2 : decode cJ8_newLength_cabcc 2 = .ok (.iload_n 2, 1) := by decide +kernel
theorem dJ8_newLength_cabcc_3 : decode cJ8_newLength_cabcc 3 = .ok (.invokestatic 194, 3) := by decide +kernel
theorem dJ8_newLength_cabcc_6 : decode cJ8_newLength_cabcc 6 = .ok (.iadd, 1) := by decide +kernel
theorem dJ8_newLength_cabcc_7 : decode cJ8_newLength_cabcc 7 = .ok (.istore_n 3, 1) := by decide +kernel
theorem dJ8_newLength_cabcc_8 : decode cJ8_newLength_cabcc 8 = .ok (.iconst 0, 1) := by decide +kernel
theorem dJ8_newLength_cabcc_9 : decode cJ8_newLength_cabcc 9 = .ok (.iload_n 3, 1) := by decide +kernel
theorem dJ8_newLength_cabcc_10 : decode cJ8_newLength_cabcc 10 = .ok (.if_icmp .ge 11, 3) := by decide +kernel
theorem dJ8_newLength_cabcc_13 : decode cJ8_newLength_cabcc 13 = .ok (.iload_n 3, 1) := by decide +kernel
theorem dJ8_newLength_cabcc_14 : decode cJ8_newLength_cabcc 14 = .ok (.ldc 200, 2) := by decide +kernel
theorem dJ8_newLength_cabcc_16 : decode cJ8_newLength_cabcc 16 = .ok (.if_icmp .gt 5, 3) := by decide +kernel
theorem dJ8_newLength_cabcc_19 : decode cJ8_newLength_cabcc 19 = .ok (.iload_n 3, 1) := by decide +kernel
theorem dJ8_newLength_cabcc_20 : decode cJ8_newLength_cabcc 20 = .ok (.ireturn, 1) := by decide +kernel
theorem dJ8_newLength_cabcc_21 : decode cJ8_newLength_cabcc 21 = .ok (.iload_n 0, 1) := by decide +kernel
theorem dJ8_newLength_cabcc_22 : decode cJ8_newLength_cabcc 22 = .ok (.iload_n 1, 1) := by decide +kernel
theorem dJ8_newLength_cabcc_23 : decode cJ8_newLength_cabcc 23 = .ok (.invokestatic 201, 3) := by decide +kernel
theorem dJ8_newLength_cabcc_26 : decode cJ8_newLength_cabcc 26 = .ok (.ireturn, 1) := by decide +kernel
theorem dJ8_hugeLength_7cf53_0 : decode cJ8_hugeLength_7cf53 0 = .ok (.iload_n 0, 1) := by decide +kernel
theorem dJ8_hugeLength_7cf53_1 : decode cJ8_hugeLength_7cf53 1 = .ok (.iload_n 1, 1) := by decide +kernel
theorem dJ8_hugeLength_7cf53_2 : decode cJ8_hugeLength_7cf53 2 = .ok (.iadd, 1) := by decide +kernel
theorem dJ8_hugeLength_7cf53_3 : decode cJ8_hugeLength_7cf53 3 = .ok (.istore_n 2, 1) := by decide +kernel
theorem dJ8_hugeLength_7cf53_4 : decode cJ8_hugeLength_7cf53 4 = .ok (.iload_n 2, 1) := by decide +kernel
theorem dJ8_hugeLength_7cf53_5 : decode cJ8_hugeLength_7cf53 5 = .ok (.ifCond .ge 44, 3) := by decide +kernel
theorem dJ8_hugeLength_7cf53_8 : decode cJ8_hugeLength_7cf53 8 = .ok (.new 204, 3) := by decide +kernel
theorem dJ8_hugeLength_7cf53_11 : decode cJ8_hugeLength_7cf53 11 = .ok (.dup, 1) := by decide +kernel
theorem dJ8_hugeLength_7cf53_12 : decode cJ8_hugeLength_7cf53 12 = .ok (.new 89, 3) := by decide +kernel
theorem dJ8_hugeLength_7cf53_15 : decode cJ8_hugeLength_7cf53 15 = .ok (.dup, 1) := by decide +kernel
theorem dJ8_hugeLength_7cf53_16 : decode cJ8_hugeLength_7cf53 16 = .ok (.invokespecial 91, 3) := by decide +kernel
theorem dJ8_hugeLength_7cf53_19 : decode cJ8_hugeLength_7cf53 19 = .ok (.ldc 206, 2) := by decide +kernel
theorem dJ8_hugeLength_7cf53_21 : decode cJ8_hugeLength_7cf53 21 = .ok (.invokevirtual 94, 3) := by decide +kernel
theorem dJ8_hugeLength_7cf53_24 : decode cJ8_hugeLength_7cf53 24 = .ok (.iload_n 0, 1) := by decide +kernel
theorem dJ8_hugeLength_7cf53_25 : decode cJ8_hugeLength_7cf53 25 = .ok (.invokevirtual 98, 3) := by decide +kernel
theorem dJ8_hugeLength_7cf53_28 : decode cJ8_hugeLength_7cf53 28 = .ok (.ldc 208, 2) := by decide +kernel
theorem dJ8_hugeLength_7cf53_30 : decode cJ8_hugeLength_7cf53 30 = .ok (.invokevirtual 94, 3) := by decide +kernel
theorem dJ8_hugeLength_7cf53_33 : decode cJ8_hugeLength_7cf53 33 = .ok (.iload_n 1, 1) := by decide +kernel
theorem dJ8_hugeLength_7cf53_34 : decode cJ8_hugeLength_7cf53 34 = .ok (.invokevirtual 98, 3) := by decide +kernel
theorem dJ8_hugeLength_7cf53_37 : decode cJ8_hugeLength_7cf53 37 = .ok (.ldc 210, 2) := by decide +kernel
theorem dJ8_hugeLength_7cf53_39 : decode cJ8_hugeLength_7cf53 39 = .ok (.invokevirtual 94, 3) := by decide +kernel
theorem dJ8_hugeLength_7cf53_42 : decode cJ8_hugeLength_7cf53 42 = .ok (.invokevirtual 101, 3) := by decide +kernel
theorem dJ8_hugeLength_7cf53_45 : decode cJ8_hugeLength_7cf53 45 = .ok (.invokespecial 212, 3) := by decide +kernel
theorem dJ8_hugeLength_7cf53_48 : decode cJ8_hugeLength_7cf53 48 = .ok (.athrow, 1) := by decide +kernel
theorem dJ8_hugeLength_7cf53_49 : decode cJ8_hugeLength_7cf53 49 = .ok (.iload_n 2, 1) := by decide +kernel
theorem dJ8_hugeLength_7cf53_50 : decode cJ8_hugeLength_7cf53 50 = .ok (.ldc 200, 2) := by decide +kernel
theorem dJ8_hugeLength_7cf53_52 : decode cJ8_hugeLength_7cf53 52 = .ok (.if_icmp .gt 6, 3) := by decide +kernel
theorem dJ8_hugeLength_7cf53_55 : decode cJ8_hugeLength_7cf53 55 = .ok (.ldc 200, 2) := by decide +kernel
theorem dJ8_hugeLength_7cf53_57 : decode cJ8_hugeLength_7cf53 57 = .ok (.ireturn, 1) := by decide +kernel
theorem dJ8_hugeLength_7cf53_58 : decode cJ8_hugeLength_7cf53 58 = .ok (.iload_n 2, 1) := by decide +kernel
theorem dJ8_hugeLength_7cf53_59 : decode cJ8_hugeLength_7cf53 59 = .ok (.ireturn, 1) := by decide +kernel
theorem dJ3_checkIndex_8e157_0 : decode cJ3_checkIndex_8e157 0 = .ok (.iload_n 0, 1) := by decide +kernel
theorem dJ3_checkIndex_8e157_1 : decode cJ3_checkIndex_8e157 1 = .ok (.ifCond .lt 8, 3) := by decide +kernel
theorem dJ3_checkIndex_8e157_4 : decode cJ3_checkIndex_8e157 4 = .ok (.iload_n 0, 1) := by decide +kernel
theorem dJ3_checkIndex_8e157_5 : decode cJ3_checkIndex_8e157 5 = .ok (.iload_n 1, 1) := by decide +kernel
theorem dJ3_checkIndex_8e157_6 : decode cJ3_checkIndex_8e157 6 = .ok (.if_icmp .lt 10, 3) := by decide +kernel
theorem dJ3_checkIndex_8e157_9 : decode cJ3_checkIndex_8e157 9 = .ok (.aload_n 2, 1) := by decide +kernel
theorem dJ3_checkIndex_8e157_10 : decode cJ3_checkIndex_8e157 10 = .ok (.iload_n 0, 1) := by decide +kernel
theorem dJ3_checkIndex_8e157_11 : decode cJ3_checkIndex_8e157 11 = .ok (.iload_n 1, 1) := by decide +kernel
theorem dJ3_checkIndex_8e157_12 : decode cJ3_checkIndex_8e157 12 = .ok (.invokestatic 95, 3) := by decide +kernel
theorem dJ3_checkIndex_8e157_15 : decode cJ3_checkIndex_8e157 15 = .ok (.athrow, 1) := by decide +kernel
theorem dJ3_checkIndex_8e157_16 : decode cJ3_checkIndex_8e157 16 = .ok (.iload_n 0, 1) := by decide +kernel
theorem dJ3_checkIndex_8e157_17 : decode cJ3_checkIndex_8e157 17 = .ok (.ireturn, 1) := by decide +kernel
set_option maxRecDepth 20000 in
theorem ggL_addMachine_X2_addMachine : GoodIn wsL_addMachine wsX2_addMachine := goodIn_ca (goodIn_ca (goodIn_r _ [7, 8, 9, 10, 11, 12, 13, 14, 15, 16, 17, 6, 18, 19, 20, 21, 22, 23, 24, 25, 26, 27, 28, 29, 30, 31, 32, 33, 34, 35, 36, 37, 38, 39, 40, 41, 42, 43, 44, 45, 46, 47, 48, 49, 50, 51, 52, 53, 54, 55, 56, 57, 58, 59, 60, 61, 62, 63, 64, 65, 66, 67, 68, 69, 70, 71, 72, 73, 74, 75, 76, 77, 78, 79, 80, 81, 82, 83, 84, 85, 86, 87, 88, 89, 90, 91, 92, 93, 94, 95, 96, 97, 98, 99, 100, 101, 102, 103, 104, 105, 106, 107, 108, 109, 110, 111, 112, 113] (by decide +kernel) (by decide +kernel)) (goodIn_sub (fun _ h => List.mem_cons_of_mem _ (List.mem_append_left _ (List.mem_append_right _ h))) (by decide +kernel))) (goodIn_sub (fun _ h => List.mem_cons_of_mem _ (List.mem_append_right _ h)) (by decide +kernel))
set_option maxRecDepth 20000 in
theorem gL_addMachine_X2_addMachine : GoodIn wsL_addMachine (wsV RL 7 RX2 yX2_addMachine wsX2_addMachine) := goodIn_app (goodIn_of _ (by decide +kernel)) ggL_addMachine_X2_addMachine
theorem dL_addMachine_0 : decode cL_addMachine 0 = .ok (.aload 4, 2) := by decide +kernel
theorem dL_addMachine_2 : decode cL_addMachine 2 = .ok (.iconst 0, 1) := by decide +kernel
theorem dL_addMachine_3 : decode cL_addMachine 3 = .ok (.aload_n 0, 1) := by decide +kernel
theorem dL_addMachine_4 : decode cL_addMachine 4 = .ok (.iload_n 1, 1) := by decide +kernel
theorem dL_addMachine_5 : decode cL_addMachine 5 = .ok (.iload_n 2, 1) := by decide +kernel
theorem dL_addMachine_6 : decode cL_addMachine 6 = .ok (.iload_n 3, 1) := by decide +kernel
theorem dL_addMachine_7 : decode cL_addMachine 7 = .ok (.invokevirtual 7, 3) := by decide +kernel
theorem dL_addMachine_10 : decode cL_addMachine 10 = .ok (.i2l, 1) := by decide +kernel
theorem dL_addMachine_11 : decode cL_addMachine 11 = .ok (.lastore, 1) := by decide +kernel
theorem dL_addMachine_12 : decode cL_addMachine 12 = .ok (.goto 11, 3) := by decide +kernel
theorem dL_addMachine_15 : decode cL_addMachine 15 = .ok (.astore 5, 2) := by decide +kernel
theorem dL_addMachine_17 : decode cL_addMachine 17 = .ok (.iconst 1, 1) := by decide +kernel
theorem dL_addMachine_18 : decode cL_addMachine 18 = .ok (.ireturn, 1) := by decide +kernel
theorem dL_addMachine_19 : decode cL_addMachine 19 = .ok (.astore 5, 2) := by decide +kernel
theorem dL_addMachine_21 : decode cL_addMachine 21 = .ok (.iconst 2, 1) := by decide +kernel
theorem dL_addMachine_22 : decode cL_addMachine 22 = .ok (.ireturn, 1) := by decide +kernel
theorem dL_addMachine_23 : decode cL_addMachine 23 = .ok (.iconst 0, 1) := by decide +kernel
theorem dL_addMachine_24 : decode cL_addMachine 24 = .ok (.ireturn, 1) := by decide +kernel
set_option maxRecDepth 20000 in
theorem ggL_setLimits_X2_setLimits : GoodIn wsL_setLimits wsX2_setLimits := goodIn_ca (goodIn_ca (goodIn_r _ [6, 7, 8, 9, 10, 11, 12, 5, 13, 14, 15, 16, 17, 18, 19, 20, 21, 22, 23, 24, 25, 26, 27] (by decide +kernel) (by decide +kernel)) (goodIn_sub (fun _ h => List.mem_cons_of_mem _ (List.mem_append_right _ h)) (by decide +kernel))) (goodIn_sub (fun _ h => List.mem_cons_of_mem _ (List.mem_append_left _ (List.mem_append_right _ h))) (by decide +kernel))
set_option maxRecDepth 20000 in
theorem gL_setLimits_X2_setLimits : GoodIn wsL_setLimits (wsV RL 17 RX2 yX2_setLimits wsX2_setLimits) := goodIn_app (goodIn_of _ (by decide +kernel)) ggL_setLimits_X2_setLimits
theorem dL_setLimits_0 : decode cL_setLimits 0 = .ok (.aload 4, 2) := by decide +kernel
theorem dL_setLimits_2 : decode cL_setLimits 2 = .ok (.iconst 0, 1) := by decide +kernel
theorem dL_setLimits_3 : decode cL_setLimits 3 = .ok (.aload_n 0, 1) := by decide +kernel
theorem dL_setLimits_4 : decode cL_setLimits 4 = .ok (.iload_n 1, 1) := by decide +kernel
theorem dL_setLimits_5 : decode cL_setLimits 5 = .ok (.iload_n 2, 1) := by decide +kernel
theorem dL_setLimits_6 : decode cL_setLimits 6 = .ok (.iload_n 3, 1) := by decide +kernel
theorem dL_setLimits_7 : decode cL_setLimits 7 = .ok (.invokevirtual 17, 3) := by decide +kernel
theorem dL_setLimits_10 : decode cL_setLimits 10 = .ok (.i2l, 1) := by decide +kernel
theorem dL_setLimits_11 : decode cL_setLimits 11 = .ok (.lastore, 1) := by decide +kernel
theorem dL_setLimits_12 : decode cL_setLimits 12 = .ok (.goto 7, 3) := by decide +kernel
theorem dL_setLimits_15 : decode cL_setLimits 15 = .ok (.astore 5, 2) := by decide +kernel
theorem dL_setLimits_17 : decode cL_setLimits 17 = .ok (.iconst 1, 1) := by decide +kernel
theorem dL_setLimits_18 : decode cL_setLimits 18 = .ok (.ireturn, 1) := by decide +kernel
theorem dL_setLimits_19 : decode cL_setLimits 19 = .ok (.iconst 0, 1) := by decide +kernel
theorem dL_setLimits_20 : decode cL_setLimits 20 = .ok (.ireturn, 1) := by decide +kernel
set_option maxRecDepth 20000 in
theorem ggL_drain_X2_drain : GoodIn wsL_drain wsX2_drain := goodIn_ca (goodIn_ca (goodIn_r _ [7, 8, 9, 10, 11, 12, 13, 14, 6, 15, 16, 17, 18, 19, 20, 21, 22, 23, 24, 25, 26, 27, 28, 29, 30, 31, 32, 33, 34, 35, 36, 37, 38, 39, 40, 41, 42, 43, 44, 45, 46, 47, 48, 49, 50, 51, 52, 53, 54, 55, 56, 57, 58, 59, 60, 61, 62, 63, 64, 65, 66, 67, 68, 69, 70, 71, 72] (by decide +kernel) (by decide +kernel)) (goodIn_sub (fun _ h => List.mem_cons_of_mem _ (List.mem_append_left _ (List.mem_append_right _ h))) (by decide +kernel))) (goodIn_sub (fun _ h => List.mem_cons_of_mem _ (List.mem_append_right _ h)) (by decide +kernel))
set_option maxRecDepth 20000 in
theorem gL_drain_X2_drain : GoodIn wsL_drain (wsV RL 20 RX2 yX2_drain wsX2_drain) := goodIn_app (goodIn_of _ (by decide +kernel)) ggL_drain_X2_drain
theorem dL_drain_0 : decode cL_drain 0 = .ok (.aload_n 2, 1) := by decide +kernel
theorem dL_drain_1 : decode cL_drain 1 = .ok (.iconst 0, 1) := by decide +kernel
theorem dL_drain_2 : decode cL_drain 2 = .ok (.aload_n 0, 1) := by decide +kernel
theorem dL_drain_3 : decode cL_drain 3 = .ok (.iload_n 1, 1) := by decide +kernel
theorem dL_drain_4 : decode cL_drain 4 = .ok (.invokevirtual 20, 3) := by decide +kernel
theorem dL_drain_7 : decode cL_drain 7 = .ok (.i2l, 1) := by decide +kernel
theorem dL_drain_8 : decode cL_drain 8 = .ok (.lastore, 1) := by decide +kernel
theorem dL_drain_9 : decode cL_drain 9 = .ok (.goto 9, 3) := by decide +kernel
theorem dL_drain_12 : decode cL_drain 12 = .ok (.astore_n 3, 1) := by decide +kernel
theorem dL_drain_13 : decode cL_drain 13 = .ok (.iconst 1, 1) := by decide +kernel
theorem dL_drain_14 : decode cL_drain 14 = .ok (.ireturn, 1) := by decide +kernel
theorem dL_drain_15 : decode cL_drain 15 = .ok (.astore_n 3, 1) := by decide +kernel
theorem dL_drain_16 : decode cL_drain 16 = .ok (.iconst 2, 1) := by decide +kernel
theorem dL_drain_17 : decode cL_drain 17 = .ok (.ireturn, 1) := by decide +kernel
theorem dL_drain_18 : decode cL_drain 18 = .ok (.iconst 0, 1) := by decide +kernel
theorem dL_drain_19 : decode cL_drain 19 = .ok (.ireturn, 1) := by decide +kernel
set_option maxRecDepth 20000 in
theorem ggL_putUp_X2_putUp : GoodIn wsL_putUp wsX2_putUp := goodIn_ca (goodIn_ca (goodIn_r _ [7, 8, 9, 10, 11, 12, 13, 6, 14, 15, 16, 17, 18, 19, 20, 21, 22, 23, 24, 25, 26, 27, 28, 29, 30, 31, 32, 33, 34, 35, 36, 37, 38, 39, 40, 41, 42, 43, 44, 45, 46, 47, 48, 49, 50, 51, 52, 53, 54, 55, 56, 57, 58, 59, 60, 61, 62, 63, 64, 65, 66, 67, 68, 69, 70, 71] (by decide +kernel) (by decide +kernel)) (goodIn_sub (fun _ h => List.mem_cons_of_mem _ (List.mem_append_left _ (List.mem_append_right _ h))) (by decide +kernel))) (goodIn_sub (fun _ h => List.mem_cons_of_mem _ (List.mem_append_right _ h)) (by decide +kernel))
set_option maxRecDepth 20000 in
theorem gL_putUp_X2_putUp : GoodIn wsL_putUp (wsV RL 26 RX2 yX2_putUp wsX2_putUp) := goodIn_app (goodIn_of _ (by decide +kernel)) ggL_putUp_X2_putUp
theorem dL_putUp_0 : decode cL_putUp 0 = .ok (.aload_n 2, 1) := by decide +kernel
theorem dL_putUp_1 : decode cL_putUp 1 = .ok (.iconst 0, 1) := by decide +kernel
theorem dL_putUp_2 : decode cL_putUp 2 = .ok (.aload_n 0, 1) := by decide +kernel
theorem dL_putUp_3 : decode cL_putUp 3 = .ok (.iload_n 1, 1) := by decide +kernel
theorem dL_putUp_4 : decode cL_putUp 4 = .ok (.invokevirtual 26, 3) := by decide +kernel
theorem dL_putUp_7 : decode cL_putUp 7 = .ok (.i2l, 1) := by decide +kernel
theorem dL_putUp_8 : decode cL_putUp 8 = .ok (.lastore, 1) := by decide +kernel
theorem dL_putUp_9 : decode cL_putUp 9 = .ok (.goto 9, 3) := by decide +kernel
theorem dL_putUp_12 : decode cL_putUp 12 = .ok (.astore_n 3, 1) := by decide +kernel
theorem dL_putUp_13 : decode cL_putUp 13 = .ok (.iconst 1, 1) := by decide +kernel
theorem dL_putUp_14 : decode cL_putUp 14 = .ok (.ireturn, 1) := by decide +kernel
theorem dL_putUp_15 : decode cL_putUp 15 = .ok (.astore_n 3, 1) := by decide +kernel
theorem dL_putUp_16 : decode cL_putUp 16 = .ok (.iconst 2, 1) := by decide +kernel
theorem dL_putUp_17 : decode cL_putUp 17 = .ok (.ireturn, 1) := by decide +kernel
theorem dL_putUp_18 : decode cL_putUp 18 = .ok (.iconst 0, 1) := by decide +kernel
theorem dL_putUp_19 : decode cL_putUp 19 = .ok (.ireturn, 1) := by decide +kernel
set_option maxRecDepth 20000 in
theorem ggL_machine_X2_machine : GoodIn wsL_machine wsX2_machine := goodIn_ca (goodIn_r _ [6, 7, 8, 9, 10, 5, 11, 12, 13, 14, 15, 16, 17, 18, 19, 20, 21, 22, 23, 24, 25, 26, 27, 28, 29, 30, 31, 32, 33, 34, 35, 36, 37, 38, 39, 40, 41, 42, 43, 44, 45, 46, 47, 48, 49, 50, 51, 52, 53, 54, 55, 56, 57, 58, 59, 60, 61] (by decide +kernel) (by decide +kernel)) (goodIn_sub (fun _ h => List.mem_cons_of_mem _ (List.mem_append_right _ h)) (by decide +kernel))
set_option maxRecDepth 20000 in
theorem gL_machine_X2_machine : GoodIn wsL_machine (wsV RL 29 RX2 yX2_machine wsX2_machine) := goodIn_app (goodIn_of _ (by decide +kernel)) ggL_machine_X2_machine
theorem dL_machine_0 : decode cL_machine 0 = .ok (.aload_n 2, 1) := by decide +kernel
theorem dL_machine_1 : decode cL_machine 1 = .ok (.iconst 0, 1) := by decide +kernel
theorem dL_machine_2 : decode cL_machine 2 = .ok (.aload_n 0, 1) := by decide +kernel
theorem dL_machine_3 : decode cL_machine 3 = .ok (.iload_n 1, 1) := by decide +kernel
theorem dL_machine_4 : decode cL_machine 4 = .ok (.invokevirtual 29, 3) := by decide +kernel
theorem dL_machine_7 : decode cL_machine 7 = .ok (.i2l, 1) := by decide +kernel
theorem dL_machine_8 : decode cL_machine 8 = .ok (.lastore, 1) := by decide +kernel
theorem dL_machine_9 : decode cL_machine 9 = .ok (.goto 6, 3) := by decide +kernel
theorem dL_machine_12 : decode cL_machine 12 = .ok (.astore_n 3, 1) := by decide +kernel
theorem dL_machine_13 : decode cL_machine 13 = .ok (.iconst 1, 1) := by decide +kernel
theorem dL_machine_14 : decode cL_machine 14 = .ok (.ireturn, 1) := by decide +kernel
theorem dL_machine_15 : decode cL_machine 15 = .ok (.iconst 0, 1) := by decide +kernel
theorem dL_machine_16 : decode cL_machine 16 = .ok (.ireturn, 1) := by decide +kernel
set_option maxRecDepth 20000 in
theorem ggL_next_X2_next : GoodIn wsL_next wsX2_next := goodIn_ca (goodIn_ca (goodIn_r _ [7, 8, 9, 10, 6, 11, 12, 13, 14, 15, 16, 17, 18, 19, 20, 21, 22, 23, 24, 25, 26, 27, 28, 29, 30, 31, 32, 33, 34, 35, 36, 37, 38, 39, 40, 41, 42, 43, 44, 45, 46, 47, 48, 49, 50, 51, 52, 53, 54, 55, 56, 57, 58, 59, 60, 61, 62, 63, 64, 65, 66, 67, 68, 69, 70, 71, 72, 73, 74, 75, 76, 77, 78, 79, 80, 81] (by decide +kernel) (by decide +kernel)) (goodIn_sub (fun _ h => List.mem_cons_of_mem _ (List.mem_append_left _ (List.mem_append_right _ h))) (by decide +kernel))) (goodIn_sub (fun _ h => List.mem_cons_of_mem _ (List.mem_append_right _ h)) (by decide +kernel))
set_option maxRecDepth 20000 in
theorem gL_next_X2_next : GoodIn wsL_next (wsV RL 33 RX2 yX2_next wsX2_next) := goodIn_app (goodIn_of _ (by decide +kernel)) ggL_next_X2_next
theorem dL_next_0 : decode cL_next 0 = .ok (.aload_n 2, 1) := by decide +kernel
theorem dL_next_1 : decode cL_next 1 = .ok (.iconst 0, 1) := by decide +kernel
theorem dL_next_2 : decode cL_next 2 = .ok (.aload_n 0, 1) := by decide +kernel
theorem dL_next_3 : decode cL_next 3 = .ok (.iload_n 1, 1) := by decide +kernel
theorem dL_next_4 : decode cL_next 4 = .ok (.invokevirtual 33, 3) := by decide +kernel
theorem dL_next_7 : decode cL_next 7 = .ok (.i2l, 1) := by decide +kernel
theorem dL_next_8 : decode cL_next 8 = .ok (.lastore, 1) := by decide +kernel
theorem dL_next_9 : decode cL_next 9 = .ok (.goto 9, 3) := by decide +kernel
theorem dL_next_12 : decode cL_next 12 = .ok (.astore_n 3, 1) := by decide +kernel
theorem dL_next_13 : decode cL_next 13 = .ok (.iconst 1, 1) := by decide +kernel
theorem dL_next_14 : decode cL_next 14 = .ok (.ireturn, 1) := by decide +kernel
theorem dL_next_15 : decode cL_next 15 = .ok (.astore_n 3, 1) := by decide +kernel
theorem dL_next_16 : decode cL_next 16 = .ok (.iconst 2, 1) := by decide +kernel
theorem dL_next_17 : decode cL_next 17 = .ok (.ireturn, 1) := by decide +kernel
theorem dL_next_18 : decode cL_next 18 = .ok (.iconst 0, 1) := by decide +kernel
theorem dL_next_19 : decode cL_next 19 = .ok (.ireturn, 1) := by decide +kernel
set_option maxRecDepth 20000 in
theorem ggL_free_X2_free : GoodIn wsL_free wsX2_free := goodIn_ca (goodIn_r _ [6, 7, 8, 9, 10, 5, 11, 12, 13, 14, 15, 16, 17, 18, 19, 20, 21, 22, 23, 24, 25, 26, 27, 28, 29, 30, 31, 32, 33, 34, 35, 36, 37, 38, 39, 40, 41, 42, 43, 44, 45, 46, 47, 48, 49, 50, 51, 52, 53, 54, 55, 56, 57, 58, 59, 60, 61, 62, 63, 64, 65, 66, 67, 68, 69, 70, 71, 72] (by decide +kernel) (by decide +kernel)) (goodIn_sub (fun _ h => List.mem_cons_of_mem _ (List.mem_append_right _ h)) (by decide +kernel))
set_option maxRecDepth 20000 in
theorem gL_free_X2_free : GoodIn wsL_free (wsV RL 38 RX2 yX2_free wsX2_free) := goodIn_app (goodIn_of _ (by decide +kernel)) ggL_free_X2_free
theorem dL_free_0 : decode cL_free 0 = .ok (.aload_n 2, 1) := by decide +kernel
theorem dL_free_1 : decode cL_free 1 = .ok (.iconst 0, 1) := by decide +kernel
theorem dL_free_2 : decode cL_free 2 = .ok (.aload_n 0, 1) := by decide +kernel
theorem dL_free_3 : decode cL_free 3 = .ok (.iload_n 1, 1) := by decide +kernel
theorem dL_free_4 : decode cL_free 4 = .ok (.invokevirtual 38, 3) := by decide +kernel
theorem dL_free_7 : decode cL_free 7 = .ok (.i2l, 1) := by decide +kernel
theorem dL_free_8 : decode cL_free 8 = .ok (.lastore, 1) := by decide +kernel
theorem dL_free_9 : decode cL_free 9 = .ok (.goto 6, 3) := by decide +kernel
theorem dL_free_12 : decode cL_free 12 = .ok (.astore_n 3, 1) := by decide +kernel
theorem dL_free_13 : decode cL_free 13 = .ok (.iconst 1, 1) := by decide +kernel
theorem dL_free_14 : decode cL_free 14 = .ok (.ireturn, 1) := by decide +kernel
theorem dL_free_15 : decode cL_free 15 = .ok (.iconst 0, 1) := by decide +kernel
theorem dL_free_16 : decode cL_free 16 = .ok (.ireturn, 1) := by decide +kernel
set_option maxRecDepth 20000 in
theorem ggL_assign_X2_assign : GoodIn wsL_assign wsX2_assign := goodIn_ca (goodIn_ca (goodIn_r _ [6, 7, 8, 9, 5, 10, 11, 12, 13, 14, 15, 16, 17, 18, 19, 20, 21, 22, 23, 24, 25, 26, 27, 28, 29] (by decide +kernel) (by decide +kernel)) (goodIn_sub (fun _ h => List.mem_cons_of_mem _ (List.mem_append_left _ (List.mem_append_right _ h))) (by decide +kernel))) (goodIn_sub (fun _ h => List.mem_cons_of_mem _ (List.mem_append_right _ h)) (by decide +kernel))
set_option maxRecDepth 20000 in
theorem gL_assign_X2_assign : GoodIn wsL_assign (wsV RL 41 RX2 yX2_assign wsX2_assign) := goodIn_app (goodIn_of _ (by decide +kernel)) ggL_assign_X2_assign
theorem dL_assign_0 : decode cL_assign 0 = .ok (.aload_n 3, 1) := by decide +kernel
theorem dL_assign_1 : decode cL_assign 1 = .ok (.iconst 0, 1) := by decide +kernel
theorem dL_assign_2 : decode cL_assign 2 = .ok (.aload_n 0, 1) := by decide +kernel
theorem dL_assign_3 : decode cL_assign 3 = .ok (.iload_n 1, 1) := by decide +kernel
theorem dL_assign_4 : decode cL_assign 4 = .ok (.iload_n 2, 1) := by decide +kernel
theorem dL_assign_5 : decode cL_assign 5 = .ok (.invokevirtual 41, 3) := by decide +kernel
theorem dL_assign_8 : decode cL_assign 8 = .ok (.i2l, 1) := by decide +kernel
theorem dL_assign_9 : decode cL_assign 9 = .ok (.lastore, 1) := by decide +kernel
theorem dL_assign_10 : decode cL_assign 10 = .ok (.goto 7, 3) := by decide +kernel
theorem dL_assign_13 : decode cL_assign 13 = .ok (.astore 4, 2) := by decide +kernel
theorem dL_assign_15 : decode cL_assign 15 = .ok (.iconst 1, 1) := by decide +kernel
theorem dL_assign_16 : decode cL_assign 16 = .ok (.ireturn, 1) := by decide +kernel
theorem dL_assign_17 : decode cL_assign 17 = .ok (.iconst 0, 1) := by decide +kernel
theorem dL_assign_18 : decode cL_assign 18 = .ok (.ireturn, 1) := by decide +kernel
set_option maxRecDepth 20000 in
theorem ggL_buy_X2_buy : GoodIn wsL_buy wsX2_buy := goodIn_ca (goodIn_ca (goodIn_ca (goodIn_r _ [7, 8, 9, 10, 11, 12, 13, 14, 6, 15, 16, 17, 18, 19, 20, 21, 22, 23, 24, 25, 26, 27, 28, 29, 30, 31, 32, 33, 34] (by decide +kernel) (by decide +kernel)) (goodIn_sub (fun _ h => List.mem_cons_of_mem _ (List.mem_append_left _ (List.mem_append_left _ (List.mem_append_right _ h)))) (by decide +kernel))) (goodIn_sub (fun _ h => List.mem_cons_of_mem _ (List.mem_append_left _ (List.mem_append_right _ h))) (by decide +kernel))) (goodIn_sub (fun _ h => List.mem_cons_of_mem _ (List.mem_append_right _ h)) (by decide +kernel))
set_option maxRecDepth 20000 in
theorem gL_buy_X2_buy : GoodIn wsL_buy (wsV RL 45 RX2 yX2_buy wsX2_buy) := goodIn_app (goodIn_of _ (by decide +kernel)) ggL_buy_X2_buy
theorem dL_buy_0 : decode cL_buy 0 = .ok (.aload_n 3, 1) := by decide +kernel
theorem dL_buy_1 : decode cL_buy 1 = .ok (.iconst 0, 1) := by decide +kernel
theorem dL_buy_2 : decode cL_buy 2 = .ok (.aload_n 0, 1) := by decide +kernel
theorem dL_buy_3 : decode cL_buy 3 = .ok (.iload_n 1, 1) := by decide +kernel
theorem dL_buy_4 : decode cL_buy 4 = .ok (.iload_n 2, 1) := by decide +kernel
theorem dL_buy_5 : decode cL_buy 5 = .ok (.invokevirtual 45, 3) := by decide +kernel
theorem dL_buy_8 : decode cL_buy 8 = .ok (.i2l, 1) := by decide +kernel
theorem dL_buy_9 : decode cL_buy 9 = .ok (.lastore, 1) := by decide +kernel
theorem dL_buy_10 : decode cL_buy 10 = .ok (.goto 11, 3) := by decide +kernel
theorem dL_buy_13 : decode cL_buy 13 = .ok (.astore 4, 2) := by decide +kernel
theorem dL_buy_15 : decode cL_buy 15 = .ok (.iconst 1, 1) := by decide +kernel
theorem dL_buy_16 : decode cL_buy 16 = .ok (.ireturn, 1) := by decide +kernel
theorem dL_buy_17 : decode cL_buy 17 = .ok (.astore 4, 2) := by decide +kernel
theorem dL_buy_19 : decode cL_buy 19 = .ok (.iconst 2, 1) := by decide +kernel
theorem dL_buy_20 : decode cL_buy 20 = .ok (.ireturn, 1) := by decide +kernel
theorem dL_buy_21 : decode cL_buy 21 = .ok (.iconst 0, 1) := by decide +kernel
theorem dL_buy_22 : decode cL_buy 22 = .ok (.ireturn, 1) := by decide +kernel
set_option maxRecDepth 20000 in
theorem ggL_lend_X2_lend : GoodIn wsL_lend wsX2_lend := goodIn_ca (goodIn_ca (goodIn_ca (goodIn_r _ [7, 8, 9, 10, 6, 11, 12, 13, 14, 15, 16, 17, 18, 19, 20, 21, 22, 23, 24, 25, 26, 27, 28, 29, 30, 31, 32, 33, 34, 35, 36, 37, 38, 39, 40, 41, 42, 43, 44] (by decide +kernel) (by decide +kernel)) (goodIn_sub (fun _ h => List.mem_cons_of_mem _ (List.mem_append_left _ (List.mem_append_left _ (List.mem_append_right _ h)))) (by decide +kernel))) (goodIn_sub (fun _ h => List.mem_cons_of_mem _ (List.mem_append_left _ (List.mem_append_right _ h))) (by decide +kernel))) (goodIn_sub (fun _ h => List.mem_cons_of_mem _ (List.mem_append_right _ h)) (by decide +kernel))
set_option maxRecDepth 20000 in
theorem gL_lend_X2_lend : GoodIn wsL_lend (wsV RL 48 RX2 yX2_lend wsX2_lend) := goodIn_app (goodIn_of _ (by decide +kernel)) ggL_lend_X2_lend
theorem dL_lend_0 : decode cL_lend 0 = .ok (.aload 4, 2) := by decide +kernel
theorem dL_lend_2 : decode cL_lend 2 = .ok (.iconst 0, 1) := by decide +kernel
theorem dL_lend_3 : decode cL_lend 3 = .ok (.aload_n 0, 1) := by decide +kernel
theorem dL_lend_4 : decode cL_lend 4 = .ok (.iload_n 1, 1) := by decide +kernel
theorem dL_lend_5 : decode cL_lend 5 = .ok (.iload_n 2, 1) := by decide +kernel
theorem dL_lend_6 : decode cL_lend 6 = .ok (.iload_n 3, 1) := by decide +kernel
theorem dL_lend_7 : decode cL_lend 7 = .ok (.invokevirtual 48, 3) := by decide +kernel
theorem dL_lend_10 : decode cL_lend 10 = .ok (.i2l, 1) := by decide +kernel
theorem dL_lend_11 : decode cL_lend 11 = .ok (.lastore, 1) := by decide +kernel
theorem dL_lend_12 : decode cL_lend 12 = .ok (.goto 11, 3) := by decide +kernel
theorem dL_lend_15 : decode cL_lend 15 = .ok (.astore 5, 2) := by decide +kernel
theorem dL_lend_17 : decode cL_lend 17 = .ok (.iconst 1, 1) := by decide +kernel
theorem dL_lend_18 : decode cL_lend 18 = .ok (.ireturn, 1) := by decide +kernel
theorem dL_lend_19 : decode cL_lend 19 = .ok (.astore 5, 2) := by decide +kernel
theorem dL_lend_21 : decode cL_lend 21 = .ok (.iconst 2, 1) := by decide +kernel
theorem dL_lend_22 : decode cL_lend 22 = .ok (.ireturn, 1) := by decide +kernel
theorem dL_lend_23 : decode cL_lend 23 = .ok (.iconst 0, 1) := by decide +kernel
theorem dL_lend_24 : decode cL_lend 24 = .ok (.ireturn, 1) := by decide +kernel
set_option maxRecDepth 20000 in
theorem ggL_giveBack_X2_giveBack : GoodIn wsL_giveBack wsX2_giveBack := goodIn_ca (goodIn_ca (goodIn_ca (goodIn_ca (goodIn_r _ [8, 9, 10, 11, 12, 13, 7, 14, 15, 16, 17, 18, 19, 20, 21, 22, 23, 24, 25, 26, 27, 28, 29, 30, 31, 32, 33, 34, 35, 36, 37, 38, 39, 40, 41, 42, 43, 44, 45, 46, 47] (by decide +kernel) (by decide +kernel)) (goodIn_sub (fun _ h => List.mem_cons_of_mem _ (List.mem_append_left _ (List.mem_append_left _ (List.mem_append_left _ (List.mem_append_right _ h))))) (by decide +kernel))) (goodIn_sub (fun _ h => List.mem_cons_of_mem _ (List.mem_append_left _ (List.mem_append_left _ (List.mem_append_right _ h)))) (by decide +kernel))) (goodIn_sub (fun _ h => List.mem_cons_of_mem _ (List.mem_append_left _ (List.mem_append_right _ h))) (by decide +kernel))) (goodIn_sub (fun _ h => List.mem_cons_of_mem _ (List.mem_append_right _ h)) (by decide +kernel))
set_option maxRecDepth 20000 in
theorem gL_giveBack_X2_giveBack : GoodIn wsL_giveBack (wsV RL 53 RX2 yX2_giveBack wsX2_giveBack) := goodIn_app (goodIn_of _ (by decide +kernel)) ggL_giveBack_X2_giveBack
theorem dL_giveBack_0 : decode cL_giveBack 0 = .ok (.aload 4, 2) := by decide +kernel
theorem dL_giveBack_2 : decode cL_giveBack 2 = .ok (.iconst 0, 1) := by decide +kernel
theorem dL_giveBack_3 : decode cL_giveBack 3 = .ok (.aload_n 0, 1) := by decide +kernel
theorem dL_giveBack_4 : decode cL_giveBack 4 = .ok (.iload_n 1, 1) := by decide +kernel
theorem dL_giveBack_5 : decode cL_giveBack 5 = .ok (.iload_n 2, 1) := by decide +kernel
theorem dL_giveBack_6 : decode cL_giveBack 6 = .ok (.iload_n 3, 1) := by decide +kernel
theorem dL_giveBack_7 : decode cL_giveBack 7 = .ok (.invokevirtual 53, 3) := by decide +kernel
theorem dL_giveBack_10 : decode cL_giveBack 10 = .ok (.i2l, 1) := by decide +kernel
theorem dL_giveBack_11 : decode cL_giveBack 11 = .ok (.lastore, 1) := by decide +kernel
theorem dL_giveBack_12 : decode cL_giveBack 12 = .ok (.goto 15, 3) := by decide +kernel
theorem dL_giveBack_15 : decode cL_giveBack 15 = .ok (.astore 5, 2) := by decide +kernel
theorem dL_giveBack_17 : decode cL_giveBack 17 = .ok (.iconst 1, 1) := by decide +kernel
theorem dL_giveBack_18 : decode cL_giveBack 18 = .ok (.ireturn, 1) := by decide +kernel
theorem dL_giveBack_19 : decode cL_giveBack 19 = .ok (.astore 5, 2) := by decide +kernel
theorem dL_giveBack_21 : decode cL_giveBack 21 = .ok (.iconst 2, 1) := by decide +kernel
theorem dL_giveBack_22 : decode cL_giveBack 22 = .ok (.ireturn, 1) := by decide +kernel
theorem dL_giveBack_23 : decode cL_giveBack 23 = .ok (.astore 5, 2) := by decide +kernel
theorem dL_giveBack_25 : decode cL_giveBack 25 = .ok (.iconst 3, 1) := by decide +kernel
theorem dL_giveBack_26 : decode cL_giveBack 26 = .ok (.ireturn, 1) := by decide +kernel
theorem dL_giveBack_27 : decode cL_giveBack 27 = .ok (.iconst 0, 1) := by decide +kernel
theorem dL_giveBack_28 : decode cL_giveBack 28 = .ok (.ireturn, 1) := by decide +kernel
set_option maxRecDepth 20000 in
theorem ggL_minutes_X2_minutes : GoodIn wsL_minutes wsX2_minutes := goodIn_ca (goodIn_ca (goodIn_r _ [6, 7, 8, 9, 5, 10, 11, 12, 13, 14, 15, 16, 17, 18, 19, 20, 21, 22, 23, 24, 25, 26] (by decide +kernel) (by decide +kernel)) (goodIn_sub (fun _ h => List.mem_cons_of_mem _ (List.mem_append_left _ (List.mem_append_right _ h))) (by decide +kernel))) (goodIn_sub (fun _ h => List.mem_cons_of_mem _ (List.mem_append_right _ h)) (by decide +kernel))
set_option maxRecDepth 20000 in
theorem gL_minutes_X2_minutes : GoodIn wsL_minutes (wsV RL 56 RX2 yX2_minutes wsX2_minutes) := goodIn_app (goodIn_of _ (by decide +kernel)) ggL_minutes_X2_minutes
theorem dL_minutes_0 : decode cL_minutes 0 = .ok (.aload_n 2, 1) := by decide +kernel
theorem dL_minutes_1 : decode cL_minutes 1 = .ok (.iconst 0, 1) := by decide +kernel
theorem dL_minutes_2 : decode cL_minutes 2 = .ok (.aload_n 0, 1) := by decide +kernel
theorem dL_minutes_3 : decode cL_minutes 3 = .ok (.iload_n 1, 1) := by decide +kernel
theorem dL_minutes_4 : decode cL_minutes 4 = .ok (.invokevirtual 56, 3) := by decide +kernel
theorem dL_minutes_7 : decode cL_minutes 7 = .ok (.i2l, 1) := by decide +kernel
theorem dL_minutes_8 : decode cL_minutes 8 = .ok (.lastore, 1) := by decide +kernel
theorem dL_minutes_9 : decode cL_minutes 9 = .ok (.goto 6, 3) := by decide +kernel
theorem dL_minutes_12 : decode cL_minutes 12 = .ok (.astore_n 3, 1) := by decide +kernel
theorem dL_minutes_13 : decode cL_minutes 13 = .ok (.iconst 1, 1) := by decide +kernel
theorem dL_minutes_14 : decode cL_minutes 14 = .ok (.ireturn, 1) := by decide +kernel
theorem dL_minutes_15 : decode cL_minutes 15 = .ok (.iconst 0, 1) := by decide +kernel
theorem dL_minutes_16 : decode cL_minutes 16 = .ok (.ireturn, 1) := by decide +kernel
set_option maxRecDepth 20000 in
theorem ggL_minutesBySessions_X2_minutesBySessions : GoodIn wsL_minutesBySessions wsX2_minutesBySessions := goodIn_ca (goodIn_ca (goodIn_r _ [6, 7, 8, 9, 10, 11, 12, 13, 5, 14, 15, 16, 17, 18, 19, 20, 21, 22, 23, 24, 25, 26, 27, 28, 29, 30, 31, 32, 33, 34, 35, 36, 37, 38, 39, 40, 41, 42, 43, 44, 45, 46, 47, 48, 49, 50, 51, 52, 53, 54, 55, 56, 57, 58, 59, 60, 61, 62, 63] (by decide +kernel) (by decide +kernel)) (goodIn_sub (fun _ h => List.mem_cons_of_mem _ (List.mem_append_left _ (List.mem_append_right _ h))) (by decide +kernel))) (goodIn_sub (fun _ h => List.mem_cons_of_mem _ (List.mem_append_right _ h)) (by decide +kernel))
set_option maxRecDepth 20000 in
theorem gL_minutesBySessions_X2_minutesBySessions : GoodIn wsL_minutesBySessions (wsV RL 59 RX2 yX2_minutesBySessions wsX2_minutesBySessions) := goodIn_app (goodIn_of _ (by decide +kernel)) ggL_minutesBySessions_X2_minutesBySessions
theorem dL_minutesBySessions_0 : decode cL_minutesBySessions 0 = .ok (.aload_n 2, 1) := by decide +kernel
theorem dL_minutesBySessions_1 : decode cL_minutesBySessions 1 = .ok (.iconst 0, 1) := by decide +kernel
theorem dL_minutesBySessions_2 : decode cL_minutesBySessions 2 = .ok (.aload_n 0, 1) := by decide +kernel
theorem dL_minutesBySessions_3 : decode cL_minutesBySessions 3 = .ok (.iload_n 1, 1) := by decide +kernel
theorem dL_minutesBySessions_4 : decode cL_minutesBySessions 4 = .ok (.invokevirtual 59, 3) := by decide +kernel
theorem dL_minutesBySessions_7 : decode cL_minutesBySessions 7 = .ok (.i2l, 1) := by decide +kernel
theorem dL_minutesBySessions_8 : decode cL_minutesBySessions 8 = .ok (.lastore, 1) := by decide +kernel
theorem dL_minutesBySessions_9 : decode cL_minutesBySessions 9 = .ok (.goto 6, 3) := by decide +kernel
theorem dL_minutesBySessions_12 : decode cL_minutesBySessions 12 = .ok (.astore_n 3, 1) := by decide +kernel
theorem dL_minutesBySessions_13 : decode cL_minutesBySessions 13 = .ok (.iconst 1, 1) := by decide +kernel
theorem dL_minutesBySessions_14 : decode cL_minutesBySessions 14 = .ok (.ireturn, 1) := by decide +kernel
theorem dL_minutesBySessions_15 : decode cL_minutesBySessions 15 = .ok (.iconst 0, 1) := by decide +kernel
theorem dL_minutesBySessions_16 : decode cL_minutesBySessions 16 = .ok (.ireturn, 1) := by decide +kernel
set_option maxRecDepth 20000 in
theorem ggL_logIn_X2_logIn : GoodIn wsL_logIn wsX2_logIn := goodIn_ca (goodIn_ca (goodIn_ca (goodIn_ca (goodIn_ca (goodIn_r _ [9, 10, 11, 12, 13, 14, 15, 16, 17, 18, 19, 20, 8, 21, 22, 23, 24, 25, 26, 27, 28, 29, 30, 31, 32, 33, 34, 35, 36, 37, 38, 39, 40, 41, 42, 43, 44, 45, 46, 47, 48, 49, 50, 51, 52, 53, 54, 55, 56, 57, 58, 59, 60, 61, 62, 63, 64, 65, 66, 67, 68, 69, 70, 71, 72, 73, 74, 75, 76, 77, 78, 79, 80, 81, 82, 83, 84, 85, 86, 87, 88, 89, 90, 91, 92, 93, 94, 95, 96, 97, 98, 99, 100, 101, 102, 103, 104, 105, 106, 107, 108, 109, 110, 111, 112, 113, 114, 115, 116, 117, 118, 119, 120, 121, 122, 123, 124, 125, 126, 127, 128, 129, 130, 131, 132, 133, 134, 135, 136, 137, 138, 139, 140, 141, 142, 143, 144, 145, 146, 147, 148, 149, 150, 151, 152, 153, 154, 155, 156, 157, 158, 159, 160, 161, 162, 163, 164, 165, 166, 167, 168, 169, 170, 171, 172, 173, 174, 175, 176, 177, 178, 179, 180, 181, 182, 183, 184] (by decide +kernel) (by decide +kernel)) (goodIn_sub (fun _ h => List.mem_cons_of_mem _ (List.mem_append_left _ (List.mem_append_left _ (List.mem_append_left _ (List.mem_append_right _ h))))) (by decide +kernel))) (goodIn_sub (fun _ h => List.mem_cons_of_mem _ (List.mem_append_left _ (List.mem_append_left _ (List.mem_append_left _ (List.mem_append_left _ (List.mem_append_right _ h)))))) (by decide +kernel))) (goodIn_sub (fun _ h => List.mem_cons_of_mem _ (List.mem_append_left _ (List.mem_append_left _ (List.mem_append_right _ h)))) (by decide +kernel))) (goodIn_sub (fun _ h => List.mem_cons_of_mem _ (List.mem_append_left _ (List.mem_append_right _ h))) (by decide +kernel))) (goodIn_sub (fun _ h => List.mem_cons_of_mem _ (List.mem_append_right _ h)) (by decide +kernel))
set_option maxRecDepth 20000 in
theorem gL_logIn_X2_logIn : GoodIn wsL_logIn (wsV RL 62 RX2 yX2_logIn wsX2_logIn) := goodIn_app (goodIn_of _ (by decide +kernel)) ggL_logIn_X2_logIn
theorem dL_logIn_0 : decode cL_logIn 0 = .ok (.aload_n 3, 1) := by decide +kernel
theorem dL_logIn_1 : decode cL_logIn 1 = .ok (.iconst 0, 1) := by decide +kernel
theorem dL_logIn_2 : decode cL_logIn 2 = .ok (.aload_n 0, 1) := by decide +kernel
theorem dL_logIn_3 : decode cL_logIn 3 = .ok (.iload_n 1, 1) := by decide +kernel
theorem dL_logIn_4 : decode cL_logIn 4 = .ok (.iload_n 2, 1) := by decide +kernel
theorem dL_logIn_5 : decode cL_logIn 5 = .ok (.invokevirtual 62, 3) := by decide +kernel
theorem dL_logIn_8 : decode cL_logIn 8 = .ok (.i2l, 1) := by decide +kernel
theorem dL_logIn_9 : decode cL_logIn 9 = .ok (.lastore, 1) := by decide +kernel
theorem dL_logIn_10 : decode cL_logIn 10 = .ok (.goto 19, 3) := by decide +kernel
theorem dL_logIn_13 : decode cL_logIn 13 = .ok (.astore 4, 2) := by decide +kernel
theorem dL_logIn_15 : decode cL_logIn 15 = .ok (.iconst 1, 1) := by decide +kernel
theorem dL_logIn_16 : decode cL_logIn 16 = .ok (.ireturn, 1) := by decide +kernel
theorem dL_logIn_17 : decode cL_logIn 17 = .ok (.astore 4, 2) := by decide +kernel
theorem dL_logIn_19 : decode cL_logIn 19 = .ok (.iconst 2, 1) := by decide +kernel
theorem dL_logIn_20 : decode cL_logIn 20 = .ok (.ireturn, 1) := by decide +kernel
theorem dL_logIn_21 : decode cL_logIn 21 = .ok (.astore 4, 2) := by decide +kernel
theorem dL_logIn_23 : decode cL_logIn 23 = .ok (.iconst 3, 1) := by decide +kernel
theorem dL_logIn_24 : decode cL_logIn 24 = .ok (.ireturn, 1) := by decide +kernel
theorem dL_logIn_25 : decode cL_logIn 25 = .ok (.astore 4, 2) := by decide +kernel
theorem dL_logIn_27 : decode cL_logIn 27 = .ok (.iconst 4, 1) := by decide +kernel
theorem dL_logIn_28 : decode cL_logIn 28 = .ok (.ireturn, 1) := by decide +kernel
theorem dL_logIn_29 : decode cL_logIn 29 = .ok (.iconst 0, 1) := by decide +kernel
theorem dL_logIn_30 : decode cL_logIn 30 = .ok (.ireturn, 1) := by decide +kernel
set_option maxRecDepth 20000 in
theorem ggL_logOut_X2_logOut : GoodIn wsL_logOut wsX2_logOut := goodIn_ca (goodIn_ca (goodIn_ca (goodIn_r _ [7, 8, 9, 10, 6, 11, 12, 13, 14, 15, 16, 17, 18, 19, 20, 21, 22, 23, 24, 25, 26, 27, 28, 29, 30, 31, 32, 33, 34, 35, 36, 37, 38, 39, 40, 41, 42, 43, 44, 45, 46, 47, 48, 49, 50, 51, 52, 53, 54, 55, 56, 57, 58, 59, 60, 61, 62, 63, 64, 65, 66, 67, 68, 69, 70, 71, 72, 73, 74, 75, 76, 77, 78, 79, 80, 81, 82, 83, 84, 85, 86, 87, 88, 89, 90, 91, 92, 93, 94, 95, 96, 97, 98, 99, 100, 101, 102] (by decide +kernel) (by decide +kernel)) (goodIn_sub (fun _ h => List.mem_cons_of_mem _ (List.mem_append_left _ (List.mem_append_right _ h))) (by decide +kernel))) (goodIn_sub (fun _ h => List.mem_cons_of_mem _ (List.mem_append_right _ h)) (by decide +kernel))) (goodIn_sub (fun _ h => List.mem_cons_of_mem _ (List.mem_append_left _ (List.mem_append_left _ (List.mem_append_right _ h)))) (by decide +kernel))
set_option maxRecDepth 20000 in
theorem gL_logOut_X2_logOut : GoodIn wsL_logOut (wsV RL 65 RX2 yX2_logOut wsX2_logOut) := goodIn_app (goodIn_of _ (by decide +kernel)) ggL_logOut_X2_logOut
theorem dL_logOut_0 : decode cL_logOut 0 = .ok (.aload_n 2, 1) := by decide +kernel
theorem dL_logOut_1 : decode cL_logOut 1 = .ok (.iconst 0, 1) := by decide +kernel
theorem dL_logOut_2 : decode cL_logOut 2 = .ok (.aload_n 0, 1) := by decide +kernel
theorem dL_logOut_3 : decode cL_logOut 3 = .ok (.iload_n 1, 1) := by decide +kernel
theorem dL_logOut_4 : decode cL_logOut 4 = .ok (.invokevirtual 65, 3) := by decide +kernel
theorem dL_logOut_7 : decode cL_logOut 7 = .ok (.i2l, 1) := by decide +kernel
theorem dL_logOut_8 : decode cL_logOut 8 = .ok (.lastore, 1) := by decide +kernel
theorem dL_logOut_9 : decode cL_logOut 9 = .ok (.goto 9, 3) := by decide +kernel
theorem dL_logOut_12 : decode cL_logOut 12 = .ok (.astore_n 3, 1) := by decide +kernel
theorem dL_logOut_13 : decode cL_logOut 13 = .ok (.iconst 1, 1) := by decide +kernel
theorem dL_logOut_14 : decode cL_logOut 14 = .ok (.ireturn, 1) := by decide +kernel
theorem dL_logOut_15 : decode cL_logOut 15 = .ok (.astore_n 3, 1) := by decide +kernel
theorem dL_logOut_16 : decode cL_logOut 16 = .ok (.iconst 2, 1) := by decide +kernel
theorem dL_logOut_17 : decode cL_logOut 17 = .ok (.ireturn, 1) := by decide +kernel
theorem dL_logOut_18 : decode cL_logOut 18 = .ok (.iconst 0, 1) := by decide +kernel
theorem dL_logOut_19 : decode cL_logOut 19 = .ok (.ireturn, 1) := by decide +kernel
set_option maxRecDepth 20000 in
theorem ggL_use_X2_use : GoodIn wsL_use wsX2_use := goodIn_ca (goodIn_ca (goodIn_r _ [7, 8, 9, 10, 11, 12, 6, 13, 14, 15, 16, 17, 18, 19, 20, 21, 22, 23, 24, 25, 26, 27, 28, 29, 30, 31, 32, 33, 34, 35, 36, 37, 38, 39, 40, 41, 42, 43, 44, 45, 46, 47, 48, 49, 50, 51, 52, 53, 54, 55, 56, 57, 58, 59, 60, 61, 62, 63, 64, 65, 66, 67, 68, 69, 70, 71, 72, 73, 74, 75, 76, 77, 78, 79] (by decide +kernel) (by decide +kernel)) (goodIn_sub (fun _ h => List.mem_cons_of_mem _ (List.mem_append_left _ (List.mem_append_right _ h))) (by decide +kernel))) (goodIn_sub (fun _ h => List.mem_cons_of_mem _ (List.mem_append_right _ h)) (by decide +kernel))
set_option maxRecDepth 20000 in
theorem gL_use_X2_use : GoodIn wsL_use (wsV RL 68 RX2 yX2_use wsX2_use) := goodIn_app (goodIn_of _ (by decide +kernel)) ggL_use_X2_use
theorem dL_use_0 : decode cL_use 0 = .ok (.aload_n 2, 1) := by decide +kernel
theorem dL_use_1 : decode cL_use 1 = .ok (.iconst 0, 1) := by decide +kernel
theorem dL_use_2 : decode cL_use 2 = .ok (.aload_n 0, 1) := by decide +kernel
theorem dL_use_3 : decode cL_use 3 = .ok (.iload_n 1, 1) := by decide +kernel
theorem dL_use_4 : decode cL_use 4 = .ok (.invokevirtual 68, 3) := by decide +kernel
theorem dL_use_7 : decode cL_use 7 = .ok (.i2l, 1) := by decide +kernel
theorem dL_use_8 : decode cL_use 8 = .ok (.lastore, 1) := by decide +kernel
theorem dL_use_9 : decode cL_use 9 = .ok (.goto 9, 3) := by decide +kernel
theorem dL_use_12 : decode cL_use 12 = .ok (.astore_n 3, 1) := by decide +kernel
theorem dL_use_13 : decode cL_use 13 = .ok (.iconst 1, 1) := by decide +kernel
theorem dL_use_14 : decode cL_use 14 = .ok (.ireturn, 1) := by decide +kernel
theorem dL_use_15 : decode cL_use 15 = .ok (.astore_n 3, 1) := by decide +kernel
theorem dL_use_16 : decode cL_use 16 = .ok (.iconst 2, 1) := by decide +kernel
theorem dL_use_17 : decode cL_use 17 = .ok (.ireturn, 1) := by decide +kernel
theorem dL_use_18 : decode cL_use 18 = .ok (.iconst 0, 1) := by decide +kernel
theorem dL_use_19 : decode cL_use 19 = .ok (.ireturn, 1) := by decide +kernel
set_option maxRecDepth 20000 in
theorem ggL_takeOver_X2_takeOver : GoodIn wsL_takeOver wsX2_takeOver := goodIn_ca (goodIn_ca (goodIn_ca (goodIn_ca (goodIn_ca (goodIn_r _ [9, 10, 11, 12, 13, 14, 15, 16, 8, 17, 18, 19, 20, 21, 22, 23, 24, 25, 26, 27, 28, 29, 30, 31, 32, 33, 34, 35, 36, 37, 38, 39, 40, 41, 42, 43, 44, 45, 46, 47, 48, 49, 50, 51, 52, 53, 54, 55, 56, 57, 58, 59, 60, 61, 62, 63, 64, 65, 66, 67, 68, 69, 70, 71, 72, 73, 74, 75, 76, 77, 78, 79, 80, 81, 82, 83, 84, 85, 86, 87, 88, 89, 90, 91, 92, 93, 94, 95] (by decide +kernel) (by decide +kernel)) (goodIn_sub (fun _ h => List.mem_cons_of_mem _ (List.mem_append_left _ (List.mem_append_left _ (List.mem_append_left _ (List.mem_append_right _ h))))) (by decide +kernel))) (goodIn_sub (fun _ h => List.mem_cons_of_mem _ (List.mem_append_left _ (List.mem_append_left _ (List.mem_append_left _ (List.mem_append_left _ (List.mem_append_right _ h)))))) (by decide +kernel))) (goodIn_sub (fun _ h => List.mem_cons_of_mem _ (List.mem_append_left _ (List.mem_append_left _ (List.mem_append_right _ h)))) (by decide +kernel))) (goodIn_sub (fun _ h => List.mem_cons_of_mem _ (List.mem_append_left _ (List.mem_append_right _ h))) (by decide +kernel))) (goodIn_sub (fun _ h => List.mem_cons_of_mem _ (List.mem_append_right _ h)) (by decide +kernel))
set_option maxRecDepth 20000 in
theorem gL_takeOver_X2_takeOver : GoodIn wsL_takeOver (wsV RL 71 RX2 yX2_takeOver wsX2_takeOver) := goodIn_app (goodIn_of _ (by decide +kernel)) ggL_takeOver_X2_takeOver
theorem dL_takeOver_0 : decode cL_takeOver 0 = .ok (.aload_n 3, 1) := by decide +kernel
theorem dL_takeOver_1 : decode cL_takeOver 1 = .ok (.iconst 0, 1) := by decide +kernel
theorem dL_takeOver_2 : decode cL_takeOver 2 = .ok (.aload_n 0, 1) := by decide +kernel
theorem dL_takeOver_3 : decode cL_takeOver 3 = .ok (.iload_n 1, 1) := by decide +kernel
theorem dL_takeOver_4 : decode cL_takeOver 4 = .ok (.iload_n 2, 1) := by decide +kernel
theorem dL_takeOver_5 : decode cL_takeOver 5 = .ok (.invokevirtual 71, 3) := by decide +kernel
theorem dL_takeOver_8 : decode cL_takeOver 8 = .ok (.i2l, 1) := by decide +kernel
theorem dL_takeOver_9 : decode cL_takeOver 9 = .ok (.lastore, 1) := by decide +kernel
theorem dL_takeOver_10 : decode cL_takeOver 10 = .ok (.goto 19, 3) := by decide +kernel
theorem dL_takeOver_13 : decode cL_takeOver 13 = .ok (.astore 4, 2) := by decide +kernel
theorem dL_takeOver_15 : decode cL_takeOver 15 = .ok (.iconst 1, 1) := by decide +kernel
theorem dL_takeOver_16 : decode cL_takeOver 16 = .ok (.ireturn, 1) := by decide +kernel
theorem dL_takeOver_17 : decode cL_takeOver 17 = .ok (.astore 4, 2) := by decide +kernel
theorem dL_takeOver_19 : decode cL_takeOver 19 = .ok (.iconst 2, 1) := by decide +kernel
theorem dL_takeOver_20 : decode cL_takeOver 20 = .ok (.ireturn, 1) := by decide +kernel
theorem dL_takeOver_21 : decode cL_takeOver 21 = .ok (.astore 4, 2) := by decide +kernel
theorem dL_takeOver_23 : decode cL_takeOver 23 = .ok (.iconst 3, 1) := by decide +kernel
theorem dL_takeOver_24 : decode cL_takeOver 24 = .ok (.ireturn, 1) := by decide +kernel
theorem dL_takeOver_25 : decode cL_takeOver 25 = .ok (.astore 4, 2) := by decide +kernel
theorem dL_takeOver_27 : decode cL_takeOver 27 = .ok (.iconst 4, 1) := by decide +kernel
theorem dL_takeOver_28 : decode cL_takeOver 28 = .ok (.ireturn, 1) := by decide +kernel
theorem dL_takeOver_29 : decode cL_takeOver 29 = .ok (.iconst 0, 1) := by decide +kernel
theorem dL_takeOver_30 : decode cL_takeOver 30 = .ok (.ireturn, 1) := by decide +kernel
set_option maxRecDepth 20000 in
theorem ggL_handBack_X2_handBack : GoodIn wsL_handBack wsX2_handBack := goodIn_ca (goodIn_ca (goodIn_r _ [7, 8, 9, 10, 11, 12, 13, 14, 6, 15, 16, 17, 18, 19, 20, 21, 22, 23, 24, 25, 26, 27, 28, 29, 30, 31, 32, 33, 34, 35, 36, 37, 38, 39, 40, 41, 42, 43, 44, 45, 46, 47, 48, 49, 50, 51, 52, 53, 54, 55, 56, 57, 58, 59, 60, 61, 62, 63, 64, 65, 66, 67, 68, 69, 70, 71, 72, 73, 74, 75, 76, 77, 78, 79, 80, 81, 82, 83, 84, 85] (by decide +kernel) (by decide +kernel)) (goodIn_sub (fun _ h => List.mem_cons_of_mem _ (List.mem_append_left _ (List.mem_append_right _ h))) (by decide +kernel))) (goodIn_sub (fun _ h => List.mem_cons_of_mem _ (List.mem_append_right _ h)) (by decide +kernel))
set_option maxRecDepth 20000 in
theorem gL_handBack_X2_handBack : GoodIn wsL_handBack (wsV RL 74 RX2 yX2_handBack wsX2_handBack) := goodIn_app (goodIn_of _ (by decide +kernel)) ggL_handBack_X2_handBack
theorem dL_handBack_0 : decode cL_handBack 0 = .ok (.aload_n 2, 1) := by decide +kernel
theorem dL_handBack_1 : decode cL_handBack 1 = .ok (.iconst 0, 1) := by decide +kernel
theorem dL_handBack_2 : decode cL_handBack 2 = .ok (.aload_n 0, 1) := by decide +kernel
theorem dL_handBack_3 : decode cL_handBack 3 = .ok (.iload_n 1, 1) := by decide +kernel
theorem dL_handBack_4 : decode cL_handBack 4 = .ok (.invokevirtual 74, 3) := by decide +kernel
theorem dL_handBack_7 : decode cL_handBack 7 = .ok (.i2l, 1) := by decide +kernel
theorem dL_handBack_8 : decode cL_handBack 8 = .ok (.lastore, 1) := by decide +kernel
theorem dL_handBack_9 : decode cL_handBack 9 = .ok (.goto 9, 3) := by decide +kernel
theorem dL_handBack_12 : decode cL_handBack 12 = .ok (.astore_n 3, 1) := by decide +kernel
theorem dL_handBack_13 : decode cL_handBack 13 = .ok (.iconst 1, 1) := by decide +kernel
theorem dL_handBack_14 : decode cL_handBack 14 = .ok (.ireturn, 1) := by decide +kernel
theorem dL_handBack_15 : decode cL_handBack 15 = .ok (.astore_n 3, 1) := by decide +kernel
theorem dL_handBack_16 : decode cL_handBack 16 = .ok (.iconst 2, 1) := by decide +kernel
theorem dL_handBack_17 : decode cL_handBack 17 = .ok (.ireturn, 1) := by decide +kernel
theorem dL_handBack_18 : decode cL_handBack 18 = .ok (.iconst 0, 1) := by decide +kernel
theorem dL_handBack_19 : decode cL_handBack 19 = .ok (.ireturn, 1) := by decide +kernel
set_option maxRecDepth 20000 in
theorem ggL_print_X2_print : GoodIn wsL_print wsX2_print := goodIn_ca (goodIn_ca (goodIn_ca (goodIn_ca (goodIn_ca (goodIn_r _ [9, 10, 11, 12, 13, 14, 15, 16, 17, 18, 19, 20, 21, 22, 8, 23, 24, 25, 26, 27, 28, 29, 30, 31, 32, 33, 34, 35, 36, 37, 38, 39, 40, 41, 42, 43, 44, 45, 46, 47, 48, 49, 50, 51, 52, 53, 54, 55, 56, 57, 58, 59, 60, 61, 62, 63, 64, 65, 66, 67, 68, 69, 70, 71, 72, 73, 74, 75, 76, 77, 78, 79, 80, 81, 82, 83, 84, 85, 86, 87, 88, 89, 90, 91, 92, 93, 94, 95, 96, 97, 98, 99, 100, 101, 102, 103] (by decide +kernel) (by decide +kernel)) (goodIn_sub (fun _ h => List.mem_cons_of_mem _ (List.mem_append_left _ (List.mem_append_left _ (List.mem_append_left _ (List.mem_append_right _ h))))) (by decide +kernel))) (goodIn_sub (fun _ h => List.mem_cons_of_mem _ (List.mem_append_left _ (List.mem_append_left _ (List.mem_append_left _ (List.mem_append_left _ (List.mem_append_right _ h)))))) (by decide +kernel))) (goodIn_sub (fun _ h => List.mem_cons_of_mem _ (List.mem_append_left _ (List.mem_append_left _ (List.mem_append_right _ h)))) (by decide +kernel))) (goodIn_sub (fun _ h => List.mem_cons_of_mem _ (List.mem_append_left _ (List.mem_append_right _ h))) (by decide +kernel))) (goodIn_sub (fun _ h => List.mem_cons_of_mem _ (List.mem_append_right _ h)) (by decide +kernel))
set_option maxRecDepth 20000 in
theorem gL_print_X2_print : GoodIn wsL_print (wsV RL 77 RX2 yX2_print wsX2_print) := goodIn_app (goodIn_of _ (by decide +kernel)) ggL_print_X2_print
theorem dL_print_0 : decode cL_print 0 = .ok (.aload_n 3, 1) := by decide +kernel
theorem dL_print_1 : decode cL_print 1 = .ok (.iconst 0, 1) := by decide +kernel
theorem dL_print_2 : decode cL_print 2 = .ok (.aload_n 0, 1) := by decide +kernel
theorem dL_print_3 : decode cL_print 3 = .ok (.iload_n 1, 1) := by decide +kernel
theorem dL_print_4 : decode cL_print 4 = .ok (.iload_n 2, 1) := by decide +kernel
theorem dL_print_5 : decode cL_print 5 = .ok (.invokevirtual 77, 3) := by decide +kernel
theorem dL_print_8 : decode cL_print 8 = .ok (.i2l, 1) := by decide +kernel
theorem dL_print_9 : decode cL_print 9 = .ok (.lastore, 1) := by decide +kernel
theorem dL_print_10 : decode cL_print 10 = .ok (.goto 19, 3) := by decide +kernel
theorem dL_print_13 : decode cL_print 13 = .ok (.astore 4, 2) := by decide +kernel
theorem dL_print_15 : decode cL_print 15 = .ok (.iconst 1, 1) := by decide +kernel
theorem dL_print_16 : decode cL_print 16 = .ok (.ireturn, 1) := by decide +kernel
theorem dL_print_17 : decode cL_print 17 = .ok (.astore 4, 2) := by decide +kernel
theorem dL_print_19 : decode cL_print 19 = .ok (.iconst 2, 1) := by decide +kernel
theorem dL_print_20 : decode cL_print 20 = .ok (.ireturn, 1) := by decide +kernel
theorem dL_print_21 : decode cL_print 21 = .ok (.astore 4, 2) := by decide +kernel
theorem dL_print_23 : decode cL_print 23 = .ok (.iconst 3, 1) := by decide +kernel
theorem dL_print_24 : decode cL_print 24 = .ok (.ireturn, 1) := by decide +kernel
theorem dL_print_25 : decode cL_print 25 = .ok (.astore 4, 2) := by decide +kernel
theorem dL_print_27 : decode cL_print 27 = .ok (.iconst 4, 1) := by decide +kernel
theorem dL_print_28 : decode cL_print 28 = .ok (.ireturn, 1) := by decide +kernel
theorem dL_print_29 : decode cL_print 29 = .ok (.iconst 0, 1) := by decide +kernel
theorem dL_print_30 : decode cL_print 30 = .ok (.ireturn, 1) := by decide +kernel
set_option maxRecDepth 20000 in
theorem ggL_state_X2_state : GoodIn wsL_state wsX2_state := goodIn_ca (goodIn_r _ [6, 7, 8, 9, 10, 11, 12, 5, 13, 14, 15, 16, 17, 18, 19, 20, 21, 22, 23, 24, 25, 26, 27, 28, 29, 30, 31, 32, 33, 34, 35, 36, 37, 38, 39, 40, 41, 42, 43, 44, 45, 46, 47, 48, 49, 50, 51, 52, 53, 54, 55, 56, 57, 58, 59, 60, 61, 62, 63, 64, 65, 66, 67, 68, 69, 70] (by decide +kernel) (by decide +kernel)) (goodIn_sub (fun _ h => List.mem_cons_of_mem _ (List.mem_append_right _ h)) (by decide +kernel))
set_option maxRecDepth 20000 in
theorem gL_state_X2_state : GoodIn wsL_state (wsV RL 80 RX2 yX2_state wsX2_state) := goodIn_app (goodIn_of _ (by decide +kernel)) ggL_state_X2_state
theorem dL_state_0 : decode cL_state 0 = .ok (.aload_n 2, 1) := by decide +kernel
theorem dL_state_1 : decode cL_state 1 = .ok (.iconst 0, 1) := by decide +kernel
theorem dL_state_2 : decode cL_state 2 = .ok (.aload_n 0, 1) := by decide +kernel
theorem dL_state_3 : decode cL_state 3 = .ok (.iload_n 1, 1) := by decide +kernel
theorem dL_state_4 : decode cL_state 4 = .ok (.invokevirtual 80, 3) := by decide +kernel
theorem dL_state_7 : decode cL_state 7 = .ok (.i2l, 1) := by decide +kernel
theorem dL_state_8 : decode cL_state 8 = .ok (.lastore, 1) := by decide +kernel
theorem dL_state_9 : decode cL_state 9 = .ok (.goto 6, 3) := by decide +kernel
theorem dL_state_12 : decode cL_state 12 = .ok (.astore_n 3, 1) := by decide +kernel
theorem dL_state_13 : decode cL_state 13 = .ok (.iconst 1, 1) := by decide +kernel
theorem dL_state_14 : decode cL_state 14 = .ok (.ireturn, 1) := by decide +kernel
theorem dL_state_15 : decode cL_state 15 = .ok (.iconst 0, 1) := by decide +kernel
theorem dL_state_16 : decode cL_state 16 = .ok (.ireturn, 1) := by decide +kernel
set_option maxRecDepth 20000 in
theorem ggL_machineOf_X2_machineOf : GoodIn wsL_machineOf wsX2_machineOf := goodIn_ca (goodIn_r _ [6, 7, 8, 9, 10, 11, 5, 12, 13, 14, 15, 16, 17, 18, 19, 20, 21, 22, 23, 24, 25, 26, 27, 28, 29, 30, 31, 32, 33, 34, 35, 36, 37, 38, 39, 40, 41, 42, 43, 44, 45, 46, 47, 48, 49, 50, 51, 52, 53, 54, 55, 56, 57, 58, 59, 60, 61, 62, 63, 64, 65, 66, 67, 68, 69] (by decide +kernel) (by decide +kernel)) (goodIn_sub (fun _ h => List.mem_cons_of_mem _ (List.mem_append_right _ h)) (by decide +kernel))
set_option maxRecDepth 20000 in
theorem gL_machineOf_X2_machineOf : GoodIn wsL_machineOf (wsV RL 83 RX2 yX2_machineOf wsX2_machineOf) := goodIn_app (goodIn_of _ (by decide +kernel)) ggL_machineOf_X2_machineOf
theorem dL_machineOf_0 : decode cL_machineOf 0 = .ok (.aload_n 2, 1) := by decide +kernel
theorem dL_machineOf_1 : decode cL_machineOf 1 = .ok (.iconst 0, 1) := by decide +kernel
theorem dL_machineOf_2 : decode cL_machineOf 2 = .ok (.aload_n 0, 1) := by decide +kernel
theorem dL_machineOf_3 : decode cL_machineOf 3 = .ok (.iload_n 1, 1) := by decide +kernel
theorem dL_machineOf_4 : decode cL_machineOf 4 = .ok (.invokevirtual 83, 3) := by decide +kernel
theorem dL_machineOf_7 : decode cL_machineOf 7 = .ok (.i2l, 1) := by decide +kernel
theorem dL_machineOf_8 : decode cL_machineOf 8 = .ok (.lastore, 1) := by decide +kernel
theorem dL_machineOf_9 : decode cL_machineOf 9 = .ok (.goto 6, 3) := by decide +kernel
theorem dL_machineOf_12 : decode cL_machineOf 12 = .ok (.astore_n 3, 1) := by decide +kernel
theorem dL_machineOf_13 : decode cL_machineOf 13 = .ok (.iconst 1, 1) := by decide +kernel
theorem dL_machineOf_14 : decode cL_machineOf 14 = .ok (.ireturn, 1) := by decide +kernel
theorem dL_machineOf_15 : decode cL_machineOf 15 = .ok (.iconst 0, 1) := by decide +kernel
theorem dL_machineOf_16 : decode cL_machineOf 16 = .ok (.ireturn, 1) := by decide +kernel
set_option maxRecDepth 20000 in
theorem ggL_userOf_X2_userOf : GoodIn wsL_userOf wsX2_userOf := goodIn_ca (goodIn_r _ [6, 7, 8, 9, 10, 5, 11, 12, 13, 14, 15, 16, 17, 18, 19, 20, 21, 22, 23, 24, 25, 26, 27, 28, 29, 30, 31, 32, 33, 34, 35, 36, 37, 38, 39, 40, 41, 42, 43, 44, 45, 46, 47, 48, 49, 50, 51, 52, 53, 54, 55, 56, 57, 58, 59, 60, 61, 62] (by decide +kernel) (by decide +kernel)) (goodIn_sub (fun _ h => List.mem_cons_of_mem _ (List.mem_append_right _ h)) (by decide +kernel))
set_option maxRecDepth 20000 in
theorem gL_userOf_X2_userOf : GoodIn wsL_userOf (wsV RL 86 RX2 yX2_userOf wsX2_userOf) := goodIn_app (goodIn_of _ (by decide +kernel)) ggL_userOf_X2_userOf
theorem dL_userOf_0 : decode cL_userOf 0 = .ok (.aload_n 2, 1) := by decide +kernel
theorem dL_userOf_1 : decode cL_userOf 1 = .ok (.iconst 0, 1) := by decide +kernel
theorem dL_userOf_2 : decode cL_userOf 2 = .ok (.aload_n 0, 1) := by decide +kernel
theorem dL_userOf_3 : decode cL_userOf 3 = .ok (.iload_n 1, 1) := by decide +kernel
theorem dL_userOf_4 : decode cL_userOf 4 = .ok (.invokevirtual 86, 3) := by decide +kernel
theorem dL_userOf_7 : decode cL_userOf 7 = .ok (.i2l, 1) := by decide +kernel
theorem dL_userOf_8 : decode cL_userOf 8 = .ok (.lastore, 1) := by decide +kernel
theorem dL_userOf_9 : decode cL_userOf 9 = .ok (.goto 6, 3) := by decide +kernel
theorem dL_userOf_12 : decode cL_userOf 12 = .ok (.astore_n 3, 1) := by decide +kernel
theorem dL_userOf_13 : decode cL_userOf 13 = .ok (.iconst 1, 1) := by decide +kernel
theorem dL_userOf_14 : decode cL_userOf 14 = .ok (.ireturn, 1) := by decide +kernel
theorem dL_userOf_15 : decode cL_userOf 15 = .ok (.iconst 0, 1) := by decide +kernel
theorem dL_userOf_16 : decode cL_userOf 16 = .ok (.ireturn, 1) := by decide +kernel
set_option maxRecDepth 20000 in
theorem ggL_charged_X2_charged : GoodIn wsL_charged wsX2_charged := goodIn_ca (goodIn_ca (goodIn_ca (goodIn_r _ [7, 8, 9, 10, 11, 6, 12, 13, 14, 15, 16, 17, 18, 19, 20, 21, 22, 23, 24, 25, 26, 27, 28, 29, 30, 31, 32, 33, 34, 35, 36, 37, 38, 39, 40, 41, 42, 43, 44, 45, 46, 47, 48, 49, 50, 51, 52, 53, 54, 55, 56, 57, 58, 59, 60, 61, 62, 63, 64, 65, 66, 67, 68] (by decide +kernel) (by decide +kernel)) (goodIn_sub (fun _ h => List.mem_cons_of_mem _ (List.mem_append_left _ (List.mem_append_left _ (List.mem_append_right _ h)))) (by decide +kernel))) (goodIn_sub (fun _ h => List.mem_cons_of_mem _ (List.mem_append_left _ (List.mem_append_right _ h))) (by decide +kernel))) (goodIn_sub (fun _ h => List.mem_cons_of_mem _ (List.mem_append_right _ h)) (by decide +kernel))
set_option maxRecDepth 20000 in
theorem gL_charged_X2_charged : GoodIn wsL_charged (wsV RL 89 RX2 yX2_charged wsX2_charged) := goodIn_app (goodIn_of _ (by decide +kernel)) ggL_charged_X2_charged
theorem dL_charged_0 : decode cL_charged 0 = .ok (.aload_n 3, 1) := by decide +kernel
theorem dL_charged_1 : decode cL_charged 1 = .ok (.iconst 0, 1) := by decide +kernel
theorem dL_charged_2 : decode cL_charged 2 = .ok (.aload_n 0, 1) := by decide +kernel
theorem dL_charged_3 : decode cL_charged 3 = .ok (.iload_n 1, 1) := by decide +kernel
theorem dL_charged_4 : decode cL_charged 4 = .ok (.iload_n 2, 1) := by decide +kernel
theorem dL_charged_5 : decode cL_charged 5 = .ok (.invokevirtual 89, 3) := by decide +kernel
theorem dL_charged_8 : decode cL_charged 8 = .ok (.i2l, 1) := by decide +kernel
theorem dL_charged_9 : decode cL_charged 9 = .ok (.lastore, 1) := by decide +kernel
theorem dL_charged_10 : decode cL_charged 10 = .ok (.goto 11, 3) := by decide +kernel
theorem dL_charged_13 : decode cL_charged 13 = .ok (.astore 4, 2) := by decide +kernel
theorem dL_charged_15 : decode cL_charged 15 = .ok (.iconst 1, 1) := by decide +kernel
theorem dL_charged_16 : decode cL_charged 16 = .ok (.ireturn, 1) := by decide +kernel
theorem dL_charged_17 : decode cL_charged 17 = .ok (.astore 4, 2) := by decide +kernel
theorem dL_charged_19 : decode cL_charged 19 = .ok (.iconst 2, 1) := by decide +kernel
theorem dL_charged_20 : decode cL_charged 20 = .ok (.ireturn, 1) := by decide +kernel
theorem dL_charged_21 : decode cL_charged 21 = .ok (.iconst 0, 1) := by decide +kernel
theorem dL_charged_22 : decode cL_charged 22 = .ok (.ireturn, 1) := by decide +kernel
set_option maxRecDepth 20000 in
theorem ggL_endsIn_X2_endsIn : GoodIn wsL_endsIn wsX2_endsIn := goodIn_ca (goodIn_ca (goodIn_ca (goodIn_r _ [7, 8, 9, 10, 11, 12, 13, 14, 15, 16, 17, 18, 19, 20, 21, 22, 23, 24, 6, 25, 26, 27, 28, 29, 30, 31, 32, 33, 34, 35, 36, 37, 38, 39, 40, 41, 42, 43, 44, 45, 46, 47, 48, 49, 50, 51, 52, 53, 54, 55, 56, 57, 58, 59, 60, 61, 62, 63, 64, 65, 66, 67, 68, 69, 70, 71, 72, 73, 74, 75, 76, 77, 78, 79, 80, 81, 82, 83, 84, 85, 86, 87, 88, 89, 90, 91, 92, 93, 94, 95, 96, 97] (by decide +kernel) (by decide +kernel)) (goodIn_sub (fun _ h => List.mem_cons_of_mem _ (List.mem_append_left _ (List.mem_append_left _ (List.mem_append_right _ h)))) (by decide +kernel))) (goodIn_sub (fun _ h => List.mem_cons_of_mem _ (List.mem_append_left _ (List.mem_append_right _ h))) (by decide +kernel))) (goodIn_sub (fun _ h => List.mem_cons_of_mem _ (List.mem_append_right _ h)) (by decide +kernel))
set_option maxRecDepth 20000 in
theorem gL_endsIn_X2_endsIn : GoodIn wsL_endsIn (wsV RL 92 RX2 yX2_endsIn wsX2_endsIn) := goodIn_app (goodIn_of _ (by decide +kernel)) ggL_endsIn_X2_endsIn
theorem dL_endsIn_0 : decode cL_endsIn 0 = .ok (.aload_n 2, 1) := by decide +kernel
theorem dL_endsIn_1 : decode cL_endsIn 1 = .ok (.iconst 0, 1) := by decide +kernel
theorem dL_endsIn_2 : decode cL_endsIn 2 = .ok (.aload_n 0, 1) := by decide +kernel
theorem dL_endsIn_3 : decode cL_endsIn 3 = .ok (.iload_n 1, 1) := by decide +kernel
theorem dL_endsIn_4 : decode cL_endsIn 4 = .ok (.invokevirtual 92, 3) := by decide +kernel
theorem dL_endsIn_7 : decode cL_endsIn 7 = .ok (.i2l, 1) := by decide +kernel
theorem dL_endsIn_8 : decode cL_endsIn 8 = .ok (.lastore, 1) := by decide +kernel
theorem dL_endsIn_9 : decode cL_endsIn 9 = .ok (.goto 9, 3) := by decide +kernel
theorem dL_endsIn_12 : decode cL_endsIn 12 = .ok (.astore_n 3, 1) := by decide +kernel
theorem dL_endsIn_13 : decode cL_endsIn 13 = .ok (.iconst 1, 1) := by decide +kernel
theorem dL_endsIn_14 : decode cL_endsIn 14 = .ok (.ireturn, 1) := by decide +kernel
theorem dL_endsIn_15 : decode cL_endsIn 15 = .ok (.astore_n 3, 1) := by decide +kernel
theorem dL_endsIn_16 : decode cL_endsIn 16 = .ok (.iconst 2, 1) := by decide +kernel
theorem dL_endsIn_17 : decode cL_endsIn 17 = .ok (.ireturn, 1) := by decide +kernel
theorem dL_endsIn_18 : decode cL_endsIn 18 = .ok (.iconst 0, 1) := by decide +kernel
theorem dL_endsIn_19 : decode cL_endsIn 19 = .ok (.ireturn, 1) := by decide +kernel
set_option maxRecDepth 20000 in
theorem ggL_pass_X2_pass : GoodIn wsL_pass wsX2_pass := goodIn_ca (goodIn_ca (goodIn_r _ [6, 7, 8, 9, 10, 11, 5, 12, 13, 14, 15, 16, 17, 18, 19, 20, 21, 22, 23, 24, 25, 26, 27, 28, 29, 30, 31, 32, 33, 34, 35, 36, 37, 38, 39, 40, 41, 42, 43, 44, 45, 46, 47, 48, 49, 50, 51, 52, 53, 54, 55, 56, 57, 58, 59, 60, 61, 62, 63, 64, 65, 66, 67, 68, 69, 70, 71, 72, 73, 74, 75, 76, 77, 78, 79, 80, 81, 82, 83, 84, 85, 86, 87, 88, 89, 90, 91, 92, 93, 94, 95, 96, 97, 98, 99, 100, 101, 102, 103, 104, 105] (by decide +kernel) (by decide +kernel)) (goodIn_sub (fun _ h => List.mem_cons_of_mem _ (List.mem_append_right _ h)) (by decide +kernel))) (goodIn_sub (fun _ h => List.mem_cons_of_mem _ (List.mem_append_left _ (List.mem_append_right _ h))) (by decide +kernel))
set_option maxRecDepth 20000 in
theorem gL_pass_X2_pass : GoodIn wsL_pass (wsV RL 95 RX2 yX2_pass wsX2_pass) := goodIn_app (goodIn_of _ (by decide +kernel)) ggL_pass_X2_pass
theorem dL_pass_0 : decode cL_pass 0 = .ok (.aload_n 2, 1) := by decide +kernel
theorem dL_pass_1 : decode cL_pass 1 = .ok (.iconst 0, 1) := by decide +kernel
theorem dL_pass_2 : decode cL_pass 2 = .ok (.aload_n 0, 1) := by decide +kernel
theorem dL_pass_3 : decode cL_pass 3 = .ok (.iload_n 1, 1) := by decide +kernel
theorem dL_pass_4 : decode cL_pass 4 = .ok (.invokevirtual 95, 3) := by decide +kernel
theorem dL_pass_7 : decode cL_pass 7 = .ok (.i2l, 1) := by decide +kernel
theorem dL_pass_8 : decode cL_pass 8 = .ok (.lastore, 1) := by decide +kernel
theorem dL_pass_9 : decode cL_pass 9 = .ok (.goto 6, 3) := by decide +kernel
theorem dL_pass_12 : decode cL_pass 12 = .ok (.astore_n 3, 1) := by decide +kernel
theorem dL_pass_13 : decode cL_pass 13 = .ok (.iconst 1, 1) := by decide +kernel
theorem dL_pass_14 : decode cL_pass 14 = .ok (.ireturn, 1) := by decide +kernel
theorem dL_pass_15 : decode cL_pass 15 = .ok (.iconst 0, 1) := by decide +kernel
theorem dL_pass_16 : decode cL_pass 16 = .ok (.ireturn, 1) := by decide +kernel
set_option maxRecDepth 20000 in
theorem ggL_pageShare_X2_pageShare : GoodIn wsL_pageShare wsX2_pageShare := goodIn_ca (goodIn_ca (goodIn_r _ [6, 7, 8, 9, 10, 11, 12, 5, 13, 14, 15, 16, 17, 18, 19, 20, 21, 22, 23, 24, 25, 26, 27, 28, 29, 30, 31, 32, 33, 34, 35, 36, 37, 38, 39, 40, 41, 42, 43, 44, 45, 46, 47, 48, 49, 50, 51, 52, 53, 54, 55, 56, 57, 58, 59, 60, 61, 62, 63, 64, 65] (by decide +kernel) (by decide +kernel)) (goodIn_sub (fun _ h => List.mem_cons_of_mem _ (List.mem_append_right _ h)) (by decide +kernel))) (goodIn_sub (fun _ h => List.mem_cons_of_mem _ (List.mem_append_left _ (List.mem_append_right _ h))) (by decide +kernel))
set_option maxRecDepth 20000 in
theorem gL_pageShare_X2_pageShare : GoodIn wsL_pageShare (wsV RL 98 RX2 yX2_pageShare wsX2_pageShare) := goodIn_app (goodIn_of _ (by decide +kernel)) ggL_pageShare_X2_pageShare
theorem dL_pageShare_0 : decode cL_pageShare 0 = .ok (.aload_n 1, 1) := by decide +kernel
theorem dL_pageShare_1 : decode cL_pageShare 1 = .ok (.iconst 0, 1) := by decide +kernel
theorem dL_pageShare_2 : decode cL_pageShare 2 = .ok (.aload_n 0, 1) := by decide +kernel
theorem dL_pageShare_3 : decode cL_pageShare 3 = .ok (.invokevirtual 98, 3) := by decide +kernel
theorem dL_pageShare_6 : decode cL_pageShare 6 = .ok (.f2d, 1) := by decide +kernel
theorem dL_pageShare_7 : decode cL_pageShare 7 = .ok (.dastore, 1) := by decide +kernel
theorem dL_pageShare_8 : decode cL_pageShare 8 = .ok (.goto 6, 3) := by decide +kernel
theorem dL_pageShare_11 : decode cL_pageShare 11 = .ok (.astore_n 2, 1) := by decide +kernel
theorem dL_pageShare_12 : decode cL_pageShare 12 = .ok (.iconst 1, 1) := by decide +kernel
theorem dL_pageShare_13 : decode cL_pageShare 13 = .ok (.ireturn, 1) := by decide +kernel
theorem dL_pageShare_14 : decode cL_pageShare 14 = .ok (.iconst 0, 1) := by decide +kernel
theorem dL_pageShare_15 : decode cL_pageShare 15 = .ok (.ireturn, 1) := by decide +kernel
set_option maxRecDepth 20000 in
theorem ggL_meanCharge_X2_meanCharge : GoodIn wsL_meanCharge wsX2_meanCharge := goodIn_ca (goodIn_ca (goodIn_r _ [6, 7, 8, 9, 10, 11, 12, 13, 14, 15, 16, 17, 18, 5, 19, 20, 21, 22, 23, 24, 25, 26, 27, 28, 29, 30, 31, 32, 33, 34, 35, 36, 37, 38, 39, 40, 41, 42, 43, 44, 45, 46, 47, 48, 49, 50, 51, 52, 53, 54, 55, 56, 57, 58, 59, 60, 61, 62, 63, 64] (by decide +kernel) (by decide +kernel)) (goodIn_sub (fun _ h => List.mem_cons_of_mem _ (List.mem_append_right _ h)) (by decide +kernel))) (goodIn_sub (fun _ h => List.mem_cons_of_mem _ (List.mem_append_left _ (List.mem_append_right _ h))) (by decide +kernel))
set_option maxRecDepth 20000 in
theorem gL_meanCharge_X2_meanCharge : GoodIn wsL_meanCharge (wsV RL 104 RX2 yX2_meanCharge wsX2_meanCharge) := goodIn_app (goodIn_of _ (by decide +kernel)) ggL_meanCharge_X2_meanCharge
theorem dL_meanCharge_0 : decode cL_meanCharge 0 = .ok (.aload_n 1, 1) := by decide +kernel
theorem dL_meanCharge_1 : decode cL_meanCharge 1 = .ok (.iconst 0, 1) := by decide +kernel
theorem dL_meanCharge_2 : decode cL_meanCharge 2 = .ok (.aload_n 0, 1) := by decide +kernel
theorem dL_meanCharge_3 : decode cL_meanCharge 3 = .ok (.invokevirtual 104, 3) := by decide +kernel
theorem dL_meanCharge_6 : decode cL_meanCharge 6 = .ok (.dastore, 1) := by decide +kernel
theorem dL_meanCharge_7 : decode cL_meanCharge 7 = .ok (.goto 6, 3) := by decide +kernel
theorem dL_meanCharge_10 : decode cL_meanCharge 10 = .ok (.astore_n 2, 1) := by decide +kernel
theorem dL_meanCharge_11 : decode cL_meanCharge 11 = .ok (.iconst 1, 1) := by decide +kernel
theorem dL_meanCharge_12 : decode cL_meanCharge 12 = .ok (.ireturn, 1) := by decide +kernel
theorem dL_meanCharge_13 : decode cL_meanCharge 13 = .ok (.iconst 0, 1) := by decide +kernel
theorem dL_meanCharge_14 : decode cL_meanCharge 14 = .ok (.ireturn, 1) := by decide +kernel
set_option maxRecDepth 20000 in
theorem ggL_law_X2_init : GoodIn wsL_law wsX2_init := goodIn_ca (goodIn_r _ [10, 11, 12, 13, 14, 15, 16, 17, 18, 19, 20, 21, 22, 23, 24, 25, 26, 27, 28, 29, 30, 31, 32, 33, 34, 35, 36, 37, 38, 39, 40, 41, 42, 43, 44, 676, 677, 678, 679, 680, 681, 682, 683, 684, 685, 686, 710, 711, 712] (by decide +kernel) (by decide +kernel)) (goodIn_sub (fun _ h => List.mem_append_left _ (List.mem_append_left _ (List.mem_append_left _ (List.mem_append_left _ (List.mem_append_left _ (List.mem_append_left _ (List.mem_append_right _ h))))))) (by decide +kernel))
set_option maxRecDepth 20000 in
theorem gL_law_X2_init : GoodIn wsL_law (wsX2_init) := ggL_law_X2_init
set_option maxRecDepth 20000 in
theorem ggL_law_X3_init : GoodIn wsL_law wsX3_init := goodIn_ca (goodIn_r _ [47, 48, 12, 13, 14, 49, 50, 51, 52, 53, 54, 55, 56, 57, 58, 59, 60, 61, 62, 63, 64, 65, 66, 687, 688, 689, 690, 691, 692, 693, 694, 695, 696, 697, 698, 699, 700, 701, 702, 703, 704, 705, 706, 707, 708, 709] (by decide +kernel) (by decide +kernel)) (goodIn_sub (fun _ h => List.mem_append_left _ (List.mem_append_left _ (List.mem_append_left _ (List.mem_append_left _ (List.mem_append_left _ (List.mem_append_left _ (List.mem_append_right _ h))))))) (by decide +kernel))
set_option maxRecDepth 20000 in
theorem gL_law_X3_init : GoodIn wsL_law (wsX3_init) := ggL_law_X3_init
set_option maxRecDepth 20000 in
theorem ggL_law_L_addMachine : GoodIn wsL_law wsL_addMachine := goodIn_ca (goodIn_ca (goodIn_ca (goodIn_r _ [70, 71, 72, 73, 74, 75, 2, 76, 77, 78, 79, 80, 26, 81, 82, 83, 84, 85, 86, 87, 88, 89, 90, 91, 92, 25, 93, 94, 95, 96, 97, 98, 12, 13, 99, 100, 101, 102, 103, 104, 105, 106, 107, 108, 109, 110, 34, 111, 112, 113, 114, 115, 116, 117, 118, 119, 120, 121, 122, 33, 123, 124, 125, 126, 127, 128, 129, 130, 131, 132, 133, 134, 135, 136, 137, 138, 139, 140, 141, 142, 143, 144, 145, 146, 147, 148, 149, 150, 151, 152, 153, 154, 155, 156, 676, 677, 678, 679, 680, 681, 682, 683, 684, 685, 686, 713, 714, 715, 716, 717, 718, 710, 711, 712] (by decide +kernel) (by decide +kernel)) (goodIn_sub (fun _ h => List.mem_append_left _ (List.mem_append_left _ (List.mem_append_left _ (List.mem_append_left _ (List.mem_append_left _ (List.mem_append_left _ (List.mem_append_right _ h))))))) (by decide +kernel))) (goodIn_sub (fun _ h => List.mem_append_left _ (List.mem_append_left _ (List.mem_append_left _ (List.mem_append_left _ (List.mem_append_left _ (List.mem_append_right _ h)))))) (by decide +kernel))) (goodIn_sub (fun _ h => List.mem_append_left _ (List.mem_append_left _ (List.mem_append_left _ (List.mem_append_left _ (List.mem_append_right _ h))))) (by decide +kernel))
set_option maxRecDepth 20000 in
theorem gL_law_L_addMachine : GoodIn wsL_law (va_wsS RL 112 yL_addMachine wsL_addMachine) := goodIn_app (goodIn_of _ (by decide +kernel)) ggL_law_L_addMachine
set_option maxRecDepth 20000 in
theorem ggL_law_X3_addMachine : GoodIn wsL_law wsX3_addMachine := goodIn_ca (goodIn_r _ [160, 161, 51, 52, 53, 55, 162, 163, 5, 164, 165, 166, 167, 168, 169, 170, 171, 172, 687, 688, 689, 690, 691, 692, 693, 694, 695, 696, 697, 698, 699, 700, 701, 702, 703, 704, 705, 706, 707, 708, 709] (by decide +kernel) (by decide +kernel)) (goodIn_sub (fun _ h => List.mem_append_left _ (List.mem_append_left _ (List.mem_append_left _ (List.mem_append_left _ (List.mem_append_left _ (List.mem_append_left _ (List.mem_append_right _ h))))))) (by decide +kernel))
set_option maxRecDepth 20000 in
theorem gL_law_X3_addMachine : GoodIn wsL_law (wsV RL 117 RX3 yX3_addMachine wsX3_addMachine) := goodIn_app (goodIn_of _ (by decide +kernel)) ggL_law_X3_addMachine
set_option maxRecDepth 20000 in
theorem ggL_law_X3_thrown : GoodIn wsL_law wsX3_thrown := goodIn_r _ [176, 172, 687, 688, 689, 690, 691, 692, 693, 694, 695, 696, 697, 698, 699, 700, 701, 702, 703, 704, 705, 706, 707, 708, 709] (by decide +kernel) (by decide +kernel)
set_option maxRecDepth 20000 in
theorem gL_law_X3_thrown : GoodIn wsL_law (wsV RL 118 RX3 yX3_thrown wsX3_thrown) := goodIn_app (goodIn_of _ (by decide +kernel)) ggL_law_X3_thrown
set_option maxRecDepth 20000 in
theorem ggL_law_L_setLimits : GoodIn wsL_law wsL_setLimits := goodIn_ca (goodIn_ca (goodIn_r _ [179, 71, 180, 181, 182, 2, 183, 77, 78, 15, 16, 84, 85, 86, 87, 88, 89, 676, 677, 678, 679, 680, 681, 682, 683, 684, 685, 686] (by decide +kernel) (by decide +kernel)) (goodIn_sub (fun _ h => List.mem_append_left _ (List.mem_append_left _ (List.mem_append_left _ (List.mem_append_left _ (List.mem_append_left _ (List.mem_append_left _ (List.mem_append_right _ h))))))) (by decide +kernel))) (goodIn_sub (fun _ h => List.mem_append_left _ (List.mem_append_left _ (List.mem_append_left _ (List.mem_append_left _ (List.mem_append_left _ (List.mem_append_right _ h)))))) (by decide +kernel))
set_option maxRecDepth 20000 in
theorem gL_law_L_setLimits : GoodIn wsL_law (va_wsS RL 122 yL_setLimits wsL_setLimits) := goodIn_app (goodIn_of _ (by decide +kernel)) ggL_law_L_setLimits
set_option maxRecDepth 20000 in
theorem ggL_law_X3_setLimits : GoodIn wsL_law wsX3_setLimits := goodIn_ca (goodIn_r _ [187, 49, 50, 162, 163, 5, 164, 165, 166, 167, 168, 169, 170, 171, 172, 687, 688, 689, 690, 691, 692, 693, 694, 695, 696, 697, 698, 699, 700, 701, 702, 703, 704, 705, 706, 707, 708, 709] (by decide +kernel) (by decide +kernel)) (goodIn_sub (fun _ h => List.mem_append_left _ (List.mem_append_left _ (List.mem_append_left _ (List.mem_append_left _ (List.mem_append_left _ (List.mem_append_left _ (List.mem_append_right _ h))))))) (by decide +kernel))
set_option maxRecDepth 20000 in
theorem gL_law_X3_setLimits : GoodIn wsL_law (wsV RL 124 RX3 yX3_setLimits wsX3_setLimits) := goodIn_app (goodIn_of _ (by decide +kernel)) ggL_law_X3_setLimits
set_option maxRecDepth 20000 in
theorem ggL_law_L_drain : GoodIn wsL_law wsL_drain := goodIn_ca (goodIn_ca (goodIn_ca (goodIn_r _ [190, 191, 72, 192, 193, 194, 2, 195, 79, 80, 196, 197, 198, 199, 200, 201, 202, 203, 26, 204, 90, 91, 92, 25, 93, 94, 87, 88, 89, 205, 206, 207, 208, 209, 210, 211, 212, 213, 214, 215, 216, 217, 218, 219, 220, 34, 221, 222, 223, 83, 224, 99, 100, 713, 714, 715, 716, 717, 718, 676, 677, 678, 679, 680, 681, 682, 683, 684, 685, 686, 710, 711, 712] (by decide +kernel) (by decide +kernel)) (goodIn_sub (fun _ h => List.mem_append_left _ (List.mem_append_left _ (List.mem_append_left _ (List.mem_append_left _ (List.mem_append_left _ (List.mem_append_left _ (List.mem_append_right _ h))))))) (by decide +kernel))) (goodIn_sub (fun _ h => List.mem_append_left _ (List.mem_append_left _ (List.mem_append_left _ (List.mem_append_left _ (List.mem_append_right _ h))))) (by decide +kernel))) (goodIn_sub (fun _ h => List.mem_append_left _ (List.mem_append_left _ (List.mem_append_left _ (List.mem_append_right _ h)))) (by decide +kernel))
set_option maxRecDepth 20000 in
theorem gL_law_L_drain : GoodIn wsL_law (va_wsS RL 125 yL_drain wsL_drain) := goodIn_app (goodIn_of _ (by decide +kernel)) ggL_law_L_drain
set_option maxRecDepth 20000 in
theorem ggL_law_X3_drain : GoodIn wsL_law wsX3_drain := goodIn_ca (goodIn_r _ [228, 55, 229, 230, 231, 5, 232, 161, 165, 166, 167, 168, 169, 170, 171, 172, 233, 234, 235, 236, 237, 238, 239, 240, 241, 61, 242, 243, 244, 245, 65, 687, 688, 689, 690, 691, 692, 693, 694, 695, 696, 697, 698, 699, 700, 701, 702, 703, 704, 705, 706, 707, 708, 709] (by decide +kernel) (by decide +kernel)) (goodIn_sub (fun _ h => List.mem_append_left _ (List.mem_append_left _ (List.mem_append_left _ (List.mem_append_left _ (List.mem_append_left _ (List.mem_append_left _ (List.mem_append_right _ h))))))) (by decide +kernel))
set_option maxRecDepth 20000 in
theorem gL_law_X3_drain : GoodIn wsL_law (wsV RL 128 RX3 yX3_drain wsX3_drain) := goodIn_app (goodIn_of _ (by decide +kernel)) ggL_law_X3_drain
set_option maxRecDepth 20000 in
theorem ggL_law_L_putUp : GoodIn wsL_law wsL_putUp := goodIn_ca (goodIn_ca (goodIn_ca (goodIn_r _ [248, 191, 72, 249, 250, 251, 2, 252, 79, 80, 196, 198, 199, 200, 201, 202, 203, 26, 204, 90, 91, 92, 25, 93, 94, 87, 88, 89, 205, 206, 207, 208, 209, 210, 211, 212, 213, 214, 215, 216, 217, 218, 219, 220, 34, 253, 254, 255, 83, 256, 104, 100, 713, 714, 715, 716, 717, 718, 676, 677, 678, 679, 680, 681, 682, 683, 684, 685, 686, 710, 711, 712] (by decide +kernel) (by decide +kernel)) (goodIn_sub (fun _ h => List.mem_append_left _ (List.mem_append_left _ (List.mem_append_left _ (List.mem_append_left _ (List.mem_append_left _ (List.mem_append_left _ (List.mem_append_right _ h))))))) (by decide +kernel))) (goodIn_sub (fun _ h => List.mem_append_left _ (List.mem_append_left _ (List.mem_append_left _ (List.mem_append_left _ (List.mem_append_right _ h))))) (by decide +kernel))) (goodIn_sub (fun _ h => List.mem_append_left _ (List.mem_append_left _ (List.mem_append_left _ (List.mem_append_right _ h)))) (by decide +kernel))
set_option maxRecDepth 20000 in
theorem gL_law_L_putUp : GoodIn wsL_law (va_wsS RL 129 yL_putUp wsL_putUp) := goodIn_app (goodIn_of _ (by decide +kernel)) ggL_law_L_putUp
set_option maxRecDepth 20000 in
theorem ggL_law_X3_putUp : GoodIn wsL_law wsX3_putUp := goodIn_ca (goodIn_r _ [260, 55, 53, 229, 230, 231, 5, 232, 161, 165, 166, 167, 168, 169, 170, 171, 172, 237, 238, 239, 240, 241, 61, 242, 243, 244, 245, 65, 687, 688, 689, 690, 691, 692, 693, 694, 695, 696, 697, 698, 699, 700, 701, 702, 703, 704, 705, 706, 707, 708, 709] (by decide +kernel) (by decide +kernel)) (goodIn_sub (fun _ h => List.mem_append_left _ (List.mem_append_left _ (List.mem_append_left _ (List.mem_append_left _ (List.mem_append_left _ (List.mem_append_left _ (List.mem_append_right _ h))))))) (by decide +kernel))
set_option maxRecDepth 20000 in
theorem gL_law_X3_putUp : GoodIn wsL_law (wsV RL 131 RX3 yX3_putUp wsX3_putUp) := goodIn_app (goodIn_of _ (by decide +kernel)) ggL_law_X3_putUp
set_option maxRecDepth 20000 in
theorem ggL_law_L_machine : GoodIn wsL_law wsL_machine := goodIn_ca (goodIn_ca (goodIn_r _ [263, 191, 264, 265, 266, 2, 267, 196, 198, 199, 200, 201, 202, 203, 26, 204, 90, 91, 92, 25, 93, 94, 87, 88, 89, 205, 206, 207, 208, 209, 210, 211, 212, 213, 214, 215, 216, 217, 218, 219, 220, 34, 713, 714, 715, 716, 717, 718, 676, 677, 678, 679, 680, 681, 682, 683, 684, 685, 686, 710, 711, 712] (by decide +kernel) (by decide +kernel)) (goodIn_sub (fun _ h => List.mem_append_left _ (List.mem_append_left _ (List.mem_append_left _ (List.mem_append_left _ (List.mem_append_left _ (List.mem_append_left _ (List.mem_append_right _ h))))))) (by decide +kernel))) (goodIn_sub (fun _ h => List.mem_append_left _ (List.mem_append_left _ (List.mem_append_left _ (List.mem_append_right _ h)))) (by decide +kernel))
set_option maxRecDepth 20000 in
theorem gL_law_L_machine : GoodIn wsL_law (va_wsS RL 132 yL_machine wsL_machine) := goodIn_app (goodIn_of _ (by decide +kernel)) ggL_law_L_machine
set_option maxRecDepth 20000 in
theorem ggL_law_X3_machine : GoodIn wsL_law wsX3_machine := goodIn_ca (goodIn_r _ [271, 55, 229, 230, 231, 5, 232, 161, 165, 166, 167, 168, 169, 170, 171, 172, 687, 688, 689, 690, 691, 692, 693, 694, 695, 696, 697, 698, 699, 700, 701, 702, 703, 704, 705, 706, 707, 708, 709] (by decide +kernel) (by decide +kernel)) (goodIn_sub (fun _ h => List.mem_append_left _ (List.mem_append_left _ (List.mem_append_left _ (List.mem_append_left _ (List.mem_append_left _ (List.mem_append_left _ (List.mem_append_right _ h))))))) (by decide +kernel))
set_option maxRecDepth 20000 in
theorem gL_law_X3_machine : GoodIn wsL_law (wsV RL 134 RX3 yX3_machine wsX3_machine) := goodIn_app (goodIn_of _ (by decide +kernel)) ggL_law_X3_machine
set_option maxRecDepth 20000 in
theorem ggL_law_L_next : GoodIn wsL_law wsL_next := goodIn_ca (goodIn_ca (goodIn_ca (goodIn_r _ [274, 71, 275, 276, 277, 278, 2, 279, 280, 84, 85, 86, 77, 78, 87, 88, 89, 281, 282, 283, 284, 285, 286, 26, 204, 197, 90, 91, 92, 25, 93, 94, 205, 206, 207, 208, 209, 210, 211, 212, 213, 214, 215, 216, 217, 218, 219, 220, 34, 287, 288, 289, 83, 290, 99, 102, 253, 254, 255, 256, 104, 100, 713, 714, 715, 716, 717, 718, 676, 677, 678, 679, 680, 681, 682, 683, 684, 685, 686, 710, 711, 712] (by decide +kernel) (by decide +kernel)) (goodIn_sub (fun _ h => List.mem_append_left _ (List.mem_append_left _ (List.mem_append_left _ (List.mem_append_left _ (List.mem_append_left _ (List.mem_append_left _ (List.mem_append_right _ h))))))) (by decide +kernel))) (goodIn_sub (fun _ h => List.mem_append_left _ (List.mem_append_left _ (List.mem_append_left _ (List.mem_append_left _ (List.mem_append_left _ (List.mem_append_right _ h)))))) (by decide +kernel))) (goodIn_sub (fun _ h => List.mem_append_left _ (List.mem_append_left _ (List.mem_append_right _ h))) (by decide +kernel))
set_option maxRecDepth 20000 in
theorem gL_law_L_next : GoodIn wsL_law (va_wsS RL 135 yL_next wsL_next) := goodIn_app (goodIn_of _ (by decide +kernel)) ggL_law_L_next
set_option maxRecDepth 20000 in
theorem ggL_law_X3_next : GoodIn wsL_law wsX3_next := goodIn_ca (goodIn_r _ [294, 162, 163, 5, 164, 165, 166, 167, 295, 296, 297, 298, 161, 51, 55, 53, 237, 238, 239, 240, 241, 61, 242, 243, 244, 245, 65, 168, 169, 170, 171, 172, 687, 688, 689, 690, 691, 692, 693, 694, 695, 696, 697, 698, 699, 700, 701, 702, 703, 704, 705, 706, 707, 708, 709] (by decide +kernel) (by decide +kernel)) (goodIn_sub (fun _ h => List.mem_append_left _ (List.mem_append_left _ (List.mem_append_left _ (List.mem_append_left _ (List.mem_append_left _ (List.mem_append_left _ (List.mem_append_right _ h))))))) (by decide +kernel))
set_option maxRecDepth 20000 in
theorem gL_law_X3_next : GoodIn wsL_law (wsV RL 137 RX3 yX3_next wsX3_next) := goodIn_app (goodIn_of _ (by decide +kernel)) ggL_law_X3_next
set_option maxRecDepth 20000 in
theorem ggL_law_L_free : GoodIn wsL_law wsL_free := goodIn_ca (goodIn_ca (goodIn_r _ [301, 71, 302, 303, 304, 2, 305, 26, 204, 84, 85, 86, 77, 78, 87, 88, 89, 90, 91, 92, 25, 93, 94, 205, 206, 207, 208, 209, 210, 211, 212, 213, 214, 215, 216, 217, 218, 219, 220, 34, 287, 288, 289, 83, 290, 99, 102, 253, 254, 255, 256, 104, 100, 676, 677, 678, 679, 680, 681, 682, 683, 684, 685, 686, 710, 711, 712, 713, 714, 715, 716, 717, 718] (by decide +kernel) (by decide +kernel)) (goodIn_sub (fun _ h => List.mem_append_left _ (List.mem_append_left _ (List.mem_append_left _ (List.mem_append_left _ (List.mem_append_left _ (List.mem_append_left _ (List.mem_append_right _ h))))))) (by decide +kernel))) (goodIn_sub (fun _ h => List.mem_append_left _ (List.mem_append_left _ (List.mem_append_left _ (List.mem_append_left _ (List.mem_append_left _ (List.mem_append_right _ h)))))) (by decide +kernel))
set_option maxRecDepth 20000 in
theorem gL_law_L_free : GoodIn wsL_law (va_wsS RL 138 yL_free wsL_free) := goodIn_app (goodIn_of _ (by decide +kernel)) ggL_law_L_free
set_option maxRecDepth 20000 in
theorem ggL_law_X3_free : GoodIn wsL_law wsX3_free := goodIn_ca (goodIn_r _ [309, 161, 51, 55, 53, 162, 163, 5, 164, 165, 166, 167, 168, 169, 170, 171, 172, 237, 238, 239, 240, 241, 61, 242, 243, 244, 245, 65, 687, 688, 689, 690, 691, 692, 693, 694, 695, 696, 697, 698, 699, 700, 701, 702, 703, 704, 705, 706, 707, 708, 709] (by decide +kernel) (by decide +kernel)) (goodIn_sub (fun _ h => List.mem_append_left _ (List.mem_append_left _ (List.mem_append_left _ (List.mem_append_left _ (List.mem_append_left _ (List.mem_append_left _ (List.mem_append_right _ h))))))) (by decide +kernel))
set_option maxRecDepth 20000 in
theorem gL_law_X3_free : GoodIn wsL_law (wsV RL 140 RX3 yX3_free wsX3_free) := goodIn_app (goodIn_of _ (by decide +kernel)) ggL_law_X3_free
set_option maxRecDepth 20000 in
theorem ggL_law_L_assign : GoodIn wsL_law wsL_assign := goodIn_ca (goodIn_ca (goodIn_r _ [312, 71, 313, 314, 315, 2, 316, 18, 317, 318, 319, 77, 78, 87, 88, 89, 320, 321, 322, 676, 677, 678, 679, 680, 681, 682, 683, 684, 685, 686] (by decide +kernel) (by decide +kernel)) (goodIn_sub (fun _ h => List.mem_append_left _ (List.mem_append_left _ (List.mem_append_left _ (List.mem_append_left _ (List.mem_append_left _ (List.mem_append_left _ (List.mem_append_right _ h))))))) (by decide +kernel))) (goodIn_sub (fun _ h => List.mem_append_left _ (List.mem_append_left _ (List.mem_append_left _ (List.mem_append_left _ (List.mem_append_left _ (List.mem_append_right _ h)))))) (by decide +kernel))
set_option maxRecDepth 20000 in
theorem gL_law_L_assign : GoodIn wsL_law (va_wsS RL 141 yL_assign wsL_assign) := goodIn_app (goodIn_of _ (by decide +kernel)) ggL_law_L_assign
set_option maxRecDepth 20000 in
theorem ggL_law_X3_assign : GoodIn wsL_law wsX3_assign := goodIn_ca (goodIn_r _ [326, 58, 327, 328, 5, 329, 165, 166, 167, 330, 331, 332, 168, 169, 170, 171, 172, 687, 688, 689, 690, 691, 692, 693, 694, 695, 696, 697, 698, 699, 700, 701, 702, 703, 704, 705, 706, 707, 708, 709] (by decide +kernel) (by decide +kernel)) (goodIn_sub (fun _ h => List.mem_append_left _ (List.mem_append_left _ (List.mem_append_left _ (List.mem_append_left _ (List.mem_append_left _ (List.mem_append_left _ (List.mem_append_right _ h))))))) (by decide +kernel))
set_option maxRecDepth 20000 in
theorem gL_law_X3_assign : GoodIn wsL_law (wsV RL 144 RX3 yX3_assign wsX3_assign) := goodIn_app (goodIn_of _ (by decide +kernel)) ggL_law_X3_assign
set_option maxRecDepth 20000 in
theorem ggL_law_L_buy : GoodIn wsL_law wsL_buy := goodIn_ca (goodIn_ca (goodIn_ca (goodIn_r _ [335, 71, 72, 336, 337, 338, 2, 339, 79, 80, 19, 340, 20, 320, 321, 322, 77, 78, 87, 88, 89, 341, 342, 343, 676, 677, 678, 679, 680, 681, 682, 683, 684, 685, 686] (by decide +kernel) (by decide +kernel)) (goodIn_sub (fun _ h => List.mem_append_left _ (List.mem_append_left _ (List.mem_append_left _ (List.mem_append_left _ (List.mem_append_left _ (List.mem_append_left _ (List.mem_append_right _ h))))))) (by decide +kernel))) (goodIn_sub (fun _ h => List.mem_append_left _ (List.mem_append_left _ (List.mem_append_left _ (List.mem_append_left _ (List.mem_append_right _ h))))) (by decide +kernel))) (goodIn_sub (fun _ h => List.mem_append_left _ (List.mem_append_left _ (List.mem_append_left _ (List.mem_append_left _ (List.mem_append_left _ (List.mem_append_right _ h)))))) (by decide +kernel))
set_option maxRecDepth 20000 in
theorem gL_law_L_buy : GoodIn wsL_law (va_wsS RL 145 yL_buy wsL_buy) := goodIn_app (goodIn_of _ (by decide +kernel)) ggL_law_L_buy
set_option maxRecDepth 20000 in
theorem ggL_law_X3_buy : GoodIn wsL_law wsX3_buy := goodIn_ca (goodIn_r _ [347, 56, 348, 330, 331, 5, 332, 165, 166, 167, 168, 169, 170, 171, 172, 687, 688, 689, 690, 691, 692, 693, 694, 695, 696, 697, 698, 699, 700, 701, 702, 703, 704, 705, 706, 707, 708, 709] (by decide +kernel) (by decide +kernel)) (goodIn_sub (fun _ h => List.mem_append_left _ (List.mem_append_left _ (List.mem_append_left _ (List.mem_append_left _ (List.mem_append_left _ (List.mem_append_left _ (List.mem_append_right _ h))))))) (by decide +kernel))
set_option maxRecDepth 20000 in
theorem gL_law_X3_buy : GoodIn wsL_law (wsV RL 147 RX3 yX3_buy wsX3_buy) := goodIn_app (goodIn_of _ (by decide +kernel)) ggL_law_X3_buy
set_option maxRecDepth 20000 in
theorem ggL_law_L_lend : GoodIn wsL_law wsL_lend := goodIn_ca (goodIn_ca (goodIn_ca (goodIn_r _ [351, 71, 352, 353, 354, 355, 2, 356, 22, 357, 358, 359, 77, 78, 320, 321, 322, 87, 88, 89, 341, 342, 343, 360, 361, 362, 363, 364, 365, 19, 366, 367, 368, 369, 676, 677, 678, 679, 680, 681, 682, 683, 684, 685, 686] (by decide +kernel) (by decide +kernel)) (goodIn_sub (fun _ h => List.mem_append_left _ (List.mem_append_left _ (List.mem_append_left _ (List.mem_append_left _ (List.mem_append_left _ (List.mem_append_left _ (List.mem_append_right _ h))))))) (by decide +kernel))) (goodIn_sub (fun _ h => List.mem_append_left _ (List.mem_append_left _ (List.mem_append_left _ (List.mem_append_left _ (List.mem_append_left _ (List.mem_append_right _ h)))))) (by decide +kernel))) (goodIn_sub (fun _ h => List.mem_append_left _ (List.mem_append_right _ h)) (by decide +kernel))
set_option maxRecDepth 20000 in
theorem gL_law_L_lend : GoodIn wsL_law (va_wsS RL 148 yL_lend wsL_lend) := goodIn_app (goodIn_of _ (by decide +kernel)) ggL_law_L_lend
set_option maxRecDepth 20000 in
theorem ggL_law_X3_lend : GoodIn wsL_law wsX3_lend := goodIn_ca (goodIn_r _ [373, 56, 57, 374, 375, 5, 376, 330, 331, 332, 165, 166, 167, 168, 169, 170, 171, 172, 687, 688, 689, 690, 691, 692, 693, 694, 695, 696, 697, 698, 699, 700, 701, 702, 703, 704, 705, 706, 707, 708, 709] (by decide +kernel) (by decide +kernel)) (goodIn_sub (fun _ h => List.mem_append_left _ (List.mem_append_left _ (List.mem_append_left _ (List.mem_append_left _ (List.mem_append_left _ (List.mem_append_left _ (List.mem_append_right _ h))))))) (by decide +kernel))
set_option maxRecDepth 20000 in
theorem gL_law_X3_lend : GoodIn wsL_law (wsV RL 150 RX3 yX3_lend wsX3_lend) := goodIn_app (goodIn_of _ (by decide +kernel)) ggL_law_X3_lend
set_option maxRecDepth 20000 in
theorem ggL_law_L_giveBack : GoodIn wsL_law wsL_giveBack := goodIn_ca (goodIn_ca (goodIn_ca (goodIn_ca (goodIn_r _ [379, 71, 72, 352, 380, 381, 382, 2, 383, 79, 80, 22, 357, 358, 359, 77, 78, 320, 321, 322, 87, 88, 89, 341, 342, 343, 360, 361, 362, 363, 364, 365, 19, 366, 367, 368, 369, 676, 677, 678, 679, 680, 681, 682, 683, 684, 685, 686] (by decide +kernel) (by decide +kernel)) (goodIn_sub (fun _ h => List.mem_append_left _ (List.mem_append_left _ (List.mem_append_left _ (List.mem_append_left _ (List.mem_append_left _ (List.mem_append_left _ (List.mem_append_right _ h))))))) (by decide +kernel))) (goodIn_sub (fun _ h => List.mem_append_left _ (List.mem_append_left _ (List.mem_append_left _ (List.mem_append_left _ (List.mem_append_right _ h))))) (by decide +kernel))) (goodIn_sub (fun _ h => List.mem_append_left _ (List.mem_append_left _ (List.mem_append_left _ (List.mem_append_left _ (List.mem_append_left _ (List.mem_append_right _ h)))))) (by decide +kernel))) (goodIn_sub (fun _ h => List.mem_append_left _ (List.mem_append_right _ h)) (by decide +kernel))
set_option maxRecDepth 20000 in
theorem gL_law_L_giveBack : GoodIn wsL_law (va_wsS RL 151 yL_giveBack wsL_giveBack) := goodIn_app (goodIn_of _ (by decide +kernel)) ggL_law_L_giveBack
set_option maxRecDepth 20000 in
theorem ggL_law_X3_giveBack : GoodIn wsL_law wsX3_giveBack := goodIn_ca (goodIn_r _ [387, 57, 56, 374, 375, 5, 376, 330, 331, 332, 165, 166, 167, 168, 169, 170, 171, 172, 687, 688, 689, 690, 691, 692, 693, 694, 695, 696, 697, 698, 699, 700, 701, 702, 703, 704, 705, 706, 707, 708, 709] (by decide +kernel) (by decide +kernel)) (goodIn_sub (fun _ h => List.mem_append_left _ (List.mem_append_left _ (List.mem_append_left _ (List.mem_append_left _ (List.mem_append_left _ (List.mem_append_left _ (List.mem_append_right _ h))))))) (by decide +kernel))
set_option maxRecDepth 20000 in
theorem gL_law_X3_giveBack : GoodIn wsL_law (wsV RL 153 RX3 yX3_giveBack wsX3_giveBack) := goodIn_app (goodIn_of _ (by decide +kernel)) ggL_law_X3_giveBack
set_option maxRecDepth 20000 in
theorem ggL_law_L_minutes : GoodIn wsL_law wsL_minutes := goodIn_ca (goodIn_ca (goodIn_r _ [390, 71, 391, 392, 393, 2, 394, 19, 320, 321, 322, 77, 78, 87, 88, 89, 676, 677, 678, 679, 680, 681, 682, 683, 684, 685, 686] (by decide +kernel) (by decide +kernel)) (goodIn_sub (fun _ h => List.mem_append_left _ (List.mem_append_left _ (List.mem_append_left _ (List.mem_append_left _ (List.mem_append_left _ (List.mem_append_left _ (List.mem_append_right _ h))))))) (by decide +kernel))) (goodIn_sub (fun _ h => List.mem_append_left _ (List.mem_append_left _ (List.mem_append_left _ (List.mem_append_left _ (List.mem_append_left _ (List.mem_append_right _ h)))))) (by decide +kernel))
set_option maxRecDepth 20000 in
theorem gL_law_L_minutes : GoodIn wsL_law (va_wsS RL 154 yL_minutes wsL_minutes) := goodIn_app (goodIn_of _ (by decide +kernel)) ggL_law_L_minutes
set_option maxRecDepth 20000 in
theorem ggL_law_X3_minutes : GoodIn wsL_law wsX3_minutes := goodIn_ca (goodIn_r _ [398, 56, 330, 331, 5, 332, 165, 166, 167, 168, 169, 170, 171, 172, 687, 688, 689, 690, 691, 692, 693, 694, 695, 696, 697, 698, 699, 700, 701, 702, 703, 704, 705, 706, 707, 708, 709] (by decide +kernel) (by decide +kernel)) (goodIn_sub (fun _ h => List.mem_append_left _ (List.mem_append_left _ (List.mem_append_left _ (List.mem_append_left _ (List.mem_append_left _ (List.mem_append_left _ (List.mem_append_right _ h))))))) (by decide +kernel))
set_option maxRecDepth 20000 in
theorem gL_law_X3_minutes : GoodIn wsL_law (wsV RL 156 RX3 yX3_minutes wsX3_minutes) := goodIn_app (goodIn_of _ (by decide +kernel)) ggL_law_X3_minutes
set_option maxRecDepth 20000 in
theorem ggL_law_L_minutesBySessions : GoodIn wsL_law wsL_minutesBySessions := goodIn_ca (goodIn_ca (goodIn_r _ [401, 71, 402, 403, 404, 2, 405, 20, 22, 27, 406, 407, 320, 321, 322, 77, 78, 87, 88, 89, 90, 91, 92, 25, 93, 94, 205, 206, 207, 208, 209, 210, 211, 212, 213, 214, 215, 216, 217, 218, 219, 220, 34, 676, 677, 678, 679, 680, 681, 682, 683, 684, 685, 686, 719, 720, 721, 722, 723, 724, 725, 710, 711, 712] (by decide +kernel) (by decide +kernel)) (goodIn_sub (fun _ h => List.mem_append_left _ (List.mem_append_left _ (List.mem_append_left _ (List.mem_append_left _ (List.mem_append_left _ (List.mem_append_left _ (List.mem_append_right _ h))))))) (by decide +kernel))) (goodIn_sub (fun _ h => List.mem_append_left _ (List.mem_append_left _ (List.mem_append_left _ (List.mem_append_left _ (List.mem_append_left _ (List.mem_append_right _ h)))))) (by decide +kernel))
set_option maxRecDepth 20000 in
theorem gL_law_L_minutesBySessions : GoodIn wsL_law (va_wsS RL 157 yL_minutesBySessions wsL_minutesBySessions) := goodIn_app (goodIn_of _ (by decide +kernel)) ggL_law_L_minutesBySessions
set_option maxRecDepth 20000 in
theorem ggL_law_X3_minutesBySessions : GoodIn wsL_law wsX3_minutesBySessions := goodIn_ca (goodIn_r _ [411, 412, 396, 397, 5, 398, 56, 330, 331, 332, 165, 166, 167, 168, 169, 170, 171, 172, 687, 688, 689, 690, 691, 692, 693, 694, 695, 696, 697, 698, 699, 700, 701, 702, 703, 704, 705, 706, 707, 708, 709] (by decide +kernel) (by decide +kernel)) (goodIn_sub (fun _ h => List.mem_append_left _ (List.mem_append_left _ (List.mem_append_left _ (List.mem_append_left _ (List.mem_append_left _ (List.mem_append_left _ (List.mem_append_right _ h))))))) (by decide +kernel))
set_option maxRecDepth 20000 in
theorem gL_law_X3_minutesBySessions : GoodIn wsL_law (wsV RL 159 RX3 yX3_minutesBySessions wsX3_minutesBySessions) := goodIn_app (goodIn_of _ (by decide +kernel)) ggL_law_X3_minutesBySessions
set_option maxRecDepth 20000 in
theorem ggL_law_L_logIn : GoodIn wsL_law wsL_logIn := goodIn_ca (goodIn_ca (goodIn_ca (goodIn_ca (goodIn_ca (goodIn_r _ [415, 71, 72, 352, 275, 416, 417, 418, 2, 419, 79, 80, 27, 18, 197, 420, 421, 422, 28, 317, 318, 319, 77, 78, 87, 88, 89, 84, 85, 86, 423, 424, 425, 426, 406, 427, 90, 91, 92, 25, 93, 94, 205, 206, 207, 208, 209, 210, 211, 212, 213, 214, 215, 216, 217, 218, 219, 220, 34, 428, 429, 430, 431, 432, 360, 361, 362, 363, 364, 365, 19, 281, 282, 283, 284, 285, 286, 26, 204, 287, 288, 289, 83, 290, 99, 102, 253, 254, 255, 256, 104, 100, 433, 434, 435, 436, 12, 13, 14, 437, 438, 439, 440, 441, 442, 105, 106, 107, 108, 109, 110, 111, 112, 113, 114, 115, 116, 117, 118, 119, 120, 121, 122, 33, 123, 124, 125, 126, 127, 128, 129, 130, 131, 132, 133, 134, 135, 136, 137, 138, 139, 140, 141, 142, 143, 144, 145, 146, 147, 148, 149, 150, 151, 152, 153, 154, 155, 156, 676, 677, 678, 679, 680, 681, 682, 683, 684, 685, 686, 713, 714, 715, 716, 717, 718, 719, 720, 721, 722, 723, 724, 725, 710, 711, 712] (by decide +kernel) (by decide +kernel)) (goodIn_sub (fun _ h => List.mem_append_left _ (List.mem_append_left _ (List.mem_append_left _ (List.mem_append_left _ (List.mem_append_left _ (List.mem_append_left _ (List.mem_append_right _ h))))))) (by decide +kernel))) (goodIn_sub (fun _ h => List.mem_append_left _ (List.mem_append_left _ (List.mem_append_left _ (List.mem_append_left _ (List.mem_append_right _ h))))) (by decide +kernel))) (goodIn_sub (fun _ h => List.mem_append_left _ (List.mem_append_left _ (List.mem_append_left _ (List.mem_append_left _ (List.mem_append_left _ (List.mem_append_right _ h)))))) (by decide +kernel))) (goodIn_sub (fun _ h => List.mem_append_left _ (List.mem_append_right _ h)) (by decide +kernel))) (goodIn_sub (fun _ h => List.mem_append_left _ (List.mem_append_left _ (List.mem_append_right _ h))) (by decide +kernel))
set_option maxRecDepth 20000 in
theorem gL_law_L_logIn : GoodIn wsL_law (va_wsS RL 160 yL_logIn wsL_logIn) := goodIn_app (goodIn_of _ (by decide +kernel)) ggL_law_L_logIn
set_option maxRecDepth 20000 in
theorem ggL_law_X3_logIn : GoodIn wsL_law wsX3_logIn := goodIn_ca (goodIn_r _ [446, 241, 56, 58, 59, 60, 61, 62, 447, 63, 327, 328, 5, 329, 165, 166, 167, 162, 163, 164, 448, 449, 450, 451, 242, 243, 244, 245, 65, 295, 296, 297, 298, 161, 51, 55, 53, 237, 238, 239, 240, 168, 169, 170, 171, 172, 687, 688, 689, 690, 691, 692, 693, 694, 695, 696, 697, 698, 699, 700, 701, 702, 703, 704, 705, 706, 707, 708, 709] (by decide +kernel) (by decide +kernel)) (goodIn_sub (fun _ h => List.mem_append_left _ (List.mem_append_left _ (List.mem_append_left _ (List.mem_append_left _ (List.mem_append_left _ (List.mem_append_left _ (List.mem_append_right _ h))))))) (by decide +kernel))
set_option maxRecDepth 20000 in
theorem gL_law_X3_logIn : GoodIn wsL_law (wsV RL 162 RX3 yX3_logIn wsX3_logIn) := goodIn_app (goodIn_of _ (by decide +kernel)) ggL_law_X3_logIn
set_option maxRecDepth 20000 in
theorem ggL_law_L_logOut : GoodIn wsL_law wsL_logOut := goodIn_ca (goodIn_ca (goodIn_ca (goodIn_r _ [454, 191, 72, 455, 456, 457, 2, 458, 459, 460, 461, 462, 463, 464, 465, 466, 202, 203, 27, 406, 90, 91, 92, 25, 93, 94, 87, 88, 89, 205, 206, 207, 208, 209, 210, 211, 212, 213, 214, 215, 216, 217, 218, 219, 220, 34, 467, 468, 469, 79, 80, 428, 429, 430, 422, 431, 432, 470, 471, 472, 473, 474, 475, 197, 221, 222, 223, 83, 224, 99, 100, 476, 477, 478, 479, 437, 676, 677, 678, 679, 680, 681, 682, 683, 684, 685, 686, 710, 711, 712, 719, 720, 721, 722, 723, 724, 725, 713, 714, 715, 716, 717, 718] (by decide +kernel) (by decide +kernel)) (goodIn_sub (fun _ h => List.mem_append_left _ (List.mem_append_left _ (List.mem_append_left _ (List.mem_append_left _ (List.mem_append_left _ (List.mem_append_left _ (List.mem_append_right _ h))))))) (by decide +kernel))) (goodIn_sub (fun _ h => List.mem_append_left _ (List.mem_append_left _ (List.mem_append_left _ (List.mem_append_right _ h)))) (by decide +kernel))) (goodIn_sub (fun _ h => List.mem_append_left _ (List.mem_append_left _ (List.mem_append_left _ (List.mem_append_left _ (List.mem_append_right _ h))))) (by decide +kernel))
set_option maxRecDepth 20000 in
theorem gL_law_L_logOut : GoodIn wsL_law (va_wsS RL 163 yL_logOut wsL_logOut) := goodIn_app (goodIn_of _ (by decide +kernel)) ggL_law_L_logOut
set_option maxRecDepth 20000 in
theorem ggL_law_X3_logOut : GoodIn wsL_law wsX3_logOut := goodIn_ca (goodIn_r _ [483, 65, 484, 485, 486, 5, 487, 488, 489, 490, 491, 241, 165, 166, 167, 242, 243, 244, 245, 168, 169, 170, 171, 172, 233, 234, 235, 236, 161, 55, 237, 238, 239, 240, 61, 492, 493, 494, 495, 64, 687, 688, 689, 690, 691, 692, 693, 694, 695, 696, 697, 698, 699, 700, 701, 702, 703, 704, 705, 706, 707, 708, 709] (by decide +kernel) (by decide +kernel)) (goodIn_sub (fun _ h => List.mem_append_left _ (List.mem_append_left _ (List.mem_append_left _ (List.mem_append_left _ (List.mem_append_left _ (List.mem_append_left _ (List.mem_append_right _ h))))))) (by decide +kernel))
set_option maxRecDepth 20000 in
theorem gL_law_X3_logOut : GoodIn wsL_law (wsV RL 165 RX3 yX3_logOut wsX3_logOut) := goodIn_app (goodIn_of _ (by decide +kernel)) ggL_law_X3_logOut
set_option maxRecDepth 20000 in
theorem ggL_law_L_use : GoodIn wsL_law wsL_use := goodIn_ca (goodIn_ca (goodIn_ca (goodIn_r _ [498, 191, 72, 499, 500, 501, 2, 502, 28, 503, 459, 460, 461, 462, 463, 464, 465, 466, 202, 203, 27, 406, 90, 91, 92, 25, 93, 94, 87, 88, 89, 205, 206, 207, 208, 209, 210, 211, 212, 213, 214, 215, 216, 217, 218, 219, 220, 34, 467, 468, 469, 79, 80, 428, 429, 430, 422, 431, 432, 676, 677, 678, 679, 680, 681, 682, 683, 684, 685, 686, 719, 720, 721, 722, 723, 724, 725, 710, 711, 712] (by decide +kernel) (by decide +kernel)) (goodIn_sub (fun _ h => List.mem_append_left _ (List.mem_append_left _ (List.mem_append_left _ (List.mem_append_left _ (List.mem_append_left _ (List.mem_append_left _ (List.mem_append_right _ h))))))) (by decide +kernel))) (goodIn_sub (fun _ h => List.mem_append_left _ (List.mem_append_left _ (List.mem_append_left _ (List.mem_append_right _ h)))) (by decide +kernel))) (goodIn_sub (fun _ h => List.mem_append_left _ (List.mem_append_left _ (List.mem_append_left _ (List.mem_append_left _ (List.mem_append_right _ h))))) (by decide +kernel))
set_option maxRecDepth 20000 in
theorem gL_law_L_use : GoodIn wsL_law (va_wsS RL 166 yL_use wsL_use) := goodIn_app (goodIn_of _ (by decide +kernel)) ggL_law_L_use
set_option maxRecDepth 20000 in
theorem ggL_law_X3_use : GoodIn wsL_law wsX3_use := goodIn_ca (goodIn_r _ [507, 63, 447, 484, 485, 486, 5, 487, 488, 489, 490, 491, 241, 165, 166, 167, 242, 243, 244, 245, 65, 168, 169, 170, 171, 172, 687, 688, 689, 690, 691, 692, 693, 694, 695, 696, 697, 698, 699, 700, 701, 702, 703, 704, 705, 706, 707, 708, 709] (by decide +kernel) (by decide +kernel)) (goodIn_sub (fun _ h => List.mem_append_left _ (List.mem_append_left _ (List.mem_append_left _ (List.mem_append_left _ (List.mem_append_left _ (List.mem_append_left _ (List.mem_append_right _ h))))))) (by decide +kernel))
set_option maxRecDepth 20000 in
theorem gL_law_X3_use : GoodIn wsL_law (wsV RL 168 RX3 yX3_use wsX3_use) := goodIn_app (goodIn_of _ (by decide +kernel)) ggL_law_X3_use
set_option maxRecDepth 20000 in
theorem ggL_law_L_takeOver : GoodIn wsL_law wsL_takeOver := goodIn_ca (goodIn_ca (goodIn_ca (goodIn_ca (goodIn_ca (goodIn_r _ [510, 191, 71, 72, 352, 511, 512, 513, 2, 514, 77, 78, 515, 18, 463, 464, 465, 466, 202, 203, 27, 406, 90, 91, 92, 25, 93, 94, 87, 88, 89, 205, 206, 207, 208, 209, 210, 211, 212, 213, 214, 215, 216, 217, 218, 219, 220, 34, 317, 318, 319, 467, 468, 469, 79, 80, 428, 429, 430, 422, 431, 432, 360, 361, 362, 363, 364, 365, 19, 516, 517, 518, 519, 28, 503, 719, 720, 721, 722, 723, 724, 725, 676, 677, 678, 679, 680, 681, 682, 683, 684, 685, 686, 710, 711, 712] (by decide +kernel) (by decide +kernel)) (goodIn_sub (fun _ h => List.mem_append_left _ (List.mem_append_left _ (List.mem_append_left _ (List.mem_append_left _ (List.mem_append_left _ (List.mem_append_left _ (List.mem_append_right _ h))))))) (by decide +kernel))) (goodIn_sub (fun _ h => List.mem_append_left _ (List.mem_append_left _ (List.mem_append_left _ (List.mem_append_left _ (List.mem_append_left _ (List.mem_append_right _ h)))))) (by decide +kernel))) (goodIn_sub (fun _ h => List.mem_append_left _ (List.mem_append_left _ (List.mem_append_left _ (List.mem_append_right _ h)))) (by decide +kernel))) (goodIn_sub (fun _ h => List.mem_append_left _ (List.mem_append_left _ (List.mem_append_left _ (List.mem_append_left _ (List.mem_append_right _ h))))) (by decide +kernel))) (goodIn_sub (fun _ h => List.mem_append_left _ (List.mem_append_right _ h)) (by decide +kernel))
set_option maxRecDepth 20000 in
theorem gL_law_L_takeOver : GoodIn wsL_law (va_wsS RL 169 yL_takeOver wsL_takeOver) := goodIn_app (goodIn_of _ (by decide +kernel)) ggL_law_L_takeOver
set_option maxRecDepth 20000 in
theorem ggL_law_X3_takeOver : GoodIn wsL_law wsX3_takeOver := goodIn_ca (goodIn_r _ [523, 60, 56, 58, 63, 447, 488, 489, 490, 5, 491, 241, 165, 166, 167, 327, 328, 329, 242, 243, 244, 245, 65, 168, 169, 170, 171, 172, 687, 688, 689, 690, 691, 692, 693, 694, 695, 696, 697, 698, 699, 700, 701, 702, 703, 704, 705, 706, 707, 708, 709] (by decide +kernel) (by decide +kernel)) (goodIn_sub (fun _ h => List.mem_append_left _ (List.mem_append_left _ (List.mem_append_left _ (List.mem_append_left _ (List.mem_append_left _ (List.mem_append_left _ (List.mem_append_right _ h))))))) (by decide +kernel))
set_option maxRecDepth 20000 in
theorem gL_law_X3_takeOver : GoodIn wsL_law (wsV RL 171 RX3 yX3_takeOver wsX3_takeOver) := goodIn_app (goodIn_of _ (by decide +kernel)) ggL_law_X3_takeOver
set_option maxRecDepth 20000 in
theorem ggL_law_L_handBack : GoodIn wsL_law wsL_handBack := goodIn_ca (goodIn_ca (goodIn_ca (goodIn_r _ [526, 191, 72, 527, 528, 529, 2, 530, 79, 80, 515, 427, 459, 460, 461, 462, 463, 464, 465, 466, 202, 203, 27, 406, 90, 91, 92, 25, 93, 94, 87, 88, 89, 205, 206, 207, 208, 209, 210, 211, 212, 213, 214, 215, 216, 217, 218, 219, 220, 34, 467, 468, 469, 428, 429, 430, 422, 431, 432, 516, 517, 518, 519, 28, 503, 719, 720, 721, 722, 723, 724, 725, 676, 677, 678, 679, 680, 681, 682, 683, 684, 685, 686, 710, 711, 712] (by decide +kernel) (by decide +kernel)) (goodIn_sub (fun _ h => List.mem_append_left _ (List.mem_append_left _ (List.mem_append_left _ (List.mem_append_left _ (List.mem_append_left _ (List.mem_append_left _ (List.mem_append_right _ h))))))) (by decide +kernel))) (goodIn_sub (fun _ h => List.mem_append_left _ (List.mem_append_left _ (List.mem_append_left _ (List.mem_append_left _ (List.mem_append_right _ h))))) (by decide +kernel))) (goodIn_sub (fun _ h => List.mem_append_left _ (List.mem_append_left _ (List.mem_append_left _ (List.mem_append_right _ h)))) (by decide +kernel))
set_option maxRecDepth 20000 in
theorem gL_law_L_handBack : GoodIn wsL_law (va_wsS RL 172 yL_handBack wsL_handBack) := goodIn_app (goodIn_of _ (by decide +kernel)) ggL_law_L_handBack
set_option maxRecDepth 20000 in
theorem ggL_law_X3_handBack : GoodIn wsL_law wsX3_handBack := goodIn_ca (goodIn_r _ [534, 60, 59, 63, 447, 484, 485, 486, 5, 487, 488, 489, 490, 491, 241, 165, 166, 167, 242, 243, 244, 245, 65, 168, 169, 170, 171, 172, 687, 688, 689, 690, 691, 692, 693, 694, 695, 696, 697, 698, 699, 700, 701, 702, 703, 704, 705, 706, 707, 708, 709] (by decide +kernel) (by decide +kernel)) (goodIn_sub (fun _ h => List.mem_append_left _ (List.mem_append_left _ (List.mem_append_left _ (List.mem_append_left _ (List.mem_append_left _ (List.mem_append_left _ (List.mem_append_right _ h))))))) (by decide +kernel))
set_option maxRecDepth 20000 in
theorem gL_law_X3_handBack : GoodIn wsL_law (wsV RL 174 RX3 yX3_handBack wsX3_handBack) := goodIn_app (goodIn_of _ (by decide +kernel)) ggL_law_X3_handBack
set_option maxRecDepth 20000 in
theorem ggL_law_L_print : GoodIn wsL_law wsL_print := goodIn_ca (goodIn_ca (goodIn_ca (goodIn_ca (goodIn_ca (goodIn_r _ [537, 191, 71, 72, 352, 538, 539, 540, 2, 541, 77, 78, 18, 515, 29, 28, 503, 475, 542, 17, 463, 464, 465, 466, 202, 203, 27, 406, 90, 91, 92, 25, 93, 94, 87, 88, 89, 205, 206, 207, 208, 209, 210, 211, 212, 213, 214, 215, 216, 217, 218, 219, 220, 34, 467, 468, 469, 79, 80, 428, 429, 430, 422, 431, 432, 360, 361, 362, 363, 364, 365, 19, 543, 544, 545, 546, 407, 676, 677, 678, 679, 680, 681, 682, 683, 684, 685, 686, 719, 720, 721, 722, 723, 724, 725, 713, 714, 715, 716, 717, 718, 710, 711, 712] (by decide +kernel) (by decide +kernel)) (goodIn_sub (fun _ h => List.mem_append_left _ (List.mem_append_left _ (List.mem_append_left _ (List.mem_append_left _ (List.mem_append_left _ (List.mem_append_left _ (List.mem_append_right _ h))))))) (by decide +kernel))) (goodIn_sub (fun _ h => List.mem_append_left _ (List.mem_append_left _ (List.mem_append_left _ (List.mem_append_left _ (List.mem_append_left _ (List.mem_append_right _ h)))))) (by decide +kernel))) (goodIn_sub (fun _ h => List.mem_append_left _ (List.mem_append_left _ (List.mem_append_left _ (List.mem_append_right _ h)))) (by decide +kernel))) (goodIn_sub (fun _ h => List.mem_append_left _ (List.mem_append_left _ (List.mem_append_left _ (List.mem_append_left _ (List.mem_append_right _ h))))) (by decide +kernel))) (goodIn_sub (fun _ h => List.mem_append_left _ (List.mem_append_right _ h)) (by decide +kernel))
set_option maxRecDepth 20000 in
theorem gL_law_L_print : GoodIn wsL_law (va_wsS RL 175 yL_print wsL_print) := goodIn_app (goodIn_of _ (by decide +kernel)) ggL_law_L_print
set_option maxRecDepth 20000 in
theorem ggL_law_X3_print : GoodIn wsL_law wsX3_print := goodIn_ca (goodIn_r _ [550, 56, 58, 60, 551, 63, 447, 66, 52, 61, 488, 489, 490, 5, 491, 241, 165, 166, 167, 242, 243, 244, 245, 65, 168, 169, 170, 171, 172, 552, 553, 554, 555, 64, 556, 687, 688, 689, 690, 691, 692, 693, 694, 695, 696, 697, 698, 699, 700, 701, 702, 703, 704, 705, 706, 707, 708, 709] (by decide +kernel) (by decide +kernel)) (goodIn_sub (fun _ h => List.mem_append_left _ (List.mem_append_left _ (List.mem_append_left _ (List.mem_append_left _ (List.mem_append_left _ (List.mem_append_left _ (List.mem_append_right _ h))))))) (by decide +kernel))
set_option maxRecDepth 20000 in
theorem gL_law_X3_print : GoodIn wsL_law (wsV RL 177 RX3 yX3_print wsX3_print) := goodIn_app (goodIn_of _ (by decide +kernel)) ggL_law_X3_print
set_option maxRecDepth 20000 in
theorem ggL_law_L_state : GoodIn wsL_law wsL_state := goodIn_ca (goodIn_ca (goodIn_r _ [559, 191, 560, 561, 562, 2, 563, 515, 427, 474, 463, 464, 465, 466, 202, 203, 27, 406, 90, 91, 92, 25, 93, 94, 87, 88, 89, 205, 206, 207, 208, 209, 210, 211, 212, 213, 214, 215, 216, 217, 218, 219, 220, 34, 428, 429, 430, 422, 431, 432, 719, 720, 721, 722, 723, 724, 725, 676, 677, 678, 679, 680, 681, 682, 683, 684, 685, 686, 710, 711, 712] (by decide +kernel) (by decide +kernel)) (goodIn_sub (fun _ h => List.mem_append_left _ (List.mem_append_left _ (List.mem_append_left _ (List.mem_append_left _ (List.mem_append_left _ (List.mem_append_left _ (List.mem_append_right _ h))))))) (by decide +kernel))) (goodIn_sub (fun _ h => List.mem_append_left _ (List.mem_append_left _ (List.mem_append_left _ (List.mem_append_right _ h)))) (by decide +kernel))
set_option maxRecDepth 20000 in
theorem gL_law_L_state : GoodIn wsL_law (va_wsS RL 178 yL_state wsL_state) := goodIn_app (goodIn_of _ (by decide +kernel)) ggL_law_L_state
set_option maxRecDepth 20000 in
theorem ggL_law_X3_state : GoodIn wsL_law wsX3_state := goodIn_ca (goodIn_r _ [567, 65, 60, 59, 488, 489, 490, 5, 491, 241, 165, 166, 167, 168, 169, 170, 171, 172, 242, 243, 244, 245, 687, 688, 689, 690, 691, 692, 693, 694, 695, 696, 697, 698, 699, 700, 701, 702, 703, 704, 705, 706, 707, 708, 709] (by decide +kernel) (by decide +kernel)) (goodIn_sub (fun _ h => List.mem_append_left _ (List.mem_append_left _ (List.mem_append_left _ (List.mem_append_left _ (List.mem_append_left _ (List.mem_append_left _ (List.mem_append_right _ h))))))) (by decide +kernel))
set_option maxRecDepth 20000 in
theorem gL_law_X3_state : GoodIn wsL_law (wsV RL 180 RX3 yX3_state wsX3_state) := goodIn_app (goodIn_of _ (by decide +kernel)) ggL_law_X3_state
set_option maxRecDepth 20000 in
theorem ggL_law_L_machineOf : GoodIn wsL_law wsL_machineOf := goodIn_ca (goodIn_ca (goodIn_r _ [570, 191, 571, 572, 573, 2, 574, 475, 280, 463, 464, 465, 466, 202, 203, 27, 406, 90, 91, 92, 25, 93, 94, 87, 88, 89, 205, 206, 207, 208, 209, 210, 211, 212, 213, 214, 215, 216, 217, 218, 219, 220, 34, 719, 720, 721, 722, 723, 724, 725, 713, 714, 715, 716, 717, 718, 676, 677, 678, 679, 680, 681, 682, 683, 684, 685, 686, 710, 711, 712] (by decide +kernel) (by decide +kernel)) (goodIn_sub (fun _ h => List.mem_append_left _ (List.mem_append_left _ (List.mem_append_left _ (List.mem_append_left _ (List.mem_append_left _ (List.mem_append_left _ (List.mem_append_right _ h))))))) (by decide +kernel))) (goodIn_sub (fun _ h => List.mem_append_left _ (List.mem_append_left _ (List.mem_append_left _ (List.mem_append_right _ h)))) (by decide +kernel))
set_option maxRecDepth 20000 in
theorem gL_law_L_machineOf : GoodIn wsL_law (va_wsS RL 181 yL_machineOf wsL_machineOf) := goodIn_app (goodIn_of _ (by decide +kernel)) ggL_law_L_machineOf
set_option maxRecDepth 20000 in
theorem ggL_law_X3_machineOf : GoodIn wsL_law wsX3_machineOf := goodIn_ca (goodIn_r _ [578, 61, 488, 489, 490, 5, 491, 241, 165, 166, 167, 168, 169, 170, 171, 172, 687, 688, 689, 690, 691, 692, 693, 694, 695, 696, 697, 698, 699, 700, 701, 702, 703, 704, 705, 706, 707, 708, 709] (by decide +kernel) (by decide +kernel)) (goodIn_sub (fun _ h => List.mem_append_left _ (List.mem_append_left _ (List.mem_append_left _ (List.mem_append_left _ (List.mem_append_left _ (List.mem_append_left _ (List.mem_append_right _ h))))))) (by decide +kernel))
set_option maxRecDepth 20000 in
theorem gL_law_X3_machineOf : GoodIn wsL_law (wsV RL 183 RX3 yX3_machineOf wsX3_machineOf) := goodIn_app (goodIn_of _ (by decide +kernel)) ggL_law_X3_machineOf
set_option maxRecDepth 20000 in
theorem ggL_law_L_userOf : GoodIn wsL_law wsL_userOf := goodIn_ca (goodIn_ca (goodIn_r _ [581, 191, 582, 583, 584, 2, 585, 515, 463, 464, 465, 466, 202, 203, 27, 406, 90, 91, 92, 25, 93, 94, 87, 88, 89, 205, 206, 207, 208, 209, 210, 211, 212, 213, 214, 215, 216, 217, 218, 219, 220, 34, 719, 720, 721, 722, 723, 724, 725, 676, 677, 678, 679, 680, 681, 682, 683, 684, 685, 686, 710, 711, 712] (by decide +kernel) (by decide +kernel)) (goodIn_sub (fun _ h => List.mem_append_left _ (List.mem_append_left _ (List.mem_append_left _ (List.mem_append_left _ (List.mem_append_left _ (List.mem_append_left _ (List.mem_append_right _ h))))))) (by decide +kernel))) (goodIn_sub (fun _ h => List.mem_append_left _ (List.mem_append_left _ (List.mem_append_left _ (List.mem_append_right _ h)))) (by decide +kernel))
set_option maxRecDepth 20000 in
theorem gL_law_L_userOf : GoodIn wsL_law (va_wsS RL 184 yL_userOf wsL_userOf) := goodIn_app (goodIn_of _ (by decide +kernel)) ggL_law_L_userOf
set_option maxRecDepth 20000 in
theorem ggL_law_X3_userOf : GoodIn wsL_law wsX3_userOf := goodIn_ca (goodIn_r _ [589, 60, 488, 489, 490, 5, 491, 241, 165, 166, 167, 168, 169, 170, 171, 172, 687, 688, 689, 690, 691, 692, 693, 694, 695, 696, 697, 698, 699, 700, 701, 702, 703, 704, 705, 706, 707, 708, 709] (by decide +kernel) (by decide +kernel)) (goodIn_sub (fun _ h => List.mem_append_left _ (List.mem_append_left _ (List.mem_append_left _ (List.mem_append_left _ (List.mem_append_left _ (List.mem_append_left _ (List.mem_append_right _ h))))))) (by decide +kernel))
set_option maxRecDepth 20000 in
theorem gL_law_X3_userOf : GoodIn wsL_law (wsV RL 186 RX3 yX3_userOf wsX3_userOf) := goodIn_app (goodIn_of _ (by decide +kernel)) ggL_law_X3_userOf
set_option maxRecDepth 20000 in
theorem ggL_law_L_charged : GoodIn wsL_law wsL_charged := goodIn_ca (goodIn_ca (goodIn_ca (goodIn_r _ [592, 191, 71, 593, 594, 595, 2, 596, 407, 463, 464, 465, 466, 202, 203, 27, 406, 90, 91, 92, 25, 93, 94, 87, 88, 89, 205, 206, 207, 208, 209, 210, 211, 212, 213, 214, 215, 216, 217, 218, 219, 220, 34, 320, 321, 322, 77, 78, 719, 720, 721, 722, 723, 724, 725, 676, 677, 678, 679, 680, 681, 682, 683, 684, 685, 686, 710, 711, 712] (by decide +kernel) (by decide +kernel)) (goodIn_sub (fun _ h => List.mem_append_left _ (List.mem_append_left _ (List.mem_append_left _ (List.mem_append_left _ (List.mem_append_left _ (List.mem_append_left _ (List.mem_append_right _ h))))))) (by decide +kernel))) (goodIn_sub (fun _ h => List.mem_append_left _ (List.mem_append_left _ (List.mem_append_left _ (List.mem_append_right _ h)))) (by decide +kernel))) (goodIn_sub (fun _ h => List.mem_append_left _ (List.mem_append_left _ (List.mem_append_left _ (List.mem_append_left _ (List.mem_append_left _ (List.mem_append_right _ h)))))) (by decide +kernel))
set_option maxRecDepth 20000 in
theorem gL_law_L_charged : GoodIn wsL_law (va_wsS RL 187 yL_charged wsL_charged) := goodIn_app (goodIn_of _ (by decide +kernel)) ggL_law_L_charged
set_option maxRecDepth 20000 in
theorem ggL_law_X3_charged : GoodIn wsL_law wsX3_charged := goodIn_ca (goodIn_r _ [600, 64, 488, 489, 490, 5, 491, 241, 165, 166, 167, 330, 331, 332, 168, 169, 170, 171, 172, 687, 688, 689, 690, 691, 692, 693, 694, 695, 696, 697, 698, 699, 700, 701, 702, 703, 704, 705, 706, 707, 708, 709] (by decide +kernel) (by decide +kernel)) (goodIn_sub (fun _ h => List.mem_append_left _ (List.mem_append_left _ (List.mem_append_left _ (List.mem_append_left _ (List.mem_append_left _ (List.mem_append_left _ (List.mem_append_right _ h))))))) (by decide +kernel))
set_option maxRecDepth 20000 in
theorem gL_law_X3_charged : GoodIn wsL_law (wsV RL 189 RX3 yX3_charged wsX3_charged) := goodIn_app (goodIn_of _ (by decide +kernel)) ggL_law_X3_charged
set_option maxRecDepth 20000 in
theorem ggL_law_L_endsIn : GoodIn wsL_law wsL_endsIn := goodIn_ca (goodIn_ca (goodIn_ca (goodIn_r _ [603, 191, 72, 604, 605, 606, 2, 607, 475, 608, 503, 15, 28, 609, 16, 610, 151, 125, 152, 611, 124, 126, 459, 460, 461, 462, 463, 464, 465, 466, 202, 203, 27, 406, 90, 91, 92, 25, 93, 94, 87, 88, 89, 205, 206, 207, 208, 209, 210, 211, 212, 213, 214, 215, 216, 217, 218, 219, 220, 34, 467, 468, 469, 79, 80, 428, 429, 430, 422, 431, 432, 719, 720, 721, 722, 723, 724, 725, 713, 714, 715, 716, 717, 718, 676, 677, 678, 679, 680, 681, 682, 683, 684, 685, 686, 710, 711, 712] (by decide +kernel) (by decide +kernel)) (goodIn_sub (fun _ h => List.mem_append_left _ (List.mem_append_left _ (List.mem_append_left _ (List.mem_append_left _ (List.mem_append_left _ (List.mem_append_left _ (List.mem_append_right _ h))))))) (by decide +kernel))) (goodIn_sub (fun _ h => List.mem_append_left _ (List.mem_append_left _ (List.mem_append_left _ (List.mem_append_right _ h)))) (by decide +kernel))) (goodIn_sub (fun _ h => List.mem_append_left _ (List.mem_append_left _ (List.mem_append_left _ (List.mem_append_left _ (List.mem_append_right _ h))))) (by decide +kernel))
set_option maxRecDepth 20000 in
theorem gL_law_L_endsIn : GoodIn wsL_law (va_wsS RL 190 yL_endsIn wsL_endsIn) := goodIn_app (goodIn_of _ (by decide +kernel)) ggL_law_L_endsIn
set_option maxRecDepth 20000 in
theorem ggL_law_X3_endsIn : GoodIn wsL_law wsX3_endsIn := goodIn_ca (goodIn_r _ [615, 51, 61, 49, 447, 63, 50, 62, 484, 485, 486, 5, 487, 488, 489, 490, 491, 241, 165, 166, 167, 242, 243, 244, 245, 65, 168, 169, 170, 171, 172, 687, 688, 689, 690, 691, 692, 693, 694, 695, 696, 697, 698, 699, 700, 701, 702, 703, 704, 705, 706, 707, 708, 709] (by decide +kernel) (by decide +kernel)) (goodIn_sub (fun _ h => List.mem_append_left _ (List.mem_append_left _ (List.mem_append_left _ (List.mem_append_left _ (List.mem_append_left _ (List.mem_append_left _ (List.mem_append_right _ h))))))) (by decide +kernel))
set_option maxRecDepth 20000 in
theorem gL_law_X3_endsIn : GoodIn wsL_law (wsV RL 192 RX3 yX3_endsIn wsX3_endsIn) := goodIn_app (goodIn_of _ (by decide +kernel)) ggL_law_X3_endsIn
set_option maxRecDepth 20000 in
theorem ggL_law_L_pass : GoodIn wsL_law wsL_pass := goodIn_ca (goodIn_ca (goodIn_r _ [618, 71, 619, 620, 621, 2, 622, 77, 78, 28, 87, 88, 89, 623, 624, 625, 626, 27, 406, 90, 91, 92, 25, 93, 94, 205, 206, 207, 208, 209, 210, 211, 212, 213, 214, 215, 216, 217, 218, 219, 220, 34, 428, 429, 430, 422, 431, 432, 627, 628, 629, 630, 19, 18, 515, 475, 608, 503, 15, 609, 16, 543, 544, 545, 546, 407, 470, 471, 472, 473, 474, 197, 221, 222, 223, 83, 224, 99, 100, 676, 677, 678, 679, 680, 681, 682, 683, 684, 685, 686, 710, 711, 712, 719, 720, 721, 722, 723, 724, 725, 713, 714, 715, 716, 717, 718] (by decide +kernel) (by decide +kernel)) (goodIn_sub (fun _ h => List.mem_append_left _ (List.mem_append_left _ (List.mem_append_left _ (List.mem_append_left _ (List.mem_append_left _ (List.mem_append_left _ (List.mem_append_right _ h))))))) (by decide +kernel))) (goodIn_sub (fun _ h => List.mem_append_left _ (List.mem_append_left _ (List.mem_append_left _ (List.mem_append_left _ (List.mem_append_left _ (List.mem_append_right _ h)))))) (by decide +kernel))
set_option maxRecDepth 20000 in
theorem gL_law_L_pass : GoodIn wsL_law (va_wsS RL 193 yL_pass wsL_pass) := goodIn_app (goodIn_of _ (by decide +kernel)) ggL_law_L_pass
set_option maxRecDepth 20000 in
theorem ggL_law_X3_pass : GoodIn wsL_law wsX3_pass := goodIn_ca (goodIn_r _ [634, 447, 241, 165, 166, 5, 167, 168, 169, 170, 171, 172, 242, 243, 244, 245, 65, 635, 636, 637, 638, 51, 61, 56, 58, 60, 63, 49, 62, 50, 552, 553, 554, 555, 64, 556, 233, 234, 235, 236, 161, 55, 237, 238, 239, 240, 687, 688, 689, 690, 691, 692, 693, 694, 695, 696, 697, 698, 699, 700, 701, 702, 703, 704, 705, 706, 707, 708, 709] (by decide +kernel) (by decide +kernel)) (goodIn_sub (fun _ h => List.mem_append_left _ (List.mem_append_left _ (List.mem_append_left _ (List.mem_append_left _ (List.mem_append_left _ (List.mem_append_left _ (List.mem_append_right _ h))))))) (by decide +kernel))
set_option maxRecDepth 20000 in
theorem gL_law_X3_pass : GoodIn wsL_law (wsV RL 195 RX3 yX3_pass wsX3_pass) := goodIn_app (goodIn_of _ (by decide +kernel)) ggL_law_X3_pass
set_option maxRecDepth 20000 in
theorem ggL_law_X2_time : GoodIn wsL_law wsX2_time := goodIn_r _ [642, 28, 676, 677, 678, 679, 680, 681, 682, 683, 684, 685, 686] (by decide +kernel) (by decide +kernel)
set_option maxRecDepth 20000 in
theorem gL_law_X2_time : GoodIn wsL_law (wsV RL 196 RX2 yX2_time wsX2_time) := goodIn_app (goodIn_of _ (by decide +kernel)) ggL_law_X2_time
set_option maxRecDepth 20000 in
theorem ggL_law_X3_time : GoodIn wsL_law wsX3_time := goodIn_r _ [646, 172, 447, 687, 688, 689, 690, 691, 692, 693, 694, 695, 696, 697, 698, 699, 700, 701, 702, 703, 704, 705, 706, 707, 708, 709] (by decide +kernel) (by decide +kernel)
set_option maxRecDepth 20000 in
theorem gL_law_X3_time : GoodIn wsL_law (wsV RL 199 RX3 yX3_time wsX3_time) := goodIn_app (goodIn_of _ (by decide +kernel)) ggL_law_X3_time
set_option maxRecDepth 20000 in
theorem ggL_law_L_pageShare : GoodIn wsL_law wsL_pageShare := goodIn_ca (goodIn_ca (goodIn_r _ [649, 650, 651, 652, 653, 2, 654, 655, 656, 29, 657, 658, 659, 660, 27, 406, 90, 91, 92, 25, 93, 94, 205, 206, 207, 208, 209, 210, 211, 212, 213, 214, 215, 216, 217, 218, 219, 220, 34, 476, 477, 478, 422, 479, 437, 676, 677, 678, 679, 680, 681, 682, 683, 684, 685, 686, 710, 711, 712, 719, 720, 721, 722, 723, 724, 725] (by decide +kernel) (by decide +kernel)) (goodIn_sub (fun _ h => List.mem_append_left _ (List.mem_append_left _ (List.mem_append_left _ (List.mem_append_left _ (List.mem_append_left _ (List.mem_append_left _ (List.mem_append_right _ h))))))) (by decide +kernel))) (goodIn_sub (fun _ h => List.mem_append_right _ h) (by decide +kernel))
set_option maxRecDepth 20000 in
theorem gL_law_L_pageShare : GoodIn wsL_law (va_wsS RL 200 yL_pageShare wsL_pageShare) := goodIn_app (goodIn_of _ (by decide +kernel)) ggL_law_L_pageShare
set_option maxRecDepth 20000 in
theorem ggL_law_X3_pageShare : GoodIn wsL_law wsX3_pageShare := goodIn_r _ [664, 556, 551, 168, 169, 170, 5, 171, 172, 687, 688, 689, 690, 691, 692, 693, 694, 695, 696, 697, 698, 699, 700, 701, 702, 703, 704, 705, 706, 707, 708, 709] (by decide +kernel) (by decide +kernel)
set_option maxRecDepth 20000 in
theorem gL_law_X3_pageShare : GoodIn wsL_law (wsV RL 203 RX3 yX3_pageShare wsX3_pageShare) := goodIn_app (goodIn_of _ (by decide +kernel)) ggL_law_X3_pageShare
set_option maxRecDepth 20000 in
theorem ggL_law_L_meanCharge : GoodIn wsL_law wsL_meanCharge := goodIn_ca (goodIn_ca (goodIn_r _ [667, 650, 668, 669, 670, 2, 671, 655, 656, 27, 90, 91, 92, 25, 93, 94, 657, 658, 659, 660, 406, 205, 206, 207, 208, 209, 210, 211, 212, 213, 214, 215, 216, 217, 218, 219, 220, 34, 476, 477, 478, 422, 479, 437, 676, 677, 678, 679, 680, 681, 682, 683, 684, 685, 686, 710, 711, 712, 719, 720, 721, 722, 723, 724, 725] (by decide +kernel) (by decide +kernel)) (goodIn_sub (fun _ h => List.mem_append_left _ (List.mem_append_left _ (List.mem_append_left _ (List.mem_append_left _ (List.mem_append_left _ (List.mem_append_left _ (List.mem_append_right _ h))))))) (by decide +kernel))) (goodIn_sub (fun _ h => List.mem_append_right _ h) (by decide +kernel))
set_option maxRecDepth 20000 in
theorem gL_law_L_meanCharge : GoodIn wsL_law (va_wsS RL 204 yL_meanCharge wsL_meanCharge) := goodIn_app (goodIn_of _ (by decide +kernel)) ggL_law_L_meanCharge
set_option maxRecDepth 20000 in
theorem ggL_law_X3_meanCharge : GoodIn wsL_law wsX3_meanCharge := goodIn_r _ [675, 241, 556, 168, 169, 170, 5, 171, 172, 687, 688, 689, 690, 691, 692, 693, 694, 695, 696, 697, 698, 699, 700, 701, 702, 703, 704, 705, 706, 707, 708, 709] (by decide +kernel) (by decide +kernel)
set_option maxRecDepth 20000 in
theorem gL_law_X3_meanCharge : GoodIn wsL_law (wsV RL 206 RX3 yX3_meanCharge wsX3_meanCharge) := goodIn_app (goodIn_of _ (by decide +kernel)) ggL_law_X3_meanCharge
