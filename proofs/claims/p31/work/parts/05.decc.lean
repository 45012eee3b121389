theorem dL_agrees_155 : decode cL_agrees 155 = .ok (.if_icmp .ne 7, 3) := by decide +kernel
theorem dL_agrees_158 : decode cL_agrees 158 = .ok (.iconst 1, 1) := by decide +kernel
theorem dL_agrees_159 : decode cL_agrees 159 = .ok (.goto 4, 3) := by decide +kernel
theorem dL_agrees_162 : decode cL_agrees 162 = .ok (.iconst 0, 1) := by decide +kernel
theorem dL_agrees_163 : decode cL_agrees 163 = .ok (.istore_n 2, 1) := by decide +kernel
theorem dL_agrees_164 : decode cL_agrees 164 = .ok (.iconst 0, 1) := by decide +kernel
theorem dL_agrees_165 : decode cL_agrees 165 = .ok (.istore 4, 2) := by decide +kernel
theorem dL_agrees_167 : decode cL_agrees 167 = .ok (.iload 4, 2) := by decide +kernel
theorem dL_agrees_169 : decode cL_agrees 169 = .ok (.iconst 4, 1) := by decide +kernel
theorem dL_agrees_170 : decode cL_agrees 170 = .ok (.if_icmp .ge 38, 3) := by decide +kernel
theorem dL_agrees_173 : decode cL_agrees 173 = .ok (.iload_n 2, 1) := by decide +kernel
theorem dL_agrees_174 : decode cL_agrees 174 = .ok (.ifCond .eq 34, 3) := by decide +kernel
theorem dL_agrees_177 : decode cL_agrees 177 = .ok (.aload_n 0, 1) := by decide +kernel
theorem dL_agrees_178 : decode cL_agrees 178 = .ok (.iload_n 3, 1) := by decide +kernel
theorem dL_agrees_179 : decode cL_agrees 179 = .ok (.iload 4, 2) := by decide +kernel
theorem dL_agrees_181 : decode cL_agrees 181 = .ok (.invokevirtual 60, 3) := by decide +kernel
theorem dL_agrees_184 : decode cL_agrees 184 = .ok (.aload_n 1, 1) := by decide +kernel
theorem dL_agrees_185 : decode cL_agrees 185 = .ok (.getfield 64, 3) := by decide +kernel
theorem dL_agrees_188 : decode cL_agrees 188 = .ok (.iload_n 3, 1) := by decide +kernel
theorem dL_agrees_189 : decode cL_agrees 189 = .ok (.aaload, 1) := by decide +kernel
theorem dL_agrees_190 : decode cL_agrees 190 = .ok (.iload 4, 2) := by decide +kernel
theorem dL_agrees_192 : decode cL_agrees 192 = .ok (.iaload, 1) := by decide +kernel
theorem dL_agrees_193 : decode cL_agrees 193 = .ok (.if_icmp .ne 7, 3) := by decide +kernel
theorem dL_agrees_196 : decode cL_agrees 196 = .ok (.iconst 1, 1) := by decide +kernel
theorem dL_agrees_197 : decode cL_agrees 197 = .ok (.goto 4, 3) := by decide +kernel
theorem dL_agrees_200 : decode cL_agrees 200 = .ok (.iconst 0, 1) := by decide +kernel
theorem dL_agrees_201 : decode cL_agrees 201 = .ok (.istore_n 2, 1) := by decide +kernel
theorem dL_agrees_202 : decode cL_agrees 202 = .ok (.iinc 4 1, 3) := by decide +kernel
theorem dL_agrees_205 : decode cL_agrees 205 = .ok (.goto (-38), 3) := by decide +kernel
theorem dL_agrees_208 : decode cL_agrees 208 = .ok (.iinc 3 1, 3) := by decide +kernel
theorem dL_agrees_211 : decode cL_agrees 211 = .ok (.goto (-126), 3) := by decide +kernel
theorem dL_agrees_214 : decode cL_agrees 214 = .ok (.iload_n 2, 1) := by decide +kernel
theorem dL_agrees_215 : decode cL_agrees 215 = .ok (.ifCond .eq 59, 3) := by decide +kernel
theorem dL_agrees_218 : decode cL_agrees 218 = .ok (.aload_n 1, 1) := by decide +kernel
theorem dL_agrees_219 : decode cL_agrees 219 = .ok (.getfield 67, 3) := by decide +kernel
theorem dL_agrees_222 : decode cL_agrees 222 = .ok (.ifCond .eq 22, 3) := by decide +kernel
theorem dL_agrees_225 : decode cL_agrees 225 = .ok (.aload_n 0, 1) := by decide +kernel
theorem dL_agrees_226 : decode cL_agrees 226 = .ok (.invokevirtual 70, 3) := by decide +kernel
theorem dL_agrees_229 : decode cL_agrees 229 = .ok (.aload_n 1, 1) := by decide +kernel
theorem dL_agrees_230 : decode cL_agrees 230 = .ok (.getfield 74, 3) := by decide +kernel
theorem dL_agrees_233 : decode cL_agrees 233 = .ok (.i2f, 1) := by decide +kernel
theorem dL_agrees_234 : decode cL_agrees 234 = .ok (.aload_n 1, 1) := by decide +kernel
theorem dL_agrees_235 : decode cL_agrees 235 = .ok (.getfield 67, 3) := by decide +kernel
theorem dL_agrees_238 : decode cL_agrees 238 = .ok (.i2f, 1) := by decide +kernel
theorem dL_agrees_239 : decode cL_agrees 239 = .ok (.fdiv, 1) := by decide +kernel
theorem dL_agrees_240 : decode cL_agrees 240 = .ok (.fcmp .l, 1) := by decide +kernel
theorem dL_agrees_241 : decode cL_agrees 241 = .ok (.ifCond .ne 33, 3) := by decide +kernel
theorem dL_agrees_244 : decode cL_agrees 244 = .ok (.aload_n 1, 1) := by decide +kernel
theorem dL_agrees_245 : decode cL_agrees 245 = .ok (.getfield 36, 3) := by decide +kernel
theorem dL_agrees_248 : decode cL_agrees 248 = .ok (.ifCond .eq 22, 3) := by decide +kernel
theorem dL_agrees_251 : decode cL_agrees 251 = .ok (.aload_n 0, 1) := by decide +kernel
theorem dL_agrees_252 : decode cL_agrees 252 = .ok (.invokevirtual 77, 3) := by decide +kernel
theorem dL_agrees_255 : decode cL_agrees 255 = .ok (.aload_n 1, 1) := by decide +kernel
theorem dL_agrees_256 : decode cL_agrees 256 = .ok (.getfield 67, 3) := by decide +kernel
theorem dL_agrees_259 : decode cL_agrees 259 = .ok (.i2d, 1) := by decide +kernel
theorem dL_agrees_260 : decode cL_agrees 260 = .ok (.aload_n 1, 1) := by decide +kernel
theorem dL_agrees_261 : decode cL_agrees 261 = .ok (.getfield 36, 3) := by decide +kernel
theorem dL_agrees_264 : decode cL_agrees 264 = .ok (.i2d, 1) := by decide +kernel
theorem dL_agrees_265 : decode cL_agrees 265 = .ok (.ddiv, 1) := by decide +kernel
theorem dL_agrees_266 : decode cL_agrees 266 = .ok (.dcmp .l, 1) := by decide +kernel
theorem dL_agrees_267 : decode cL_agrees 267 = .ok (.ifCond .ne 7, 3) := by decide +kernel
theorem dL_agrees_270 : decode cL_agrees 270 = .ok (.iconst 1, 1) := by decide +kernel
theorem dL_agrees_271 : decode cL_agrees 271 = .ok (.goto 4, 3) := by decide +kernel
theorem dL_agrees_274 : decode cL_agrees 274 = .ok (.iconst 0, 1) := by decide +kernel
theorem dL_agrees_275 : decode cL_agrees 275 = .ok (.ireturn, 1) := by decide +kernel
set_option maxRecDepth 20000 in
theorem ggL_logs_X3_isLive : GoodIn wsL_logs wsX3_isLive := goodIn_r _ [7, 8, 162, 163, 164, 165, 166, 167, 168, 169, 170, 171, 172, 173, 174, 175] (by decide +kernel) (by decide +kernel)
set_option maxRecDepth 20000 in
theorem gL_logs_X3_isLive : GoodIn wsL_logs (wsV RL 49 RX3 yX3_isLive wsX3_isLive) := goodIn_app (goodIn_of _ (by decide +kernel)) ggL_logs_X3_isLive
set_option maxRecDepth 20000 in
theorem ggL_logs_X2_logIn : GoodIn wsL_logs wsX2_logIn := goodIn_ca (goodIn_ca (goodIn_ca (goodIn_ca (goodIn_r _ [13, 14, 15, 16, 17, 18, 19, 20, 21, 22, 23, 24, 12, 25, 26, 27, 28, 29, 30, 31, 32, 33, 34, 35, 36, 37, 38, 39, 40, 41, 42, 43, 44, 45, 46, 47, 48, 49, 50, 51, 52, 53, 54, 55, 56, 57, 58, 59, 60, 61, 62, 63, 64, 65, 66, 67, 68, 69, 70, 71, 72, 73, 74, 75, 76, 77, 78, 79, 80, 81, 82, 83, 84, 85, 86, 87, 88, 89, 90, 91, 92, 93, 94, 95, 96, 97, 98, 99, 100, 101, 102, 103, 104, 105, 106, 107, 108, 109, 110, 111, 112, 113, 114, 115, 116, 117, 118, 119, 120, 121, 122, 123, 124, 125, 126, 127, 128, 129, 130, 131, 132, 133, 134, 135, 136, 137, 138, 139, 140, 141, 142, 143, 144, 145, 146, 147, 148, 149, 150, 151, 152, 153, 154, 155, 156, 157, 158, 159, 160, 161, 176, 177, 178, 179, 180, 181, 182, 183, 184, 185, 186, 187, 188, 189, 190, 191, 192, 193, 194, 195, 196, 197, 198, 199, 200, 201, 202] (by decide +kernel) (by decide +kernel)) (goodIn_sub (fun _ h => List.mem_cons_of_mem _ (List.mem_append_left _ (List.mem_append_left _ (List.mem_append_left _ (List.mem_append_right _ h))))) (by decide +kernel))) (goodIn_sub (fun _ h => List.mem_cons_of_mem _ (List.mem_append_left _ (List.mem_append_left _ (List.mem_append_right _ h)))) (by decide +kernel))) (goodIn_sub (fun _ h => List.mem_cons_of_mem _ (List.mem_append_left _ (List.mem_append_right _ h))) (by decide +kernel))) (goodIn_sub (fun _ h => List.mem_cons_of_mem _ (List.mem_append_right _ h)) (by decide +kernel))
set_option maxRecDepth 20000 in
theorem gL_logs_X2_logIn : GoodIn wsL_logs (wsV RL 81 RX2 yX2_logIn wsX2_logIn) := goodIn_app (goodIn_of _ (by decide +kernel)) ggL_logs_X2_logIn
theorem dL_logs_0 : decode cL_logs 0 = .ok (.aload_n 1, 1) := by decide +kernel
theorem dL_logs_1 : decode cL_logs 1 = .ok (.getfield 36, 3) := by decide +kernel
theorem dL_logs_4 : decode cL_logs 4 = .ok (.bipush 40, 2) := by decide +kernel
theorem dL_logs_6 : decode cL_logs 6 = .ok (.if_icmp .ne 7, 3) := by decide +kernel
theorem dL_logs_9 : decode cL_logs 9 = .ok (.iconst 1, 1) := by decide +kernel
theorem dL_logs_10 : decode cL_logs 10 = .ok (.goto 4, 3) := by decide +kernel
theorem dL_logs_13 : decode cL_logs 13 = .ok (.iconst 0, 1) := by decide +kernel
theorem dL_logs_14 : decode cL_logs 14 = .ok (.istore_n 3, 1) := by decide +kernel
theorem dL_logs_15 : decode cL_logs 15 = .ok (.iconst 0, 1) := by decide +kernel
theorem dL_logs_16 : decode cL_logs 16 = .ok (.istore 4, 2) := by decide +kernel
theorem dL_logs_18 : decode cL_logs 18 = .ok (.iload 4, 2) := by decide +kernel
theorem dL_logs_20 : decode cL_logs 20 = .ok (.aload_n 1, 1) := by decide +kernel
theorem dL_logs_21 : decode cL_logs 21 = .ok (.getfield 36, 3) := by decide +kernel
theorem dL_logs_24 : decode cL_logs 24 = .ok (.if_icmp .ge 39, 3) := by decide +kernel
theorem dL_logs_27 : decode cL_logs 27 = .ok (.iload_n 3, 1) := by decide +kernel
theorem dL_logs_28 : decode cL_logs 28 = .ok (.ifCond .ne 23, 3) := by decide +kernel
theorem dL_logs_31 : decode cL_logs 31 = .ok (.aload_n 1, 1) := by decide +kernel
theorem dL_logs_32 : decode cL_logs 32 = .ok (.iload 4, 2) := by decide +kernel
theorem dL_logs_34 : decode cL_logs 34 = .ok (.invokevirtual 49, 3) := by decide +kernel
theorem dL_logs_37 : decode cL_logs 37 = .ok (.ifCond .eq 18, 3) := by decide +kernel
theorem dL_logs_40 : decode cL_logs 40 = .ok (.aload_n 1, 1) := by decide +kernel
theorem dL_logs_41 : decode cL_logs 41 = .ok (.getfield 57, 3) := by decide +kernel
theorem dL_logs_44 : decode cL_logs 44 = .ok (.iload 4, 2) := by decide +kernel
theorem dL_logs_46 : decode cL_logs 46 = .ok (.iaload, 1) := by decide +kernel
theorem dL_logs_47 : decode cL_logs 47 = .ok (.iload_n 2, 1) := by decide +kernel
theorem dL_logs_48 : decode cL_logs 48 = .ok (.if_icmp .ne 7, 3) := by decide +kernel
theorem dL_logs_51 : decode cL_logs 51 = .ok (.iconst 1, 1) := by decide +kernel
theorem dL_logs_52 : decode cL_logs 52 = .ok (.goto 4, 3) := by decide +kernel
theorem dL_logs_55 : decode cL_logs 55 = .ok (.iconst 0, 1) := by decide +kernel
theorem dL_logs_56 : decode cL_logs 56 = .ok (.istore_n 3, 1) := by decide +kernel
theorem dL_logs_57 : decode cL_logs 57 = .ok (.iinc 4 1, 3) := by decide +kernel
theorem dL_logs_60 : decode cL_logs 60 = .ok (.goto (-42), 3) := by decide +kernel
theorem dL_logs_63 : decode cL_logs 63 = .ok (.aload_n 0, 1) := by decide +kernel
theorem dL_logs_64 : decode cL_logs 64 = .ok (.iload_n 2, 1) := by decide +kernel
theorem dL_logs_65 : decode cL_logs 65 = .ok (.iconst 0, 1) := by decide +kernel
theorem dL_logs_66 : decode cL_logs 66 = .ok (.invokevirtual 81, 3) := by decide +kernel
theorem dL_logs_69 : decode cL_logs 69 = .ok (.istore 4, 2) := by decide +kernel
theorem dL_logs_71 : decode cL_logs 71 = .ok (.iload_n 3, 1) := by decide +kernel
theorem dL_logs_72 : decode cL_logs 72 = .ok (.ifCond .ne 26, 3) := by decide +kernel
theorem dL_logs_75 : decode cL_logs 75 = .ok (.aload_n 1, 1) := by decide +kernel
theorem dL_logs_76 : decode cL_logs 76 = .ok (.getfield 30, 3) := by decide +kernel
theorem dL_logs_79 : decode cL_logs 79 = .ok (.aload_n 1, 1) := by decide +kernel
theorem dL_logs_80 : decode cL_logs 80 = .ok (.getfield 84, 3) := by decide +kernel
theorem dL_logs_83 : decode cL_logs 83 = .ok (.iload_n 2, 1) := by decide +kernel
theorem dL_logs_84 : decode cL_logs 84 = .ok (.iaload, 1) := by decide +kernel
theorem dL_logs_85 : decode cL_logs 85 = .ok (.iaload, 1) := by decide +kernel
theorem dL_logs_86 : decode cL_logs 86 = .ok (.ifCond .eq 12, 3) := by decide +kernel
theorem dL_logs_89 : decode cL_logs 89 = .ok (.iload 4, 2) := by decide +kernel
theorem dL_logs_91 : decode cL_logs 91 = .ok (.aload_n 1, 1) := by decide +kernel
theorem dL_logs_92 : decode cL_logs 92 = .ok (.getfield 36, 3) := by decide +kernel
theorem dL_logs_95 : decode cL_logs 95 = .ok (.if_icmp .eq 5, 3) := by decide +kernel
theorem dL_logs_98 : decode cL_logs 98 = .ok (.iconst 0, 1) := by decide +kernel
theorem dL_logs_99 : decode cL_logs 99 = .ok (.ireturn, 1) := by decide +kernel
theorem dL_logs_100 : decode cL_logs 100 = .ok (.aload_n 1, 1) := by decide +kernel
theorem dL_logs_101 : decode cL_logs 101 = .ok (.getfield 57, 3) := by decide +kernel
theorem dL_logs_104 : decode cL_logs 104 = .ok (.iload 4, 2) := by decide +kernel
theorem dL_logs_106 : decode cL_logs 106 = .ok (.iload_n 2, 1) := by decide +kernel
theorem dL_logs_107 : decode cL_logs 107 = .ok (.iastore, 1) := by decide +kernel
theorem dL_logs_108 : decode cL_logs 108 = .ok (.aload_n 1, 1) := by decide +kernel
theorem dL_logs_109 : decode cL_logs 109 = .ok (.getfield 42, 3) := by decide +kernel
theorem dL_logs_112 : decode cL_logs 112 = .ok (.iload 4, 2) := by decide +kernel
theorem dL_logs_114 : decode cL_logs 114 = .ok (.iload_n 2, 1) := by decide +kernel
theorem dL_logs_115 : decode cL_logs 115 = .ok (.iastore, 1) := by decide +kernel
theorem dL_logs_116 : decode cL_logs 116 = .ok (.aload_n 1, 1) := by decide +kernel
theorem dL_logs_117 : decode cL_logs 117 = .ok (.getfield 87, 3) := by decide +kernel
theorem dL_logs_120 : decode cL_logs 120 = .ok (.iload 4, 2) := by decide +kernel
theorem dL_logs_122 : decode cL_logs 122 = .ok (.aload_n 1, 1) := by decide +kernel
theorem dL_logs_123 : decode cL_logs 123 = .ok (.getfield 15, 3) := by decide +kernel
theorem dL_logs_126 : decode cL_logs 126 = .ok (.iastore, 1) := by decide +kernel
theorem dL_logs_127 : decode cL_logs 127 = .ok (.aload_n 1, 1) := by decide +kernel
theorem dL_logs_128 : decode cL_logs 128 = .ok (.getfield 90, 3) := by decide +kernel
theorem dL_logs_131 : decode cL_logs 131 = .ok (.iload 4, 2) := by decide +kernel
theorem dL_logs_133 : decode cL_logs 133 = .ok (.aload_n 1, 1) := by decide +kernel
theorem dL_logs_134 : decode cL_logs 134 = .ok (.getfield 15, 3) := by decide +kernel
theorem dL_logs_137 : decode cL_logs 137 = .ok (.iastore, 1) := by decide +kernel
theorem dL_logs_138 : decode cL_logs 138 = .ok (.aload_n 1, 1) := by decide +kernel
theorem dL_logs_139 : decode cL_logs 139 = .ok (.dup, 1) := by decide +kernel
theorem dL_logs_140 : decode cL_logs 140 = .ok (.getfield 36, 3) := by decide +kernel
theorem dL_logs_143 : decode cL_logs 143 = .ok (.iconst 1, 1) := by decide +kernel
theorem dL_logs_144 : decode cL_logs 144 = .ok (.iadd, 1) := by decide +kernel
theorem dL_logs_145 : decode cL_logs 145 = .ok (.putfield 36, 3) := by decide +kernel
theorem dL_logs_148 : decode cL_logs 148 = .ok (.iconst 1, 1) := by decide +kernel
theorem dL_logs_149 : decode cL_logs 149 = .ok (.ireturn, 1) := by decide +kernel
theorem dL_logs_150 : decode cL_logs 150 = .ok (.astore 4, 2) := by decide +kernel
theorem dL_logs_152 : decode cL_logs 152 = .ok (.iload_n 3, 1) := by decide +kernel
theorem dL_logs_153 : decode cL_logs 153 = .ok (.ireturn, 1) := by decide +kernel
theorem dL_logs_154 : decode cL_logs 154 = .ok (.astore 4, 2) := by decide +kernel
theorem dL_logs_156 : decode cL_logs 156 = .ok (.iload_n 3, 1) := by decide +kernel
theorem dL_logs_157 : decode cL_logs 157 = .ok (.ifCond .ne 21, 3) := by decide +kernel
theorem dL_logs_160 : decode cL_logs 160 = .ok (.aload_n 1, 1) := by decide +kernel
theorem dL_logs_161 : decode cL_logs 161 = .ok (.getfield 30, 3) := by decide +kernel
theorem dL_logs_164 : decode cL_logs 164 = .ok (.aload_n 1, 1) := by decide +kernel
theorem dL_logs_165 : decode cL_logs 165 = .ok (.getfield 84, 3) := by decide +kernel
theorem dL_logs_168 : decode cL_logs 168 = .ok (.iload_n 2, 1) := by decide +kernel
theorem dL_logs_169 : decode cL_logs 169 = .ok (.iaload, 1) := by decide +kernel
theorem dL_logs_170 : decode cL_logs 170 = .ok (.iaload, 1) := by decide +kernel
theorem dL_logs_171 : decode cL_logs 171 = .ok (.ifCond .ne 7, 3) := by decide +kernel
theorem dL_logs_174 : decode cL_logs 174 = .ok (.iconst 1, 1) := by decide +kernel
theorem dL_logs_175 : decode cL_logs 175 = .ok (.goto 4, 3) := by decide +kernel
theorem dL_logs_178 : decode cL_logs 178 = .ok (.iconst 0, 1) := by decide +kernel
theorem dL_logs_179 : decode cL_logs 179 = .ok (.ireturn, 1) := by decide +kernel
set_option maxRecDepth 20000 in
theorem ggL_takes_X2_takeOver : GoodIn wsL_takes wsX2_takeOver := goodIn_ca (goodIn_ca (goodIn_ca (goodIn_ca (goodIn_r _ [8, 9, 10, 11, 12, 13, 14, 15, 7, 16, 17, 18, 19, 20, 21, 22, 23, 24, 25, 26, 27, 28, 29, 30, 31, 32, 33, 34, 35, 36, 37, 38, 39, 40, 41, 42, 43, 44, 45, 46, 47, 48, 49, 50, 51, 52, 53, 54, 55, 56, 57, 58, 59, 60, 61, 62, 63, 64, 65, 66, 67, 68, 69, 70, 71, 72, 73, 94, 95, 96, 97, 98, 99, 100, 101, 102, 103, 104, 105, 106, 107, 108, 109, 110, 111, 112, 113, 114] (by decide +kernel) (by decide +kernel)) (goodIn_sub (fun _ h => List.mem_cons_of_mem _ (List.mem_append_left _ (List.mem_append_left _ (List.mem_append_left _ (List.mem_append_right _ h))))) (by decide +kernel))) (goodIn_sub (fun _ h => List.mem_cons_of_mem _ (List.mem_append_left _ (List.mem_append_left _ (List.mem_append_right _ h)))) (by decide +kernel))) (goodIn_sub (fun _ h => List.mem_cons_of_mem _ (List.mem_append_left _ (List.mem_append_right _ h))) (by decide +kernel))) (goodIn_sub (fun _ h => List.mem_cons_of_mem _ (List.mem_append_right _ h)) (by decide +kernel))
set_option maxRecDepth 20000 in
theorem gL_takes_X2_takeOver : GoodIn wsL_takes (wsV RL 97 RX2 yX2_takeOver wsX2_takeOver) := goodIn_app (goodIn_of _ (by decide +kernel)) ggL_takes_X2_takeOver
set_option maxRecDepth 20000 in
theorem ggL_takes_X3_isLive : GoodIn wsL_takes wsX3_isLive := goodIn_r _ [78, 79, 80, 81, 82, 83, 84, 85, 86, 87, 88, 89, 90, 91, 92, 93] (by decide +kernel) (by decide +kernel)
set_option maxRecDepth 20000 in
theorem gL_takes_X3_isLive : GoodIn wsL_takes (wsV RL 49 RX3 yX3_isLive wsX3_isLive) := goodIn_app (goodIn_of _ (by decide +kernel)) ggL_takes_X3_isLive
theorem dL_takes_0 : decode cL_takes 0 = .ok (.aload_n 1, 1) := by decide +kernel
theorem dL_takes_1 : decode cL_takes 1 = .ok (.getfield 42, 3) := by decide +kernel
theorem dL_takes_4 : decode cL_takes 4 = .ok (.iload_n 2, 1) := by decide +kernel
theorem dL_takes_5 : decode cL_takes 5 = .ok (.iaload, 1) := by decide +kernel
theorem dL_takes_6 : decode cL_takes 6 = .ok (.istore 4, 2) := by decide +kernel
theorem dL_takes_8 : decode cL_takes 8 = .ok (.aload_n 0, 1) := by decide +kernel
theorem dL_takes_9 : decode cL_takes 9 = .ok (.iload_n 2, 1) := by decide +kernel
theorem dL_takes_10 : decode cL_takes 10 = .ok (.iload_n 3, 1) := by decide +kernel
theorem dL_takes_11 : decode cL_takes 11 = .ok (.invokevirtual 97, 3) := by decide +kernel
theorem dL_takes_14 : decode cL_takes 14 = .ok (.istore 5, 2) := by decide +kernel
theorem dL_takes_16 : decode cL_takes 16 = .ok (.aload_n 1, 1) := by decide +kernel
theorem dL_takes_17 : decode cL_takes 17 = .ok (.iload_n 2, 1) := by decide +kernel
theorem dL_takes_18 : decode cL_takes 18 = .ok (.invokevirtual 49, 3) := by decide +kernel
theorem dL_takes_21 : decode cL_takes 21 = .ok (.ifCond .eq 27, 3) := by decide +kernel
theorem dL_takes_24 : decode cL_takes 24 = .ok (.iload_n 3, 1) := by decide +kernel
theorem dL_takes_25 : decode cL_takes 25 = .ok (.iload 4, 2) := by decide +kernel
theorem dL_takes_27 : decode cL_takes 27 = .ok (.if_icmp .eq 21, 3) := by decide +kernel
theorem dL_takes_30 : decode cL_takes 30 = .ok (.aload_n 1, 1) := by decide +kernel
theorem dL_takes_31 : decode cL_takes 31 = .ok (.getfield 30, 3) := by decide +kernel
theorem dL_takes_34 : decode cL_takes 34 = .ok (.aload_n 1, 1) := by decide +kernel
theorem dL_takes_35 : decode cL_takes 35 = .ok (.getfield 84, 3) := by decide +kernel
theorem dL_takes_38 : decode cL_takes 38 = .ok (.iload_n 3, 1) := by decide +kernel
theorem dL_takes_39 : decode cL_takes 39 = .ok (.iaload, 1) := by decide +kernel
theorem dL_takes_40 : decode cL_takes 40 = .ok (.iaload, 1) := by decide +kernel
theorem dL_takes_41 : decode cL_takes 41 = .ok (.ifCond .le 7, 3) := by decide +kernel
theorem dL_takes_44 : decode cL_takes 44 = .ok (.iconst 1, 1) := by decide +kernel
theorem dL_takes_45 : decode cL_takes 45 = .ok (.goto 4, 3) := by decide +kernel
theorem dL_takes_48 : decode cL_takes 48 = .ok (.iconst 0, 1) := by decide +kernel
theorem dL_takes_49 : decode cL_takes 49 = .ok (.istore 6, 2) := by decide +kernel
theorem dL_takes_51 : decode cL_takes 51 = .ok (.aload_n 1, 1) := by decide +kernel
theorem dL_takes_52 : decode cL_takes 52 = .ok (.getfield 42, 3) := by decide +kernel
theorem dL_takes_55 : decode cL_takes 55 = .ok (.iload_n 2, 1) := by decide +kernel
theorem dL_takes_56 : decode cL_takes 56 = .ok (.iload_n 3, 1) := by decide +kernel
theorem dL_takes_57 : decode cL_takes 57 = .ok (.iastore, 1) := by decide +kernel
theorem dL_takes_58 : decode cL_takes 58 = .ok (.aload_n 1, 1) := by decide +kernel
theorem dL_takes_59 : decode cL_takes 59 = .ok (.getfield 90, 3) := by decide +kernel
theorem dL_takes_62 : decode cL_takes 62 = .ok (.iload_n 2, 1) := by decide +kernel
theorem dL_takes_63 : decode cL_takes 63 = .ok (.aload_n 1, 1) := by decide +kernel
theorem dL_takes_64 : decode cL_takes 64 = .ok (.getfield 15, 3) := by decide +kernel
theorem dL_takes_67 : decode cL_takes 67 = .ok (.iastore, 1) := by decide +kernel
theorem dL_takes_68 : decode cL_takes 68 = .ok (.iload 6, 2) := by decide +kernel
theorem dL_takes_70 : decode cL_takes 70 = .ok (.ifCond .eq 14, 3) := by decide +kernel
theorem dL_takes_73 : decode cL_takes 73 = .ok (.iload 5, 2) := by decide +kernel
theorem dL_takes_75 : decode cL_takes 75 = .ok (.iload 4, 2) := by decide +kernel
theorem dL_takes_77 : decode cL_takes 77 = .ok (.if_icmp .ne 7, 3) := by decide +kernel
theorem dL_takes_80 : decode cL_takes 80 = .ok (.iconst 1, 1) := by decide +kernel
theorem dL_takes_81 : decode cL_takes 81 = .ok (.goto 4, 3) := by decide +kernel
theorem dL_takes_84 : decode cL_takes 84 = .ok (.iconst 0, 1) := by decide +kernel
theorem dL_takes_85 : decode cL_takes 85 = .ok (.ireturn, 1) := by decide +kernel
theorem dL_takes_86 : decode cL_takes 86 = .ok (.astore 5, 2) := by decide +kernel
theorem dL_takes_88 : decode cL_takes 88 = .ok (.iload_n 3, 1) := by decide +kernel
theorem dL_takes_89 : decode cL_takes 89 = .ok (.iload 4, 2) := by decide +kernel
theorem dL_takes_91 : decode cL_takes 91 = .ok (.if_icmp .ne 7, 3) := by decide +kernel
theorem dL_takes_94 : decode cL_takes 94 = .ok (.iconst 1, 1) := by decide +kernel
theorem dL_takes_95 : decode cL_takes 95 = .ok (.goto 4, 3) := by decide +kernel
theorem dL_takes_98 : decode cL_takes 98 = .ok (.iconst 0, 1) := by decide +kernel
theorem dL_takes_99 : decode cL_takes 99 = .ok (.ireturn, 1) := by decide +kernel
theorem dL_takes_100 : decode cL_takes 100 = .ok (.astore 5, 2) := by decide +kernel
theorem dL_takes_102 : decode cL_takes 102 = .ok (.iload_n 3, 1) := by decide +kernel
theorem dL_takes_103 : decode cL_takes 103 = .ok (.iload 4, 2) := by decide +kernel
theorem dL_takes_105 : decode cL_takes 105 = .ok (.if_icmp .eq 15, 3) := by decide +kernel
theorem dL_takes_108 : decode cL_takes 108 = .ok (.aload_n 1, 1) := by decide +kernel
theorem dL_takes_109 : decode cL_takes 109 = .ok (.iload_n 2, 1) := by decide +kernel
theorem dL_takes_110 : decode cL_takes 110 = .ok (.invokevirtual 49, 3) := by decide +kernel
theorem dL_takes_113 : decode cL_takes 113 = .ok (.ifCond .ne 7, 3) := by decide +kernel
theorem dL_takes_116 : decode cL_takes 116 = .ok (.iconst 1, 1) := by decide +kernel
theorem dL_takes_117 : decode cL_takes 117 = .ok (.goto 4, 3) := by decide +kernel
theorem dL_takes_120 : decode cL_takes 120 = .ok (.iconst 0, 1) := by decide +kernel
theorem dL_takes_121 : decode cL_takes 121 = .ok (.ireturn, 1) := by decide +kernel
theorem dL_takes_122 : decode cL_takes 122 = .ok (.astore 5, 2) := by decide +kernel
theorem dL_takes_124 : decode cL_takes 124 = .ok (.iload_n 3, 1) := by decide +kernel
theorem dL_takes_125 : decode cL_takes 125 = .ok (.iload 4, 2) := by decide +kernel
theorem dL_takes_127 : decode cL_takes 127 = .ok (.if_icmp .eq 29, 3) := by decide +kernel
theorem dL_takes_130 : decode cL_takes 130 = .ok (.aload_n 1, 1) := by decide +kernel
theorem dL_takes_131 : decode cL_takes 131 = .ok (.iload_n 2, 1) := by decide +kernel
theorem dL_takes_132 : decode cL_takes 132 = .ok (.invokevirtual 49, 3) := by decide +kernel
theorem dL_takes_135 : decode cL_takes 135 = .ok (.ifCond .eq 21, 3) := by decide +kernel
theorem dL_takes_138 : decode cL_takes 138 = .ok (.aload_n 1, 1) := by decide +kernel
theorem dL_takes_139 : decode cL_takes 139 = .ok (.getfield 30, 3) := by decide +kernel
theorem dL_takes_142 : decode cL_takes 142 = .ok (.aload_n 1, 1) := by decide +kernel
theorem dL_takes_143 : decode cL_takes 143 = .ok (.getfield 84, 3) := by decide +kernel
theorem dL_takes_146 : decode cL_takes 146 = .ok (.iload_n 3, 1) := by decide +kernel
theorem dL_takes_147 : decode cL_takes 147 = .ok (.iaload, 1) := by decide +kernel
theorem dL_takes_148 : decode cL_takes 148 = .ok (.iaload, 1) := by decide +kernel
theorem dL_takes_149 : decode cL_takes 149 = .ok (.ifCond .ne 7, 3) := by decide +kernel
theorem dL_takes_152 : decode cL_takes 152 = .ok (.iconst 1, 1) := by decide +kernel
theorem dL_takes_153 : decode cL_takes 153 = .ok (.goto 4, 3) := by decide +kernel
theorem dL_takes_156 : decode cL_takes 156 = .ok (.iconst 0, 1) := by decide +kernel
theorem dL_takes_157 : decode cL_takes 157 = .ok (.ireturn, 1) := by decide +kernel
set_option maxRecDepth 20000 in
theorem ggL_prints_X3_isLive : GoodIn wsL_prints wsX3_isLive := goodIn_r _ [7, 8, 90, 91, 92, 93, 94, 95, 96, 97, 98, 99, 100, 101, 102, 103] (by decide +kernel) (by decide +kernel)
set_option maxRecDepth 20000 in
theorem gL_prints_X3_isLive : GoodIn wsL_prints (wsV RL 49 RX3 yX3_isLive wsX3_isLive) := goodIn_app (goodIn_of _ (by decide +kernel)) ggL_prints_X3_isLive
set_option maxRecDepth 20000 in
theorem ggL_prints_X2_print : GoodIn wsL_prints wsX2_print := goodIn_ca (goodIn_ca (goodIn_ca (goodIn_ca (goodIn_r _ [13, 14, 15, 16, 17, 18, 19, 20, 21, 22, 23, 24, 25, 26, 12, 27, 28, 29, 30, 31, 32, 33, 34, 35, 36, 37, 38, 39, 40, 41, 42, 43, 44, 45, 46, 47, 48, 49, 50, 51, 52, 53, 54, 55, 56, 57, 58, 59, 60, 61, 62, 63, 64, 65, 66, 67, 68, 69, 70, 71, 72, 73, 74, 75, 76, 77, 78, 79, 80, 104, 105, 106, 107, 108, 109, 110, 111, 112, 113, 114, 115, 116, 117, 118, 119, 120, 121, 122, 123, 124, 125, 126, 127, 128, 129, 130] (by decide +kernel) (by decide +kernel)) (goodIn_sub (fun _ h => List.mem_cons_of_mem _ (List.mem_append_left _ (List.mem_append_left _ (List.mem_append_left _ (List.mem_append_right _ h))))) (by decide +kernel))) (goodIn_sub (fun _ h => List.mem_cons_of_mem _ (List.mem_append_left _ (List.mem_append_left _ (List.mem_append_right _ h)))) (by decide +kernel))) (goodIn_sub (fun _ h => List.mem_cons_of_mem _ (List.mem_append_left _ (List.mem_append_right _ h))) (by decide +kernel))) (goodIn_sub (fun _ h => List.mem_cons_of_mem _ (List.mem_append_right _ h)) (by decide +kernel))
set_option maxRecDepth 20000 in
theorem gL_prints_X2_print : GoodIn wsL_prints (wsV RL 102 RX2 yX2_print wsX2_print) := goodIn_app (goodIn_of _ (by decide +kernel)) ggL_prints_X2_print
set_option maxRecDepth 20000 in
theorem ggL_prints_X3_charge : GoodIn wsL_prints wsX3_charge := goodIn_r _ [84, 85, 86, 87, 88, 89, 90, 91, 92, 93, 94, 95, 96, 97, 98, 99, 100, 101, 102, 103] (by decide +kernel) (by decide +kernel)
set_option maxRecDepth 20000 in
theorem gL_prints_X3_charge : GoodIn wsL_prints (wsV RL 105 RX3 yX3_charge wsX3_charge) := goodIn_app (goodIn_of _ (by decide +kernel)) ggL_prints_X3_charge
theorem dL_prints_0 : decode cL_prints 0 = .ok (.aload_n 1, 1) := by decide +kernel
theorem dL_prints_1 : decode cL_prints 1 = .ok (.iload_n 2, 1) := by decide +kernel
theorem dL_prints_2 : decode cL_prints 2 = .ok (.invokevirtual 49, 3) := by decide +kernel
theorem dL_prints_5 : decode cL_prints 5 = .ok (.ifCond .eq 29, 3) := by decide +kernel
theorem dL_prints_8 : decode cL_prints 8 = .ok (.aload_n 1, 1) := by decide +kernel
theorem dL_prints_9 : decode cL_prints 9 = .ok (.getfield 30, 3) := by decide +kernel
theorem dL_prints_12 : decode cL_prints 12 = .ok (.aload_n 1, 1) := by decide +kernel
theorem dL_prints_13 : decode cL_prints 13 = .ok (.getfield 84, 3) := by decide +kernel
theorem dL_prints_16 : decode cL_prints 16 = .ok (.aload_n 1, 1) := by decide +kernel
theorem dL_prints_17 : decode cL_prints 17 = .ok (.getfield 42, 3) := by decide +kernel
theorem dL_prints_20 : decode cL_prints 20 = .ok (.iload_n 2, 1) := by decide +kernel
theorem dL_prints_21 : decode cL_prints 21 = .ok (.iaload, 1) := by decide +kernel
theorem dL_prints_22 : decode cL_prints 22 = .ok (.iaload, 1) := by decide +kernel
theorem dL_prints_23 : decode cL_prints 23 = .ok (.iaload, 1) := by decide +kernel
theorem dL_prints_24 : decode cL_prints 24 = .ok (.iconst 2, 1) := by decide +kernel
theorem dL_prints_25 : decode cL_prints 25 = .ok (.iload_n 3, 1) := by decide +kernel
theorem dL_prints_26 : decode cL_prints 26 = .ok (.imul, 1) := by decide +kernel
theorem dL_prints_27 : decode cL_prints 27 = .ok (.if_icmp .lt 7, 3) := by decide +kernel
theorem dL_prints_30 : decode cL_prints 30 = .ok (.iconst 1, 1) := by decide +kernel
theorem dL_prints_31 : decode cL_prints 31 = .ok (.goto 4, 3) := by decide +kernel
theorem dL_prints_34 : decode cL_prints 34 = .ok (.iconst 0, 1) := by decide +kernel
theorem dL_prints_35 : decode cL_prints 35 = .ok (.istore 4, 2) := by decide +kernel
theorem dL_prints_37 : decode cL_prints 37 = .ok (.aload_n 0, 1) := by decide +kernel
theorem dL_prints_38 : decode cL_prints 38 = .ok (.iload_n 2, 1) := by decide +kernel
theorem dL_prints_39 : decode cL_prints 39 = .ok (.iload_n 3, 1) := by decide +kernel
theorem dL_prints_40 : decode cL_prints 40 = .ok (.invokevirtual 102, 3) := by decide +kernel
theorem dL_prints_43 : decode cL_prints 43 = .ok (.istore 5, 2) := by decide +kernel
theorem dL_prints_45 : decode cL_prints 45 = .ok (.aload_n 1, 1) := by decide +kernel
theorem dL_prints_46 : decode cL_prints 46 = .ok (.iload_n 2, 1) := by decide +kernel
theorem dL_prints_47 : decode cL_prints 47 = .ok (.iconst 2, 1) := by decide +kernel
theorem dL_prints_48 : decode cL_prints 48 = .ok (.iload_n 3, 1) := by decide +kernel
theorem dL_prints_49 : decode cL_prints 49 = .ok (.imul, 1) := by decide +kernel
theorem dL_prints_50 : decode cL_prints 50 = .ok (.invokevirtual 105, 3) := by decide +kernel
theorem dL_prints_53 : decode cL_prints 53 = .ok (.aload_n 1, 1) := by decide +kernel
theorem dL_prints_54 : decode cL_prints 54 = .ok (.dup, 1) := by decide +kernel
theorem dL_prints_55 : decode cL_prints 55 = .ok (.getfield 74, 3) := by decide +kernel
theorem dL_prints_58 : decode cL_prints 58 = .ok (.iconst 2, 1) := by decide +kernel
theorem dL_prints_59 : decode cL_prints 59 = .ok (.iload_n 3, 1) := by decide +kernel
theorem dL_prints_60 : decode cL_prints 60 = .ok (.imul, 1) := by decide +kernel
theorem dL_prints_61 : decode cL_prints 61 = .ok (.iadd, 1) := by decide +kernel
theorem dL_prints_62 : decode cL_prints 62 = .ok (.putfield 74, 3) := by decide +kernel
theorem dL_prints_65 : decode cL_prints 65 = .ok (.aload_n 1, 1) := by decide +kernel
theorem dL_prints_66 : decode cL_prints 66 = .ok (.dup, 1) := by decide +kernel
theorem dL_prints_67 : decode cL_prints 67 = .ok (.getfield 109, 3) := by decide +kernel
theorem dL_prints_70 : decode cL_prints 70 = .ok (.iload_n 3, 1) := by decide +kernel
theorem dL_prints_71 : decode cL_prints 71 = .ok (.iadd, 1) := by decide +kernel
theorem dL_prints_72 : decode cL_prints 72 = .ok (.putfield 109, 3) := by decide +kernel
theorem dL_prints_75 : decode cL_prints 75 = .ok (.aload_n 1, 1) := by decide +kernel
theorem dL_prints_76 : decode cL_prints 76 = .ok (.getfield 90, 3) := by decide +kernel
theorem dL_prints_79 : decode cL_prints 79 = .ok (.iload_n 2, 1) := by decide +kernel
theorem dL_prints_80 : decode cL_prints 80 = .ok (.aload_n 1, 1) := by decide +kernel
theorem dL_prints_81 : decode cL_prints 81 = .ok (.getfield 15, 3) := by decide +kernel
theorem dL_prints_84 : decode cL_prints 84 = .ok (.iastore, 1) := by decide +kernel
theorem dL_prints_85 : decode cL_prints 85 = .ok (.iload 4, 2) := by decide +kernel
theorem dL_prints_87 : decode cL_prints 87 = .ok (.ifCond .eq 16, 3) := by decide +kernel
theorem dL_prints_90 : decode cL_prints 90 = .ok (.iload 5, 2) := by decide +kernel
theorem dL_prints_92 : decode cL_prints 92 = .ok (.aload_n 1, 1) := by decide +kernel
theorem dL_prints_93 : decode cL_prints 93 = .ok (.getfield 109, 3) := by decide +kernel
theorem dL_prints_96 : decode cL_prints 96 = .ok (.if_icmp .ne 7, 3) := by decide +kernel
theorem dL_prints_99 : decode cL_prints 99 = .ok (.iconst 1, 1) := by decide +kernel
theorem dL_prints_100 : decode cL_prints 100 = .ok (.goto 4, 3) := by decide +kernel
theorem dL_prints_103 : decode cL_prints 103 = .ok (.iconst 0, 1) := by decide +kernel
theorem dL_prints_104 : decode cL_prints 104 = .ok (.ireturn, 1) := by decide +kernel
theorem dL_prints_105 : decode cL_prints 105 = .ok (.astore 5, 2) := by decide +kernel
theorem dL_prints_107 : decode cL_prints 107 = .ok (.aload_n 1, 1) := by decide +kernel
theorem dL_prints_108 : decode cL_prints 108 = .ok (.iload_n 2, 1) := by decide +kernel
theorem dL_prints_109 : decode cL_prints 109 = .ok (.invokevirtual 49, 3) := by decide +kernel
theorem dL_prints_112 : decode cL_prints 112 = .ok (.ifCond .ne 7, 3) := by decide +kernel
theorem dL_prints_115 : decode cL_prints 115 = .ok (.iconst 1, 1) := by decide +kernel
theorem dL_prints_116 : decode cL_prints 116 = .ok (.goto 4, 3) := by decide +kernel
theorem dL_prints_119 : decode cL_prints 119 = .ok (.iconst 0, 1) := by decide +kernel
theorem dL_prints_120 : decode cL_prints 120 = .ok (.ireturn, 1) := by decide +kernel
theorem dL_prints_121 : decode cL_prints 121 = .ok (.astore 5, 2) := by decide +kernel
theorem dL_prints_123 : decode cL_prints 123 = .ok (.aload_n 1, 1) := by decide +kernel
theorem dL_prints_124 : decode cL_prints 124 = .ok (.iload_n 2, 1) := by decide +kernel
theorem dL_prints_125 : decode cL_prints 125 = .ok (.invokevirtual 49, 3) := by decide +kernel
theorem dL_prints_128 : decode cL_prints 128 = .ok (.ifCond .eq 12, 3) := by decide +kernel
theorem dL_prints_131 : decode cL_prints 131 = .ok (.iload 4, 2) := by decide +kernel
theorem dL_prints_133 : decode cL_prints 133 = .ok (.ifCond .ne 7, 3) := by decide +kernel
theorem dL_prints_136 : decode cL_prints 136 = .ok (.iconst 1, 1) := by decide +kernel
theorem dL_prints_137 : decode cL_prints 137 = .ok (.goto 4, 3) := by decide +kernel
theorem dL_prints_140 : decode cL_prints 140 = .ok (.iconst 0, 1) := by decide +kernel
theorem dL_prints_141 : decode cL_prints 141 = .ok (.ireturn, 1) := by decide +kernel
set_option maxRecDepth 20000 in
theorem ggL_lends_X2_lend : GoodIn wsL_lends wsX2_lend := goodIn_ca (goodIn_ca (goodIn_r _ [6, 7, 8, 9, 5, 10, 11, 12, 13, 14, 15, 16, 17, 18, 19, 20, 21, 22, 23, 24, 25, 26, 27, 28, 29, 30, 31, 32, 47, 48, 49, 50, 51, 52, 53, 54, 55, 56, 57] (by decide +kernel) (by decide +kernel)) (goodIn_sub (fun _ h => List.mem_cons_of_mem _ (List.mem_append_left _ (List.mem_append_right _ h))) (by decide +kernel))) (goodIn_sub (fun _ h => List.mem_cons_of_mem _ (List.mem_append_right _ h)) (by decide +kernel))
set_option maxRecDepth 20000 in
theorem gL_lends_X2_lend : GoodIn wsL_lends (wsV RL 112 RX2 yX2_lend wsX2_lend) := goodIn_app (goodIn_of _ (by decide +kernel)) ggL_lends_X2_lend
theorem dL_lends_0 : decode cL_lends 0 = .ok (.aload_n 1, 1) := by decide +kernel
theorem dL_lends_1 : decode cL_lends 1 = .ok (.getfield 30, 3) := by decide +kernel
theorem dL_lends_4 : decode cL_lends 4 = .ok (.iload_n 2, 1) := by decide +kernel
theorem dL_lends_5 : decode cL_lends 5 = .ok (.iaload, 1) := by decide +kernel
theorem dL_lends_6 : decode cL_lends 6 = .ok (.iload 4, 2) := by decide +kernel
theorem dL_lends_8 : decode cL_lends 8 = .ok (.if_icmp .lt 7, 3) := by decide +kernel
theorem dL_lends_11 : decode cL_lends 11 = .ok (.iconst 1, 1) := by decide +kernel
theorem dL_lends_12 : decode cL_lends 12 = .ok (.goto 4, 3) := by decide +kernel
theorem dL_lends_15 : decode cL_lends 15 = .ok (.iconst 0, 1) := by decide +kernel
theorem dL_lends_16 : decode cL_lends 16 = .ok (.istore 5, 2) := by decide +kernel
theorem dL_lends_18 : decode cL_lends 18 = .ok (.aload_n 0, 1) := by decide +kernel
theorem dL_lends_19 : decode cL_lends 19 = .ok (.iload_n 2, 1) := by decide +kernel
theorem dL_lends_20 : decode cL_lends 20 = .ok (.iload_n 3, 1) := by decide +kernel
theorem dL_lends_21 : decode cL_lends 21 = .ok (.iload 4, 2) := by decide +kernel
theorem dL_lends_23 : decode cL_lends 23 = .ok (.invokevirtual 112, 3) := by decide +kernel
theorem dL_lends_26 : decode cL_lends 26 = .ok (.istore 6, 2) := by decide +kernel
theorem dL_lends_28 : decode cL_lends 28 = .ok (.aload_n 1, 1) := by decide +kernel
theorem dL_lends_29 : decode cL_lends 29 = .ok (.getfield 30, 3) := by decide +kernel
theorem dL_lends_32 : decode cL_lends 32 = .ok (.iload_n 2, 1) := by decide +kernel
theorem dL_lends_33 : decode cL_lends 33 = .ok (.dup2, 1) := by decide +kernel
theorem dL_lends_34 : decode cL_lends 34 = .ok (.iaload, 1) := by decide +kernel
theorem dL_lends_35 : decode cL_lends 35 = .ok (.iload 4, 2) := by decide +kernel
theorem dL_lends_37 : decode cL_lends 37 = .ok (.isub, 1) := by decide +kernel
theorem dL_lends_38 : decode cL_lends 38 = .ok (.iastore, 1) := by decide +kernel
theorem dL_lends_39 : decode cL_lends 39 = .ok (.aload_n 1, 1) := by decide +kernel
theorem dL_lends_40 : decode cL_lends 40 = .ok (.getfield 30, 3) := by decide +kernel
theorem dL_lends_43 : decode cL_lends 43 = .ok (.iload_n 3, 1) := by decide +kernel
theorem dL_lends_44 : decode cL_lends 44 = .ok (.dup2, 1) := by decide +kernel
theorem dL_lends_45 : decode cL_lends 45 = .ok (.iaload, 1) := by decide +kernel
theorem dL_lends_46 : decode cL_lends 46 = .ok (.iload 4, 2) := by decide +kernel
theorem dL_lends_48 : decode cL_lends 48 = .ok (.iadd, 1) := by decide +kernel
theorem dL_lends_49 : decode cL_lends 49 = .ok (.iastore, 1) := by decide +kernel
theorem dL_lends_50 : decode cL_lends 50 = .ok (.aload_n 1, 1) := by decide +kernel
theorem dL_lends_51 : decode cL_lends 51 = .ok (.getfield 116, 3) := by decide +kernel
theorem dL_lends_54 : decode cL_lends 54 = .ok (.iload_n 3, 1) := by decide +kernel
theorem dL_lends_55 : decode cL_lends 55 = .ok (.aaload, 1) := by decide +kernel
theorem dL_lends_56 : decode cL_lends 56 = .ok (.iload_n 2, 1) := by decide +kernel
theorem dL_lends_57 : decode cL_lends 57 = .ok (.dup2, 1) := by decide +kernel
theorem dL_lends_58 : decode cL_lends 58 = .ok (.iaload, 1) := by decide +kernel
theorem dL_lends_59 : decode cL_lends 59 = .ok (.iload 4, 2) := by decide +kernel
theorem dL_lends_61 : decode cL_lends 61 = .ok (.iadd, 1) := by decide +kernel
theorem dL_lends_62 : decode cL_lends 62 = .ok (.iastore, 1) := by decide +kernel
theorem dL_lends_63 : decode cL_lends 63 = .ok (.iload 5, 2) := by decide +kernel
theorem dL_lends_65 : decode cL_lends 65 = .ok (.ifCond .eq 20, 3) := by decide +kernel
theorem dL_lends_68 : decode cL_lends 68 = .ok (.iload 6, 2) := by decide +kernel
theorem dL_lends_70 : decode cL_lends 70 = .ok (.aload_n 1, 1) := by decide +kernel
theorem dL_lends_71 : decode cL_lends 71 = .ok (.getfield 116, 3) := by decide +kernel
theorem dL_lends_74 : decode cL_lends 74 = .ok (.iload_n 3, 1) := by decide +kernel
theorem dL_lends_75 : decode cL_lends 75 = .ok (.aaload, 1) := by decide +kernel
theorem dL_lends_76 : decode cL_lends 76 = .ok (.iload_n 2, 1) := by decide +kernel
theorem dL_lends_77 : decode cL_lends 77 = .ok (.iaload, 1) := by decide +kernel
theorem dL_lends_78 : decode cL_lends 78 = .ok (.if_icmp .ne 7, 3) := by decide +kernel
theorem dL_lends_81 : decode cL_lends 81 = .ok (.iconst 1, 1) := by decide +kernel
theorem dL_lends_82 : decode cL_lends 82 = .ok (.goto 4, 3) := by decide +kernel
theorem dL_lends_85 : decode cL_lends 85 = .ok (.iconst 0, 1) := by decide +kernel
theorem dL_lends_86 : decode cL_lends 86 = .ok (.ireturn, 1) := by decide +kernel
theorem dL_lends_87 : decode cL_lends 87 = .ok (.astore 6, 2) := by decide +kernel
theorem dL_lends_89 : decode cL_lends 89 = .ok (.iload 5, 2) := by decide +kernel
theorem dL_lends_91 : decode cL_lends 91 = .ok (.ifCond .ne 7, 3) := by decide +kernel
theorem dL_lends_94 : decode cL_lends 94 = .ok (.iconst 1, 1) := by decide +kernel
theorem dL_lends_95 : decode cL_lends 95 = .ok (.goto 4, 3) := by decide +kernel
theorem dL_lends_98 : decode cL_lends 98 = .ok (.iconst 0, 1) := by decide +kernel
theorem dL_lends_99 : decode cL_lends 99 = .ok (.ireturn, 1) := by decide +kernel
set_option maxRecDepth 20000 in
theorem ggL_gives_X2_giveBack : GoodIn wsL_gives wsX2_giveBack := goodIn_ca (goodIn_ca (goodIn_ca (goodIn_r _ [7, 8, 9, 10, 11, 12, 6, 13, 14, 15, 16, 17, 18, 19, 20, 21, 22, 23, 24, 25, 26, 27, 28, 29, 30, 31, 32, 33, 34, 35, 50, 51, 52, 53, 54, 55, 56, 57, 58, 59, 60] (by decide +kernel) (by decide +kernel)) (goodIn_sub (fun _ h => List.mem_cons_of_mem _ (List.mem_append_left _ (List.mem_append_left _ (List.mem_append_right _ h)))) (by decide +kernel))) (goodIn_sub (fun _ h => List.mem_cons_of_mem _ (List.mem_append_left _ (List.mem_append_right _ h))) (by decide +kernel))) (goodIn_sub (fun _ h => List.mem_cons_of_mem _ (List.mem_append_right _ h)) (by decide +kernel))
set_option maxRecDepth 20000 in
theorem gL_gives_X2_giveBack : GoodIn wsL_gives (wsV RL 119 RX2 yX2_giveBack wsX2_giveBack) := goodIn_app (goodIn_of _ (by decide +kernel)) ggL_gives_X2_giveBack
theorem dL_gives_0 : decode cL_gives 0 = .ok (.aload_n 1, 1) := by decide +kernel
theorem dL_gives_1 : decode cL_gives 1 = .ok (.getfield 116, 3) := by decide +kernel
theorem dL_gives_4 : decode cL_gives 4 = .ok (.iload_n 2, 1) := by decide +kernel
theorem dL_gives_5 : decode cL_gives 5 = .ok (.aaload, 1) := by decide +kernel
theorem dL_gives_6 : decode cL_gives 6 = .ok (.iload_n 3, 1) := by decide +kernel
theorem dL_gives_7 : decode cL_gives 7 = .ok (.iaload, 1) := by decide +kernel
theorem dL_gives_8 : decode cL_gives 8 = .ok (.iload 4, 2) := by decide +kernel
theorem dL_gives_10 : decode cL_gives 10 = .ok (.if_icmp .lt 7, 3) := by decide +kernel
theorem dL_gives_13 : decode cL_gives 13 = .ok (.iconst 1, 1) := by decide +kernel
theorem dL_gives_14 : decode cL_gives 14 = .ok (.goto 4, 3) := by decide +kernel
theorem dL_gives_17 : decode cL_gives 17 = .ok (.iconst 0, 1) := by decide +kernel
theorem dL_gives_18 : decode cL_gives 18 = .ok (.istore 5, 2) := by decide +kernel
theorem dL_gives_20 : decode cL_gives 20 = .ok (.aload_n 0, 1) := by decide +kernel
theorem dL_gives_21 : decode cL_gives 21 = .ok (.iload_n 2, 1) := by decide +kernel
theorem dL_gives_22 : decode cL_gives 22 = .ok (.iload_n 3, 1) := by decide +kernel
theorem dL_gives_23 : decode cL_gives 23 = .ok (.iload 4, 2) := by decide +kernel
theorem dL_gives_25 : decode cL_gives 25 = .ok (.invokevirtual 119, 3) := by decide +kernel
theorem dL_gives_28 : decode cL_gives 28 = .ok (.istore 6, 2) := by decide +kernel
theorem dL_gives_30 : decode cL_gives 30 = .ok (.aload_n 1, 1) := by decide +kernel
theorem dL_gives_31 : decode cL_gives 31 = .ok (.getfield 30, 3) := by decide +kernel
theorem dL_gives_34 : decode cL_gives 34 = .ok (.iload_n 2, 1) := by decide +kernel
theorem dL_gives_35 : decode cL_gives 35 = .ok (.iaload, 1) := by decide +kernel
theorem dL_gives_36 : decode cL_gives 36 = .ok (.iload 4, 2) := by decide +kernel
theorem dL_gives_38 : decode cL_gives 38 = .ok (.if_icmp .lt 7, 3) := by decide +kernel
theorem dL_gives_41 : decode cL_gives 41 = .ok (.iconst 1, 1) := by decide +kernel
theorem dL_gives_42 : decode cL_gives 42 = .ok (.goto 4, 3) := by decide +kernel
theorem dL_gives_45 : decode cL_gives 45 = .ok (.iconst 0, 1) := by decide +kernel
theorem dL_gives_46 : decode cL_gives 46 = .ok (.istore 7, 2) := by decide +kernel
theorem dL_gives_48 : decode cL_gives 48 = .ok (.aload_n 1, 1) := by decide +kernel
theorem dL_gives_49 : decode cL_gives 49 = .ok (.getfield 30, 3) := by decide +kernel
theorem dL_gives_52 : decode cL_gives 52 = .ok (.iload_n 2, 1) := by decide +kernel
theorem dL_gives_53 : decode cL_gives 53 = .ok (.dup2, 1) := by decide +kernel
theorem dL_gives_54 : decode cL_gives 54 = .ok (.iaload, 1) := by decide +kernel
theorem dL_gives_55 : decode cL_gives 55 = .ok (.iload 4, 2) := by decide +kernel
theorem dL_gives_57 : decode cL_gives 57 = .ok (.isub, 1) := by decide +kernel
theorem dL_gives_58 : decode cL_gives 58 = .ok (.iastore, 1) := by decide +kernel
theorem dL_gives_59 : decode cL_gives 59 = .ok (.aload_n 1, 1) := by decide +kernel
theorem dL_gives_60 : decode cL_gives 60 = .ok (.getfield 30, 3) := by decide +kernel
theorem dL_gives_63 : decode cL_gives 63 = .ok (.iload_n 3, 1) := by decide +kernel
theorem dL_gives_64 : decode cL_gives 64 = .ok (.dup2, 1) := by decide +kernel
theorem dL_gives_65 : decode cL_gives 65 = .ok (.iaload, 1) := by decide +kernel
theorem dL_gives_66 : decode cL_gives 66 = .ok (.iload 4, 2) := by decide +kernel
theorem dL_gives_68 : decode cL_gives 68 = .ok (.iadd, 1) := by decide +kernel
theorem dL_gives_69 : decode cL_gives 69 = .ok (.iastore, 1) := by decide +kernel
theorem dL_gives_70 : decode cL_gives 70 = .ok (.aload_n 1, 1) := by decide +kernel
theorem dL_gives_71 : decode cL_gives 71 = .ok (.getfield 116, 3) := by decide +kernel
theorem dL_gives_74 : decode cL_gives 74 = .ok (.iload_n 2, 1) := by decide +kernel
theorem dL_gives_75 : decode cL_gives 75 = .ok (.aaload, 1) := by decide +kernel
theorem dL_gives_76 : decode cL_gives 76 = .ok (.iload_n 3, 1) := by decide +kernel
theorem dL_gives_77 : decode cL_gives 77 = .ok (.dup2, 1) := by decide +kernel
theorem dL_gives_78 : decode cL_gives 78 = .ok (.iaload, 1) := by decide +kernel
theorem dL_gives_79 : decode cL_gives 79 = .ok (.iload 4, 2) := by decide +kernel
theorem dL_gives_81 : decode cL_gives 81 = .ok (.isub, 1) := by decide +kernel
theorem dL_gives_82 : decode cL_gives 82 = .ok (.iastore, 1) := by decide +kernel
theorem dL_gives_83 : decode cL_gives 83 = .ok (.iload 5, 2) := by decide +kernel
theorem dL_gives_85 : decode cL_gives 85 = .ok (.ifCond .eq 25, 3) := by decide +kernel
theorem dL_gives_88 : decode cL_gives 88 = .ok (.iload 7, 2) := by decide +kernel
theorem dL_gives_90 : decode cL_gives 90 = .ok (.ifCond .eq 20, 3) := by decide +kernel
theorem dL_gives_93 : decode cL_gives 93 = .ok (.iload 6, 2) := by decide +kernel
theorem dL_gives_95 : decode cL_gives 95 = .ok (.aload_n 1, 1) := by decide +kernel
theorem dL_gives_96 : decode cL_gives 96 = .ok (.getfield 116, 3) := by decide +kernel
theorem dL_gives_99 : decode cL_gives 99 = .ok (.iload_n 2, 1) := by decide +kernel
theorem dL_gives_100 : decode cL_gives 100 = .ok (.aaload, 1) := by decide +kernel
theorem dL_gives_101 : decode cL_gives 101 = .ok (.iload_n 3, 1) := by decide +kernel
theorem dL_gives_102 : decode cL_gives 102 = .ok (.iaload, 1) := by decide +kernel
theorem dL_gives_103 : decode cL_gives 103 = .ok (.if_icmp .ne 7, 3) := by decide +kernel
theorem dL_gives_106 : decode cL_gives 106 = .ok (.iconst 1, 1) := by decide +kernel
theorem dL_gives_107 : decode cL_gives 107 = .ok (.goto 4, 3) := by decide +kernel
theorem dL_gives_110 : decode cL_gives 110 = .ok (.iconst 0, 1) := by decide +kernel
theorem dL_gives_111 : decode cL_gives 111 = .ok (.ireturn, 1) := by decide +kernel
theorem dL_gives_112 : decode cL_gives 112 = .ok (.astore 6, 2) := by decide +kernel
theorem dL_gives_114 : decode cL_gives 114 = .ok (.iload 5, 2) := by decide +kernel
theorem dL_gives_116 : decode cL_gives 116 = .ok (.ifCond .ne 7, 3) := by decide +kernel
theorem dL_gives_119 : decode cL_gives 119 = .ok (.iconst 1, 1) := by decide +kernel
theorem dL_gives_120 : decode cL_gives 120 = .ok (.goto 4, 3) := by decide +kernel
theorem dL_gives_123 : decode cL_gives 123 = .ok (.iconst 0, 1) := by decide +kernel
theorem dL_gives_124 : decode cL_gives 124 = .ok (.ireturn, 1) := by decide +kernel
theorem dL_gives_125 : decode cL_gives 125 = .ok (.astore 6, 2) := by decide +kernel
theorem dL_gives_127 : decode cL_gives 127 = .ok (.iload 5, 2) := by decide +kernel
theorem dL_gives_129 : decode cL_gives 129 = .ok (.ifCond .eq 18, 3) := by decide +kernel
theorem dL_gives_132 : decode cL_gives 132 = .ok (.aload_n 1, 1) := by decide +kernel
theorem dL_gives_133 : decode cL_gives 133 = .ok (.getfield 30, 3) := by decide +kernel
theorem dL_gives_136 : decode cL_gives 136 = .ok (.iload_n 2, 1) := by decide +kernel
theorem dL_gives_137 : decode cL_gives 137 = .ok (.iaload, 1) := by decide +kernel
theorem dL_gives_138 : decode cL_gives 138 = .ok (.iload 4, 2) := by decide +kernel
theorem dL_gives_140 : decode cL_gives 140 = .ok (.if_icmp .ge 7, 3) := by decide +kernel
theorem dL_gives_143 : decode cL_gives 143 = .ok (.iconst 1, 1) := by decide +kernel
theorem dL_gives_144 : decode cL_gives 144 = .ok (.goto 4, 3) := by decide +kernel
theorem dL_gives_147 : decode cL_gives 147 = .ok (.iconst 0, 1) := by decide +kernel
theorem dL_gives_148 : decode cL_gives 148 = .ok (.ireturn, 1) := by decide +kernel
set_option maxRecDepth 20000 in
theorem ggL_ends_X3_isLive : GoodIn wsL_ends wsX3_isLive := goodIn_r _ [5, 6, 96, 97, 98, 99, 100, 101, 102, 103, 104, 105, 106, 107, 108, 109] (by decide +kernel) (by decide +kernel)
set_option maxRecDepth 20000 in
theorem gL_ends_X3_isLive : GoodIn wsL_ends (wsV RL 49 RX3 yX3_isLive wsX3_isLive) := goodIn_app (goodIn_of _ (by decide +kernel)) ggL_ends_X3_isLive
set_option maxRecDepth 20000 in
theorem ggL_ends_X2_state : GoodIn wsL_ends wsX2_state := goodIn_ca (goodIn_r _ [11, 12, 13, 14, 15, 16, 17, 10, 18, 19, 20, 21, 22, 23, 24, 25, 26, 27, 28, 29, 30, 31, 32, 33, 34, 35, 36, 37, 38, 39, 40, 41, 42, 43, 44, 45, 46, 47, 48, 49, 50, 51, 52, 53, 54, 110, 111, 112, 113, 114, 115, 116, 117, 118, 119, 120, 121, 122, 123, 124, 125, 126, 127, 128, 129, 130] (by decide +kernel) (by decide +kernel)) (goodIn_sub (fun _ h => List.mem_cons_of_mem _ (List.mem_append_left _ (List.mem_append_right _ h))) (by decide +kernel))
set_option maxRecDepth 20000 in
theorem gL_ends_X2_state : GoodIn wsL_ends (wsV RL 45 RX2 yX2_state wsX2_state) := goodIn_app (goodIn_of _ (by decide +kernel)) ggL_ends_X2_state
set_option maxRecDepth 20000 in
theorem ggL_ends_X2_handBack : GoodIn wsL_ends wsX2_handBack := goodIn_ca (goodIn_ca (goodIn_r _ [58, 59, 60, 12, 13, 61, 62, 63, 10, 64, 15, 16, 17, 18, 19, 20, 21, 22, 23, 24, 25, 26, 27, 28, 29, 30, 31, 32, 33, 34, 35, 36, 37, 38, 39, 40, 41, 42, 43, 44, 45, 46, 47, 48, 65, 66, 67, 49, 50, 51, 52, 53, 54, 68, 69, 70, 71, 72, 73, 110, 111, 112, 113, 114, 115, 116, 117, 118, 119, 120, 121, 122, 123, 124, 125, 126, 127, 128, 129, 130] (by decide +kernel) (by decide +kernel)) (goodIn_sub (fun _ h => List.mem_cons_of_mem _ (List.mem_append_right _ h)) (by decide +kernel))) (goodIn_sub (fun _ h => List.mem_cons_of_mem _ (List.mem_append_left _ (List.mem_append_right _ h))) (by decide +kernel))
set_option maxRecDepth 20000 in
theorem gL_ends_X2_handBack : GoodIn wsL_ends (wsV RL 122 RX2 yX2_handBack wsX2_handBack) := goodIn_app (goodIn_of _ (by decide +kernel)) ggL_ends_X2_handBack
set_option maxRecDepth 20000 in
theorem ggL_ends_X2_logOut : GoodIn wsL_ends wsX2_logOut := goodIn_ca (goodIn_ca (goodIn_r _ [77, 61, 62, 63, 10, 64, 15, 16, 17, 18, 19, 20, 21, 22, 23, 24, 25, 26, 27, 28, 29, 30, 31, 32, 33, 34, 35, 36, 37, 38, 39, 40, 41, 42, 43, 44, 45, 46, 47, 48, 65, 66, 67, 59, 60, 49, 50, 51, 52, 53, 54, 78, 79, 80, 81, 14, 82, 83, 84, 85, 86, 87, 88, 89, 90, 91, 92, 93, 94, 95, 117, 118, 119, 120, 121, 122, 123, 124, 125, 126, 127, 128, 129, 130, 110, 111, 112, 113, 114, 115, 116, 131, 132, 133, 134, 135, 136] (by decide +kernel) (by decide +kernel)) (goodIn_sub (fun _ h => List.mem_cons_of_mem _ (List.mem_append_left _ (List.mem_append_right _ h))) (by decide +kernel))) (goodIn_sub (fun _ h => List.mem_cons_of_mem _ (List.mem_append_right _ h)) (by decide +kernel))
set_option maxRecDepth 20000 in
theorem gL_ends_X2_logOut : GoodIn wsL_ends (wsV RL 125 RX2 yX2_logOut wsX2_logOut) := goodIn_app (goodIn_of _ (by decide +kernel)) ggL_ends_X2_logOut
theorem dL_ends_0 : decode cL_ends 0 = .ok (.aload_n 1, 1) := by decide +kernel
theorem dL_ends_1 : decode cL_ends 1 = .ok (.iload_n 2, 1) := by decide +kernel
theorem dL_ends_2 : decode cL_ends 2 = .ok (.invokevirtual 49, 3) := by decide +kernel
theorem dL_ends_5 : decode cL_ends 5 = .ok (.ifCond .ne 23, 3) := by decide +kernel
theorem dL_ends_8 : decode cL_ends 8 = .ok (.aload_n 0, 1) := by decide +kernel
theorem dL_ends_9 : decode cL_ends 9 = .ok (.iload_n 2, 1) := by decide +kernel
theorem dL_ends_10 : decode cL_ends 10 = .ok (.invokevirtual 45, 3) := by decide +kernel
theorem dL_ends_13 : decode cL_ends 13 = .ok (.aload_n 1, 1) := by decide +kernel
theorem dL_ends_14 : decode cL_ends 14 = .ok (.getfield 53, 3) := by decide +kernel
theorem dL_ends_17 : decode cL_ends 17 = .ok (.iload_n 2, 1) := by decide +kernel
theorem dL_ends_18 : decode cL_ends 18 = .ok (.caload, 1) := by decide +kernel
theorem dL_ends_19 : decode cL_ends 19 = .ok (.if_icmp .ne 7, 3) := by decide +kernel
theorem dL_ends_22 : decode cL_ends 22 = .ok (.iconst 1, 1) := by decide +kernel
theorem dL_ends_23 : decode cL_ends 23 = .ok (.goto 4, 3) := by decide +kernel
theorem dL_ends_26 : decode cL_ends 26 = .ok (.iconst 0, 1) := by decide +kernel
theorem dL_ends_27 : decode cL_ends 27 = .ok (.ireturn, 1) := by decide +kernel
theorem dL_ends_28 : decode cL_ends 28 = .ok (.iload_n 3, 1) := by decide +kernel
theorem dL_ends_29 : decode cL_ends 29 = .ok (.ifCond .eq 64, 3) := by decide +kernel
theorem dL_ends_32 : decode cL_ends 32 = .ok (.aload_n 1, 1) := by decide +kernel
theorem dL_ends_33 : decode cL_ends 33 = .ok (.getfield 42, 3) := by decide +kernel
theorem dL_ends_36 : decode cL_ends 36 = .ok (.iload_n 2, 1) := by decide +kernel
theorem dL_ends_37 : decode cL_ends 37 = .ok (.iaload, 1) := by decide +kernel
theorem dL_ends_38 : decode cL_ends 38 = .ok (.aload_n 1, 1) := by decide +kernel
theorem dL_ends_39 : decode cL_ends 39 = .ok (.getfield 57, 3) := by decide +kernel
theorem dL_ends_42 : decode cL_ends 42 = .ok (.iload_n 2, 1) := by decide +kernel
theorem dL_ends_43 : decode cL_ends 43 = .ok (.iaload, 1) := by decide +kernel
theorem dL_ends_44 : decode cL_ends 44 = .ok (.if_icmp .eq 49, 3) := by decide +kernel
theorem dL_ends_47 : decode cL_ends 47 = .ok (.aload_n 1, 1) := by decide +kernel
theorem dL_ends_48 : decode cL_ends 48 = .ok (.getfield 42, 3) := by decide +kernel
theorem dL_ends_51 : decode cL_ends 51 = .ok (.iload_n 2, 1) := by decide +kernel
theorem dL_ends_52 : decode cL_ends 52 = .ok (.iaload, 1) := by decide +kernel
theorem dL_ends_53 : decode cL_ends 53 = .ok (.istore 4, 2) := by decide +kernel
theorem dL_ends_55 : decode cL_ends 55 = .ok (.aload_n 1, 1) := by decide +kernel
theorem dL_ends_56 : decode cL_ends 56 = .ok (.getfield 42, 3) := by decide +kernel
theorem dL_ends_59 : decode cL_ends 59 = .ok (.iload_n 2, 1) := by decide +kernel
theorem dL_ends_60 : decode cL_ends 60 = .ok (.aload_n 1, 1) := by decide +kernel
theorem dL_ends_61 : decode cL_ends 61 = .ok (.getfield 57, 3) := by decide +kernel
theorem dL_ends_64 : decode cL_ends 64 = .ok (.iload_n 2, 1) := by decide +kernel
theorem dL_ends_65 : decode cL_ends 65 = .ok (.iaload, 1) := by decide +kernel
theorem dL_ends_66 : decode cL_ends 66 = .ok (.iastore, 1) := by decide +kernel
theorem dL_ends_67 : decode cL_ends 67 = .ok (.aload_n 1, 1) := by decide +kernel
theorem dL_ends_68 : decode cL_ends 68 = .ok (.getfield 90, 3) := by decide +kernel
theorem dL_ends_71 : decode cL_ends 71 = .ok (.iload_n 2, 1) := by decide +kernel
theorem dL_ends_72 : decode cL_ends 72 = .ok (.aload_n 1, 1) := by decide +kernel
theorem dL_ends_73 : decode cL_ends 73 = .ok (.getfield 15, 3) := by decide +kernel
theorem dL_ends_76 : decode cL_ends 76 = .ok (.iastore, 1) := by decide +kernel
theorem dL_ends_77 : decode cL_ends 77 = .ok (.aload_n 0, 1) := by decide +kernel
theorem dL_ends_78 : decode cL_ends 78 = .ok (.iload_n 2, 1) := by decide +kernel
theorem dL_ends_79 : decode cL_ends 79 = .ok (.invokevirtual 122, 3) := by decide +kernel
theorem dL_ends_82 : decode cL_ends 82 = .ok (.iload 4, 2) := by decide +kernel
theorem dL_ends_84 : decode cL_ends 84 = .ok (.if_icmp .ne 7, 3) := by decide +kernel
theorem dL_ends_87 : decode cL_ends 87 = .ok (.iconst 1, 1) := by decide +kernel
theorem dL_ends_88 : decode cL_ends 88 = .ok (.goto 4, 3) := by decide +kernel
theorem dL_ends_91 : decode cL_ends 91 = .ok (.iconst 0, 1) := by decide +kernel
theorem dL_ends_92 : decode cL_ends 92 = .ok (.ireturn, 1) := by decide +kernel
theorem dL_ends_93 : decode cL_ends 93 = .ok (.aload_n 1, 1) := by decide +kernel
theorem dL_ends_94 : decode cL_ends 94 = .ok (.getfield 53, 3) := by decide +kernel
theorem dL_ends_97 : decode cL_ends 97 = .ok (.iload_n 2, 1) := by decide +kernel
theorem dL_ends_98 : decode cL_ends 98 = .ok (.bipush 108, 2) := by decide +kernel
theorem dL_ends_100 : decode cL_ends 100 = .ok (.castore, 1) := by decide +kernel
theorem dL_ends_101 : decode cL_ends 101 = .ok (.aload_n 0, 1) := by decide +kernel
theorem dL_ends_102 : decode cL_ends 102 = .ok (.iload_n 2, 1) := by decide +kernel
theorem dL_ends_103 : decode cL_ends 103 = .ok (.invokevirtual 125, 3) := by decide +kernel
theorem dL_ends_106 : decode cL_ends 106 = .ok (.aload_n 1, 1) := by decide +kernel
theorem dL_ends_107 : decode cL_ends 107 = .ok (.getfield 64, 3) := by decide +kernel
theorem dL_ends_110 : decode cL_ends 110 = .ok (.iload_n 2, 1) := by decide +kernel
theorem dL_ends_111 : decode cL_ends 111 = .ok (.aaload, 1) := by decide +kernel
theorem dL_ends_112 : decode cL_ends 112 = .ok (.iconst 0, 1) := by decide +kernel
theorem dL_ends_113 : decode cL_ends 113 = .ok (.iaload, 1) := by decide +kernel
theorem dL_ends_114 : decode cL_ends 114 = .ok (.aload_n 1, 1) := by decide +kernel
theorem dL_ends_115 : decode cL_ends 115 = .ok (.getfield 64, 3) := by decide +kernel
theorem dL_ends_118 : decode cL_ends 118 = .ok (.iload_n 2, 1) := by decide +kernel
theorem dL_ends_119 : decode cL_ends 119 = .ok (.aaload, 1) := by decide +kernel
theorem dL_ends_120 : decode cL_ends 120 = .ok (.iconst 1, 1) := by decide +kernel
theorem dL_ends_121 : decode cL_ends 121 = .ok (.iaload, 1) := by decide +kernel
theorem dL_ends_122 : decode cL_ends 122 = .ok (.iadd, 1) := by decide +kernel
theorem dL_ends_123 : decode cL_ends 123 = .ok (.aload_n 1, 1) := by decide +kernel
theorem dL_ends_124 : decode cL_ends 124 = .ok (.getfield 64, 3) := by decide +kernel
theorem dL_ends_127 : decode cL_ends 127 = .ok (.iload_n 2, 1) := by decide +kernel
theorem dL_ends_128 : decode cL_ends 128 = .ok (.aaload, 1) := by decide +kernel
theorem dL_ends_129 : decode cL_ends 129 = .ok (.iconst 2, 1) := by decide +kernel
theorem dL_ends_130 : decode cL_ends 130 = .ok (.iaload, 1) := by decide +kernel
theorem dL_ends_131 : decode cL_ends 131 = .ok (.iadd, 1) := by decide +kernel
theorem dL_ends_132 : decode cL_ends 132 = .ok (.aload_n 1, 1) := by decide +kernel
theorem dL_ends_133 : decode cL_ends 133 = .ok (.getfield 64, 3) := by decide +kernel
theorem dL_ends_136 : decode cL_ends 136 = .ok (.iload_n 2, 1) := by decide +kernel
theorem dL_ends_137 : decode cL_ends 137 = .ok (.aaload, 1) := by decide +kernel
theorem dL_ends_138 : decode cL_ends 138 = .ok (.iconst 3, 1) := by decide +kernel
theorem dL_ends_139 : decode cL_ends 139 = .ok (.iaload, 1) := by decide +kernel
theorem dL_ends_140 : decode cL_ends 140 = .ok (.iadd, 1) := by decide +kernel
theorem dL_ends_141 : decode cL_ends 141 = .ok (.if_icmp .ne 7, 3) := by decide +kernel
theorem dL_ends_144 : decode cL_ends 144 = .ok (.iconst 1, 1) := by decide +kernel
theorem dL_ends_145 : decode cL_ends 145 = .ok (.goto 4, 3) := by decide +kernel
theorem dL_ends_148 : decode cL_ends 148 = .ok (.iconst 0, 1) := by decide +kernel
theorem dL_ends_149 : decode cL_ends 149 = .ok (.ireturn, 1) := by decide +kernel
set_option maxRecDepth 20000 in
theorem ggL_acts_L_low : GoodIn wsL_acts wsL_low := goodIn_r _ [8, 9] (by decide +kernel) (by decide +kernel)
set_option maxRecDepth 20000 in
theorem gL_acts_L_low : GoodIn wsL_acts (va_wsS RL 128 yL_low wsL_low) := goodIn_app (goodIn_of _ (by decide +kernel)) ggL_acts_L_low
set_option maxRecDepth 20000 in
theorem ggL_acts_X2_buy : GoodIn wsL_acts wsX2_buy := goodIn_ca (goodIn_ca (goodIn_r _ [14, 15, 16, 17, 18, 19, 20, 21, 13, 22, 23, 24, 25, 26, 27, 28, 29, 30, 329, 330, 331, 332, 333, 334, 335, 336, 337, 338, 339] (by decide +kernel) (by decide +kernel)) (goodIn_sub (fun _ h => List.mem_cons_of_mem _ (List.mem_append_left _ (List.mem_append_left _ (List.mem_append_left _ (List.mem_append_left _ (List.mem_append_right _ h)))))) (by decide +kernel))) (goodIn_sub (fun _ h => List.mem_cons_of_mem _ (List.mem_append_left _ (List.mem_append_left _ (List.mem_append_left _ (List.mem_append_right _ h))))) (by decide +kernel))
set_option maxRecDepth 20000 in
theorem gL_acts_X2_buy : GoodIn wsL_acts (wsV RL 138 RX2 yX2_buy wsX2_buy) := goodIn_app (goodIn_of _ (by decide +kernel)) ggL_acts_X2_buy
set_option maxRecDepth 20000 in
theorem ggL_acts_L_lends : GoodIn wsL_acts wsL_lends := goodIn_ca (goodIn_ca (goodIn_r _ [33, 34, 35, 36, 37, 13, 38, 39, 40, 41, 42, 23, 24, 20, 21, 22, 25, 26, 27, 28, 29, 30, 43, 44, 45, 46, 47, 48, 17, 49, 50, 51, 52, 315, 316, 317, 318, 319, 320, 321, 322, 323, 324, 325, 326, 327, 328, 329, 330, 331, 332, 333, 334, 335, 336, 337, 338, 339] (by decide +kernel) (by decide +kernel)) (goodIn_sub (fun _ h => List.mem_cons_of_mem _ (List.mem_append_left _ (List.mem_append_left _ (List.mem_append_left _ (List.mem_append_right _ h))))) (by decide +kernel))) (goodIn_sub (fun _ h => List.mem_cons_of_mem _ (List.mem_append_left _ (List.mem_append_left _ (List.mem_append_right _ h)))) (by decide +kernel))
set_option maxRecDepth 20000 in
theorem gL_acts_L_lends : GoodIn wsL_acts (va_wsS RL 141 yL_lends wsL_lends) := goodIn_app (goodIn_of _ (by decide +kernel)) ggL_acts_L_lends
set_option maxRecDepth 20000 in
theorem ggL_acts_L_gives : GoodIn wsL_acts wsL_gives := goodIn_ca (goodIn_ca (goodIn_ca (goodIn_r _ [55, 56, 34, 57, 58, 59, 13, 60, 15, 16, 39, 40, 41, 42, 23, 24, 20, 21, 22, 25, 26, 27, 28, 29, 30, 43, 44, 45, 46, 47, 48, 17, 49, 50, 51, 52, 315, 316, 317, 318, 319, 320, 321, 322, 323, 324, 325, 326, 327, 328, 329, 330, 331, 332, 333, 334, 335, 336, 337, 338, 339] (by decide +kernel) (by decide +kernel)) (goodIn_sub (fun _ h => List.mem_cons_of_mem _ (List.mem_append_left _ (List.mem_append_left _ (List.mem_append_left _ (List.mem_append_left _ (List.mem_append_right _ h)))))) (by decide +kernel))) (goodIn_sub (fun _ h => List.mem_cons_of_mem _ (List.mem_append_left _ (List.mem_append_left _ (List.mem_append_left _ (List.mem_append_right _ h))))) (by decide +kernel))) (goodIn_sub (fun _ h => List.mem_cons_of_mem _ (List.mem_append_left _ (List.mem_append_left _ (List.mem_append_right _ h)))) (by decide +kernel))
set_option maxRecDepth 20000 in
theorem gL_acts_L_gives : GoodIn wsL_acts (va_wsS RL 145 yL_gives wsL_gives) := goodIn_app (goodIn_of _ (by decide +kernel)) ggL_acts_L_gives
set_option maxRecDepth 20000 in
theorem ggL_acts_X2_assign : GoodIn wsL_acts wsX2_assign := goodIn_ca (goodIn_r _ [64, 65, 66, 67, 13, 68, 23, 24, 25, 26, 27, 20, 21, 22, 329, 330, 331, 332, 333, 334, 335, 336, 337, 338, 339] (by decide +kernel) (by decide +kernel)) (goodIn_sub (fun _ h => List.mem_cons_of_mem _ (List.mem_append_left _ (List.mem_append_left _ (List.mem_append_left _ (List.mem_append_right _ h))))) (by decide +kernel))
set_option maxRecDepth 20000 in
theorem gL_acts_X2_assign : GoodIn wsL_acts (wsV RL 148 RX2 yX2_assign wsX2_assign) := goodIn_app (goodIn_of _ (by decide +kernel)) ggL_acts_X2_assign
set_option maxRecDepth 20000 in
theorem ggL_acts_L_logs : GoodIn wsL_acts wsL_logs := goodIn_ca (goodIn_ca (goodIn_ca (goodIn_ca (goodIn_r _ [71, 56, 34, 72, 73, 74, 75, 76, 77, 78, 79, 80, 13, 81, 15, 16, 82, 65, 83, 84, 85, 86, 87, 66, 67, 68, 23, 24, 25, 26, 27, 88, 89, 90, 91, 92, 93, 94, 95, 96, 97, 98, 99, 100, 101, 102, 103, 104, 105, 106, 107, 108, 109, 110, 111, 112, 113, 114, 115, 116, 117, 118, 119, 120, 121, 122, 123, 124, 43, 44, 45, 46, 47, 48, 17, 125, 126, 127, 128, 129, 130, 131, 132, 133, 134, 135, 136, 137, 138, 139, 140, 141, 142, 143, 144, 145, 146, 147, 148, 149, 150, 151, 152, 153, 154, 155, 156, 157, 158, 159, 160, 161, 162, 163, 164, 165, 166, 167, 168, 169, 170, 171, 172, 173, 174, 175, 176, 177, 178, 2, 3, 4, 179, 180, 181, 182, 183, 184, 185, 186, 187, 188, 189, 190, 191, 192, 193, 194, 195, 196, 197, 198, 199, 200, 201, 202, 203, 204, 205, 206, 207, 208, 315, 316, 317, 318, 319, 320, 321, 322, 323, 324, 325, 326, 327, 328, 329, 330, 331, 332, 333, 334, 335, 336, 337, 338, 339, 340, 341, 342, 343, 344, 345, 346, 347, 348, 349, 350, 351, 352, 353, 354, 355] (by decide +kernel) (by decide +kernel)) (goodIn_sub (fun _ h => List.mem_cons_of_mem _ (List.mem_append_left _ (List.mem_append_left _ (List.mem_append_left _ (List.mem_append_left _ (List.mem_append_right _ h)))))) (by decide +kernel))) (goodIn_sub (fun _ h => List.mem_cons_of_mem _ (List.mem_append_left _ (List.mem_append_left _ (List.mem_append_left _ (List.mem_append_right _ h))))) (by decide +kernel))) (goodIn_sub (fun _ h => List.mem_cons_of_mem _ (List.mem_append_left _ (List.mem_append_left _ (List.mem_append_right _ h)))) (by decide +kernel))) (goodIn_sub (fun _ h => List.mem_cons_of_mem _ (List.mem_append_left _ (List.mem_append_right _ h))) (by decide +kernel))
set_option maxRecDepth 20000 in
theorem gL_acts_L_logs : GoodIn wsL_acts (va_wsS RL 151 yL_logs wsL_logs) := goodIn_app (goodIn_of _ (by decide +kernel)) ggL_acts_L_logs
set_option maxRecDepth 20000 in
theorem ggL_acts_L_takes : GoodIn wsL_acts wsL_takes := goodIn_ca (goodIn_ca (goodIn_ca (goodIn_ca (goodIn_r _ [211, 212, 56, 34, 213, 214, 215, 13, 216, 23, 24, 217, 65, 218, 219, 220, 221, 222, 223, 82, 95, 97, 98, 99, 100, 101, 102, 25, 26, 27, 103, 104, 105, 106, 107, 108, 109, 110, 111, 112, 113, 114, 115, 116, 117, 118, 119, 66, 67, 68, 224, 225, 226, 15, 16, 120, 121, 122, 86, 123, 124, 43, 44, 45, 46, 47, 48, 17, 227, 228, 229, 230, 87, 231, 72, 73, 74, 75, 76, 77, 315, 316, 317, 318, 319, 320, 321, 322, 323, 324, 325, 326, 327, 328, 346, 347, 348, 349, 350, 351, 352, 329, 330, 331, 332, 333, 334, 335, 336, 337, 338, 339, 353, 354, 355] (by decide +kernel) (by decide +kernel)) (goodIn_sub (fun _ h => List.mem_cons_of_mem _ (List.mem_append_left _ (List.mem_append_left _ (List.mem_append_left _ (List.mem_append_right _ h))))) (by decide +kernel))) (goodIn_sub (fun _ h => List.mem_cons_of_mem _ (List.mem_append_right _ h)) (by decide +kernel))) (goodIn_sub (fun _ h => List.mem_cons_of_mem _ (List.mem_append_left _ (List.mem_append_left _ (List.mem_append_left _ (List.mem_append_left _ (List.mem_append_right _ h)))))) (by decide +kernel))) (goodIn_sub (fun _ h => List.mem_cons_of_mem _ (List.mem_append_left _ (List.mem_append_left _ (List.mem_append_right _ h)))) (by decide +kernel))
set_option maxRecDepth 20000 in
theorem gL_acts_L_takes : GoodIn wsL_acts (va_wsS RL 155 yL_takes wsL_takes) := goodIn_app (goodIn_of _ (by decide +kernel)) ggL_acts_L_takes
set_option maxRecDepth 20000 in
theorem ggL_acts_L_prints : GoodIn wsL_acts wsL_prints := goodIn_ca (goodIn_ca (goodIn_ca (goodIn_ca (goodIn_r _ [234, 56, 34, 72, 73, 74, 75, 76, 77, 235, 236, 237, 13, 238, 23, 24, 65, 217, 239, 87, 231, 240, 241, 242, 218, 219, 220, 221, 222, 223, 82, 95, 97, 98, 99, 100, 101, 102, 25, 26, 27, 103, 104, 105, 106, 107, 108, 109, 110, 111, 112, 113, 114, 115, 116, 117, 118, 119, 224, 225, 226, 15, 16, 120, 121, 122, 86, 123, 124, 43, 44, 45, 46, 47, 48, 17, 243, 244, 245, 246, 247, 248, 249, 250, 251, 252, 253, 254, 255, 256, 315, 316, 317, 318, 319, 320, 321, 322, 323, 324, 325, 326, 327, 328, 329, 330, 331, 332, 333, 334, 335, 336, 337, 338, 339, 346, 347, 348, 349, 350, 351, 352, 340, 341, 342, 343, 344, 345, 353, 354, 355] (by decide +kernel) (by decide +kernel)) (goodIn_sub (fun _ h => List.mem_cons_of_mem _ (List.mem_append_left _ (List.mem_append_left _ (List.mem_append_left _ (List.mem_append_right _ h))))) (by decide +kernel))) (goodIn_sub (fun _ h => List.mem_cons_of_mem _ (List.mem_append_right _ h)) (by decide +kernel))) (goodIn_sub (fun _ h => List.mem_cons_of_mem _ (List.mem_append_left _ (List.mem_append_left _ (List.mem_append_left _ (List.mem_append_left _ (List.mem_append_right _ h)))))) (by decide +kernel))) (goodIn_sub (fun _ h => List.mem_cons_of_mem _ (List.mem_append_left _ (List.mem_append_left _ (List.mem_append_right _ h)))) (by decide +kernel))
set_option maxRecDepth 20000 in
theorem gL_acts_L_prints : GoodIn wsL_acts (va_wsS RL 159 yL_prints wsL_prints) := goodIn_app (goodIn_of _ (by decide +kernel)) ggL_acts_L_prints
set_option maxRecDepth 20000 in
theorem ggL_acts_L_ends : GoodIn wsL_acts wsL_ends := goodIn_ca (goodIn_ca (goodIn_r _ [259, 72, 73, 74, 75, 76, 77, 260, 261, 262, 13, 263, 217, 96, 264, 218, 219, 220, 221, 222, 223, 82, 95, 97, 98, 99, 100, 101, 102, 25, 26, 27, 103, 104, 105, 106, 107, 108, 109, 110, 111, 112, 113, 114, 115, 116, 117, 118, 119, 120, 121, 122, 86, 123, 124, 265, 266, 267, 268, 15, 16, 269, 270, 271, 272, 224, 225, 226, 227, 228, 229, 230, 87, 231, 273, 274, 275, 276, 277, 278, 279, 280, 240, 83, 281, 282, 283, 136, 284, 138, 145, 285, 286, 287, 288, 153, 315, 316, 317, 318, 319, 320, 321, 322, 323, 324, 325, 326, 327, 328, 346, 347, 348, 349, 350, 351, 352, 329, 330, 331, 332, 333, 334, 335, 336, 337, 338, 339, 353, 354, 355, 340, 341, 342, 343, 344, 345] (by decide +kernel) (by decide +kernel)) (goodIn_sub (fun _ h => List.mem_cons_of_mem _ (List.mem_append_right _ h)) (by decide +kernel))) (goodIn_sub (fun _ h => List.mem_cons_of_mem _ (List.mem_append_left _ (List.mem_append_left _ (List.mem_append_left _ (List.mem_append_left _ (List.mem_append_right _ h)))))) (by decide +kernel))
set_option maxRecDepth 20000 in
theorem gL_acts_L_ends : GoodIn wsL_acts (va_wsS RL 162 yL_ends wsL_ends) := goodIn_app (goodIn_of _ (by decide +kernel)) ggL_acts_L_ends
set_option maxRecDepth 20000 in
theorem ggL_acts_X3_pass : GoodIn wsL_acts wsX3_pass := goodIn_r _ [292, 293, 294, 252, 253, 254, 77, 295, 296, 297, 73, 74, 75, 76, 298, 249, 250, 251, 255, 256, 315, 316, 317, 318, 319, 320, 321, 322, 323, 324, 325, 326, 327, 328] (by decide +kernel) (by decide +kernel)
set_option maxRecDepth 20000 in
theorem gL_acts_X3_pass : GoodIn wsL_acts (wsV RL 166 RX3 yX3_pass wsX3_pass) := goodIn_app (goodIn_of _ (by decide +kernel)) ggL_acts_X3_pass
set_option maxRecDepth 20000 in
theorem ggL_acts_X2_pass : GoodIn wsL_acts wsX2_pass := goodIn_ca (goodIn_r _ [302, 23, 24, 87, 25, 26, 13, 27, 303, 304, 305, 306, 82, 95, 97, 98, 99, 100, 101, 102, 103, 104, 105, 106, 107, 108, 109, 110, 111, 112, 113, 114, 115, 116, 117, 118, 119, 120, 121, 122, 86, 123, 124, 307, 308, 309, 310, 17, 65, 217, 240, 311, 231, 312, 313, 314, 243, 244, 245, 246, 247, 277, 278, 279, 280, 264, 83, 281, 282, 283, 136, 284, 138, 145, 329, 330, 331, 332, 333, 334, 335, 336, 337, 338, 339, 353, 354, 355, 346, 347, 348, 349, 350, 351, 352, 340, 341, 342, 343, 344, 345] (by decide +kernel) (by decide +kernel)) (goodIn_sub (fun _ h => List.mem_cons_of_mem _ (List.mem_append_left _ (List.mem_append_left _ (List.mem_append_left _ (List.mem_append_right _ h))))) (by decide +kernel))
set_option maxRecDepth 20000 in
theorem gL_acts_X2_pass : GoodIn wsL_acts (wsV RL 169 RX2 yX2_pass wsX2_pass) := goodIn_app (goodIn_of _ (by decide +kernel)) ggL_acts_X2_pass
theorem dL_acts_0 : decode cL_acts 0 = .ok (.iload_n 2, 1) := by decide +kernel
theorem dL_acts_1 : decode cL_acts 1 = .ok (.bipush 14, 2) := by decide +kernel
theorem dL_acts_3 : decode cL_acts 3 = .ok (.invokestatic 128, 3) := by decide +kernel
theorem dL_acts_6 : decode cL_acts 6 = .ok (.istore_n 3, 1) := by decide +kernel
theorem dL_acts_7 : decode cL_acts 7 = .ok (.iload_n 2, 1) := by decide +kernel
theorem dL_acts_8 : decode cL_acts 8 = .ok (.iconst 4, 1) := by decide +kernel
theorem dL_acts_9 : decode cL_acts 9 = .ok (.ishr, 1) := by decide +kernel
theorem dL_acts_10 : decode cL_acts 10 = .ok (.iconst 1, 1) := by decide +kernel
theorem dL_acts_11 : decode cL_acts 11 = .ok (.aload_n 1, 1) := by decide +kernel
theorem dL_acts_12 : decode cL_acts 12 = .ok (.getfield 36, 3) := by decide +kernel
theorem dL_acts_15 : decode cL_acts 15 = .ok (.invokestatic 133, 3) := by decide +kernel
theorem dL_acts_18 : decode cL_acts 18 = .ok (.invokestatic 128, 3) := by decide +kernel
theorem dL_acts_21 : decode cL_acts 21 = .ok (.istore 4, 2) := by decide +kernel
theorem dL_acts_23 : decode cL_acts 23 = .ok (.iload_n 2, 1) := by decide +kernel
theorem dL_acts_24 : decode cL_acts 24 = .ok (.iconst 4, 1) := by decide +kernel
theorem dL_acts_25 : decode cL_acts 25 = .ok (.ishr, 1) := by decide +kernel
theorem dL_acts_26 : decode cL_acts 26 = .ok (.iconst 4, 1) := by decide +kernel
theorem dL_acts_27 : decode cL_acts 27 = .ok (.invokestatic 128, 3) := by decide +kernel
theorem dL_acts_30 : decode cL_acts 30 = .ok (.istore 5, 2) := by decide +kernel
theorem dL_acts_32 : decode cL_acts 32 = .ok (.iload 5, 2) := by decide +kernel
theorem dL_acts_34 : decode cL_acts 34 = .ok (.iconst 1, 1) := by decide +kernel
theorem dL_acts_35 : decode cL_acts 35 = .ok (.iadd, 1) := by decide +kernel
theorem dL_acts_36 : decode cL_acts 36 = .ok (.iload_n 2, 1) := by decide +kernel
theorem dL_acts_37 : decode cL_acts 37 = .ok (.bipush 6, 2) := by decide +kernel
theorem dL_acts_39 : decode cL_acts 39 = .ok (.ishr, 1) := by decide +kernel
theorem dL_acts_40 : decode cL_acts 40 = .ok (.iconst 3, 1) := by decide +kernel
theorem dL_acts_41 : decode cL_acts 41 = .ok (.invokestatic 128, 3) := by decide +kernel
theorem dL_acts_44 : decode cL_acts 44 = .ok (.iadd, 1) := by decide +kernel
theorem dL_acts_45 : decode cL_acts 45 = .ok (.iconst 4, 1) := by decide +kernel
theorem dL_acts_46 : decode cL_acts 46 = .ok (.irem, 1) := by decide +kernel
theorem dL_acts_47 : decode cL_acts 47 = .ok (.istore 6, 2) := by decide +kernel
theorem dL_acts_49 : decode cL_acts 49 = .ok (.iload_n 2, 1) := by decide +kernel
theorem dL_acts_50 : decode cL_acts 50 = .ok (.bipush 10, 2) := by decide +kernel
theorem dL_acts_52 : decode cL_acts 52 = .ok (.ishr, 1) := by decide +kernel
theorem dL_acts_53 : decode cL_acts 53 = .ok (.bipush 10, 2) := by decide +kernel
theorem dL_acts_55 : decode cL_acts 55 = .ok (.invokestatic 128, 3) := by decide +kernel
theorem dL_acts_58 : decode cL_acts 58 = .ok (.istore 7, 2) := by decide +kernel
theorem dL_acts_60 : decode cL_acts 60 = .ok (.iload_n 3, 1) := by decide +kernel
theorem dL_acts_61 : decode cL_acts 61 = .ok (.iconst 2, 1) := by decide +kernel
theorem dL_acts_62 : decode cL_acts 62 = .ok (.if_icmp .ge 57, 3) := by decide +kernel
theorem dL_acts_65 : decode cL_acts 65 = .ok (.aload_n 1, 1) := by decide +kernel
theorem dL_acts_66 : decode cL_acts 66 = .ok (.getfield 30, 3) := by decide +kernel
theorem dL_acts_69 : decode cL_acts 69 = .ok (.iload 5, 2) := by decide +kernel
theorem dL_acts_71 : decode cL_acts 71 = .ok (.dup2, 1) := by decide +kernel
theorem dL_acts_72 : decode cL_acts 72 = .ok (.iaload, 1) := by decide +kernel
theorem dL_acts_73 : decode cL_acts 73 = .ok (.iconst 1, 1) := by decide +kernel
theorem dL_acts_74 : decode cL_acts 74 = .ok (.iload_n 2, 1) := by decide +kernel
theorem dL_acts_75 : decode cL_acts 75 = .ok (.bipush 6, 2) := by decide +kernel
theorem dL_acts_77 : decode cL_acts 77 = .ok (.ishr, 1) := by decide +kernel
theorem dL_acts_78 : decode cL_acts 78 = .ok (.bipush 60, 2) := by decide +kernel
theorem dL_acts_80 : decode cL_acts 80 = .ok (.invokestatic 128, 3) := by decide +kernel
theorem dL_acts_83 : decode cL_acts 83 = .ok (.iadd, 1) := by decide +kernel
theorem dL_acts_84 : decode cL_acts 84 = .ok (.iadd, 1) := by decide +kernel
theorem dL_acts_85 : decode cL_acts 85 = .ok (.iastore, 1) := by decide +kernel
theorem dL_acts_86 : decode cL_acts 86 = .ok (.aload_n 0, 1) := by decide +kernel
theorem dL_acts_87 : decode cL_acts 87 = .ok (.iload 5, 2) := by decide +kernel
theorem dL_acts_89 : decode cL_acts 89 = .ok (.iconst 1, 1) := by decide +kernel
theorem dL_acts_90 : decode cL_acts 90 = .ok (.iload_n 2, 1) := by decide +kernel
theorem dL_acts_91 : decode cL_acts 91 = .ok (.bipush 6, 2) := by decide +kernel
theorem dL_acts_93 : decode cL_acts 93 = .ok (.ishr, 1) := by decide +kernel
theorem dL_acts_94 : decode cL_acts 94 = .ok (.bipush 60, 2) := by decide +kernel
theorem dL_acts_96 : decode cL_acts 96 = .ok (.invokestatic 128, 3) := by decide +kernel
theorem dL_acts_99 : decode cL_acts 99 = .ok (.iadd, 1) := by decide +kernel
theorem dL_acts_100 : decode cL_acts 100 = .ok (.invokevirtual 138, 3) := by decide +kernel
theorem dL_acts_103 : decode cL_acts 103 = .ok (.aload_n 1, 1) := by decide +kernel
theorem dL_acts_104 : decode cL_acts 104 = .ok (.getfield 30, 3) := by decide +kernel
theorem dL_acts_107 : decode cL_acts 107 = .ok (.iload 5, 2) := by decide +kernel
theorem dL_acts_109 : decode cL_acts 109 = .ok (.iaload, 1) := by decide +kernel
theorem dL_acts_110 : decode cL_acts 110 = .ok (.if_icmp .ne 7, 3) := by decide +kernel
theorem dL_acts_113 : decode cL_acts 113 = .ok (.iconst 1, 1) := by decide +kernel
theorem dL_acts_114 : decode cL_acts 114 = .ok (.goto 4, 3) := by decide +kernel
theorem dL_acts_117 : decode cL_acts 117 = .ok (.iconst 0, 1) := by decide +kernel
theorem dL_acts_118 : decode cL_acts 118 = .ok (.ireturn, 1) := by decide +kernel
theorem dL_acts_119 : decode cL_acts 119 = .ok (.iload_n 3, 1) := by decide +kernel
theorem dL_acts_120 : decode cL_acts 120 = .ok (.iconst 2, 1) := by decide +kernel
theorem dL_acts_121 : decode cL_acts 121 = .ok (.if_icmp .ne 24, 3) := by decide +kernel
theorem dL_acts_124 : decode cL_acts 124 = .ok (.aload_n 0, 1) := by decide +kernel
theorem dL_acts_125 : decode cL_acts 125 = .ok (.aload_n 1, 1) := by decide +kernel
theorem dL_acts_126 : decode cL_acts 126 = .ok (.iload 5, 2) := by decide +kernel
theorem dL_acts_128 : decode cL_acts 128 = .ok (.iload 6, 2) := by decide +kernel
theorem dL_acts_130 : decode cL_acts 130 = .ok (.iconst 1, 1) := by decide +kernel
theorem dL_acts_131 : decode cL_acts 131 = .ok (.iload_n 2, 1) := by decide +kernel
theorem dL_acts_132 : decode cL_acts 132 = .ok (.bipush 8, 2) := by decide +kernel
theorem dL_acts_134 : decode cL_acts 134 = .ok (.ishr, 1) := by decide +kernel
theorem dL_acts_135 : decode cL_acts 135 = .ok (.bipush 40, 2) := by decide +kernel
theorem dL_acts_137 : decode cL_acts 137 = .ok (.invokestatic 128, 3) := by decide +kernel
theorem dL_acts_140 : decode cL_acts 140 = .ok (.iadd, 1) := by decide +kernel
theorem dL_acts_141 : decode cL_acts 141 = .ok (.invokestatic 141, 3) := by decide +kernel
theorem dL_acts_144 : decode cL_acts 144 = .ok (.ireturn, 1) := by decide +kernel
theorem dL_acts_145 : decode cL_acts 145 = .ok (.iload_n 3, 1) := by decide +kernel
theorem dL_acts_146 : decode cL_acts 146 = .ok (.iconst 3, 1) := by decide +kernel
theorem dL_acts_147 : decode cL_acts 147 = .ok (.if_icmp .ne 24, 3) := by decide +kernel
theorem dL_acts_150 : decode cL_acts 150 = .ok (.aload_n 0, 1) := by decide +kernel
theorem dL_acts_151 : decode cL_acts 151 = .ok (.aload_n 1, 1) := by decide +kernel
theorem dL_acts_152 : decode cL_acts 152 = .ok (.iload 5, 2) := by decide +kernel
theorem dL_acts_154 : decode cL_acts 154 = .ok (.iload 6, 2) := by decide +kernel
theorem dL_acts_156 : decode cL_acts 156 = .ok (.iconst 1, 1) := by decide +kernel
theorem dL_acts_157 : decode cL_acts 157 = .ok (.iload_n 2, 1) := by decide +kernel
theorem dL_acts_158 : decode cL_acts 158 = .ok (.bipush 8, 2) := by decide +kernel
theorem dL_acts_160 : decode cL_acts 160 = .ok (.ishr, 1) := by decide +kernel
theorem dL_acts_161 : decode cL_acts 161 = .ok (.bipush 20, 2) := by decide +kernel
theorem dL_acts_163 : decode cL_acts 163 = .ok (.invokestatic 128, 3) := by decide +kernel
theorem dL_acts_166 : decode cL_acts 166 = .ok (.iadd, 1) := by decide +kernel
theorem dL_acts_167 : decode cL_acts 167 = .ok (.invokestatic 145, 3) := by decide +kernel
theorem dL_acts_170 : decode cL_acts 170 = .ok (.ireturn, 1) := by decide +kernel
theorem dL_acts_171 : decode cL_acts 171 = .ok (.iload_n 3, 1) := by decide +kernel
theorem dL_acts_172 : decode cL_acts 172 = .ok (.iconst 4, 1) := by decide +kernel
theorem dL_acts_173 : decode cL_acts 173 = .ok (.if_icmp .ne 40, 3) := by decide +kernel
theorem dL_acts_176 : decode cL_acts 176 = .ok (.aload_n 1, 1) := by decide +kernel
theorem dL_acts_177 : decode cL_acts 177 = .ok (.getfield 84, 3) := by decide +kernel
theorem dL_acts_180 : decode cL_acts 180 = .ok (.iload 7, 2) := by decide +kernel
theorem dL_acts_182 : decode cL_acts 182 = .ok (.iaload, 1) := by decide +kernel
theorem dL_acts_183 : decode cL_acts 183 = .ok (.istore 8, 2) := by decide +kernel
theorem dL_acts_185 : decode cL_acts 185 = .ok (.aload_n 1, 1) := by decide +kernel
theorem dL_acts_186 : decode cL_acts 186 = .ok (.getfield 84, 3) := by decide +kernel
theorem dL_acts_189 : decode cL_acts 189 = .ok (.iload 7, 2) := by decide +kernel
theorem dL_acts_191 : decode cL_acts 191 = .ok (.iload 5, 2) := by decide +kernel
theorem dL_acts_193 : decode cL_acts 193 = .ok (.iastore, 1) := by decide +kernel
theorem dL_acts_194 : decode cL_acts 194 = .ok (.aload_n 0, 1) := by decide +kernel
theorem dL_acts_195 : decode cL_acts 195 = .ok (.iload 7, 2) := by decide +kernel
theorem dL_acts_197 : decode cL_acts 197 = .ok (.iload 5, 2) := by decide +kernel
theorem dL_acts_199 : decode cL_acts 199 = .ok (.invokevirtual 148, 3) := by decide +kernel
theorem dL_acts_202 : decode cL_acts 202 = .ok (.iload 8, 2) := by decide +kernel
theorem dL_acts_204 : decode cL_acts 204 = .ok (.if_icmp .ne 7, 3) := by decide +kernel
theorem dL_acts_207 : decode cL_acts 207 = .ok (.iconst 1, 1) := by decide +kernel
theorem dL_acts_208 : decode cL_acts 208 = .ok (.goto 4, 3) := by decide +kernel
theorem dL_acts_211 : decode cL_acts 211 = .ok (.iconst 0, 1) := by decide +kernel
theorem dL_acts_212 : decode cL_acts 212 = .ok (.ireturn, 1) := by decide +kernel
theorem dL_acts_213 : decode cL_acts 213 = .ok (.iload_n 3, 1) := by decide +kernel
theorem dL_acts_214 : decode cL_acts 214 = .ok (.bipush 8, 2) := by decide +kernel
theorem dL_acts_216 : decode cL_acts 216 = .ok (.if_icmp .lt 10, 3) := by decide +kernel
theorem dL_acts_219 : decode cL_acts 219 = .ok (.aload_n 1, 1) := by decide +kernel
theorem dL_acts_220 : decode cL_acts 220 = .ok (.getfield 36, 3) := by decide +kernel
theorem dL_acts_223 : decode cL_acts 223 = .ok (.ifCond .ne 11, 3) := by decide +kernel
theorem dL_acts_226 : decode cL_acts 226 = .ok (.aload_n 0, 1) := by decide +kernel
theorem dL_acts_227 : decode cL_acts 227 = .ok (.aload_n 1, 1) := by decide +kernel
theorem dL_acts_228 : decode cL_acts 228 = .ok (.iload 7, 2) := by decide +kernel
theorem dL_acts_230 : decode cL_acts 230 = .ok (.invokestatic 151, 3) := by decide +kernel
theorem dL_acts_233 : decode cL_acts 233 = .ok (.ireturn, 1) := by decide +kernel
theorem dL_acts_234 : decode cL_acts 234 = .ok (.iload_n 3, 1) := by decide +kernel
theorem dL_acts_235 : decode cL_acts 235 = .ok (.bipush 10, 2) := by decide +kernel
theorem dL_acts_237 : decode cL_acts 237 = .ok (.if_icmp .ge 13, 3) := by decide +kernel
theorem dL_acts_240 : decode cL_acts 240 = .ok (.aload_n 0, 1) := by decide +kernel
theorem dL_acts_241 : decode cL_acts 241 = .ok (.aload_n 1, 1) := by decide +kernel
theorem dL_acts_242 : decode cL_acts 242 = .ok (.iload 4, 2) := by decide +kernel
theorem dL_acts_244 : decode cL_acts 244 = .ok (.iload 7, 2) := by decide +kernel
theorem dL_acts_246 : decode cL_acts 246 = .ok (.invokestatic 155, 3) := by decide +kernel
theorem dL_acts_249 : decode cL_acts 249 = .ok (.ireturn, 1) := by decide +kernel
theorem dL_acts_250 : decode cL_acts 250 = .ok (.iload_n 3, 1) := by decide +kernel
theorem dL_acts_251 : decode cL_acts 251 = .ok (.bipush 10, 2) := by decide +kernel
theorem dL_acts_253 : decode cL_acts 253 = .ok (.if_icmp .ne 22, 3) := by decide +kernel
theorem dL_acts_256 : decode cL_acts 256 = .ok (.aload_n 0, 1) := by decide +kernel
theorem dL_acts_257 : decode cL_acts 257 = .ok (.aload_n 1, 1) := by decide +kernel
theorem dL_acts_258 : decode cL_acts 258 = .ok (.iload 4, 2) := by decide +kernel
theorem dL_acts_260 : decode cL_acts 260 = .ok (.iconst 1, 1) := by decide +kernel
theorem dL_acts_261 : decode cL_acts 261 = .ok (.iload_n 2, 1) := by decide +kernel
theorem dL_acts_262 : decode cL_acts 262 = .ok (.bipush 10, 2) := by decide +kernel
theorem dL_acts_264 : decode cL_acts 264 = .ok (.ishr, 1) := by decide +kernel
theorem dL_acts_265 : decode cL_acts 265 = .ok (.bipush 9, 2) := by decide +kernel
theorem dL_acts_267 : decode cL_acts 267 = .ok (.invokestatic 128, 3) := by decide +kernel
theorem dL_acts_270 : decode cL_acts 270 = .ok (.iadd, 1) := by decide +kernel
theorem dL_acts_271 : decode cL_acts 271 = .ok (.invokestatic 159, 3) := by decide +kernel
theorem dL_acts_274 : decode cL_acts 274 = .ok (.ireturn, 1) := by decide +kernel
theorem dL_acts_275 : decode cL_acts 275 = .ok (.iload_n 3, 1) := by decide +kernel
theorem dL_acts_276 : decode cL_acts 276 = .ok (.bipush 11, 2) := by decide +kernel
theorem dL_acts_278 : decode cL_acts 278 = .ok (.if_icmp .ne 27, 3) := by decide +kernel
theorem dL_acts_281 : decode cL_acts 281 = .ok (.aload_n 0, 1) := by decide +kernel
theorem dL_acts_282 : decode cL_acts 282 = .ok (.aload_n 1, 1) := by decide +kernel
theorem dL_acts_283 : decode cL_acts 283 = .ok (.iload 4, 2) := by decide +kernel
theorem dL_acts_285 : decode cL_acts 285 = .ok (.iload_n 2, 1) := by decide +kernel
theorem dL_acts_286 : decode cL_acts 286 = .ok (.bipush 10, 2) := by decide +kernel
theorem dL_acts_288 : decode cL_acts 288 = .ok (.ishr, 1) := by decide +kernel
theorem dL_acts_289 : decode cL_acts 289 = .ok (.iconst 3, 1) := by decide +kernel
theorem dL_acts_290 : decode cL_acts 290 = .ok (.invokestatic 128, 3) := by decide +kernel
theorem dL_acts_293 : decode cL_acts 293 = .ok (.ifCond .le 7, 3) := by decide +kernel
theorem dL_acts_296 : decode cL_acts 296 = .ok (.iconst 1, 1) := by decide +kernel
theorem dL_acts_297 : decode cL_acts 297 = .ok (.goto 4, 3) := by decide +kernel
theorem dL_acts_300 : decode cL_acts 300 = .ok (.iconst 0, 1) := by decide +kernel
theorem dL_acts_301 : decode cL_acts 301 = .ok (.invokestatic 162, 3) := by decide +kernel
theorem dL_acts_304 : decode cL_acts 304 = .ok (.ireturn, 1) := by decide +kernel
theorem dL_acts_305 : decode cL_acts 305 = .ok (.iconst 1, 1) := by decide +kernel
theorem dL_acts_306 : decode cL_acts 306 = .ok (.iload_n 2, 1) := by decide +kernel
theorem dL_acts_307 : decode cL_acts 307 = .ok (.iconst 4, 1) := by decide +kernel
theorem dL_acts_308 : decode cL_acts 308 = .ok (.ishr, 1) := by decide +kernel
theorem dL_acts_309 : decode cL_acts 309 = .ok (.bipush 12, 2) := by decide +kernel
theorem dL_acts_311 : decode cL_acts 311 = .ok (.invokestatic 128, 3) := by decide +kernel
theorem dL_acts_314 : decode cL_acts 314 = .ok (.iadd, 1) := by decide +kernel
theorem dL_acts_315 : decode cL_acts 315 = .ok (.istore 8, 2) := by decide +kernel
theorem dL_acts_317 : decode cL_acts 317 = .ok (.iconst 0, 1) := by decide +kernel
theorem dL_acts_318 : decode cL_acts 318 = .ok (.istore 9, 2) := by decide +kernel
theorem dL_acts_320 : decode cL_acts 320 = .ok (.iconst 0, 1) := by decide +kernel
theorem dL_acts_321 : decode cL_acts 321 = .ok (.istore 10, 2) := by decide +kernel
theorem dL_acts_323 : decode cL_acts 323 = .ok (.iload 10, 2) := by decide +kernel
theorem dL_acts_325 : decode cL_acts 325 = .ok (.iload 8, 2) := by decide +kernel
theorem dL_acts_327 : decode cL_acts 327 = .ok (.if_icmp .ge 18, 3) := by decide +kernel
theorem dL_acts_330 : decode cL_acts 330 = .ok (.iload 9, 2) := by decide +kernel
theorem dL_acts_332 : decode cL_acts 332 = .ok (.aload_n 1, 1) := by decide +kernel
theorem dL_acts_333 : decode cL_acts 333 = .ok (.invokevirtual 166, 3) := by decide +kernel
theorem dL_acts_336 : decode cL_acts 336 = .ok (.iadd, 1) := by decide +kernel
theorem dL_acts_337 : decode cL_acts 337 = .ok (.istore 9, 2) := by decide +kernel
theorem dL_acts_339 : decode cL_acts 339 = .ok (.iinc 10 1, 3) := by decide +kernel
theorem dL_acts_342 : decode cL_acts 342 = .ok (.goto (-19), 3) := by decide +kernel
theorem dL_acts_345 : decode cL_acts 345 = .ok (.aload_n 0, 1) := by decide +kernel
theorem dL_acts_346 : decode cL_acts 346 = .ok (.iload 8, 2) := by decide +kernel
theorem dL_acts_348 : decode cL_acts 348 = .ok (.invokevirtual 169, 3) := by decide +kernel
theorem dL_acts_351 : decode cL_acts 351 = .ok (.iload 9, 2) := by decide +kernel
theorem dL_acts_353 : decode cL_acts 353 = .ok (.if_icmp .ne 7, 3) := by decide +kernel
theorem dL_acts_356 : decode cL_acts 356 = .ok (.iconst 1, 1) := by decide +kernel
theorem dL_acts_357 : decode cL_acts 357 = .ok (.goto 4, 3) := by decide +kernel
theorem dL_acts_360 : decode cL_acts 360 = .ok (.iconst 0, 1) := by decide +kernel
theorem dL_acts_361 : decode cL_acts 361 = .ok (.ireturn, 1) := by decide +kernel
set_option maxRecDepth 20000 in
theorem ggL_law_X2_init : GoodIn wsL_law wsX2_init := goodIn_r _ [8, 9, 10, 11, 12, 13, 14, 15, 16, 17, 18, 19, 20, 21, 22, 23, 24, 25, 26, 27, 28, 29, 30, 31, 32, 33, 34, 35, 36, 37, 38, 39, 40, 41, 42, 413, 414, 415, 416, 417, 418, 419, 420, 421, 422, 423, 438, 439, 440] (by decide +kernel) (by decide +kernel)
set_option maxRecDepth 20000 in
theorem gL_law_X2_init : GoodIn wsL_law (wsX2_init) := ggL_law_X2_init
set_option maxRecDepth 20000 in
theorem ggL_law_X3_init : GoodIn wsL_law wsX3_init := goodIn_r _ [44, 45, 10, 11, 12, 46, 47, 48, 49, 50, 51, 52, 53, 54, 55, 56, 424, 425, 426, 427, 428, 429, 430, 431, 432, 433, 434, 435, 436, 437] (by decide +kernel) (by decide +kernel)
set_option maxRecDepth 20000 in
theorem gL_law_X3_init_n172 : GoodIn wsL_law (wsX3_init) := ggL_law_X3_init
set_option maxRecDepth 20000 in
theorem ggL_law_X2_setLimits : GoodIn wsL_law wsX2_setLimits := goodIn_ca (goodIn_r _ [60, 61, 62, 13, 14, 63, 64, 2, 65, 66, 67, 68, 413, 414, 415, 416, 417, 418, 419, 420, 421, 422, 423] (by decide +kernel) (by decide +kernel)) (goodIn_sub (fun _ h => List.mem_append_left _ (List.mem_append_left _ (List.mem_append_left _ (List.mem_append_left _ (List.mem_append_left _ (List.mem_append_right _ h)))))) (by decide +kernel))
set_option maxRecDepth 20000 in
theorem gL_law_X2_setLimits : GoodIn wsL_law (wsV RL 173 RX2 yX2_setLimits wsX2_setLimits) := goodIn_app (goodIn_of _ (by decide +kernel)) ggL_law_X2_setLimits
set_option maxRecDepth 20000 in
theorem ggL_law_X2_addMachine : GoodIn wsL_law wsX2_addMachine := goodIn_ca (goodIn_ca (goodIn_r _ [72, 61, 62, 73, 74, 24, 75, 76, 77, 63, 64, 2, 65, 66, 67, 68, 78, 79, 80, 23, 81, 82, 83, 84, 85, 86, 10, 11, 87, 88, 89, 90, 91, 92, 93, 94, 95, 96, 97, 98, 32, 99, 100, 101, 102, 103, 104, 105, 106, 107, 108, 109, 110, 31, 111, 112, 113, 114, 115, 116, 117, 118, 119, 120, 121, 122, 123, 124, 125, 126, 127, 128, 129, 130, 131, 132, 133, 134, 135, 136, 137, 138, 139, 140, 141, 142, 143, 144, 413, 414, 415, 416, 417, 418, 419, 420, 421, 422, 423, 441, 442, 443, 444, 445, 446, 438, 439, 440] (by decide +kernel) (by decide +kernel)) (goodIn_sub (fun _ h => List.mem_append_left _ (List.mem_append_left _ (List.mem_append_left _ (List.mem_append_left _ (List.mem_append_left _ (List.mem_append_right _ h)))))) (by decide +kernel))) (goodIn_sub (fun _ h => List.mem_append_left _ (List.mem_append_left _ (List.mem_append_left _ (List.mem_append_left _ (List.mem_append_right _ h))))) (by decide +kernel))
set_option maxRecDepth 20000 in
theorem gL_law_X2_addMachine : GoodIn wsL_law (wsV RL 176 RX2 yX2_addMachine wsX2_addMachine) := goodIn_app (goodIn_of _ (by decide +kernel)) ggL_law_X2_addMachine
set_option maxRecDepth 20000 in
theorem ggL_law_L_cell : GoodIn wsL_law wsL_cell := goodIn_r _ [148, 149] (by decide +kernel) (by decide +kernel)
set_option maxRecDepth 20000 in
theorem gL_law_L_cell : GoodIn wsL_law (va_wsS RL 179 yL_cell wsL_cell) := goodIn_app (goodIn_of _ (by decide +kernel)) ggL_law_L_cell
theorem goodIn_h9 {big a : List Cond} {c : Cond} (hc : c ∈ big) (hg : goodWord c = true) (ha : GoodIn big a) : GoodIn big (c :: a) := fun w h => (List.mem_cons.mp h).elim (fun e => e ▸ ⟨hc, good_of_word hg⟩) (ha w)
theorem wla_wsL_acts_r1 : GoodIn wsL_law wsL_acts_r1 := goodIn_sub (by decide +kernel) (by decide +kernel)
theorem wla_wsL_acts_r2 : GoodIn wsL_law wsL_acts_r2 := goodIn_sub (by decide +kernel) (by decide +kernel)
theorem wla_wsL_acts_r3 : GoodIn wsL_law wsL_acts_r3 := goodIn_sub (by decide +kernel) (by decide +kernel)
theorem wla_wsL_acts_r4 : GoodIn wsL_law wsL_acts_r4 := goodIn_sub (by decide +kernel) (by decide +kernel)
theorem wla_wsL_acts_r5 : GoodIn wsL_law wsL_acts_r5 := goodIn_sub (by decide +kernel) (by decide +kernel)
theorem wla_wsL_acts_r6 : GoodIn wsL_law wsL_acts_r6 := goodIn_sub (by decide +kernel) (by decide +kernel)
theorem wla_wsL_acts_r7 : GoodIn wsL_law wsL_acts_r7 := goodIn_sub (by decide +kernel) (by decide +kernel)
theorem wla_wsL_acts_r8 : GoodIn wsL_law wsL_acts_r8 := goodIn_sub (by decide +kernel) (by decide +kernel)
theorem wla_wsL_acts_r9 : GoodIn wsL_law wsL_acts_r9 := goodIn_sub (by decide +kernel) (by decide +kernel)
theorem wla_wsL_acts_r10 : GoodIn wsL_law wsL_acts_r10 := goodIn_sub (by decide +kernel) (by decide +kernel)
theorem wla_wsL_acts_r11 : GoodIn wsL_law wsL_acts_r11 := goodIn_sub (by decide +kernel) (by decide +kernel)
theorem wla_wsL_acts_r12 : GoodIn wsL_law wsL_acts_r12 := goodIn_sub (by decide +kernel) (by decide +kernel)
theorem wla_wsL_acts_r13 : GoodIn wsL_law wsL_acts_r13 := goodIn_sub (by decide +kernel) (by decide +kernel)
theorem wla_wsL_acts_r14 : GoodIn wsL_law wsL_acts_r14 := goodIn_sub (by decide +kernel) (by decide +kernel)
theorem wla_wsX30 : GoodIn wsL_law wsX30 := goodIn_sub (by decide +kernel) (by decide +kernel)
theorem wla_wsX20 : GoodIn wsL_law wsX20 := goodIn_sub (by decide +kernel) (by decide +kernel)
theorem wla_wsX00 : GoodIn wsL_law wsX00 := goodIn_sub (by decide +kernel) (by decide +kernel)
theorem wla_wsX10 : GoodIn wsL_law wsX10 := goodIn_sub (by decide +kernel) (by decide +kernel)
theorem wla_wsJx4a65c0 : GoodIn wsL_law wsJx4a65c0 := goodIn_sub (by decide +kernel) (by decide +kernel)
set_option maxRecDepth 20000 in
theorem ggL_law_L_acts : GoodIn wsL_law wsL_acts := goodIn_ca (goodIn_ca (goodIn_ca (goodIn_ca (goodIn_ca (goodIn_h9 (by decide +kernel) (by decide +kernel) (goodIn_app (goodIn_app (goodIn_app (goodIn_app (goodIn_app (goodIn_app wla_wsL_acts_r1 (goodIn_app wla_wsL_acts_r2 (goodIn_app wla_wsL_acts_r3 (goodIn_app wla_wsL_acts_r4 (goodIn_app wla_wsL_acts_r5 (goodIn_app wla_wsL_acts_r6 (goodIn_app wla_wsL_acts_r7 (goodIn_app wla_wsL_acts_r8 (goodIn_app wla_wsL_acts_r9 (goodIn_app wla_wsL_acts_r10 (goodIn_app wla_wsL_acts_r11 (goodIn_app wla_wsL_acts_r12 (goodIn_app wla_wsL_acts_r13 wla_wsL_acts_r14))))))))))))) wla_wsX30) wla_wsX20) wla_wsX00) wla_wsX10) wla_wsJx4a65c0)) (goodIn_sub (fun _ h => List.mem_append_left _ (List.mem_append_left _ (List.mem_append_left _ (List.mem_append_left _ (List.mem_append_right _ h))))) (by decide +kernel))) (goodIn_sub (fun _ h => List.mem_append_left _ (List.mem_append_left _ (List.mem_append_left _ (List.mem_append_left _ (List.mem_append_left _ (List.mem_append_right _ h)))))) (by decide +kernel))) (goodIn_sub (fun _ h => List.mem_append_left _ (List.mem_append_left _ (List.mem_append_left _ (List.mem_append_right _ h)))) (by decide +kernel))) (goodIn_sub (fun _ h => List.mem_append_left _ (List.mem_append_left _ (List.mem_append_right _ h))) (by decide +kernel))) (goodIn_sub (fun _ h => List.mem_append_left _ (List.mem_append_right _ h)) (by decide +kernel))
set_option maxRecDepth 20000 in
theorem gL_law_L_acts : GoodIn wsL_law (va_wsS RL 183 yL_acts wsL_acts) := goodIn_app (goodIn_of _ (by decide +kernel)) ggL_law_L_acts
set_option maxRecDepth 20000 in
theorem ggL_law_L_agrees : GoodIn wsL_law wsL_agrees := goodIn_ca (goodIn_ca (goodIn_ca (goodIn_r _ [370, 371, 372, 373, 2, 374, 26, 375, 376, 377, 378, 24, 253, 63, 64, 65, 61, 62, 66, 67, 68, 78, 79, 80, 23, 81, 82, 226, 227, 228, 229, 230, 231, 232, 233, 234, 235, 236, 237, 238, 239, 240, 241, 32, 254, 255, 256, 77, 257, 87, 90, 258, 259, 260, 261, 92, 88, 379, 380, 381, 5, 382, 351, 352, 209, 210, 211, 55, 383, 384, 385, 386, 17, 163, 164, 165, 387, 388, 389, 390, 18, 20, 25, 224, 308, 391, 392, 393, 394, 280, 281, 282, 283, 284, 285, 286, 317, 318, 319, 320, 225, 321, 242, 243, 244, 219, 245, 246, 208, 395, 396, 397, 398, 399, 400, 401, 402, 403, 404, 27, 405, 406, 407, 408, 342, 343, 344, 345, 266, 409, 410, 411, 412, 424, 425, 426, 427, 428, 429, 430, 431, 432, 433, 434, 435, 436, 437, 413, 414, 415, 416, 417, 418, 419, 420, 421, 422, 423, 438, 439, 440, 441, 442, 443, 444, 445, 446, 447, 448, 449, 450, 451, 452, 453] (by decide +kernel) (by decide +kernel)) (goodIn_sub (fun _ h => List.mem_append_left _ (List.mem_append_left _ (List.mem_append_left _ (List.mem_append_left _ (List.mem_append_left _ (List.mem_append_right _ h)))))) (by decide +kernel))) (goodIn_sub (fun _ h => List.mem_append_left _ (List.mem_append_right _ h)) (by decide +kernel))) (goodIn_sub (fun _ h => List.mem_append_right _ h) (by decide +kernel))
set_option maxRecDepth 20000 in
theorem gL_law_L_agrees : GoodIn wsL_law (va_wsS RL 186 yL_agrees wsL_agrees) := goodIn_app (goodIn_of _ (by decide +kernel)) ggL_law_L_agrees
theorem dL_law_0 : decode cL_law 0 = .ok (.new 10, 3) := by decide +kernel
theorem dL_law_3 : decode cL_law 3 = .ok (.dup, 1) := by decide +kernel
theorem dL_law_4 : decode cL_law 4 = .ok (.invokespecial 171, 3) := by decide +kernel
theorem dL_law_7 : decode cL_law 7 = .ok (.astore_n 1, 1) := by decide +kernel
theorem dL_law_8 : decode cL_law 8 = .ok (.new 16, 3) := by decide +kernel
theorem dL_law_11 : decode cL_law 11 = .ok (.dup, 1) := by decide +kernel
theorem dL_law_12 : decode cL_law 12 = .ok (.invokespecial 172, 3) := by decide +kernel
theorem dL_law_15 : decode cL_law 15 = .ok (.astore_n 2, 1) := by decide +kernel
theorem dL_law_16 : decode cL_law 16 = .ok (.aload_n 1, 1) := by decide +kernel
theorem dL_law_17 : decode cL_law 17 = .ok (.iconst 0, 1) := by decide +kernel
theorem dL_law_18 : decode cL_law 18 = .ok (.bipush 15, 2) := by decide +kernel
theorem dL_law_20 : decode cL_law 20 = .ok (.bipush 50, 2) := by decide +kernel
theorem dL_law_22 : decode cL_law 22 = .ok (.invokevirtual 173, 3) := by decide +kernel
theorem dL_law_25 : decode cL_law 25 = .ok (.bipush 30, 2) := by decide +kernel
theorem dL_law_27 : decode cL_law 27 = .ok (.if_icmp .ne 7, 3) := by decide +kernel
theorem dL_law_30 : decode cL_law 30 = .ok (.iconst 1, 1) := by decide +kernel
theorem dL_law_31 : decode cL_law 31 = .ok (.goto 4, 3) := by decide +kernel
theorem dL_law_34 : decode cL_law 34 = .ok (.iconst 0, 1) := by decide +kernel
theorem dL_law_35 : decode cL_law 35 = .ok (.istore_n 3, 1) := by decide +kernel
theorem dL_law_36 : decode cL_law 36 = .ok (.iconst 0, 1) := by decide +kernel
theorem dL_law_37 : decode cL_law 37 = .ok (.istore 4, 2) := by decide +kernel
theorem dL_law_39 : decode cL_law 39 = .ok (.iload 4, 2) := by decide +kernel
theorem dL_law_41 : decode cL_law 41 = .ok (.iconst 3, 1) := by decide +kernel
theorem dL_law_42 : decode cL_law 42 = .ok (.if_icmp .ge 31, 3) := by decide +kernel
theorem dL_law_45 : decode cL_law 45 = .ok (.iload_n 3, 1) := by decide +kernel
theorem dL_law_46 : decode cL_law 46 = .ok (.ifCond .eq 19, 3) := by decide +kernel
theorem dL_law_49 : decode cL_law 49 = .ok (.aload_n 1, 1) := by decide +kernel
theorem dL_law_50 : decode cL_law 50 = .ok (.iconst 0, 1) := by decide +kernel
theorem dL_law_51 : decode cL_law 51 = .ok (.iconst 1, 1) := by decide +kernel
theorem dL_law_52 : decode cL_law 52 = .ok (.iconst 4, 1) := by decide +kernel
theorem dL_law_53 : decode cL_law 53 = .ok (.invokevirtual 176, 3) := by decide +kernel
theorem dL_law_56 : decode cL_law 56 = .ok (.iload 4, 2) := by decide +kernel
theorem dL_law_58 : decode cL_law 58 = .ok (.if_icmp .ne 7, 3) := by decide +kernel
theorem dL_law_61 : decode cL_law 61 = .ok (.iconst 1, 1) := by decide +kernel
theorem dL_law_62 : decode cL_law 62 = .ok (.goto 4, 3) := by decide +kernel
theorem dL_law_65 : decode cL_law 65 = .ok (.iconst 0, 1) := by decide +kernel
theorem dL_law_66 : decode cL_law 66 = .ok (.istore_n 3, 1) := by decide +kernel
theorem dL_law_67 : decode cL_law 67 = .ok (.iinc 4 1, 3) := by decide +kernel
theorem dL_law_70 : decode cL_law 70 = .ok (.goto (-31), 3) := by decide +kernel
theorem dL_law_73 : decode cL_law 73 = .ok (.iconst 0, 1) := by decide +kernel
theorem dL_law_74 : decode cL_law 74 = .ok (.istore 4, 2) := by decide +kernel
theorem dL_law_76 : decode cL_law 76 = .ok (.iload 4, 2) := by decide +kernel
theorem dL_law_78 : decode cL_law 78 = .ok (.bipush 34, 2) := by decide +kernel
theorem dL_law_80 : decode cL_law 80 = .ok (.if_icmp .ge 41, 3) := by decide +kernel
theorem dL_law_83 : decode cL_law 83 = .ok (.iload_n 3, 1) := by decide +kernel
theorem dL_law_84 : decode cL_law 84 = .ok (.ifCond .eq 37, 3) := by decide +kernel
theorem dL_law_87 : decode cL_law 87 = .ok (.aload_n 1, 1) := by decide +kernel
theorem dL_law_88 : decode cL_law 88 = .ok (.aload_n 2, 1) := by decide +kernel
theorem dL_law_89 : decode cL_law 89 = .ok (.aload_n 0, 1) := by decide +kernel
theorem dL_law_90 : decode cL_law 90 = .ok (.iload 4, 2) := by decide +kernel
theorem dL_law_92 : decode cL_law 92 = .ok (.invokestatic 179, 3) := by decide +kernel
theorem dL_law_95 : decode cL_law 95 = .ok (.invokestatic 183, 3) := by decide +kernel
theorem dL_law_98 : decode cL_law 98 = .ok (.ifCond .eq 15, 3) := by decide +kernel
theorem dL_law_101 : decode cL_law 101 = .ok (.aload_n 1, 1) := by decide +kernel
theorem dL_law_102 : decode cL_law 102 = .ok (.aload_n 2, 1) := by decide +kernel
theorem dL_law_103 : decode cL_law 103 = .ok (.invokestatic 186, 3) := by decide +kernel
theorem dL_law_106 : decode cL_law 106 = .ok (.ifCond .eq 7, 3) := by decide +kernel
theorem dL_law_109 : decode cL_law 109 = .ok (.iconst 1, 1) := by decide +kernel
theorem dL_law_110 : decode cL_law 110 = .ok (.goto 4, 3) := by decide +kernel
theorem dL_law_113 : decode cL_law 113 = .ok (.iconst 0, 1) := by decide +kernel
theorem dL_law_114 : decode cL_law 114 = .ok (.istore_n 3, 1) := by decide +kernel
theorem dL_law_115 : decode cL_law 115 = .ok (.iinc 4 1, 3) := by decide +kernel
theorem dL_law_118 : decode cL_law 118 = .ok (.goto (-42), 3) := by decide +kernel
theorem dL_law_121 : decode cL_law 121 = .ok (.iload_n 3, 1) := by decide +kernel
theorem dL_law_122 : decode cL_law 122 = .ok (.ireturn, 1) := by decide +kernel
