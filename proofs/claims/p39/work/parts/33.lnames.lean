theorem dL_below_0 : decode cL_below 0 = .ok (.iload_n 0, 1) := by decide +kernel
theorem dL_below_1 : decode cL_below 1 = .ok (.ldc 7, 2) := by decide +kernel
theorem dL_below_3 : decode cL_below 3 = .ok (.iand, 1) := by decide +kernel
theorem dL_below_4 : decode cL_below 4 = .ok (.iload_n 1, 1) := by decide +kernel
theorem dL_below_5 : decode cL_below 5 = .ok (.irem, 1) := by decide +kernel
theorem dL_below_6 : decode cL_below 6 = .ok (.ireturn, 1) := by decide +kernel
theorem dL_cell_0 : decode cL_cell 0 = .ok (.iload_n 1, 1) := by decide +kernel
theorem dL_cell_1 : decode cL_cell 1 = .ok (.aload_n 0, 1) := by decide +kernel
theorem dL_cell_2 : decode cL_cell 2 = .ok (.arraylength, 1) := by decide +kernel
theorem dL_cell_3 : decode cL_cell 3 = .ok (.if_icmp .ge 9, 3) := by decide +kernel
theorem dL_cell_6 : decode cL_cell 6 = .ok (.aload_n 0, 1) := by decide +kernel
theorem dL_cell_7 : decode cL_cell 7 = .ok (.iload_n 1, 1) := by decide +kernel
theorem dL_cell_8 : decode cL_cell 8 = .ok (.iaload, 1) := by decide +kernel
theorem dL_cell_9 : decode cL_cell 9 = .ok (.goto 9, 3) := by decide +kernel
theorem dL_cell_12 : decode cL_cell 12 = .ok (.ldc 8, 2) := by decide +kernel
theorem dL_cell_14 : decode cL_cell 14 = .ok (.iload_n 1, 1) := by decide +kernel
theorem dL_cell_15 : decode cL_cell 15 = .ok (.iconst 3, 1) := by decide +kernel
theorem dL_cell_16 : decode cL_cell 16 = .ok (.iadd, 1) := by decide +kernel
theorem dL_cell_17 : decode cL_cell 17 = .ok (.imul, 1) := by decide +kernel
theorem dL_cell_18 : decode cL_cell 18 = .ok (.ireturn, 1) := by decide +kernel
set_option maxRecDepth 20000 in
theorem ggL_act_L_below : GoodIn wsL_act wsL_below := goodIn_r _ [12, 13] (by decide +kernel) (by decide +kernel)
set_option maxRecDepth 20000 in
theorem gL_act_L_below : GoodIn wsL_act (va_wsS RL 15 yL_below wsL_below) := goodIn_app (goodIn_of _ (by decide +kernel)) ggL_act_L_below
set_option maxRecDepth 20000 in
theorem ggL_act_X1_with : GoodIn wsL_act wsX1_with := goodIn_r _ [17, 18] (by decide +kernel) (by decide +kernel)
set_option maxRecDepth 20000 in
theorem gL_act_X1_with : GoodIn wsL_act (va_wsS RL 26 yX1_with wsX1_with) := goodIn_app (goodIn_of _ (by decide +kernel)) ggL_act_X1_with
set_option maxRecDepth 20000 in
theorem ggL_act_X0_fill : GoodIn wsL_act wsX0_fill := goodIn_ca (goodIn_ca (goodIn_r _ [23, 24, 25, 26, 27, 28, 29, 30, 22, 31, 32, 33, 34, 35, 36, 37, 38, 39, 40, 177, 178, 179, 180, 181, 182, 183, 184, 185, 186, 187, 188, 189, 190, 191] (by decide +kernel) (by decide +kernel)) (goodIn_sub (fun _ h => List.mem_cons_of_mem _ (List.mem_append_left _ (List.mem_append_left _ (List.mem_append_right _ h)))) (by decide +kernel))) (goodIn_sub (fun _ h => List.mem_cons_of_mem _ (List.mem_append_left _ (List.mem_append_right _ h))) (by decide +kernel))
set_option maxRecDepth 20000 in
theorem gL_act_X0_fill : GoodIn wsL_act (wsV RL 30 RX0 yX0_fill wsX0_fill) := goodIn_app (goodIn_of _ (by decide +kernel)) ggL_act_X0_fill
set_option maxRecDepth 20000 in
theorem ggL_act_X0_draw : GoodIn wsL_act wsX0_draw := goodIn_ca (goodIn_ca (goodIn_r _ [44, 26, 27, 45, 46, 47, 48, 49, 50, 51, 52, 22, 53, 54, 55, 28, 56, 57, 58, 59, 40, 177, 178, 179, 180, 181, 182, 183, 184, 185, 186, 187, 188, 189, 190, 191] (by decide +kernel) (by decide +kernel)) (goodIn_sub (fun _ h => List.mem_cons_of_mem _ (List.mem_append_left _ (List.mem_append_right _ h))) (by decide +kernel))) (goodIn_sub (fun _ h => List.mem_cons_of_mem _ (List.mem_append_right _ h)) (by decide +kernel))
set_option maxRecDepth 20000 in
theorem gL_act_X0_draw : GoodIn wsL_act (wsV RL 38 RX0 yX0_draw wsX0_draw) := goodIn_app (goodIn_of _ (by decide +kernel)) ggL_act_X0_draw
set_option maxRecDepth 20000 in
theorem ggL_act_X1_draw : GoodIn wsL_act wsX1_draw := goodIn_r _ [63, 64, 6, 65, 66, 67, 16, 68, 69, 70, 15, 17, 18, 171, 172, 173, 174, 175, 176] (by decide +kernel) (by decide +kernel)
set_option maxRecDepth 20000 in
theorem gL_act_X1_draw : GoodIn wsL_act (wsV RL 41 RX1 yX1_draw wsX1_draw) := goodIn_app (goodIn_of _ (by decide +kernel)) ggL_act_X1_draw
set_option maxRecDepth 20000 in
theorem ggL_act_X0_letOut : GoodIn wsL_act wsX0_letOut := goodIn_ca (goodIn_r _ [74, 26, 27, 28, 40, 75, 76, 77, 22, 78, 79, 80, 81, 82, 83, 84, 85, 86, 87, 88, 89, 39, 90, 91, 92, 93, 45, 46, 47, 48, 94, 95, 96, 97, 98, 99, 100, 101, 49, 102, 103, 104, 105, 177, 178, 179, 180, 181, 182, 183, 184, 185, 186, 187, 188, 189, 190, 191] (by decide +kernel) (by decide +kernel)) (goodIn_sub (fun _ h => List.mem_cons_of_mem _ (List.mem_append_left _ (List.mem_append_right _ h))) (by decide +kernel))
set_option maxRecDepth 20000 in
theorem gL_act_X0_letOut : GoodIn wsL_act (wsV RL 42 RX0 yX0_letOut wsX0_letOut) := goodIn_app (goodIn_of _ (by decide +kernel)) ggL_act_X0_letOut
set_option maxRecDepth 20000 in
theorem ggL_act_X1_letOut : GoodIn wsL_act wsX1_letOut := goodIn_r _ [109, 69, 110, 111, 112, 18, 64, 6, 113, 114, 16, 115, 70, 15, 17, 171, 172, 173, 174, 175, 176] (by decide +kernel) (by decide +kernel)
set_option maxRecDepth 20000 in
theorem gL_act_X1_letOut : GoodIn wsL_act (wsV RL 46 RX1 yX1_letOut wsX1_letOut) := goodIn_app (goodIn_of _ (by decide +kernel)) ggL_act_X1_letOut
set_option maxRecDepth 20000 in
theorem ggL_act_X0_turnOver : GoodIn wsL_act wsX0_turnOver := goodIn_ca (goodIn_r _ [119, 26, 27, 28, 39, 40, 45, 86, 87, 88, 22, 89, 35, 36, 37, 38, 94, 95, 96, 97, 46, 98, 99, 100, 101, 47, 48, 49, 102, 103, 104, 105, 177, 178, 179, 180, 181, 182, 183, 184, 185, 186, 187, 188, 189, 190, 191] (by decide +kernel) (by decide +kernel)) (goodIn_sub (fun _ h => List.mem_cons_of_mem _ (List.mem_append_left _ (List.mem_append_right _ h))) (by decide +kernel))
set_option maxRecDepth 20000 in
theorem gL_act_X0_turnOver : GoodIn wsL_act (wsV RL 47 RX0 yX0_turnOver wsX0_turnOver) := goodIn_app (goodIn_of _ (by decide +kernel)) ggL_act_X0_turnOver
set_option maxRecDepth 20000 in
theorem ggL_act_X1_turnOver : GoodIn wsL_act wsX1_turnOver := goodIn_r _ [123, 69, 18, 64, 6, 113, 114, 16, 115, 70, 15, 17, 171, 172, 173, 174, 175, 176] (by decide +kernel) (by decide +kernel)
set_option maxRecDepth 20000 in
theorem gL_act_X1_turnOver : GoodIn wsL_act (wsV RL 50 RX1 yX1_turnOver wsX1_turnOver) := goodIn_app (goodIn_of _ (by decide +kernel)) ggL_act_X1_turnOver
set_option maxRecDepth 20000 in
theorem ggL_act_X1_without : GoodIn wsL_act wsX1_without := goodIn_r _ [115, 18, 70, 15, 16, 17] (by decide +kernel) (by decide +kernel)
set_option maxRecDepth 20000 in
theorem gL_act_X1_without : GoodIn wsL_act (va_wsS RL 51 yX1_without wsX1_without) := goodIn_app (goodIn_of _ (by decide +kernel)) ggL_act_X1_without
set_option maxRecDepth 20000 in
theorem ggL_act_X0_throwAway : GoodIn wsL_act wsX0_throwAway := goodIn_ca (goodIn_r _ [128, 45, 129, 130, 131, 22, 132, 54, 55, 98, 99, 100, 101, 46, 47, 48, 49, 177, 178, 179, 180, 181, 182, 183, 184, 185, 186, 187, 188, 189, 190, 191] (by decide +kernel) (by decide +kernel)) (goodIn_sub (fun _ h => List.mem_cons_of_mem _ (List.mem_append_right _ h)) (by decide +kernel))
set_option maxRecDepth 20000 in
theorem gL_act_X0_throwAway : GoodIn wsL_act (wsV RL 55 RX0 yX0_throwAway wsX0_throwAway) := goodIn_app (goodIn_of _ (by decide +kernel)) ggL_act_X0_throwAway
set_option maxRecDepth 20000 in
theorem ggL_act_X0_setLimit : GoodIn wsL_act wsX0_setLimit := goodIn_ca (goodIn_r _ [136, 24, 25, 85, 32, 33, 22, 34, 177, 178, 179, 180, 181, 182, 183, 184, 185, 186, 187, 188, 189, 190, 191] (by decide +kernel) (by decide +kernel)) (goodIn_sub (fun _ h => List.mem_cons_of_mem _ (List.mem_append_left _ (List.mem_append_left _ (List.mem_append_right _ h)))) (by decide +kernel))
set_option maxRecDepth 20000 in
theorem gL_act_X0_setLimit : GoodIn wsL_act (wsV RL 63 RX0 yX0_setLimit wsX0_setLimit) := goodIn_app (goodIn_of _ (by decide +kernel)) ggL_act_X0_setLimit
set_option maxRecDepth 20000 in
theorem ggL_act_X1_pass : GoodIn wsL_act wsX1_pass := goodIn_r _ [140, 69, 6, 64, 141, 171, 172, 173, 174, 175, 176] (by decide +kernel) (by decide +kernel)
set_option maxRecDepth 20000 in
theorem gL_act_X1_pass : GoodIn wsL_act (wsV RL 66 RX1 yX1_pass wsX1_pass) := goodIn_app (goodIn_of _ (by decide +kernel)) ggL_act_X1_pass
set_option maxRecDepth 20000 in
theorem ggL_act_X0_pass : GoodIn wsL_act wsX0_pass := goodIn_ca (goodIn_r _ [145, 40, 146, 147, 148, 22, 149, 24, 25, 150, 151, 152, 153, 154, 155, 156, 157, 28, 158, 159, 160, 161, 162, 163, 164, 165, 166, 167, 168, 169, 170, 45, 49, 47, 46, 177, 178, 179, 180, 181, 182, 183, 184, 185, 186, 187, 188, 189, 190, 191] (by decide +kernel) (by decide +kernel)) (goodIn_sub (fun _ h => List.mem_cons_of_mem _ (List.mem_append_left _ (List.mem_append_left _ (List.mem_append_right _ h)))) (by decide +kernel))
set_option maxRecDepth 20000 in
theorem gL_act_X0_pass : GoodIn wsL_act (wsV RL 69 RX0 yX0_pass wsX0_pass) := goodIn_app (goodIn_of _ (by decide +kernel)) ggL_act_X0_pass
theorem dL_act_0 : decode cL_act 0 = .ok (.aload_n 1, 1) := by decide +kernel
theorem dL_act_1 : decode cL_act 1 = .ok (.getfield 9, 3) := by decide +kernel
theorem dL_act_4 : decode cL_act 4 = .ok (.arraylength, 1) := by decide +kernel
theorem dL_act_5 : decode cL_act 5 = .ok (.istore_n 3, 1) := by decide +kernel
theorem dL_act_6 : decode cL_act 6 = .ok (.iload_n 3, 1) := by decide +kernel
theorem dL_act_7 : decode cL_act 7 = .ok (.ifCond .ne 7, 3) := by decide +kernel
theorem dL_act_10 : decode cL_act 10 = .ok (.iconst 0, 1) := by decide +kernel
theorem dL_act_11 : decode cL_act 11 = .ok (.goto 9, 3) := by decide +kernel
theorem dL_act_14 : decode cL_act 14 = .ok (.iload_n 2, 1) := by decide +kernel
theorem dL_act_15 : decode cL_act 15 = .ok (.bipush 14, 2) := by decide +kernel
theorem dL_act_17 : decode cL_act 17 = .ok (.invokestatic 15, 3) := by decide +kernel
theorem dL_act_20 : decode cL_act 20 = .ok (.istore 4, 2) := by decide +kernel
theorem dL_act_22 : decode cL_act 22 = .ok (.iload_n 3, 1) := by decide +kernel
theorem dL_act_23 : decode cL_act 23 = .ok (.ifCond .ne 7, 3) := by decide +kernel
theorem dL_act_26 : decode cL_act 26 = .ok (.iconst 0, 1) := by decide +kernel
theorem dL_act_27 : decode cL_act 27 = .ok (.goto 10, 3) := by decide +kernel
theorem dL_act_30 : decode cL_act 30 = .ok (.iload_n 2, 1) := by decide +kernel
theorem dL_act_31 : decode cL_act 31 = .ok (.iconst 4, 1) := by decide +kernel
theorem dL_act_32 : decode cL_act 32 = .ok (.ishr, 1) := by decide +kernel
theorem dL_act_33 : decode cL_act 33 = .ok (.iload_n 3, 1) := by decide +kernel
theorem dL_act_34 : decode cL_act 34 = .ok (.invokestatic 15, 3) := by decide +kernel
theorem dL_act_37 : decode cL_act 37 = .ok (.istore 5, 2) := by decide +kernel
theorem dL_act_39 : decode cL_act 39 = .ok (.iload_n 3, 1) := by decide +kernel
theorem dL_act_40 : decode cL_act 40 = .ok (.ifCond .ne 7, 3) := by decide +kernel
theorem dL_act_43 : decode cL_act 43 = .ok (.iconst 0, 1) := by decide +kernel
theorem dL_act_44 : decode cL_act 44 = .ok (.goto 39, 3) := by decide +kernel
theorem dL_act_47 : decode cL_act 47 = .ok (.iload 5, 2) := by decide +kernel
theorem dL_act_49 : decode cL_act 49 = .ok (.iload_n 2, 1) := by decide +kernel
theorem dL_act_50 : decode cL_act 50 = .ok (.bipush 6, 2) := by decide +kernel
theorem dL_act_52 : decode cL_act 52 = .ok (.ishr, 1) := by decide +kernel
theorem dL_act_53 : decode cL_act 53 = .ok (.iload_n 2, 1) := by decide +kernel
theorem dL_act_54 : decode cL_act 54 = .ok (.bipush 8, 2) := by decide +kernel
theorem dL_act_56 : decode cL_act 56 = .ok (.ishr, 1) := by decide +kernel
theorem dL_act_57 : decode cL_act 57 = .ok (.iconst 3, 1) := by decide +kernel
theorem dL_act_58 : decode cL_act 58 = .ok (.invokestatic 15, 3) := by decide +kernel
theorem dL_act_61 : decode cL_act 61 = .ok (.ifCond .ne 10, 3) := by decide +kernel
theorem dL_act_64 : decode cL_act 64 = .ok (.iload_n 3, 1) := by decide +kernel
theorem dL_act_65 : decode cL_act 65 = .ok (.iload 5, 2) := by decide +kernel
theorem dL_act_67 : decode cL_act 67 = .ok (.isub, 1) := by decide +kernel
theorem dL_act_68 : decode cL_act 68 = .ok (.goto 11, 3) := by decide +kernel
theorem dL_act_71 : decode cL_act 71 = .ok (.iconst 3, 1) := by decide +kernel
theorem dL_act_72 : decode cL_act 72 = .ok (.iload_n 3, 1) := by decide +kernel
theorem dL_act_73 : decode cL_act 73 = .ok (.iload 5, 2) := by decide +kernel
theorem dL_act_75 : decode cL_act 75 = .ok (.isub, 1) := by decide +kernel
theorem dL_act_76 : decode cL_act 76 = .ok (.invokestatic 21, 3) := by decide +kernel
theorem dL_act_79 : decode cL_act 79 = .ok (.invokestatic 15, 3) := by decide +kernel
theorem dL_act_82 : decode cL_act 82 = .ok (.iadd, 1) := by decide +kernel
theorem dL_act_83 : decode cL_act 83 = .ok (.istore 6, 2) := by decide +kernel
theorem dL_act_85 : decode cL_act 85 = .ok (.iload 4, 2) := by decide +kernel
theorem dL_act_87 : decode cL_act 87 = .ok (.iconst 2, 1) := by decide +kernel
theorem dL_act_88 : decode cL_act 88 = .ok (.if_icmp .ge 73, 3) := by decide +kernel
theorem dL_act_91 : decode cL_act 91 = .ok (.iload_n 3, 1) := by decide +kernel
theorem dL_act_92 : decode cL_act 92 = .ok (.bipush 12, 2) := by decide +kernel
theorem dL_act_94 : decode cL_act 94 = .ok (.if_icmp .ne 5, 3) := by decide +kernel
theorem dL_act_97 : decode cL_act 97 = .ok (.iconst 1, 1) := by decide +kernel
theorem dL_act_98 : decode cL_act 98 = .ok (.ireturn, 1) := by decide +kernel
theorem dL_act_99 : decode cL_act 99 = .ok (.iconst 2, 1) := by decide +kernel
theorem dL_act_100 : decode cL_act 100 = .ok (.newarray .int, 2) := by decide +kernel
theorem dL_act_102 : decode cL_act 102 = .ok (.dup, 1) := by decide +kernel
theorem dL_act_103 : decode cL_act 103 = .ok (.iconst 0, 1) := by decide +kernel
theorem dL_act_104 : decode cL_act 104 = .ok (.iload_n 2, 1) := by decide +kernel
theorem dL_act_105 : decode cL_act 105 = .ok (.iconst 4, 1) := by decide +kernel
theorem dL_act_106 : decode cL_act 106 = .ok (.ishr, 1) := by decide +kernel
theorem dL_act_107 : decode cL_act 107 = .ok (.iconst 5, 1) := by decide +kernel
theorem dL_act_108 : decode cL_act 108 = .ok (.invokestatic 15, 3) := by decide +kernel
theorem dL_act_111 : decode cL_act 111 = .ok (.iastore, 1) := by decide +kernel
theorem dL_act_112 : decode cL_act 112 = .ok (.dup, 1) := by decide +kernel
theorem dL_act_113 : decode cL_act 113 = .ok (.iconst 1, 1) := by decide +kernel
theorem dL_act_114 : decode cL_act 114 = .ok (.iload_n 2, 1) := by decide +kernel
theorem dL_act_115 : decode cL_act 115 = .ok (.bipush 6, 2) := by decide +kernel
theorem dL_act_117 : decode cL_act 117 = .ok (.ishr, 1) := by decide +kernel
theorem dL_act_118 : decode cL_act 118 = .ok (.bipush 41, 2) := by decide +kernel
theorem dL_act_120 : decode cL_act 120 = .ok (.invokestatic 15, 3) := by decide +kernel
theorem dL_act_123 : decode cL_act 123 = .ok (.iastore, 1) := by decide +kernel
theorem dL_act_124 : decode cL_act 124 = .ok (.astore 7, 2) := by decide +kernel
theorem dL_act_126 : decode cL_act 126 = .ok (.aload_n 1, 1) := by decide +kernel
theorem dL_act_127 : decode cL_act 127 = .ok (.aload_n 1, 1) := by decide +kernel
theorem dL_act_128 : decode cL_act 128 = .ok (.getfield 9, 3) := by decide +kernel
theorem dL_act_131 : decode cL_act 131 = .ok (.aload 7, 2) := by decide +kernel
theorem dL_act_133 : decode cL_act 133 = .ok (.invokestatic 26, 3) := by decide +kernel
theorem dL_act_136 : decode cL_act 136 = .ok (.putfield 9, 3) := by decide +kernel
theorem dL_act_139 : decode cL_act 139 = .ok (.aload_n 0, 1) := by decide +kernel
theorem dL_act_140 : decode cL_act 140 = .ok (.aload 7, 2) := by decide +kernel
theorem dL_act_142 : decode cL_act 142 = .ok (.iconst 0, 1) := by decide +kernel
theorem dL_act_143 : decode cL_act 143 = .ok (.iaload, 1) := by decide +kernel
theorem dL_act_144 : decode cL_act 144 = .ok (.aload 7, 2) := by decide +kernel
theorem dL_act_146 : decode cL_act 146 = .ok (.iconst 1, 1) := by decide +kernel
theorem dL_act_147 : decode cL_act 147 = .ok (.iaload, 1) := by decide +kernel
theorem dL_act_148 : decode cL_act 148 = .ok (.invokevirtual 30, 3) := by decide +kernel
theorem dL_act_151 : decode cL_act 151 = .ok (.iload_n 3, 1) := by decide +kernel
theorem dL_act_152 : decode cL_act 152 = .ok (.if_icmp .ne 7, 3) := by decide +kernel
theorem dL_act_155 : decode cL_act 155 = .ok (.iconst 1, 1) := by decide +kernel
theorem dL_act_156 : decode cL_act 156 = .ok (.goto 4, 3) := by decide +kernel
theorem dL_act_159 : decode cL_act 159 = .ok (.iconst 0, 1) := by decide +kernel
theorem dL_act_160 : decode cL_act 160 = .ok (.ireturn, 1) := by decide +kernel
theorem dL_act_161 : decode cL_act 161 = .ok (.iload 4, 2) := by decide +kernel
theorem dL_act_163 : decode cL_act 163 = .ok (.bipush 7, 2) := by decide +kernel
theorem dL_act_165 : decode cL_act 165 = .ok (.if_icmp .ge 40, 3) := by decide +kernel
theorem dL_act_168 : decode cL_act 168 = .ok (.aload_n 1, 1) := by decide +kernel
theorem dL_act_169 : decode cL_act 169 = .ok (.getfield 35, 3) := by decide +kernel
theorem dL_act_172 : decode cL_act 172 = .ok (.arraylength, 1) := by decide +kernel
theorem dL_act_173 : decode cL_act 173 = .ok (.bipush 16, 2) := by decide +kernel
theorem dL_act_175 : decode cL_act 175 = .ok (.if_icmp .ne 5, 3) := by decide +kernel
theorem dL_act_178 : decode cL_act 178 = .ok (.iconst 1, 1) := by decide +kernel
theorem dL_act_179 : decode cL_act 179 = .ok (.ireturn, 1) := by decide +kernel
theorem dL_act_180 : decode cL_act 180 = .ok (.aload_n 0, 1) := by decide +kernel
theorem dL_act_181 : decode cL_act 181 = .ok (.iload 5, 2) := by decide +kernel
theorem dL_act_183 : decode cL_act 183 = .ok (.iload 6, 2) := by decide +kernel
theorem dL_act_185 : decode cL_act 185 = .ok (.invokevirtual 38, 3) := by decide +kernel
theorem dL_act_188 : decode cL_act 188 = .ok (.aload_n 1, 1) := by decide +kernel
theorem dL_act_189 : decode cL_act 189 = .ok (.iload 5, 2) := by decide +kernel
theorem dL_act_191 : decode cL_act 191 = .ok (.iload 6, 2) := by decide +kernel
theorem dL_act_193 : decode cL_act 193 = .ok (.invokevirtual 41, 3) := by decide +kernel
theorem dL_act_196 : decode cL_act 196 = .ok (.if_icmp .ne 7, 3) := by decide +kernel
theorem dL_act_199 : decode cL_act 199 = .ok (.iconst 1, 1) := by decide +kernel
theorem dL_act_200 : decode cL_act 200 = .ok (.goto 4, 3) := by decide +kernel
theorem dL_act_203 : decode cL_act 203 = .ok (.iconst 0, 1) := by decide +kernel
theorem dL_act_204 : decode cL_act 204 = .ok (.ireturn, 1) := by decide +kernel
theorem dL_act_205 : decode cL_act 205 = .ok (.iload 4, 2) := by decide +kernel
theorem dL_act_207 : decode cL_act 207 = .ok (.bipush 7, 2) := by decide +kernel
theorem dL_act_209 : decode cL_act 209 = .ok (.if_icmp .ne 20, 3) := by decide +kernel
theorem dL_act_212 : decode cL_act 212 = .ok (.aload_n 0, 1) := by decide +kernel
theorem dL_act_213 : decode cL_act 213 = .ok (.invokevirtual 42, 3) := by decide +kernel
theorem dL_act_216 : decode cL_act 216 = .ok (.aload_n 1, 1) := by decide +kernel
theorem dL_act_217 : decode cL_act 217 = .ok (.invokevirtual 46, 3) := by decide +kernel
theorem dL_act_220 : decode cL_act 220 = .ok (.if_icmp .ne 7, 3) := by decide +kernel
theorem dL_act_223 : decode cL_act 223 = .ok (.iconst 1, 1) := by decide +kernel
theorem dL_act_224 : decode cL_act 224 = .ok (.goto 4, 3) := by decide +kernel
theorem dL_act_227 : decode cL_act 227 = .ok (.iconst 0, 1) := by decide +kernel
theorem dL_act_228 : decode cL_act 228 = .ok (.ireturn, 1) := by decide +kernel
theorem dL_act_229 : decode cL_act 229 = .ok (.iload 4, 2) := by decide +kernel
theorem dL_act_231 : decode cL_act 231 = .ok (.bipush 8, 2) := by decide +kernel
theorem dL_act_233 : decode cL_act 233 = .ok (.if_icmp .ne 25, 3) := by decide +kernel
theorem dL_act_236 : decode cL_act 236 = .ok (.iload_n 3, 1) := by decide +kernel
theorem dL_act_237 : decode cL_act 237 = .ok (.iconst 2, 1) := by decide +kernel
theorem dL_act_238 : decode cL_act 238 = .ok (.if_icmp .lt 14, 3) := by decide +kernel
theorem dL_act_241 : decode cL_act 241 = .ok (.aload_n 0, 1) := by decide +kernel
theorem dL_act_242 : decode cL_act 242 = .ok (.invokevirtual 47, 3) := by decide +kernel
theorem dL_act_245 : decode cL_act 245 = .ok (.aload_n 1, 1) := by decide +kernel
theorem dL_act_246 : decode cL_act 246 = .ok (.invokevirtual 50, 3) := by decide +kernel
theorem dL_act_249 : decode cL_act 249 = .ok (.if_icmp .ne 7, 3) := by decide +kernel
theorem dL_act_252 : decode cL_act 252 = .ok (.iconst 1, 1) := by decide +kernel
theorem dL_act_253 : decode cL_act 253 = .ok (.goto 4, 3) := by decide +kernel
theorem dL_act_256 : decode cL_act 256 = .ok (.iconst 0, 1) := by decide +kernel
theorem dL_act_257 : decode cL_act 257 = .ok (.ireturn, 1) := by decide +kernel
theorem dL_act_258 : decode cL_act 258 = .ok (.iload 4, 2) := by decide +kernel
theorem dL_act_260 : decode cL_act 260 = .ok (.bipush 9, 2) := by decide +kernel
theorem dL_act_262 : decode cL_act 262 = .ok (.if_icmp .ne 59, 3) := by decide +kernel
theorem dL_act_265 : decode cL_act 265 = .ok (.aload_n 1, 1) := by decide +kernel
theorem dL_act_266 : decode cL_act 266 = .ok (.getfield 35, 3) := by decide +kernel
theorem dL_act_269 : decode cL_act 269 = .ok (.arraylength, 1) := by decide +kernel
theorem dL_act_270 : decode cL_act 270 = .ok (.ifCond .ne 5, 3) := by decide +kernel
theorem dL_act_273 : decode cL_act 273 = .ok (.iconst 1, 1) := by decide +kernel
theorem dL_act_274 : decode cL_act 274 = .ok (.ireturn, 1) := by decide +kernel
theorem dL_act_275 : decode cL_act 275 = .ok (.iload_n 2, 1) := by decide +kernel
theorem dL_act_276 : decode cL_act 276 = .ok (.iconst 5, 1) := by decide +kernel
theorem dL_act_277 : decode cL_act 277 = .ok (.ishr, 1) := by decide +kernel
theorem dL_act_278 : decode cL_act 278 = .ok (.aload_n 1, 1) := by decide +kernel
theorem dL_act_279 : decode cL_act 279 = .ok (.getfield 35, 3) := by decide +kernel
theorem dL_act_282 : decode cL_act 282 = .ok (.arraylength, 1) := by decide +kernel
theorem dL_act_283 : decode cL_act 283 = .ok (.invokestatic 15, 3) := by decide +kernel
theorem dL_act_286 : decode cL_act 286 = .ok (.istore 7, 2) := by decide +kernel
theorem dL_act_288 : decode cL_act 288 = .ok (.aload_n 1, 1) := by decide +kernel
theorem dL_act_289 : decode cL_act 289 = .ok (.aload_n 1, 1) := by decide +kernel
theorem dL_act_290 : decode cL_act 290 = .ok (.getfield 35, 3) := by decide +kernel
theorem dL_act_293 : decode cL_act 293 = .ok (.iload 7, 2) := by decide +kernel
theorem dL_act_295 : decode cL_act 295 = .ok (.invokestatic 51, 3) := by decide +kernel
theorem dL_act_298 : decode cL_act 298 = .ok (.putfield 35, 3) := by decide +kernel
theorem dL_act_301 : decode cL_act 301 = .ok (.aload_n 0, 1) := by decide +kernel
theorem dL_act_302 : decode cL_act 302 = .ok (.iload 7, 2) := by decide +kernel
theorem dL_act_304 : decode cL_act 304 = .ok (.invokevirtual 55, 3) := by decide +kernel
theorem dL_act_307 : decode cL_act 307 = .ok (.aload_n 1, 1) := by decide +kernel
theorem dL_act_308 : decode cL_act 308 = .ok (.getfield 35, 3) := by decide +kernel
theorem dL_act_311 : decode cL_act 311 = .ok (.arraylength, 1) := by decide +kernel
theorem dL_act_312 : decode cL_act 312 = .ok (.if_icmp .ne 7, 3) := by decide +kernel
theorem dL_act_315 : decode cL_act 315 = .ok (.iconst 1, 1) := by decide +kernel
theorem dL_act_316 : decode cL_act 316 = .ok (.goto 4, 3) := by decide +kernel
theorem dL_act_319 : decode cL_act 319 = .ok (.iconst 0, 1) := by decide +kernel
theorem dL_act_320 : decode cL_act 320 = .ok (.ireturn, 1) := by decide +kernel
theorem dL_act_321 : decode cL_act 321 = .ok (.iload 4, 2) := by decide +kernel
theorem dL_act_323 : decode cL_act 323 = .ok (.bipush 10, 2) := by decide +kernel
theorem dL_act_325 : decode cL_act 325 = .ok (.if_icmp .ne 40, 3) := by decide +kernel
theorem dL_act_328 : decode cL_act 328 = .ok (.aload_n 1, 1) := by decide +kernel
theorem dL_act_329 : decode cL_act 329 = .ok (.getfield 59, 3) := by decide +kernel
theorem dL_act_332 : decode cL_act 332 = .ok (.istore 7, 2) := by decide +kernel
theorem dL_act_334 : decode cL_act 334 = .ok (.aload_n 1, 1) := by decide +kernel
theorem dL_act_335 : decode cL_act 335 = .ok (.iload_n 2, 1) := by decide +kernel
theorem dL_act_336 : decode cL_act 336 = .ok (.iconst 5, 1) := by decide +kernel
theorem dL_act_337 : decode cL_act 337 = .ok (.ishr, 1) := by decide +kernel
theorem dL_act_338 : decode cL_act 338 = .ok (.bipush 41, 2) := by decide +kernel
theorem dL_act_340 : decode cL_act 340 = .ok (.invokestatic 15, 3) := by decide +kernel
theorem dL_act_343 : decode cL_act 343 = .ok (.putfield 59, 3) := by decide +kernel
theorem dL_act_346 : decode cL_act 346 = .ok (.aload_n 0, 1) := by decide +kernel
theorem dL_act_347 : decode cL_act 347 = .ok (.aload_n 1, 1) := by decide +kernel
theorem dL_act_348 : decode cL_act 348 = .ok (.getfield 59, 3) := by decide +kernel
theorem dL_act_351 : decode cL_act 351 = .ok (.invokevirtual 63, 3) := by decide +kernel
theorem dL_act_354 : decode cL_act 354 = .ok (.iload 7, 2) := by decide +kernel
theorem dL_act_356 : decode cL_act 356 = .ok (.if_icmp .ne 7, 3) := by decide +kernel
theorem dL_act_359 : decode cL_act 359 = .ok (.iconst 1, 1) := by decide +kernel
theorem dL_act_360 : decode cL_act 360 = .ok (.goto 4, 3) := by decide +kernel
theorem dL_act_363 : decode cL_act 363 = .ok (.iconst 0, 1) := by decide +kernel
theorem dL_act_364 : decode cL_act 364 = .ok (.ireturn, 1) := by decide +kernel
theorem dL_act_365 : decode cL_act 365 = .ok (.iconst 1, 1) := by decide +kernel
theorem dL_act_366 : decode cL_act 366 = .ok (.iload_n 2, 1) := by decide +kernel
theorem dL_act_367 : decode cL_act 367 = .ok (.iconst 5, 1) := by decide +kernel
theorem dL_act_368 : decode cL_act 368 = .ok (.ishr, 1) := by decide +kernel
theorem dL_act_369 : decode cL_act 369 = .ok (.iload_n 2, 1) := by decide +kernel
theorem dL_act_370 : decode cL_act 370 = .ok (.bipush 8, 2) := by decide +kernel
theorem dL_act_372 : decode cL_act 372 = .ok (.ishr, 1) := by decide +kernel
theorem dL_act_373 : decode cL_act 373 = .ok (.iconst 4, 1) := by decide +kernel
theorem dL_act_374 : decode cL_act 374 = .ok (.invokestatic 15, 3) := by decide +kernel
theorem dL_act_377 : decode cL_act 377 = .ok (.ifCond .ne 8, 3) := by decide +kernel
theorem dL_act_380 : decode cL_act 380 = .ok (.bipush 20, 2) := by decide +kernel
theorem dL_act_382 : decode cL_act 382 = .ok (.goto 4, 3) := by decide +kernel
theorem dL_act_385 : decode cL_act 385 = .ok (.iconst 3, 1) := by decide +kernel
theorem dL_act_386 : decode cL_act 386 = .ok (.invokestatic 15, 3) := by decide +kernel
theorem dL_act_389 : decode cL_act 389 = .ok (.iadd, 1) := by decide +kernel
theorem dL_act_390 : decode cL_act 390 = .ok (.istore 7, 2) := by decide +kernel
theorem dL_act_392 : decode cL_act 392 = .ok (.iconst 0, 1) := by decide +kernel
theorem dL_act_393 : decode cL_act 393 = .ok (.istore 8, 2) := by decide +kernel
theorem dL_act_395 : decode cL_act 395 = .ok (.iconst 0, 1) := by decide +kernel
theorem dL_act_396 : decode cL_act 396 = .ok (.istore 9, 2) := by decide +kernel
theorem dL_act_398 : decode cL_act 398 = .ok (.iload 9, 2) := by decide +kernel
theorem dL_act_400 : decode cL_act 400 = .ok (.iload 7, 2) := by decide +kernel
theorem dL_act_402 : decode cL_act 402 = .ok (.if_icmp .ge 18, 3) := by decide +kernel
theorem dL_act_405 : decode cL_act 405 = .ok (.iload 8, 2) := by decide +kernel
theorem dL_act_407 : decode cL_act 407 = .ok (.aload_n 1, 1) := by decide +kernel
theorem dL_act_408 : decode cL_act 408 = .ok (.invokevirtual 66, 3) := by decide +kernel
theorem dL_act_411 : decode cL_act 411 = .ok (.iadd, 1) := by decide +kernel
theorem dL_act_412 : decode cL_act 412 = .ok (.istore 8, 2) := by decide +kernel
theorem dL_act_414 : decode cL_act 414 = .ok (.iinc 9 1, 3) := by decide +kernel
theorem dL_act_417 : decode cL_act 417 = .ok (.goto (-19), 3) := by decide +kernel
theorem dL_act_420 : decode cL_act 420 = .ok (.aload_n 0, 1) := by decide +kernel
theorem dL_act_421 : decode cL_act 421 = .ok (.iload 7, 2) := by decide +kernel
theorem dL_act_423 : decode cL_act 423 = .ok (.invokevirtual 69, 3) := by decide +kernel
theorem dL_act_426 : decode cL_act 426 = .ok (.iload 8, 2) := by decide +kernel
theorem dL_act_428 : decode cL_act 428 = .ok (.if_icmp .ne 7, 3) := by decide +kernel
theorem dL_act_431 : decode cL_act 431 = .ok (.iconst 1, 1) := by decide +kernel
theorem dL_act_432 : decode cL_act 432 = .ok (.goto 4, 3) := by decide +kernel
theorem dL_act_435 : decode cL_act 435 = .ok (.iconst 0, 1) := by decide +kernel
theorem dL_act_436 : decode cL_act 436 = .ok (.ireturn, 1) := by decide +kernel
set_option maxRecDepth 20000 in
theorem ggL_build_X1_init : GoodIn wsL_build wsX1_init := goodIn_r _ [7, 8, 9, 10, 11, 12, 13, 14, 77, 78, 79, 80, 81, 82] (by decide +kernel) (by decide +kernel)
set_option maxRecDepth 20000 in
theorem gL_build_X1_init_n71 : GoodIn wsL_build (wsX1_init) := ggL_build_X1_init
set_option maxRecDepth 20000 in
theorem ggL_build_L_cell : GoodIn wsL_build wsL_cell := goodIn_r _ [18, 19] (by decide +kernel) (by decide +kernel)
set_option maxRecDepth 20000 in
theorem gL_build_L_cell : GoodIn wsL_build (va_wsS RL 72 yL_cell wsL_cell) := goodIn_app (goodIn_of _ (by decide +kernel)) ggL_build_L_cell
set_option maxRecDepth 20000 in
theorem ggL_build_L_below : GoodIn wsL_build wsL_below := goodIn_r _ [22, 23] (by decide +kernel) (by decide +kernel)
set_option maxRecDepth 20000 in
theorem gL_build_L_below : GoodIn wsL_build (va_wsS RL 15 yL_below wsL_below) := goodIn_app (goodIn_of _ (by decide +kernel)) ggL_build_L_below
set_option maxRecDepth 20000 in
theorem ggL_build_X1_with : GoodIn wsL_build wsX1_with := goodIn_r _ [26, 12] (by decide +kernel) (by decide +kernel)
set_option maxRecDepth 20000 in
theorem gL_build_X1_with : GoodIn wsL_build (va_wsS RL 26 yX1_with wsX1_with) := goodIn_app (goodIn_of _ (by decide +kernel)) ggL_build_X1_with
set_option maxRecDepth 20000 in
theorem ggL_build_X0_fill : GoodIn wsL_build wsX0_fill := goodIn_ca (goodIn_ca (goodIn_r _ [31, 32, 33, 34, 35, 36, 37, 38, 30, 39, 40, 41, 42, 43, 44, 45, 46, 47, 48, 83, 84, 85, 86, 87, 88, 89, 90, 91, 92, 93, 94, 95, 96, 97] (by decide +kernel) (by decide +kernel)) (goodIn_sub (fun _ h => List.mem_cons_of_mem _ (List.mem_append_left _ (List.mem_append_left _ (List.mem_append_right _ h)))) (by decide +kernel))) (goodIn_sub (fun _ h => List.mem_cons_of_mem _ (List.mem_append_left _ (List.mem_append_right _ h))) (by decide +kernel))
set_option maxRecDepth 20000 in
theorem gL_build_X0_fill : GoodIn wsL_build (wsV RL 30 RX0 yX0_fill wsX0_fill) := goodIn_app (goodIn_of _ (by decide +kernel)) ggL_build_X0_fill
set_option maxRecDepth 20000 in
theorem ggL_build_X0_draw : GoodIn wsL_build wsX0_draw := goodIn_ca (goodIn_ca (goodIn_r _ [52, 34, 35, 53, 54, 55, 56, 57, 58, 59, 60, 30, 61, 62, 63, 36, 64, 65, 66, 67, 48, 83, 84, 85, 86, 87, 88, 89, 90, 91, 92, 93, 94, 95, 96, 97] (by decide +kernel) (by decide +kernel)) (goodIn_sub (fun _ h => List.mem_cons_of_mem _ (List.mem_append_left _ (List.mem_append_right _ h))) (by decide +kernel))) (goodIn_sub (fun _ h => List.mem_cons_of_mem _ (List.mem_append_right _ h)) (by decide +kernel))
set_option maxRecDepth 20000 in
theorem gL_build_X0_draw : GoodIn wsL_build (wsV RL 38 RX0 yX0_draw wsX0_draw) := goodIn_app (goodIn_of _ (by decide +kernel)) ggL_build_X0_draw
set_option maxRecDepth 20000 in
theorem ggL_build_X1_draw : GoodIn wsL_build wsX1_draw := goodIn_r _ [71, 14, 4, 72, 73, 74, 3, 75, 13, 76, 25, 26, 12, 77, 78, 79, 80, 81, 82] (by decide +kernel) (by decide +kernel)
set_option maxRecDepth 20000 in
theorem gL_build_X1_draw : GoodIn wsL_build (wsV RL 41 RX1 yX1_draw wsX1_draw) := goodIn_app (goodIn_of _ (by decide +kernel)) ggL_build_X1_draw
theorem dL_build_0 : decode cL_build 0 = .ok (.new 10, 3) := by decide +kernel
theorem dL_build_3 : decode cL_build 3 = .ok (.dup, 1) := by decide +kernel
theorem dL_build_4 : decode cL_build 4 = .ok (.invokespecial 71, 3) := by decide +kernel
theorem dL_build_7 : decode cL_build 7 = .ok (.astore_n 2, 1) := by decide +kernel
theorem dL_build_8 : decode cL_build 8 = .ok (.iconst 1, 1) := by decide +kernel
theorem dL_build_9 : decode cL_build 9 = .ok (.aload_n 1, 1) := by decide +kernel
theorem dL_build_10 : decode cL_build 10 = .ok (.iconst 0, 1) := by decide +kernel
theorem dL_build_11 : decode cL_build 11 = .ok (.invokestatic 72, 3) := by decide +kernel
theorem dL_build_14 : decode cL_build 14 = .ok (.bipush 12, 2) := by decide +kernel
theorem dL_build_16 : decode cL_build 16 = .ok (.invokestatic 15, 3) := by decide +kernel
theorem dL_build_19 : decode cL_build 19 = .ok (.iadd, 1) := by decide +kernel
theorem dL_build_20 : decode cL_build 20 = .ok (.istore_n 3, 1) := by decide +kernel
theorem dL_build_21 : decode cL_build 21 = .ok (.iconst 0, 1) := by decide +kernel
theorem dL_build_22 : decode cL_build 22 = .ok (.istore 4, 2) := by decide +kernel
theorem dL_build_24 : decode cL_build 24 = .ok (.iload 4, 2) := by decide +kernel
theorem dL_build_26 : decode cL_build 26 = .ok (.iload_n 3, 1) := by decide +kernel
theorem dL_build_27 : decode cL_build 27 = .ok (.if_icmp .ge 96, 3) := by decide +kernel
theorem dL_build_30 : decode cL_build 30 = .ok (.aload_n 1, 1) := by decide +kernel
theorem dL_build_31 : decode cL_build 31 = .ok (.iconst 1, 1) := by decide +kernel
theorem dL_build_32 : decode cL_build 32 = .ok (.iload 4, 2) := by decide +kernel
theorem dL_build_34 : decode cL_build 34 = .ok (.iadd, 1) := by decide +kernel
theorem dL_build_35 : decode cL_build 35 = .ok (.invokestatic 72, 3) := by decide +kernel
theorem dL_build_38 : decode cL_build 38 = .ok (.iconst 1, 1) := by decide +kernel
theorem dL_build_39 : decode cL_build 39 = .ok (.ishr, 1) := by decide +kernel
theorem dL_build_40 : decode cL_build 40 = .ok (.istore 5, 2) := by decide +kernel
theorem dL_build_42 : decode cL_build 42 = .ok (.iconst 2, 1) := by decide +kernel
theorem dL_build_43 : decode cL_build 43 = .ok (.newarray .int, 2) := by decide +kernel
theorem dL_build_45 : decode cL_build 45 = .ok (.dup, 1) := by decide +kernel
theorem dL_build_46 : decode cL_build 46 = .ok (.iconst 0, 1) := by decide +kernel
theorem dL_build_47 : decode cL_build 47 = .ok (.iload 5, 2) := by decide +kernel
theorem dL_build_49 : decode cL_build 49 = .ok (.iconst 5, 1) := by decide +kernel
theorem dL_build_50 : decode cL_build 50 = .ok (.invokestatic 15, 3) := by decide +kernel
theorem dL_build_53 : decode cL_build 53 = .ok (.iastore, 1) := by decide +kernel
theorem dL_build_54 : decode cL_build 54 = .ok (.dup, 1) := by decide +kernel
theorem dL_build_55 : decode cL_build 55 = .ok (.iconst 1, 1) := by decide +kernel
theorem dL_build_56 : decode cL_build 56 = .ok (.iload 5, 2) := by decide +kernel
theorem dL_build_58 : decode cL_build 58 = .ok (.iconst 3, 1) := by decide +kernel
theorem dL_build_59 : decode cL_build 59 = .ok (.ishr, 1) := by decide +kernel
theorem dL_build_60 : decode cL_build 60 = .ok (.iload 5, 2) := by decide +kernel
theorem dL_build_62 : decode cL_build 62 = .ok (.bipush 9, 2) := by decide +kernel
theorem dL_build_64 : decode cL_build 64 = .ok (.ishr, 1) := by decide +kernel
theorem dL_build_65 : decode cL_build 65 = .ok (.iconst 3, 1) := by decide +kernel
theorem dL_build_66 : decode cL_build 66 = .ok (.invokestatic 15, 3) := by decide +kernel
theorem dL_build_69 : decode cL_build 69 = .ok (.ifCond .ne 8, 3) := by decide +kernel
theorem dL_build_72 : decode cL_build 72 = .ok (.bipush 41, 2) := by decide +kernel
theorem dL_build_74 : decode cL_build 74 = .ok (.goto 5, 3) := by decide +kernel
theorem dL_build_77 : decode cL_build 77 = .ok (.bipush 20, 2) := by decide +kernel
theorem dL_build_79 : decode cL_build 79 = .ok (.invokestatic 15, 3) := by decide +kernel
theorem dL_build_82 : decode cL_build 82 = .ok (.iastore, 1) := by decide +kernel
theorem dL_build_83 : decode cL_build 83 = .ok (.astore 6, 2) := by decide +kernel
theorem dL_build_85 : decode cL_build 85 = .ok (.aload_n 2, 1) := by decide +kernel
theorem dL_build_86 : decode cL_build 86 = .ok (.aload_n 2, 1) := by decide +kernel
theorem dL_build_87 : decode cL_build 87 = .ok (.getfield 9, 3) := by decide +kernel
theorem dL_build_90 : decode cL_build 90 = .ok (.aload 6, 2) := by decide +kernel
theorem dL_build_92 : decode cL_build 92 = .ok (.invokestatic 26, 3) := by decide +kernel
theorem dL_build_95 : decode cL_build 95 = .ok (.putfield 9, 3) := by decide +kernel
theorem dL_build_98 : decode cL_build 98 = .ok (.aload_n 0, 1) := by decide +kernel
theorem dL_build_99 : decode cL_build 99 = .ok (.aload 6, 2) := by decide +kernel
theorem dL_build_101 : decode cL_build 101 = .ok (.iconst 0, 1) := by decide +kernel
theorem dL_build_102 : decode cL_build 102 = .ok (.iaload, 1) := by decide +kernel
theorem dL_build_103 : decode cL_build 103 = .ok (.aload 6, 2) := by decide +kernel
theorem dL_build_105 : decode cL_build 105 = .ok (.iconst 1, 1) := by decide +kernel
theorem dL_build_106 : decode cL_build 106 = .ok (.iaload, 1) := by decide +kernel
theorem dL_build_107 : decode cL_build 107 = .ok (.invokevirtual 30, 3) := by decide +kernel
theorem dL_build_110 : decode cL_build 110 = .ok (.iload 4, 2) := by decide +kernel
theorem dL_build_112 : decode cL_build 112 = .ok (.if_icmp .eq 5, 3) := by decide +kernel
theorem dL_build_115 : decode cL_build 115 = .ok (.aconst_null, 1) := by decide +kernel
theorem dL_build_116 : decode cL_build 116 = .ok (.areturn, 1) := by decide +kernel
theorem dL_build_117 : decode cL_build 117 = .ok (.iinc 4 1, 3) := by decide +kernel
theorem dL_build_120 : decode cL_build 120 = .ok (.goto (-96), 3) := by decide +kernel
theorem dL_build_123 : decode cL_build 123 = .ok (.aload_n 1, 1) := by decide +kernel
theorem dL_build_124 : decode cL_build 124 = .ok (.iconst 0, 1) := by decide +kernel
theorem dL_build_125 : decode cL_build 125 = .ok (.invokestatic 72, 3) := by decide +kernel
theorem dL_build_128 : decode cL_build 128 = .ok (.iconst 5, 1) := by decide +kernel
theorem dL_build_129 : decode cL_build 129 = .ok (.ishr, 1) := by decide +kernel
theorem dL_build_130 : decode cL_build 130 = .ok (.bipush 9, 2) := by decide +kernel
theorem dL_build_132 : decode cL_build 132 = .ok (.invokestatic 15, 3) := by decide +kernel
theorem dL_build_135 : decode cL_build 135 = .ok (.istore 4, 2) := by decide +kernel
theorem dL_build_137 : decode cL_build 137 = .ok (.iconst 0, 1) := by decide +kernel
theorem dL_build_138 : decode cL_build 138 = .ok (.istore 5, 2) := by decide +kernel
theorem dL_build_140 : decode cL_build 140 = .ok (.iload 5, 2) := by decide +kernel
theorem dL_build_142 : decode cL_build 142 = .ok (.iload 4, 2) := by decide +kernel
theorem dL_build_144 : decode cL_build 144 = .ok (.if_icmp .ge 67, 3) := by decide +kernel
theorem dL_build_147 : decode cL_build 147 = .ok (.aload_n 1, 1) := by decide +kernel
theorem dL_build_148 : decode cL_build 148 = .ok (.bipush 13, 2) := by decide +kernel
theorem dL_build_150 : decode cL_build 150 = .ok (.iload 5, 2) := by decide +kernel
theorem dL_build_152 : decode cL_build 152 = .ok (.isub, 1) := by decide +kernel
theorem dL_build_153 : decode cL_build 153 = .ok (.invokestatic 72, 3) := by decide +kernel
theorem dL_build_156 : decode cL_build 156 = .ok (.iconst 2, 1) := by decide +kernel
theorem dL_build_157 : decode cL_build 157 = .ok (.ishr, 1) := by decide +kernel
theorem dL_build_158 : decode cL_build 158 = .ok (.istore 6, 2) := by decide +kernel
theorem dL_build_160 : decode cL_build 160 = .ok (.iload 6, 2) := by decide +kernel
theorem dL_build_162 : decode cL_build 162 = .ok (.iload_n 3, 1) := by decide +kernel
theorem dL_build_163 : decode cL_build 163 = .ok (.invokestatic 15, 3) := by decide +kernel
theorem dL_build_166 : decode cL_build 166 = .ok (.istore 7, 2) := by decide +kernel
theorem dL_build_168 : decode cL_build 168 = .ok (.iload 7, 2) := by decide +kernel
theorem dL_build_170 : decode cL_build 170 = .ok (.iload 6, 2) := by decide +kernel
theorem dL_build_172 : decode cL_build 172 = .ok (.iconst 4, 1) := by decide +kernel
theorem dL_build_173 : decode cL_build 173 = .ok (.ishr, 1) := by decide +kernel
theorem dL_build_174 : decode cL_build 174 = .ok (.iload_n 3, 1) := by decide +kernel
theorem dL_build_175 : decode cL_build 175 = .ok (.iload 7, 2) := by decide +kernel
theorem dL_build_177 : decode cL_build 177 = .ok (.isub, 1) := by decide +kernel
theorem dL_build_178 : decode cL_build 178 = .ok (.invokestatic 15, 3) := by decide +kernel
theorem dL_build_181 : decode cL_build 181 = .ok (.iadd, 1) := by decide +kernel
theorem dL_build_182 : decode cL_build 182 = .ok (.istore 8, 2) := by decide +kernel
theorem dL_build_184 : decode cL_build 184 = .ok (.aload_n 0, 1) := by decide +kernel
theorem dL_build_185 : decode cL_build 185 = .ok (.iload 7, 2) := by decide +kernel
theorem dL_build_187 : decode cL_build 187 = .ok (.iload 8, 2) := by decide +kernel
theorem dL_build_189 : decode cL_build 189 = .ok (.invokevirtual 38, 3) := by decide +kernel
theorem dL_build_192 : decode cL_build 192 = .ok (.aload_n 2, 1) := by decide +kernel
theorem dL_build_193 : decode cL_build 193 = .ok (.iload 7, 2) := by decide +kernel
theorem dL_build_195 : decode cL_build 195 = .ok (.iload 8, 2) := by decide +kernel
theorem dL_build_197 : decode cL_build 197 = .ok (.invokevirtual 41, 3) := by decide +kernel
theorem dL_build_200 : decode cL_build 200 = .ok (.if_icmp .eq 5, 3) := by decide +kernel
theorem dL_build_203 : decode cL_build 203 = .ok (.aconst_null, 1) := by decide +kernel
theorem dL_build_204 : decode cL_build 204 = .ok (.areturn, 1) := by decide +kernel
theorem dL_build_205 : decode cL_build 205 = .ok (.iinc 5 1, 3) := by decide +kernel
theorem dL_build_208 : decode cL_build 208 = .ok (.goto (-68), 3) := by decide +kernel
theorem dL_build_211 : decode cL_build 211 = .ok (.aload_n 2, 1) := by decide +kernel
theorem dL_build_212 : decode cL_build 212 = .ok (.areturn, 1) := by decide +kernel
set_option maxRecDepth 20000 in
theorem ggL_isSoAtOnce_X0_layers : GoodIn wsL_isSoAtOnce wsX0_layers := goodIn_r _ [10, 11, 79, 80, 81, 82, 83, 84, 85, 86, 87, 88, 89, 90, 91, 92, 93] (by decide +kernel) (by decide +kernel)
set_option maxRecDepth 20000 in
theorem gL_isSoAtOnce_X0_layers : GoodIn wsL_isSoAtOnce (wsV RL 89 RX0 yX0_layers wsX0_layers) := goodIn_app (goodIn_of _ (by decide +kernel)) ggL_isSoAtOnce_X0_layers
set_option maxRecDepth 20000 in
theorem ggL_isSoAtOnce_X0_greatestSum : GoodIn wsL_isSoAtOnce wsX0_greatestSum := goodIn_ca (goodIn_r _ [15, 16, 17, 18, 9, 19, 20, 21, 11, 22, 23, 24, 25, 26, 27, 28, 29, 30, 31, 32, 33, 34, 35, 36, 37, 38, 39, 40, 41, 4, 42, 43, 44, 45, 46, 79, 80, 81, 82, 83, 84, 85, 86, 87, 88, 89, 90, 91, 92, 93] (by decide +kernel) (by decide +kernel)) (goodIn_sub (fun _ h => List.mem_cons_of_mem _ (List.mem_append_right _ h)) (by decide +kernel))
set_option maxRecDepth 20000 in
theorem gL_isSoAtOnce_X0_greatestSum : GoodIn wsL_isSoAtOnce (wsV RL 95 RX0 yX0_greatestSum wsX0_greatestSum) := goodIn_app (goodIn_of _ (by decide +kernel)) ggL_isSoAtOnce_X0_greatestSum
set_option maxRecDepth 20000 in
theorem ggL_isSoAtOnce_X0_leastSum : GoodIn wsL_isSoAtOnce wsX0_leastSum := goodIn_ca (goodIn_r _ [50, 16, 17, 18, 9, 19, 20, 21, 11, 22, 23, 24, 25, 26, 27, 28, 29, 30, 31, 32, 33, 34, 35, 36, 37, 38, 39, 40, 41, 4, 42, 51, 52, 53, 54, 79, 80, 81, 82, 83, 84, 85, 86, 87, 88, 89, 90, 91, 92, 93] (by decide +kernel) (by decide +kernel)) (goodIn_sub (fun _ h => List.mem_cons_of_mem _ (List.mem_append_right _ h)) (by decide +kernel))
set_option maxRecDepth 20000 in
theorem gL_isSoAtOnce_X0_leastSum : GoodIn wsL_isSoAtOnce (wsV RL 92 RX0 yX0_leastSum wsX0_leastSum) := goodIn_app (goodIn_of _ (by decide +kernel)) ggL_isSoAtOnce_X0_leastSum
set_option maxRecDepth 20000 in
theorem ggL_isSoAtOnce_X0_samples : GoodIn wsL_isSoAtOnce wsX0_samples := goodIn_r _ [58, 26, 79, 80, 81, 82, 83, 84, 85, 86, 87, 88, 89, 90, 91, 92, 93] (by decide +kernel) (by decide +kernel)
set_option maxRecDepth 20000 in
theorem gL_isSoAtOnce_X0_samples : GoodIn wsL_isSoAtOnce (wsV RL 133 RX0 yX0_samples wsX0_samples) := goodIn_app (goodIn_of _ (by decide +kernel)) ggL_isSoAtOnce_X0_samples
set_option maxRecDepth 20000 in
theorem ggL_isSoAtOnce_X0_highestOf : GoodIn wsL_isSoAtOnce wsX0_highestOf := goodIn_ca (goodIn_r _ [62, 28, 63, 64, 65, 9, 66, 20, 21, 26, 79, 80, 81, 82, 83, 84, 85, 86, 87, 88, 89, 90, 91, 92, 93] (by decide +kernel) (by decide +kernel)) (goodIn_sub (fun _ h => List.mem_cons_of_mem _ (List.mem_append_right _ h)) (by decide +kernel))
set_option maxRecDepth 20000 in
theorem gL_isSoAtOnce_X0_highestOf : GoodIn wsL_isSoAtOnce (wsV RL 151 RX0 yX0_highestOf wsX0_highestOf) := goodIn_app (goodIn_of _ (by decide +kernel)) ggL_isSoAtOnce_X0_highestOf
set_option maxRecDepth 20000 in
theorem ggL_isSoAtOnce_X0_lowestOf : GoodIn wsL_isSoAtOnce wsX0_lowestOf := goodIn_ca (goodIn_r _ [70, 27, 63, 64, 65, 9, 66, 20, 21, 26, 79, 80, 81, 82, 83, 84, 85, 86, 87, 88, 89, 90, 91, 92, 93] (by decide +kernel) (by decide +kernel)) (goodIn_sub (fun _ h => List.mem_cons_of_mem _ (List.mem_append_right _ h)) (by decide +kernel))
set_option maxRecDepth 20000 in
theorem gL_isSoAtOnce_X0_lowestOf : GoodIn wsL_isSoAtOnce (wsV RL 154 RX0 yX0_lowestOf wsX0_lowestOf) := goodIn_app (goodIn_of _ (by decide +kernel)) ggL_isSoAtOnce_X0_lowestOf
set_option maxRecDepth 20000 in
theorem ggL_isSoAtOnce_X0_sumOf : GoodIn wsL_isSoAtOnce wsX0_sumOf := goodIn_ca (goodIn_r _ [74, 29, 63, 64, 65, 9, 66, 20, 21, 26, 79, 80, 81, 82, 83, 84, 85, 86, 87, 88, 89, 90, 91, 92, 93] (by decide +kernel) (by decide +kernel)) (goodIn_sub (fun _ h => List.mem_cons_of_mem _ (List.mem_append_right _ h)) (by decide +kernel))
set_option maxRecDepth 20000 in
theorem gL_isSoAtOnce_X0_sumOf : GoodIn wsL_isSoAtOnce (wsV RL 157 RX0 yX0_sumOf wsX0_sumOf) := goodIn_app (goodIn_of _ (by decide +kernel)) ggL_isSoAtOnce_X0_sumOf
set_option maxRecDepth 20000 in
theorem ggL_isSoAtOnce_X0_doubtOf : GoodIn wsL_isSoAtOnce wsX0_doubtOf := goodIn_ca (goodIn_r _ [78, 30, 63, 64, 65, 9, 66, 20, 21, 26, 79, 80, 81, 82, 83, 84, 85, 86, 87, 88, 89, 90, 91, 92, 93] (by decide +kernel) (by decide +kernel)) (goodIn_sub (fun _ h => List.mem_cons_of_mem _ (List.mem_append_right _ h)) (by decide +kernel))
set_option maxRecDepth 20000 in
theorem gL_isSoAtOnce_X0_doubtOf : GoodIn wsL_isSoAtOnce (wsV RL 163 RX0 yX0_doubtOf wsX0_doubtOf) := goodIn_app (goodIn_of _ (by decide +kernel)) ggL_isSoAtOnce_X0_doubtOf
theorem dL_isSoAtOnce_0 : decode cL_isSoAtOnce 0 = .ok (.aload_n 0, 1) := by decide +kernel
theorem dL_isSoAtOnce_1 : decode cL_isSoAtOnce 1 = .ok (.invokevirtual 89, 3) := by decide +kernel
theorem dL_isSoAtOnce_4 : decode cL_isSoAtOnce 4 = .ok (.istore_n 2, 1) := by decide +kernel
theorem dL_isSoAtOnce_5 : decode cL_isSoAtOnce 5 = .ok (.iload_n 2, 1) := by decide +kernel
theorem dL_isSoAtOnce_6 : decode cL_isSoAtOnce 6 = .ok (.iconst 1, 1) := by decide +kernel
theorem dL_isSoAtOnce_7 : decode cL_isSoAtOnce 7 = .ok (.iadd, 1) := by decide +kernel
theorem dL_isSoAtOnce_8 : decode cL_isSoAtOnce 8 = .ok (.newarray .int, 2) := by decide +kernel
theorem dL_isSoAtOnce_10 : decode cL_isSoAtOnce 10 = .ok (.astore_n 3, 1) := by decide +kernel
theorem dL_isSoAtOnce_11 : decode cL_isSoAtOnce 11 = .ok (.iconst 0, 1) := by decide +kernel
theorem dL_isSoAtOnce_12 : decode cL_isSoAtOnce 12 = .ok (.istore 4, 2) := by decide +kernel
theorem dL_isSoAtOnce_14 : decode cL_isSoAtOnce 14 = .ok (.iload 4, 2) := by decide +kernel
theorem dL_isSoAtOnce_16 : decode cL_isSoAtOnce 16 = .ok (.iload_n 2, 1) := by decide +kernel
theorem dL_isSoAtOnce_17 : decode cL_isSoAtOnce 17 = .ok (.if_icmp .gt 51, 3) := by decide +kernel
theorem dL_isSoAtOnce_20 : decode cL_isSoAtOnce 20 = .ok (.aload_n 3, 1) := by decide +kernel
theorem dL_isSoAtOnce_21 : decode cL_isSoAtOnce 21 = .ok (.iload 4, 2) := by decide +kernel
theorem dL_isSoAtOnce_23 : decode cL_isSoAtOnce 23 = .ok (.iload 4, 2) := by decide +kernel
theorem dL_isSoAtOnce_25 : decode cL_isSoAtOnce 25 = .ok (.iload_n 1, 1) := by decide +kernel
theorem dL_isSoAtOnce_26 : decode cL_isSoAtOnce 26 = .ok (.if_icmp .le 15, 3) := by decide +kernel
theorem dL_isSoAtOnce_29 : decode cL_isSoAtOnce 29 = .ok (.aload_n 0, 1) := by decide +kernel
theorem dL_isSoAtOnce_30 : decode cL_isSoAtOnce 30 = .ok (.iload_n 1, 1) := by decide +kernel
theorem dL_isSoAtOnce_31 : decode cL_isSoAtOnce 31 = .ok (.iload 4, 2) := by decide +kernel
theorem dL_isSoAtOnce_33 : decode cL_isSoAtOnce 33 = .ok (.iconst 1, 1) := by decide +kernel
theorem dL_isSoAtOnce_34 : decode cL_isSoAtOnce 34 = .ok (.isub, 1) := by decide +kernel
theorem dL_isSoAtOnce_35 : decode cL_isSoAtOnce 35 = .ok (.invokevirtual 95, 3) := by decide +kernel
theorem dL_isSoAtOnce_38 : decode cL_isSoAtOnce 38 = .ok (.goto 23, 3) := by decide +kernel
theorem dL_isSoAtOnce_41 : decode cL_isSoAtOnce 41 = .ok (.iload 4, 2) := by decide +kernel
theorem dL_isSoAtOnce_43 : decode cL_isSoAtOnce 43 = .ok (.iload_n 1, 1) := by decide +kernel
theorem dL_isSoAtOnce_44 : decode cL_isSoAtOnce 44 = .ok (.if_icmp .ge 16, 3) := by decide +kernel
theorem dL_isSoAtOnce_47 : decode cL_isSoAtOnce 47 = .ok (.aload_n 0, 1) := by decide +kernel
theorem dL_isSoAtOnce_48 : decode cL_isSoAtOnce 48 = .ok (.iload 4, 2) := by decide +kernel
theorem dL_isSoAtOnce_50 : decode cL_isSoAtOnce 50 = .ok (.iload_n 1, 1) := by decide +kernel
theorem dL_isSoAtOnce_51 : decode cL_isSoAtOnce 51 = .ok (.iconst 1, 1) := by decide +kernel
theorem dL_isSoAtOnce_52 : decode cL_isSoAtOnce 52 = .ok (.isub, 1) := by decide +kernel
theorem dL_isSoAtOnce_53 : decode cL_isSoAtOnce 53 = .ok (.invokevirtual 92, 3) := by decide +kernel
theorem dL_isSoAtOnce_56 : decode cL_isSoAtOnce 56 = .ok (.ineg, 1) := by decide +kernel
theorem dL_isSoAtOnce_57 : decode cL_isSoAtOnce 57 = .ok (.goto 4, 3) := by decide +kernel
theorem dL_isSoAtOnce_60 : decode cL_isSoAtOnce 60 = .ok (.iconst 0, 1) := by decide +kernel
theorem dL_isSoAtOnce_61 : decode cL_isSoAtOnce 61 = .ok (.iastore, 1) := by decide +kernel
theorem dL_isSoAtOnce_62 : decode cL_isSoAtOnce 62 = .ok (.iinc 4 1, 3) := by decide +kernel
theorem dL_isSoAtOnce_65 : decode cL_isSoAtOnce 65 = .ok (.goto (-51), 3) := by decide +kernel
theorem dL_isSoAtOnce_68 : decode cL_isSoAtOnce 68 = .ok (.iconst 0, 1) := by decide +kernel
theorem dL_isSoAtOnce_69 : decode cL_isSoAtOnce 69 = .ok (.istore 4, 2) := by decide +kernel
theorem dL_isSoAtOnce_71 : decode cL_isSoAtOnce 71 = .ok (.iload 4, 2) := by decide +kernel
theorem dL_isSoAtOnce_73 : decode cL_isSoAtOnce 73 = .ok (.iload_n 2, 1) := by decide +kernel
theorem dL_isSoAtOnce_74 : decode cL_isSoAtOnce 74 = .ok (.if_icmp .ge 40, 3) := by decide +kernel
theorem dL_isSoAtOnce_77 : decode cL_isSoAtOnce 77 = .ok (.aload_n 3, 1) := by decide +kernel
theorem dL_isSoAtOnce_78 : decode cL_isSoAtOnce 78 = .ok (.iload 4, 2) := by decide +kernel
theorem dL_isSoAtOnce_80 : decode cL_isSoAtOnce 80 = .ok (.iconst 1, 1) := by decide +kernel
theorem dL_isSoAtOnce_81 : decode cL_isSoAtOnce 81 = .ok (.iadd, 1) := by decide +kernel
theorem dL_isSoAtOnce_82 : decode cL_isSoAtOnce 82 = .ok (.iaload, 1) := by decide +kernel
theorem dL_isSoAtOnce_83 : decode cL_isSoAtOnce 83 = .ok (.aload_n 3, 1) := by decide +kernel
theorem dL_isSoAtOnce_84 : decode cL_isSoAtOnce 84 = .ok (.iload 4, 2) := by decide +kernel
theorem dL_isSoAtOnce_86 : decode cL_isSoAtOnce 86 = .ok (.iaload, 1) := by decide +kernel
theorem dL_isSoAtOnce_87 : decode cL_isSoAtOnce 87 = .ok (.if_icmp .lt 19, 3) := by decide +kernel
theorem dL_isSoAtOnce_90 : decode cL_isSoAtOnce 90 = .ok (.aload_n 3, 1) := by decide +kernel
theorem dL_isSoAtOnce_91 : decode cL_isSoAtOnce 91 = .ok (.iload 4, 2) := by decide +kernel
theorem dL_isSoAtOnce_93 : decode cL_isSoAtOnce 93 = .ok (.iconst 1, 1) := by decide +kernel
theorem dL_isSoAtOnce_94 : decode cL_isSoAtOnce 94 = .ok (.iadd, 1) := by decide +kernel
theorem dL_isSoAtOnce_95 : decode cL_isSoAtOnce 95 = .ok (.iaload, 1) := by decide +kernel
theorem dL_isSoAtOnce_96 : decode cL_isSoAtOnce 96 = .ok (.aload_n 3, 1) := by decide +kernel
theorem dL_isSoAtOnce_97 : decode cL_isSoAtOnce 97 = .ok (.iload 4, 2) := by decide +kernel
theorem dL_isSoAtOnce_99 : decode cL_isSoAtOnce 99 = .ok (.iaload, 1) := by decide +kernel
theorem dL_isSoAtOnce_100 : decode cL_isSoAtOnce 100 = .ok (.isub, 1) := by decide +kernel
theorem dL_isSoAtOnce_101 : decode cL_isSoAtOnce 101 = .ok (.bipush 40, 2) := by decide +kernel
theorem dL_isSoAtOnce_103 : decode cL_isSoAtOnce 103 = .ok (.if_icmp .le 5, 3) := by decide +kernel
theorem dL_isSoAtOnce_106 : decode cL_isSoAtOnce 106 = .ok (.iconst 0, 1) := by decide +kernel
theorem dL_isSoAtOnce_107 : decode cL_isSoAtOnce 107 = .ok (.ireturn, 1) := by decide +kernel
theorem dL_isSoAtOnce_108 : decode cL_isSoAtOnce 108 = .ok (.iinc 4 1, 3) := by decide +kernel
theorem dL_isSoAtOnce_111 : decode cL_isSoAtOnce 111 = .ok (.goto (-40), 3) := by decide +kernel
theorem dL_isSoAtOnce_114 : decode cL_isSoAtOnce 114 = .ok (.iconst 0, 1) := by decide +kernel
theorem dL_isSoAtOnce_115 : decode cL_isSoAtOnce 115 = .ok (.istore 4, 2) := by decide +kernel
theorem dL_isSoAtOnce_117 : decode cL_isSoAtOnce 117 = .ok (.iload 4, 2) := by decide +kernel
theorem dL_isSoAtOnce_119 : decode cL_isSoAtOnce 119 = .ok (.aload_n 0, 1) := by decide +kernel
theorem dL_isSoAtOnce_120 : decode cL_isSoAtOnce 120 = .ok (.invokevirtual 133, 3) := by decide +kernel
theorem dL_isSoAtOnce_123 : decode cL_isSoAtOnce 123 = .ok (.if_icmp .ge 49, 3) := by decide +kernel
theorem dL_isSoAtOnce_126 : decode cL_isSoAtOnce 126 = .ok (.aload_n 3, 1) := by decide +kernel
theorem dL_isSoAtOnce_127 : decode cL_isSoAtOnce 127 = .ok (.aload_n 0, 1) := by decide +kernel
theorem dL_isSoAtOnce_128 : decode cL_isSoAtOnce 128 = .ok (.iload 4, 2) := by decide +kernel
theorem dL_isSoAtOnce_130 : decode cL_isSoAtOnce 130 = .ok (.invokevirtual 151, 3) := by decide +kernel
theorem dL_isSoAtOnce_133 : decode cL_isSoAtOnce 133 = .ok (.iconst 1, 1) := by decide +kernel
theorem dL_isSoAtOnce_134 : decode cL_isSoAtOnce 134 = .ok (.iadd, 1) := by decide +kernel
theorem dL_isSoAtOnce_135 : decode cL_isSoAtOnce 135 = .ok (.iaload, 1) := by decide +kernel
theorem dL_isSoAtOnce_136 : decode cL_isSoAtOnce 136 = .ok (.aload_n 3, 1) := by decide +kernel
theorem dL_isSoAtOnce_137 : decode cL_isSoAtOnce 137 = .ok (.aload_n 0, 1) := by decide +kernel
theorem dL_isSoAtOnce_138 : decode cL_isSoAtOnce 138 = .ok (.iload 4, 2) := by decide +kernel
theorem dL_isSoAtOnce_140 : decode cL_isSoAtOnce 140 = .ok (.invokevirtual 154, 3) := by decide +kernel
theorem dL_isSoAtOnce_143 : decode cL_isSoAtOnce 143 = .ok (.iaload, 1) := by decide +kernel
theorem dL_isSoAtOnce_144 : decode cL_isSoAtOnce 144 = .ok (.isub, 1) := by decide +kernel
theorem dL_isSoAtOnce_145 : decode cL_isSoAtOnce 145 = .ok (.aload_n 0, 1) := by decide +kernel
theorem dL_isSoAtOnce_146 : decode cL_isSoAtOnce 146 = .ok (.iload 4, 2) := by decide +kernel
theorem dL_isSoAtOnce_148 : decode cL_isSoAtOnce 148 = .ok (.invokevirtual 157, 3) := by decide +kernel
theorem dL_isSoAtOnce_151 : decode cL_isSoAtOnce 151 = .ok (.isub, 1) := by decide +kernel
theorem dL_isSoAtOnce_152 : decode cL_isSoAtOnce 152 = .ok (.invokestatic 160, 3) := by decide +kernel
theorem dL_isSoAtOnce_155 : decode cL_isSoAtOnce 155 = .ok (.aload_n 0, 1) := by decide +kernel
theorem dL_isSoAtOnce_156 : decode cL_isSoAtOnce 156 = .ok (.iload 4, 2) := by decide +kernel
theorem dL_isSoAtOnce_158 : decode cL_isSoAtOnce 158 = .ok (.invokevirtual 163, 3) := by decide +kernel
theorem dL_isSoAtOnce_161 : decode cL_isSoAtOnce 161 = .ok (.if_icmp .le 5, 3) := by decide +kernel
theorem dL_isSoAtOnce_164 : decode cL_isSoAtOnce 164 = .ok (.iconst 0, 1) := by decide +kernel
theorem dL_isSoAtOnce_165 : decode cL_isSoAtOnce 165 = .ok (.ireturn, 1) := by decide +kernel
theorem dL_isSoAtOnce_166 : decode cL_isSoAtOnce 166 = .ok (.iinc 4 1, 3) := by decide +kernel
theorem dL_isSoAtOnce_169 : decode cL_isSoAtOnce 169 = .ok (.goto (-52), 3) := by decide +kernel
theorem dL_isSoAtOnce_172 : decode cL_isSoAtOnce 172 = .ok (.iconst 1, 1) := by decide +kernel
theorem dL_isSoAtOnce_173 : decode cL_isSoAtOnce 173 = .ok (.ireturn, 1) := by decide +kernel
