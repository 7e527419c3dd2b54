theorem dJ9_floorMod_7cf53_0 : decode cJ9_floorMod_7cf53 0 = .ok (.iload_n 0, 1) := by decide +kernel
theorem dJ9_floorMod_7cf53_1 : decode cJ9_floorMod_7cf53 1 = .ok (.iload_n 1, 1) := by decide +kernel
theorem dJ9_floorMod_7cf53_2 : decode cJ9_floorMod_7cf53 2 = .ok (.irem, 1) := by decide +kernel
theorem dJ9_floorMod_7cf53_3 : decode cJ9_floorMod_7cf53 3 = .ok (.istore_n 2, 1) := by decide +kernel
theorem dJ9_floorMod_7cf53_4 : decode cJ9_floorMod_7cf53 4 = .ok (.iload_n 0, 1) := by decide +kernel
theorem dJ9_floorMod_7cf53_5 : decode cJ9_floorMod_7cf53 5 = .ok (.iload_n 1, 1) := by decide +kernel
theorem dJ9_floorMod_7cf53_6 : decode cJ9_floorMod_7cf53 6 = .ok (.ixor, 1) := by decide +kernel
theorem dJ9_floorMod_7cf53_7 : decode cJ9_floorMod_7cf53 7 = .ok (.ifCond .ge 11, 3) := by decide +kernel
theorem dJ9_floorMod_7cf53_10 : decode cJ9_floorMod_7cf53 10 = .ok (.iload_n 2, 1) := by decide +kernel
theorem dJ9_floorMod_7cf53_11 : decode cJ9_floorMod_7cf53 11 = .ok (.ifCond .eq 7, 3) := by decide +kernel
theorem dJ9_floorMod_7cf53_14 : decode cJ9_floorMod_7cf53 14 = .ok (.iload_n 2, 1) := by decide +kernel
theorem dJ9_floorMod_7cf53_15 : decode cJ9_floorMod_7cf53 15 = .ok (.iload_n 1, 1) := by decide +kernel
theorem dJ9_floorMod_7cf53_16 : decode cJ9_floorMod_7cf53 16 = .ok (.iadd, 1) := by decide +kernel
theorem dJ9_floorMod_7cf53_17 : decode cJ9_floorMod_7cf53 17 = .ok (.ireturn, 1) := by decide +kernel
theorem dJ9_floorMod_7cf53_18 : decode cJ9_floorMod_7cf53 18 = .ok (.iload_n 2, 1) := by decide +kernel
theorem dJ9_floorMod_7cf53_19 : decode cJ9_floorMod_7cf53 19 = .ok (.ireturn, 1) := by decide +kernel
theorem dJ9_abs_0f7a4_0 : decode cJ9_abs_0f7a4 0 = .ok (.iload_n 0, 1) := by decide +kernel
theorem dJ9_abs_0f7a4_1 : decode cJ9_abs_0f7a4 1 = .ok (.ifCond .ge 8, 3) := by decide +kernel
theorem dJ9_abs_0f7a4_4 : decode cJ9_abs_0f7a4 4 = .ok (.iload_n 0, 1) := by decide +kernel
theorem dJ9_abs_0f7a4_5 : decode cJ9_abs_0f7a4 5 = .ok (.ineg, 1) := by decide +kernel
theorem dJ9_abs_0f7a4_6 : decode cJ9_abs_0f7a4 6 = .ok (.goto 4, 3) := by decide +kernel
theorem dJ9_abs_0f7a4_9 : decode cJ9_abs_0f7a4 9 = .ok (.iload_n 0, 1) := by decide +kernel
theorem dJ9_abs_0f7a4_10 : decode cJ9_abs_0f7a4 10 = .ok (.ireturn, 1) := by decide +kernel
theorem dJ9_max_7cf53_0 : decode cJ9_max_7cf53 0 = .ok (.iload_n 0, 1) := by decide +kernel
theorem dJ9_max_7cf53_1 : decode cJ9_max_7cf53 1 = .ok (.iload_n 1, 1) := by decide +kernel
theorem dJ9_max_7cf53_2 : decode cJ9_max_7cf53 2 = .ok (.if_icmp .lt 7, 3) := by decide +kernel
theorem dJ9_max_7cf53_5 : decode cJ9_max_7cf53 5 = .ok (.iload_n 0, 1) := by decide +kernel
theorem dJ9_max_7cf53_6 : decode cJ9_max_7cf53 6 = .ok (.goto 4, 3) := by decide +kernel
theorem dJ9_max_7cf53_9 : decode cJ9_max_7cf53 9 = .ok (.iload_n 1, 1) := by decide +kernel
theorem dJ9_max_7cf53_10 : decode cJ9_max_7cf53 10 = .ok (.ireturn, 1) := by decide +kernel
theorem dJ9_min_7cf53_0 : decode cJ9_min_7cf53 0 = .ok (.iload_n 0, 1) := by decide +kernel
theorem dJ9_min_7cf53_1 : decode cJ9_min_7cf53 1 = .ok (.iload_n 1, 1) := by decide +kernel
theorem dJ9_min_7cf53_2 : decode cJ9_min_7cf53 2 = .ok (.if_icmp .gt 7, 3) := by decide +kernel
theorem dJ9_min_7cf53_5 : decode cJ9_min_7cf53 5 = .ok (.iload_n 0, 1) := by decide +kernel
theorem dJ9_min_7cf53_6 : decode cJ9_min_7cf53 6 = .ok (.goto 4, 3) := by decide +kernel
theorem dJ9_min_7cf53_9 : decode cJ9_min_7cf53 9 = .ok (.iload_n 1, 1) := by decide +kernel
theorem dJ9_min_7cf53_10 : decode cJ9_min_7cf53 10 = .ok (.ireturn, 1) := by decide +kernel
theorem dJ7_fill_53178_0 : decode cJ7_fill_53178 0 = .ok (.iconst 0, 1) := by decide +kernel
theorem dJ7_fill_53178_1 : decode cJ7_fill_53178 1 = .ok (.istore_n 2, 1) := by decide +kernel
theorem dJ7_fill_53178_2 : decode cJ7_fill_53178 2 = .ok (.aload_n 0, 1) := by decide +kernel
theorem dJ7_fill_53178_3 : decode cJ7_fill_53178 3 = .ok (.arraylength, 1) := by decide +kernel
theorem dJ7_fill_53178_4 : decode cJ7_fill_53178 4 = .ok (.istore_n 3, 1) := by decide +kernel
theorem dJ7_fill_53178_5 : decode cJ7_fill_53178 5 = .ok (.iload_n 2, 1) := by decide +kernel
theorem dJ7_fill_53178_6 : decode cJ7_fill_53178 6 = .ok (.iload_n 3, 1) := by decide +kernel
theorem dJ7_fill_53178_7 : decode cJ7_fill_53178 7 = .ok (.if_icmp .ge 13, 3) := by decide +kernel
theorem dJ7_fill_53178_10 : decode cJ7_fill_53178 10 = .ok (.aload_n 0, 1) := by decide +kernel
theorem dJ7_fill_53178_11 : decode cJ7_fill_53178 11 = .ok (.iload_n 2, 1) := by decide +kernel
theorem dJ7_fill_53178_12 : decode cJ7_fill_53178 12 = .ok (.iload_n 1, 1) := by decide +kernel
theorem dJ7_fill_53178_13 : decode cJ7_fill_53178 13 = .ok (.iastore, 1) := by decide +kernel
theorem dJ7_fill_53178_14 : decode cJ7_fill_53178 14 = .ok (.iinc 2 1, 3) := by decide +kernel
theorem dJ7_fill_53178_17 : decode cJ7_fill_53178 17 = .ok (.goto (-12), 3) := by decide +kernel
theorem dJ7_fill_53178_20 : decode cJ7_fill_53178 20 = .ok (.return_, 1) := by decide +kernel
theorem dL_below_0 : decode cL_below 0 = .ok (.iload_n 0, 1) := by decide +kernel
theorem dL_below_1 : decode cL_below 1 = .ok (.ldc 7, 2) := by decide +kernel
theorem dL_below_3 : decode cL_below 3 = .ok (.iand, 1) := by decide +kernel
theorem dL_below_4 : decode cL_below 4 = .ok (.iload_n 1, 1) := by decide +kernel
theorem dL_below_5 : decode cL_below 5 = .ok (.irem, 1) := by decide +kernel
theorem dL_below_6 : decode cL_below 6 = .ok (.ireturn, 1) := by decide +kernel
theorem dL_cell_0 : decode cL_cell 0 = .ok (.iload_n 1, 1) := by decide +kernel
theorem dL_cell_1 : decode cL_cell 1 = .ok (.aload_n 0, 1) := by decide +kernel
theorem dL_cell_2 : decode cL_cell 2 = .ok (.arraylength, 1) := by decide +kernel
theorem dL_cell_3 : decode cL_cell 3 = .ok (.if_icmp .ge 9, 3) := by decide +kernel
theorem dL_cell_6 : decode cL_cell 6 = .ok (.aload_n 0, 1) := by decide +kernel
theorem dL_cell_7 : decode cL_cell 7 = .ok (.iload_n 1, 1) := by decide +kernel
theorem dL_cell_8 : decode cL_cell 8 = .ok (.iaload, 1) := by decide +kernel
theorem dL_cell_9 : decode cL_cell 9 = .ok (.goto 9, 3) := by decide +kernel
theorem dL_cell_12 : decode cL_cell 12 = .ok (.ldc 8, 2) := by decide +kernel
theorem dL_cell_14 : decode cL_cell 14 = .ok (.iload_n 1, 1) := by decide +kernel
theorem dL_cell_15 : decode cL_cell 15 = .ok (.iconst 3, 1) := by decide +kernel
theorem dL_cell_16 : decode cL_cell 16 = .ok (.iadd, 1) := by decide +kernel
theorem dL_cell_17 : decode cL_cell 17 = .ok (.imul, 1) := by decide +kernel
theorem dL_cell_18 : decode cL_cell 18 = .ok (.ireturn, 1) := by decide +kernel
set_option maxRecDepth 20000 in
theorem ggL_act_L_below : GoodIn wsL_act wsL_below := goodIn_r _ [11, 12] (by decide +kernel) (by decide +kernel)
set_option maxRecDepth 20000 in
theorem gL_act_L_below : GoodIn wsL_act (va_wsS RL 15 yL_below wsL_below) := goodIn_app (goodIn_of _ (by decide +kernel)) ggL_act_L_below
set_option maxRecDepth 20000 in
theorem ggL_act_X3_setWater : GoodIn wsL_act wsX3_setWater := goodIn_ca (goodIn_ca (goodIn_r _ [17, 18, 19, 20, 21, 22, 23, 24, 25, 26, 27, 112, 113, 114, 115, 116, 117, 118] (by decide +kernel) (by decide +kernel)) (goodIn_sub (fun _ h => List.mem_cons_of_mem _ (List.mem_append_left _ (List.mem_append_left _ (List.mem_append_right _ h)))) (by decide +kernel))) (goodIn_sub (fun _ h => List.mem_cons_of_mem _ (List.mem_append_left _ (List.mem_append_right _ h))) (by decide +kernel))
set_option maxRecDepth 20000 in
theorem gL_act_X3_setWater : GoodIn wsL_act (wsV RL 25 RX3 yX3_setWater wsX3_setWater) := goodIn_app (goodIn_of _ (by decide +kernel)) ggL_act_X3_setWater
set_option maxRecDepth 20000 in
theorem ggL_act_X3_weir : GoodIn wsL_act wsX3_weir := goodIn_ca (goodIn_ca (goodIn_r _ [31, 20, 21, 32, 33, 22, 34, 24, 25, 26, 27, 35, 36, 37, 38, 39, 40, 41, 42, 43, 44, 45, 112, 113, 114, 115, 116, 117, 118] (by decide +kernel) (by decide +kernel)) (goodIn_sub (fun _ h => List.mem_cons_of_mem _ (List.mem_append_left _ (List.mem_append_right _ h))) (by decide +kernel))) (goodIn_sub (fun _ h => List.mem_cons_of_mem _ (List.mem_append_right _ h)) (by decide +kernel))
set_option maxRecDepth 20000 in
theorem gL_act_X3_weir : GoodIn wsL_act (wsV RL 37 RX3 yX3_weir wsX3_weir) := goodIn_app (goodIn_of _ (by decide +kernel)) ggL_act_X3_weir
set_option maxRecDepth 20000 in
theorem ggL_act_X3_launch : GoodIn wsL_act wsX3_launch := goodIn_ca (goodIn_ca (goodIn_r _ [49, 20, 21, 32, 33, 50, 51, 24, 25, 26, 27, 52, 53, 54, 55, 56, 57, 58, 59, 60, 61, 62, 63, 64, 65, 66, 67, 68, 69, 70, 71, 112, 113, 114, 119, 120, 121, 122, 123, 124, 125, 126, 127, 128, 129, 130, 131, 132, 133] (by decide +kernel) (by decide +kernel)) (goodIn_sub (fun _ h => List.mem_cons_of_mem _ (List.mem_append_left _ (List.mem_append_right _ h))) (by decide +kernel))) (goodIn_sub (fun _ h => List.mem_cons_of_mem _ (List.mem_append_right _ h)) (by decide +kernel))
set_option maxRecDepth 20000 in
theorem gL_act_X3_launch : GoodIn wsL_act (wsV RL 42 RX3 yX3_launch wsX3_launch) := goodIn_app (goodIn_of _ (by decide +kernel)) ggL_act_X3_launch
set_option maxRecDepth 20000 in
theorem ggL_act_X4_more : GoodIn wsL_act wsX4_more := goodIn_r _ [75, 76] (by decide +kernel) (by decide +kernel)
set_option maxRecDepth 20000 in
theorem gL_act_X4_more : GoodIn wsL_act (va_wsS RL 45 yX4_more wsX4_more) := goodIn_app (goodIn_of _ (by decide +kernel)) ggL_act_X4_more
set_option maxRecDepth 20000 in
theorem ggL_act_X3_paddle : GoodIn wsL_act wsX3_paddle := goodIn_ca (goodIn_ca (goodIn_r _ [80, 18, 19, 20, 21, 50, 81, 82, 83, 84, 85, 55, 86, 57, 87, 88, 16, 89, 90, 67, 68, 62, 69, 70, 71, 112, 113, 114, 119, 120, 121, 122, 123, 124, 125, 126, 127, 128, 129, 130, 131, 132, 133] (by decide +kernel) (by decide +kernel)) (goodIn_sub (fun _ h => List.mem_cons_of_mem _ (List.mem_append_left _ (List.mem_append_left _ (List.mem_append_right _ h)))) (by decide +kernel))) (goodIn_sub (fun _ h => List.mem_cons_of_mem _ (List.mem_append_left _ (List.mem_append_right _ h))) (by decide +kernel))
set_option maxRecDepth 20000 in
theorem gL_act_X3_paddle : GoodIn wsL_act (wsV RL 52 RX3 yX3_paddle wsX3_paddle) := goodIn_app (goodIn_of _ (by decide +kernel)) ggL_act_X3_paddle
set_option maxRecDepth 20000 in
theorem ggL_act_X3_tar : GoodIn wsL_act wsX3_tar := goodIn_ca (goodIn_ca (goodIn_r _ [94, 18, 19, 32, 33, 50, 81, 83, 84, 85, 55, 86, 57, 95, 96, 97, 62, 98, 99, 100, 101, 102, 103, 104, 105, 112, 113, 114, 119, 120, 121, 122, 123, 124, 125, 126, 127, 128, 129, 130, 131, 132, 133] (by decide +kernel) (by decide +kernel)) (goodIn_sub (fun _ h => List.mem_cons_of_mem _ (List.mem_append_left _ (List.mem_append_left _ (List.mem_append_right _ h)))) (by decide +kernel))) (goodIn_sub (fun _ h => List.mem_cons_of_mem _ (List.mem_append_right _ h)) (by decide +kernel))
set_option maxRecDepth 20000 in
theorem gL_act_X3_tar : GoodIn wsL_act (wsV RL 56 RX3 yX3_tar wsX3_tar) := goodIn_app (goodIn_of _ (by decide +kernel)) ggL_act_X3_tar
theorem dL_act_0 : decode cL_act 0 = .ok (.aload_n 1, 1) := by decide +kernel
theorem dL_act_1 : decode cL_act 1 = .ok (.getfield 9, 3) := by decide +kernel
theorem dL_act_4 : decode cL_act 4 = .ok (.arraylength, 1) := by decide +kernel
theorem dL_act_5 : decode cL_act 5 = .ok (.ifCond .ne 7, 3) := by decide +kernel
theorem dL_act_8 : decode cL_act 8 = .ok (.iconst (-1), 1) := by decide +kernel
theorem dL_act_9 : decode cL_act 9 = .ok (.goto 14, 3) := by decide +kernel
theorem dL_act_12 : decode cL_act 12 = .ok (.iload_n 2, 1) := by decide +kernel
theorem dL_act_13 : decode cL_act 13 = .ok (.iconst 3, 1) := by decide +kernel
theorem dL_act_14 : decode cL_act 14 = .ok (.ishr, 1) := by decide +kernel
theorem dL_act_15 : decode cL_act 15 = .ok (.aload_n 1, 1) := by decide +kernel
theorem dL_act_16 : decode cL_act 16 = .ok (.getfield 9, 3) := by decide +kernel
theorem dL_act_19 : decode cL_act 19 = .ok (.arraylength, 1) := by decide +kernel
theorem dL_act_20 : decode cL_act 20 = .ok (.invokestatic 15, 3) := by decide +kernel
theorem dL_act_23 : decode cL_act 23 = .ok (.istore_n 3, 1) := by decide +kernel
theorem dL_act_24 : decode cL_act 24 = .ok (.iload_n 2, 1) := by decide +kernel
theorem dL_act_25 : decode cL_act 25 = .ok (.bipush 8, 2) := by decide +kernel
theorem dL_act_27 : decode cL_act 27 = .ok (.invokestatic 15, 3) := by decide +kernel
theorem dL_act_30 : decode cL_act 30 = .ok (.tableswitch 511 0 6 #[42, 100, 230, 385, 385, 385, 385], 42) := by decide +kernel
theorem dL_act_72 : decode cL_act 72 = .ok (.iload_n 2, 1) := by decide +kernel
theorem dL_act_73 : decode cL_act 73 = .ok (.iconst 4, 1) := by decide +kernel
theorem dL_act_74 : decode cL_act 74 = .ok (.ishr, 1) := by decide +kernel
theorem dL_act_75 : decode cL_act 75 = .ok (.iconst 5, 1) := by decide +kernel
theorem dL_act_76 : decode cL_act 76 = .ok (.invokestatic 15, 3) := by decide +kernel
theorem dL_act_79 : decode cL_act 79 = .ok (.istore 5, 2) := by decide +kernel
theorem dL_act_81 : decode cL_act 81 = .ok (.aload_n 1, 1) := by decide +kernel
theorem dL_act_82 : decode cL_act 82 = .ok (.getfield 21, 3) := by decide +kernel
theorem dL_act_85 : decode cL_act 85 = .ok (.iload 5, 2) := by decide +kernel
theorem dL_act_87 : decode cL_act 87 = .ok (.iaload, 1) := by decide +kernel
theorem dL_act_88 : decode cL_act 88 = .ok (.istore 6, 2) := by decide +kernel
theorem dL_act_90 : decode cL_act 90 = .ok (.aload_n 1, 1) := by decide +kernel
theorem dL_act_91 : decode cL_act 91 = .ok (.getfield 21, 3) := by decide +kernel
theorem dL_act_94 : decode cL_act 94 = .ok (.iload 5, 2) := by decide +kernel
theorem dL_act_96 : decode cL_act 96 = .ok (.iload_n 2, 1) := by decide +kernel
theorem dL_act_97 : decode cL_act 97 = .ok (.bipush 6, 2) := by decide +kernel
theorem dL_act_99 : decode cL_act 99 = .ok (.ishr, 1) := by decide +kernel
theorem dL_act_100 : decode cL_act 100 = .ok (.bipush 7, 2) := by decide +kernel
theorem dL_act_102 : decode cL_act 102 = .ok (.invokestatic 15, 3) := by decide +kernel
theorem dL_act_105 : decode cL_act 105 = .ok (.iastore, 1) := by decide +kernel
theorem dL_act_106 : decode cL_act 106 = .ok (.aload_n 0, 1) := by decide +kernel
theorem dL_act_107 : decode cL_act 107 = .ok (.iload 5, 2) := by decide +kernel
theorem dL_act_109 : decode cL_act 109 = .ok (.aload_n 1, 1) := by decide +kernel
theorem dL_act_110 : decode cL_act 110 = .ok (.getfield 21, 3) := by decide +kernel
theorem dL_act_113 : decode cL_act 113 = .ok (.iload 5, 2) := by decide +kernel
theorem dL_act_115 : decode cL_act 115 = .ok (.iaload, 1) := by decide +kernel
theorem dL_act_116 : decode cL_act 116 = .ok (.invokevirtual 25, 3) := by decide +kernel
theorem dL_act_119 : decode cL_act 119 = .ok (.iload 6, 2) := by decide +kernel
theorem dL_act_121 : decode cL_act 121 = .ok (.if_icmp .ne 7, 3) := by decide +kernel
theorem dL_act_124 : decode cL_act 124 = .ok (.iconst 1, 1) := by decide +kernel
theorem dL_act_125 : decode cL_act 125 = .ok (.goto 4, 3) := by decide +kernel
theorem dL_act_128 : decode cL_act 128 = .ok (.iconst 0, 1) := by decide +kernel
theorem dL_act_129 : decode cL_act 129 = .ok (.ireturn, 1) := by decide +kernel
theorem dL_act_130 : decode cL_act 130 = .ok (.iconst 1, 1) := by decide +kernel
theorem dL_act_131 : decode cL_act 131 = .ok (.iload_n 2, 1) := by decide +kernel
theorem dL_act_132 : decode cL_act 132 = .ok (.iconst 5, 1) := by decide +kernel
theorem dL_act_133 : decode cL_act 133 = .ok (.ishr, 1) := by decide +kernel
theorem dL_act_134 : decode cL_act 134 = .ok (.iload_n 2, 1) := by decide +kernel
theorem dL_act_135 : decode cL_act 135 = .ok (.bipush 8, 2) := by decide +kernel
theorem dL_act_137 : decode cL_act 137 = .ok (.ishr, 1) := by decide +kernel
theorem dL_act_138 : decode cL_act 138 = .ok (.iconst 2, 1) := by decide +kernel
theorem dL_act_139 : decode cL_act 139 = .ok (.invokestatic 15, 3) := by decide +kernel
theorem dL_act_142 : decode cL_act 142 = .ok (.ifCond .ne 9, 3) := by decide +kernel
theorem dL_act_145 : decode cL_act 145 = .ok (.sipush 199, 3) := by decide +kernel
theorem dL_act_148 : decode cL_act 148 = .ok (.goto 5, 3) := by decide +kernel
theorem dL_act_151 : decode cL_act 151 = .ok (.bipush 60, 2) := by decide +kernel
theorem dL_act_153 : decode cL_act 153 = .ok (.invokestatic 15, 3) := by decide +kernel
theorem dL_act_156 : decode cL_act 156 = .ok (.iadd, 1) := by decide +kernel
theorem dL_act_157 : decode cL_act 157 = .ok (.istore 5, 2) := by decide +kernel
theorem dL_act_159 : decode cL_act 159 = .ok (.iload_n 2, 1) := by decide +kernel
theorem dL_act_160 : decode cL_act 160 = .ok (.iconst 3, 1) := by decide +kernel
theorem dL_act_161 : decode cL_act 161 = .ok (.ishr, 1) := by decide +kernel
theorem dL_act_162 : decode cL_act 162 = .ok (.iconst 5, 1) := by decide +kernel
theorem dL_act_163 : decode cL_act 163 = .ok (.invokestatic 15, 3) := by decide +kernel
theorem dL_act_166 : decode cL_act 166 = .ok (.istore 6, 2) := by decide +kernel
theorem dL_act_168 : decode cL_act 168 = .ok (.aload_n 1, 1) := by decide +kernel
theorem dL_act_169 : decode cL_act 169 = .ok (.getfield 30, 3) := by decide +kernel
theorem dL_act_172 : decode cL_act 172 = .ok (.bipush 6, 2) := by decide +kernel
theorem dL_act_174 : decode cL_act 174 = .ok (.if_icmp .ge 17, 3) := by decide +kernel
theorem dL_act_177 : decode cL_act 177 = .ok (.aload_n 1, 1) := by decide +kernel
theorem dL_act_178 : decode cL_act 178 = .ok (.getfield 34, 3) := by decide +kernel
theorem dL_act_181 : decode cL_act 181 = .ok (.iload 5, 2) := by decide +kernel
theorem dL_act_183 : decode cL_act 183 = .ok (.iaload, 1) := by decide +kernel
theorem dL_act_184 : decode cL_act 184 = .ok (.ifCond .ge 7, 3) := by decide +kernel
theorem dL_act_187 : decode cL_act 187 = .ok (.iconst 1, 1) := by decide +kernel
theorem dL_act_188 : decode cL_act 188 = .ok (.goto 4, 3) := by decide +kernel
theorem dL_act_191 : decode cL_act 191 = .ok (.iconst 0, 1) := by decide +kernel
theorem dL_act_192 : decode cL_act 192 = .ok (.istore 7, 2) := by decide +kernel
theorem dL_act_194 : decode cL_act 194 = .ok (.aload_n 0, 1) := by decide +kernel
theorem dL_act_195 : decode cL_act 195 = .ok (.iload 5, 2) := by decide +kernel
theorem dL_act_197 : decode cL_act 197 = .ok (.iload 6, 2) := by decide +kernel
theorem dL_act_199 : decode cL_act 199 = .ok (.invokevirtual 37, 3) := by decide +kernel
theorem dL_act_202 : decode cL_act 202 = .ok (.istore 4, 2) := by decide +kernel
theorem dL_act_204 : decode cL_act 204 = .ok (.goto 8, 3) := by decide +kernel
theorem dL_act_207 : decode cL_act 207 = .ok (.astore 8, 2) := by decide +kernel
theorem dL_act_209 : decode cL_act 209 = .ok (.iconst (-1), 1) := by decide +kernel
theorem dL_act_210 : decode cL_act 210 = .ok (.istore 4, 2) := by decide +kernel
theorem dL_act_212 : decode cL_act 212 = .ok (.iload 7, 2) := by decide +kernel
theorem dL_act_214 : decode cL_act 214 = .ok (.ifCond .eq 22, 3) := by decide +kernel
theorem dL_act_217 : decode cL_act 217 = .ok (.aload_n 1, 1) := by decide +kernel
theorem dL_act_218 : decode cL_act 218 = .ok (.getfield 34, 3) := by decide +kernel
theorem dL_act_221 : decode cL_act 221 = .ok (.iload 5, 2) := by decide +kernel
theorem dL_act_223 : decode cL_act 223 = .ok (.iload 6, 2) := by decide +kernel
theorem dL_act_225 : decode cL_act 225 = .ok (.iastore, 1) := by decide +kernel
theorem dL_act_226 : decode cL_act 226 = .ok (.aload_n 1, 1) := by decide +kernel
theorem dL_act_227 : decode cL_act 227 = .ok (.dup, 1) := by decide +kernel
theorem dL_act_228 : decode cL_act 228 = .ok (.getfield 30, 3) := by decide +kernel
theorem dL_act_231 : decode cL_act 231 = .ok (.iconst 1, 1) := by decide +kernel
theorem dL_act_232 : decode cL_act 232 = .ok (.iadd, 1) := by decide +kernel
theorem dL_act_233 : decode cL_act 233 = .ok (.putfield 30, 3) := by decide +kernel
theorem dL_act_236 : decode cL_act 236 = .ok (.iload 4, 2) := by decide +kernel
theorem dL_act_238 : decode cL_act 238 = .ok (.iload 7, 2) := by decide +kernel
theorem dL_act_240 : decode cL_act 240 = .ok (.ifCond .eq 10, 3) := by decide +kernel
theorem dL_act_243 : decode cL_act 243 = .ok (.aload_n 1, 1) := by decide +kernel
theorem dL_act_244 : decode cL_act 244 = .ok (.getfield 30, 3) := by decide +kernel
theorem dL_act_247 : decode cL_act 247 = .ok (.goto 4, 3) := by decide +kernel
theorem dL_act_250 : decode cL_act 250 = .ok (.iconst (-1), 1) := by decide +kernel
theorem dL_act_251 : decode cL_act 251 = .ok (.if_icmp .ne 7, 3) := by decide +kernel
theorem dL_act_254 : decode cL_act 254 = .ok (.iconst 1, 1) := by decide +kernel
theorem dL_act_255 : decode cL_act 255 = .ok (.goto 4, 3) := by decide +kernel
theorem dL_act_258 : decode cL_act 258 = .ok (.iconst 0, 1) := by decide +kernel
theorem dL_act_259 : decode cL_act 259 = .ok (.ireturn, 1) := by decide +kernel
theorem dL_act_260 : decode cL_act 260 = .ok (.bipush 9, 2) := by decide +kernel
theorem dL_act_262 : decode cL_act 262 = .ok (.newarray .int, 2) := by decide +kernel
theorem dL_act_264 : decode cL_act 264 = .ok (.dup, 1) := by decide +kernel
theorem dL_act_265 : decode cL_act 265 = .ok (.iconst 0, 1) := by decide +kernel
theorem dL_act_266 : decode cL_act 266 = .ok (.iconst 0, 1) := by decide +kernel
theorem dL_act_267 : decode cL_act 267 = .ok (.iastore, 1) := by decide +kernel
theorem dL_act_268 : decode cL_act 268 = .ok (.dup, 1) := by decide +kernel
theorem dL_act_269 : decode cL_act 269 = .ok (.iconst 1, 1) := by decide +kernel
theorem dL_act_270 : decode cL_act 270 = .ok (.iload_n 2, 1) := by decide +kernel
theorem dL_act_271 : decode cL_act 271 = .ok (.iconst 4, 1) := by decide +kernel
theorem dL_act_272 : decode cL_act 272 = .ok (.ishr, 1) := by decide +kernel
theorem dL_act_273 : decode cL_act 273 = .ok (.iconst 5, 1) := by decide +kernel
theorem dL_act_274 : decode cL_act 274 = .ok (.invokestatic 15, 3) := by decide +kernel
theorem dL_act_277 : decode cL_act 277 = .ok (.iastore, 1) := by decide +kernel
theorem dL_act_278 : decode cL_act 278 = .ok (.dup, 1) := by decide +kernel
theorem dL_act_279 : decode cL_act 279 = .ok (.iconst 2, 1) := by decide +kernel
theorem dL_act_280 : decode cL_act 280 = .ok (.iconst 0, 1) := by decide +kernel
theorem dL_act_281 : decode cL_act 281 = .ok (.iastore, 1) := by decide +kernel
theorem dL_act_282 : decode cL_act 282 = .ok (.dup, 1) := by decide +kernel
theorem dL_act_283 : decode cL_act 283 = .ok (.iconst 3, 1) := by decide +kernel
theorem dL_act_284 : decode cL_act 284 = .ok (.iconst 0, 1) := by decide +kernel
theorem dL_act_285 : decode cL_act 285 = .ok (.iastore, 1) := by decide +kernel
theorem dL_act_286 : decode cL_act 286 = .ok (.dup, 1) := by decide +kernel
theorem dL_act_287 : decode cL_act 287 = .ok (.iconst 4, 1) := by decide +kernel
theorem dL_act_288 : decode cL_act 288 = .ok (.iconst 0, 1) := by decide +kernel
theorem dL_act_289 : decode cL_act 289 = .ok (.iastore, 1) := by decide +kernel
theorem dL_act_290 : decode cL_act 290 = .ok (.dup, 1) := by decide +kernel
theorem dL_act_291 : decode cL_act 291 = .ok (.iconst 5, 1) := by decide +kernel
theorem dL_act_292 : decode cL_act 292 = .ok (.iconst (-1), 1) := by decide +kernel
theorem dL_act_293 : decode cL_act 293 = .ok (.iastore, 1) := by decide +kernel
theorem dL_act_294 : decode cL_act 294 = .ok (.dup, 1) := by decide +kernel
theorem dL_act_295 : decode cL_act 295 = .ok (.bipush 6, 2) := by decide +kernel
theorem dL_act_297 : decode cL_act 297 = .ok (.iconst 0, 1) := by decide +kernel
theorem dL_act_298 : decode cL_act 298 = .ok (.iastore, 1) := by decide +kernel
theorem dL_act_299 : decode cL_act 299 = .ok (.dup, 1) := by decide +kernel
theorem dL_act_300 : decode cL_act 300 = .ok (.bipush 7, 2) := by decide +kernel
theorem dL_act_302 : decode cL_act 302 = .ok (.iconst 0, 1) := by decide +kernel
theorem dL_act_303 : decode cL_act 303 = .ok (.iastore, 1) := by decide +kernel
theorem dL_act_304 : decode cL_act 304 = .ok (.dup, 1) := by decide +kernel
theorem dL_act_305 : decode cL_act 305 = .ok (.bipush 8, 2) := by decide +kernel
theorem dL_act_307 : decode cL_act 307 = .ok (.iconst 1, 1) := by decide +kernel
theorem dL_act_308 : decode cL_act 308 = .ok (.iload_n 2, 1) := by decide +kernel
theorem dL_act_309 : decode cL_act 309 = .ok (.bipush 7, 2) := by decide +kernel
theorem dL_act_311 : decode cL_act 311 = .ok (.ishr, 1) := by decide +kernel
theorem dL_act_312 : decode cL_act 312 = .ok (.bipush 8, 2) := by decide +kernel
theorem dL_act_314 : decode cL_act 314 = .ok (.invokestatic 15, 3) := by decide +kernel
theorem dL_act_317 : decode cL_act 317 = .ok (.iadd, 1) := by decide +kernel
theorem dL_act_318 : decode cL_act 318 = .ok (.iastore, 1) := by decide +kernel
theorem dL_act_319 : decode cL_act 319 = .ok (.astore 5, 2) := by decide +kernel
theorem dL_act_321 : decode cL_act 321 = .ok (.aload_n 1, 1) := by decide +kernel
theorem dL_act_322 : decode cL_act 322 = .ok (.getfield 9, 3) := by decide +kernel
theorem dL_act_325 : decode cL_act 325 = .ok (.arraylength, 1) := by decide +kernel
theorem dL_act_326 : decode cL_act 326 = .ok (.istore 6, 2) := by decide +kernel
theorem dL_act_328 : decode cL_act 328 = .ok (.aload_n 0, 1) := by decide +kernel
theorem dL_act_329 : decode cL_act 329 = .ok (.aload 5, 2) := by decide +kernel
theorem dL_act_331 : decode cL_act 331 = .ok (.iconst 1, 1) := by decide +kernel
theorem dL_act_332 : decode cL_act 332 = .ok (.iaload, 1) := by decide +kernel
theorem dL_act_333 : decode cL_act 333 = .ok (.aload 5, 2) := by decide +kernel
theorem dL_act_335 : decode cL_act 335 = .ok (.bipush 8, 2) := by decide +kernel
theorem dL_act_337 : decode cL_act 337 = .ok (.iaload, 1) := by decide +kernel
theorem dL_act_338 : decode cL_act 338 = .ok (.invokevirtual 42, 3) := by decide +kernel
theorem dL_act_341 : decode cL_act 341 = .ok (.istore 4, 2) := by decide +kernel
theorem dL_act_343 : decode cL_act 343 = .ok (.goto 8, 3) := by decide +kernel
theorem dL_act_346 : decode cL_act 346 = .ok (.astore 7, 2) := by decide +kernel
theorem dL_act_348 : decode cL_act 348 = .ok (.iconst (-1), 1) := by decide +kernel
theorem dL_act_349 : decode cL_act 349 = .ok (.istore 4, 2) := by decide +kernel
theorem dL_act_351 : decode cL_act 351 = .ok (.iload 4, 2) := by decide +kernel
theorem dL_act_353 : decode cL_act 353 = .ok (.iload 6, 2) := by decide +kernel
theorem dL_act_355 : decode cL_act 355 = .ok (.bipush 6, 2) := by decide +kernel
theorem dL_act_357 : decode cL_act 357 = .ok (.if_icmp .ge 8, 3) := by decide +kernel
theorem dL_act_360 : decode cL_act 360 = .ok (.iload 6, 2) := by decide +kernel
theorem dL_act_362 : decode cL_act 362 = .ok (.goto 4, 3) := by decide +kernel
theorem dL_act_365 : decode cL_act 365 = .ok (.iconst (-1), 1) := by decide +kernel
theorem dL_act_366 : decode cL_act 366 = .ok (.if_icmp .eq 5, 3) := by decide +kernel
theorem dL_act_369 : decode cL_act 369 = .ok (.iconst 0, 1) := by decide +kernel
theorem dL_act_370 : decode cL_act 370 = .ok (.ireturn, 1) := by decide +kernel
theorem dL_act_371 : decode cL_act 371 = .ok (.iload 4, 2) := by decide +kernel
theorem dL_act_373 : decode cL_act 373 = .ok (.ifCond .ge 5, 3) := by decide +kernel
theorem dL_act_376 : decode cL_act 376 = .ok (.iconst 1, 1) := by decide +kernel
theorem dL_act_377 : decode cL_act 377 = .ok (.ireturn, 1) := by decide +kernel
theorem dL_act_378 : decode cL_act 378 = .ok (.aload_n 1, 1) := by decide +kernel
theorem dL_act_379 : decode cL_act 379 = .ok (.aload_n 1, 1) := by decide +kernel
theorem dL_act_380 : decode cL_act 380 = .ok (.getfield 9, 3) := by decide +kernel
theorem dL_act_383 : decode cL_act 383 = .ok (.aload 5, 2) := by decide +kernel
theorem dL_act_385 : decode cL_act 385 = .ok (.invokestatic 45, 3) := by decide +kernel
theorem dL_act_388 : decode cL_act 388 = .ok (.putfield 9, 3) := by decide +kernel
theorem dL_act_391 : decode cL_act 391 = .ok (.iconst 1, 1) := by decide +kernel
theorem dL_act_392 : decode cL_act 392 = .ok (.newarray .int, 2) := by decide +kernel
theorem dL_act_394 : decode cL_act 394 = .ok (.dup, 1) := by decide +kernel
theorem dL_act_395 : decode cL_act 395 = .ok (.iconst 0, 1) := by decide +kernel
theorem dL_act_396 : decode cL_act 396 = .ok (.iconst 3, 1) := by decide +kernel
theorem dL_act_397 : decode cL_act 397 = .ok (.iastore, 1) := by decide +kernel
theorem dL_act_398 : decode cL_act 398 = .ok (.astore 7, 2) := by decide +kernel
theorem dL_act_400 : decode cL_act 400 = .ok (.aload_n 1, 1) := by decide +kernel
theorem dL_act_401 : decode cL_act 401 = .ok (.aload_n 1, 1) := by decide +kernel
theorem dL_act_402 : decode cL_act 402 = .ok (.getfield 49, 3) := by decide +kernel
theorem dL_act_405 : decode cL_act 405 = .ok (.aload 7, 2) := by decide +kernel
theorem dL_act_407 : decode cL_act 407 = .ok (.invokestatic 45, 3) := by decide +kernel
theorem dL_act_410 : decode cL_act 410 = .ok (.putfield 49, 3) := by decide +kernel
theorem dL_act_413 : decode cL_act 413 = .ok (.iconst 1, 1) := by decide +kernel
theorem dL_act_414 : decode cL_act 414 = .ok (.ireturn, 1) := by decide +kernel
theorem dL_act_415 : decode cL_act 415 = .ok (.iload_n 3, 1) := by decide +kernel
theorem dL_act_416 : decode cL_act 416 = .ok (.ifCond .ge 5, 3) := by decide +kernel
theorem dL_act_419 : decode cL_act 419 = .ok (.iconst 1, 1) := by decide +kernel
theorem dL_act_420 : decode cL_act 420 = .ok (.ireturn, 1) := by decide +kernel
theorem dL_act_421 : decode cL_act 421 = .ok (.iconst 1, 1) := by decide +kernel
theorem dL_act_422 : decode cL_act 422 = .ok (.iload_n 2, 1) := by decide +kernel
theorem dL_act_423 : decode cL_act 423 = .ok (.iconst 5, 1) := by decide +kernel
theorem dL_act_424 : decode cL_act 424 = .ok (.ishr, 1) := by decide +kernel
theorem dL_act_425 : decode cL_act 425 = .ok (.bipush 6, 2) := by decide +kernel
theorem dL_act_427 : decode cL_act 427 = .ok (.invokestatic 15, 3) := by decide +kernel
theorem dL_act_430 : decode cL_act 430 = .ok (.iadd, 1) := by decide +kernel
theorem dL_act_431 : decode cL_act 431 = .ok (.newarray .int, 2) := by decide +kernel
theorem dL_act_433 : decode cL_act 433 = .ok (.astore 5, 2) := by decide +kernel
theorem dL_act_435 : decode cL_act 435 = .ok (.iconst 0, 1) := by decide +kernel
theorem dL_act_436 : decode cL_act 436 = .ok (.istore 6, 2) := by decide +kernel
theorem dL_act_438 : decode cL_act 438 = .ok (.iconst 0, 1) := by decide +kernel
theorem dL_act_439 : decode cL_act 439 = .ok (.istore 7, 2) := by decide +kernel
theorem dL_act_441 : decode cL_act 441 = .ok (.iload 7, 2) := by decide +kernel
theorem dL_act_443 : decode cL_act 443 = .ok (.aload 5, 2) := by decide +kernel
theorem dL_act_445 : decode cL_act 445 = .ok (.arraylength, 1) := by decide +kernel
theorem dL_act_446 : decode cL_act 446 = .ok (.if_icmp .ge 57, 3) := by decide +kernel
theorem dL_act_449 : decode cL_act 449 = .ok (.aload 5, 2) := by decide +kernel
theorem dL_act_451 : decode cL_act 451 = .ok (.iload 7, 2) := by decide +kernel
theorem dL_act_453 : decode cL_act 453 = .ok (.iload_n 2, 1) := by decide +kernel
theorem dL_act_454 : decode cL_act 454 = .ok (.bipush 7, 2) := by decide +kernel
theorem dL_act_456 : decode cL_act 456 = .ok (.iload 7, 2) := by decide +kernel
theorem dL_act_458 : decode cL_act 458 = .ok (.iadd, 1) := by decide +kernel
theorem dL_act_459 : decode cL_act 459 = .ok (.ishr, 1) := by decide +kernel
theorem dL_act_460 : decode cL_act 460 = .ok (.iconst 3, 1) := by decide +kernel
theorem dL_act_461 : decode cL_act 461 = .ok (.invokestatic 15, 3) := by decide +kernel
theorem dL_act_464 : decode cL_act 464 = .ok (.ifCond .ne 7, 3) := by decide +kernel
theorem dL_act_467 : decode cL_act 467 = .ok (.iconst 3, 1) := by decide +kernel
theorem dL_act_468 : decode cL_act 468 = .ok (.goto 15, 3) := by decide +kernel
theorem dL_act_471 : decode cL_act 471 = .ok (.iload_n 2, 1) := by decide +kernel
theorem dL_act_472 : decode cL_act 472 = .ok (.iconst 4, 1) := by decide +kernel
theorem dL_act_473 : decode cL_act 473 = .ok (.ishr, 1) := by decide +kernel
theorem dL_act_474 : decode cL_act 474 = .ok (.iconst 3, 1) := by decide +kernel
theorem dL_act_475 : decode cL_act 475 = .ok (.iload 7, 2) := by decide +kernel
theorem dL_act_477 : decode cL_act 477 = .ok (.imul, 1) := by decide +kernel
theorem dL_act_478 : decode cL_act 478 = .ok (.iadd, 1) := by decide +kernel
theorem dL_act_479 : decode cL_act 479 = .ok (.iconst 4, 1) := by decide +kernel
theorem dL_act_480 : decode cL_act 480 = .ok (.invokestatic 15, 3) := by decide +kernel
theorem dL_act_483 : decode cL_act 483 = .ok (.iastore, 1) := by decide +kernel
theorem dL_act_484 : decode cL_act 484 = .ok (.bipush 10, 2) := by decide +kernel
theorem dL_act_486 : decode cL_act 486 = .ok (.iload 6, 2) := by decide +kernel
theorem dL_act_488 : decode cL_act 488 = .ok (.imul, 1) := by decide +kernel
theorem dL_act_489 : decode cL_act 489 = .ok (.aload 5, 2) := by decide +kernel
theorem dL_act_491 : decode cL_act 491 = .ok (.iload 7, 2) := by decide +kernel
theorem dL_act_493 : decode cL_act 493 = .ok (.iaload, 1) := by decide +kernel
theorem dL_act_494 : decode cL_act 494 = .ok (.iadd, 1) := by decide +kernel
theorem dL_act_495 : decode cL_act 495 = .ok (.istore 6, 2) := by decide +kernel
theorem dL_act_497 : decode cL_act 497 = .ok (.iinc 7 1, 3) := by decide +kernel
theorem dL_act_500 : decode cL_act 500 = .ok (.goto (-59), 3) := by decide +kernel
theorem dL_act_503 : decode cL_act 503 = .ok (.aload_n 1, 1) := by decide +kernel
theorem dL_act_504 : decode cL_act 504 = .ok (.getfield 49, 3) := by decide +kernel
theorem dL_act_507 : decode cL_act 507 = .ok (.iload_n 3, 1) := by decide +kernel
theorem dL_act_508 : decode cL_act 508 = .ok (.aaload, 1) := by decide +kernel
theorem dL_act_509 : decode cL_act 509 = .ok (.arraylength, 1) := by decide +kernel
theorem dL_act_510 : decode cL_act 510 = .ok (.istore 7, 2) := by decide +kernel
theorem dL_act_512 : decode cL_act 512 = .ok (.aload_n 1, 1) := by decide +kernel
theorem dL_act_513 : decode cL_act 513 = .ok (.getfield 49, 3) := by decide +kernel
theorem dL_act_516 : decode cL_act 516 = .ok (.iload_n 3, 1) := by decide +kernel
theorem dL_act_517 : decode cL_act 517 = .ok (.aload 5, 2) := by decide +kernel
theorem dL_act_519 : decode cL_act 519 = .ok (.aastore, 1) := by decide +kernel
theorem dL_act_520 : decode cL_act 520 = .ok (.aload_n 0, 1) := by decide +kernel
theorem dL_act_521 : decode cL_act 521 = .ok (.iload_n 3, 1) := by decide +kernel
theorem dL_act_522 : decode cL_act 522 = .ok (.aload 5, 2) := by decide +kernel
theorem dL_act_524 : decode cL_act 524 = .ok (.arraylength, 1) := by decide +kernel
theorem dL_act_525 : decode cL_act 525 = .ok (.iload 6, 2) := by decide +kernel
theorem dL_act_527 : decode cL_act 527 = .ok (.invokevirtual 52, 3) := by decide +kernel
theorem dL_act_530 : decode cL_act 530 = .ok (.iload 7, 2) := by decide +kernel
theorem dL_act_532 : decode cL_act 532 = .ok (.if_icmp .ne 7, 3) := by decide +kernel
theorem dL_act_535 : decode cL_act 535 = .ok (.iconst 1, 1) := by decide +kernel
theorem dL_act_536 : decode cL_act 536 = .ok (.goto 4, 3) := by decide +kernel
theorem dL_act_539 : decode cL_act 539 = .ok (.iconst 0, 1) := by decide +kernel
theorem dL_act_540 : decode cL_act 540 = .ok (.ireturn, 1) := by decide +kernel
theorem dL_act_541 : decode cL_act 541 = .ok (.iload_n 3, 1) := by decide +kernel
theorem dL_act_542 : decode cL_act 542 = .ok (.ifCond .lt 14, 3) := by decide +kernel
theorem dL_act_545 : decode cL_act 545 = .ok (.iload_n 2, 1) := by decide +kernel
theorem dL_act_546 : decode cL_act 546 = .ok (.bipush 6, 2) := by decide +kernel
theorem dL_act_548 : decode cL_act 548 = .ok (.ishr, 1) := by decide +kernel
theorem dL_act_549 : decode cL_act 549 = .ok (.iconst 2, 1) := by decide +kernel
theorem dL_act_550 : decode cL_act 550 = .ok (.invokestatic 15, 3) := by decide +kernel
theorem dL_act_553 : decode cL_act 553 = .ok (.ifCond .ne 5, 3) := by decide +kernel
theorem dL_act_556 : decode cL_act 556 = .ok (.iconst 1, 1) := by decide +kernel
theorem dL_act_557 : decode cL_act 557 = .ok (.ireturn, 1) := by decide +kernel
theorem dL_act_558 : decode cL_act 558 = .ok (.aload_n 1, 1) := by decide +kernel
theorem dL_act_559 : decode cL_act 559 = .ok (.getfield 9, 3) := by decide +kernel
theorem dL_act_562 : decode cL_act 562 = .ok (.iload_n 3, 1) := by decide +kernel
theorem dL_act_563 : decode cL_act 563 = .ok (.aaload, 1) := by decide +kernel
theorem dL_act_564 : decode cL_act 564 = .ok (.astore 5, 2) := by decide +kernel
theorem dL_act_566 : decode cL_act 566 = .ok (.aload 5, 2) := by decide +kernel
theorem dL_act_568 : decode cL_act 568 = .ok (.iconst 5, 1) := by decide +kernel
theorem dL_act_569 : decode cL_act 569 = .ok (.iaload, 1) := by decide +kernel
theorem dL_act_570 : decode cL_act 570 = .ok (.ifCond .ge 10, 3) := by decide +kernel
theorem dL_act_573 : decode cL_act 573 = .ok (.aload 5, 2) := by decide +kernel
theorem dL_act_575 : decode cL_act 575 = .ok (.iconst 3, 1) := by decide +kernel
theorem dL_act_576 : decode cL_act 576 = .ok (.iaload, 1) := by decide +kernel
theorem dL_act_577 : decode cL_act 577 = .ok (.goto 4, 3) := by decide +kernel
theorem dL_act_580 : decode cL_act 580 = .ok (.iconst (-1), 1) := by decide +kernel
theorem dL_act_581 : decode cL_act 581 = .ok (.istore 6, 2) := by decide +kernel
theorem dL_act_583 : decode cL_act 583 = .ok (.aload 5, 2) := by decide +kernel
theorem dL_act_585 : decode cL_act 585 = .ok (.iconst 5, 1) := by decide +kernel
theorem dL_act_586 : decode cL_act 586 = .ok (.iaload, 1) := by decide +kernel
theorem dL_act_587 : decode cL_act 587 = .ok (.ifCond .ge 16, 3) := by decide +kernel
theorem dL_act_590 : decode cL_act 590 = .ok (.aload 5, 2) := by decide +kernel
theorem dL_act_592 : decode cL_act 592 = .ok (.iconst 3, 1) := by decide +kernel
theorem dL_act_593 : decode cL_act 593 = .ok (.iconst 0, 1) := by decide +kernel
theorem dL_act_594 : decode cL_act 594 = .ok (.iastore, 1) := by decide +kernel
theorem dL_act_595 : decode cL_act 595 = .ok (.aload 5, 2) := by decide +kernel
theorem dL_act_597 : decode cL_act 597 = .ok (.iconst 4, 1) := by decide +kernel
theorem dL_act_598 : decode cL_act 598 = .ok (.dup2, 1) := by decide +kernel
theorem dL_act_599 : decode cL_act 599 = .ok (.iaload, 1) := by decide +kernel
theorem dL_act_600 : decode cL_act 600 = .ok (.iconst 4, 1) := by decide +kernel
theorem dL_act_601 : decode cL_act 601 = .ok (.iadd, 1) := by decide +kernel
theorem dL_act_602 : decode cL_act 602 = .ok (.iastore, 1) := by decide +kernel
theorem dL_act_603 : decode cL_act 603 = .ok (.aload_n 0, 1) := by decide +kernel
theorem dL_act_604 : decode cL_act 604 = .ok (.iload_n 3, 1) := by decide +kernel
theorem dL_act_605 : decode cL_act 605 = .ok (.invokevirtual 56, 3) := by decide +kernel
theorem dL_act_608 : decode cL_act 608 = .ok (.istore 4, 2) := by decide +kernel
theorem dL_act_610 : decode cL_act 610 = .ok (.goto 8, 3) := by decide +kernel
theorem dL_act_613 : decode cL_act 613 = .ok (.astore 7, 2) := by decide +kernel
theorem dL_act_615 : decode cL_act 615 = .ok (.iconst (-1), 1) := by decide +kernel
theorem dL_act_616 : decode cL_act 616 = .ok (.istore 4, 2) := by decide +kernel
theorem dL_act_618 : decode cL_act 618 = .ok (.iload 4, 2) := by decide +kernel
theorem dL_act_620 : decode cL_act 620 = .ok (.iload 6, 2) := by decide +kernel
theorem dL_act_622 : decode cL_act 622 = .ok (.if_icmp .ne 7, 3) := by decide +kernel
theorem dL_act_625 : decode cL_act 625 = .ok (.iconst 1, 1) := by decide +kernel
theorem dL_act_626 : decode cL_act 626 = .ok (.goto 4, 3) := by decide +kernel
theorem dL_act_629 : decode cL_act 629 = .ok (.iconst 0, 1) := by decide +kernel
theorem dL_act_630 : decode cL_act 630 = .ok (.ireturn, 1) := by decide +kernel
