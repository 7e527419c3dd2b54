set_option maxRecDepth 20000 in
theorem ggL_build_X4_init : GoodIn wsL_build wsX4_init := goodIn_r _ [6, 7, 8, 9, 10, 11, 12, 13, 14, 15, 16, 17, 18, 19, 207, 208, 209, 210, 211, 212] (by decide +kernel) (by decide +kernel)
set_option maxRecDepth 20000 in
theorem gL_build_X4_init : GoodIn wsL_build (wsX4_init) := ggL_build_X4_init
set_option maxRecDepth 20000 in
theorem ggL_build_L_cell : GoodIn wsL_build wsL_cell := goodIn_r _ [23, 24] (by decide +kernel) (by decide +kernel)
set_option maxRecDepth 20000 in
theorem gL_build_L_cell : GoodIn wsL_build (va_wsS RL 61 yL_cell wsL_cell) := goodIn_app (goodIn_of _ (by decide +kernel)) ggL_build_L_cell
set_option maxRecDepth 20000 in
theorem ggL_build_L_below : GoodIn wsL_build wsL_below := goodIn_r _ [27, 28] (by decide +kernel) (by decide +kernel)
set_option maxRecDepth 20000 in
theorem gL_build_L_below : GoodIn wsL_build (va_wsS RL 15 yL_below wsL_below) := goodIn_app (goodIn_of _ (by decide +kernel)) ggL_build_L_below
set_option maxRecDepth 20000 in
theorem ggL_build_L_act : GoodIn wsL_build wsL_act := goodIn_ca (goodIn_ca (goodIn_ca (goodIn_r _ [31, 32, 33, 34, 35, 36, 10, 37, 25, 26, 22, 27, 28, 38, 39, 40, 41, 42, 43, 44, 45, 46, 47, 48, 49, 50, 51, 52, 53, 54, 55, 56, 57, 58, 59, 60, 61, 62, 63, 64, 65, 66, 67, 68, 69, 70, 71, 72, 73, 74, 75, 76, 77, 78, 79, 80, 81, 82, 83, 84, 85, 86, 87, 88, 89, 90, 91, 92, 93, 94, 95, 96, 97, 98, 3, 99, 13, 100, 101, 102, 103, 104, 105, 106, 107, 108, 109, 110, 111, 112, 113, 114, 115, 116, 117, 118, 119, 120, 121, 122, 123, 124, 125, 126, 127, 128, 207, 208, 209, 210, 211, 212, 213, 214, 215, 216, 217, 218, 219, 220, 221, 222, 223, 224, 225, 226, 227, 228, 229, 230, 231, 232, 233, 234] rfl (by decide +kernel)) (goodIn_sub (fun _ h => List.mem_cons_of_mem _ (List.mem_append_left _ (List.mem_append_left _ (List.mem_append_right _ h)))) (by decide +kernel))) (goodIn_sub (fun _ h => List.mem_cons_of_mem _ (List.mem_append_left _ (List.mem_append_right _ h))) (by decide +kernel))) (goodIn_sub (fun _ h => List.mem_cons_of_mem _ (List.mem_append_right _ h)) (by decide +kernel))
set_option maxRecDepth 20000 in
theorem gL_build_L_act : GoodIn wsL_build (va_wsS RL 65 yL_act wsL_act) := goodIn_app (goodIn_of _ (by decide +kernel)) ggL_build_L_act
set_option maxRecDepth 20000 in
theorem ggL_build_X3_go : GoodIn wsL_build wsX3_go := goodIn_ca (goodIn_r _ [132, 45, 46, 75, 47, 133, 134, 135, 80, 136, 82, 83, 137, 119, 120, 87, 121, 122, 138, 139, 140, 141, 142, 143, 144, 145, 146, 147, 148, 149, 150, 151, 152, 96, 95, 153, 154, 155, 156, 157, 158, 159, 160, 161, 162, 127, 163, 164, 165, 166, 167, 168, 169, 170, 90, 171, 172, 173, 174, 89, 128, 175, 50, 51, 52, 176, 177, 178, 179, 180, 181, 182, 183, 184, 185, 186, 187, 188, 189, 190, 191, 64, 65, 70, 192, 193, 194, 195, 213, 214, 215, 220, 221, 222, 223, 224, 225, 226, 227, 228, 229, 230, 231, 232, 233, 234, 216, 217, 218, 219] (by decide +kernel) (by decide +kernel)) (goodIn_sub (fun _ h => List.mem_cons_of_mem _ (List.mem_append_left _ (List.mem_append_right _ h))) (by decide +kernel))
set_option maxRecDepth 20000 in
theorem gL_build_X3_go : GoodIn wsL_build (wsV RL 69 RX3 yX3_go wsX3_go) := goodIn_app (goodIn_of _ (by decide +kernel)) ggL_build_X3_go
set_option maxRecDepth 20000 in
theorem ggL_build_X4_go_ : GoodIn wsL_build wsX4_go_ := goodIn_r _ [199, 14, 200, 201, 202, 203, 3, 204, 15, 205, 181, 165, 182, 11, 12, 206, 185, 186, 207, 208, 209, 210, 211, 212] (by decide +kernel) (by decide +kernel)
set_option maxRecDepth 20000 in
theorem gL_build_X4_go_ : GoodIn wsL_build (wsV RL 72 RX4 yX4_go_ wsX4_go_) := goodIn_app (goodIn_of _ (by decide +kernel)) ggL_build_X4_go_
theorem dL_build_0 : decode cL_build 0 = .ok (.new 10, 3) := by decide +kernel
theorem dL_build_3 : decode cL_build 3 = .ok (.dup, 1) := by decide +kernel
theorem dL_build_4 : decode cL_build 4 = .ok (.invokespecial 60, 3) := by decide +kernel
theorem dL_build_7 : decode cL_build 7 = .ok (.astore_n 2, 1) := by decide +kernel
theorem dL_build_8 : decode cL_build 8 = .ok (.iconst 0, 1) := by decide +kernel
theorem dL_build_9 : decode cL_build 9 = .ok (.istore_n 3, 1) := by decide +kernel
theorem dL_build_10 : decode cL_build 10 = .ok (.iload_n 3, 1) := by decide +kernel
theorem dL_build_11 : decode cL_build 11 = .ok (.bipush 26, 2) := by decide +kernel
theorem dL_build_13 : decode cL_build 13 = .ok (.if_icmp .ge 118, 3) := by decide +kernel
theorem dL_build_16 : decode cL_build 16 = .ok (.aload_n 1, 1) := by decide +kernel
theorem dL_build_17 : decode cL_build 17 = .ok (.iload_n 3, 1) := by decide +kernel
theorem dL_build_18 : decode cL_build 18 = .ok (.bipush 16, 2) := by decide +kernel
theorem dL_build_20 : decode cL_build 20 = .ok (.irem, 1) := by decide +kernel
theorem dL_build_21 : decode cL_build 21 = .ok (.invokestatic 61, 3) := by decide +kernel
theorem dL_build_24 : decode cL_build 24 = .ok (.iload_n 3, 1) := by decide +kernel
theorem dL_build_25 : decode cL_build 25 = .ok (.bipush 16, 2) := by decide +kernel
theorem dL_build_27 : decode cL_build 27 = .ok (.idiv, 1) := by decide +kernel
theorem dL_build_28 : decode cL_build 28 = .ok (.iconst 5, 1) := by decide +kernel
theorem dL_build_29 : decode cL_build 29 = .ok (.imul, 1) := by decide +kernel
theorem dL_build_30 : decode cL_build 30 = .ok (.ishr, 1) := by decide +kernel
theorem dL_build_31 : decode cL_build 31 = .ok (.bipush 47, 2) := by decide +kernel
theorem dL_build_33 : decode cL_build 33 = .ok (.iload_n 3, 1) := by decide +kernel
theorem dL_build_34 : decode cL_build 34 = .ok (.imul, 1) := by decide +kernel
theorem dL_build_35 : decode cL_build 35 = .ok (.iadd, 1) := by decide +kernel
theorem dL_build_36 : decode cL_build 36 = .ok (.istore 4, 2) := by decide +kernel
theorem dL_build_38 : decode cL_build 38 = .ok (.iload_n 3, 1) := by decide +kernel
theorem dL_build_39 : decode cL_build 39 = .ok (.bipush 12, 2) := by decide +kernel
theorem dL_build_41 : decode cL_build 41 = .ok (.if_icmp .ge 41, 3) := by decide +kernel
theorem dL_build_44 : decode cL_build 44 = .ok (.iload 4, 2) := by decide +kernel
theorem dL_build_46 : decode cL_build 46 = .ok (.sipush 10000, 3) := by decide +kernel
theorem dL_build_49 : decode cL_build 49 = .ok (.invokestatic 15, 3) := by decide +kernel
theorem dL_build_52 : decode cL_build 52 = .ok (.bipush 8, 2) := by decide +kernel
theorem dL_build_54 : decode cL_build 54 = .ok (.imul, 1) := by decide +kernel
theorem dL_build_55 : decode cL_build 55 = .ok (.iload_n 3, 1) := by decide +kernel
theorem dL_build_56 : decode cL_build 56 = .ok (.iconst 4, 1) := by decide +kernel
theorem dL_build_57 : decode cL_build 57 = .ok (.if_icmp .ge 7, 3) := by decide +kernel
theorem dL_build_60 : decode cL_build 60 = .ok (.iconst 2, 1) := by decide +kernel
theorem dL_build_61 : decode cL_build 61 = .ok (.goto 18, 3) := by decide +kernel
theorem dL_build_64 : decode cL_build 64 = .ok (.iload_n 3, 1) := by decide +kernel
theorem dL_build_65 : decode cL_build 65 = .ok (.bipush 7, 2) := by decide +kernel
theorem dL_build_67 : decode cL_build 67 = .ok (.if_icmp .ge 7, 3) := by decide +kernel
theorem dL_build_70 : decode cL_build 70 = .ok (.iconst 1, 1) := by decide +kernel
theorem dL_build_71 : decode cL_build 71 = .ok (.goto 8, 3) := by decide +kernel
theorem dL_build_74 : decode cL_build 74 = .ok (.iconst 3, 1) := by decide +kernel
theorem dL_build_75 : decode cL_build 75 = .ok (.iload_n 3, 1) := by decide +kernel
theorem dL_build_76 : decode cL_build 76 = .ok (.iconst 4, 1) := by decide +kernel
theorem dL_build_77 : decode cL_build 77 = .ok (.irem, 1) := by decide +kernel
theorem dL_build_78 : decode cL_build 78 = .ok (.iadd, 1) := by decide +kernel
theorem dL_build_79 : decode cL_build 79 = .ok (.iadd, 1) := by decide +kernel
theorem dL_build_80 : decode cL_build 80 = .ok (.istore 4, 2) := by decide +kernel
theorem dL_build_82 : decode cL_build 82 = .ok (.aload_n 0, 1) := by decide +kernel
theorem dL_build_83 : decode cL_build 83 = .ok (.aload_n 2, 1) := by decide +kernel
theorem dL_build_84 : decode cL_build 84 = .ok (.iload 4, 2) := by decide +kernel
theorem dL_build_86 : decode cL_build 86 = .ok (.invokestatic 65, 3) := by decide +kernel
theorem dL_build_89 : decode cL_build 89 = .ok (.ifCond .ne 5, 3) := by decide +kernel
theorem dL_build_92 : decode cL_build 92 = .ok (.aconst_null, 1) := by decide +kernel
theorem dL_build_93 : decode cL_build 93 = .ok (.areturn, 1) := by decide +kernel
theorem dL_build_94 : decode cL_build 94 = .ok (.iload_n 3, 1) := by decide +kernel
theorem dL_build_95 : decode cL_build 95 = .ok (.bipush 9, 2) := by decide +kernel
theorem dL_build_97 : decode cL_build 97 = .ok (.if_icmp .le 28, 3) := by decide +kernel
theorem dL_build_100 : decode cL_build 100 = .ok (.iload 4, 2) := by decide +kernel
theorem dL_build_102 : decode cL_build 102 = .ok (.iconst 4, 1) := by decide +kernel
theorem dL_build_103 : decode cL_build 103 = .ok (.ishr, 1) := by decide +kernel
theorem dL_build_104 : decode cL_build 104 = .ok (.iconst 3, 1) := by decide +kernel
theorem dL_build_105 : decode cL_build 105 = .ok (.invokestatic 15, 3) := by decide +kernel
theorem dL_build_108 : decode cL_build 108 = .ok (.ifCond .ne 17, 3) := by decide +kernel
theorem dL_build_111 : decode cL_build 111 = .ok (.aload_n 0, 1) := by decide +kernel
theorem dL_build_112 : decode cL_build 112 = .ok (.iconst 1, 1) := by decide +kernel
theorem dL_build_113 : decode cL_build 113 = .ok (.invokevirtual 69, 3) := by decide +kernel
theorem dL_build_116 : decode cL_build 116 = .ok (.aload_n 2, 1) := by decide +kernel
theorem dL_build_117 : decode cL_build 117 = .ok (.invokevirtual 72, 3) := by decide +kernel
theorem dL_build_120 : decode cL_build 120 = .ok (.if_icmp .eq 5, 3) := by decide +kernel
theorem dL_build_123 : decode cL_build 123 = .ok (.aconst_null, 1) := by decide +kernel
theorem dL_build_124 : decode cL_build 124 = .ok (.areturn, 1) := by decide +kernel
theorem dL_build_125 : decode cL_build 125 = .ok (.iinc 3 1, 3) := by decide +kernel
theorem dL_build_128 : decode cL_build 128 = .ok (.goto (-118), 3) := by decide +kernel
theorem dL_build_131 : decode cL_build 131 = .ok (.aload_n 2, 1) := by decide +kernel
theorem dL_build_132 : decode cL_build 132 = .ok (.areturn, 1) := by decide +kernel
