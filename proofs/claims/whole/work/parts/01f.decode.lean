theorem dX4_init_0 : decode cX4_init 0 = .ok (.aload_n 0, 1) := by decide +kernel
theorem dX4_init_1 : decode cX4_init 1 = .ok (.aload_n 1, 1) := by decide +kernel
theorem dX4_init_2 : decode cX4_init 2 = .ok (.putfield 3, 3) := by decide +kernel
theorem dX4_init_5 : decode cX4_init 5 = .ok (.aload_n 0, 1) := by decide +kernel
theorem dX4_init_6 : decode cX4_init 6 = .ok (.invokespecial 9, 3) := by decide +kernel
theorem dX4_init_9 : decode cX4_init 9 = .ok (.aload_n 0, 1) := by decide +kernel
theorem dX4_init_10 : decode cX4_init 10 = .ok (.bipush 6, 2) := by decide +kernel
theorem dX4_init_12 : decode cX4_init 12 = .ok (.newarray .int, 2) := by decide +kernel
theorem dX4_init_14 : decode cX4_init 14 = .ok (.putfield 15, 3) := by decide +kernel
theorem dX4_init_17 : decode cX4_init 17 = .ok (.aload_n 0, 1) := by decide +kernel
theorem dX4_init_18 : decode cX4_init 18 = .ok (.bipush 6, 2) := by decide +kernel
theorem dX4_init_20 : decode cX4_init 20 = .ok (.newarray .int, 2) := by decide +kernel
theorem dX4_init_22 : decode cX4_init 22 = .ok (.putfield 19, 3) := by decide +kernel
theorem dX4_init_25 : decode cX4_init 25 = .ok (.aload_n 0, 1) := by decide +kernel
theorem dX4_init_26 : decode cX4_init 26 = .ok (.bipush 6, 2) := by decide +kernel
theorem dX4_init_28 : decode cX4_init 28 = .ok (.newarray .int, 2) := by decide +kernel
theorem dX4_init_30 : decode cX4_init 30 = .ok (.putfield 22, 3) := by decide +kernel
theorem dX4_init_33 : decode cX4_init 33 = .ok (.aload_n 0, 1) := by decide +kernel
theorem dX4_init_34 : decode cX4_init 34 = .ok (.bipush 6, 2) := by decide +kernel
theorem dX4_init_36 : decode cX4_init 36 = .ok (.newarray .int, 2) := by decide +kernel
theorem dX4_init_38 : decode cX4_init 38 = .ok (.putfield 25, 3) := by decide +kernel
theorem dX4_init_41 : decode cX4_init 41 = .ok (.aload_n 0, 1) := by decide +kernel
theorem dX4_init_42 : decode cX4_init 42 = .ok (.bipush 6, 2) := by decide +kernel
theorem dX4_init_44 : decode cX4_init 44 = .ok (.newarray .int, 2) := by decide +kernel
theorem dX4_init_46 : decode cX4_init 46 = .ok (.putfield 28, 3) := by decide +kernel
theorem dX4_init_49 : decode cX4_init 49 = .ok (.aload_n 0, 1) := by decide +kernel
theorem dX4_init_50 : decode cX4_init 50 = .ok (.bipush 6, 2) := by decide +kernel
theorem dX4_init_52 : decode cX4_init 52 = .ok (.newarray .int, 2) := by decide +kernel
theorem dX4_init_54 : decode cX4_init 54 = .ok (.putfield 31, 3) := by decide +kernel
theorem dX4_init_57 : decode cX4_init 57 = .ok (.aload_n 0, 1) := by decide +kernel
theorem dX4_init_58 : decode cX4_init 58 = .ok (.bipush 6, 2) := by decide +kernel
theorem dX4_init_60 : decode cX4_init 60 = .ok (.newarray .int, 2) := by decide +kernel
theorem dX4_init_62 : decode cX4_init 62 = .ok (.putfield 34, 3) := by decide +kernel
theorem dX4_init_65 : decode cX4_init 65 = .ok (.aload_n 0, 1) := by decide +kernel
theorem dX4_init_66 : decode cX4_init 66 = .ok (.bipush 6, 2) := by decide +kernel
theorem dX4_init_68 : decode cX4_init 68 = .ok (.newarray .int, 2) := by decide +kernel
theorem dX4_init_70 : decode cX4_init 70 = .ok (.putfield 37, 3) := by decide +kernel
theorem dX4_init_73 : decode cX4_init 73 = .ok (.aload_n 0, 1) := by decide +kernel
theorem dX4_init_74 : decode cX4_init 74 = .ok (.bipush 6, 2) := by decide +kernel
theorem dX4_init_76 : decode cX4_init 76 = .ok (.newarray .int, 2) := by decide +kernel
theorem dX4_init_78 : decode cX4_init 78 = .ok (.putfield 40, 3) := by decide +kernel
theorem dX4_init_81 : decode cX4_init 81 = .ok (.aload_n 0, 1) := by decide +kernel
theorem dX4_init_82 : decode cX4_init 82 = .ok (.bipush 6, 2) := by decide +kernel
theorem dX4_init_84 : decode cX4_init 84 = .ok (.newarray .int, 2) := by decide +kernel
theorem dX4_init_86 : decode cX4_init 86 = .ok (.putfield 43, 3) := by decide +kernel
theorem dX4_init_89 : decode cX4_init 89 = .ok (.return_, 1) := by decide +kernel
theorem dX4_copy_0 : decode cX4_copy 0 = .ok (.aload_n 1, 1) := by decide +kernel
theorem dX4_copy_1 : decode cX4_copy 1 = .ok (.iconst 0, 1) := by decide +kernel
theorem dX4_copy_2 : decode cX4_copy 2 = .ok (.aload_n 2, 1) := by decide +kernel
theorem dX4_copy_3 : decode cX4_copy 3 = .ok (.iconst 0, 1) := by decide +kernel
theorem dX4_copy_4 : decode cX4_copy 4 = .ok (.aload_n 1, 1) := by decide +kernel
theorem dX4_copy_5 : decode cX4_copy 5 = .ok (.arraylength, 1) := by decide +kernel
theorem dX4_copy_6 : decode cX4_copy 6 = .ok (.invokestatic 46, 3) := by decide +kernel
theorem dX4_copy_9 : decode cX4_copy 9 = .ok (.return_, 1) := by decide +kernel
set_option maxRecDepth 20000 in
theorem ggX4_become_X4_copy : GoodIn wsX4_become wsX4_copy := goodIn_r _ [16, 17, 18, 19, 20] (by decide +kernel) (by decide +kernel)
set_option maxRecDepth 20000 in
theorem gX4_become_X4_copy : GoodIn wsX4_become (wsV RX4 56 RX4 yX4_copy wsX4_copy) := goodIn_app (goodIn_of _ (by decide +kernel)) ggX4_become_X4_copy
theorem dX4_become_0 : decode cX4_become 0 = .ok (.aload_n 0, 1) := by decide +kernel
theorem dX4_become_1 : decode cX4_become 1 = .ok (.aload_n 1, 1) := by decide +kernel
theorem dX4_become_2 : decode cX4_become 2 = .ok (.getfield 52, 3) := by decide +kernel
theorem dX4_become_5 : decode cX4_become 5 = .ok (.putfield 52, 3) := by decide +kernel
theorem dX4_become_8 : decode cX4_become 8 = .ok (.aload_n 0, 1) := by decide +kernel
theorem dX4_become_9 : decode cX4_become 9 = .ok (.aload_n 1, 1) := by decide +kernel
theorem dX4_become_10 : decode cX4_become 10 = .ok (.getfield 15, 3) := by decide +kernel
theorem dX4_become_13 : decode cX4_become 13 = .ok (.aload_n 0, 1) := by decide +kernel
theorem dX4_become_14 : decode cX4_become 14 = .ok (.getfield 15, 3) := by decide +kernel
theorem dX4_become_17 : decode cX4_become 17 = .ok (.invokevirtual 56, 3) := by decide +kernel
theorem dX4_become_20 : decode cX4_become 20 = .ok (.aload_n 0, 1) := by decide +kernel
theorem dX4_become_21 : decode cX4_become 21 = .ok (.aload_n 1, 1) := by decide +kernel
theorem dX4_become_22 : decode cX4_become 22 = .ok (.getfield 19, 3) := by decide +kernel
theorem dX4_become_25 : decode cX4_become 25 = .ok (.aload_n 0, 1) := by decide +kernel
theorem dX4_become_26 : decode cX4_become 26 = .ok (.getfield 19, 3) := by decide +kernel
theorem dX4_become_29 : decode cX4_become 29 = .ok (.invokevirtual 56, 3) := by decide +kernel
theorem dX4_become_32 : decode cX4_become 32 = .ok (.aload_n 0, 1) := by decide +kernel
theorem dX4_become_33 : decode cX4_become 33 = .ok (.aload_n 1, 1) := by decide +kernel
theorem dX4_become_34 : decode cX4_become 34 = .ok (.getfield 22, 3) := by decide +kernel
theorem dX4_become_37 : decode cX4_become 37 = .ok (.aload_n 0, 1) := by decide +kernel
theorem dX4_become_38 : decode cX4_become 38 = .ok (.getfield 22, 3) := by decide +kernel
theorem dX4_become_41 : decode cX4_become 41 = .ok (.invokevirtual 56, 3) := by decide +kernel
theorem dX4_become_44 : decode cX4_become 44 = .ok (.aload_n 0, 1) := by decide +kernel
theorem dX4_become_45 : decode cX4_become 45 = .ok (.aload_n 1, 1) := by decide +kernel
theorem dX4_become_46 : decode cX4_become 46 = .ok (.getfield 25, 3) := by decide +kernel
theorem dX4_become_49 : decode cX4_become 49 = .ok (.aload_n 0, 1) := by decide +kernel
theorem dX4_become_50 : decode cX4_become 50 = .ok (.getfield 25, 3) := by decide +kernel
theorem dX4_become_53 : decode cX4_become 53 = .ok (.invokevirtual 56, 3) := by decide +kernel
theorem dX4_become_56 : decode cX4_become 56 = .ok (.aload_n 0, 1) := by decide +kernel
theorem dX4_become_57 : decode cX4_become 57 = .ok (.aload_n 1, 1) := by decide +kernel
theorem dX4_become_58 : decode cX4_become 58 = .ok (.getfield 28, 3) := by decide +kernel
theorem dX4_become_61 : decode cX4_become 61 = .ok (.aload_n 0, 1) := by decide +kernel
theorem dX4_become_62 : decode cX4_become 62 = .ok (.getfield 28, 3) := by decide +kernel
theorem dX4_become_65 : decode cX4_become 65 = .ok (.invokevirtual 56, 3) := by decide +kernel
theorem dX4_become_68 : decode cX4_become 68 = .ok (.aload_n 0, 1) := by decide +kernel
theorem dX4_become_69 : decode cX4_become 69 = .ok (.aload_n 1, 1) := by decide +kernel
theorem dX4_become_70 : decode cX4_become 70 = .ok (.getfield 31, 3) := by decide +kernel
theorem dX4_become_73 : decode cX4_become 73 = .ok (.aload_n 0, 1) := by decide +kernel
theorem dX4_become_74 : decode cX4_become 74 = .ok (.getfield 31, 3) := by decide +kernel
theorem dX4_become_77 : decode cX4_become 77 = .ok (.invokevirtual 56, 3) := by decide +kernel
theorem dX4_become_80 : decode cX4_become 80 = .ok (.aload_n 0, 1) := by decide +kernel
theorem dX4_become_81 : decode cX4_become 81 = .ok (.aload_n 1, 1) := by decide +kernel
theorem dX4_become_82 : decode cX4_become 82 = .ok (.getfield 34, 3) := by decide +kernel
theorem dX4_become_85 : decode cX4_become 85 = .ok (.aload_n 0, 1) := by decide +kernel
theorem dX4_become_86 : decode cX4_become 86 = .ok (.getfield 34, 3) := by decide +kernel
theorem dX4_become_89 : decode cX4_become 89 = .ok (.invokevirtual 56, 3) := by decide +kernel
theorem dX4_become_92 : decode cX4_become 92 = .ok (.aload_n 0, 1) := by decide +kernel
theorem dX4_become_93 : decode cX4_become 93 = .ok (.aload_n 1, 1) := by decide +kernel
theorem dX4_become_94 : decode cX4_become 94 = .ok (.getfield 37, 3) := by decide +kernel
theorem dX4_become_97 : decode cX4_become 97 = .ok (.aload_n 0, 1) := by decide +kernel
theorem dX4_become_98 : decode cX4_become 98 = .ok (.getfield 37, 3) := by decide +kernel
theorem dX4_become_101 : decode cX4_become 101 = .ok (.invokevirtual 56, 3) := by decide +kernel
theorem dX4_become_104 : decode cX4_become 104 = .ok (.aload_n 0, 1) := by decide +kernel
theorem dX4_become_105 : decode cX4_become 105 = .ok (.aload_n 1, 1) := by decide +kernel
theorem dX4_become_106 : decode cX4_become 106 = .ok (.getfield 40, 3) := by decide +kernel
theorem dX4_become_109 : decode cX4_become 109 = .ok (.aload_n 0, 1) := by decide +kernel
theorem dX4_become_110 : decode cX4_become 110 = .ok (.getfield 40, 3) := by decide +kernel
theorem dX4_become_113 : decode cX4_become 113 = .ok (.invokevirtual 56, 3) := by decide +kernel
theorem dX4_become_116 : decode cX4_become 116 = .ok (.aload_n 0, 1) := by decide +kernel
theorem dX4_become_117 : decode cX4_become 117 = .ok (.aload_n 1, 1) := by decide +kernel
theorem dX4_become_118 : decode cX4_become 118 = .ok (.getfield 43, 3) := by decide +kernel
theorem dX4_become_121 : decode cX4_become 121 = .ok (.aload_n 0, 1) := by decide +kernel
theorem dX4_become_122 : decode cX4_become 122 = .ok (.getfield 43, 3) := by decide +kernel
theorem dX4_become_125 : decode cX4_become 125 = .ok (.invokevirtual 56, 3) := by decide +kernel
theorem dX4_become_128 : decode cX4_become 128 = .ok (.return_, 1) := by decide +kernel
theorem dX4_isIn_0 : decode cX4_isIn 0 = .ok (.aload_n 0, 1) := by decide +kernel
theorem dX4_isIn_1 : decode cX4_isIn 1 = .ok (.getfield 31, 3) := by decide +kernel
theorem dX4_isIn_4 : decode cX4_isIn 4 = .ok (.iload_n 1, 1) := by decide +kernel
theorem dX4_isIn_5 : decode cX4_isIn 5 = .ok (.iaload, 1) := by decide +kernel
theorem dX4_isIn_6 : decode cX4_isIn 6 = .ok (.iconst (-1), 1) := by decide +kernel
theorem dX4_isIn_7 : decode cX4_isIn 7 = .ok (.if_icmp .eq 7, 3) := by decide +kernel
theorem dX4_isIn_10 : decode cX4_isIn 10 = .ok (.iconst 1, 1) := by decide +kernel
theorem dX4_isIn_11 : decode cX4_isIn 11 = .ok (.goto 4, 3) := by decide +kernel
theorem dX4_isIn_14 : decode cX4_isIn 14 = .ok (.iconst 0, 1) := by decide +kernel
theorem dX4_isIn_15 : decode cX4_isIn 15 = .ok (.ireturn, 1) := by decide +kernel
set_option maxRecDepth 20000 in
theorem ggX4_time_X4_isIn : GoodIn wsX4_time wsX4_isIn := goodIn_r _ [7, 1, 8, 9, 10, 11, 12, 13, 14, 15, 16, 17, 18, 19] (by decide +kernel) (by decide +kernel)
set_option maxRecDepth 20000 in
theorem gX4_time_X4_isIn : GoodIn wsX4_time (wsV RX4 60 RX4 yX4_isIn wsX4_isIn) := goodIn_app (goodIn_of _ (by decide +kernel)) ggX4_time_X4_isIn
theorem dX4_time_0 : decode cX4_time 0 = .ok (.aload_n 0, 1) := by decide +kernel
theorem dX4_time_1 : decode cX4_time 1 = .ok (.iload_n 1, 1) := by decide +kernel
theorem dX4_time_2 : decode cX4_time 2 = .ok (.invokevirtual 60, 3) := by decide +kernel
theorem dX4_time_5 : decode cX4_time 5 = .ok (.ifCond .eq 21, 3) := by decide +kernel
theorem dX4_time_8 : decode cX4_time 8 = .ok (.aload_n 0, 1) := by decide +kernel
theorem dX4_time_9 : decode cX4_time 9 = .ok (.getfield 31, 3) := by decide +kernel
theorem dX4_time_12 : decode cX4_time 12 = .ok (.iload_n 1, 1) := by decide +kernel
theorem dX4_time_13 : decode cX4_time 13 = .ok (.iaload, 1) := by decide +kernel
theorem dX4_time_14 : decode cX4_time 14 = .ok (.iconst 1, 1) := by decide +kernel
theorem dX4_time_15 : decode cX4_time 15 = .ok (.iadd, 1) := by decide +kernel
theorem dX4_time_16 : decode cX4_time 16 = .ok (.aload_n 0, 1) := by decide +kernel
theorem dX4_time_17 : decode cX4_time 17 = .ok (.getfield 28, 3) := by decide +kernel
theorem dX4_time_20 : decode cX4_time 20 = .ok (.iload_n 1, 1) := by decide +kernel
theorem dX4_time_21 : decode cX4_time 21 = .ok (.iaload, 1) := by decide +kernel
theorem dX4_time_22 : decode cX4_time 22 = .ok (.iadd, 1) := by decide +kernel
theorem dX4_time_23 : decode cX4_time 23 = .ok (.goto 4, 3) := by decide +kernel
theorem dX4_time_26 : decode cX4_time 26 = .ok (.iconst (-1), 1) := by decide +kernel
theorem dX4_time_27 : decode cX4_time 27 = .ok (.ireturn, 1) := by decide +kernel
theorem dX4_stroke_0 : decode cX4_stroke 0 = .ok (.aload_n 0, 1) := by decide +kernel
theorem dX4_stroke_1 : decode cX4_stroke 1 = .ok (.getfield 43, 3) := by decide +kernel
theorem dX4_stroke_4 : decode cX4_stroke 4 = .ok (.iload_n 1, 1) := by decide +kernel
theorem dX4_stroke_5 : decode cX4_stroke 5 = .ok (.iaload, 1) := by decide +kernel
theorem dX4_stroke_6 : decode cX4_stroke 6 = .ok (.getstatic 64, 3) := by decide +kernel
theorem dX4_stroke_9 : decode cX4_stroke 9 = .ok (.aload_n 0, 1) := by decide +kernel
theorem dX4_stroke_10 : decode cX4_stroke 10 = .ok (.getfield 40, 3) := by decide +kernel
theorem dX4_stroke_13 : decode cX4_stroke 13 = .ok (.iload_n 1, 1) := by decide +kernel
theorem dX4_stroke_14 : decode cX4_stroke 14 = .ok (.iaload, 1) := by decide +kernel
theorem dX4_stroke_15 : decode cX4_stroke 15 = .ok (.iconst 1, 1) := by decide +kernel
theorem dX4_stroke_16 : decode cX4_stroke 16 = .ok (.isub, 1) := by decide +kernel
theorem dX4_stroke_17 : decode cX4_stroke 17 = .ok (.iload_n 2, 1) := by decide +kernel
theorem dX4_stroke_18 : decode cX4_stroke 18 = .ok (.isub, 1) := by decide +kernel
theorem dX4_stroke_19 : decode cX4_stroke 19 = .ok (.iaload, 1) := by decide +kernel
theorem dX4_stroke_20 : decode cX4_stroke 20 = .ok (.idiv, 1) := by decide +kernel
theorem dX4_stroke_21 : decode cX4_stroke 21 = .ok (.bipush 10, 2) := by decide +kernel
theorem dX4_stroke_23 : decode cX4_stroke 23 = .ok (.irem, 1) := by decide +kernel
theorem dX4_stroke_24 : decode cX4_stroke 24 = .ok (.ireturn, 1) := by decide +kernel
theorem dX4_soak_0 : decode cX4_soak 0 = .ok (.aload_n 0, 1) := by decide +kernel
theorem dX4_soak_1 : decode cX4_soak 1 = .ok (.getfield 25, 3) := by decide +kernel
theorem dX4_soak_4 : decode cX4_soak 4 = .ok (.iload_n 1, 1) := by decide +kernel
theorem dX4_soak_5 : decode cX4_soak 5 = .ok (.bipush 30, 2) := by decide +kernel
theorem dX4_soak_7 : decode cX4_soak 7 = .ok (.aload_n 0, 1) := by decide +kernel
theorem dX4_soak_8 : decode cX4_soak 8 = .ok (.getfield 25, 3) := by decide +kernel
theorem dX4_soak_11 : decode cX4_soak 11 = .ok (.iload_n 1, 1) := by decide +kernel
theorem dX4_soak_12 : decode cX4_soak 12 = .ok (.iaload, 1) := by decide +kernel
theorem dX4_soak_13 : decode cX4_soak 13 = .ok (.iload_n 2, 1) := by decide +kernel
theorem dX4_soak_14 : decode cX4_soak 14 = .ok (.iadd, 1) := by decide +kernel
theorem dX4_soak_15 : decode cX4_soak 15 = .ok (.invokestatic 67, 3) := by decide +kernel
theorem dX4_soak_18 : decode cX4_soak 18 = .ok (.iastore, 1) := by decide +kernel
theorem dX4_soak_19 : decode cX4_soak 19 = .ok (.return_, 1) := by decide +kernel
set_option maxRecDepth 20000 in
theorem ggX4_paddles_X4_stroke : GoodIn wsX4_paddles wsX4_stroke := goodIn_r _ [18, 19, 2, 20, 21, 22, 23, 24, 25, 26, 27, 28, 29, 30, 31] (by decide +kernel) (by decide +kernel)
set_option maxRecDepth 20000 in
theorem gX4_paddles_X4_stroke : GoodIn wsX4_paddles (wsV RX4 73 RX4 yX4_stroke wsX4_stroke) := goodIn_app (goodIn_of _ (by decide +kernel)) ggX4_paddles_X4_stroke
theorem dX4_paddles_0 : decode cX4_paddles 0 = .ok (.aload_n 0, 1) := by decide +kernel
theorem dX4_paddles_1 : decode cX4_paddles 1 = .ok (.iload_n 1, 1) := by decide +kernel
theorem dX4_paddles_2 : decode cX4_paddles 2 = .ok (.aload_n 0, 1) := by decide +kernel
theorem dX4_paddles_3 : decode cX4_paddles 3 = .ok (.getfield 52, 3) := by decide +kernel
theorem dX4_paddles_6 : decode cX4_paddles 6 = .ok (.aload_n 0, 1) := by decide +kernel
theorem dX4_paddles_7 : decode cX4_paddles 7 = .ok (.getfield 40, 3) := by decide +kernel
theorem dX4_paddles_10 : decode cX4_paddles 10 = .ok (.iload_n 1, 1) := by decide +kernel
theorem dX4_paddles_11 : decode cX4_paddles 11 = .ok (.iaload, 1) := by decide +kernel
theorem dX4_paddles_12 : decode cX4_paddles 12 = .ok (.irem, 1) := by decide +kernel
theorem dX4_paddles_13 : decode cX4_paddles 13 = .ok (.invokevirtual 73, 3) := by decide +kernel
theorem dX4_paddles_16 : decode cX4_paddles 16 = .ok (.istore_n 2, 1) := by decide +kernel
theorem dX4_paddles_17 : decode cX4_paddles 17 = .ok (.aload_n 0, 1) := by decide +kernel
theorem dX4_paddles_18 : decode cX4_paddles 18 = .ok (.getfield 22, 3) := by decide +kernel
theorem dX4_paddles_21 : decode cX4_paddles 21 = .ok (.iload_n 1, 1) := by decide +kernel
theorem dX4_paddles_22 : decode cX4_paddles 22 = .ok (.dup2, 1) := by decide +kernel
theorem dX4_paddles_23 : decode cX4_paddles 23 = .ok (.iaload, 1) := by decide +kernel
theorem dX4_paddles_24 : decode cX4_paddles 24 = .ok (.iload_n 2, 1) := by decide +kernel
theorem dX4_paddles_25 : decode cX4_paddles 25 = .ok (.iconst 1, 1) := by decide +kernel
theorem dX4_paddles_26 : decode cX4_paddles 26 = .ok (.if_icmp .ne 7, 3) := by decide +kernel
theorem dX4_paddles_29 : decode cX4_paddles 29 = .ok (.iconst 1, 1) := by decide +kernel
theorem dX4_paddles_30 : decode cX4_paddles 30 = .ok (.goto 13, 3) := by decide +kernel
theorem dX4_paddles_33 : decode cX4_paddles 33 = .ok (.iload_n 2, 1) := by decide +kernel
theorem dX4_paddles_34 : decode cX4_paddles 34 = .ok (.iconst 2, 1) := by decide +kernel
theorem dX4_paddles_35 : decode cX4_paddles 35 = .ok (.if_icmp .ne 7, 3) := by decide +kernel
theorem dX4_paddles_38 : decode cX4_paddles 38 = .ok (.iconst (-1), 1) := by decide +kernel
theorem dX4_paddles_39 : decode cX4_paddles 39 = .ok (.goto 4, 3) := by decide +kernel
theorem dX4_paddles_42 : decode cX4_paddles 42 = .ok (.iconst 0, 1) := by decide +kernel
theorem dX4_paddles_43 : decode cX4_paddles 43 = .ok (.iadd, 1) := by decide +kernel
theorem dX4_paddles_44 : decode cX4_paddles 44 = .ok (.iastore, 1) := by decide +kernel
theorem dX4_paddles_45 : decode cX4_paddles 45 = .ok (.aload_n 0, 1) := by decide +kernel
theorem dX4_paddles_46 : decode cX4_paddles 46 = .ok (.getfield 22, 3) := by decide +kernel
theorem dX4_paddles_49 : decode cX4_paddles 49 = .ok (.iload_n 1, 1) := by decide +kernel
theorem dX4_paddles_50 : decode cX4_paddles 50 = .ok (.iaload, 1) := by decide +kernel
theorem dX4_paddles_51 : decode cX4_paddles 51 = .ok (.invokestatic 76, 3) := by decide +kernel
theorem dX4_paddles_54 : decode cX4_paddles 54 = .ok (.iconst 5, 1) := by decide +kernel
theorem dX4_paddles_55 : decode cX4_paddles 55 = .ok (.if_icmp .ne 22, 3) := by decide +kernel
theorem dX4_paddles_58 : decode cX4_paddles 58 = .ok (.aload_n 0, 1) := by decide +kernel
theorem dX4_paddles_59 : decode cX4_paddles 59 = .ok (.getfield 22, 3) := by decide +kernel
theorem dX4_paddles_62 : decode cX4_paddles 62 = .ok (.iload_n 1, 1) := by decide +kernel
theorem dX4_paddles_63 : decode cX4_paddles 63 = .ok (.iconst 0, 1) := by decide +kernel
theorem dX4_paddles_64 : decode cX4_paddles 64 = .ok (.iastore, 1) := by decide +kernel
theorem dX4_paddles_65 : decode cX4_paddles 65 = .ok (.aload_n 0, 1) := by decide +kernel
theorem dX4_paddles_66 : decode cX4_paddles 66 = .ok (.getfield 34, 3) := by decide +kernel
theorem dX4_paddles_69 : decode cX4_paddles 69 = .ok (.iload_n 1, 1) := by decide +kernel
theorem dX4_paddles_70 : decode cX4_paddles 70 = .ok (.dup2, 1) := by decide +kernel
theorem dX4_paddles_71 : decode cX4_paddles 71 = .ok (.iaload, 1) := by decide +kernel
theorem dX4_paddles_72 : decode cX4_paddles 72 = .ok (.iconst 1, 1) := by decide +kernel
theorem dX4_paddles_73 : decode cX4_paddles 73 = .ok (.iadd, 1) := by decide +kernel
theorem dX4_paddles_74 : decode cX4_paddles 74 = .ok (.iastore, 1) := by decide +kernel
theorem dX4_paddles_75 : decode cX4_paddles 75 = .ok (.iconst 0, 1) := by decide +kernel
theorem dX4_paddles_76 : decode cX4_paddles 76 = .ok (.ireturn, 1) := by decide +kernel
theorem dX4_paddles_77 : decode cX4_paddles 77 = .ok (.iload_n 2, 1) := by decide +kernel
theorem dX4_paddles_78 : decode cX4_paddles 78 = .ok (.iconst 3, 1) := by decide +kernel
theorem dX4_paddles_79 : decode cX4_paddles 79 = .ok (.if_icmp .ne 15, 3) := by decide +kernel
theorem dX4_paddles_82 : decode cX4_paddles 82 = .ok (.aload_n 0, 1) := by decide +kernel
theorem dX4_paddles_83 : decode cX4_paddles 83 = .ok (.getfield 3, 3) := by decide +kernel
theorem dX4_paddles_86 : decode cX4_paddles 86 = .ok (.getfield 80, 3) := by decide +kernel
theorem dX4_paddles_89 : decode cX4_paddles 89 = .ok (.iload_n 1, 1) := by decide +kernel
theorem dX4_paddles_90 : decode cX4_paddles 90 = .ok (.iaload, 1) := by decide +kernel
theorem dX4_paddles_91 : decode cX4_paddles 91 = .ok (.goto 22, 3) := by decide +kernel
theorem dX4_paddles_94 : decode cX4_paddles 94 = .ok (.iload_n 2, 1) := by decide +kernel
theorem dX4_paddles_95 : decode cX4_paddles 95 = .ok (.ifCond .ne 7, 3) := by decide +kernel
theorem dX4_paddles_98 : decode cX4_paddles 98 = .ok (.iconst 0, 1) := by decide +kernel
theorem dX4_paddles_99 : decode cX4_paddles 99 = .ok (.goto 14, 3) := by decide +kernel
theorem dX4_paddles_102 : decode cX4_paddles 102 = .ok (.aload_n 0, 1) := by decide +kernel
theorem dX4_paddles_103 : decode cX4_paddles 103 = .ok (.getfield 3, 3) := by decide +kernel
theorem dX4_paddles_106 : decode cX4_paddles 106 = .ok (.getfield 80, 3) := by decide +kernel
theorem dX4_paddles_109 : decode cX4_paddles 109 = .ok (.iload_n 1, 1) := by decide +kernel
theorem dX4_paddles_110 : decode cX4_paddles 110 = .ok (.iaload, 1) := by decide +kernel
theorem dX4_paddles_111 : decode cX4_paddles 111 = .ok (.iconst 2, 1) := by decide +kernel
theorem dX4_paddles_112 : decode cX4_paddles 112 = .ok (.idiv, 1) := by decide +kernel
theorem dX4_paddles_113 : decode cX4_paddles 113 = .ok (.istore_n 3, 1) := by decide +kernel
theorem dX4_paddles_114 : decode cX4_paddles 114 = .ok (.iconst 0, 1) := by decide +kernel
theorem dX4_paddles_115 : decode cX4_paddles 115 = .ok (.iload_n 3, 1) := by decide +kernel
theorem dX4_paddles_116 : decode cX4_paddles 116 = .ok (.aload_n 0, 1) := by decide +kernel
theorem dX4_paddles_117 : decode cX4_paddles 117 = .ok (.getfield 25, 3) := by decide +kernel
theorem dX4_paddles_120 : decode cX4_paddles 120 = .ok (.iload_n 1, 1) := by decide +kernel
theorem dX4_paddles_121 : decode cX4_paddles 121 = .ok (.iaload, 1) := by decide +kernel
theorem dX4_paddles_122 : decode cX4_paddles 122 = .ok (.bipush 6, 2) := by decide +kernel
theorem dX4_paddles_124 : decode cX4_paddles 124 = .ok (.idiv, 1) := by decide +kernel
theorem dX4_paddles_125 : decode cX4_paddles 125 = .ok (.isub, 1) := by decide +kernel
theorem dX4_paddles_126 : decode cX4_paddles 126 = .ok (.invokestatic 83, 3) := by decide +kernel
theorem dX4_paddles_129 : decode cX4_paddles 129 = .ok (.ireturn, 1) := by decide +kernel
theorem dX4_drift_0 : decode cX4_drift 0 = .ok (.aload_n 0, 1) := by decide +kernel
theorem dX4_drift_1 : decode cX4_drift 1 = .ok (.getfield 19, 3) := by decide +kernel
theorem dX4_drift_4 : decode cX4_drift 4 = .ok (.iload_n 1, 1) := by decide +kernel
theorem dX4_drift_5 : decode cX4_drift 5 = .ok (.iaload, 1) := by decide +kernel
theorem dX4_drift_6 : decode cX4_drift 6 = .ok (.aload_n 0, 1) := by decide +kernel
theorem dX4_drift_7 : decode cX4_drift 7 = .ok (.getfield 22, 3) := by decide +kernel
theorem dX4_drift_10 : decode cX4_drift 10 = .ok (.iload_n 1, 1) := by decide +kernel
theorem dX4_drift_11 : decode cX4_drift 11 = .ok (.iaload, 1) := by decide +kernel
theorem dX4_drift_12 : decode cX4_drift 12 = .ok (.iconst 2, 1) := by decide +kernel
theorem dX4_drift_13 : decode cX4_drift 13 = .ok (.if_icmp .lt 7, 3) := by decide +kernel
theorem dX4_drift_16 : decode cX4_drift 16 = .ok (.iconst 1, 1) := by decide +kernel
theorem dX4_drift_17 : decode cX4_drift 17 = .ok (.goto 19, 3) := by decide +kernel
theorem dX4_drift_20 : decode cX4_drift 20 = .ok (.aload_n 0, 1) := by decide +kernel
theorem dX4_drift_21 : decode cX4_drift 21 = .ok (.getfield 22, 3) := by decide +kernel
theorem dX4_drift_24 : decode cX4_drift 24 = .ok (.iload_n 1, 1) := by decide +kernel
theorem dX4_drift_25 : decode cX4_drift 25 = .ok (.iaload, 1) := by decide +kernel
theorem dX4_drift_26 : decode cX4_drift 26 = .ok (.bipush (-2), 2) := by decide +kernel
theorem dX4_drift_28 : decode cX4_drift 28 = .ok (.if_icmp .gt 7, 3) := by decide +kernel
theorem dX4_drift_31 : decode cX4_drift 31 = .ok (.iconst (-1), 1) := by decide +kernel
theorem dX4_drift_32 : decode cX4_drift 32 = .ok (.goto 4, 3) := by decide +kernel
theorem dX4_drift_35 : decode cX4_drift 35 = .ok (.iconst 0, 1) := by decide +kernel
theorem dX4_drift_36 : decode cX4_drift 36 = .ok (.iadd, 1) := by decide +kernel
theorem dX4_drift_37 : decode cX4_drift 37 = .ok (.istore_n 2, 1) := by decide +kernel
theorem dX4_drift_38 : decode cX4_drift 38 = .ok (.iload_n 2, 1) := by decide +kernel
theorem dX4_drift_39 : decode cX4_drift 39 = .ok (.ifCond .lt 8, 3) := by decide +kernel
theorem dX4_drift_42 : decode cX4_drift 42 = .ok (.iload_n 2, 1) := by decide +kernel
theorem dX4_drift_43 : decode cX4_drift 43 = .ok (.iconst 5, 1) := by decide +kernel
theorem dX4_drift_44 : decode cX4_drift 44 = .ok (.if_icmp .ne 16, 3) := by decide +kernel
theorem dX4_drift_47 : decode cX4_drift 47 = .ok (.aload_n 0, 1) := by decide +kernel
theorem dX4_drift_48 : decode cX4_drift 48 = .ok (.getfield 28, 3) := by decide +kernel
theorem dX4_drift_51 : decode cX4_drift 51 = .ok (.iload_n 1, 1) := by decide +kernel
theorem dX4_drift_52 : decode cX4_drift 52 = .ok (.dup2, 1) := by decide +kernel
theorem dX4_drift_53 : decode cX4_drift 53 = .ok (.iaload, 1) := by decide +kernel
theorem dX4_drift_54 : decode cX4_drift 54 = .ok (.iconst 3, 1) := by decide +kernel
theorem dX4_drift_55 : decode cX4_drift 55 = .ok (.iadd, 1) := by decide +kernel
theorem dX4_drift_56 : decode cX4_drift 56 = .ok (.iastore, 1) := by decide +kernel
theorem dX4_drift_57 : decode cX4_drift 57 = .ok (.goto 10, 3) := by decide +kernel
theorem dX4_drift_60 : decode cX4_drift 60 = .ok (.aload_n 0, 1) := by decide +kernel
theorem dX4_drift_61 : decode cX4_drift 61 = .ok (.getfield 19, 3) := by decide +kernel
theorem dX4_drift_64 : decode cX4_drift 64 = .ok (.iload_n 1, 1) := by decide +kernel
theorem dX4_drift_65 : decode cX4_drift 65 = .ok (.iload_n 2, 1) := by decide +kernel
theorem dX4_drift_66 : decode cX4_drift 66 = .ok (.iastore, 1) := by decide +kernel
theorem dX4_drift_67 : decode cX4_drift 67 = .ok (.return_, 1) := by decide +kernel
theorem dX4_stopsAt_0 : decode cX4_stopsAt 0 = .ok (.iconst (-1), 1) := by decide +kernel
theorem dX4_stopsAt_1 : decode cX4_stopsAt 1 = .ok (.istore_n 3, 1) := by decide +kernel
theorem dX4_stopsAt_2 : decode cX4_stopsAt 2 = .ok (.iconst 0, 1) := by decide +kernel
theorem dX4_stopsAt_3 : decode cX4_stopsAt 3 = .ok (.istore 4, 2) := by decide +kernel
theorem dX4_stopsAt_5 : decode cX4_stopsAt 5 = .ok (.iload 4, 2) := by decide +kernel
theorem dX4_stopsAt_7 : decode cX4_stopsAt 7 = .ok (.aload_n 0, 1) := by decide +kernel
theorem dX4_stopsAt_8 : decode cX4_stopsAt 8 = .ok (.getfield 3, 3) := by decide +kernel
theorem dX4_stopsAt_11 : decode cX4_stopsAt 11 = .ok (.getfield 86, 3) := by decide +kernel
theorem dX4_stopsAt_14 : decode cX4_stopsAt 14 = .ok (.if_icmp .ge 91, 3) := by decide +kernel
theorem dX4_stopsAt_17 : decode cX4_stopsAt 17 = .ok (.aload_n 0, 1) := by decide +kernel
theorem dX4_stopsAt_18 : decode cX4_stopsAt 18 = .ok (.getfield 3, 3) := by decide +kernel
theorem dX4_stopsAt_21 : decode cX4_stopsAt 21 = .ok (.getfield 89, 3) := by decide +kernel
theorem dX4_stopsAt_24 : decode cX4_stopsAt 24 = .ok (.iload 4, 2) := by decide +kernel
theorem dX4_stopsAt_26 : decode cX4_stopsAt 26 = .ok (.iaload, 1) := by decide +kernel
theorem dX4_stopsAt_27 : decode cX4_stopsAt 27 = .ok (.aload_n 0, 1) := by decide +kernel
theorem dX4_stopsAt_28 : decode cX4_stopsAt 28 = .ok (.getfield 15, 3) := by decide +kernel
theorem dX4_stopsAt_31 : decode cX4_stopsAt 31 = .ok (.iload_n 1, 1) := by decide +kernel
theorem dX4_stopsAt_32 : decode cX4_stopsAt 32 = .ok (.iaload, 1) := by decide +kernel
theorem dX4_stopsAt_33 : decode cX4_stopsAt 33 = .ok (.if_icmp .le 66, 3) := by decide +kernel
theorem dX4_stopsAt_36 : decode cX4_stopsAt 36 = .ok (.aload_n 0, 1) := by decide +kernel
theorem dX4_stopsAt_37 : decode cX4_stopsAt 37 = .ok (.getfield 3, 3) := by decide +kernel
theorem dX4_stopsAt_40 : decode cX4_stopsAt 40 = .ok (.getfield 89, 3) := by decide +kernel
theorem dX4_stopsAt_43 : decode cX4_stopsAt 43 = .ok (.iload 4, 2) := by decide +kernel
theorem dX4_stopsAt_45 : decode cX4_stopsAt 45 = .ok (.iaload, 1) := by decide +kernel
theorem dX4_stopsAt_46 : decode cX4_stopsAt 46 = .ok (.iload_n 2, 1) := by decide +kernel
theorem dX4_stopsAt_47 : decode cX4_stopsAt 47 = .ok (.if_icmp .gt 52, 3) := by decide +kernel
theorem dX4_stopsAt_50 : decode cX4_stopsAt 50 = .ok (.aload_n 0, 1) := by decide +kernel
theorem dX4_stopsAt_51 : decode cX4_stopsAt 51 = .ok (.getfield 3, 3) := by decide +kernel
theorem dX4_stopsAt_54 : decode cX4_stopsAt 54 = .ok (.getfield 92, 3) := by decide +kernel
theorem dX4_stopsAt_57 : decode cX4_stopsAt 57 = .ok (.iload 4, 2) := by decide +kernel
theorem dX4_stopsAt_59 : decode cX4_stopsAt 59 = .ok (.iaload, 1) := by decide +kernel
theorem dX4_stopsAt_60 : decode cX4_stopsAt 60 = .ok (.aload_n 0, 1) := by decide +kernel
theorem dX4_stopsAt_61 : decode cX4_stopsAt 61 = .ok (.getfield 19, 3) := by decide +kernel
theorem dX4_stopsAt_64 : decode cX4_stopsAt 64 = .ok (.iload_n 1, 1) := by decide +kernel
theorem dX4_stopsAt_65 : decode cX4_stopsAt 65 = .ok (.iaload, 1) := by decide +kernel
theorem dX4_stopsAt_66 : decode cX4_stopsAt 66 = .ok (.if_icmp .eq 33, 3) := by decide +kernel
theorem dX4_stopsAt_69 : decode cX4_stopsAt 69 = .ok (.iload_n 3, 1) := by decide +kernel
theorem dX4_stopsAt_70 : decode cX4_stopsAt 70 = .ok (.iconst (-1), 1) := by decide +kernel
theorem dX4_stopsAt_71 : decode cX4_stopsAt 71 = .ok (.if_icmp .eq 17, 3) := by decide +kernel
theorem dX4_stopsAt_74 : decode cX4_stopsAt 74 = .ok (.aload_n 0, 1) := by decide +kernel
theorem dX4_stopsAt_75 : decode cX4_stopsAt 75 = .ok (.getfield 3, 3) := by decide +kernel
theorem dX4_stopsAt_78 : decode cX4_stopsAt 78 = .ok (.getfield 89, 3) := by decide +kernel
theorem dX4_stopsAt_81 : decode cX4_stopsAt 81 = .ok (.iload 4, 2) := by decide +kernel
theorem dX4_stopsAt_83 : decode cX4_stopsAt 83 = .ok (.iaload, 1) := by decide +kernel
theorem dX4_stopsAt_84 : decode cX4_stopsAt 84 = .ok (.iload_n 3, 1) := by decide +kernel
theorem dX4_stopsAt_85 : decode cX4_stopsAt 85 = .ok (.if_icmp .ge 14, 3) := by decide +kernel
theorem dX4_stopsAt_88 : decode cX4_stopsAt 88 = .ok (.aload_n 0, 1) := by decide +kernel
theorem dX4_stopsAt_89 : decode cX4_stopsAt 89 = .ok (.getfield 3, 3) := by decide +kernel
theorem dX4_stopsAt_92 : decode cX4_stopsAt 92 = .ok (.getfield 89, 3) := by decide +kernel
theorem dX4_stopsAt_95 : decode cX4_stopsAt 95 = .ok (.iload 4, 2) := by decide +kernel
theorem dX4_stopsAt_97 : decode cX4_stopsAt 97 = .ok (.iaload, 1) := by decide +kernel
theorem dX4_stopsAt_98 : decode cX4_stopsAt 98 = .ok (.istore_n 3, 1) := by decide +kernel
theorem dX4_stopsAt_99 : decode cX4_stopsAt 99 = .ok (.iinc 4 1, 3) := by decide +kernel
theorem dX4_stopsAt_102 : decode cX4_stopsAt 102 = .ok (.goto (-97), 3) := by decide +kernel
theorem dX4_stopsAt_105 : decode cX4_stopsAt 105 = .ok (.iload_n 3, 1) := by decide +kernel
theorem dX4_stopsAt_106 : decode cX4_stopsAt 106 = .ok (.ireturn, 1) := by decide +kernel
set_option maxRecDepth 20000 in
theorem ggX4_go_X4_paddles : GoodIn wsX4_go wsX4_paddles := goodIn_r _ [19, 13, 20, 2, 3, 4, 5, 6, 21, 7, 22, 23, 24, 25, 26, 27, 28, 18, 29, 30, 44, 45, 46, 47, 48, 49, 50, 51, 52, 53, 54, 55, 56, 57, 58, 59, 60, 61, 62, 63, 64] (by decide +kernel) (by decide +kernel)
set_option maxRecDepth 20000 in
theorem gX4_go_X4_paddles : GoodIn wsX4_go (wsV RX4 95 RX4 yX4_paddles wsX4_paddles) := goodIn_app (goodIn_of _ (by decide +kernel)) ggX4_go_X4_paddles
set_option maxRecDepth 20000 in
theorem ggX4_go_X4_drift : GoodIn wsX4_go wsX4_drift := goodIn_r _ [34, 8, 2, 35, 44, 45, 46, 47, 48, 49, 50, 51, 52, 53, 54, 55] (by decide +kernel) (by decide +kernel)
set_option maxRecDepth 20000 in
theorem gX4_go_X4_drift : GoodIn wsX4_go (wsV RX4 98 RX4 yX4_drift wsX4_drift) := goodIn_app (goodIn_of _ (by decide +kernel)) ggX4_go_X4_drift
set_option maxRecDepth 20000 in
theorem ggX4_go_X4_stopsAt : GoodIn wsX4_go wsX4_stopsAt := goodIn_r _ [39, 7, 1, 8, 44, 45, 46, 47, 48, 49, 50, 51, 52, 53, 54, 55, 56, 57, 58, 59, 60, 61, 62, 63, 64] (by decide +kernel) (by decide +kernel)
set_option maxRecDepth 20000 in
theorem gX4_go_X4_stopsAt : GoodIn wsX4_go (wsV RX4 105 RX4 yX4_stopsAt wsX4_stopsAt) := goodIn_app (goodIn_of _ (by decide +kernel)) ggX4_go_X4_stopsAt
set_option maxRecDepth 20000 in
theorem ggX4_go_X4_soak : GoodIn wsX4_go wsX4_soak := goodIn_r _ [43, 22, 10, 11, 5, 12, 44, 45, 46, 47, 48, 49, 50, 51, 52, 53, 54, 55] (by decide +kernel) (by decide +kernel)
set_option maxRecDepth 20000 in
theorem gX4_go_X4_soak : GoodIn wsX4_go (wsV RX4 108 RX4 yX4_soak wsX4_soak) := goodIn_app (goodIn_of _ (by decide +kernel)) ggX4_go_X4_soak
theorem dX4_go_0 : decode cX4_go 0 = .ok (.aload_n 0, 1) := by decide +kernel
theorem dX4_go_1 : decode cX4_go 1 = .ok (.iload_n 1, 1) := by decide +kernel
theorem dX4_go_2 : decode cX4_go 2 = .ok (.invokevirtual 95, 3) := by decide +kernel
theorem dX4_go_5 : decode cX4_go 5 = .ok (.istore_n 2, 1) := by decide +kernel
theorem dX4_go_6 : decode cX4_go 6 = .ok (.aload_n 0, 1) := by decide +kernel
theorem dX4_go_7 : decode cX4_go 7 = .ok (.iload_n 1, 1) := by decide +kernel
theorem dX4_go_8 : decode cX4_go 8 = .ok (.invokevirtual 98, 3) := by decide +kernel
theorem dX4_go_11 : decode cX4_go 11 = .ok (.aload_n 0, 1) := by decide +kernel
theorem dX4_go_12 : decode cX4_go 12 = .ok (.getfield 15, 3) := by decide +kernel
theorem dX4_go_15 : decode cX4_go 15 = .ok (.iload_n 1, 1) := by decide +kernel
theorem dX4_go_16 : decode cX4_go 16 = .ok (.iaload, 1) := by decide +kernel
theorem dX4_go_17 : decode cX4_go 17 = .ok (.iload_n 2, 1) := by decide +kernel
theorem dX4_go_18 : decode cX4_go 18 = .ok (.iconst 4, 1) := by decide +kernel
theorem dX4_go_19 : decode cX4_go 19 = .ok (.aload_n 0, 1) := by decide +kernel
theorem dX4_go_20 : decode cX4_go 20 = .ok (.getfield 22, 3) := by decide +kernel
theorem dX4_go_23 : decode cX4_go 23 = .ok (.iload_n 1, 1) := by decide +kernel
theorem dX4_go_24 : decode cX4_go 24 = .ok (.iaload, 1) := by decide +kernel
theorem dX4_go_25 : decode cX4_go 25 = .ok (.invokestatic 76, 3) := by decide +kernel
theorem dX4_go_28 : decode cX4_go 28 = .ok (.isub, 1) := by decide +kernel
theorem dX4_go_29 : decode cX4_go 29 = .ok (.imul, 1) := by decide +kernel
theorem dX4_go_30 : decode cX4_go 30 = .ok (.iconst 4, 1) := by decide +kernel
theorem dX4_go_31 : decode cX4_go 31 = .ok (.idiv, 1) := by decide +kernel
theorem dX4_go_32 : decode cX4_go 32 = .ok (.iadd, 1) := by decide +kernel
theorem dX4_go_33 : decode cX4_go 33 = .ok (.aload_n 0, 1) := by decide +kernel
theorem dX4_go_34 : decode cX4_go 34 = .ok (.getfield 3, 3) := by decide +kernel
theorem dX4_go_37 : decode cX4_go 37 = .ok (.getfield 102, 3) := by decide +kernel
theorem dX4_go_40 : decode cX4_go 40 = .ok (.aload_n 0, 1) := by decide +kernel
theorem dX4_go_41 : decode cX4_go 41 = .ok (.getfield 19, 3) := by decide +kernel
theorem dX4_go_44 : decode cX4_go 44 = .ok (.iload_n 1, 1) := by decide +kernel
theorem dX4_go_45 : decode cX4_go 45 = .ok (.iaload, 1) := by decide +kernel
theorem dX4_go_46 : decode cX4_go 46 = .ok (.iaload, 1) := by decide +kernel
theorem dX4_go_47 : decode cX4_go 47 = .ok (.iadd, 1) := by decide +kernel
theorem dX4_go_48 : decode cX4_go 48 = .ok (.istore_n 3, 1) := by decide +kernel
theorem dX4_go_49 : decode cX4_go 49 = .ok (.aload_n 0, 1) := by decide +kernel
theorem dX4_go_50 : decode cX4_go 50 = .ok (.iload_n 1, 1) := by decide +kernel
theorem dX4_go_51 : decode cX4_go 51 = .ok (.iload_n 3, 1) := by decide +kernel
theorem dX4_go_52 : decode cX4_go 52 = .ok (.invokevirtual 105, 3) := by decide +kernel
theorem dX4_go_55 : decode cX4_go 55 = .ok (.istore 4, 2) := by decide +kernel
theorem dX4_go_57 : decode cX4_go 57 = .ok (.iload 4, 2) := by decide +kernel
theorem dX4_go_59 : decode cX4_go 59 = .ok (.iconst (-1), 1) := by decide +kernel
theorem dX4_go_60 : decode cX4_go 60 = .ok (.if_icmp .eq 26, 3) := by decide +kernel
theorem dX4_go_63 : decode cX4_go 63 = .ok (.aload_n 0, 1) := by decide +kernel
theorem dX4_go_64 : decode cX4_go 64 = .ok (.getfield 22, 3) := by decide +kernel
theorem dX4_go_67 : decode cX4_go 67 = .ok (.iload_n 1, 1) := by decide +kernel
theorem dX4_go_68 : decode cX4_go 68 = .ok (.iconst 0, 1) := by decide +kernel
theorem dX4_go_69 : decode cX4_go 69 = .ok (.iastore, 1) := by decide +kernel
theorem dX4_go_70 : decode cX4_go 70 = .ok (.aload_n 0, 1) := by decide +kernel
theorem dX4_go_71 : decode cX4_go 71 = .ok (.getfield 37, 3) := by decide +kernel
theorem dX4_go_74 : decode cX4_go 74 = .ok (.iload_n 1, 1) := by decide +kernel
theorem dX4_go_75 : decode cX4_go 75 = .ok (.dup2, 1) := by decide +kernel
theorem dX4_go_76 : decode cX4_go 76 = .ok (.iaload, 1) := by decide +kernel
theorem dX4_go_77 : decode cX4_go 77 = .ok (.iconst 1, 1) := by decide +kernel
theorem dX4_go_78 : decode cX4_go 78 = .ok (.iadd, 1) := by decide +kernel
theorem dX4_go_79 : decode cX4_go 79 = .ok (.iastore, 1) := by decide +kernel
theorem dX4_go_80 : decode cX4_go 80 = .ok (.aload_n 0, 1) := by decide +kernel
theorem dX4_go_81 : decode cX4_go 81 = .ok (.iload_n 1, 1) := by decide +kernel
theorem dX4_go_82 : decode cX4_go 82 = .ok (.iconst 5, 1) := by decide +kernel
theorem dX4_go_83 : decode cX4_go 83 = .ok (.invokevirtual 108, 3) := by decide +kernel
theorem dX4_go_86 : decode cX4_go 86 = .ok (.aload_n 0, 1) := by decide +kernel
theorem dX4_go_87 : decode cX4_go 87 = .ok (.getfield 15, 3) := by decide +kernel
theorem dX4_go_90 : decode cX4_go 90 = .ok (.iload_n 1, 1) := by decide +kernel
theorem dX4_go_91 : decode cX4_go 91 = .ok (.iload 4, 2) := by decide +kernel
theorem dX4_go_93 : decode cX4_go 93 = .ok (.iconst (-1), 1) := by decide +kernel
theorem dX4_go_94 : decode cX4_go 94 = .ok (.if_icmp .ne 13, 3) := by decide +kernel
theorem dX4_go_97 : decode cX4_go 97 = .ok (.sipush 200, 3) := by decide +kernel
theorem dX4_go_100 : decode cX4_go 100 = .ok (.iload_n 3, 1) := by decide +kernel
theorem dX4_go_101 : decode cX4_go 101 = .ok (.invokestatic 67, 3) := by decide +kernel
theorem dX4_go_104 : decode cX4_go 104 = .ok (.goto 5, 3) := by decide +kernel
theorem dX4_go_107 : decode cX4_go 107 = .ok (.iload 4, 2) := by decide +kernel
theorem dX4_go_109 : decode cX4_go 109 = .ok (.iastore, 1) := by decide +kernel
theorem dX4_go_110 : decode cX4_go 110 = .ok (.aload_n 0, 1) := by decide +kernel
theorem dX4_go_111 : decode cX4_go 111 = .ok (.getfield 52, 3) := by decide +kernel
theorem dX4_go_114 : decode cX4_go 114 = .ok (.iconst 4, 1) := by decide +kernel
theorem dX4_go_115 : decode cX4_go 115 = .ok (.irem, 1) := by decide +kernel
theorem dX4_go_116 : decode cX4_go 116 = .ok (.ifCond .ne 9, 3) := by decide +kernel
theorem dX4_go_119 : decode cX4_go 119 = .ok (.aload_n 0, 1) := by decide +kernel
theorem dX4_go_120 : decode cX4_go 120 = .ok (.iload_n 1, 1) := by decide +kernel
theorem dX4_go_121 : decode cX4_go 121 = .ok (.iconst 1, 1) := by decide +kernel
theorem dX4_go_122 : decode cX4_go 122 = .ok (.invokevirtual 108, 3) := by decide +kernel
theorem dX4_go_125 : decode cX4_go 125 = .ok (.aload_n 0, 1) := by decide +kernel
theorem dX4_go_126 : decode cX4_go 126 = .ok (.getfield 15, 3) := by decide +kernel
theorem dX4_go_129 : decode cX4_go 129 = .ok (.iload_n 1, 1) := by decide +kernel
theorem dX4_go_130 : decode cX4_go 130 = .ok (.iaload, 1) := by decide +kernel
theorem dX4_go_131 : decode cX4_go 131 = .ok (.sipush 200, 3) := by decide +kernel
theorem dX4_go_134 : decode cX4_go 134 = .ok (.if_icmp .ne 13, 3) := by decide +kernel
theorem dX4_go_137 : decode cX4_go 137 = .ok (.aload_n 0, 1) := by decide +kernel
theorem dX4_go_138 : decode cX4_go 138 = .ok (.getfield 31, 3) := by decide +kernel
theorem dX4_go_141 : decode cX4_go 141 = .ok (.iload_n 1, 1) := by decide +kernel
theorem dX4_go_142 : decode cX4_go 142 = .ok (.aload_n 0, 1) := by decide +kernel
theorem dX4_go_143 : decode cX4_go 143 = .ok (.getfield 52, 3) := by decide +kernel
theorem dX4_go_146 : decode cX4_go 146 = .ok (.iastore, 1) := by decide +kernel
theorem dX4_go_147 : decode cX4_go 147 = .ok (.return_, 1) := by decide +kernel
set_option maxRecDepth 20000 in
theorem ggX4_go__X4_isIn : GoodIn wsX4_go_ wsX4_isIn := goodIn_r _ [7, 8, 52, 53, 54, 55, 56, 57, 58, 59, 60, 61, 62, 63] (by decide +kernel) (by decide +kernel)
set_option maxRecDepth 20000 in
theorem gX4_go__X4_isIn : GoodIn wsX4_go_ (wsV RX4 60 RX4 yX4_isIn wsX4_isIn) := goodIn_app (goodIn_of _ (by decide +kernel)) ggX4_go__X4_isIn
set_option maxRecDepth 20000 in
theorem ggX4_go__X4_go : GoodIn wsX4_go_ wsX4_go := goodIn_r _ [12, 13, 14, 15, 16, 17, 18, 1, 19, 20, 21, 22, 23, 2, 8, 24, 25, 26, 6, 27, 28, 29, 30, 31, 32, 33, 34, 35, 36, 37, 38, 39, 40, 41, 42, 43, 44, 45, 46, 47, 48, 49, 50, 51, 52, 53, 54, 55, 56, 57, 58, 59, 60, 61, 62, 63, 64, 65, 66, 67, 68, 69, 70, 71, 72] (by decide +kernel) (by decide +kernel)
set_option maxRecDepth 20000 in
theorem gX4_go__X4_go : GoodIn wsX4_go_ (wsV RX4 115 RX4 yX4_go wsX4_go) := goodIn_app (goodIn_of _ (by decide +kernel)) ggX4_go__X4_go
theorem dX4_go__0 : decode cX4_go_ 0 = .ok (.iconst 0, 1) := by decide +kernel
theorem dX4_go__1 : decode cX4_go_ 1 = .ok (.istore_n 1, 1) := by decide +kernel
theorem dX4_go__2 : decode cX4_go_ 2 = .ok (.iload_n 1, 1) := by decide +kernel
theorem dX4_go__3 : decode cX4_go_ 3 = .ok (.aload_n 0, 1) := by decide +kernel
theorem dX4_go__4 : decode cX4_go_ 4 = .ok (.getfield 3, 3) := by decide +kernel
theorem dX4_go__7 : decode cX4_go_ 7 = .ok (.getfield 112, 3) := by decide +kernel
theorem dX4_go__10 : decode cX4_go_ 10 = .ok (.if_icmp .ge 22, 3) := by decide +kernel
theorem dX4_go__13 : decode cX4_go_ 13 = .ok (.aload_n 0, 1) := by decide +kernel
theorem dX4_go__14 : decode cX4_go_ 14 = .ok (.iload_n 1, 1) := by decide +kernel
theorem dX4_go__15 : decode cX4_go_ 15 = .ok (.invokevirtual 60, 3) := by decide +kernel
theorem dX4_go__18 : decode cX4_go_ 18 = .ok (.ifCond .ne 8, 3) := by decide +kernel
theorem dX4_go__21 : decode cX4_go_ 21 = .ok (.aload_n 0, 1) := by decide +kernel
theorem dX4_go__22 : decode cX4_go_ 22 = .ok (.iload_n 1, 1) := by decide +kernel
theorem dX4_go__23 : decode cX4_go_ 23 = .ok (.invokevirtual 115, 3) := by decide +kernel
theorem dX4_go__26 : decode cX4_go_ 26 = .ok (.iinc 1 1, 3) := by decide +kernel
theorem dX4_go__29 : decode cX4_go_ 29 = .ok (.goto (-27), 3) := by decide +kernel
theorem dX4_go__32 : decode cX4_go_ 32 = .ok (.aload_n 0, 1) := by decide +kernel
theorem dX4_go__33 : decode cX4_go_ 33 = .ok (.dup, 1) := by decide +kernel
theorem dX4_go__34 : decode cX4_go_ 34 = .ok (.getfield 52, 3) := by decide +kernel
theorem dX4_go__37 : decode cX4_go_ 37 = .ok (.iconst 1, 1) := by decide +kernel
theorem dX4_go__38 : decode cX4_go_ 38 = .ok (.iadd, 1) := by decide +kernel
theorem dX4_go__39 : decode cX4_go_ 39 = .ok (.putfield 52, 3) := by decide +kernel
theorem dX4_go__42 : decode cX4_go_ 42 = .ok (.return_, 1) := by decide +kernel
set_option maxRecDepth 20000 in
theorem ggX4_in_X4_isIn : GoodIn wsX4_in wsX4_isIn := goodIn_r _ [6, 7, 8, 9, 10, 11, 12, 13, 14, 15, 16, 17, 18, 19] (by decide +kernel) (by decide +kernel)
set_option maxRecDepth 20000 in
theorem gX4_in_X4_isIn : GoodIn wsX4_in (wsV RX4 60 RX4 yX4_isIn wsX4_isIn) := goodIn_app (goodIn_of _ (by decide +kernel)) ggX4_in_X4_isIn
theorem dX4_in_0 : decode cX4_in 0 = .ok (.iconst 0, 1) := by decide +kernel
theorem dX4_in_1 : decode cX4_in 1 = .ok (.istore_n 1, 1) := by decide +kernel
theorem dX4_in_2 : decode cX4_in 2 = .ok (.iconst 0, 1) := by decide +kernel
theorem dX4_in_3 : decode cX4_in 3 = .ok (.istore_n 2, 1) := by decide +kernel
theorem dX4_in_4 : decode cX4_in 4 = .ok (.iload_n 2, 1) := by decide +kernel
theorem dX4_in_5 : decode cX4_in 5 = .ok (.aload_n 0, 1) := by decide +kernel
theorem dX4_in_6 : decode cX4_in 6 = .ok (.getfield 3, 3) := by decide +kernel
theorem dX4_in_9 : decode cX4_in 9 = .ok (.getfield 112, 3) := by decide +kernel
theorem dX4_in_12 : decode cX4_in 12 = .ok (.if_icmp .ge 25, 3) := by decide +kernel
theorem dX4_in_15 : decode cX4_in 15 = .ok (.iload_n 1, 1) := by decide +kernel
theorem dX4_in_16 : decode cX4_in 16 = .ok (.aload_n 0, 1) := by decide +kernel
theorem dX4_in_17 : decode cX4_in 17 = .ok (.iload_n 2, 1) := by decide +kernel
theorem dX4_in_18 : decode cX4_in 18 = .ok (.invokevirtual 60, 3) := by decide +kernel
theorem dX4_in_21 : decode cX4_in 21 = .ok (.ifCond .eq 7, 3) := by decide +kernel
theorem dX4_in_24 : decode cX4_in 24 = .ok (.iconst 1, 1) := by decide +kernel
theorem dX4_in_25 : decode cX4_in 25 = .ok (.goto 4, 3) := by decide +kernel
theorem dX4_in_28 : decode cX4_in 28 = .ok (.iconst 0, 1) := by decide +kernel
theorem dX4_in_29 : decode cX4_in 29 = .ok (.iadd, 1) := by decide +kernel
theorem dX4_in_30 : decode cX4_in 30 = .ok (.istore_n 1, 1) := by decide +kernel
theorem dX4_in_31 : decode cX4_in 31 = .ok (.iinc 2 1, 3) := by decide +kernel
theorem dX4_in_34 : decode cX4_in 34 = .ok (.goto (-30), 3) := by decide +kernel
theorem dX4_in_37 : decode cX4_in 37 = .ok (.iload_n 1, 1) := by decide +kernel
theorem dX4_in_38 : decode cX4_in 38 = .ok (.ireturn, 1) := by decide +kernel
set_option maxRecDepth 20000 in
theorem ggX4_counted_X4_isIn : GoodIn wsX4_counted wsX4_isIn := goodIn_r _ [10, 11, 20, 21, 22, 23, 24, 25, 26, 27, 28, 29, 30, 31] (by decide +kernel) (by decide +kernel)
set_option maxRecDepth 20000 in
theorem gX4_counted_X4_isIn : GoodIn wsX4_counted (wsV RX4 60 RX4 yX4_isIn wsX4_isIn) := goodIn_app (goodIn_of _ (by decide +kernel)) ggX4_counted_X4_isIn
set_option maxRecDepth 20000 in
theorem ggX4_counted_X4_time : GoodIn wsX4_counted wsX4_time := goodIn_r _ [15, 11, 2, 6, 7, 8, 9, 10, 20, 21, 22, 23, 24, 25, 26, 27, 28, 29, 30, 31] (by decide +kernel) (by decide +kernel)
set_option maxRecDepth 20000 in
theorem gX4_counted_X4_time : GoodIn wsX4_counted (wsV RX4 118 RX4 yX4_time wsX4_time) := goodIn_app (goodIn_of _ (by decide +kernel)) ggX4_counted_X4_time
set_option maxRecDepth 20000 in
theorem ggX4_counted_X4_in : GoodIn wsX4_counted wsX4_in := goodIn_r _ [19, 1, 6, 7, 8, 9, 10, 11, 20, 21, 22, 23, 24, 25, 26, 27, 28, 29, 30, 31, 32, 33, 34, 35, 36, 37, 38, 39, 40] (by decide +kernel) (by decide +kernel)
set_option maxRecDepth 20000 in
theorem gX4_counted_X4_in : GoodIn wsX4_counted (wsV RX4 121 RX4 yX4_in wsX4_in) := goodIn_app (goodIn_of _ (by decide +kernel)) ggX4_counted_X4_in
theorem dX4_counted_0 : decode cX4_counted 0 = .ok (.iconst 0, 1) := by decide +kernel
theorem dX4_counted_1 : decode cX4_counted 1 = .ok (.istore_n 2, 1) := by decide +kernel
theorem dX4_counted_2 : decode cX4_counted 2 = .ok (.iconst (-1), 1) := by decide +kernel
theorem dX4_counted_3 : decode cX4_counted 3 = .ok (.istore_n 3, 1) := by decide +kernel
theorem dX4_counted_4 : decode cX4_counted 4 = .ok (.iconst (-1), 1) := by decide +kernel
theorem dX4_counted_5 : decode cX4_counted 5 = .ok (.istore 4, 2) := by decide +kernel
theorem dX4_counted_7 : decode cX4_counted 7 = .ok (.iconst 0, 1) := by decide +kernel
theorem dX4_counted_8 : decode cX4_counted 8 = .ok (.istore 5, 2) := by decide +kernel
theorem dX4_counted_10 : decode cX4_counted 10 = .ok (.iload 5, 2) := by decide +kernel
theorem dX4_counted_12 : decode cX4_counted 12 = .ok (.aload_n 0, 1) := by decide +kernel
theorem dX4_counted_13 : decode cX4_counted 13 = .ok (.getfield 3, 3) := by decide +kernel
theorem dX4_counted_16 : decode cX4_counted 16 = .ok (.getfield 112, 3) := by decide +kernel
theorem dX4_counted_19 : decode cX4_counted 19 = .ok (.if_icmp .ge 89, 3) := by decide +kernel
theorem dX4_counted_22 : decode cX4_counted 22 = .ok (.iload_n 2, 1) := by decide +kernel
theorem dX4_counted_23 : decode cX4_counted 23 = .ok (.aload_n 0, 1) := by decide +kernel
theorem dX4_counted_24 : decode cX4_counted 24 = .ok (.getfield 28, 3) := by decide +kernel
theorem dX4_counted_27 : decode cX4_counted 27 = .ok (.iload 5, 2) := by decide +kernel
theorem dX4_counted_29 : decode cX4_counted 29 = .ok (.iaload, 1) := by decide +kernel
theorem dX4_counted_30 : decode cX4_counted 30 = .ok (.iadd, 1) := by decide +kernel
theorem dX4_counted_31 : decode cX4_counted 31 = .ok (.istore_n 2, 1) := by decide +kernel
theorem dX4_counted_32 : decode cX4_counted 32 = .ok (.aload_n 0, 1) := by decide +kernel
theorem dX4_counted_33 : decode cX4_counted 33 = .ok (.iload 5, 2) := by decide +kernel
theorem dX4_counted_35 : decode cX4_counted 35 = .ok (.invokevirtual 60, 3) := by decide +kernel
theorem dX4_counted_38 : decode cX4_counted 38 = .ok (.ifCond .eq 36, 3) := by decide +kernel
theorem dX4_counted_41 : decode cX4_counted 41 = .ok (.iload 4, 2) := by decide +kernel
theorem dX4_counted_43 : decode cX4_counted 43 = .ok (.iconst (-1), 1) := by decide +kernel
theorem dX4_counted_44 : decode cX4_counted 44 = .ok (.if_icmp .eq 18, 3) := by decide +kernel
theorem dX4_counted_47 : decode cX4_counted 47 = .ok (.aload_n 0, 1) := by decide +kernel
theorem dX4_counted_48 : decode cX4_counted 48 = .ok (.iload 5, 2) := by decide +kernel
theorem dX4_counted_50 : decode cX4_counted 50 = .ok (.invokevirtual 118, 3) := by decide +kernel
theorem dX4_counted_53 : decode cX4_counted 53 = .ok (.aload_n 0, 1) := by decide +kernel
theorem dX4_counted_54 : decode cX4_counted 54 = .ok (.iload 4, 2) := by decide +kernel
theorem dX4_counted_56 : decode cX4_counted 56 = .ok (.invokevirtual 118, 3) := by decide +kernel
theorem dX4_counted_59 : decode cX4_counted 59 = .ok (.if_icmp .ge 8, 3) := by decide +kernel
theorem dX4_counted_62 : decode cX4_counted 62 = .ok (.iload 5, 2) := by decide +kernel
theorem dX4_counted_64 : decode cX4_counted 64 = .ok (.goto 5, 3) := by decide +kernel
theorem dX4_counted_67 : decode cX4_counted 67 = .ok (.iload 4, 2) := by decide +kernel
theorem dX4_counted_69 : decode cX4_counted 69 = .ok (.istore 4, 2) := by decide +kernel
theorem dX4_counted_71 : decode cX4_counted 71 = .ok (.goto 31, 3) := by decide +kernel
theorem dX4_counted_74 : decode cX4_counted 74 = .ok (.iload_n 3, 1) := by decide +kernel
theorem dX4_counted_75 : decode cX4_counted 75 = .ok (.iconst (-1), 1) := by decide +kernel
theorem dX4_counted_76 : decode cX4_counted 76 = .ok (.if_icmp .eq 19, 3) := by decide +kernel
theorem dX4_counted_79 : decode cX4_counted 79 = .ok (.aload_n 0, 1) := by decide +kernel
theorem dX4_counted_80 : decode cX4_counted 80 = .ok (.getfield 15, 3) := by decide +kernel
theorem dX4_counted_83 : decode cX4_counted 83 = .ok (.iload 5, 2) := by decide +kernel
theorem dX4_counted_85 : decode cX4_counted 85 = .ok (.iaload, 1) := by decide +kernel
theorem dX4_counted_86 : decode cX4_counted 86 = .ok (.aload_n 0, 1) := by decide +kernel
theorem dX4_counted_87 : decode cX4_counted 87 = .ok (.getfield 15, 3) := by decide +kernel
theorem dX4_counted_90 : decode cX4_counted 90 = .ok (.iload_n 3, 1) := by decide +kernel
theorem dX4_counted_91 : decode cX4_counted 91 = .ok (.iaload, 1) := by decide +kernel
theorem dX4_counted_92 : decode cX4_counted 92 = .ok (.if_icmp .le 8, 3) := by decide +kernel
theorem dX4_counted_95 : decode cX4_counted 95 = .ok (.iload 5, 2) := by decide +kernel
theorem dX4_counted_97 : decode cX4_counted 97 = .ok (.goto 4, 3) := by decide +kernel
theorem dX4_counted_100 : decode cX4_counted 100 = .ok (.iload_n 3, 1) := by decide +kernel
theorem dX4_counted_101 : decode cX4_counted 101 = .ok (.istore_n 3, 1) := by decide +kernel
theorem dX4_counted_102 : decode cX4_counted 102 = .ok (.iinc 5 1, 3) := by decide +kernel
theorem dX4_counted_105 : decode cX4_counted 105 = .ok (.goto (-95), 3) := by decide +kernel
theorem dX4_counted_108 : decode cX4_counted 108 = .ok (.bipush 7, 2) := by decide +kernel
theorem dX4_counted_110 : decode cX4_counted 110 = .ok (.newarray .int, 2) := by decide +kernel
theorem dX4_counted_112 : decode cX4_counted 112 = .ok (.dup, 1) := by decide +kernel
theorem dX4_counted_113 : decode cX4_counted 113 = .ok (.iconst 0, 1) := by decide +kernel
theorem dX4_counted_114 : decode cX4_counted 114 = .ok (.aload_n 0, 1) := by decide +kernel
theorem dX4_counted_115 : decode cX4_counted 115 = .ok (.getfield 52, 3) := by decide +kernel
theorem dX4_counted_118 : decode cX4_counted 118 = .ok (.iastore, 1) := by decide +kernel
theorem dX4_counted_119 : decode cX4_counted 119 = .ok (.dup, 1) := by decide +kernel
theorem dX4_counted_120 : decode cX4_counted 120 = .ok (.iconst 1, 1) := by decide +kernel
theorem dX4_counted_121 : decode cX4_counted 121 = .ok (.aload_n 0, 1) := by decide +kernel
theorem dX4_counted_122 : decode cX4_counted 122 = .ok (.getfield 3, 3) := by decide +kernel
theorem dX4_counted_125 : decode cX4_counted 125 = .ok (.getfield 112, 3) := by decide +kernel
theorem dX4_counted_128 : decode cX4_counted 128 = .ok (.iastore, 1) := by decide +kernel
theorem dX4_counted_129 : decode cX4_counted 129 = .ok (.dup, 1) := by decide +kernel
theorem dX4_counted_130 : decode cX4_counted 130 = .ok (.iconst 2, 1) := by decide +kernel
theorem dX4_counted_131 : decode cX4_counted 131 = .ok (.aload_n 0, 1) := by decide +kernel
theorem dX4_counted_132 : decode cX4_counted 132 = .ok (.getfield 3, 3) := by decide +kernel
theorem dX4_counted_135 : decode cX4_counted 135 = .ok (.getfield 86, 3) := by decide +kernel
theorem dX4_counted_138 : decode cX4_counted 138 = .ok (.iastore, 1) := by decide +kernel
theorem dX4_counted_139 : decode cX4_counted 139 = .ok (.dup, 1) := by decide +kernel
theorem dX4_counted_140 : decode cX4_counted 140 = .ok (.iconst 3, 1) := by decide +kernel
theorem dX4_counted_141 : decode cX4_counted 141 = .ok (.aload_n 0, 1) := by decide +kernel
theorem dX4_counted_142 : decode cX4_counted 142 = .ok (.invokevirtual 121, 3) := by decide +kernel
theorem dX4_counted_145 : decode cX4_counted 145 = .ok (.iastore, 1) := by decide +kernel
theorem dX4_counted_146 : decode cX4_counted 146 = .ok (.dup, 1) := by decide +kernel
theorem dX4_counted_147 : decode cX4_counted 147 = .ok (.iconst 4, 1) := by decide +kernel
theorem dX4_counted_148 : decode cX4_counted 148 = .ok (.iload_n 2, 1) := by decide +kernel
theorem dX4_counted_149 : decode cX4_counted 149 = .ok (.iastore, 1) := by decide +kernel
theorem dX4_counted_150 : decode cX4_counted 150 = .ok (.dup, 1) := by decide +kernel
theorem dX4_counted_151 : decode cX4_counted 151 = .ok (.iconst 5, 1) := by decide +kernel
theorem dX4_counted_152 : decode cX4_counted 152 = .ok (.iload_n 3, 1) := by decide +kernel
theorem dX4_counted_153 : decode cX4_counted 153 = .ok (.iastore, 1) := by decide +kernel
theorem dX4_counted_154 : decode cX4_counted 154 = .ok (.dup, 1) := by decide +kernel
theorem dX4_counted_155 : decode cX4_counted 155 = .ok (.bipush 6, 2) := by decide +kernel
theorem dX4_counted_157 : decode cX4_counted 157 = .ok (.iload 4, 2) := by decide +kernel
theorem dX4_counted_159 : decode cX4_counted 159 = .ok (.iastore, 1) := by decide +kernel
theorem dX4_counted_160 : decode cX4_counted 160 = .ok (.astore 5, 2) := by decide +kernel
theorem dX4_counted_162 : decode cX4_counted 162 = .ok (.aload 5, 2) := by decide +kernel
theorem dX4_counted_164 : decode cX4_counted 164 = .ok (.iload_n 1, 1) := by decide +kernel
theorem dX4_counted_165 : decode cX4_counted 165 = .ok (.iaload, 1) := by decide +kernel
theorem dX4_counted_166 : decode cX4_counted 166 = .ok (.ireturn, 1) := by decide +kernel
set_option maxRecDepth 20000 in
theorem ggX5_init_X4_init : GoodIn wsX5_init wsX4_init := goodIn_r _ [15, 16, 17, 2, 3, 4, 18, 19, 20, 21, 22, 23, 24, 25, 26, 27, 37, 38, 39, 40, 41, 42, 43, 44, 45, 46, 47, 48] (by decide +kernel) (by decide +kernel)
set_option maxRecDepth 20000 in
theorem gX5_init_X4_init_n24 : GoodIn wsX5_init (wsX4_init) := ggX5_init_X4_init
theorem dX5_init_0 : decode cX5_init 0 = .ok (.aload_n 0, 1) := by decide +kernel
theorem dX5_init_1 : decode cX5_init 1 = .ok (.invokespecial 1, 3) := by decide +kernel
theorem dX5_init_4 : decode cX5_init 4 = .ok (.aload_n 0, 1) := by decide +kernel
theorem dX5_init_5 : decode cX5_init 5 = .ok (.iconst 5, 1) := by decide +kernel
theorem dX5_init_6 : decode cX5_init 6 = .ok (.newarray .int, 2) := by decide +kernel
theorem dX5_init_8 : decode cX5_init 8 = .ok (.dup, 1) := by decide +kernel
theorem dX5_init_9 : decode cX5_init 9 = .ok (.iconst 0, 1) := by decide +kernel
theorem dX5_init_10 : decode cX5_init 10 = .ok (.iconst 1, 1) := by decide +kernel
theorem dX5_init_11 : decode cX5_init 11 = .ok (.iastore, 1) := by decide +kernel
theorem dX5_init_12 : decode cX5_init 12 = .ok (.dup, 1) := by decide +kernel
theorem dX5_init_13 : decode cX5_init 13 = .ok (.iconst 1, 1) := by decide +kernel
theorem dX5_init_14 : decode cX5_init 14 = .ok (.iconst 2, 1) := by decide +kernel
theorem dX5_init_15 : decode cX5_init 15 = .ok (.iastore, 1) := by decide +kernel
theorem dX5_init_16 : decode cX5_init 16 = .ok (.dup, 1) := by decide +kernel
theorem dX5_init_17 : decode cX5_init 17 = .ok (.iconst 2, 1) := by decide +kernel
theorem dX5_init_18 : decode cX5_init 18 = .ok (.iconst 3, 1) := by decide +kernel
theorem dX5_init_19 : decode cX5_init 19 = .ok (.iastore, 1) := by decide +kernel
theorem dX5_init_20 : decode cX5_init 20 = .ok (.dup, 1) := by decide +kernel
theorem dX5_init_21 : decode cX5_init 21 = .ok (.iconst 3, 1) := by decide +kernel
theorem dX5_init_22 : decode cX5_init 22 = .ok (.iconst 2, 1) := by decide +kernel
theorem dX5_init_23 : decode cX5_init 23 = .ok (.iastore, 1) := by decide +kernel
theorem dX5_init_24 : decode cX5_init 24 = .ok (.dup, 1) := by decide +kernel
theorem dX5_init_25 : decode cX5_init 25 = .ok (.iconst 4, 1) := by decide +kernel
theorem dX5_init_26 : decode cX5_init 26 = .ok (.iconst 1, 1) := by decide +kernel
theorem dX5_init_27 : decode cX5_init 27 = .ok (.iastore, 1) := by decide +kernel
theorem dX5_init_28 : decode cX5_init 28 = .ok (.putfield 7, 3) := by decide +kernel
theorem dX5_init_31 : decode cX5_init 31 = .ok (.aload_n 0, 1) := by decide +kernel
theorem dX5_init_32 : decode cX5_init 32 = .ok (.bipush 6, 2) := by decide +kernel
theorem dX5_init_34 : decode cX5_init 34 = .ok (.newarray .int, 2) := by decide +kernel
theorem dX5_init_36 : decode cX5_init 36 = .ok (.putfield 13, 3) := by decide +kernel
theorem dX5_init_39 : decode cX5_init 39 = .ok (.aload_n 0, 1) := by decide +kernel
theorem dX5_init_40 : decode cX5_init 40 = .ok (.bipush 6, 2) := by decide +kernel
theorem dX5_init_42 : decode cX5_init 42 = .ok (.newarray .int, 2) := by decide +kernel
theorem dX5_init_44 : decode cX5_init 44 = .ok (.putfield 16, 3) := by decide +kernel
theorem dX5_init_47 : decode cX5_init 47 = .ok (.aload_n 0, 1) := by decide +kernel
theorem dX5_init_48 : decode cX5_init 48 = .ok (.bipush 6, 2) := by decide +kernel
theorem dX5_init_50 : decode cX5_init 50 = .ok (.newarray .int, 2) := by decide +kernel
theorem dX5_init_52 : decode cX5_init 52 = .ok (.putfield 19, 3) := by decide +kernel
theorem dX5_init_55 : decode cX5_init 55 = .ok (.aload_n 0, 1) := by decide +kernel
theorem dX5_init_56 : decode cX5_init 56 = .ok (.new 22, 3) := by decide +kernel
theorem dX5_init_59 : decode cX5_init 59 = .ok (.dup, 1) := by decide +kernel
theorem dX5_init_60 : decode cX5_init 60 = .ok (.aload_n 0, 1) := by decide +kernel
theorem dX5_init_61 : decode cX5_init 61 = .ok (.invokespecial 24, 3) := by decide +kernel
theorem dX5_init_64 : decode cX5_init 64 = .ok (.putfield 27, 3) := by decide +kernel
theorem dX5_init_67 : decode cX5_init 67 = .ok (.aload_n 0, 1) := by decide +kernel
theorem dX5_init_68 : decode cX5_init 68 = .ok (.new 22, 3) := by decide +kernel
theorem dX5_init_71 : decode cX5_init 71 = .ok (.dup, 1) := by decide +kernel
theorem dX5_init_72 : decode cX5_init 72 = .ok (.aload_n 0, 1) := by decide +kernel
theorem dX5_init_73 : decode cX5_init 73 = .ok (.invokespecial 24, 3) := by decide +kernel
theorem dX5_init_76 : decode cX5_init 76 = .ok (.putfield 31, 3) := by decide +kernel
theorem dX5_init_79 : decode cX5_init 79 = .ok (.return_, 1) := by decide +kernel
theorem dX5_thrown_0 : decode cX5_thrown 0 = .ok (.aload_n 0, 1) := by decide +kernel
theorem dX5_thrown_1 : decode cX5_thrown 1 = .ok (.getfield 34, 3) := by decide +kernel
theorem dX5_thrown_4 : decode cX5_thrown 4 = .ok (.ireturn, 1) := by decide +kernel
theorem dX5_no_0 : decode cX5_no 0 = .ok (.aload_n 0, 1) := by decide +kernel
theorem dX5_no_1 : decode cX5_no 1 = .ok (.iload_n 1, 1) := by decide +kernel
theorem dX5_no_2 : decode cX5_no 2 = .ok (.putfield 34, 3) := by decide +kernel
theorem dX5_no_5 : decode cX5_no 5 = .ok (.iconst 0, 1) := by decide +kernel
theorem dX5_no_6 : decode cX5_no 6 = .ok (.ireturn, 1) := by decide +kernel
theorem dX5_isFrom_0 : decode cX5_isFrom 0 = .ok (.iload_n 0, 1) := by decide +kernel
theorem dX5_isFrom_1 : decode cX5_isFrom 1 = .ok (.iload_n 1, 1) := by decide +kernel
theorem dX5_isFrom_2 : decode cX5_isFrom 2 = .ok (.if_icmp .lt 12, 3) := by decide +kernel
theorem dX5_isFrom_5 : decode cX5_isFrom 5 = .ok (.iload_n 0, 1) := by decide +kernel
theorem dX5_isFrom_6 : decode cX5_isFrom 6 = .ok (.iload_n 2, 1) := by decide +kernel
theorem dX5_isFrom_7 : decode cX5_isFrom 7 = .ok (.if_icmp .gt 7, 3) := by decide +kernel
theorem dX5_isFrom_10 : decode cX5_isFrom 10 = .ok (.iconst 1, 1) := by decide +kernel
theorem dX5_isFrom_11 : decode cX5_isFrom 11 = .ok (.goto 4, 3) := by decide +kernel
theorem dX5_isFrom_14 : decode cX5_isFrom 14 = .ok (.iconst 0, 1) := by decide +kernel
theorem dX5_isFrom_15 : decode cX5_isFrom 15 = .ok (.ireturn, 1) := by decide +kernel
set_option maxRecDepth 20000 in
theorem ggX5_isBoat_X5_isFrom : GoodIn wsX5_isBoat wsX5_isFrom := goodIn_r _ [5] (by decide +kernel) (by decide +kernel)
set_option maxRecDepth 20000 in
theorem gX5_isBoat_X5_isFrom : GoodIn wsX5_isBoat (va_wsS RX5 41 yX5_isFrom wsX5_isFrom) := goodIn_app (goodIn_of _ (by decide +kernel)) ggX5_isBoat_X5_isFrom
theorem dX5_isBoat_0 : decode cX5_isBoat 0 = .ok (.iload_n 1, 1) := by decide +kernel
theorem dX5_isBoat_1 : decode cX5_isBoat 1 = .ok (.iconst 0, 1) := by decide +kernel
theorem dX5_isBoat_2 : decode cX5_isBoat 2 = .ok (.aload_n 0, 1) := by decide +kernel
theorem dX5_isBoat_3 : decode cX5_isBoat 3 = .ok (.getfield 38, 3) := by decide +kernel
theorem dX5_isBoat_6 : decode cX5_isBoat 6 = .ok (.iconst 1, 1) := by decide +kernel
theorem dX5_isBoat_7 : decode cX5_isBoat 7 = .ok (.isub, 1) := by decide +kernel
theorem dX5_isBoat_8 : decode cX5_isBoat 8 = .ok (.invokestatic 41, 3) := by decide +kernel
theorem dX5_isBoat_11 : decode cX5_isBoat 11 = .ok (.ireturn, 1) := by decide +kernel
set_option maxRecDepth 20000 in
theorem ggX5_setWater_X5_isFrom : GoodIn wsX5_setWater wsX5_isFrom := goodIn_r _ [6] (by decide +kernel) (by decide +kernel)
set_option maxRecDepth 20000 in
theorem gX5_setWater_X5_isFrom : GoodIn wsX5_setWater (va_wsS RX5 41 yX5_isFrom wsX5_isFrom) := goodIn_app (goodIn_of _ (by decide +kernel)) ggX5_setWater_X5_isFrom
set_option maxRecDepth 20000 in
theorem ggX5_setWater_X5_no : GoodIn wsX5_setWater wsX5_no := goodIn_r _ [10, 1, 11, 12, 13, 14, 15, 16, 17, 18, 19] (by decide +kernel) (by decide +kernel)
set_option maxRecDepth 20000 in
theorem gX5_setWater_X5_no : GoodIn wsX5_setWater (wsV RX5 45 RX5 yX5_no wsX5_no) := goodIn_app (goodIn_of _ (by decide +kernel)) ggX5_setWater_X5_no
theorem dX5_setWater_0 : decode cX5_setWater 0 = .ok (.aload_n 0, 1) := by decide +kernel
theorem dX5_setWater_1 : decode cX5_setWater 1 = .ok (.iconst 0, 1) := by decide +kernel
theorem dX5_setWater_2 : decode cX5_setWater 2 = .ok (.putfield 34, 3) := by decide +kernel
theorem dX5_setWater_5 : decode cX5_setWater 5 = .ok (.iload_n 1, 1) := by decide +kernel
theorem dX5_setWater_6 : decode cX5_setWater 6 = .ok (.iconst 0, 1) := by decide +kernel
theorem dX5_setWater_7 : decode cX5_setWater 7 = .ok (.iconst 4, 1) := by decide +kernel
theorem dX5_setWater_8 : decode cX5_setWater 8 = .ok (.invokestatic 41, 3) := by decide +kernel
theorem dX5_setWater_11 : decode cX5_setWater 11 = .ok (.ifCond .ne 9, 3) := by decide +kernel
theorem dX5_setWater_14 : decode cX5_setWater 14 = .ok (.aload_n 0, 1) := by decide +kernel
theorem dX5_setWater_15 : decode cX5_setWater 15 = .ok (.iconst 1, 1) := by decide +kernel
theorem dX5_setWater_16 : decode cX5_setWater 16 = .ok (.invokevirtual 45, 3) := by decide +kernel
theorem dX5_setWater_19 : decode cX5_setWater 19 = .ok (.ireturn, 1) := by decide +kernel
theorem dX5_setWater_20 : decode cX5_setWater 20 = .ok (.iload_n 2, 1) := by decide +kernel
theorem dX5_setWater_21 : decode cX5_setWater 21 = .ok (.iconst 0, 1) := by decide +kernel
theorem dX5_setWater_22 : decode cX5_setWater 22 = .ok (.bipush 6, 2) := by decide +kernel
theorem dX5_setWater_24 : decode cX5_setWater 24 = .ok (.invokestatic 41, 3) := by decide +kernel
theorem dX5_setWater_27 : decode cX5_setWater 27 = .ok (.ifCond .ne 9, 3) := by decide +kernel
theorem dX5_setWater_30 : decode cX5_setWater 30 = .ok (.aload_n 0, 1) := by decide +kernel
theorem dX5_setWater_31 : decode cX5_setWater 31 = .ok (.iconst 2, 1) := by decide +kernel
theorem dX5_setWater_32 : decode cX5_setWater 32 = .ok (.invokevirtual 45, 3) := by decide +kernel
theorem dX5_setWater_35 : decode cX5_setWater 35 = .ok (.ireturn, 1) := by decide +kernel
theorem dX5_setWater_36 : decode cX5_setWater 36 = .ok (.aload_n 0, 1) := by decide +kernel
theorem dX5_setWater_37 : decode cX5_setWater 37 = .ok (.getfield 7, 3) := by decide +kernel
theorem dX5_setWater_40 : decode cX5_setWater 40 = .ok (.iload_n 1, 1) := by decide +kernel
theorem dX5_setWater_41 : decode cX5_setWater 41 = .ok (.iaload, 1) := by decide +kernel
theorem dX5_setWater_42 : decode cX5_setWater 42 = .ok (.istore_n 3, 1) := by decide +kernel
theorem dX5_setWater_43 : decode cX5_setWater 43 = .ok (.aload_n 0, 1) := by decide +kernel
theorem dX5_setWater_44 : decode cX5_setWater 44 = .ok (.getfield 7, 3) := by decide +kernel
theorem dX5_setWater_47 : decode cX5_setWater 47 = .ok (.iload_n 1, 1) := by decide +kernel
theorem dX5_setWater_48 : decode cX5_setWater 48 = .ok (.iload_n 2, 1) := by decide +kernel
theorem dX5_setWater_49 : decode cX5_setWater 49 = .ok (.iastore, 1) := by decide +kernel
theorem dX5_setWater_50 : decode cX5_setWater 50 = .ok (.iload_n 3, 1) := by decide +kernel
theorem dX5_setWater_51 : decode cX5_setWater 51 = .ok (.ireturn, 1) := by decide +kernel
set_option maxRecDepth 20000 in
theorem ggX5_weir_X5_isFrom : GoodIn wsX5_weir wsX5_isFrom := goodIn_r _ [8] (by decide +kernel) (by decide +kernel)
set_option maxRecDepth 20000 in
theorem gX5_weir_X5_isFrom : GoodIn wsX5_weir (va_wsS RX5 41 yX5_isFrom wsX5_isFrom) := goodIn_app (goodIn_of _ (by decide +kernel)) ggX5_weir_X5_isFrom
set_option maxRecDepth 20000 in
theorem ggX5_weir_X5_no : GoodIn wsX5_weir wsX5_no := goodIn_r _ [12, 1, 13, 14, 15, 16, 17, 18, 19, 20, 21] (by decide +kernel) (by decide +kernel)
set_option maxRecDepth 20000 in
theorem gX5_weir_X5_no : GoodIn wsX5_weir (wsV RX5 45 RX5 yX5_no wsX5_no) := goodIn_app (goodIn_of _ (by decide +kernel)) ggX5_weir_X5_no
theorem dX5_weir_0 : decode cX5_weir 0 = .ok (.aload_n 0, 1) := by decide +kernel
theorem dX5_weir_1 : decode cX5_weir 1 = .ok (.iconst 0, 1) := by decide +kernel
theorem dX5_weir_2 : decode cX5_weir 2 = .ok (.putfield 34, 3) := by decide +kernel
theorem dX5_weir_5 : decode cX5_weir 5 = .ok (.iload_n 1, 1) := by decide +kernel
theorem dX5_weir_6 : decode cX5_weir 6 = .ok (.iconst 1, 1) := by decide +kernel
theorem dX5_weir_7 : decode cX5_weir 7 = .ok (.sipush 199, 3) := by decide +kernel
theorem dX5_weir_10 : decode cX5_weir 10 = .ok (.invokestatic 41, 3) := by decide +kernel
theorem dX5_weir_13 : decode cX5_weir 13 = .ok (.ifCond .eq 12, 3) := by decide +kernel
theorem dX5_weir_16 : decode cX5_weir 16 = .ok (.iload_n 2, 1) := by decide +kernel
theorem dX5_weir_17 : decode cX5_weir 17 = .ok (.iconst 0, 1) := by decide +kernel
theorem dX5_weir_18 : decode cX5_weir 18 = .ok (.iconst 4, 1) := by decide +kernel
theorem dX5_weir_19 : decode cX5_weir 19 = .ok (.invokestatic 41, 3) := by decide +kernel
theorem dX5_weir_22 : decode cX5_weir 22 = .ok (.ifCond .ne 9, 3) := by decide +kernel
theorem dX5_weir_25 : decode cX5_weir 25 = .ok (.aload_n 0, 1) := by decide +kernel
theorem dX5_weir_26 : decode cX5_weir 26 = .ok (.iconst 1, 1) := by decide +kernel
theorem dX5_weir_27 : decode cX5_weir 27 = .ok (.invokevirtual 45, 3) := by decide +kernel
theorem dX5_weir_30 : decode cX5_weir 30 = .ok (.ireturn, 1) := by decide +kernel
theorem dX5_weir_31 : decode cX5_weir 31 = .ok (.aload_n 0, 1) := by decide +kernel
theorem dX5_weir_32 : decode cX5_weir 32 = .ok (.getfield 49, 3) := by decide +kernel
theorem dX5_weir_35 : decode cX5_weir 35 = .ok (.bipush 6, 2) := by decide +kernel
theorem dX5_weir_37 : decode cX5_weir 37 = .ok (.if_icmp .ge 7, 3) := by decide +kernel
theorem dX5_weir_40 : decode cX5_weir 40 = .ok (.iconst 1, 1) := by decide +kernel
theorem dX5_weir_41 : decode cX5_weir 41 = .ok (.goto 4, 3) := by decide +kernel
theorem dX5_weir_44 : decode cX5_weir 44 = .ok (.iconst 0, 1) := by decide +kernel
theorem dX5_weir_45 : decode cX5_weir 45 = .ok (.istore_n 3, 1) := by decide +kernel
theorem dX5_weir_46 : decode cX5_weir 46 = .ok (.iconst 0, 1) := by decide +kernel
theorem dX5_weir_47 : decode cX5_weir 47 = .ok (.istore 4, 2) := by decide +kernel
theorem dX5_weir_49 : decode cX5_weir 49 = .ok (.iload 4, 2) := by decide +kernel
theorem dX5_weir_51 : decode cX5_weir 51 = .ok (.aload_n 0, 1) := by decide +kernel
theorem dX5_weir_52 : decode cX5_weir 52 = .ok (.getfield 49, 3) := by decide +kernel
theorem dX5_weir_55 : decode cX5_weir 55 = .ok (.if_icmp .ge 28, 3) := by decide +kernel
theorem dX5_weir_58 : decode cX5_weir 58 = .ok (.iload_n 3, 1) := by decide +kernel
theorem dX5_weir_59 : decode cX5_weir 59 = .ok (.aload_n 0, 1) := by decide +kernel
theorem dX5_weir_60 : decode cX5_weir 60 = .ok (.getfield 13, 3) := by decide +kernel
theorem dX5_weir_63 : decode cX5_weir 63 = .ok (.iload 4, 2) := by decide +kernel
theorem dX5_weir_65 : decode cX5_weir 65 = .ok (.iaload, 1) := by decide +kernel
theorem dX5_weir_66 : decode cX5_weir 66 = .ok (.iload_n 1, 1) := by decide +kernel
theorem dX5_weir_67 : decode cX5_weir 67 = .ok (.if_icmp .eq 7, 3) := by decide +kernel
theorem dX5_weir_70 : decode cX5_weir 70 = .ok (.iconst 1, 1) := by decide +kernel
theorem dX5_weir_71 : decode cX5_weir 71 = .ok (.goto 4, 3) := by decide +kernel
theorem dX5_weir_74 : decode cX5_weir 74 = .ok (.iconst 0, 1) := by decide +kernel
theorem dX5_weir_75 : decode cX5_weir 75 = .ok (.iand, 1) := by decide +kernel
theorem dX5_weir_76 : decode cX5_weir 76 = .ok (.istore_n 3, 1) := by decide +kernel
theorem dX5_weir_77 : decode cX5_weir 77 = .ok (.iinc 4 1, 3) := by decide +kernel
theorem dX5_weir_80 : decode cX5_weir 80 = .ok (.goto (-31), 3) := by decide +kernel
theorem dX5_weir_83 : decode cX5_weir 83 = .ok (.iload_n 3, 1) := by decide +kernel
theorem dX5_weir_84 : decode cX5_weir 84 = .ok (.ifCond .ne 9, 3) := by decide +kernel
theorem dX5_weir_87 : decode cX5_weir 87 = .ok (.aload_n 0, 1) := by decide +kernel
theorem dX5_weir_88 : decode cX5_weir 88 = .ok (.iconst 2, 1) := by decide +kernel
theorem dX5_weir_89 : decode cX5_weir 89 = .ok (.invokevirtual 45, 3) := by decide +kernel
theorem dX5_weir_92 : decode cX5_weir 92 = .ok (.ireturn, 1) := by decide +kernel
theorem dX5_weir_93 : decode cX5_weir 93 = .ok (.aload_n 0, 1) := by decide +kernel
theorem dX5_weir_94 : decode cX5_weir 94 = .ok (.getfield 13, 3) := by decide +kernel
theorem dX5_weir_97 : decode cX5_weir 97 = .ok (.aload_n 0, 1) := by decide +kernel
theorem dX5_weir_98 : decode cX5_weir 98 = .ok (.getfield 49, 3) := by decide +kernel
theorem dX5_weir_101 : decode cX5_weir 101 = .ok (.iload_n 1, 1) := by decide +kernel
theorem dX5_weir_102 : decode cX5_weir 102 = .ok (.iastore, 1) := by decide +kernel
theorem dX5_weir_103 : decode cX5_weir 103 = .ok (.aload_n 0, 1) := by decide +kernel
theorem dX5_weir_104 : decode cX5_weir 104 = .ok (.getfield 16, 3) := by decide +kernel
theorem dX5_weir_107 : decode cX5_weir 107 = .ok (.aload_n 0, 1) := by decide +kernel
theorem dX5_weir_108 : decode cX5_weir 108 = .ok (.getfield 49, 3) := by decide +kernel
theorem dX5_weir_111 : decode cX5_weir 111 = .ok (.iload_n 2, 1) := by decide +kernel
theorem dX5_weir_112 : decode cX5_weir 112 = .ok (.iastore, 1) := by decide +kernel
theorem dX5_weir_113 : decode cX5_weir 113 = .ok (.aload_n 0, 1) := by decide +kernel
theorem dX5_weir_114 : decode cX5_weir 114 = .ok (.dup, 1) := by decide +kernel
theorem dX5_weir_115 : decode cX5_weir 115 = .ok (.getfield 49, 3) := by decide +kernel
theorem dX5_weir_118 : decode cX5_weir 118 = .ok (.iconst 1, 1) := by decide +kernel
theorem dX5_weir_119 : decode cX5_weir 119 = .ok (.iadd, 1) := by decide +kernel
theorem dX5_weir_120 : decode cX5_weir 120 = .ok (.putfield 49, 3) := by decide +kernel
theorem dX5_weir_123 : decode cX5_weir 123 = .ok (.aload_n 0, 1) := by decide +kernel
theorem dX5_weir_124 : decode cX5_weir 124 = .ok (.getfield 49, 3) := by decide +kernel
theorem dX5_weir_127 : decode cX5_weir 127 = .ok (.ireturn, 1) := by decide +kernel
set_option maxRecDepth 20000 in
theorem ggX5_launch_X5_isFrom : GoodIn wsX5_launch wsX5_isFrom := goodIn_r _ [8] (by decide +kernel) (by decide +kernel)
set_option maxRecDepth 20000 in
theorem gX5_launch_X5_isFrom : GoodIn wsX5_launch (va_wsS RX5 41 yX5_isFrom wsX5_isFrom) := goodIn_app (goodIn_of _ (by decide +kernel)) ggX5_launch_X5_isFrom
set_option maxRecDepth 20000 in
theorem ggX5_launch_X5_no : GoodIn wsX5_launch wsX5_no := goodIn_r _ [12, 1, 13, 14, 15, 16, 17, 18, 19, 20, 21] (by decide +kernel) (by decide +kernel)
set_option maxRecDepth 20000 in
theorem gX5_launch_X5_no : GoodIn wsX5_launch (wsV RX5 45 RX5 yX5_no wsX5_no) := goodIn_app (goodIn_of _ (by decide +kernel)) ggX5_launch_X5_no
theorem dX5_launch_0 : decode cX5_launch 0 = .ok (.aload_n 0, 1) := by decide +kernel
theorem dX5_launch_1 : decode cX5_launch 1 = .ok (.iconst 0, 1) := by decide +kernel
theorem dX5_launch_2 : decode cX5_launch 2 = .ok (.putfield 34, 3) := by decide +kernel
theorem dX5_launch_5 : decode cX5_launch 5 = .ok (.iload_n 1, 1) := by decide +kernel
theorem dX5_launch_6 : decode cX5_launch 6 = .ok (.iconst 0, 1) := by decide +kernel
theorem dX5_launch_7 : decode cX5_launch 7 = .ok (.iconst 4, 1) := by decide +kernel
theorem dX5_launch_8 : decode cX5_launch 8 = .ok (.invokestatic 41, 3) := by decide +kernel
theorem dX5_launch_11 : decode cX5_launch 11 = .ok (.ifCond .eq 13, 3) := by decide +kernel
theorem dX5_launch_14 : decode cX5_launch 14 = .ok (.iload_n 2, 1) := by decide +kernel
theorem dX5_launch_15 : decode cX5_launch 15 = .ok (.iconst 1, 1) := by decide +kernel
theorem dX5_launch_16 : decode cX5_launch 16 = .ok (.bipush 8, 2) := by decide +kernel
theorem dX5_launch_18 : decode cX5_launch 18 = .ok (.invokestatic 41, 3) := by decide +kernel
theorem dX5_launch_21 : decode cX5_launch 21 = .ok (.ifCond .ne 9, 3) := by decide +kernel
theorem dX5_launch_24 : decode cX5_launch 24 = .ok (.aload_n 0, 1) := by decide +kernel
theorem dX5_launch_25 : decode cX5_launch 25 = .ok (.iconst 1, 1) := by decide +kernel
theorem dX5_launch_26 : decode cX5_launch 26 = .ok (.invokevirtual 45, 3) := by decide +kernel
theorem dX5_launch_29 : decode cX5_launch 29 = .ok (.ireturn, 1) := by decide +kernel
theorem dX5_launch_30 : decode cX5_launch 30 = .ok (.aload_n 0, 1) := by decide +kernel
theorem dX5_launch_31 : decode cX5_launch 31 = .ok (.getfield 38, 3) := by decide +kernel
theorem dX5_launch_34 : decode cX5_launch 34 = .ok (.bipush 6, 2) := by decide +kernel
theorem dX5_launch_36 : decode cX5_launch 36 = .ok (.if_icmp .ne 9, 3) := by decide +kernel
theorem dX5_launch_39 : decode cX5_launch 39 = .ok (.aload_n 0, 1) := by decide +kernel
theorem dX5_launch_40 : decode cX5_launch 40 = .ok (.iconst 2, 1) := by decide +kernel
theorem dX5_launch_41 : decode cX5_launch 41 = .ok (.invokevirtual 45, 3) := by decide +kernel
theorem dX5_launch_44 : decode cX5_launch 44 = .ok (.ireturn, 1) := by decide +kernel
theorem dX5_launch_45 : decode cX5_launch 45 = .ok (.aload_n 0, 1) := by decide +kernel
theorem dX5_launch_46 : decode cX5_launch 46 = .ok (.getfield 19, 3) := by decide +kernel
theorem dX5_launch_49 : decode cX5_launch 49 = .ok (.aload_n 0, 1) := by decide +kernel
theorem dX5_launch_50 : decode cX5_launch 50 = .ok (.getfield 38, 3) := by decide +kernel
theorem dX5_launch_53 : decode cX5_launch 53 = .ok (.iload_n 2, 1) := by decide +kernel
theorem dX5_launch_54 : decode cX5_launch 54 = .ok (.iastore, 1) := by decide +kernel
theorem dX5_launch_55 : decode cX5_launch 55 = .ok (.aload_n 0, 1) := by decide +kernel
theorem dX5_launch_56 : decode cX5_launch 56 = .ok (.getfield 27, 3) := by decide +kernel
theorem dX5_launch_59 : decode cX5_launch 59 = .ok (.getfield 52, 3) := by decide +kernel
theorem dX5_launch_62 : decode cX5_launch 62 = .ok (.aload_n 0, 1) := by decide +kernel
theorem dX5_launch_63 : decode cX5_launch 63 = .ok (.getfield 38, 3) := by decide +kernel
theorem dX5_launch_66 : decode cX5_launch 66 = .ok (.iload_n 1, 1) := by decide +kernel
theorem dX5_launch_67 : decode cX5_launch 67 = .ok (.iastore, 1) := by decide +kernel
theorem dX5_launch_68 : decode cX5_launch 68 = .ok (.aload_n 0, 1) := by decide +kernel
theorem dX5_launch_69 : decode cX5_launch 69 = .ok (.getfield 27, 3) := by decide +kernel
theorem dX5_launch_72 : decode cX5_launch 72 = .ok (.getfield 55, 3) := by decide +kernel
theorem dX5_launch_75 : decode cX5_launch 75 = .ok (.aload_n 0, 1) := by decide +kernel
theorem dX5_launch_76 : decode cX5_launch 76 = .ok (.getfield 38, 3) := by decide +kernel
theorem dX5_launch_79 : decode cX5_launch 79 = .ok (.iconst (-1), 1) := by decide +kernel
theorem dX5_launch_80 : decode cX5_launch 80 = .ok (.iastore, 1) := by decide +kernel
theorem dX5_launch_81 : decode cX5_launch 81 = .ok (.aload_n 0, 1) := by decide +kernel
theorem dX5_launch_82 : decode cX5_launch 82 = .ok (.getfield 27, 3) := by decide +kernel
theorem dX5_launch_85 : decode cX5_launch 85 = .ok (.getfield 58, 3) := by decide +kernel
theorem dX5_launch_88 : decode cX5_launch 88 = .ok (.aload_n 0, 1) := by decide +kernel
theorem dX5_launch_89 : decode cX5_launch 89 = .ok (.getfield 38, 3) := by decide +kernel
theorem dX5_launch_92 : decode cX5_launch 92 = .ok (.iconst 1, 1) := by decide +kernel
theorem dX5_launch_93 : decode cX5_launch 93 = .ok (.iastore, 1) := by decide +kernel
theorem dX5_launch_94 : decode cX5_launch 94 = .ok (.aload_n 0, 1) := by decide +kernel
theorem dX5_launch_95 : decode cX5_launch 95 = .ok (.getfield 27, 3) := by decide +kernel
theorem dX5_launch_98 : decode cX5_launch 98 = .ok (.getfield 61, 3) := by decide +kernel
theorem dX5_launch_101 : decode cX5_launch 101 = .ok (.aload_n 0, 1) := by decide +kernel
theorem dX5_launch_102 : decode cX5_launch 102 = .ok (.getfield 38, 3) := by decide +kernel
theorem dX5_launch_105 : decode cX5_launch 105 = .ok (.iconst 3, 1) := by decide +kernel
theorem dX5_launch_106 : decode cX5_launch 106 = .ok (.iastore, 1) := by decide +kernel
theorem dX5_launch_107 : decode cX5_launch 107 = .ok (.aload_n 0, 1) := by decide +kernel
theorem dX5_launch_108 : decode cX5_launch 108 = .ok (.dup, 1) := by decide +kernel
theorem dX5_launch_109 : decode cX5_launch 109 = .ok (.getfield 38, 3) := by decide +kernel
theorem dX5_launch_112 : decode cX5_launch 112 = .ok (.iconst 1, 1) := by decide +kernel
theorem dX5_launch_113 : decode cX5_launch 113 = .ok (.iadd, 1) := by decide +kernel
theorem dX5_launch_114 : decode cX5_launch 114 = .ok (.putfield 38, 3) := by decide +kernel
theorem dX5_launch_117 : decode cX5_launch 117 = .ok (.aload_n 0, 1) := by decide +kernel
theorem dX5_launch_118 : decode cX5_launch 118 = .ok (.getfield 38, 3) := by decide +kernel
theorem dX5_launch_121 : decode cX5_launch 121 = .ok (.iconst 1, 1) := by decide +kernel
theorem dX5_launch_122 : decode cX5_launch 122 = .ok (.isub, 1) := by decide +kernel
theorem dX5_launch_123 : decode cX5_launch 123 = .ok (.ireturn, 1) := by decide +kernel
set_option maxRecDepth 20000 in
theorem ggX5_isPattern_X5_isFrom : GoodIn wsX5_isPattern wsX5_isFrom := goodIn_r _ [5] (by decide +kernel) (by decide +kernel)
set_option maxRecDepth 20000 in
theorem gX5_isPattern_X5_isFrom : GoodIn wsX5_isPattern (va_wsS RX5 41 yX5_isFrom wsX5_isFrom) := goodIn_app (goodIn_of _ (by decide +kernel)) ggX5_isPattern_X5_isFrom
theorem dX5_isPattern_0 : decode cX5_isPattern 0 = .ok (.iload_n 1, 1) := by decide +kernel
theorem dX5_isPattern_1 : decode cX5_isPattern 1 = .ok (.iconst 0, 1) := by decide +kernel
theorem dX5_isPattern_2 : decode cX5_isPattern 2 = .ok (.getstatic 64, 3) := by decide +kernel
theorem dX5_isPattern_5 : decode cX5_isPattern 5 = .ok (.iload_n 0, 1) := by decide +kernel
theorem dX5_isPattern_6 : decode cX5_isPattern 6 = .ok (.iaload, 1) := by decide +kernel
theorem dX5_isPattern_7 : decode cX5_isPattern 7 = .ok (.iconst 1, 1) := by decide +kernel
theorem dX5_isPattern_8 : decode cX5_isPattern 8 = .ok (.isub, 1) := by decide +kernel
theorem dX5_isPattern_9 : decode cX5_isPattern 9 = .ok (.invokestatic 41, 3) := by decide +kernel
theorem dX5_isPattern_12 : decode cX5_isPattern 12 = .ok (.ifCond .ne 5, 3) := by decide +kernel
theorem dX5_isPattern_15 : decode cX5_isPattern 15 = .ok (.iconst 0, 1) := by decide +kernel
theorem dX5_isPattern_16 : decode cX5_isPattern 16 = .ok (.ireturn, 1) := by decide +kernel
theorem dX5_isPattern_17 : decode cX5_isPattern 17 = .ok (.iload_n 1, 1) := by decide +kernel
theorem dX5_isPattern_18 : decode cX5_isPattern 18 = .ok (.istore_n 2, 1) := by decide +kernel
theorem dX5_isPattern_19 : decode cX5_isPattern 19 = .ok (.iload_n 2, 1) := by decide +kernel
theorem dX5_isPattern_20 : decode cX5_isPattern 20 = .ok (.ifCond .le 21, 3) := by decide +kernel
theorem dX5_isPattern_23 : decode cX5_isPattern 23 = .ok (.iload_n 2, 1) := by decide +kernel
theorem dX5_isPattern_24 : decode cX5_isPattern 24 = .ok (.bipush 10, 2) := by decide +kernel
theorem dX5_isPattern_26 : decode cX5_isPattern 26 = .ok (.irem, 1) := by decide +kernel
theorem dX5_isPattern_27 : decode cX5_isPattern 27 = .ok (.iconst 3, 1) := by decide +kernel
theorem dX5_isPattern_28 : decode cX5_isPattern 28 = .ok (.if_icmp .le 5, 3) := by decide +kernel
theorem dX5_isPattern_31 : decode cX5_isPattern 31 = .ok (.iconst 0, 1) := by decide +kernel
theorem dX5_isPattern_32 : decode cX5_isPattern 32 = .ok (.ireturn, 1) := by decide +kernel
theorem dX5_isPattern_33 : decode cX5_isPattern 33 = .ok (.iload_n 2, 1) := by decide +kernel
theorem dX5_isPattern_34 : decode cX5_isPattern 34 = .ok (.bipush 10, 2) := by decide +kernel
theorem dX5_isPattern_36 : decode cX5_isPattern 36 = .ok (.idiv, 1) := by decide +kernel
theorem dX5_isPattern_37 : decode cX5_isPattern 37 = .ok (.istore_n 2, 1) := by decide +kernel
theorem dX5_isPattern_38 : decode cX5_isPattern 38 = .ok (.goto (-19), 3) := by decide +kernel
theorem dX5_isPattern_41 : decode cX5_isPattern 41 = .ok (.iconst 1, 1) := by decide +kernel
theorem dX5_isPattern_42 : decode cX5_isPattern 42 = .ok (.ireturn, 1) := by decide +kernel
set_option maxRecDepth 20000 in
theorem ggX5_paddle_X5_isBoat : GoodIn wsX5_paddle wsX5_isBoat := goodIn_r _ [7, 8, 9, 10, 6, 11, 20, 21, 22, 23, 24, 25, 26, 27, 28] (by decide +kernel) (by decide +kernel)
set_option maxRecDepth 20000 in
theorem gX5_paddle_X5_isBoat : GoodIn wsX5_paddle (wsV RX5 67 RX5 yX5_isBoat wsX5_isBoat) := goodIn_app (goodIn_of _ (by decide +kernel)) ggX5_paddle_X5_isBoat
set_option maxRecDepth 20000 in
theorem ggX5_paddle_X5_no : GoodIn wsX5_paddle wsX5_no := goodIn_r _ [15, 1, 20, 21, 22, 23, 24, 25, 26, 27, 28] (by decide +kernel) (by decide +kernel)
set_option maxRecDepth 20000 in
theorem gX5_paddle_X5_no : GoodIn wsX5_paddle (wsV RX5 45 RX5 yX5_no wsX5_no) := goodIn_app (goodIn_of _ (by decide +kernel)) ggX5_paddle_X5_no
set_option maxRecDepth 20000 in
theorem ggX5_paddle_X5_isFrom : GoodIn wsX5_paddle wsX5_isFrom := goodIn_r _ [11] (by decide +kernel) (by decide +kernel)
set_option maxRecDepth 20000 in
theorem gX5_paddle_X5_isFrom : GoodIn wsX5_paddle (va_wsS RX5 41 yX5_isFrom wsX5_isFrom) := goodIn_app (goodIn_of _ (by decide +kernel)) ggX5_paddle_X5_isFrom
set_option maxRecDepth 20000 in
theorem ggX5_paddle_X5_isPattern : GoodIn wsX5_paddle wsX5_isPattern := goodIn_r _ [18, 19, 9, 10, 6, 11] (by decide +kernel) (by decide +kernel)
set_option maxRecDepth 20000 in
theorem gX5_paddle_X5_isPattern : GoodIn wsX5_paddle (va_wsS RX5 71 yX5_isPattern wsX5_isPattern) := goodIn_app (goodIn_of _ (by decide +kernel)) ggX5_paddle_X5_isPattern
theorem dX5_paddle_0 : decode cX5_paddle 0 = .ok (.aload_n 0, 1) := by decide +kernel
theorem dX5_paddle_1 : decode cX5_paddle 1 = .ok (.iconst 0, 1) := by decide +kernel
theorem dX5_paddle_2 : decode cX5_paddle 2 = .ok (.putfield 34, 3) := by decide +kernel
theorem dX5_paddle_5 : decode cX5_paddle 5 = .ok (.aload_n 0, 1) := by decide +kernel
theorem dX5_paddle_6 : decode cX5_paddle 6 = .ok (.iload_n 1, 1) := by decide +kernel
theorem dX5_paddle_7 : decode cX5_paddle 7 = .ok (.invokevirtual 67, 3) := by decide +kernel
theorem dX5_paddle_10 : decode cX5_paddle 10 = .ok (.ifCond .ne 9, 3) := by decide +kernel
theorem dX5_paddle_13 : decode cX5_paddle 13 = .ok (.aload_n 0, 1) := by decide +kernel
theorem dX5_paddle_14 : decode cX5_paddle 14 = .ok (.iconst 1, 1) := by decide +kernel
theorem dX5_paddle_15 : decode cX5_paddle 15 = .ok (.invokevirtual 45, 3) := by decide +kernel
theorem dX5_paddle_18 : decode cX5_paddle 18 = .ok (.ireturn, 1) := by decide +kernel
theorem dX5_paddle_19 : decode cX5_paddle 19 = .ok (.iload_n 2, 1) := by decide +kernel
theorem dX5_paddle_20 : decode cX5_paddle 20 = .ok (.iconst 1, 1) := by decide +kernel
theorem dX5_paddle_21 : decode cX5_paddle 21 = .ok (.bipush 6, 2) := by decide +kernel
theorem dX5_paddle_23 : decode cX5_paddle 23 = .ok (.invokestatic 41, 3) := by decide +kernel
theorem dX5_paddle_26 : decode cX5_paddle 26 = .ok (.ifCond .eq 11, 3) := by decide +kernel
theorem dX5_paddle_29 : decode cX5_paddle 29 = .ok (.iload_n 2, 1) := by decide +kernel
theorem dX5_paddle_30 : decode cX5_paddle 30 = .ok (.iload_n 3, 1) := by decide +kernel
theorem dX5_paddle_31 : decode cX5_paddle 31 = .ok (.invokestatic 71, 3) := by decide +kernel
theorem dX5_paddle_34 : decode cX5_paddle 34 = .ok (.ifCond .ne 9, 3) := by decide +kernel
theorem dX5_paddle_37 : decode cX5_paddle 37 = .ok (.aload_n 0, 1) := by decide +kernel
theorem dX5_paddle_38 : decode cX5_paddle 38 = .ok (.iconst 2, 1) := by decide +kernel
theorem dX5_paddle_39 : decode cX5_paddle 39 = .ok (.invokevirtual 45, 3) := by decide +kernel
theorem dX5_paddle_42 : decode cX5_paddle 42 = .ok (.ireturn, 1) := by decide +kernel
theorem dX5_paddle_43 : decode cX5_paddle 43 = .ok (.aload_n 0, 1) := by decide +kernel
theorem dX5_paddle_44 : decode cX5_paddle 44 = .ok (.getfield 27, 3) := by decide +kernel
theorem dX5_paddle_47 : decode cX5_paddle 47 = .ok (.getfield 58, 3) := by decide +kernel
theorem dX5_paddle_50 : decode cX5_paddle 50 = .ok (.iload_n 1, 1) := by decide +kernel
theorem dX5_paddle_51 : decode cX5_paddle 51 = .ok (.iaload, 1) := by decide +kernel
theorem dX5_paddle_52 : decode cX5_paddle 52 = .ok (.istore 4, 2) := by decide +kernel
theorem dX5_paddle_54 : decode cX5_paddle 54 = .ok (.aload_n 0, 1) := by decide +kernel
theorem dX5_paddle_55 : decode cX5_paddle 55 = .ok (.getfield 27, 3) := by decide +kernel
theorem dX5_paddle_58 : decode cX5_paddle 58 = .ok (.getfield 58, 3) := by decide +kernel
theorem dX5_paddle_61 : decode cX5_paddle 61 = .ok (.iload_n 1, 1) := by decide +kernel
theorem dX5_paddle_62 : decode cX5_paddle 62 = .ok (.iload_n 2, 1) := by decide +kernel
theorem dX5_paddle_63 : decode cX5_paddle 63 = .ok (.iastore, 1) := by decide +kernel
theorem dX5_paddle_64 : decode cX5_paddle 64 = .ok (.aload_n 0, 1) := by decide +kernel
theorem dX5_paddle_65 : decode cX5_paddle 65 = .ok (.getfield 27, 3) := by decide +kernel
theorem dX5_paddle_68 : decode cX5_paddle 68 = .ok (.getfield 61, 3) := by decide +kernel
theorem dX5_paddle_71 : decode cX5_paddle 71 = .ok (.iload_n 1, 1) := by decide +kernel
theorem dX5_paddle_72 : decode cX5_paddle 72 = .ok (.iload_n 3, 1) := by decide +kernel
theorem dX5_paddle_73 : decode cX5_paddle 73 = .ok (.iastore, 1) := by decide +kernel
theorem dX5_paddle_74 : decode cX5_paddle 74 = .ok (.iload 4, 2) := by decide +kernel
theorem dX5_paddle_76 : decode cX5_paddle 76 = .ok (.ireturn, 1) := by decide +kernel
set_option maxRecDepth 20000 in
theorem ggX5_tar_X5_isBoat : GoodIn wsX5_tar wsX5_isBoat := goodIn_r _ [7, 8, 9, 10, 6, 11, 22, 23, 24, 25, 26, 27, 28, 29, 30] (by decide +kernel) (by decide +kernel)
set_option maxRecDepth 20000 in
theorem gX5_tar_X5_isBoat : GoodIn wsX5_tar (wsV RX5 67 RX5 yX5_isBoat wsX5_isBoat) := goodIn_app (goodIn_of _ (by decide +kernel)) ggX5_tar_X5_isBoat
set_option maxRecDepth 20000 in
theorem ggX5_tar_X5_no : GoodIn wsX5_tar wsX5_no := goodIn_r _ [15, 1, 22, 23, 24, 25, 26, 27, 28, 29, 30] (by decide +kernel) (by decide +kernel)
set_option maxRecDepth 20000 in
theorem gX5_tar_X5_no : GoodIn wsX5_tar (wsV RX5 45 RX5 yX5_no wsX5_no) := goodIn_app (goodIn_of _ (by decide +kernel)) ggX5_tar_X5_no
set_option maxRecDepth 20000 in
theorem ggX5_tar_X4_isIn : GoodIn wsX5_tar wsX4_isIn := goodIn_r _ [20, 21, 31, 32, 33, 34, 35, 36, 37, 38, 39, 40, 41, 42] (by decide +kernel) (by decide +kernel)
set_option maxRecDepth 20000 in
theorem gX5_tar_X4_isIn : GoodIn wsX5_tar (wsV RX5 75 RX4 yX4_isIn wsX4_isIn) := goodIn_app (goodIn_of _ (by decide +kernel)) ggX5_tar_X4_isIn
theorem dX5_tar_0 : decode cX5_tar 0 = .ok (.aload_n 0, 1) := by decide +kernel
theorem dX5_tar_1 : decode cX5_tar 1 = .ok (.iconst 0, 1) := by decide +kernel
theorem dX5_tar_2 : decode cX5_tar 2 = .ok (.putfield 34, 3) := by decide +kernel
theorem dX5_tar_5 : decode cX5_tar 5 = .ok (.aload_n 0, 1) := by decide +kernel
theorem dX5_tar_6 : decode cX5_tar 6 = .ok (.iload_n 1, 1) := by decide +kernel
theorem dX5_tar_7 : decode cX5_tar 7 = .ok (.invokevirtual 67, 3) := by decide +kernel
theorem dX5_tar_10 : decode cX5_tar 10 = .ok (.ifCond .ne 9, 3) := by decide +kernel
theorem dX5_tar_13 : decode cX5_tar 13 = .ok (.aload_n 0, 1) := by decide +kernel
theorem dX5_tar_14 : decode cX5_tar 14 = .ok (.iconst 1, 1) := by decide +kernel
theorem dX5_tar_15 : decode cX5_tar 15 = .ok (.invokevirtual 45, 3) := by decide +kernel
theorem dX5_tar_18 : decode cX5_tar 18 = .ok (.ireturn, 1) := by decide +kernel
theorem dX5_tar_19 : decode cX5_tar 19 = .ok (.aload_n 0, 1) := by decide +kernel
theorem dX5_tar_20 : decode cX5_tar 20 = .ok (.getfield 27, 3) := by decide +kernel
theorem dX5_tar_23 : decode cX5_tar 23 = .ok (.iload_n 1, 1) := by decide +kernel
theorem dX5_tar_24 : decode cX5_tar 24 = .ok (.invokevirtual 75, 3) := by decide +kernel
theorem dX5_tar_27 : decode cX5_tar 27 = .ok (.ifCond .eq 9, 3) := by decide +kernel
theorem dX5_tar_30 : decode cX5_tar 30 = .ok (.aload_n 0, 1) := by decide +kernel
theorem dX5_tar_31 : decode cX5_tar 31 = .ok (.iconst 2, 1) := by decide +kernel
theorem dX5_tar_32 : decode cX5_tar 32 = .ok (.invokevirtual 45, 3) := by decide +kernel
theorem dX5_tar_35 : decode cX5_tar 35 = .ok (.ireturn, 1) := by decide +kernel
theorem dX5_tar_36 : decode cX5_tar 36 = .ok (.aload_n 0, 1) := by decide +kernel
theorem dX5_tar_37 : decode cX5_tar 37 = .ok (.getfield 27, 3) := by decide +kernel
theorem dX5_tar_40 : decode cX5_tar 40 = .ok (.getfield 78, 3) := by decide +kernel
theorem dX5_tar_43 : decode cX5_tar 43 = .ok (.iload_n 1, 1) := by decide +kernel
theorem dX5_tar_44 : decode cX5_tar 44 = .ok (.iaload, 1) := by decide +kernel
theorem dX5_tar_45 : decode cX5_tar 45 = .ok (.istore_n 2, 1) := by decide +kernel
theorem dX5_tar_46 : decode cX5_tar 46 = .ok (.aload_n 0, 1) := by decide +kernel
theorem dX5_tar_47 : decode cX5_tar 47 = .ok (.getfield 27, 3) := by decide +kernel
theorem dX5_tar_50 : decode cX5_tar 50 = .ok (.getfield 78, 3) := by decide +kernel
theorem dX5_tar_53 : decode cX5_tar 53 = .ok (.iload_n 1, 1) := by decide +kernel
theorem dX5_tar_54 : decode cX5_tar 54 = .ok (.iconst 0, 1) := by decide +kernel
theorem dX5_tar_55 : decode cX5_tar 55 = .ok (.iastore, 1) := by decide +kernel
theorem dX5_tar_56 : decode cX5_tar 56 = .ok (.aload_n 0, 1) := by decide +kernel
theorem dX5_tar_57 : decode cX5_tar 57 = .ok (.getfield 27, 3) := by decide +kernel
theorem dX5_tar_60 : decode cX5_tar 60 = .ok (.getfield 81, 3) := by decide +kernel
theorem dX5_tar_63 : decode cX5_tar 63 = .ok (.iload_n 1, 1) := by decide +kernel
theorem dX5_tar_64 : decode cX5_tar 64 = .ok (.dup2, 1) := by decide +kernel
theorem dX5_tar_65 : decode cX5_tar 65 = .ok (.iaload, 1) := by decide +kernel
theorem dX5_tar_66 : decode cX5_tar 66 = .ok (.iconst 4, 1) := by decide +kernel
theorem dX5_tar_67 : decode cX5_tar 67 = .ok (.iadd, 1) := by decide +kernel
theorem dX5_tar_68 : decode cX5_tar 68 = .ok (.iastore, 1) := by decide +kernel
theorem dX5_tar_69 : decode cX5_tar 69 = .ok (.iload_n 2, 1) := by decide +kernel
theorem dX5_tar_70 : decode cX5_tar 70 = .ok (.ireturn, 1) := by decide +kernel
set_option maxRecDepth 20000 in
theorem ggX5_boatTold_X4_isIn : GoodIn wsX5_boatTold wsX4_isIn := goodIn_r _ [7, 8, 24, 25, 26, 27, 28, 29, 30, 31, 32, 33, 34, 35] (by decide +kernel) (by decide +kernel)
set_option maxRecDepth 20000 in
theorem gX5_boatTold_X4_isIn : GoodIn wsX5_boatTold (wsV RX5 75 RX4 yX4_isIn wsX4_isIn) := goodIn_app (goodIn_of _ (by decide +kernel)) ggX5_boatTold_X4_isIn
set_option maxRecDepth 20000 in
theorem ggX5_boatTold_X4_time : GoodIn wsX5_boatTold wsX4_time := goodIn_r _ [12, 8, 13, 14, 4, 5, 6, 7, 24, 25, 26, 27, 28, 29, 30, 31, 32, 33, 34, 35] (by decide +kernel) (by decide +kernel)
set_option maxRecDepth 20000 in
theorem gX5_boatTold_X4_time : GoodIn wsX5_boatTold (wsV RX5 90 RX4 yX4_time wsX4_time) := goodIn_app (goodIn_of _ (by decide +kernel)) ggX5_boatTold_X4_time
theorem dX5_boatTold_0 : decode cX5_boatTold 0 = .ok (.bipush 9, 2) := by decide +kernel
theorem dX5_boatTold_2 : decode cX5_boatTold 2 = .ok (.newarray .int, 2) := by decide +kernel
theorem dX5_boatTold_4 : decode cX5_boatTold 4 = .ok (.dup, 1) := by decide +kernel
theorem dX5_boatTold_5 : decode cX5_boatTold 5 = .ok (.iconst 0, 1) := by decide +kernel
theorem dX5_boatTold_6 : decode cX5_boatTold 6 = .ok (.aload_n 0, 1) := by decide +kernel
theorem dX5_boatTold_7 : decode cX5_boatTold 7 = .ok (.getfield 27, 3) := by decide +kernel
theorem dX5_boatTold_10 : decode cX5_boatTold 10 = .ok (.getfield 84, 3) := by decide +kernel
theorem dX5_boatTold_13 : decode cX5_boatTold 13 = .ok (.iload_n 1, 1) := by decide +kernel
theorem dX5_boatTold_14 : decode cX5_boatTold 14 = .ok (.iaload, 1) := by decide +kernel
theorem dX5_boatTold_15 : decode cX5_boatTold 15 = .ok (.iastore, 1) := by decide +kernel
theorem dX5_boatTold_16 : decode cX5_boatTold 16 = .ok (.dup, 1) := by decide +kernel
theorem dX5_boatTold_17 : decode cX5_boatTold 17 = .ok (.iconst 1, 1) := by decide +kernel
theorem dX5_boatTold_18 : decode cX5_boatTold 18 = .ok (.aload_n 0, 1) := by decide +kernel
theorem dX5_boatTold_19 : decode cX5_boatTold 19 = .ok (.getfield 27, 3) := by decide +kernel
theorem dX5_boatTold_22 : decode cX5_boatTold 22 = .ok (.getfield 52, 3) := by decide +kernel
theorem dX5_boatTold_25 : decode cX5_boatTold 25 = .ok (.iload_n 1, 1) := by decide +kernel
theorem dX5_boatTold_26 : decode cX5_boatTold 26 = .ok (.iaload, 1) := by decide +kernel
theorem dX5_boatTold_27 : decode cX5_boatTold 27 = .ok (.iastore, 1) := by decide +kernel
theorem dX5_boatTold_28 : decode cX5_boatTold 28 = .ok (.dup, 1) := by decide +kernel
theorem dX5_boatTold_29 : decode cX5_boatTold 29 = .ok (.iconst 2, 1) := by decide +kernel
theorem dX5_boatTold_30 : decode cX5_boatTold 30 = .ok (.aload_n 0, 1) := by decide +kernel
theorem dX5_boatTold_31 : decode cX5_boatTold 31 = .ok (.getfield 27, 3) := by decide +kernel
theorem dX5_boatTold_34 : decode cX5_boatTold 34 = .ok (.getfield 87, 3) := by decide +kernel
theorem dX5_boatTold_37 : decode cX5_boatTold 37 = .ok (.iload_n 1, 1) := by decide +kernel
theorem dX5_boatTold_38 : decode cX5_boatTold 38 = .ok (.iaload, 1) := by decide +kernel
theorem dX5_boatTold_39 : decode cX5_boatTold 39 = .ok (.iastore, 1) := by decide +kernel
theorem dX5_boatTold_40 : decode cX5_boatTold 40 = .ok (.dup, 1) := by decide +kernel
theorem dX5_boatTold_41 : decode cX5_boatTold 41 = .ok (.iconst 3, 1) := by decide +kernel
theorem dX5_boatTold_42 : decode cX5_boatTold 42 = .ok (.aload_n 0, 1) := by decide +kernel
theorem dX5_boatTold_43 : decode cX5_boatTold 43 = .ok (.getfield 27, 3) := by decide +kernel
theorem dX5_boatTold_46 : decode cX5_boatTold 46 = .ok (.getfield 78, 3) := by decide +kernel
theorem dX5_boatTold_49 : decode cX5_boatTold 49 = .ok (.iload_n 1, 1) := by decide +kernel
theorem dX5_boatTold_50 : decode cX5_boatTold 50 = .ok (.iaload, 1) := by decide +kernel
theorem dX5_boatTold_51 : decode cX5_boatTold 51 = .ok (.iastore, 1) := by decide +kernel
theorem dX5_boatTold_52 : decode cX5_boatTold 52 = .ok (.dup, 1) := by decide +kernel
theorem dX5_boatTold_53 : decode cX5_boatTold 53 = .ok (.iconst 4, 1) := by decide +kernel
theorem dX5_boatTold_54 : decode cX5_boatTold 54 = .ok (.aload_n 0, 1) := by decide +kernel
theorem dX5_boatTold_55 : decode cX5_boatTold 55 = .ok (.getfield 27, 3) := by decide +kernel
theorem dX5_boatTold_58 : decode cX5_boatTold 58 = .ok (.getfield 81, 3) := by decide +kernel
theorem dX5_boatTold_61 : decode cX5_boatTold 61 = .ok (.iload_n 1, 1) := by decide +kernel
theorem dX5_boatTold_62 : decode cX5_boatTold 62 = .ok (.iaload, 1) := by decide +kernel
theorem dX5_boatTold_63 : decode cX5_boatTold 63 = .ok (.iastore, 1) := by decide +kernel
theorem dX5_boatTold_64 : decode cX5_boatTold 64 = .ok (.dup, 1) := by decide +kernel
theorem dX5_boatTold_65 : decode cX5_boatTold 65 = .ok (.iconst 5, 1) := by decide +kernel
theorem dX5_boatTold_66 : decode cX5_boatTold 66 = .ok (.aload_n 0, 1) := by decide +kernel
theorem dX5_boatTold_67 : decode cX5_boatTold 67 = .ok (.getfield 27, 3) := by decide +kernel
theorem dX5_boatTold_70 : decode cX5_boatTold 70 = .ok (.iload_n 1, 1) := by decide +kernel
theorem dX5_boatTold_71 : decode cX5_boatTold 71 = .ok (.invokevirtual 75, 3) := by decide +kernel
theorem dX5_boatTold_74 : decode cX5_boatTold 74 = .ok (.ifCond .eq 7, 3) := by decide +kernel
theorem dX5_boatTold_77 : decode cX5_boatTold 77 = .ok (.iconst 1, 1) := by decide +kernel
theorem dX5_boatTold_78 : decode cX5_boatTold 78 = .ok (.goto 4, 3) := by decide +kernel
theorem dX5_boatTold_81 : decode cX5_boatTold 81 = .ok (.iconst 0, 1) := by decide +kernel
theorem dX5_boatTold_82 : decode cX5_boatTold 82 = .ok (.iastore, 1) := by decide +kernel
theorem dX5_boatTold_83 : decode cX5_boatTold 83 = .ok (.dup, 1) := by decide +kernel
theorem dX5_boatTold_84 : decode cX5_boatTold 84 = .ok (.bipush 6, 2) := by decide +kernel
theorem dX5_boatTold_86 : decode cX5_boatTold 86 = .ok (.aload_n 0, 1) := by decide +kernel
theorem dX5_boatTold_87 : decode cX5_boatTold 87 = .ok (.getfield 27, 3) := by decide +kernel
theorem dX5_boatTold_90 : decode cX5_boatTold 90 = .ok (.iload_n 1, 1) := by decide +kernel
theorem dX5_boatTold_91 : decode cX5_boatTold 91 = .ok (.invokevirtual 90, 3) := by decide +kernel
theorem dX5_boatTold_94 : decode cX5_boatTold 94 = .ok (.iastore, 1) := by decide +kernel
theorem dX5_boatTold_95 : decode cX5_boatTold 95 = .ok (.dup, 1) := by decide +kernel
theorem dX5_boatTold_96 : decode cX5_boatTold 96 = .ok (.bipush 7, 2) := by decide +kernel
theorem dX5_boatTold_98 : decode cX5_boatTold 98 = .ok (.aload_n 0, 1) := by decide +kernel
theorem dX5_boatTold_99 : decode cX5_boatTold 99 = .ok (.getfield 27, 3) := by decide +kernel
theorem dX5_boatTold_102 : decode cX5_boatTold 102 = .ok (.getfield 93, 3) := by decide +kernel
theorem dX5_boatTold_105 : decode cX5_boatTold 105 = .ok (.iload_n 1, 1) := by decide +kernel
theorem dX5_boatTold_106 : decode cX5_boatTold 106 = .ok (.iaload, 1) := by decide +kernel
theorem dX5_boatTold_107 : decode cX5_boatTold 107 = .ok (.iastore, 1) := by decide +kernel
theorem dX5_boatTold_108 : decode cX5_boatTold 108 = .ok (.dup, 1) := by decide +kernel
theorem dX5_boatTold_109 : decode cX5_boatTold 109 = .ok (.bipush 8, 2) := by decide +kernel
theorem dX5_boatTold_111 : decode cX5_boatTold 111 = .ok (.aload_n 0, 1) := by decide +kernel
theorem dX5_boatTold_112 : decode cX5_boatTold 112 = .ok (.getfield 27, 3) := by decide +kernel
theorem dX5_boatTold_115 : decode cX5_boatTold 115 = .ok (.getfield 96, 3) := by decide +kernel
theorem dX5_boatTold_118 : decode cX5_boatTold 118 = .ok (.iload_n 1, 1) := by decide +kernel
theorem dX5_boatTold_119 : decode cX5_boatTold 119 = .ok (.iaload, 1) := by decide +kernel
theorem dX5_boatTold_120 : decode cX5_boatTold 120 = .ok (.iastore, 1) := by decide +kernel
theorem dX5_boatTold_121 : decode cX5_boatTold 121 = .ok (.astore_n 3, 1) := by decide +kernel
theorem dX5_boatTold_122 : decode cX5_boatTold 122 = .ok (.aload_n 3, 1) := by decide +kernel
theorem dX5_boatTold_123 : decode cX5_boatTold 123 = .ok (.iload_n 2, 1) := by decide +kernel
theorem dX5_boatTold_124 : decode cX5_boatTold 124 = .ok (.iaload, 1) := by decide +kernel
theorem dX5_boatTold_125 : decode cX5_boatTold 125 = .ok (.ireturn, 1) := by decide +kernel
set_option maxRecDepth 20000 in
theorem ggX5_boat_X5_isBoat : GoodIn wsX5_boat wsX5_isBoat := goodIn_r _ [6, 7, 8, 9, 5, 10, 33, 34, 35, 36, 37, 38, 39, 40, 41] (by decide +kernel) (by decide +kernel)
set_option maxRecDepth 20000 in
theorem gX5_boat_X5_isBoat : GoodIn wsX5_boat (wsV RX5 67 RX5 yX5_isBoat wsX5_isBoat) := goodIn_app (goodIn_of _ (by decide +kernel)) ggX5_boat_X5_isBoat
set_option maxRecDepth 20000 in
theorem ggX5_boat_X5_isFrom : GoodIn wsX5_boat wsX5_isFrom := goodIn_r _ [10] (by decide +kernel) (by decide +kernel)
set_option maxRecDepth 20000 in
theorem gX5_boat_X5_isFrom : GoodIn wsX5_boat (va_wsS RX5 41 yX5_isFrom wsX5_isFrom) := goodIn_app (goodIn_of _ (by decide +kernel)) ggX5_boat_X5_isFrom
set_option maxRecDepth 20000 in
theorem ggX5_boat_X5_boatTold : GoodIn wsX5_boat wsX5_boatTold := goodIn_r _ [14, 15, 16, 17, 18, 19, 20, 21, 22, 23, 24, 25, 26, 27, 28, 33, 34, 35, 36, 37, 38, 39, 40, 41, 42, 43, 44, 45, 46, 47, 48, 49, 50, 51, 52, 53] (by decide +kernel) (by decide +kernel)
set_option maxRecDepth 20000 in
theorem gX5_boat_X5_boatTold : GoodIn wsX5_boat (wsV RX5 99 RX5 yX5_boatTold wsX5_boatTold) := goodIn_app (goodIn_of _ (by decide +kernel)) ggX5_boat_X5_boatTold
set_option maxRecDepth 20000 in
theorem ggX5_boat_X5_no : GoodIn wsX5_boat wsX5_no := goodIn_r _ [32, 1, 33, 34, 35, 36, 37, 38, 39, 40, 41] (by decide +kernel) (by decide +kernel)
set_option maxRecDepth 20000 in
theorem gX5_boat_X5_no : GoodIn wsX5_boat (wsV RX5 45 RX5 yX5_no wsX5_no) := goodIn_app (goodIn_of _ (by decide +kernel)) ggX5_boat_X5_no
theorem dX5_boat_0 : decode cX5_boat 0 = .ok (.aload_n 0, 1) := by decide +kernel
theorem dX5_boat_1 : decode cX5_boat 1 = .ok (.iconst 0, 1) := by decide +kernel
theorem dX5_boat_2 : decode cX5_boat 2 = .ok (.putfield 34, 3) := by decide +kernel
theorem dX5_boat_5 : decode cX5_boat 5 = .ok (.aload_n 0, 1) := by decide +kernel
theorem dX5_boat_6 : decode cX5_boat 6 = .ok (.iload_n 1, 1) := by decide +kernel
theorem dX5_boat_7 : decode cX5_boat 7 = .ok (.invokevirtual 67, 3) := by decide +kernel
theorem dX5_boat_10 : decode cX5_boat 10 = .ok (.ifCond .eq 22, 3) := by decide +kernel
theorem dX5_boat_13 : decode cX5_boat 13 = .ok (.iload_n 2, 1) := by decide +kernel
theorem dX5_boat_14 : decode cX5_boat 14 = .ok (.iconst 0, 1) := by decide +kernel
theorem dX5_boat_15 : decode cX5_boat 15 = .ok (.bipush 8, 2) := by decide +kernel
theorem dX5_boat_17 : decode cX5_boat 17 = .ok (.invokestatic 41, 3) := by decide +kernel
theorem dX5_boat_20 : decode cX5_boat 20 = .ok (.ifCond .eq 12, 3) := by decide +kernel
theorem dX5_boat_23 : decode cX5_boat 23 = .ok (.aload_n 0, 1) := by decide +kernel
theorem dX5_boat_24 : decode cX5_boat 24 = .ok (.iload_n 1, 1) := by decide +kernel
theorem dX5_boat_25 : decode cX5_boat 25 = .ok (.iload_n 2, 1) := by decide +kernel
theorem dX5_boat_26 : decode cX5_boat 26 = .ok (.invokevirtual 99, 3) := by decide +kernel
theorem dX5_boat_29 : decode cX5_boat 29 = .ok (.goto 8, 3) := by decide +kernel
theorem dX5_boat_32 : decode cX5_boat 32 = .ok (.aload_n 0, 1) := by decide +kernel
theorem dX5_boat_33 : decode cX5_boat 33 = .ok (.iconst 1, 1) := by decide +kernel
theorem dX5_boat_34 : decode cX5_boat 34 = .ok (.invokevirtual 45, 3) := by decide +kernel
theorem dX5_boat_37 : decode cX5_boat 37 = .ok (.ireturn, 1) := by decide +kernel
set_option maxRecDepth 20000 in
theorem ggX5_count_X5_isFrom : GoodIn wsX5_count wsX5_isFrom := goodIn_r _ [6] (by decide +kernel) (by decide +kernel)
set_option maxRecDepth 20000 in
theorem gX5_count_X5_isFrom : GoodIn wsX5_count (va_wsS RX5 41 yX5_isFrom wsX5_isFrom) := goodIn_app (goodIn_of _ (by decide +kernel)) ggX5_count_X5_isFrom
set_option maxRecDepth 20000 in
theorem ggX5_count_X4_counted : GoodIn wsX5_count wsX4_counted := goodIn_r _ [11, 12, 13, 14, 15, 16, 17, 18, 19, 10, 20, 21, 22, 23, 24, 25, 26, 27, 28, 29, 43, 44, 45, 46, 47, 48, 49, 50, 51, 52, 53, 54, 34, 35, 36, 37, 38, 39, 40, 41, 42] (by decide +kernel) (by decide +kernel)
set_option maxRecDepth 20000 in
theorem gX5_count_X4_counted : GoodIn wsX5_count (wsV RX5 103 RX4 yX4_counted wsX4_counted) := goodIn_app (goodIn_of _ (by decide +kernel)) ggX5_count_X4_counted
set_option maxRecDepth 20000 in
theorem ggX5_count_X5_no : GoodIn wsX5_count wsX5_no := goodIn_r _ [33, 1, 34, 35, 36, 37, 38, 39, 40, 41, 42] (by decide +kernel) (by decide +kernel)
set_option maxRecDepth 20000 in
theorem gX5_count_X5_no : GoodIn wsX5_count (wsV RX5 45 RX5 yX5_no wsX5_no) := goodIn_app (goodIn_of _ (by decide +kernel)) ggX5_count_X5_no
theorem dX5_count_0 : decode cX5_count 0 = .ok (.aload_n 0, 1) := by decide +kernel
theorem dX5_count_1 : decode cX5_count 1 = .ok (.iconst 0, 1) := by decide +kernel
theorem dX5_count_2 : decode cX5_count 2 = .ok (.putfield 34, 3) := by decide +kernel
theorem dX5_count_5 : decode cX5_count 5 = .ok (.iload_n 1, 1) := by decide +kernel
theorem dX5_count_6 : decode cX5_count 6 = .ok (.iconst 0, 1) := by decide +kernel
theorem dX5_count_7 : decode cX5_count 7 = .ok (.bipush 6, 2) := by decide +kernel
theorem dX5_count_9 : decode cX5_count 9 = .ok (.invokestatic 41, 3) := by decide +kernel
theorem dX5_count_12 : decode cX5_count 12 = .ok (.ifCond .eq 14, 3) := by decide +kernel
theorem dX5_count_15 : decode cX5_count 15 = .ok (.aload_n 0, 1) := by decide +kernel
theorem dX5_count_16 : decode cX5_count 16 = .ok (.getfield 27, 3) := by decide +kernel
theorem dX5_count_19 : decode cX5_count 19 = .ok (.iload_n 1, 1) := by decide +kernel
theorem dX5_count_20 : decode cX5_count 20 = .ok (.invokevirtual 103, 3) := by decide +kernel
theorem dX5_count_23 : decode cX5_count 23 = .ok (.goto 8, 3) := by decide +kernel
theorem dX5_count_26 : decode cX5_count 26 = .ok (.aload_n 0, 1) := by decide +kernel
theorem dX5_count_27 : decode cX5_count 27 = .ok (.iconst 1, 1) := by decide +kernel
theorem dX5_count_28 : decode cX5_count 28 = .ok (.invokevirtual 45, 3) := by decide +kernel
theorem dX5_count_31 : decode cX5_count 31 = .ok (.ireturn, 1) := by decide +kernel
set_option maxRecDepth 20000 in
theorem ggX5_next_X5_isFrom : GoodIn wsX5_next wsX5_isFrom := goodIn_r _ [11] (by decide +kernel) (by decide +kernel)
set_option maxRecDepth 20000 in
theorem gX5_next_X5_isFrom : GoodIn wsX5_next (va_wsS RX5 41 yX5_isFrom wsX5_isFrom) := goodIn_app (goodIn_of _ (by decide +kernel)) ggX5_next_X5_isFrom
set_option maxRecDepth 20000 in
theorem ggX5_next_X5_no : GoodIn wsX5_next wsX5_no := goodIn_r _ [15, 1, 16, 17, 18, 19, 20, 21, 22, 23, 24] (by decide +kernel) (by decide +kernel)
set_option maxRecDepth 20000 in
theorem gX5_next_X5_no : GoodIn wsX5_next (wsV RX5 45 RX5 yX5_no wsX5_no) := goodIn_app (goodIn_of _ (by decide +kernel)) ggX5_next_X5_no
theorem dX5_next_0 : decode cX5_next 0 = .ok (.aload_n 0, 1) := by decide +kernel
theorem dX5_next_1 : decode cX5_next 1 = .ok (.iconst 0, 1) := by decide +kernel
theorem dX5_next_2 : decode cX5_next 2 = .ok (.putfield 34, 3) := by decide +kernel
theorem dX5_next_5 : decode cX5_next 5 = .ok (.iload_n 1, 1) := by decide +kernel
theorem dX5_next_6 : decode cX5_next 6 = .ok (.iconst 0, 1) := by decide +kernel
theorem dX5_next_7 : decode cX5_next 7 = .ok (.sipush 200, 3) := by decide +kernel
theorem dX5_next_10 : decode cX5_next 10 = .ok (.invokestatic 41, 3) := by decide +kernel
theorem dX5_next_13 : decode cX5_next 13 = .ok (.ifCond .ne 9, 3) := by decide +kernel
theorem dX5_next_16 : decode cX5_next 16 = .ok (.aload_n 0, 1) := by decide +kernel
theorem dX5_next_17 : decode cX5_next 17 = .ok (.iconst 1, 1) := by decide +kernel
theorem dX5_next_18 : decode cX5_next 18 = .ok (.invokevirtual 45, 3) := by decide +kernel
theorem dX5_next_21 : decode cX5_next 21 = .ok (.ireturn, 1) := by decide +kernel
theorem dX5_next_22 : decode cX5_next 22 = .ok (.sipush 200, 3) := by decide +kernel
theorem dX5_next_25 : decode cX5_next 25 = .ok (.istore_n 2, 1) := by decide +kernel
theorem dX5_next_26 : decode cX5_next 26 = .ok (.iconst 0, 1) := by decide +kernel
theorem dX5_next_27 : decode cX5_next 27 = .ok (.istore_n 3, 1) := by decide +kernel
theorem dX5_next_28 : decode cX5_next 28 = .ok (.iload_n 3, 1) := by decide +kernel
theorem dX5_next_29 : decode cX5_next 29 = .ok (.aload_n 0, 1) := by decide +kernel
theorem dX5_next_30 : decode cX5_next 30 = .ok (.getfield 49, 3) := by decide +kernel
theorem dX5_next_33 : decode cX5_next 33 = .ok (.if_icmp .ge 30, 3) := by decide +kernel
theorem dX5_next_36 : decode cX5_next 36 = .ok (.aload_n 0, 1) := by decide +kernel
theorem dX5_next_37 : decode cX5_next 37 = .ok (.getfield 13, 3) := by decide +kernel
theorem dX5_next_40 : decode cX5_next 40 = .ok (.iload_n 3, 1) := by decide +kernel
theorem dX5_next_41 : decode cX5_next 41 = .ok (.iaload, 1) := by decide +kernel
theorem dX5_next_42 : decode cX5_next 42 = .ok (.iload_n 1, 1) := by decide +kernel
theorem dX5_next_43 : decode cX5_next 43 = .ok (.if_icmp .le 14, 3) := by decide +kernel
theorem dX5_next_46 : decode cX5_next 46 = .ok (.iload_n 2, 1) := by decide +kernel
theorem dX5_next_47 : decode cX5_next 47 = .ok (.aload_n 0, 1) := by decide +kernel
theorem dX5_next_48 : decode cX5_next 48 = .ok (.getfield 13, 3) := by decide +kernel
theorem dX5_next_51 : decode cX5_next 51 = .ok (.iload_n 3, 1) := by decide +kernel
theorem dX5_next_52 : decode cX5_next 52 = .ok (.iaload, 1) := by decide +kernel
theorem dX5_next_53 : decode cX5_next 53 = .ok (.invokestatic 106, 3) := by decide +kernel
theorem dX5_next_56 : decode cX5_next 56 = .ok (.istore_n 2, 1) := by decide +kernel
theorem dX5_next_57 : decode cX5_next 57 = .ok (.iinc 3 1, 3) := by decide +kernel
theorem dX5_next_60 : decode cX5_next 60 = .ok (.goto (-32), 3) := by decide +kernel
theorem dX5_next_63 : decode cX5_next 63 = .ok (.iload_n 2, 1) := by decide +kernel
theorem dX5_next_64 : decode cX5_next 64 = .ok (.sipush 200, 3) := by decide +kernel
theorem dX5_next_67 : decode cX5_next 67 = .ok (.if_icmp .ne 7, 3) := by decide +kernel
theorem dX5_next_70 : decode cX5_next 70 = .ok (.iconst (-1), 1) := by decide +kernel
theorem dX5_next_71 : decode cX5_next 71 = .ok (.goto 4, 3) := by decide +kernel
theorem dX5_next_74 : decode cX5_next 74 = .ok (.iload_n 2, 1) := by decide +kernel
theorem dX5_next_75 : decode cX5_next 75 = .ok (.ireturn, 1) := by decide +kernel
set_option maxRecDepth 20000 in
theorem ggX5_isAhead_X4_isIn : GoodIn wsX5_isAhead wsX4_isIn := goodIn_r _ [6, 7, 23, 24, 25, 26, 27, 28, 29, 30, 31, 32, 33, 34] (by decide +kernel) (by decide +kernel)
set_option maxRecDepth 20000 in
theorem gX5_isAhead_X4_isIn : GoodIn wsX5_isAhead (wsV RX5 75 RX4 yX4_isIn wsX4_isIn) := goodIn_app (goodIn_of _ (by decide +kernel)) ggX5_isAhead_X4_isIn
set_option maxRecDepth 20000 in
theorem ggX5_isAhead_X4_time : GoodIn wsX5_isAhead wsX4_time := goodIn_r _ [11, 7, 12, 13, 3, 4, 5, 6, 23, 24, 25, 26, 27, 28, 29, 30, 31, 32, 33, 34] (by decide +kernel) (by decide +kernel)
set_option maxRecDepth 20000 in
theorem gX5_isAhead_X4_time : GoodIn wsX5_isAhead (wsV RX5 90 RX4 yX4_time wsX4_time) := goodIn_app (goodIn_of _ (by decide +kernel)) ggX5_isAhead_X4_time
theorem dX5_isAhead_0 : decode cX5_isAhead 0 = .ok (.aload_n 0, 1) := by decide +kernel
theorem dX5_isAhead_1 : decode cX5_isAhead 1 = .ok (.getfield 27, 3) := by decide +kernel
theorem dX5_isAhead_4 : decode cX5_isAhead 4 = .ok (.iload_n 1, 1) := by decide +kernel
theorem dX5_isAhead_5 : decode cX5_isAhead 5 = .ok (.invokevirtual 75, 3) := by decide +kernel
theorem dX5_isAhead_8 : decode cX5_isAhead 8 = .ok (.aload_n 0, 1) := by decide +kernel
theorem dX5_isAhead_9 : decode cX5_isAhead 9 = .ok (.getfield 27, 3) := by decide +kernel
theorem dX5_isAhead_12 : decode cX5_isAhead 12 = .ok (.iload_n 2, 1) := by decide +kernel
theorem dX5_isAhead_13 : decode cX5_isAhead 13 = .ok (.invokevirtual 75, 3) := by decide +kernel
theorem dX5_isAhead_16 : decode cX5_isAhead 16 = .ok (.if_icmp .eq 12, 3) := by decide +kernel
theorem dX5_isAhead_19 : decode cX5_isAhead 19 = .ok (.aload_n 0, 1) := by decide +kernel
theorem dX5_isAhead_20 : decode cX5_isAhead 20 = .ok (.getfield 27, 3) := by decide +kernel
theorem dX5_isAhead_23 : decode cX5_isAhead 23 = .ok (.iload_n 1, 1) := by decide +kernel
theorem dX5_isAhead_24 : decode cX5_isAhead 24 = .ok (.invokevirtual 75, 3) := by decide +kernel
theorem dX5_isAhead_27 : decode cX5_isAhead 27 = .ok (.ireturn, 1) := by decide +kernel
theorem dX5_isAhead_28 : decode cX5_isAhead 28 = .ok (.aload_n 0, 1) := by decide +kernel
theorem dX5_isAhead_29 : decode cX5_isAhead 29 = .ok (.getfield 27, 3) := by decide +kernel
theorem dX5_isAhead_32 : decode cX5_isAhead 32 = .ok (.iload_n 1, 1) := by decide +kernel
theorem dX5_isAhead_33 : decode cX5_isAhead 33 = .ok (.invokevirtual 75, 3) := by decide +kernel
theorem dX5_isAhead_36 : decode cX5_isAhead 36 = .ok (.ifCond .eq 30, 3) := by decide +kernel
theorem dX5_isAhead_39 : decode cX5_isAhead 39 = .ok (.aload_n 0, 1) := by decide +kernel
theorem dX5_isAhead_40 : decode cX5_isAhead 40 = .ok (.getfield 27, 3) := by decide +kernel
theorem dX5_isAhead_43 : decode cX5_isAhead 43 = .ok (.iload_n 1, 1) := by decide +kernel
theorem dX5_isAhead_44 : decode cX5_isAhead 44 = .ok (.invokevirtual 90, 3) := by decide +kernel
theorem dX5_isAhead_47 : decode cX5_isAhead 47 = .ok (.aload_n 0, 1) := by decide +kernel
theorem dX5_isAhead_48 : decode cX5_isAhead 48 = .ok (.getfield 27, 3) := by decide +kernel
theorem dX5_isAhead_51 : decode cX5_isAhead 51 = .ok (.iload_n 2, 1) := by decide +kernel
theorem dX5_isAhead_52 : decode cX5_isAhead 52 = .ok (.invokevirtual 90, 3) := by decide +kernel
theorem dX5_isAhead_55 : decode cX5_isAhead 55 = .ok (.if_icmp .ge 7, 3) := by decide +kernel
theorem dX5_isAhead_58 : decode cX5_isAhead 58 = .ok (.iconst 1, 1) := by decide +kernel
theorem dX5_isAhead_59 : decode cX5_isAhead 59 = .ok (.goto 33, 3) := by decide +kernel
theorem dX5_isAhead_62 : decode cX5_isAhead 62 = .ok (.iconst 0, 1) := by decide +kernel
theorem dX5_isAhead_63 : decode cX5_isAhead 63 = .ok (.goto 29, 3) := by decide +kernel
theorem dX5_isAhead_66 : decode cX5_isAhead 66 = .ok (.aload_n 0, 1) := by decide +kernel
theorem dX5_isAhead_67 : decode cX5_isAhead 67 = .ok (.getfield 27, 3) := by decide +kernel
theorem dX5_isAhead_70 : decode cX5_isAhead 70 = .ok (.getfield 84, 3) := by decide +kernel
theorem dX5_isAhead_73 : decode cX5_isAhead 73 = .ok (.iload_n 1, 1) := by decide +kernel
theorem dX5_isAhead_74 : decode cX5_isAhead 74 = .ok (.iaload, 1) := by decide +kernel
theorem dX5_isAhead_75 : decode cX5_isAhead 75 = .ok (.aload_n 0, 1) := by decide +kernel
theorem dX5_isAhead_76 : decode cX5_isAhead 76 = .ok (.getfield 27, 3) := by decide +kernel
theorem dX5_isAhead_79 : decode cX5_isAhead 79 = .ok (.getfield 84, 3) := by decide +kernel
theorem dX5_isAhead_82 : decode cX5_isAhead 82 = .ok (.iload_n 2, 1) := by decide +kernel
theorem dX5_isAhead_83 : decode cX5_isAhead 83 = .ok (.iaload, 1) := by decide +kernel
theorem dX5_isAhead_84 : decode cX5_isAhead 84 = .ok (.if_icmp .le 7, 3) := by decide +kernel
theorem dX5_isAhead_87 : decode cX5_isAhead 87 = .ok (.iconst 1, 1) := by decide +kernel
theorem dX5_isAhead_88 : decode cX5_isAhead 88 = .ok (.goto 4, 3) := by decide +kernel
theorem dX5_isAhead_91 : decode cX5_isAhead 91 = .ok (.iconst 0, 1) := by decide +kernel
theorem dX5_isAhead_92 : decode cX5_isAhead 92 = .ok (.ireturn, 1) := by decide +kernel
set_option maxRecDepth 20000 in
theorem ggX5_rankOf_X5_isAhead : GoodIn wsX5_rankOf wsX5_isAhead := goodIn_r _ [6, 7, 8, 9, 10, 11, 12, 13, 14, 15, 16, 17, 18, 19, 20, 21, 22, 23, 24, 25, 26, 27, 28, 29, 30, 31, 32, 33, 34, 35, 36, 37, 38, 39, 40] (by decide +kernel) (by decide +kernel)
set_option maxRecDepth 20000 in
theorem gX5_rankOf_X5_isAhead : GoodIn wsX5_rankOf (wsV RX5 111 RX5 yX5_isAhead wsX5_isAhead) := goodIn_app (goodIn_of _ (by decide +kernel)) ggX5_rankOf_X5_isAhead
theorem dX5_rankOf_0 : decode cX5_rankOf 0 = .ok (.iconst 1, 1) := by decide +kernel
theorem dX5_rankOf_1 : decode cX5_rankOf 1 = .ok (.istore_n 2, 1) := by decide +kernel
theorem dX5_rankOf_2 : decode cX5_rankOf 2 = .ok (.iconst 0, 1) := by decide +kernel
theorem dX5_rankOf_3 : decode cX5_rankOf 3 = .ok (.istore_n 3, 1) := by decide +kernel
theorem dX5_rankOf_4 : decode cX5_rankOf 4 = .ok (.iload_n 3, 1) := by decide +kernel
theorem dX5_rankOf_5 : decode cX5_rankOf 5 = .ok (.aload_n 0, 1) := by decide +kernel
theorem dX5_rankOf_6 : decode cX5_rankOf 6 = .ok (.getfield 38, 3) := by decide +kernel
theorem dX5_rankOf_9 : decode cX5_rankOf 9 = .ok (.if_icmp .ge 26, 3) := by decide +kernel
theorem dX5_rankOf_12 : decode cX5_rankOf 12 = .ok (.iload_n 2, 1) := by decide +kernel
theorem dX5_rankOf_13 : decode cX5_rankOf 13 = .ok (.aload_n 0, 1) := by decide +kernel
theorem dX5_rankOf_14 : decode cX5_rankOf 14 = .ok (.iload_n 3, 1) := by decide +kernel
theorem dX5_rankOf_15 : decode cX5_rankOf 15 = .ok (.iload_n 1, 1) := by decide +kernel
theorem dX5_rankOf_16 : decode cX5_rankOf 16 = .ok (.invokevirtual 111, 3) := by decide +kernel
theorem dX5_rankOf_19 : decode cX5_rankOf 19 = .ok (.ifCond .eq 7, 3) := by decide +kernel
theorem dX5_rankOf_22 : decode cX5_rankOf 22 = .ok (.iconst 1, 1) := by decide +kernel
theorem dX5_rankOf_23 : decode cX5_rankOf 23 = .ok (.goto 4, 3) := by decide +kernel
theorem dX5_rankOf_26 : decode cX5_rankOf 26 = .ok (.iconst 0, 1) := by decide +kernel
theorem dX5_rankOf_27 : decode cX5_rankOf 27 = .ok (.iadd, 1) := by decide +kernel
theorem dX5_rankOf_28 : decode cX5_rankOf 28 = .ok (.istore_n 2, 1) := by decide +kernel
theorem dX5_rankOf_29 : decode cX5_rankOf 29 = .ok (.iinc 3 1, 3) := by decide +kernel
theorem dX5_rankOf_32 : decode cX5_rankOf 32 = .ok (.goto (-28), 3) := by decide +kernel
theorem dX5_rankOf_35 : decode cX5_rankOf 35 = .ok (.iload_n 2, 1) := by decide +kernel
theorem dX5_rankOf_36 : decode cX5_rankOf 36 = .ok (.ireturn, 1) := by decide +kernel
set_option maxRecDepth 20000 in
theorem ggX5_rank_X5_isBoat : GoodIn wsX5_rank wsX5_isBoat := goodIn_r _ [6, 7, 8, 9, 5, 10, 36, 37, 38, 39, 40, 41, 42, 43, 44] (by decide +kernel) (by decide +kernel)
set_option maxRecDepth 20000 in
theorem gX5_rank_X5_isBoat : GoodIn wsX5_rank (wsV RX5 67 RX5 yX5_isBoat wsX5_isBoat) := goodIn_app (goodIn_of _ (by decide +kernel)) ggX5_rank_X5_isBoat
set_option maxRecDepth 20000 in
theorem ggX5_rank_X5_rankOf : GoodIn wsX5_rank wsX5_rankOf := goodIn_r _ [14, 7, 15, 16, 17, 5, 18, 19, 20, 21, 22, 23, 24, 25, 26, 27, 28, 29, 30, 31, 36, 37, 38, 39, 40, 41, 42, 43, 44, 45, 46, 47, 48, 49, 50, 51, 52, 53, 54, 55, 56] (by decide +kernel) (by decide +kernel)
set_option maxRecDepth 20000 in
theorem gX5_rank_X5_rankOf : GoodIn wsX5_rank (wsV RX5 114 RX5 yX5_rankOf wsX5_rankOf) := goodIn_app (goodIn_of _ (by decide +kernel)) ggX5_rank_X5_rankOf
set_option maxRecDepth 20000 in
theorem ggX5_rank_X5_no : GoodIn wsX5_rank wsX5_no := goodIn_r _ [35, 1, 36, 37, 38, 39, 40, 41, 42, 43, 44] (by decide +kernel) (by decide +kernel)
set_option maxRecDepth 20000 in
theorem gX5_rank_X5_no : GoodIn wsX5_rank (wsV RX5 45 RX5 yX5_no wsX5_no) := goodIn_app (goodIn_of _ (by decide +kernel)) ggX5_rank_X5_no
theorem dX5_rank_0 : decode cX5_rank 0 = .ok (.aload_n 0, 1) := by decide +kernel
theorem dX5_rank_1 : decode cX5_rank 1 = .ok (.iconst 0, 1) := by decide +kernel
theorem dX5_rank_2 : decode cX5_rank 2 = .ok (.putfield 34, 3) := by decide +kernel
theorem dX5_rank_5 : decode cX5_rank 5 = .ok (.aload_n 0, 1) := by decide +kernel
theorem dX5_rank_6 : decode cX5_rank 6 = .ok (.iload_n 1, 1) := by decide +kernel
theorem dX5_rank_7 : decode cX5_rank 7 = .ok (.invokevirtual 67, 3) := by decide +kernel
theorem dX5_rank_10 : decode cX5_rank 10 = .ok (.ifCond .eq 11, 3) := by decide +kernel
theorem dX5_rank_13 : decode cX5_rank 13 = .ok (.aload_n 0, 1) := by decide +kernel
theorem dX5_rank_14 : decode cX5_rank 14 = .ok (.iload_n 1, 1) := by decide +kernel
theorem dX5_rank_15 : decode cX5_rank 15 = .ok (.invokevirtual 114, 3) := by decide +kernel
theorem dX5_rank_18 : decode cX5_rank 18 = .ok (.goto 8, 3) := by decide +kernel
theorem dX5_rank_21 : decode cX5_rank 21 = .ok (.aload_n 0, 1) := by decide +kernel
theorem dX5_rank_22 : decode cX5_rank 22 = .ok (.iconst 1, 1) := by decide +kernel
theorem dX5_rank_23 : decode cX5_rank 23 = .ok (.invokevirtual 45, 3) := by decide +kernel
theorem dX5_rank_26 : decode cX5_rank 26 = .ok (.ireturn, 1) := by decide +kernel
set_option maxRecDepth 20000 in
theorem ggX5_go_X5_isFrom : GoodIn wsX5_go wsX5_isFrom := goodIn_r _ [6] (by decide +kernel) (by decide +kernel)
set_option maxRecDepth 20000 in
theorem gX5_go_X5_isFrom : GoodIn wsX5_go (va_wsS RX5 41 yX5_isFrom wsX5_isFrom) := goodIn_app (goodIn_of _ (by decide +kernel)) ggX5_go_X5_isFrom
set_option maxRecDepth 20000 in
theorem ggX5_go_X5_no : GoodIn wsX5_go wsX5_no := goodIn_r _ [10, 1, 70, 71, 72, 73, 74, 75, 76, 77, 78] (by decide +kernel) (by decide +kernel)
set_option maxRecDepth 20000 in
theorem gX5_go_X5_no : GoodIn wsX5_go (wsV RX5 45 RX5 yX5_no wsX5_no) := goodIn_app (goodIn_of _ (by decide +kernel)) ggX5_go_X5_no
set_option maxRecDepth 20000 in
theorem ggX5_go_X4_in : GoodIn wsX5_go wsX4_in := goodIn_r _ [15, 16, 17, 18, 19, 14, 20, 21, 79, 80, 81, 82, 83, 84, 85, 86, 87, 88, 89, 90, 70, 71, 72, 73, 74, 75, 76, 77, 78] (by decide +kernel) (by decide +kernel)
set_option maxRecDepth 20000 in
theorem gX5_go_X4_in : GoodIn wsX5_go (wsV RX5 117 RX4 yX4_in wsX4_in) := goodIn_app (goodIn_of _ (by decide +kernel)) ggX5_go_X4_in
set_option maxRecDepth 20000 in
theorem ggX5_go_X4_go_ : GoodIn wsX5_go wsX4_go_ := goodIn_r _ [25, 16, 26, 17, 18, 19, 14, 20, 21, 27, 28, 29, 30, 31, 32, 33, 34, 35, 36, 37, 38, 39, 40, 41, 42, 43, 44, 45, 46, 47, 48, 49, 50, 51, 52, 53, 54, 55, 56, 57, 58, 59, 60, 61, 62, 63, 64, 65, 66, 67, 68, 69, 79, 80, 81, 82, 83, 84, 85, 86, 87, 88, 89, 90, 70, 71, 72, 73, 74, 75, 76, 77, 78] (by decide +kernel) (by decide +kernel)
set_option maxRecDepth 20000 in
theorem gX5_go_X4_go_ : GoodIn wsX5_go (wsV RX5 121 RX4 yX4_go_ wsX4_go_) := goodIn_app (goodIn_of _ (by decide +kernel)) ggX5_go_X4_go_
theorem dX5_go_0 : decode cX5_go 0 = .ok (.aload_n 0, 1) := by decide +kernel
theorem dX5_go_1 : decode cX5_go 1 = .ok (.iconst 0, 1) := by decide +kernel
theorem dX5_go_2 : decode cX5_go 2 = .ok (.putfield 34, 3) := by decide +kernel
theorem dX5_go_5 : decode cX5_go 5 = .ok (.iload_n 1, 1) := by decide +kernel
theorem dX5_go_6 : decode cX5_go 6 = .ok (.iconst 1, 1) := by decide +kernel
theorem dX5_go_7 : decode cX5_go 7 = .ok (.sipush 200, 3) := by decide +kernel
theorem dX5_go_10 : decode cX5_go 10 = .ok (.invokestatic 41, 3) := by decide +kernel
theorem dX5_go_13 : decode cX5_go 13 = .ok (.ifCond .ne 9, 3) := by decide +kernel
theorem dX5_go_16 : decode cX5_go 16 = .ok (.aload_n 0, 1) := by decide +kernel
theorem dX5_go_17 : decode cX5_go 17 = .ok (.iconst 1, 1) := by decide +kernel
theorem dX5_go_18 : decode cX5_go 18 = .ok (.invokevirtual 45, 3) := by decide +kernel
theorem dX5_go_21 : decode cX5_go 21 = .ok (.ireturn, 1) := by decide +kernel
theorem dX5_go_22 : decode cX5_go 22 = .ok (.aload_n 0, 1) := by decide +kernel
theorem dX5_go_23 : decode cX5_go 23 = .ok (.getfield 27, 3) := by decide +kernel
theorem dX5_go_26 : decode cX5_go 26 = .ok (.invokevirtual 117, 3) := by decide +kernel
theorem dX5_go_29 : decode cX5_go 29 = .ok (.istore_n 2, 1) := by decide +kernel
theorem dX5_go_30 : decode cX5_go 30 = .ok (.iconst 0, 1) := by decide +kernel
theorem dX5_go_31 : decode cX5_go 31 = .ok (.istore_n 3, 1) := by decide +kernel
theorem dX5_go_32 : decode cX5_go 32 = .ok (.iload_n 3, 1) := by decide +kernel
theorem dX5_go_33 : decode cX5_go 33 = .ok (.iload_n 1, 1) := by decide +kernel
theorem dX5_go_34 : decode cX5_go 34 = .ok (.if_icmp .ge 16, 3) := by decide +kernel
theorem dX5_go_37 : decode cX5_go 37 = .ok (.aload_n 0, 1) := by decide +kernel
theorem dX5_go_38 : decode cX5_go 38 = .ok (.getfield 27, 3) := by decide +kernel
theorem dX5_go_41 : decode cX5_go 41 = .ok (.invokevirtual 121, 3) := by decide +kernel
theorem dX5_go_44 : decode cX5_go 44 = .ok (.iinc 3 1, 3) := by decide +kernel
theorem dX5_go_47 : decode cX5_go 47 = .ok (.goto (-15), 3) := by decide +kernel
theorem dX5_go_50 : decode cX5_go 50 = .ok (.aload_n 0, 1) := by decide +kernel
theorem dX5_go_51 : decode cX5_go 51 = .ok (.getfield 27, 3) := by decide +kernel
theorem dX5_go_54 : decode cX5_go 54 = .ok (.invokevirtual 117, 3) := by decide +kernel
theorem dX5_go_57 : decode cX5_go 57 = .ok (.iload_n 2, 1) := by decide +kernel
theorem dX5_go_58 : decode cX5_go 58 = .ok (.isub, 1) := by decide +kernel
theorem dX5_go_59 : decode cX5_go 59 = .ok (.ireturn, 1) := by decide +kernel
set_option maxRecDepth 20000 in
theorem ggX5_arrives_X5_isBoat : GoodIn wsX5_arrives wsX5_isBoat := goodIn_r _ [8, 9, 10, 11, 7, 12, 85, 86, 87, 88, 89, 90, 91, 92, 93] (by decide +kernel) (by decide +kernel)
set_option maxRecDepth 20000 in
theorem gX5_arrives_X5_isBoat : GoodIn wsX5_arrives (wsV RX5 67 RX5 yX5_isBoat wsX5_isBoat) := goodIn_app (goodIn_of _ (by decide +kernel)) ggX5_arrives_X5_isBoat
set_option maxRecDepth 20000 in
theorem ggX5_arrives_X5_no : GoodIn wsX5_arrives wsX5_no := goodIn_r _ [16, 1, 85, 86, 87, 88, 89, 90, 91, 92, 93] (by decide +kernel) (by decide +kernel)
set_option maxRecDepth 20000 in
theorem gX5_arrives_X5_no : GoodIn wsX5_arrives (wsV RX5 45 RX5 yX5_no wsX5_no) := goodIn_app (goodIn_of _ (by decide +kernel)) ggX5_arrives_X5_no
set_option maxRecDepth 20000 in
theorem ggX5_arrives_X4_become : GoodIn wsX5_arrives wsX4_become := goodIn_r _ [21, 22, 23, 24, 25, 26, 27, 28, 29, 30, 31, 32, 33, 34, 35, 20, 36, 37, 38, 39, 40, 94, 95, 96, 97, 98, 99, 100, 101, 102, 103, 104, 105] (by decide +kernel) (by decide +kernel)
set_option maxRecDepth 20000 in
theorem gX5_arrives_X4_become : GoodIn wsX5_arrives (wsV RX5 124 RX4 yX4_become wsX4_become) := goodIn_app (goodIn_of _ (by decide +kernel)) ggX5_arrives_X4_become
set_option maxRecDepth 20000 in
theorem ggX5_arrives_X4_isIn : GoodIn wsX5_arrives wsX4_isIn := goodIn_r _ [44, 28, 94, 95, 96, 97, 98, 99, 100, 101, 102, 103, 104, 105] (by decide +kernel) (by decide +kernel)
set_option maxRecDepth 20000 in
theorem gX5_arrives_X4_isIn : GoodIn wsX5_arrives (wsV RX5 75 RX4 yX4_isIn wsX4_isIn) := goodIn_app (goodIn_of _ (by decide +kernel)) ggX5_arrives_X4_isIn
set_option maxRecDepth 20000 in
theorem ggX5_arrives_X4_go_ : GoodIn wsX5_arrives wsX4_go_ := goodIn_r _ [48, 49, 22, 50, 42, 43, 20, 44, 28, 51, 52, 53, 54, 23, 25, 55, 56, 57, 58, 24, 30, 59, 60, 61, 62, 63, 64, 65, 31, 29, 26, 66, 67, 68, 69, 70, 71, 72, 32, 73, 74, 75, 76, 27, 77, 78, 79, 80, 81, 82, 83, 84, 94, 95, 96, 97, 98, 99, 100, 101, 102, 103, 104, 105, 85, 86, 87, 88, 89, 90, 91, 92, 93] (by decide +kernel) (by decide +kernel)
set_option maxRecDepth 20000 in
theorem gX5_arrives_X4_go_ : GoodIn wsX5_arrives (wsV RX5 121 RX4 yX4_go_ wsX4_go_) := goodIn_app (goodIn_of _ (by decide +kernel)) ggX5_arrives_X4_go_
theorem dX5_arrives_0 : decode cX5_arrives 0 = .ok (.aload_n 0, 1) := by decide +kernel
theorem dX5_arrives_1 : decode cX5_arrives 1 = .ok (.iconst 0, 1) := by decide +kernel
theorem dX5_arrives_2 : decode cX5_arrives 2 = .ok (.putfield 34, 3) := by decide +kernel
theorem dX5_arrives_5 : decode cX5_arrives 5 = .ok (.aload_n 0, 1) := by decide +kernel
theorem dX5_arrives_6 : decode cX5_arrives 6 = .ok (.iload_n 1, 1) := by decide +kernel
theorem dX5_arrives_7 : decode cX5_arrives 7 = .ok (.invokevirtual 67, 3) := by decide +kernel
theorem dX5_arrives_10 : decode cX5_arrives 10 = .ok (.ifCond .ne 9, 3) := by decide +kernel
theorem dX5_arrives_13 : decode cX5_arrives 13 = .ok (.aload_n 0, 1) := by decide +kernel
theorem dX5_arrives_14 : decode cX5_arrives 14 = .ok (.iconst 1, 1) := by decide +kernel
theorem dX5_arrives_15 : decode cX5_arrives 15 = .ok (.invokevirtual 45, 3) := by decide +kernel
theorem dX5_arrives_18 : decode cX5_arrives 18 = .ok (.ireturn, 1) := by decide +kernel
theorem dX5_arrives_19 : decode cX5_arrives 19 = .ok (.aload_n 0, 1) := by decide +kernel
theorem dX5_arrives_20 : decode cX5_arrives 20 = .ok (.getfield 31, 3) := by decide +kernel
theorem dX5_arrives_23 : decode cX5_arrives 23 = .ok (.aload_n 0, 1) := by decide +kernel
theorem dX5_arrives_24 : decode cX5_arrives 24 = .ok (.getfield 27, 3) := by decide +kernel
theorem dX5_arrives_27 : decode cX5_arrives 27 = .ok (.invokevirtual 124, 3) := by decide +kernel
theorem dX5_arrives_30 : decode cX5_arrives 30 = .ok (.iconst 0, 1) := by decide +kernel
theorem dX5_arrives_31 : decode cX5_arrives 31 = .ok (.istore_n 2, 1) := by decide +kernel
theorem dX5_arrives_32 : decode cX5_arrives 32 = .ok (.iload_n 2, 1) := by decide +kernel
theorem dX5_arrives_33 : decode cX5_arrives 33 = .ok (.sipush 400, 3) := by decide +kernel
theorem dX5_arrives_36 : decode cX5_arrives 36 = .ok (.if_icmp .gt 29, 3) := by decide +kernel
theorem dX5_arrives_39 : decode cX5_arrives 39 = .ok (.aload_n 0, 1) := by decide +kernel
theorem dX5_arrives_40 : decode cX5_arrives 40 = .ok (.getfield 31, 3) := by decide +kernel
theorem dX5_arrives_43 : decode cX5_arrives 43 = .ok (.iload_n 1, 1) := by decide +kernel
theorem dX5_arrives_44 : decode cX5_arrives 44 = .ok (.invokevirtual 75, 3) := by decide +kernel
theorem dX5_arrives_47 : decode cX5_arrives 47 = .ok (.ifCond .eq 5, 3) := by decide +kernel
theorem dX5_arrives_50 : decode cX5_arrives 50 = .ok (.iload_n 2, 1) := by decide +kernel
theorem dX5_arrives_51 : decode cX5_arrives 51 = .ok (.ireturn, 1) := by decide +kernel
theorem dX5_arrives_52 : decode cX5_arrives 52 = .ok (.aload_n 0, 1) := by decide +kernel
theorem dX5_arrives_53 : decode cX5_arrives 53 = .ok (.getfield 31, 3) := by decide +kernel
theorem dX5_arrives_56 : decode cX5_arrives 56 = .ok (.invokevirtual 121, 3) := by decide +kernel
theorem dX5_arrives_59 : decode cX5_arrives 59 = .ok (.iinc 2 1, 3) := by decide +kernel
theorem dX5_arrives_62 : decode cX5_arrives 62 = .ok (.goto (-30), 3) := by decide +kernel
theorem dX5_arrives_65 : decode cX5_arrives 65 = .ok (.iconst (-1), 1) := by decide +kernel
theorem dX5_arrives_66 : decode cX5_arrives 66 = .ok (.ireturn, 1) := by decide +kernel
set_option maxRecDepth 20000 in
theorem ggX5_foresee_X5_isFrom : GoodIn wsX5_foresee wsX5_isFrom := goodIn_r _ [7] (by decide +kernel) (by decide +kernel)
set_option maxRecDepth 20000 in
theorem gX5_foresee_X5_isFrom : GoodIn wsX5_foresee (va_wsS RX5 41 yX5_isFrom wsX5_isFrom) := goodIn_app (goodIn_of _ (by decide +kernel)) ggX5_foresee_X5_isFrom
set_option maxRecDepth 20000 in
theorem ggX5_foresee_X5_no : GoodIn wsX5_foresee wsX5_no := goodIn_r _ [11, 1, 92, 93, 94, 95, 96, 97, 98, 99, 100] (by decide +kernel) (by decide +kernel)
set_option maxRecDepth 20000 in
theorem gX5_foresee_X5_no : GoodIn wsX5_foresee (wsV RX5 45 RX5 yX5_no wsX5_no) := goodIn_app (goodIn_of _ (by decide +kernel)) ggX5_foresee_X5_no
set_option maxRecDepth 20000 in
theorem ggX5_foresee_X4_become : GoodIn wsX5_foresee wsX4_become := goodIn_r _ [16, 17, 18, 19, 20, 21, 22, 23, 24, 25, 26, 27, 28, 29, 30, 15, 31, 32, 33, 34, 35, 101, 102, 103, 104, 105, 106, 107, 108, 109, 110, 111, 112] (by decide +kernel) (by decide +kernel)
set_option maxRecDepth 20000 in
theorem gX5_foresee_X4_become : GoodIn wsX5_foresee (wsV RX5 124 RX4 yX4_become wsX4_become) := goodIn_app (goodIn_of _ (by decide +kernel)) ggX5_foresee_X4_become
set_option maxRecDepth 20000 in
theorem ggX5_foresee_X4_go_ : GoodIn wsX5_foresee wsX4_go_ := goodIn_r _ [39, 40, 17, 41, 42, 43, 15, 44, 23, 45, 46, 47, 48, 18, 20, 49, 50, 51, 52, 19, 25, 53, 54, 55, 56, 57, 58, 59, 26, 24, 21, 60, 61, 62, 63, 64, 65, 66, 27, 67, 68, 69, 70, 22, 71, 72, 73, 74, 75, 76, 77, 78, 101, 102, 103, 104, 105, 106, 107, 108, 109, 110, 111, 112, 92, 93, 94, 95, 96, 97, 98, 99, 100] (by decide +kernel) (by decide +kernel)
set_option maxRecDepth 20000 in
theorem gX5_foresee_X4_go_ : GoodIn wsX5_foresee (wsV RX5 121 RX4 yX4_go_ wsX4_go_) := goodIn_app (goodIn_of _ (by decide +kernel)) ggX5_foresee_X4_go_
set_option maxRecDepth 20000 in
theorem ggX5_foresee_X4_counted : GoodIn wsX5_foresee wsX4_counted := goodIn_r _ [82, 40, 22, 18, 83, 17, 41, 42, 43, 15, 44, 23, 84, 85, 86, 87, 88, 89, 90, 91, 101, 102, 103, 104, 105, 106, 107, 108, 109, 110, 111, 112, 92, 93, 94, 95, 96, 97, 98, 99, 100] (by decide +kernel) (by decide +kernel)
set_option maxRecDepth 20000 in
theorem gX5_foresee_X4_counted : GoodIn wsX5_foresee (wsV RX5 103 RX4 yX4_counted wsX4_counted) := goodIn_app (goodIn_of _ (by decide +kernel)) ggX5_foresee_X4_counted
theorem dX5_foresee_0 : decode cX5_foresee 0 = .ok (.aload_n 0, 1) := by decide +kernel
theorem dX5_foresee_1 : decode cX5_foresee 1 = .ok (.iconst 0, 1) := by decide +kernel
theorem dX5_foresee_2 : decode cX5_foresee 2 = .ok (.putfield 34, 3) := by decide +kernel
theorem dX5_foresee_5 : decode cX5_foresee 5 = .ok (.iload_n 1, 1) := by decide +kernel
theorem dX5_foresee_6 : decode cX5_foresee 6 = .ok (.iconst 1, 1) := by decide +kernel
theorem dX5_foresee_7 : decode cX5_foresee 7 = .ok (.sipush 200, 3) := by decide +kernel
theorem dX5_foresee_10 : decode cX5_foresee 10 = .ok (.invokestatic 41, 3) := by decide +kernel
theorem dX5_foresee_13 : decode cX5_foresee 13 = .ok (.ifCond .ne 9, 3) := by decide +kernel
theorem dX5_foresee_16 : decode cX5_foresee 16 = .ok (.aload_n 0, 1) := by decide +kernel
theorem dX5_foresee_17 : decode cX5_foresee 17 = .ok (.iconst 1, 1) := by decide +kernel
theorem dX5_foresee_18 : decode cX5_foresee 18 = .ok (.invokevirtual 45, 3) := by decide +kernel
theorem dX5_foresee_21 : decode cX5_foresee 21 = .ok (.ireturn, 1) := by decide +kernel
theorem dX5_foresee_22 : decode cX5_foresee 22 = .ok (.iload_n 2, 1) := by decide +kernel
theorem dX5_foresee_23 : decode cX5_foresee 23 = .ok (.iconst 3, 1) := by decide +kernel
theorem dX5_foresee_24 : decode cX5_foresee 24 = .ok (.bipush 6, 2) := by decide +kernel
theorem dX5_foresee_26 : decode cX5_foresee 26 = .ok (.invokestatic 41, 3) := by decide +kernel
theorem dX5_foresee_29 : decode cX5_foresee 29 = .ok (.ifCond .ne 9, 3) := by decide +kernel
theorem dX5_foresee_32 : decode cX5_foresee 32 = .ok (.aload_n 0, 1) := by decide +kernel
theorem dX5_foresee_33 : decode cX5_foresee 33 = .ok (.iconst 2, 1) := by decide +kernel
theorem dX5_foresee_34 : decode cX5_foresee 34 = .ok (.invokevirtual 45, 3) := by decide +kernel
theorem dX5_foresee_37 : decode cX5_foresee 37 = .ok (.ireturn, 1) := by decide +kernel
theorem dX5_foresee_38 : decode cX5_foresee 38 = .ok (.aload_n 0, 1) := by decide +kernel
theorem dX5_foresee_39 : decode cX5_foresee 39 = .ok (.getfield 31, 3) := by decide +kernel
theorem dX5_foresee_42 : decode cX5_foresee 42 = .ok (.aload_n 0, 1) := by decide +kernel
theorem dX5_foresee_43 : decode cX5_foresee 43 = .ok (.getfield 27, 3) := by decide +kernel
theorem dX5_foresee_46 : decode cX5_foresee 46 = .ok (.invokevirtual 124, 3) := by decide +kernel
theorem dX5_foresee_49 : decode cX5_foresee 49 = .ok (.iconst 0, 1) := by decide +kernel
theorem dX5_foresee_50 : decode cX5_foresee 50 = .ok (.istore_n 3, 1) := by decide +kernel
theorem dX5_foresee_51 : decode cX5_foresee 51 = .ok (.iload_n 3, 1) := by decide +kernel
theorem dX5_foresee_52 : decode cX5_foresee 52 = .ok (.iload_n 1, 1) := by decide +kernel
theorem dX5_foresee_53 : decode cX5_foresee 53 = .ok (.if_icmp .ge 16, 3) := by decide +kernel
theorem dX5_foresee_56 : decode cX5_foresee 56 = .ok (.aload_n 0, 1) := by decide +kernel
theorem dX5_foresee_57 : decode cX5_foresee 57 = .ok (.getfield 31, 3) := by decide +kernel
theorem dX5_foresee_60 : decode cX5_foresee 60 = .ok (.invokevirtual 121, 3) := by decide +kernel
theorem dX5_foresee_63 : decode cX5_foresee 63 = .ok (.iinc 3 1, 3) := by decide +kernel
theorem dX5_foresee_66 : decode cX5_foresee 66 = .ok (.goto (-15), 3) := by decide +kernel
theorem dX5_foresee_69 : decode cX5_foresee 69 = .ok (.aload_n 0, 1) := by decide +kernel
theorem dX5_foresee_70 : decode cX5_foresee 70 = .ok (.getfield 31, 3) := by decide +kernel
theorem dX5_foresee_73 : decode cX5_foresee 73 = .ok (.iload_n 2, 1) := by decide +kernel
theorem dX5_foresee_74 : decode cX5_foresee 74 = .ok (.invokevirtual 103, 3) := by decide +kernel
theorem dX5_foresee_77 : decode cX5_foresee 77 = .ok (.ireturn, 1) := by decide +kernel
set_option maxRecDepth 20000 in
theorem ggX5_advise_X5_isBoat : GoodIn wsX5_advise wsX5_isBoat := goodIn_r _ [8, 9, 10, 11, 7, 12, 84, 85, 86, 87, 88, 89, 90, 91, 92] (by decide +kernel) (by decide +kernel)
set_option maxRecDepth 20000 in
theorem gX5_advise_X5_isBoat : GoodIn wsX5_advise (wsV RX5 67 RX5 yX5_isBoat wsX5_isBoat) := goodIn_app (goodIn_of _ (by decide +kernel)) ggX5_advise_X5_isBoat
set_option maxRecDepth 20000 in
theorem ggX5_advise_X5_no : GoodIn wsX5_advise wsX5_no := goodIn_r _ [16, 1, 84, 85, 86, 87, 88, 89, 90, 91, 92] (by decide +kernel) (by decide +kernel)
set_option maxRecDepth 20000 in
theorem gX5_advise_X5_no : GoodIn wsX5_advise (wsV RX5 45 RX5 yX5_no wsX5_no) := goodIn_app (goodIn_of _ (by decide +kernel)) ggX5_advise_X5_no
set_option maxRecDepth 20000 in
theorem ggX5_advise_X5_isFrom : GoodIn wsX5_advise wsX5_isFrom := goodIn_r _ [12] (by decide +kernel) (by decide +kernel)
set_option maxRecDepth 20000 in
theorem gX5_advise_X5_isFrom : GoodIn wsX5_advise (va_wsS RX5 41 yX5_isFrom wsX5_isFrom) := goodIn_app (goodIn_of _ (by decide +kernel)) ggX5_advise_X5_isFrom
set_option maxRecDepth 20000 in
theorem ggX5_advise_X4_become : GoodIn wsX5_advise wsX4_become := goodIn_r _ [21, 22, 23, 24, 25, 26, 27, 28, 29, 30, 31, 32, 33, 34, 35, 20, 36, 37, 38, 39, 40, 93, 94, 95, 96, 97, 98, 99, 100, 101, 102, 103, 104] (by decide +kernel) (by decide +kernel)
set_option maxRecDepth 20000 in
theorem gX5_advise_X4_become : GoodIn wsX5_advise (wsV RX5 124 RX4 yX4_become wsX4_become) := goodIn_app (goodIn_of _ (by decide +kernel)) ggX5_advise_X4_become
set_option maxRecDepth 20000 in
theorem ggX5_advise_X4_go_ : GoodIn wsX5_advise wsX4_go_ := goodIn_r _ [44, 45, 22, 46, 47, 48, 20, 49, 28, 50, 51, 52, 53, 23, 25, 54, 55, 56, 57, 24, 30, 58, 59, 60, 61, 62, 63, 64, 31, 29, 26, 65, 66, 67, 68, 69, 70, 71, 32, 72, 73, 74, 75, 27, 76, 77, 78, 79, 80, 81, 82, 83, 93, 94, 95, 96, 97, 98, 99, 100, 101, 102, 103, 104, 84, 85, 86, 87, 88, 89, 90, 91, 92] (by decide +kernel) (by decide +kernel)
set_option maxRecDepth 20000 in
theorem gX5_advise_X4_go_ : GoodIn wsX5_advise (wsV RX5 121 RX4 yX4_go_ wsX4_go_) := goodIn_app (goodIn_of _ (by decide +kernel)) ggX5_advise_X4_go_
theorem dX5_advise_0 : decode cX5_advise 0 = .ok (.aload_n 0, 1) := by decide +kernel
theorem dX5_advise_1 : decode cX5_advise 1 = .ok (.iconst 0, 1) := by decide +kernel
theorem dX5_advise_2 : decode cX5_advise 2 = .ok (.putfield 34, 3) := by decide +kernel
theorem dX5_advise_5 : decode cX5_advise 5 = .ok (.aload_n 0, 1) := by decide +kernel
theorem dX5_advise_6 : decode cX5_advise 6 = .ok (.iload_n 1, 1) := by decide +kernel
theorem dX5_advise_7 : decode cX5_advise 7 = .ok (.invokevirtual 67, 3) := by decide +kernel
theorem dX5_advise_10 : decode cX5_advise 10 = .ok (.ifCond .ne 9, 3) := by decide +kernel
theorem dX5_advise_13 : decode cX5_advise 13 = .ok (.aload_n 0, 1) := by decide +kernel
theorem dX5_advise_14 : decode cX5_advise 14 = .ok (.iconst 1, 1) := by decide +kernel
theorem dX5_advise_15 : decode cX5_advise 15 = .ok (.invokevirtual 45, 3) := by decide +kernel
theorem dX5_advise_18 : decode cX5_advise 18 = .ok (.ireturn, 1) := by decide +kernel
theorem dX5_advise_19 : decode cX5_advise 19 = .ok (.iload_n 2, 1) := by decide +kernel
theorem dX5_advise_20 : decode cX5_advise 20 = .ok (.iconst 1, 1) := by decide +kernel
theorem dX5_advise_21 : decode cX5_advise 21 = .ok (.bipush 60, 2) := by decide +kernel
theorem dX5_advise_23 : decode cX5_advise 23 = .ok (.invokestatic 41, 3) := by decide +kernel
theorem dX5_advise_26 : decode cX5_advise 26 = .ok (.ifCond .ne 9, 3) := by decide +kernel
theorem dX5_advise_29 : decode cX5_advise 29 = .ok (.aload_n 0, 1) := by decide +kernel
theorem dX5_advise_30 : decode cX5_advise 30 = .ok (.iconst 2, 1) := by decide +kernel
theorem dX5_advise_31 : decode cX5_advise 31 = .ok (.invokevirtual 45, 3) := by decide +kernel
theorem dX5_advise_34 : decode cX5_advise 34 = .ok (.ireturn, 1) := by decide +kernel
theorem dX5_advise_35 : decode cX5_advise 35 = .ok (.iconst (-1), 1) := by decide +kernel
theorem dX5_advise_36 : decode cX5_advise 36 = .ok (.istore_n 3, 1) := by decide +kernel
theorem dX5_advise_37 : decode cX5_advise 37 = .ok (.iconst (-1), 1) := by decide +kernel
theorem dX5_advise_38 : decode cX5_advise 38 = .ok (.istore 4, 2) := by decide +kernel
theorem dX5_advise_40 : decode cX5_advise 40 = .ok (.iconst 0, 1) := by decide +kernel
theorem dX5_advise_41 : decode cX5_advise 41 = .ok (.istore 5, 2) := by decide +kernel
theorem dX5_advise_43 : decode cX5_advise 43 = .ok (.iload 5, 2) := by decide +kernel
theorem dX5_advise_45 : decode cX5_advise 45 = .ok (.bipush 34, 2) := by decide +kernel
theorem dX5_advise_47 : decode cX5_advise 47 = .ok (.if_icmp .ge 106, 3) := by decide +kernel
theorem dX5_advise_50 : decode cX5_advise 50 = .ok (.iload 5, 2) := by decide +kernel
theorem dX5_advise_52 : decode cX5_advise 52 = .ok (.bipush 10, 2) := by decide +kernel
theorem dX5_advise_54 : decode cX5_advise 54 = .ok (.irem, 1) := by decide +kernel
theorem dX5_advise_55 : decode cX5_advise 55 = .ok (.iconst 3, 1) := by decide +kernel
theorem dX5_advise_56 : decode cX5_advise 56 = .ok (.if_icmp .le 6, 3) := by decide +kernel
theorem dX5_advise_59 : decode cX5_advise 59 = .ok (.goto 88, 3) := by decide +kernel
theorem dX5_advise_62 : decode cX5_advise 62 = .ok (.aload_n 0, 1) := by decide +kernel
theorem dX5_advise_63 : decode cX5_advise 63 = .ok (.getfield 31, 3) := by decide +kernel
theorem dX5_advise_66 : decode cX5_advise 66 = .ok (.aload_n 0, 1) := by decide +kernel
theorem dX5_advise_67 : decode cX5_advise 67 = .ok (.getfield 27, 3) := by decide +kernel
theorem dX5_advise_70 : decode cX5_advise 70 = .ok (.invokevirtual 124, 3) := by decide +kernel
theorem dX5_advise_73 : decode cX5_advise 73 = .ok (.aload_n 0, 1) := by decide +kernel
theorem dX5_advise_74 : decode cX5_advise 74 = .ok (.getfield 31, 3) := by decide +kernel
theorem dX5_advise_77 : decode cX5_advise 77 = .ok (.getfield 58, 3) := by decide +kernel
theorem dX5_advise_80 : decode cX5_advise 80 = .ok (.iload_n 1, 1) := by decide +kernel
theorem dX5_advise_81 : decode cX5_advise 81 = .ok (.iconst 2, 1) := by decide +kernel
theorem dX5_advise_82 : decode cX5_advise 82 = .ok (.iastore, 1) := by decide +kernel
theorem dX5_advise_83 : decode cX5_advise 83 = .ok (.aload_n 0, 1) := by decide +kernel
theorem dX5_advise_84 : decode cX5_advise 84 = .ok (.getfield 31, 3) := by decide +kernel
theorem dX5_advise_87 : decode cX5_advise 87 = .ok (.getfield 61, 3) := by decide +kernel
theorem dX5_advise_90 : decode cX5_advise 90 = .ok (.iload_n 1, 1) := by decide +kernel
theorem dX5_advise_91 : decode cX5_advise 91 = .ok (.iload 5, 2) := by decide +kernel
theorem dX5_advise_93 : decode cX5_advise 93 = .ok (.iastore, 1) := by decide +kernel
theorem dX5_advise_94 : decode cX5_advise 94 = .ok (.iconst 0, 1) := by decide +kernel
theorem dX5_advise_95 : decode cX5_advise 95 = .ok (.istore 6, 2) := by decide +kernel
theorem dX5_advise_97 : decode cX5_advise 97 = .ok (.iload 6, 2) := by decide +kernel
theorem dX5_advise_99 : decode cX5_advise 99 = .ok (.iload_n 2, 1) := by decide +kernel
theorem dX5_advise_100 : decode cX5_advise 100 = .ok (.if_icmp .ge 16, 3) := by decide +kernel
theorem dX5_advise_103 : decode cX5_advise 103 = .ok (.aload_n 0, 1) := by decide +kernel
theorem dX5_advise_104 : decode cX5_advise 104 = .ok (.getfield 31, 3) := by decide +kernel
theorem dX5_advise_107 : decode cX5_advise 107 = .ok (.invokevirtual 121, 3) := by decide +kernel
theorem dX5_advise_110 : decode cX5_advise 110 = .ok (.iinc 6 1, 3) := by decide +kernel
theorem dX5_advise_113 : decode cX5_advise 113 = .ok (.goto (-16), 3) := by decide +kernel
theorem dX5_advise_116 : decode cX5_advise 116 = .ok (.aload_n 0, 1) := by decide +kernel
theorem dX5_advise_117 : decode cX5_advise 117 = .ok (.getfield 31, 3) := by decide +kernel
theorem dX5_advise_120 : decode cX5_advise 120 = .ok (.getfield 84, 3) := by decide +kernel
theorem dX5_advise_123 : decode cX5_advise 123 = .ok (.iload_n 1, 1) := by decide +kernel
theorem dX5_advise_124 : decode cX5_advise 124 = .ok (.iaload, 1) := by decide +kernel
theorem dX5_advise_125 : decode cX5_advise 125 = .ok (.iload 4, 2) := by decide +kernel
theorem dX5_advise_127 : decode cX5_advise 127 = .ok (.if_icmp .gt 6, 3) := by decide +kernel
theorem dX5_advise_130 : decode cX5_advise 130 = .ok (.goto 17, 3) := by decide +kernel
theorem dX5_advise_133 : decode cX5_advise 133 = .ok (.aload_n 0, 1) := by decide +kernel
theorem dX5_advise_134 : decode cX5_advise 134 = .ok (.getfield 31, 3) := by decide +kernel
theorem dX5_advise_137 : decode cX5_advise 137 = .ok (.getfield 84, 3) := by decide +kernel
theorem dX5_advise_140 : decode cX5_advise 140 = .ok (.iload_n 1, 1) := by decide +kernel
theorem dX5_advise_141 : decode cX5_advise 141 = .ok (.iaload, 1) := by decide +kernel
theorem dX5_advise_142 : decode cX5_advise 142 = .ok (.istore 4, 2) := by decide +kernel
theorem dX5_advise_144 : decode cX5_advise 144 = .ok (.iload 5, 2) := by decide +kernel
theorem dX5_advise_146 : decode cX5_advise 146 = .ok (.istore_n 3, 1) := by decide +kernel
theorem dX5_advise_147 : decode cX5_advise 147 = .ok (.iinc 5 1, 3) := by decide +kernel
theorem dX5_advise_150 : decode cX5_advise 150 = .ok (.goto (-107), 3) := by decide +kernel
theorem dX5_advise_153 : decode cX5_advise 153 = .ok (.iload_n 3, 1) := by decide +kernel
theorem dX5_advise_154 : decode cX5_advise 154 = .ok (.ireturn, 1) := by decide +kernel
theorem dX5_mean_0 : decode cX5_mean 0 = .ok (.aload_n 0, 1) := by decide +kernel
theorem dX5_mean_1 : decode cX5_mean 1 = .ok (.iconst 0, 1) := by decide +kernel
theorem dX5_mean_2 : decode cX5_mean 2 = .ok (.putfield 34, 3) := by decide +kernel
theorem dX5_mean_5 : decode cX5_mean 5 = .ok (.iconst 0, 1) := by decide +kernel
theorem dX5_mean_6 : decode cX5_mean 6 = .ok (.istore_n 1, 1) := by decide +kernel
theorem dX5_mean_7 : decode cX5_mean 7 = .ok (.iconst 0, 1) := by decide +kernel
theorem dX5_mean_8 : decode cX5_mean 8 = .ok (.istore_n 2, 1) := by decide +kernel
theorem dX5_mean_9 : decode cX5_mean 9 = .ok (.iload_n 2, 1) := by decide +kernel
theorem dX5_mean_10 : decode cX5_mean 10 = .ok (.aload_n 0, 1) := by decide +kernel
theorem dX5_mean_11 : decode cX5_mean 11 = .ok (.getfield 38, 3) := by decide +kernel
theorem dX5_mean_14 : decode cX5_mean 14 = .ok (.if_icmp .ge 21, 3) := by decide +kernel
theorem dX5_mean_17 : decode cX5_mean 17 = .ok (.iload_n 1, 1) := by decide +kernel
theorem dX5_mean_18 : decode cX5_mean 18 = .ok (.aload_n 0, 1) := by decide +kernel
theorem dX5_mean_19 : decode cX5_mean 19 = .ok (.getfield 27, 3) := by decide +kernel
theorem dX5_mean_22 : decode cX5_mean 22 = .ok (.getfield 84, 3) := by decide +kernel
theorem dX5_mean_25 : decode cX5_mean 25 = .ok (.iload_n 2, 1) := by decide +kernel
theorem dX5_mean_26 : decode cX5_mean 26 = .ok (.iaload, 1) := by decide +kernel
theorem dX5_mean_27 : decode cX5_mean 27 = .ok (.iadd, 1) := by decide +kernel
theorem dX5_mean_28 : decode cX5_mean 28 = .ok (.istore_n 1, 1) := by decide +kernel
theorem dX5_mean_29 : decode cX5_mean 29 = .ok (.iinc 2 1, 3) := by decide +kernel
theorem dX5_mean_32 : decode cX5_mean 32 = .ok (.goto (-23), 3) := by decide +kernel
theorem dX5_mean_35 : decode cX5_mean 35 = .ok (.aload_n 0, 1) := by decide +kernel
theorem dX5_mean_36 : decode cX5_mean 36 = .ok (.getfield 38, 3) := by decide +kernel
theorem dX5_mean_39 : decode cX5_mean 39 = .ok (.ifCond .ne 7, 3) := by decide +kernel
theorem dX5_mean_42 : decode cX5_mean 42 = .ok (.dconst 0, 1) := by decide +kernel
theorem dX5_mean_43 : decode cX5_mean 43 = .ok (.goto 11, 3) := by decide +kernel
theorem dX5_mean_46 : decode cX5_mean 46 = .ok (.iload_n 1, 1) := by decide +kernel
theorem dX5_mean_47 : decode cX5_mean 47 = .ok (.i2d, 1) := by decide +kernel
theorem dX5_mean_48 : decode cX5_mean 48 = .ok (.aload_n 0, 1) := by decide +kernel
theorem dX5_mean_49 : decode cX5_mean 49 = .ok (.getfield 38, 3) := by decide +kernel
theorem dX5_mean_52 : decode cX5_mean 52 = .ok (.i2d, 1) := by decide +kernel
theorem dX5_mean_53 : decode cX5_mean 53 = .ok (.ddiv, 1) := by decide +kernel
theorem dX5_mean_54 : decode cX5_mean 54 = .ok (.dreturn, 1) := by decide +kernel
set_option maxRecDepth 20000 in
theorem ggX5_digest_X4_counted : GoodIn wsX5_digest wsX4_counted := goodIn_r _ [14, 15, 16, 17, 18, 19, 20, 21, 22, 13, 23, 24, 25, 26, 27, 28, 29, 30, 31, 32, 63, 64, 65, 66, 67, 68, 69, 70, 71, 72, 73, 74, 54, 55, 56, 57, 58, 59, 60, 61, 62] (by decide +kernel) (by decide +kernel)
set_option maxRecDepth 20000 in
theorem gX5_digest_X4_counted : GoodIn wsX5_digest (wsV RX5 103 RX4 yX4_counted wsX4_counted) := goodIn_app (goodIn_of _ (by decide +kernel)) ggX5_digest_X4_counted
set_option maxRecDepth 20000 in
theorem ggX5_digest_X5_boatTold : GoodIn wsX5_digest wsX5_boatTold := goodIn_r _ [37, 18, 4, 38, 21, 22, 13, 23, 24, 39, 26, 27, 28, 16, 20, 54, 55, 56, 57, 58, 59, 60, 61, 62, 63, 64, 65, 66, 67, 68, 69, 70, 71, 72, 73, 74] (by decide +kernel) (by decide +kernel)
set_option maxRecDepth 20000 in
theorem gX5_digest_X5_boatTold : GoodIn wsX5_digest (wsV RX5 99 RX5 yX5_boatTold wsX5_boatTold) := goodIn_app (goodIn_of _ (by decide +kernel)) ggX5_digest_X5_boatTold
set_option maxRecDepth 20000 in
theorem ggX5_digest_X4_stroke : GoodIn wsX5_digest wsX4_stroke := goodIn_r _ [43, 44, 45, 63, 64, 65, 66, 67, 68, 69, 70, 71, 72, 73, 74] (by decide +kernel) (by decide +kernel)
set_option maxRecDepth 20000 in
theorem gX5_digest_X4_stroke : GoodIn wsX5_digest (wsV RX5 132 RX4 yX4_stroke wsX4_stroke) := goodIn_app (goodIn_of _ (by decide +kernel)) ggX5_digest_X4_stroke
set_option maxRecDepth 20000 in
theorem ggX5_digest_X5_rankOf : GoodIn wsX5_digest wsX5_rankOf := goodIn_r _ [49, 9, 50, 51, 52, 36, 53, 4, 38, 21, 22, 13, 23, 24, 39, 26, 27, 28, 16, 20, 54, 55, 56, 57, 58, 59, 60, 61, 62, 63, 64, 65, 66, 67, 68, 69, 70, 71, 72, 73, 74] (by decide +kernel) (by decide +kernel)
set_option maxRecDepth 20000 in
theorem gX5_digest_X5_rankOf : GoodIn wsX5_digest (wsV RX5 114 RX5 yX5_rankOf wsX5_rankOf) := goodIn_app (goodIn_of _ (by decide +kernel)) ggX5_digest_X5_rankOf
theorem dX5_digest_0 : decode cX5_digest 0 = .ok (.aload_n 0, 1) := by decide +kernel
theorem dX5_digest_1 : decode cX5_digest 1 = .ok (.iconst 0, 1) := by decide +kernel
theorem dX5_digest_2 : decode cX5_digest 2 = .ok (.putfield 34, 3) := by decide +kernel
theorem dX5_digest_5 : decode cX5_digest 5 = .ok (.ldc2_w 128, 3) := by decide +kernel
theorem dX5_digest_8 : decode cX5_digest 8 = .ok (.lstore_n 1, 1) := by decide +kernel
theorem dX5_digest_9 : decode cX5_digest 9 = .ok (.iconst 0, 1) := by decide +kernel
theorem dX5_digest_10 : decode cX5_digest 10 = .ok (.istore_n 3, 1) := by decide +kernel
theorem dX5_digest_11 : decode cX5_digest 11 = .ok (.iload_n 3, 1) := by decide +kernel
theorem dX5_digest_12 : decode cX5_digest 12 = .ok (.bipush 7, 2) := by decide +kernel
theorem dX5_digest_14 : decode cX5_digest 14 = .ok (.if_icmp .ge 25, 3) := by decide +kernel
theorem dX5_digest_17 : decode cX5_digest 17 = .ok (.lload_n 1, 1) := by decide +kernel
theorem dX5_digest_18 : decode cX5_digest 18 = .ok (.ldc2_w 130, 3) := by decide +kernel
theorem dX5_digest_21 : decode cX5_digest 21 = .ok (.lmul, 1) := by decide +kernel
theorem dX5_digest_22 : decode cX5_digest 22 = .ok (.aload_n 0, 1) := by decide +kernel
theorem dX5_digest_23 : decode cX5_digest 23 = .ok (.getfield 27, 3) := by decide +kernel
theorem dX5_digest_26 : decode cX5_digest 26 = .ok (.iload_n 3, 1) := by decide +kernel
theorem dX5_digest_27 : decode cX5_digest 27 = .ok (.invokevirtual 103, 3) := by decide +kernel
theorem dX5_digest_30 : decode cX5_digest 30 = .ok (.i2l, 1) := by decide +kernel
theorem dX5_digest_31 : decode cX5_digest 31 = .ok (.ladd, 1) := by decide +kernel
theorem dX5_digest_32 : decode cX5_digest 32 = .ok (.lstore_n 1, 1) := by decide +kernel
theorem dX5_digest_33 : decode cX5_digest 33 = .ok (.iinc 3 1, 3) := by decide +kernel
theorem dX5_digest_36 : decode cX5_digest 36 = .ok (.goto (-25), 3) := by decide +kernel
theorem dX5_digest_39 : decode cX5_digest 39 = .ok (.aload_n 0, 1) := by decide +kernel
theorem dX5_digest_40 : decode cX5_digest 40 = .ok (.getfield 7, 3) := by decide +kernel
theorem dX5_digest_43 : decode cX5_digest 43 = .ok (.astore_n 3, 1) := by decide +kernel
theorem dX5_digest_44 : decode cX5_digest 44 = .ok (.aload_n 3, 1) := by decide +kernel
theorem dX5_digest_45 : decode cX5_digest 45 = .ok (.arraylength, 1) := by decide +kernel
theorem dX5_digest_46 : decode cX5_digest 46 = .ok (.istore 4, 2) := by decide +kernel
theorem dX5_digest_48 : decode cX5_digest 48 = .ok (.iconst 0, 1) := by decide +kernel
theorem dX5_digest_49 : decode cX5_digest 49 = .ok (.istore 5, 2) := by decide +kernel
theorem dX5_digest_51 : decode cX5_digest 51 = .ok (.iload 5, 2) := by decide +kernel
theorem dX5_digest_53 : decode cX5_digest 53 = .ok (.iload 4, 2) := by decide +kernel
theorem dX5_digest_55 : decode cX5_digest 55 = .ok (.if_icmp .ge 25, 3) := by decide +kernel
theorem dX5_digest_58 : decode cX5_digest 58 = .ok (.aload_n 3, 1) := by decide +kernel
theorem dX5_digest_59 : decode cX5_digest 59 = .ok (.iload 5, 2) := by decide +kernel
theorem dX5_digest_61 : decode cX5_digest 61 = .ok (.iaload, 1) := by decide +kernel
theorem dX5_digest_62 : decode cX5_digest 62 = .ok (.istore 6, 2) := by decide +kernel
theorem dX5_digest_64 : decode cX5_digest 64 = .ok (.lload_n 1, 1) := by decide +kernel
theorem dX5_digest_65 : decode cX5_digest 65 = .ok (.ldc2_w 130, 3) := by decide +kernel
theorem dX5_digest_68 : decode cX5_digest 68 = .ok (.lmul, 1) := by decide +kernel
theorem dX5_digest_69 : decode cX5_digest 69 = .ok (.iload 6, 2) := by decide +kernel
theorem dX5_digest_71 : decode cX5_digest 71 = .ok (.i2l, 1) := by decide +kernel
theorem dX5_digest_72 : decode cX5_digest 72 = .ok (.ladd, 1) := by decide +kernel
theorem dX5_digest_73 : decode cX5_digest 73 = .ok (.lstore_n 1, 1) := by decide +kernel
theorem dX5_digest_74 : decode cX5_digest 74 = .ok (.iinc 5 1, 3) := by decide +kernel
theorem dX5_digest_77 : decode cX5_digest 77 = .ok (.goto (-26), 3) := by decide +kernel
theorem dX5_digest_80 : decode cX5_digest 80 = .ok (.iconst 0, 1) := by decide +kernel
theorem dX5_digest_81 : decode cX5_digest 81 = .ok (.istore_n 3, 1) := by decide +kernel
theorem dX5_digest_82 : decode cX5_digest 82 = .ok (.iload_n 3, 1) := by decide +kernel
theorem dX5_digest_83 : decode cX5_digest 83 = .ok (.aload_n 0, 1) := by decide +kernel
theorem dX5_digest_84 : decode cX5_digest 84 = .ok (.getfield 49, 3) := by decide +kernel
theorem dX5_digest_87 : decode cX5_digest 87 = .ok (.if_icmp .ge 35, 3) := by decide +kernel
theorem dX5_digest_90 : decode cX5_digest 90 = .ok (.lload_n 1, 1) := by decide +kernel
theorem dX5_digest_91 : decode cX5_digest 91 = .ok (.ldc2_w 130, 3) := by decide +kernel
theorem dX5_digest_94 : decode cX5_digest 94 = .ok (.lmul, 1) := by decide +kernel
theorem dX5_digest_95 : decode cX5_digest 95 = .ok (.aload_n 0, 1) := by decide +kernel
theorem dX5_digest_96 : decode cX5_digest 96 = .ok (.getfield 13, 3) := by decide +kernel
theorem dX5_digest_99 : decode cX5_digest 99 = .ok (.iload_n 3, 1) := by decide +kernel
theorem dX5_digest_100 : decode cX5_digest 100 = .ok (.iaload, 1) := by decide +kernel
theorem dX5_digest_101 : decode cX5_digest 101 = .ok (.i2l, 1) := by decide +kernel
theorem dX5_digest_102 : decode cX5_digest 102 = .ok (.ladd, 1) := by decide +kernel
theorem dX5_digest_103 : decode cX5_digest 103 = .ok (.ldc2_w 130, 3) := by decide +kernel
theorem dX5_digest_106 : decode cX5_digest 106 = .ok (.lmul, 1) := by decide +kernel
theorem dX5_digest_107 : decode cX5_digest 107 = .ok (.aload_n 0, 1) := by decide +kernel
theorem dX5_digest_108 : decode cX5_digest 108 = .ok (.getfield 16, 3) := by decide +kernel
theorem dX5_digest_111 : decode cX5_digest 111 = .ok (.iload_n 3, 1) := by decide +kernel
theorem dX5_digest_112 : decode cX5_digest 112 = .ok (.iaload, 1) := by decide +kernel
theorem dX5_digest_113 : decode cX5_digest 113 = .ok (.i2l, 1) := by decide +kernel
theorem dX5_digest_114 : decode cX5_digest 114 = .ok (.ladd, 1) := by decide +kernel
theorem dX5_digest_115 : decode cX5_digest 115 = .ok (.lstore_n 1, 1) := by decide +kernel
theorem dX5_digest_116 : decode cX5_digest 116 = .ok (.iinc 3 1, 3) := by decide +kernel
theorem dX5_digest_119 : decode cX5_digest 119 = .ok (.goto (-37), 3) := by decide +kernel
theorem dX5_digest_122 : decode cX5_digest 122 = .ok (.iconst 0, 1) := by decide +kernel
theorem dX5_digest_123 : decode cX5_digest 123 = .ok (.istore_n 3, 1) := by decide +kernel
theorem dX5_digest_124 : decode cX5_digest 124 = .ok (.iload_n 3, 1) := by decide +kernel
theorem dX5_digest_125 : decode cX5_digest 125 = .ok (.aload_n 0, 1) := by decide +kernel
theorem dX5_digest_126 : decode cX5_digest 126 = .ok (.getfield 38, 3) := by decide +kernel
theorem dX5_digest_129 : decode cX5_digest 129 = .ok (.if_icmp .ge 94, 3) := by decide +kernel
theorem dX5_digest_132 : decode cX5_digest 132 = .ok (.iconst 0, 1) := by decide +kernel
theorem dX5_digest_133 : decode cX5_digest 133 = .ok (.istore 4, 2) := by decide +kernel
theorem dX5_digest_135 : decode cX5_digest 135 = .ok (.iload 4, 2) := by decide +kernel
theorem dX5_digest_137 : decode cX5_digest 137 = .ok (.bipush 9, 2) := by decide +kernel
theorem dX5_digest_139 : decode cX5_digest 139 = .ok (.if_icmp .ge 24, 3) := by decide +kernel
theorem dX5_digest_142 : decode cX5_digest 142 = .ok (.lload_n 1, 1) := by decide +kernel
theorem dX5_digest_143 : decode cX5_digest 143 = .ok (.ldc2_w 130, 3) := by decide +kernel
theorem dX5_digest_146 : decode cX5_digest 146 = .ok (.lmul, 1) := by decide +kernel
theorem dX5_digest_147 : decode cX5_digest 147 = .ok (.aload_n 0, 1) := by decide +kernel
theorem dX5_digest_148 : decode cX5_digest 148 = .ok (.iload_n 3, 1) := by decide +kernel
theorem dX5_digest_149 : decode cX5_digest 149 = .ok (.iload 4, 2) := by decide +kernel
theorem dX5_digest_151 : decode cX5_digest 151 = .ok (.invokevirtual 99, 3) := by decide +kernel
theorem dX5_digest_154 : decode cX5_digest 154 = .ok (.i2l, 1) := by decide +kernel
theorem dX5_digest_155 : decode cX5_digest 155 = .ok (.ladd, 1) := by decide +kernel
theorem dX5_digest_156 : decode cX5_digest 156 = .ok (.lstore_n 1, 1) := by decide +kernel
theorem dX5_digest_157 : decode cX5_digest 157 = .ok (.iinc 4 1, 3) := by decide +kernel
theorem dX5_digest_160 : decode cX5_digest 160 = .ok (.goto (-25), 3) := by decide +kernel
theorem dX5_digest_163 : decode cX5_digest 163 = .ok (.iconst 0, 1) := by decide +kernel
theorem dX5_digest_164 : decode cX5_digest 164 = .ok (.istore 4, 2) := by decide +kernel
theorem dX5_digest_166 : decode cX5_digest 166 = .ok (.iload 4, 2) := by decide +kernel
theorem dX5_digest_168 : decode cX5_digest 168 = .ok (.aload_n 0, 1) := by decide +kernel
theorem dX5_digest_169 : decode cX5_digest 169 = .ok (.getfield 27, 3) := by decide +kernel
theorem dX5_digest_172 : decode cX5_digest 172 = .ok (.getfield 58, 3) := by decide +kernel
theorem dX5_digest_175 : decode cX5_digest 175 = .ok (.iload_n 3, 1) := by decide +kernel
theorem dX5_digest_176 : decode cX5_digest 176 = .ok (.iaload, 1) := by decide +kernel
theorem dX5_digest_177 : decode cX5_digest 177 = .ok (.if_icmp .ge 27, 3) := by decide +kernel
theorem dX5_digest_180 : decode cX5_digest 180 = .ok (.lload_n 1, 1) := by decide +kernel
theorem dX5_digest_181 : decode cX5_digest 181 = .ok (.ldc2_w 130, 3) := by decide +kernel
theorem dX5_digest_184 : decode cX5_digest 184 = .ok (.lmul, 1) := by decide +kernel
theorem dX5_digest_185 : decode cX5_digest 185 = .ok (.aload_n 0, 1) := by decide +kernel
theorem dX5_digest_186 : decode cX5_digest 186 = .ok (.getfield 27, 3) := by decide +kernel
theorem dX5_digest_189 : decode cX5_digest 189 = .ok (.iload_n 3, 1) := by decide +kernel
theorem dX5_digest_190 : decode cX5_digest 190 = .ok (.iload 4, 2) := by decide +kernel
theorem dX5_digest_192 : decode cX5_digest 192 = .ok (.invokevirtual 132, 3) := by decide +kernel
theorem dX5_digest_195 : decode cX5_digest 195 = .ok (.i2l, 1) := by decide +kernel
theorem dX5_digest_196 : decode cX5_digest 196 = .ok (.ladd, 1) := by decide +kernel
theorem dX5_digest_197 : decode cX5_digest 197 = .ok (.lstore_n 1, 1) := by decide +kernel
theorem dX5_digest_198 : decode cX5_digest 198 = .ok (.iinc 4 1, 3) := by decide +kernel
theorem dX5_digest_201 : decode cX5_digest 201 = .ok (.goto (-35), 3) := by decide +kernel
theorem dX5_digest_204 : decode cX5_digest 204 = .ok (.lload_n 1, 1) := by decide +kernel
theorem dX5_digest_205 : decode cX5_digest 205 = .ok (.ldc2_w 130, 3) := by decide +kernel
theorem dX5_digest_208 : decode cX5_digest 208 = .ok (.lmul, 1) := by decide +kernel
theorem dX5_digest_209 : decode cX5_digest 209 = .ok (.aload_n 0, 1) := by decide +kernel
theorem dX5_digest_210 : decode cX5_digest 210 = .ok (.iload_n 3, 1) := by decide +kernel
theorem dX5_digest_211 : decode cX5_digest 211 = .ok (.invokevirtual 114, 3) := by decide +kernel
theorem dX5_digest_214 : decode cX5_digest 214 = .ok (.i2l, 1) := by decide +kernel
theorem dX5_digest_215 : decode cX5_digest 215 = .ok (.ladd, 1) := by decide +kernel
theorem dX5_digest_216 : decode cX5_digest 216 = .ok (.lstore_n 1, 1) := by decide +kernel
theorem dX5_digest_217 : decode cX5_digest 217 = .ok (.iinc 3 1, 3) := by decide +kernel
theorem dX5_digest_220 : decode cX5_digest 220 = .ok (.goto (-96), 3) := by decide +kernel
theorem dX5_digest_223 : decode cX5_digest 223 = .ok (.lload_n 1, 1) := by decide +kernel
theorem dX5_digest_224 : decode cX5_digest 224 = .ok (.lreturn, 1) := by decide +kernel
