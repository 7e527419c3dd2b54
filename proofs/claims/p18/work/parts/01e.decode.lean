set_option maxRecDepth 20000 in
theorem ggX3_init_X2_init : GoodIn wsX3_init wsX2_init := goodIn_r _ [14, 15, 2, 3, 16, 17, 18, 19, 20, 46, 47, 48, 49] (by decide +kernel) (by decide +kernel)
set_option maxRecDepth 20000 in
theorem gX3_init_X2_init_n9 : GoodIn wsX3_init (wsX2_init) := ggX3_init_X2_init
set_option maxRecDepth 20000 in
theorem ggX3_init_X1_init : GoodIn wsX3_init wsX1_init := goodIn_r _ [23, 24, 2, 3, 25, 26, 27, 28, 29, 30, 31, 32, 33, 16, 34, 35, 36, 37, 38, 39, 40, 41, 42, 43, 44, 45, 53, 54, 55, 56, 57, 58, 59, 60, 61, 62, 63, 64, 65, 66, 67] (by decide +kernel) (by decide +kernel)
set_option maxRecDepth 20000 in
theorem gX3_init_X1_init : GoodIn wsX3_init (wsX1_init) := ggX3_init_X1_init
theorem dX3_init_0 : decode cX3_init 0 = .ok (.aload_n 0, 1) := by decide +kernel
theorem dX3_init_1 : decode cX3_init 1 = .ok (.invokespecial 1, 3) := by decide +kernel
theorem dX3_init_4 : decode cX3_init 4 = .ok (.aload_n 0, 1) := by decide +kernel
theorem dX3_init_5 : decode cX3_init 5 = .ok (.new 7, 3) := by decide +kernel
theorem dX3_init_8 : decode cX3_init 8 = .ok (.dup, 1) := by decide +kernel
theorem dX3_init_9 : decode cX3_init 9 = .ok (.invokespecial 9, 3) := by decide +kernel
theorem dX3_init_12 : decode cX3_init 12 = .ok (.putfield 10, 3) := by decide +kernel
theorem dX3_init_15 : decode cX3_init 15 = .ok (.aload_n 0, 1) := by decide +kernel
theorem dX3_init_16 : decode cX3_init 16 = .ok (.new 16, 3) := by decide +kernel
theorem dX3_init_19 : decode cX3_init 19 = .ok (.dup, 1) := by decide +kernel
theorem dX3_init_20 : decode cX3_init 20 = .ok (.invokespecial 18, 3) := by decide +kernel
theorem dX3_init_23 : decode cX3_init 23 = .ok (.putfield 19, 3) := by decide +kernel
theorem dX3_init_26 : decode cX3_init 26 = .ok (.aload_n 0, 1) := by decide +kernel
theorem dX3_init_27 : decode cX3_init 27 = .ok (.new 16, 3) := by decide +kernel
theorem dX3_init_30 : decode cX3_init 30 = .ok (.dup, 1) := by decide +kernel
theorem dX3_init_31 : decode cX3_init 31 = .ok (.invokespecial 18, 3) := by decide +kernel
theorem dX3_init_34 : decode cX3_init 34 = .ok (.putfield 23, 3) := by decide +kernel
theorem dX3_init_37 : decode cX3_init 37 = .ok (.return_, 1) := by decide +kernel
set_option maxRecDepth 20000 in
theorem ggX3_setWater_X2_isLane : GoodIn wsX3_setWater wsX2_isLane := goodIn_r _ [10] (by decide +kernel) (by decide +kernel)
set_option maxRecDepth 20000 in
theorem gX3_setWater_X2_isLane : GoodIn wsX3_setWater (va_wsS RX3 26 yX2_isLane wsX2_isLane) := goodIn_app (goodIn_of _ (by decide +kernel)) ggX3_setWater_X2_isLane
theorem dX3_setWater_0 : decode cX3_setWater 0 = .ok (.iload_n 1, 1) := by decide +kernel
theorem dX3_setWater_1 : decode cX3_setWater 1 = .ok (.invokestatic 26, 3) := by decide +kernel
theorem dX3_setWater_4 : decode cX3_setWater 4 = .ok (.ifCond .ne 13, 3) := by decide +kernel
theorem dX3_setWater_7 : decode cX3_setWater 7 = .ok (.new 30, 3) := by decide +kernel
theorem dX3_setWater_10 : decode cX3_setWater 10 = .ok (.dup, 1) := by decide +kernel
theorem dX3_setWater_11 : decode cX3_setWater 11 = .ok (.ldc 32, 2) := by decide +kernel
theorem dX3_setWater_13 : decode cX3_setWater 13 = .ok (.invokespecial 34, 3) := by decide +kernel
theorem dX3_setWater_16 : decode cX3_setWater 16 = .ok (.athrow, 1) := by decide +kernel
theorem dX3_setWater_17 : decode cX3_setWater 17 = .ok (.iload_n 2, 1) := by decide +kernel
theorem dX3_setWater_18 : decode cX3_setWater 18 = .ok (.ifCond .lt 9, 3) := by decide +kernel
theorem dX3_setWater_21 : decode cX3_setWater 21 = .ok (.iload_n 2, 1) := by decide +kernel
theorem dX3_setWater_22 : decode cX3_setWater 22 = .ok (.bipush 6, 2) := by decide +kernel
theorem dX3_setWater_24 : decode cX3_setWater 24 = .ok (.if_icmp .le 13, 3) := by decide +kernel
theorem dX3_setWater_27 : decode cX3_setWater 27 = .ok (.new 37, 3) := by decide +kernel
theorem dX3_setWater_30 : decode cX3_setWater 30 = .ok (.dup, 1) := by decide +kernel
theorem dX3_setWater_31 : decode cX3_setWater 31 = .ok (.ldc 39, 2) := by decide +kernel
theorem dX3_setWater_33 : decode cX3_setWater 33 = .ok (.invokespecial 41, 3) := by decide +kernel
theorem dX3_setWater_36 : decode cX3_setWater 36 = .ok (.athrow, 1) := by decide +kernel
theorem dX3_setWater_37 : decode cX3_setWater 37 = .ok (.aload_n 0, 1) := by decide +kernel
theorem dX3_setWater_38 : decode cX3_setWater 38 = .ok (.getfield 10, 3) := by decide +kernel
theorem dX3_setWater_41 : decode cX3_setWater 41 = .ok (.getfield 42, 3) := by decide +kernel
theorem dX3_setWater_44 : decode cX3_setWater 44 = .ok (.iload_n 1, 1) := by decide +kernel
theorem dX3_setWater_45 : decode cX3_setWater 45 = .ok (.iaload, 1) := by decide +kernel
theorem dX3_setWater_46 : decode cX3_setWater 46 = .ok (.istore_n 3, 1) := by decide +kernel
theorem dX3_setWater_47 : decode cX3_setWater 47 = .ok (.aload_n 0, 1) := by decide +kernel
theorem dX3_setWater_48 : decode cX3_setWater 48 = .ok (.getfield 10, 3) := by decide +kernel
theorem dX3_setWater_51 : decode cX3_setWater 51 = .ok (.getfield 42, 3) := by decide +kernel
theorem dX3_setWater_54 : decode cX3_setWater 54 = .ok (.iload_n 1, 1) := by decide +kernel
theorem dX3_setWater_55 : decode cX3_setWater 55 = .ok (.iload_n 2, 1) := by decide +kernel
theorem dX3_setWater_56 : decode cX3_setWater 56 = .ok (.iastore, 1) := by decide +kernel
theorem dX3_setWater_57 : decode cX3_setWater 57 = .ok (.iload_n 3, 1) := by decide +kernel
theorem dX3_setWater_58 : decode cX3_setWater 58 = .ok (.ireturn, 1) := by decide +kernel
set_option maxRecDepth 20000 in
theorem ggX3_weir_X2_isLane : GoodIn wsX3_weir wsX2_isLane := goodIn_r _ [10] (by decide +kernel) (by decide +kernel)
set_option maxRecDepth 20000 in
theorem gX3_weir_X2_isLane : GoodIn wsX3_weir (va_wsS RX3 26 yX2_isLane wsX2_isLane) := goodIn_app (goodIn_of _ (by decide +kernel)) ggX3_weir_X2_isLane
set_option maxRecDepth 20000 in
theorem ggX3_weir_X2_hasWeirAt : GoodIn wsX3_weir wsX2_hasWeirAt := goodIn_r _ [14, 15, 16, 25, 26, 27, 28] (by decide +kernel) (by decide +kernel)
set_option maxRecDepth 20000 in
theorem gX3_weir_X2_hasWeirAt : GoodIn wsX3_weir (wsV RX3 59 RX2 yX2_hasWeirAt wsX2_hasWeirAt) := goodIn_app (goodIn_of _ (by decide +kernel)) ggX3_weir_X2_hasWeirAt
set_option maxRecDepth 20000 in
theorem ggX3_weir_X2_addWeir : GoodIn wsX3_weir wsX2_addWeir := goodIn_r _ [20, 15, 16, 21, 25, 26, 27, 28] (by decide +kernel) (by decide +kernel)
set_option maxRecDepth 20000 in
theorem gX3_weir_X2_addWeir : GoodIn wsX3_weir (wsV RX3 64 RX2 yX2_addWeir wsX2_addWeir) := goodIn_app (goodIn_of _ (by decide +kernel)) ggX3_weir_X2_addWeir
theorem dX3_weir_0 : decode cX3_weir 0 = .ok (.iload_n 1, 1) := by decide +kernel
theorem dX3_weir_1 : decode cX3_weir 1 = .ok (.iconst 1, 1) := by decide +kernel
theorem dX3_weir_2 : decode cX3_weir 2 = .ok (.if_icmp .lt 10, 3) := by decide +kernel
theorem dX3_weir_5 : decode cX3_weir 5 = .ok (.iload_n 1, 1) := by decide +kernel
theorem dX3_weir_6 : decode cX3_weir 6 = .ok (.sipush 200, 3) := by decide +kernel
theorem dX3_weir_9 : decode cX3_weir 9 = .ok (.if_icmp .lt 13, 3) := by decide +kernel
theorem dX3_weir_12 : decode cX3_weir 12 = .ok (.new 37, 3) := by decide +kernel
theorem dX3_weir_15 : decode cX3_weir 15 = .ok (.dup, 1) := by decide +kernel
theorem dX3_weir_16 : decode cX3_weir 16 = .ok (.ldc 46, 2) := by decide +kernel
theorem dX3_weir_18 : decode cX3_weir 18 = .ok (.invokespecial 41, 3) := by decide +kernel
theorem dX3_weir_21 : decode cX3_weir 21 = .ok (.athrow, 1) := by decide +kernel
theorem dX3_weir_22 : decode cX3_weir 22 = .ok (.iload_n 2, 1) := by decide +kernel
theorem dX3_weir_23 : decode cX3_weir 23 = .ok (.invokestatic 26, 3) := by decide +kernel
theorem dX3_weir_26 : decode cX3_weir 26 = .ok (.ifCond .ne 13, 3) := by decide +kernel
theorem dX3_weir_29 : decode cX3_weir 29 = .ok (.new 37, 3) := by decide +kernel
theorem dX3_weir_32 : decode cX3_weir 32 = .ok (.dup, 1) := by decide +kernel
theorem dX3_weir_33 : decode cX3_weir 33 = .ok (.ldc 48, 2) := by decide +kernel
theorem dX3_weir_35 : decode cX3_weir 35 = .ok (.invokespecial 41, 3) := by decide +kernel
theorem dX3_weir_38 : decode cX3_weir 38 = .ok (.athrow, 1) := by decide +kernel
theorem dX3_weir_39 : decode cX3_weir 39 = .ok (.aload_n 0, 1) := by decide +kernel
theorem dX3_weir_40 : decode cX3_weir 40 = .ok (.getfield 10, 3) := by decide +kernel
theorem dX3_weir_43 : decode cX3_weir 43 = .ok (.getfield 50, 3) := by decide +kernel
theorem dX3_weir_46 : decode cX3_weir 46 = .ok (.bipush 6, 2) := by decide +kernel
theorem dX3_weir_48 : decode cX3_weir 48 = .ok (.if_icmp .lt 13, 3) := by decide +kernel
theorem dX3_weir_51 : decode cX3_weir 51 = .ok (.new 54, 3) := by decide +kernel
theorem dX3_weir_54 : decode cX3_weir 54 = .ok (.dup, 1) := by decide +kernel
theorem dX3_weir_55 : decode cX3_weir 55 = .ok (.ldc 56, 2) := by decide +kernel
theorem dX3_weir_57 : decode cX3_weir 57 = .ok (.invokespecial 58, 3) := by decide +kernel
theorem dX3_weir_60 : decode cX3_weir 60 = .ok (.athrow, 1) := by decide +kernel
theorem dX3_weir_61 : decode cX3_weir 61 = .ok (.aload_n 0, 1) := by decide +kernel
theorem dX3_weir_62 : decode cX3_weir 62 = .ok (.getfield 10, 3) := by decide +kernel
theorem dX3_weir_65 : decode cX3_weir 65 = .ok (.iload_n 1, 1) := by decide +kernel
theorem dX3_weir_66 : decode cX3_weir 66 = .ok (.invokevirtual 59, 3) := by decide +kernel
theorem dX3_weir_69 : decode cX3_weir 69 = .ok (.ifCond .eq 13, 3) := by decide +kernel
theorem dX3_weir_72 : decode cX3_weir 72 = .ok (.new 54, 3) := by decide +kernel
theorem dX3_weir_75 : decode cX3_weir 75 = .ok (.dup, 1) := by decide +kernel
theorem dX3_weir_76 : decode cX3_weir 76 = .ok (.ldc 62, 2) := by decide +kernel
theorem dX3_weir_78 : decode cX3_weir 78 = .ok (.invokespecial 58, 3) := by decide +kernel
theorem dX3_weir_81 : decode cX3_weir 81 = .ok (.athrow, 1) := by decide +kernel
theorem dX3_weir_82 : decode cX3_weir 82 = .ok (.aload_n 0, 1) := by decide +kernel
theorem dX3_weir_83 : decode cX3_weir 83 = .ok (.getfield 10, 3) := by decide +kernel
theorem dX3_weir_86 : decode cX3_weir 86 = .ok (.iload_n 1, 1) := by decide +kernel
theorem dX3_weir_87 : decode cX3_weir 87 = .ok (.iload_n 2, 1) := by decide +kernel
theorem dX3_weir_88 : decode cX3_weir 88 = .ok (.invokevirtual 64, 3) := by decide +kernel
theorem dX3_weir_91 : decode cX3_weir 91 = .ok (.aload_n 0, 1) := by decide +kernel
theorem dX3_weir_92 : decode cX3_weir 92 = .ok (.getfield 10, 3) := by decide +kernel
theorem dX3_weir_95 : decode cX3_weir 95 = .ok (.getfield 50, 3) := by decide +kernel
theorem dX3_weir_98 : decode cX3_weir 98 = .ok (.ireturn, 1) := by decide +kernel
set_option maxRecDepth 20000 in
theorem ggX3_launch_X2_isLane : GoodIn wsX3_launch wsX2_isLane := goodIn_r _ [10] (by decide +kernel) (by decide +kernel)
set_option maxRecDepth 20000 in
theorem gX3_launch_X2_isLane : GoodIn wsX3_launch (va_wsS RX3 26 yX2_isLane wsX2_isLane) := goodIn_app (goodIn_of _ (by decide +kernel)) ggX3_launch_X2_isLane
set_option maxRecDepth 20000 in
theorem ggX3_launch_X1_add : GoodIn wsX3_launch wsX1_add := goodIn_r _ [15, 16, 17, 18, 19, 20, 21, 22, 23, 24, 25, 26, 27, 28, 29, 30, 34, 35, 36, 37, 38, 39, 40, 41, 42, 43, 44, 45, 46, 47, 48] (by decide +kernel) (by decide +kernel)
set_option maxRecDepth 20000 in
theorem gX3_launch_X1_add : GoodIn wsX3_launch (wsV RX3 79 RX1 yX1_add wsX1_add) := goodIn_app (goodIn_of _ (by decide +kernel)) ggX3_launch_X1_add
theorem dX3_launch_0 : decode cX3_launch 0 = .ok (.iload_n 1, 1) := by decide +kernel
theorem dX3_launch_1 : decode cX3_launch 1 = .ok (.invokestatic 26, 3) := by decide +kernel
theorem dX3_launch_4 : decode cX3_launch 4 = .ok (.ifCond .ne 13, 3) := by decide +kernel
theorem dX3_launch_7 : decode cX3_launch 7 = .ok (.new 37, 3) := by decide +kernel
theorem dX3_launch_10 : decode cX3_launch 10 = .ok (.dup, 1) := by decide +kernel
theorem dX3_launch_11 : decode cX3_launch 11 = .ok (.ldc 68, 2) := by decide +kernel
theorem dX3_launch_13 : decode cX3_launch 13 = .ok (.invokespecial 41, 3) := by decide +kernel
theorem dX3_launch_16 : decode cX3_launch 16 = .ok (.athrow, 1) := by decide +kernel
theorem dX3_launch_17 : decode cX3_launch 17 = .ok (.iload_n 2, 1) := by decide +kernel
theorem dX3_launch_18 : decode cX3_launch 18 = .ok (.iconst 1, 1) := by decide +kernel
theorem dX3_launch_19 : decode cX3_launch 19 = .ok (.if_icmp .lt 9, 3) := by decide +kernel
theorem dX3_launch_22 : decode cX3_launch 22 = .ok (.iload_n 2, 1) := by decide +kernel
theorem dX3_launch_23 : decode cX3_launch 23 = .ok (.bipush 8, 2) := by decide +kernel
theorem dX3_launch_25 : decode cX3_launch 25 = .ok (.if_icmp .le 13, 3) := by decide +kernel
theorem dX3_launch_28 : decode cX3_launch 28 = .ok (.new 37, 3) := by decide +kernel
theorem dX3_launch_31 : decode cX3_launch 31 = .ok (.dup, 1) := by decide +kernel
theorem dX3_launch_32 : decode cX3_launch 32 = .ok (.ldc 72, 2) := by decide +kernel
theorem dX3_launch_34 : decode cX3_launch 34 = .ok (.invokespecial 41, 3) := by decide +kernel
theorem dX3_launch_37 : decode cX3_launch 37 = .ok (.athrow, 1) := by decide +kernel
theorem dX3_launch_38 : decode cX3_launch 38 = .ok (.aload_n 0, 1) := by decide +kernel
theorem dX3_launch_39 : decode cX3_launch 39 = .ok (.getfield 19, 3) := by decide +kernel
theorem dX3_launch_42 : decode cX3_launch 42 = .ok (.getfield 74, 3) := by decide +kernel
theorem dX3_launch_45 : decode cX3_launch 45 = .ok (.bipush 6, 2) := by decide +kernel
theorem dX3_launch_47 : decode cX3_launch 47 = .ok (.if_icmp .lt 13, 3) := by decide +kernel
theorem dX3_launch_50 : decode cX3_launch 50 = .ok (.new 54, 3) := by decide +kernel
theorem dX3_launch_53 : decode cX3_launch 53 = .ok (.dup, 1) := by decide +kernel
theorem dX3_launch_54 : decode cX3_launch 54 = .ok (.ldc 77, 2) := by decide +kernel
theorem dX3_launch_56 : decode cX3_launch 56 = .ok (.invokespecial 58, 3) := by decide +kernel
theorem dX3_launch_59 : decode cX3_launch 59 = .ok (.athrow, 1) := by decide +kernel
theorem dX3_launch_60 : decode cX3_launch 60 = .ok (.aload_n 0, 1) := by decide +kernel
theorem dX3_launch_61 : decode cX3_launch 61 = .ok (.getfield 19, 3) := by decide +kernel
theorem dX3_launch_64 : decode cX3_launch 64 = .ok (.iload_n 1, 1) := by decide +kernel
theorem dX3_launch_65 : decode cX3_launch 65 = .ok (.iload_n 2, 1) := by decide +kernel
theorem dX3_launch_66 : decode cX3_launch 66 = .ok (.invokevirtual 79, 3) := by decide +kernel
theorem dX3_launch_69 : decode cX3_launch 69 = .ok (.ireturn, 1) := by decide +kernel
set_option maxRecDepth 20000 in
theorem ggX3_paddle_X1_has : GoodIn wsX3_paddle wsX1_has := goodIn_r _ [12, 13, 28, 29, 30] (by decide +kernel) (by decide +kernel)
set_option maxRecDepth 20000 in
theorem gX3_paddle_X1_has : GoodIn wsX3_paddle (wsV RX3 83 RX1 yX1_has wsX1_has) := goodIn_app (goodIn_of _ (by decide +kernel)) ggX3_paddle_X1_has
set_option maxRecDepth 20000 in
theorem ggX3_paddle_X3_isPattern : GoodIn wsX3_paddle wsX3_isPattern := goodIn_r _ [17] (by decide +kernel) (by decide +kernel)
set_option maxRecDepth 20000 in
theorem gX3_paddle_X3_isPattern : GoodIn wsX3_paddle (va_wsS RX3 90 yX3_isPattern wsX3_isPattern) := goodIn_app (goodIn_of _ (by decide +kernel)) ggX3_paddle_X3_isPattern
set_option maxRecDepth 20000 in
theorem ggX3_paddle_X0_takePattern : GoodIn wsX3_paddle wsX0_takePattern := goodIn_r _ [22, 23, 24, 31, 32, 33, 34, 35, 36, 37, 38, 39, 40, 41, 42] (by decide +kernel) (by decide +kernel)
set_option maxRecDepth 20000 in
theorem gX3_paddle_X0_takePattern : GoodIn wsX3_paddle (wsV RX3 103 RX0 yX0_takePattern wsX0_takePattern) := goodIn_app (goodIn_of _ (by decide +kernel)) ggX3_paddle_X0_takePattern
theorem dX3_paddle_0 : decode cX3_paddle 0 = .ok (.aload_n 0, 1) := by decide +kernel
theorem dX3_paddle_1 : decode cX3_paddle 1 = .ok (.getfield 19, 3) := by decide +kernel
theorem dX3_paddle_4 : decode cX3_paddle 4 = .ok (.iload_n 1, 1) := by decide +kernel
theorem dX3_paddle_5 : decode cX3_paddle 5 = .ok (.invokevirtual 83, 3) := by decide +kernel
theorem dX3_paddle_8 : decode cX3_paddle 8 = .ok (.ifCond .ne 13, 3) := by decide +kernel
theorem dX3_paddle_11 : decode cX3_paddle 11 = .ok (.new 30, 3) := by decide +kernel
theorem dX3_paddle_14 : decode cX3_paddle 14 = .ok (.dup, 1) := by decide +kernel
theorem dX3_paddle_15 : decode cX3_paddle 15 = .ok (.ldc 86, 2) := by decide +kernel
theorem dX3_paddle_17 : decode cX3_paddle 17 = .ok (.invokespecial 34, 3) := by decide +kernel
theorem dX3_paddle_20 : decode cX3_paddle 20 = .ok (.athrow, 1) := by decide +kernel
theorem dX3_paddle_21 : decode cX3_paddle 21 = .ok (.iload_n 2, 1) := by decide +kernel
theorem dX3_paddle_22 : decode cX3_paddle 22 = .ok (.iconst 1, 1) := by decide +kernel
theorem dX3_paddle_23 : decode cX3_paddle 23 = .ok (.if_icmp .lt 9, 3) := by decide +kernel
theorem dX3_paddle_26 : decode cX3_paddle 26 = .ok (.iload_n 2, 1) := by decide +kernel
theorem dX3_paddle_27 : decode cX3_paddle 27 = .ok (.bipush 6, 2) := by decide +kernel
theorem dX3_paddle_29 : decode cX3_paddle 29 = .ok (.if_icmp .le 13, 3) := by decide +kernel
theorem dX3_paddle_32 : decode cX3_paddle 32 = .ok (.new 37, 3) := by decide +kernel
theorem dX3_paddle_35 : decode cX3_paddle 35 = .ok (.dup, 1) := by decide +kernel
theorem dX3_paddle_36 : decode cX3_paddle 36 = .ok (.ldc 88, 2) := by decide +kernel
theorem dX3_paddle_38 : decode cX3_paddle 38 = .ok (.invokespecial 41, 3) := by decide +kernel
theorem dX3_paddle_41 : decode cX3_paddle 41 = .ok (.athrow, 1) := by decide +kernel
theorem dX3_paddle_42 : decode cX3_paddle 42 = .ok (.iload_n 2, 1) := by decide +kernel
theorem dX3_paddle_43 : decode cX3_paddle 43 = .ok (.iload_n 3, 1) := by decide +kernel
theorem dX3_paddle_44 : decode cX3_paddle 44 = .ok (.invokestatic 90, 3) := by decide +kernel
theorem dX3_paddle_47 : decode cX3_paddle 47 = .ok (.ifCond .ne 13, 3) := by decide +kernel
theorem dX3_paddle_50 : decode cX3_paddle 50 = .ok (.new 37, 3) := by decide +kernel
theorem dX3_paddle_53 : decode cX3_paddle 53 = .ok (.dup, 1) := by decide +kernel
theorem dX3_paddle_54 : decode cX3_paddle 54 = .ok (.ldc 94, 2) := by decide +kernel
theorem dX3_paddle_56 : decode cX3_paddle 56 = .ok (.invokespecial 41, 3) := by decide +kernel
theorem dX3_paddle_59 : decode cX3_paddle 59 = .ok (.athrow, 1) := by decide +kernel
theorem dX3_paddle_60 : decode cX3_paddle 60 = .ok (.aload_n 0, 1) := by decide +kernel
theorem dX3_paddle_61 : decode cX3_paddle 61 = .ok (.getfield 19, 3) := by decide +kernel
theorem dX3_paddle_64 : decode cX3_paddle 64 = .ok (.getfield 96, 3) := by decide +kernel
theorem dX3_paddle_67 : decode cX3_paddle 67 = .ok (.iload_n 1, 1) := by decide +kernel
theorem dX3_paddle_68 : decode cX3_paddle 68 = .ok (.aaload, 1) := by decide +kernel
theorem dX3_paddle_69 : decode cX3_paddle 69 = .ok (.getfield 100, 3) := by decide +kernel
theorem dX3_paddle_72 : decode cX3_paddle 72 = .ok (.istore 4, 2) := by decide +kernel
theorem dX3_paddle_74 : decode cX3_paddle 74 = .ok (.aload_n 0, 1) := by decide +kernel
theorem dX3_paddle_75 : decode cX3_paddle 75 = .ok (.getfield 19, 3) := by decide +kernel
theorem dX3_paddle_78 : decode cX3_paddle 78 = .ok (.getfield 96, 3) := by decide +kernel
theorem dX3_paddle_81 : decode cX3_paddle 81 = .ok (.iload_n 1, 1) := by decide +kernel
theorem dX3_paddle_82 : decode cX3_paddle 82 = .ok (.aaload, 1) := by decide +kernel
theorem dX3_paddle_83 : decode cX3_paddle 83 = .ok (.iload_n 2, 1) := by decide +kernel
theorem dX3_paddle_84 : decode cX3_paddle 84 = .ok (.iload_n 3, 1) := by decide +kernel
theorem dX3_paddle_85 : decode cX3_paddle 85 = .ok (.invokevirtual 103, 3) := by decide +kernel
theorem dX3_paddle_88 : decode cX3_paddle 88 = .ok (.iload 4, 2) := by decide +kernel
theorem dX3_paddle_90 : decode cX3_paddle 90 = .ok (.ireturn, 1) := by decide +kernel
set_option maxRecDepth 20000 in
theorem ggX3_tar_X1_has : GoodIn wsX3_tar wsX1_has := goodIn_r _ [11, 12, 28, 29, 30] (by decide +kernel) (by decide +kernel)
set_option maxRecDepth 20000 in
theorem gX3_tar_X1_has : GoodIn wsX3_tar (wsV RX3 83 RX1 yX1_has wsX1_has) := goodIn_app (goodIn_of _ (by decide +kernel)) ggX3_tar_X1_has
set_option maxRecDepth 20000 in
theorem ggX3_tar_X0_isIn : GoodIn wsX3_tar wsX0_isIn := goodIn_r _ [17, 18, 31, 32, 33, 34, 35, 36, 37, 38, 39, 40, 41, 42] (by decide +kernel) (by decide +kernel)
set_option maxRecDepth 20000 in
theorem gX3_tar_X0_isIn : GoodIn wsX3_tar (wsV RX3 106 RX0 yX0_isIn wsX0_isIn) := goodIn_app (goodIn_of _ (by decide +kernel)) ggX3_tar_X0_isIn
set_option maxRecDepth 20000 in
theorem ggX3_tar_X0_dryOut : GoodIn wsX3_tar wsX0_dryOut := goodIn_r _ [22, 23, 24, 31, 32, 33, 34, 35, 36, 37, 38, 39, 40, 41, 42] (by decide +kernel) (by decide +kernel)
set_option maxRecDepth 20000 in
theorem gX3_tar_X0_dryOut : GoodIn wsX3_tar (wsV RX3 112 RX0 yX0_dryOut wsX0_dryOut) := goodIn_app (goodIn_of _ (by decide +kernel)) ggX3_tar_X0_dryOut
theorem dX3_tar_0 : decode cX3_tar 0 = .ok (.aload_n 0, 1) := by decide +kernel
theorem dX3_tar_1 : decode cX3_tar 1 = .ok (.getfield 19, 3) := by decide +kernel
theorem dX3_tar_4 : decode cX3_tar 4 = .ok (.iload_n 1, 1) := by decide +kernel
theorem dX3_tar_5 : decode cX3_tar 5 = .ok (.invokevirtual 83, 3) := by decide +kernel
theorem dX3_tar_8 : decode cX3_tar 8 = .ok (.ifCond .ne 13, 3) := by decide +kernel
theorem dX3_tar_11 : decode cX3_tar 11 = .ok (.new 30, 3) := by decide +kernel
theorem dX3_tar_14 : decode cX3_tar 14 = .ok (.dup, 1) := by decide +kernel
theorem dX3_tar_15 : decode cX3_tar 15 = .ok (.ldc 86, 2) := by decide +kernel
theorem dX3_tar_17 : decode cX3_tar 17 = .ok (.invokespecial 34, 3) := by decide +kernel
theorem dX3_tar_20 : decode cX3_tar 20 = .ok (.athrow, 1) := by decide +kernel
theorem dX3_tar_21 : decode cX3_tar 21 = .ok (.aload_n 0, 1) := by decide +kernel
theorem dX3_tar_22 : decode cX3_tar 22 = .ok (.getfield 19, 3) := by decide +kernel
theorem dX3_tar_25 : decode cX3_tar 25 = .ok (.getfield 96, 3) := by decide +kernel
theorem dX3_tar_28 : decode cX3_tar 28 = .ok (.iload_n 1, 1) := by decide +kernel
theorem dX3_tar_29 : decode cX3_tar 29 = .ok (.aaload, 1) := by decide +kernel
theorem dX3_tar_30 : decode cX3_tar 30 = .ok (.invokevirtual 106, 3) := by decide +kernel
theorem dX3_tar_33 : decode cX3_tar 33 = .ok (.ifCond .eq 13, 3) := by decide +kernel
theorem dX3_tar_36 : decode cX3_tar 36 = .ok (.new 54, 3) := by decide +kernel
theorem dX3_tar_39 : decode cX3_tar 39 = .ok (.dup, 1) := by decide +kernel
theorem dX3_tar_40 : decode cX3_tar 40 = .ok (.ldc 110, 2) := by decide +kernel
theorem dX3_tar_42 : decode cX3_tar 42 = .ok (.invokespecial 58, 3) := by decide +kernel
theorem dX3_tar_45 : decode cX3_tar 45 = .ok (.athrow, 1) := by decide +kernel
theorem dX3_tar_46 : decode cX3_tar 46 = .ok (.aload_n 0, 1) := by decide +kernel
theorem dX3_tar_47 : decode cX3_tar 47 = .ok (.getfield 19, 3) := by decide +kernel
theorem dX3_tar_50 : decode cX3_tar 50 = .ok (.getfield 96, 3) := by decide +kernel
theorem dX3_tar_53 : decode cX3_tar 53 = .ok (.iload_n 1, 1) := by decide +kernel
theorem dX3_tar_54 : decode cX3_tar 54 = .ok (.aaload, 1) := by decide +kernel
theorem dX3_tar_55 : decode cX3_tar 55 = .ok (.invokevirtual 112, 3) := by decide +kernel
theorem dX3_tar_58 : decode cX3_tar 58 = .ok (.ireturn, 1) := by decide +kernel
set_option maxRecDepth 20000 in
theorem ggX3_boat_X1_has : GoodIn wsX3_boat wsX1_has := goodIn_r _ [9, 10, 32, 33, 34] (by decide +kernel) (by decide +kernel)
set_option maxRecDepth 20000 in
theorem gX3_boat_X1_has : GoodIn wsX3_boat (wsV RX3 83 RX1 yX1_has wsX1_has) := goodIn_app (goodIn_of _ (by decide +kernel)) ggX3_boat_X1_has
set_option maxRecDepth 20000 in
theorem ggX3_boat_X0_fact : GoodIn wsX3_boat wsX0_fact := goodIn_r _ [15, 16, 17, 18, 19, 20, 21, 22, 23, 24, 25, 26, 14, 27, 28, 35, 36, 37, 38, 39, 40, 41, 42, 43, 44, 45, 46] (by decide +kernel) (by decide +kernel)
set_option maxRecDepth 20000 in
theorem gX3_boat_X0_fact : GoodIn wsX3_boat (wsV RX3 118 RX0 yX0_fact wsX0_fact) := goodIn_app (goodIn_of _ (by decide +kernel)) ggX3_boat_X0_fact
theorem dX3_boat_0 : decode cX3_boat 0 = .ok (.aload_n 0, 1) := by decide +kernel
theorem dX3_boat_1 : decode cX3_boat 1 = .ok (.getfield 19, 3) := by decide +kernel
theorem dX3_boat_4 : decode cX3_boat 4 = .ok (.iload_n 1, 1) := by decide +kernel
theorem dX3_boat_5 : decode cX3_boat 5 = .ok (.invokevirtual 83, 3) := by decide +kernel
theorem dX3_boat_8 : decode cX3_boat 8 = .ok (.ifCond .ne 13, 3) := by decide +kernel
theorem dX3_boat_11 : decode cX3_boat 11 = .ok (.new 30, 3) := by decide +kernel
theorem dX3_boat_14 : decode cX3_boat 14 = .ok (.dup, 1) := by decide +kernel
theorem dX3_boat_15 : decode cX3_boat 15 = .ok (.ldc 86, 2) := by decide +kernel
theorem dX3_boat_17 : decode cX3_boat 17 = .ok (.invokespecial 34, 3) := by decide +kernel
theorem dX3_boat_20 : decode cX3_boat 20 = .ok (.athrow, 1) := by decide +kernel
theorem dX3_boat_21 : decode cX3_boat 21 = .ok (.iload_n 2, 1) := by decide +kernel
theorem dX3_boat_22 : decode cX3_boat 22 = .ok (.ifCond .lt 9, 3) := by decide +kernel
theorem dX3_boat_25 : decode cX3_boat 25 = .ok (.iload_n 2, 1) := by decide +kernel
theorem dX3_boat_26 : decode cX3_boat 26 = .ok (.bipush 8, 2) := by decide +kernel
theorem dX3_boat_28 : decode cX3_boat 28 = .ok (.if_icmp .le 13, 3) := by decide +kernel
theorem dX3_boat_31 : decode cX3_boat 31 = .ok (.new 30, 3) := by decide +kernel
theorem dX3_boat_34 : decode cX3_boat 34 = .ok (.dup, 1) := by decide +kernel
theorem dX3_boat_35 : decode cX3_boat 35 = .ok (.ldc 116, 2) := by decide +kernel
theorem dX3_boat_37 : decode cX3_boat 37 = .ok (.invokespecial 34, 3) := by decide +kernel
theorem dX3_boat_40 : decode cX3_boat 40 = .ok (.athrow, 1) := by decide +kernel
theorem dX3_boat_41 : decode cX3_boat 41 = .ok (.aload_n 0, 1) := by decide +kernel
theorem dX3_boat_42 : decode cX3_boat 42 = .ok (.getfield 19, 3) := by decide +kernel
theorem dX3_boat_45 : decode cX3_boat 45 = .ok (.getfield 96, 3) := by decide +kernel
theorem dX3_boat_48 : decode cX3_boat 48 = .ok (.iload_n 1, 1) := by decide +kernel
theorem dX3_boat_49 : decode cX3_boat 49 = .ok (.aaload, 1) := by decide +kernel
theorem dX3_boat_50 : decode cX3_boat 50 = .ok (.iload_n 2, 1) := by decide +kernel
theorem dX3_boat_51 : decode cX3_boat 51 = .ok (.invokevirtual 118, 3) := by decide +kernel
theorem dX3_boat_54 : decode cX3_boat 54 = .ok (.ireturn, 1) := by decide +kernel
set_option maxRecDepth 20000 in
theorem ggX3_count_X3_countIn : GoodIn wsX3_count wsX3_countIn := goodIn_r _ [8, 9, 10, 11, 12, 13, 14, 15, 16, 17, 18, 19, 20, 21, 22, 23, 24, 25, 26, 27, 28, 29, 30, 31, 32, 33, 34, 35, 36, 37, 38, 39, 40, 41, 42, 43, 44, 45, 49, 50, 51, 46, 47, 48, 52, 53, 54, 55, 56, 57, 58, 59, 60, 61, 62, 63, 64, 65, 66, 67] (by decide +kernel) (by decide +kernel)
set_option maxRecDepth 20000 in
theorem gX3_count_X3_countIn : GoodIn wsX3_count (wsV RX3 124 RX3 yX3_countIn wsX3_countIn) := goodIn_app (goodIn_of _ (by decide +kernel)) ggX3_count_X3_countIn
theorem dX3_count_0 : decode cX3_count 0 = .ok (.iload_n 1, 1) := by decide +kernel
theorem dX3_count_1 : decode cX3_count 1 = .ok (.ifCond .lt 9, 3) := by decide +kernel
theorem dX3_count_4 : decode cX3_count 4 = .ok (.iload_n 1, 1) := by decide +kernel
theorem dX3_count_5 : decode cX3_count 5 = .ok (.bipush 6, 2) := by decide +kernel
theorem dX3_count_7 : decode cX3_count 7 = .ok (.if_icmp .le 13, 3) := by decide +kernel
theorem dX3_count_10 : decode cX3_count 10 = .ok (.new 30, 3) := by decide +kernel
theorem dX3_count_13 : decode cX3_count 13 = .ok (.dup, 1) := by decide +kernel
theorem dX3_count_14 : decode cX3_count 14 = .ok (.ldc 122, 2) := by decide +kernel
theorem dX3_count_16 : decode cX3_count 16 = .ok (.invokespecial 34, 3) := by decide +kernel
theorem dX3_count_19 : decode cX3_count 19 = .ok (.athrow, 1) := by decide +kernel
theorem dX3_count_20 : decode cX3_count 20 = .ok (.aload_n 0, 1) := by decide +kernel
theorem dX3_count_21 : decode cX3_count 21 = .ok (.aload_n 0, 1) := by decide +kernel
theorem dX3_count_22 : decode cX3_count 22 = .ok (.getfield 19, 3) := by decide +kernel
theorem dX3_count_25 : decode cX3_count 25 = .ok (.iload_n 1, 1) := by decide +kernel
theorem dX3_count_26 : decode cX3_count 26 = .ok (.invokevirtual 124, 3) := by decide +kernel
theorem dX3_count_29 : decode cX3_count 29 = .ok (.ireturn, 1) := by decide +kernel
set_option maxRecDepth 20000 in
theorem ggX3_rank_X1_has : GoodIn wsX3_rank wsX1_has := goodIn_r _ [9, 10, 32, 33, 34] (by decide +kernel) (by decide +kernel)
set_option maxRecDepth 20000 in
theorem gX3_rank_X1_has : GoodIn wsX3_rank (wsV RX3 83 RX1 yX1_has wsX1_has) := goodIn_app (goodIn_of _ (by decide +kernel)) ggX3_rank_X1_has
set_option maxRecDepth 20000 in
theorem ggX3_rank_X1_rankOf : GoodIn wsX3_rank wsX1_rankOf := goodIn_r _ [14, 10, 15, 16, 17, 18, 19, 20, 21, 22, 23, 24, 25, 26, 27, 28, 32, 33, 34, 35, 36, 37, 38, 39, 40, 41, 42, 43, 44, 45, 46] (by decide +kernel) (by decide +kernel)
set_option maxRecDepth 20000 in
theorem gX3_rank_X1_rankOf : GoodIn wsX3_rank (wsV RX3 133 RX1 yX1_rankOf wsX1_rankOf) := goodIn_app (goodIn_of _ (by decide +kernel)) ggX3_rank_X1_rankOf
theorem dX3_rank_0 : decode cX3_rank 0 = .ok (.aload_n 0, 1) := by decide +kernel
theorem dX3_rank_1 : decode cX3_rank 1 = .ok (.getfield 19, 3) := by decide +kernel
theorem dX3_rank_4 : decode cX3_rank 4 = .ok (.iload_n 1, 1) := by decide +kernel
theorem dX3_rank_5 : decode cX3_rank 5 = .ok (.invokevirtual 83, 3) := by decide +kernel
theorem dX3_rank_8 : decode cX3_rank 8 = .ok (.ifCond .ne 13, 3) := by decide +kernel
theorem dX3_rank_11 : decode cX3_rank 11 = .ok (.new 30, 3) := by decide +kernel
theorem dX3_rank_14 : decode cX3_rank 14 = .ok (.dup, 1) := by decide +kernel
theorem dX3_rank_15 : decode cX3_rank 15 = .ok (.ldc 86, 2) := by decide +kernel
theorem dX3_rank_17 : decode cX3_rank 17 = .ok (.invokespecial 34, 3) := by decide +kernel
theorem dX3_rank_20 : decode cX3_rank 20 = .ok (.athrow, 1) := by decide +kernel
theorem dX3_rank_21 : decode cX3_rank 21 = .ok (.aload_n 0, 1) := by decide +kernel
theorem dX3_rank_22 : decode cX3_rank 22 = .ok (.getfield 19, 3) := by decide +kernel
theorem dX3_rank_25 : decode cX3_rank 25 = .ok (.aload_n 0, 1) := by decide +kernel
theorem dX3_rank_26 : decode cX3_rank 26 = .ok (.getfield 19, 3) := by decide +kernel
theorem dX3_rank_29 : decode cX3_rank 29 = .ok (.getfield 96, 3) := by decide +kernel
theorem dX3_rank_32 : decode cX3_rank 32 = .ok (.iload_n 1, 1) := by decide +kernel
theorem dX3_rank_33 : decode cX3_rank 33 = .ok (.aaload, 1) := by decide +kernel
theorem dX3_rank_34 : decode cX3_rank 34 = .ok (.invokevirtual 133, 3) := by decide +kernel
theorem dX3_rank_37 : decode cX3_rank 37 = .ok (.ireturn, 1) := by decide +kernel
set_option maxRecDepth 20000 in
theorem ggX3_go_X1_boatsIn : GoodIn wsX3_go wsX1_boatsIn := goodIn_r _ [9, 10, 11, 12, 13, 14, 15, 16, 17, 91, 92, 93, 94, 95, 96, 97, 98, 99, 100, 101, 102, 103, 104, 105] (by decide +kernel) (by decide +kernel)
set_option maxRecDepth 20000 in
theorem gX3_go_X1_boatsIn : GoodIn wsX3_go (wsV RX3 139 RX1 yX1_boatsIn wsX1_boatsIn) := goodIn_app (goodIn_of _ (by decide +kernel)) ggX3_go_X1_boatsIn
set_option maxRecDepth 20000 in
theorem ggX3_go_X1_letTicksGoBy : GoodIn wsX3_go wsX1_letTicksGoBy := goodIn_r _ [21, 10, 11, 22, 23, 24, 25, 15, 26, 17, 27, 28, 29, 30, 31, 32, 33, 34, 35, 36, 37, 38, 39, 40, 41, 42, 43, 44, 45, 46, 47, 48, 49, 50, 51, 52, 53, 54, 55, 56, 57, 58, 59, 60, 61, 62, 63, 64, 65, 66, 67, 68, 69, 70, 71, 72, 73, 74, 75, 76, 77, 78, 79, 80, 81, 82, 83, 84, 85, 86, 87, 91, 92, 93, 94, 95, 96, 97, 98, 99, 100, 101, 102, 103, 104, 105, 106, 107, 108, 109] (by decide +kernel) (by decide +kernel)
set_option maxRecDepth 20000 in
theorem gX3_go_X1_letTicksGoBy : GoodIn wsX3_go (wsV RX3 142 RX1 yX1_letTicksGoBy wsX1_letTicksGoBy) := goodIn_app (goodIn_of _ (by decide +kernel)) ggX3_go_X1_letTicksGoBy
theorem dX3_go_0 : decode cX3_go 0 = .ok (.iload_n 1, 1) := by decide +kernel
theorem dX3_go_1 : decode cX3_go 1 = .ok (.iconst 1, 1) := by decide +kernel
theorem dX3_go_2 : decode cX3_go 2 = .ok (.if_icmp .lt 10, 3) := by decide +kernel
theorem dX3_go_5 : decode cX3_go 5 = .ok (.iload_n 1, 1) := by decide +kernel
theorem dX3_go_6 : decode cX3_go 6 = .ok (.sipush 200, 3) := by decide +kernel
theorem dX3_go_9 : decode cX3_go 9 = .ok (.if_icmp .le 13, 3) := by decide +kernel
theorem dX3_go_12 : decode cX3_go 12 = .ok (.new 37, 3) := by decide +kernel
theorem dX3_go_15 : decode cX3_go 15 = .ok (.dup, 1) := by decide +kernel
theorem dX3_go_16 : decode cX3_go 16 = .ok (.ldc 137, 2) := by decide +kernel
theorem dX3_go_18 : decode cX3_go 18 = .ok (.invokespecial 41, 3) := by decide +kernel
theorem dX3_go_21 : decode cX3_go 21 = .ok (.athrow, 1) := by decide +kernel
theorem dX3_go_22 : decode cX3_go 22 = .ok (.aload_n 0, 1) := by decide +kernel
theorem dX3_go_23 : decode cX3_go 23 = .ok (.getfield 19, 3) := by decide +kernel
theorem dX3_go_26 : decode cX3_go 26 = .ok (.invokevirtual 139, 3) := by decide +kernel
theorem dX3_go_29 : decode cX3_go 29 = .ok (.istore_n 2, 1) := by decide +kernel
theorem dX3_go_30 : decode cX3_go 30 = .ok (.aload_n 0, 1) := by decide +kernel
theorem dX3_go_31 : decode cX3_go 31 = .ok (.getfield 19, 3) := by decide +kernel
theorem dX3_go_34 : decode cX3_go 34 = .ok (.aload_n 0, 1) := by decide +kernel
theorem dX3_go_35 : decode cX3_go 35 = .ok (.getfield 10, 3) := by decide +kernel
theorem dX3_go_38 : decode cX3_go 38 = .ok (.iload_n 1, 1) := by decide +kernel
theorem dX3_go_39 : decode cX3_go 39 = .ok (.invokevirtual 142, 3) := by decide +kernel
theorem dX3_go_42 : decode cX3_go 42 = .ok (.aload_n 0, 1) := by decide +kernel
theorem dX3_go_43 : decode cX3_go 43 = .ok (.getfield 19, 3) := by decide +kernel
theorem dX3_go_46 : decode cX3_go 46 = .ok (.invokevirtual 139, 3) := by decide +kernel
theorem dX3_go_49 : decode cX3_go 49 = .ok (.iload_n 2, 1) := by decide +kernel
theorem dX3_go_50 : decode cX3_go 50 = .ok (.isub, 1) := by decide +kernel
theorem dX3_go_51 : decode cX3_go 51 = .ok (.ireturn, 1) := by decide +kernel
set_option maxRecDepth 20000 in
theorem ggX3_arrives_X1_has : GoodIn wsX3_arrives wsX1_has := goodIn_r _ [12, 13, 96, 97, 98] (by decide +kernel) (by decide +kernel)
set_option maxRecDepth 20000 in
theorem gX3_arrives_X1_has : GoodIn wsX3_arrives (wsV RX3 83 RX1 yX1_has wsX1_has) := goodIn_app (goodIn_of _ (by decide +kernel)) ggX3_arrives_X1_has
set_option maxRecDepth 20000 in
theorem ggX3_arrives_X0_copyFrom : GoodIn wsX3_arrives wsX0_copyFrom := goodIn_r _ [18, 19, 20, 21, 22, 23, 24, 25, 26, 27, 28, 29, 30, 31, 32, 33, 34, 99, 100, 101, 102, 103, 104, 105, 106, 107, 108, 109, 110] (by decide +kernel) (by decide +kernel)
set_option maxRecDepth 20000 in
theorem gX3_arrives_X0_copyFrom : GoodIn wsX3_arrives (wsV RX3 146 RX0 yX0_copyFrom wsX0_copyFrom) := goodIn_app (goodIn_of _ (by decide +kernel)) ggX3_arrives_X0_copyFrom
set_option maxRecDepth 20000 in
theorem ggX3_arrives_X0_isIn : GoodIn wsX3_arrives wsX0_isIn := goodIn_r _ [38, 31, 99, 100, 101, 102, 103, 104, 105, 106, 107, 108, 109, 110] (by decide +kernel) (by decide +kernel)
set_option maxRecDepth 20000 in
theorem gX3_arrives_X0_isIn : GoodIn wsX3_arrives (wsV RX3 106 RX0 yX0_isIn wsX0_isIn) := goodIn_app (goodIn_of _ (by decide +kernel)) ggX3_arrives_X0_isIn
set_option maxRecDepth 20000 in
theorem ggX3_arrives_X0_letTickGoBy : GoodIn wsX3_arrives wsX0_letTickGoBy := goodIn_r _ [42, 31, 26, 32, 43, 44, 45, 17, 46, 24, 19, 47, 48, 49, 50, 51, 52, 53, 54, 28, 33, 29, 55, 56, 57, 58, 59, 60, 61, 62, 25, 63, 64, 65, 66, 27, 30, 67, 68, 69, 70, 71, 72, 73, 74, 75, 76, 77, 78, 79, 80, 81, 34, 82, 83, 84, 85, 86, 87, 88, 89, 90, 91, 92, 99, 100, 101, 102, 103, 104, 105, 106, 107, 108, 109, 110, 111, 112, 113, 114] (by decide +kernel) (by decide +kernel)
set_option maxRecDepth 20000 in
theorem gX3_arrives_X0_letTickGoBy : GoodIn wsX3_arrives (wsV RX3 153 RX0 yX0_letTickGoBy wsX0_letTickGoBy) := goodIn_app (goodIn_of _ (by decide +kernel)) ggX3_arrives_X0_letTickGoBy
theorem dX3_arrives_0 : decode cX3_arrives 0 = .ok (.aload_n 0, 1) := by decide +kernel
theorem dX3_arrives_1 : decode cX3_arrives 1 = .ok (.getfield 19, 3) := by decide +kernel
theorem dX3_arrives_4 : decode cX3_arrives 4 = .ok (.iload_n 1, 1) := by decide +kernel
theorem dX3_arrives_5 : decode cX3_arrives 5 = .ok (.invokevirtual 83, 3) := by decide +kernel
theorem dX3_arrives_8 : decode cX3_arrives 8 = .ok (.ifCond .ne 13, 3) := by decide +kernel
theorem dX3_arrives_11 : decode cX3_arrives 11 = .ok (.new 30, 3) := by decide +kernel
theorem dX3_arrives_14 : decode cX3_arrives 14 = .ok (.dup, 1) := by decide +kernel
theorem dX3_arrives_15 : decode cX3_arrives 15 = .ok (.ldc 86, 2) := by decide +kernel
theorem dX3_arrives_17 : decode cX3_arrives 17 = .ok (.invokespecial 34, 3) := by decide +kernel
theorem dX3_arrives_20 : decode cX3_arrives 20 = .ok (.athrow, 1) := by decide +kernel
theorem dX3_arrives_21 : decode cX3_arrives 21 = .ok (.aload_n 0, 1) := by decide +kernel
theorem dX3_arrives_22 : decode cX3_arrives 22 = .ok (.getfield 23, 3) := by decide +kernel
theorem dX3_arrives_25 : decode cX3_arrives 25 = .ok (.getfield 96, 3) := by decide +kernel
theorem dX3_arrives_28 : decode cX3_arrives 28 = .ok (.iload_n 1, 1) := by decide +kernel
theorem dX3_arrives_29 : decode cX3_arrives 29 = .ok (.aaload, 1) := by decide +kernel
theorem dX3_arrives_30 : decode cX3_arrives 30 = .ok (.astore_n 2, 1) := by decide +kernel
theorem dX3_arrives_31 : decode cX3_arrives 31 = .ok (.aload_n 2, 1) := by decide +kernel
theorem dX3_arrives_32 : decode cX3_arrives 32 = .ok (.aload_n 0, 1) := by decide +kernel
theorem dX3_arrives_33 : decode cX3_arrives 33 = .ok (.getfield 19, 3) := by decide +kernel
theorem dX3_arrives_36 : decode cX3_arrives 36 = .ok (.getfield 96, 3) := by decide +kernel
theorem dX3_arrives_39 : decode cX3_arrives 39 = .ok (.iload_n 1, 1) := by decide +kernel
theorem dX3_arrives_40 : decode cX3_arrives 40 = .ok (.aaload, 1) := by decide +kernel
theorem dX3_arrives_41 : decode cX3_arrives 41 = .ok (.invokevirtual 146, 3) := by decide +kernel
theorem dX3_arrives_44 : decode cX3_arrives 44 = .ok (.aload_n 2, 1) := by decide +kernel
theorem dX3_arrives_45 : decode cX3_arrives 45 = .ok (.invokevirtual 106, 3) := by decide +kernel
theorem dX3_arrives_48 : decode cX3_arrives 48 = .ok (.ifCond .eq 5, 3) := by decide +kernel
theorem dX3_arrives_51 : decode cX3_arrives 51 = .ok (.iconst 0, 1) := by decide +kernel
theorem dX3_arrives_52 : decode cX3_arrives 52 = .ok (.ireturn, 1) := by decide +kernel
theorem dX3_arrives_53 : decode cX3_arrives 53 = .ok (.iconst 1, 1) := by decide +kernel
theorem dX3_arrives_54 : decode cX3_arrives 54 = .ok (.istore_n 3, 1) := by decide +kernel
theorem dX3_arrives_55 : decode cX3_arrives 55 = .ok (.iload_n 3, 1) := by decide +kernel
theorem dX3_arrives_56 : decode cX3_arrives 56 = .ok (.sipush 400, 3) := by decide +kernel
theorem dX3_arrives_59 : decode cX3_arrives 59 = .ok (.if_icmp .gt 37, 3) := by decide +kernel
theorem dX3_arrives_62 : decode cX3_arrives 62 = .ok (.aload_n 2, 1) := by decide +kernel
theorem dX3_arrives_63 : decode cX3_arrives 63 = .ok (.aload_n 0, 1) := by decide +kernel
theorem dX3_arrives_64 : decode cX3_arrives 64 = .ok (.getfield 10, 3) := by decide +kernel
theorem dX3_arrives_67 : decode cX3_arrives 67 = .ok (.aload_n 0, 1) := by decide +kernel
theorem dX3_arrives_68 : decode cX3_arrives 68 = .ok (.getfield 19, 3) := by decide +kernel
theorem dX3_arrives_71 : decode cX3_arrives 71 = .ok (.getfield 150, 3) := by decide +kernel
theorem dX3_arrives_74 : decode cX3_arrives 74 = .ok (.iload_n 3, 1) := by decide +kernel
theorem dX3_arrives_75 : decode cX3_arrives 75 = .ok (.iadd, 1) := by decide +kernel
theorem dX3_arrives_76 : decode cX3_arrives 76 = .ok (.iconst 1, 1) := by decide +kernel
theorem dX3_arrives_77 : decode cX3_arrives 77 = .ok (.isub, 1) := by decide +kernel
theorem dX3_arrives_78 : decode cX3_arrives 78 = .ok (.invokevirtual 153, 3) := by decide +kernel
theorem dX3_arrives_81 : decode cX3_arrives 81 = .ok (.aload_n 2, 1) := by decide +kernel
theorem dX3_arrives_82 : decode cX3_arrives 82 = .ok (.invokevirtual 106, 3) := by decide +kernel
theorem dX3_arrives_85 : decode cX3_arrives 85 = .ok (.ifCond .eq 5, 3) := by decide +kernel
theorem dX3_arrives_88 : decode cX3_arrives 88 = .ok (.iload_n 3, 1) := by decide +kernel
theorem dX3_arrives_89 : decode cX3_arrives 89 = .ok (.ireturn, 1) := by decide +kernel
theorem dX3_arrives_90 : decode cX3_arrives 90 = .ok (.iinc 3 1, 3) := by decide +kernel
theorem dX3_arrives_93 : decode cX3_arrives 93 = .ok (.goto (-38), 3) := by decide +kernel
theorem dX3_arrives_96 : decode cX3_arrives 96 = .ok (.iconst (-1), 1) := by decide +kernel
theorem dX3_arrives_97 : decode cX3_arrives 97 = .ok (.ireturn, 1) := by decide +kernel
set_option maxRecDepth 20000 in
theorem ggX3_foresee_X1_copyFrom : GoodIn wsX3_foresee wsX1_copyFrom := goodIn_r _ [12, 13, 14, 15, 16, 17, 18, 19, 20, 21, 22, 23, 24, 25, 26, 27, 28, 29, 30, 31, 32, 33, 34, 35, 36, 132, 133, 134, 135, 136, 137, 138, 139, 140, 141, 142, 143, 144, 145, 146] (by decide +kernel) (by decide +kernel)
set_option maxRecDepth 20000 in
theorem gX3_foresee_X1_copyFrom : GoodIn wsX3_foresee (wsV RX3 158 RX1 yX1_copyFrom wsX1_copyFrom) := goodIn_app (goodIn_of _ (by decide +kernel)) ggX3_foresee_X1_copyFrom
set_option maxRecDepth 20000 in
theorem ggX3_foresee_X1_letTicksGoBy : GoodIn wsX3_foresee wsX1_letTicksGoBy := goodIn_r _ [40, 13, 15, 14, 41, 42, 43, 19, 44, 33, 28, 34, 45, 46, 47, 48, 26, 21, 49, 50, 51, 52, 53, 54, 55, 56, 30, 35, 31, 57, 58, 59, 60, 61, 62, 63, 64, 27, 65, 66, 67, 68, 29, 32, 69, 70, 71, 72, 73, 74, 75, 76, 77, 78, 79, 80, 81, 82, 83, 36, 84, 85, 86, 87, 88, 89, 90, 91, 92, 93, 94, 132, 133, 134, 135, 136, 137, 138, 139, 140, 141, 142, 143, 144, 145, 146, 147, 148, 149, 150] (by decide +kernel) (by decide +kernel)
set_option maxRecDepth 20000 in
theorem gX3_foresee_X1_letTicksGoBy : GoodIn wsX3_foresee (wsV RX3 142 RX1 yX1_letTicksGoBy wsX1_letTicksGoBy) := goodIn_app (goodIn_of _ (by decide +kernel)) ggX3_foresee_X1_letTicksGoBy
set_option maxRecDepth 20000 in
theorem ggX3_foresee_X3_countIn : GoodIn wsX3_foresee wsX3_countIn := goodIn_r _ [99, 100, 101, 7, 102, 103, 104, 105, 11, 106, 13, 15, 107, 108, 109, 19, 110, 33, 111, 112, 113, 114, 115, 116, 117, 118, 119, 120, 121, 122, 123, 124, 125, 126, 127, 128, 34, 32, 132, 133, 134, 129, 130, 131, 147, 148, 149, 150, 135, 136, 137, 138, 139, 140, 141, 142, 143, 144, 145, 146] (by decide +kernel) (by decide +kernel)
set_option maxRecDepth 20000 in
theorem gX3_foresee_X3_countIn : GoodIn wsX3_foresee (wsV RX3 124 RX3 yX3_countIn wsX3_countIn) := goodIn_app (goodIn_of _ (by decide +kernel)) ggX3_foresee_X3_countIn
theorem dX3_foresee_0 : decode cX3_foresee 0 = .ok (.iload_n 1, 1) := by decide +kernel
theorem dX3_foresee_1 : decode cX3_foresee 1 = .ok (.iconst 1, 1) := by decide +kernel
theorem dX3_foresee_2 : decode cX3_foresee 2 = .ok (.if_icmp .lt 10, 3) := by decide +kernel
theorem dX3_foresee_5 : decode cX3_foresee 5 = .ok (.iload_n 1, 1) := by decide +kernel
theorem dX3_foresee_6 : decode cX3_foresee 6 = .ok (.sipush 200, 3) := by decide +kernel
theorem dX3_foresee_9 : decode cX3_foresee 9 = .ok (.if_icmp .le 13, 3) := by decide +kernel
theorem dX3_foresee_12 : decode cX3_foresee 12 = .ok (.new 37, 3) := by decide +kernel
theorem dX3_foresee_15 : decode cX3_foresee 15 = .ok (.dup, 1) := by decide +kernel
theorem dX3_foresee_16 : decode cX3_foresee 16 = .ok (.ldc 137, 2) := by decide +kernel
theorem dX3_foresee_18 : decode cX3_foresee 18 = .ok (.invokespecial 41, 3) := by decide +kernel
theorem dX3_foresee_21 : decode cX3_foresee 21 = .ok (.athrow, 1) := by decide +kernel
theorem dX3_foresee_22 : decode cX3_foresee 22 = .ok (.iload_n 2, 1) := by decide +kernel
theorem dX3_foresee_23 : decode cX3_foresee 23 = .ok (.iconst 3, 1) := by decide +kernel
theorem dX3_foresee_24 : decode cX3_foresee 24 = .ok (.if_icmp .lt 9, 3) := by decide +kernel
theorem dX3_foresee_27 : decode cX3_foresee 27 = .ok (.iload_n 2, 1) := by decide +kernel
theorem dX3_foresee_28 : decode cX3_foresee 28 = .ok (.bipush 6, 2) := by decide +kernel
theorem dX3_foresee_30 : decode cX3_foresee 30 = .ok (.if_icmp .le 13, 3) := by decide +kernel
theorem dX3_foresee_33 : decode cX3_foresee 33 = .ok (.new 30, 3) := by decide +kernel
theorem dX3_foresee_36 : decode cX3_foresee 36 = .ok (.dup, 1) := by decide +kernel
theorem dX3_foresee_37 : decode cX3_foresee 37 = .ok (.ldc 156, 2) := by decide +kernel
theorem dX3_foresee_39 : decode cX3_foresee 39 = .ok (.invokespecial 34, 3) := by decide +kernel
theorem dX3_foresee_42 : decode cX3_foresee 42 = .ok (.athrow, 1) := by decide +kernel
theorem dX3_foresee_43 : decode cX3_foresee 43 = .ok (.aload_n 0, 1) := by decide +kernel
theorem dX3_foresee_44 : decode cX3_foresee 44 = .ok (.getfield 23, 3) := by decide +kernel
theorem dX3_foresee_47 : decode cX3_foresee 47 = .ok (.aload_n 0, 1) := by decide +kernel
theorem dX3_foresee_48 : decode cX3_foresee 48 = .ok (.getfield 19, 3) := by decide +kernel
theorem dX3_foresee_51 : decode cX3_foresee 51 = .ok (.invokevirtual 158, 3) := by decide +kernel
theorem dX3_foresee_54 : decode cX3_foresee 54 = .ok (.aload_n 0, 1) := by decide +kernel
theorem dX3_foresee_55 : decode cX3_foresee 55 = .ok (.getfield 23, 3) := by decide +kernel
theorem dX3_foresee_58 : decode cX3_foresee 58 = .ok (.aload_n 0, 1) := by decide +kernel
theorem dX3_foresee_59 : decode cX3_foresee 59 = .ok (.getfield 10, 3) := by decide +kernel
theorem dX3_foresee_62 : decode cX3_foresee 62 = .ok (.iload_n 1, 1) := by decide +kernel
theorem dX3_foresee_63 : decode cX3_foresee 63 = .ok (.invokevirtual 142, 3) := by decide +kernel
theorem dX3_foresee_66 : decode cX3_foresee 66 = .ok (.aload_n 0, 1) := by decide +kernel
theorem dX3_foresee_67 : decode cX3_foresee 67 = .ok (.aload_n 0, 1) := by decide +kernel
theorem dX3_foresee_68 : decode cX3_foresee 68 = .ok (.getfield 23, 3) := by decide +kernel
theorem dX3_foresee_71 : decode cX3_foresee 71 = .ok (.iload_n 2, 1) := by decide +kernel
theorem dX3_foresee_72 : decode cX3_foresee 72 = .ok (.invokevirtual 124, 3) := by decide +kernel
theorem dX3_foresee_75 : decode cX3_foresee 75 = .ok (.ireturn, 1) := by decide +kernel
set_option maxRecDepth 20000 in
theorem ggX3_advise_X1_has : GoodIn wsX3_advise wsX1_has := goodIn_r _ [10, 11, 104, 105, 106] (by decide +kernel) (by decide +kernel)
set_option maxRecDepth 20000 in
theorem gX3_advise_X1_has : GoodIn wsX3_advise (wsV RX3 83 RX1 yX1_has wsX1_has) := goodIn_app (goodIn_of _ (by decide +kernel)) ggX3_advise_X1_has
set_option maxRecDepth 20000 in
theorem ggX3_advise_X3_placeWith : GoodIn wsX3_advise wsX3_placeWith := goodIn_r _ [16, 17, 18, 5, 19, 20, 21, 22, 23, 24, 25, 26, 27, 28, 29, 30, 31, 32, 33, 34, 35, 36, 37, 38, 39, 40, 41, 42, 43, 44, 45, 46, 47, 48, 49, 50, 51, 52, 53, 54, 55, 56, 57, 58, 59, 60, 61, 62, 63, 64, 65, 66, 67, 68, 69, 70, 71, 72, 73, 74, 75, 76, 77, 78, 79, 80, 81, 82, 83, 84, 85, 86, 87, 88, 89, 90, 91, 92, 93, 94, 95, 96, 97, 98, 99, 100, 101, 102, 103, 104, 105, 106, 107, 108, 109, 110, 111, 112, 113, 114, 115, 116, 117, 118, 119, 120, 121, 122] (by decide +kernel) (by decide +kernel)
set_option maxRecDepth 20000 in
theorem gX3_advise_X3_placeWith : GoodIn wsX3_advise (wsV RX3 163 RX3 yX3_placeWith wsX3_placeWith) := goodIn_app (goodIn_of _ (by decide +kernel)) ggX3_advise_X3_placeWith
theorem dX3_advise_0 : decode cX3_advise 0 = .ok (.aload_n 0, 1) := by decide +kernel
theorem dX3_advise_1 : decode cX3_advise 1 = .ok (.getfield 19, 3) := by decide +kernel
theorem dX3_advise_4 : decode cX3_advise 4 = .ok (.iload_n 1, 1) := by decide +kernel
theorem dX3_advise_5 : decode cX3_advise 5 = .ok (.invokevirtual 83, 3) := by decide +kernel
theorem dX3_advise_8 : decode cX3_advise 8 = .ok (.ifCond .ne 13, 3) := by decide +kernel
theorem dX3_advise_11 : decode cX3_advise 11 = .ok (.new 30, 3) := by decide +kernel
theorem dX3_advise_14 : decode cX3_advise 14 = .ok (.dup, 1) := by decide +kernel
theorem dX3_advise_15 : decode cX3_advise 15 = .ok (.ldc 86, 2) := by decide +kernel
theorem dX3_advise_17 : decode cX3_advise 17 = .ok (.invokespecial 34, 3) := by decide +kernel
theorem dX3_advise_20 : decode cX3_advise 20 = .ok (.athrow, 1) := by decide +kernel
theorem dX3_advise_21 : decode cX3_advise 21 = .ok (.iload_n 2, 1) := by decide +kernel
theorem dX3_advise_22 : decode cX3_advise 22 = .ok (.iconst 1, 1) := by decide +kernel
theorem dX3_advise_23 : decode cX3_advise 23 = .ok (.if_icmp .lt 9, 3) := by decide +kernel
theorem dX3_advise_26 : decode cX3_advise 26 = .ok (.iload_n 2, 1) := by decide +kernel
theorem dX3_advise_27 : decode cX3_advise 27 = .ok (.bipush 60, 2) := by decide +kernel
theorem dX3_advise_29 : decode cX3_advise 29 = .ok (.if_icmp .le 13, 3) := by decide +kernel
theorem dX3_advise_32 : decode cX3_advise 32 = .ok (.new 37, 3) := by decide +kernel
theorem dX3_advise_35 : decode cX3_advise 35 = .ok (.dup, 1) := by decide +kernel
theorem dX3_advise_36 : decode cX3_advise 36 = .ok (.ldc 161, 2) := by decide +kernel
theorem dX3_advise_38 : decode cX3_advise 38 = .ok (.invokespecial 41, 3) := by decide +kernel
theorem dX3_advise_41 : decode cX3_advise 41 = .ok (.athrow, 1) := by decide +kernel
theorem dX3_advise_42 : decode cX3_advise 42 = .ok (.iconst 0, 1) := by decide +kernel
theorem dX3_advise_43 : decode cX3_advise 43 = .ok (.istore_n 3, 1) := by decide +kernel
theorem dX3_advise_44 : decode cX3_advise 44 = .ok (.iconst (-1), 1) := by decide +kernel
theorem dX3_advise_45 : decode cX3_advise 45 = .ok (.istore 4, 2) := by decide +kernel
theorem dX3_advise_47 : decode cX3_advise 47 = .ok (.iconst 0, 1) := by decide +kernel
theorem dX3_advise_48 : decode cX3_advise 48 = .ok (.istore 5, 2) := by decide +kernel
theorem dX3_advise_50 : decode cX3_advise 50 = .ok (.iload 5, 2) := by decide +kernel
theorem dX3_advise_52 : decode cX3_advise 52 = .ok (.iconst 3, 1) := by decide +kernel
theorem dX3_advise_53 : decode cX3_advise 53 = .ok (.if_icmp .gt 58, 3) := by decide +kernel
theorem dX3_advise_56 : decode cX3_advise 56 = .ok (.iconst 0, 1) := by decide +kernel
theorem dX3_advise_57 : decode cX3_advise 57 = .ok (.istore 6, 2) := by decide +kernel
theorem dX3_advise_59 : decode cX3_advise 59 = .ok (.iload 6, 2) := by decide +kernel
theorem dX3_advise_61 : decode cX3_advise 61 = .ok (.iconst 3, 1) := by decide +kernel
theorem dX3_advise_62 : decode cX3_advise 62 = .ok (.if_icmp .gt 43, 3) := by decide +kernel
theorem dX3_advise_65 : decode cX3_advise 65 = .ok (.iload 5, 2) := by decide +kernel
theorem dX3_advise_67 : decode cX3_advise 67 = .ok (.bipush 10, 2) := by decide +kernel
theorem dX3_advise_69 : decode cX3_advise 69 = .ok (.imul, 1) := by decide +kernel
theorem dX3_advise_70 : decode cX3_advise 70 = .ok (.iload 6, 2) := by decide +kernel
theorem dX3_advise_72 : decode cX3_advise 72 = .ok (.iadd, 1) := by decide +kernel
theorem dX3_advise_73 : decode cX3_advise 73 = .ok (.istore 7, 2) := by decide +kernel
theorem dX3_advise_75 : decode cX3_advise 75 = .ok (.aload_n 0, 1) := by decide +kernel
theorem dX3_advise_76 : decode cX3_advise 76 = .ok (.iload_n 1, 1) := by decide +kernel
theorem dX3_advise_77 : decode cX3_advise 77 = .ok (.iload 7, 2) := by decide +kernel
theorem dX3_advise_79 : decode cX3_advise 79 = .ok (.iload_n 2, 1) := by decide +kernel
theorem dX3_advise_80 : decode cX3_advise 80 = .ok (.invokevirtual 163, 3) := by decide +kernel
theorem dX3_advise_83 : decode cX3_advise 83 = .ok (.istore 8, 2) := by decide +kernel
theorem dX3_advise_85 : decode cX3_advise 85 = .ok (.iload 8, 2) := by decide +kernel
theorem dX3_advise_87 : decode cX3_advise 87 = .ok (.iload 4, 2) := by decide +kernel
theorem dX3_advise_89 : decode cX3_advise 89 = .ok (.if_icmp .le 10, 3) := by decide +kernel
theorem dX3_advise_92 : decode cX3_advise 92 = .ok (.iload 8, 2) := by decide +kernel
theorem dX3_advise_94 : decode cX3_advise 94 = .ok (.istore 4, 2) := by decide +kernel
theorem dX3_advise_96 : decode cX3_advise 96 = .ok (.iload 7, 2) := by decide +kernel
theorem dX3_advise_98 : decode cX3_advise 98 = .ok (.istore_n 3, 1) := by decide +kernel
theorem dX3_advise_99 : decode cX3_advise 99 = .ok (.iinc 6 1, 3) := by decide +kernel
theorem dX3_advise_102 : decode cX3_advise 102 = .ok (.goto (-43), 3) := by decide +kernel
theorem dX3_advise_105 : decode cX3_advise 105 = .ok (.iinc 5 1, 3) := by decide +kernel
theorem dX3_advise_108 : decode cX3_advise 108 = .ok (.goto (-58), 3) := by decide +kernel
theorem dX3_advise_111 : decode cX3_advise 111 = .ok (.iload_n 3, 1) := by decide +kernel
theorem dX3_advise_112 : decode cX3_advise 112 = .ok (.ireturn, 1) := by decide +kernel
set_option maxRecDepth 20000 in
theorem ggX3_mean_X1_placesAdded : GoodIn wsX3_mean wsX1_placesAdded := goodIn_r _ [7, 8, 9, 10, 14, 15, 16, 17, 18, 19, 20, 21, 22, 23, 24, 25, 26, 27, 28] (by decide +kernel) (by decide +kernel)
set_option maxRecDepth 20000 in
theorem gX3_mean_X1_placesAdded : GoodIn wsX3_mean (wsV RX3 167 RX1 yX1_placesAdded wsX1_placesAdded) := goodIn_app (goodIn_of _ (by decide +kernel)) ggX3_mean_X1_placesAdded
theorem dX3_mean_0 : decode cX3_mean 0 = .ok (.aload_n 0, 1) := by decide +kernel
theorem dX3_mean_1 : decode cX3_mean 1 = .ok (.getfield 19, 3) := by decide +kernel
theorem dX3_mean_4 : decode cX3_mean 4 = .ok (.getfield 74, 3) := by decide +kernel
theorem dX3_mean_7 : decode cX3_mean 7 = .ok (.iconst 1, 1) := by decide +kernel
theorem dX3_mean_8 : decode cX3_mean 8 = .ok (.if_icmp .ge 5, 3) := by decide +kernel
theorem dX3_mean_11 : decode cX3_mean 11 = .ok (.dconst 0, 1) := by decide +kernel
theorem dX3_mean_12 : decode cX3_mean 12 = .ok (.dreturn, 1) := by decide +kernel
theorem dX3_mean_13 : decode cX3_mean 13 = .ok (.aload_n 0, 1) := by decide +kernel
theorem dX3_mean_14 : decode cX3_mean 14 = .ok (.getfield 19, 3) := by decide +kernel
theorem dX3_mean_17 : decode cX3_mean 17 = .ok (.invokevirtual 167, 3) := by decide +kernel
theorem dX3_mean_20 : decode cX3_mean 20 = .ok (.i2d, 1) := by decide +kernel
theorem dX3_mean_21 : decode cX3_mean 21 = .ok (.aload_n 0, 1) := by decide +kernel
theorem dX3_mean_22 : decode cX3_mean 22 = .ok (.getfield 19, 3) := by decide +kernel
theorem dX3_mean_25 : decode cX3_mean 25 = .ok (.getfield 74, 3) := by decide +kernel
theorem dX3_mean_28 : decode cX3_mean 28 = .ok (.i2d, 1) := by decide +kernel
theorem dX3_mean_29 : decode cX3_mean 29 = .ok (.ddiv, 1) := by decide +kernel
theorem dX3_mean_30 : decode cX3_mean 30 = .ok (.dreturn, 1) := by decide +kernel
set_option maxRecDepth 20000 in
theorem ggX3_digest_X3_countIn : GoodIn wsX3_digest wsX3_countIn := goodIn_r _ [15, 16, 9, 4, 6, 17, 18, 19, 20, 21, 22, 23, 24, 25, 26, 27, 28, 29, 30, 31, 32, 33, 34, 35, 36, 37, 38, 39, 40, 41, 42, 43, 44, 45, 46, 47, 48, 49, 82, 83, 84, 75, 76, 77, 78, 79, 80, 81, 85, 86, 87, 88, 89, 90, 91, 92, 93, 94, 95, 96] (by decide +kernel) (by decide +kernel)
set_option maxRecDepth 20000 in
theorem gX3_digest_X3_countIn : GoodIn wsX3_digest (wsV RX3 124 RX3 yX3_countIn wsX3_countIn) := goodIn_app (goodIn_of _ (by decide +kernel)) ggX3_digest_X3_countIn
set_option maxRecDepth 20000 in
theorem ggX3_digest_X3_digestWith : GoodIn wsX3_digest wsX3_digestWith := goodIn_r _ [53, 2, 54, 55, 3, 56, 57, 58, 27, 59, 60, 61, 62, 63, 49, 29, 64, 65, 66, 45, 46, 47, 48, 67, 68, 69, 20, 70, 22, 23, 71, 72, 73, 74, 85, 86, 87, 88, 89, 90, 91, 92, 93, 94, 95, 96, 75, 76, 77, 82, 83, 84] (by decide +kernel) (by decide +kernel)
set_option maxRecDepth 20000 in
theorem gX3_digest_X3_digestWith : GoodIn wsX3_digest (wsV RX3 180 RX3 yX3_digestWith wsX3_digestWith) := goodIn_app (goodIn_of _ (by decide +kernel)) ggX3_digest_X3_digestWith
theorem dX3_digest_0 : decode cX3_digest 0 = .ok (.ldc2_w 170, 3) := by decide +kernel
theorem dX3_digest_3 : decode cX3_digest 3 = .ok (.lstore_n 1, 1) := by decide +kernel
theorem dX3_digest_4 : decode cX3_digest 4 = .ok (.iconst 0, 1) := by decide +kernel
theorem dX3_digest_5 : decode cX3_digest 5 = .ok (.istore_n 3, 1) := by decide +kernel
theorem dX3_digest_6 : decode cX3_digest 6 = .ok (.iload_n 3, 1) := by decide +kernel
theorem dX3_digest_7 : decode cX3_digest 7 = .ok (.bipush 6, 2) := by decide +kernel
theorem dX3_digest_9 : decode cX3_digest 9 = .ok (.if_icmp .gt 26, 3) := by decide +kernel
theorem dX3_digest_12 : decode cX3_digest 12 = .ok (.lload_n 1, 1) := by decide +kernel
theorem dX3_digest_13 : decode cX3_digest 13 = .ok (.ldc2_w 172, 3) := by decide +kernel
theorem dX3_digest_16 : decode cX3_digest 16 = .ok (.lmul, 1) := by decide +kernel
theorem dX3_digest_17 : decode cX3_digest 17 = .ok (.aload_n 0, 1) := by decide +kernel
theorem dX3_digest_18 : decode cX3_digest 18 = .ok (.aload_n 0, 1) := by decide +kernel
theorem dX3_digest_19 : decode cX3_digest 19 = .ok (.getfield 19, 3) := by decide +kernel
theorem dX3_digest_22 : decode cX3_digest 22 = .ok (.iload_n 3, 1) := by decide +kernel
theorem dX3_digest_23 : decode cX3_digest 23 = .ok (.invokevirtual 124, 3) := by decide +kernel
theorem dX3_digest_26 : decode cX3_digest 26 = .ok (.i2l, 1) := by decide +kernel
theorem dX3_digest_27 : decode cX3_digest 27 = .ok (.ladd, 1) := by decide +kernel
theorem dX3_digest_28 : decode cX3_digest 28 = .ok (.lstore_n 1, 1) := by decide +kernel
theorem dX3_digest_29 : decode cX3_digest 29 = .ok (.iinc 3 1, 3) := by decide +kernel
theorem dX3_digest_32 : decode cX3_digest 32 = .ok (.goto (-26), 3) := by decide +kernel
theorem dX3_digest_35 : decode cX3_digest 35 = .ok (.iconst 0, 1) := by decide +kernel
theorem dX3_digest_36 : decode cX3_digest 36 = .ok (.istore_n 3, 1) := by decide +kernel
theorem dX3_digest_37 : decode cX3_digest 37 = .ok (.iload_n 3, 1) := by decide +kernel
theorem dX3_digest_38 : decode cX3_digest 38 = .ok (.iconst 5, 1) := by decide +kernel
theorem dX3_digest_39 : decode cX3_digest 39 = .ok (.if_icmp .ge 26, 3) := by decide +kernel
theorem dX3_digest_42 : decode cX3_digest 42 = .ok (.lload_n 1, 1) := by decide +kernel
theorem dX3_digest_43 : decode cX3_digest 43 = .ok (.ldc2_w 172, 3) := by decide +kernel
theorem dX3_digest_46 : decode cX3_digest 46 = .ok (.lmul, 1) := by decide +kernel
theorem dX3_digest_47 : decode cX3_digest 47 = .ok (.aload_n 0, 1) := by decide +kernel
theorem dX3_digest_48 : decode cX3_digest 48 = .ok (.getfield 10, 3) := by decide +kernel
theorem dX3_digest_51 : decode cX3_digest 51 = .ok (.getfield 42, 3) := by decide +kernel
theorem dX3_digest_54 : decode cX3_digest 54 = .ok (.iload_n 3, 1) := by decide +kernel
theorem dX3_digest_55 : decode cX3_digest 55 = .ok (.iaload, 1) := by decide +kernel
theorem dX3_digest_56 : decode cX3_digest 56 = .ok (.i2l, 1) := by decide +kernel
theorem dX3_digest_57 : decode cX3_digest 57 = .ok (.ladd, 1) := by decide +kernel
theorem dX3_digest_58 : decode cX3_digest 58 = .ok (.lstore_n 1, 1) := by decide +kernel
theorem dX3_digest_59 : decode cX3_digest 59 = .ok (.iinc 3 1, 3) := by decide +kernel
theorem dX3_digest_62 : decode cX3_digest 62 = .ok (.goto (-25), 3) := by decide +kernel
theorem dX3_digest_65 : decode cX3_digest 65 = .ok (.iconst 0, 1) := by decide +kernel
theorem dX3_digest_66 : decode cX3_digest 66 = .ok (.istore_n 3, 1) := by decide +kernel
theorem dX3_digest_67 : decode cX3_digest 67 = .ok (.iload_n 3, 1) := by decide +kernel
theorem dX3_digest_68 : decode cX3_digest 68 = .ok (.aload_n 0, 1) := by decide +kernel
theorem dX3_digest_69 : decode cX3_digest 69 = .ok (.getfield 10, 3) := by decide +kernel
theorem dX3_digest_72 : decode cX3_digest 72 = .ok (.getfield 50, 3) := by decide +kernel
theorem dX3_digest_75 : decode cX3_digest 75 = .ok (.if_icmp .ge 43, 3) := by decide +kernel
theorem dX3_digest_78 : decode cX3_digest 78 = .ok (.lload_n 1, 1) := by decide +kernel
theorem dX3_digest_79 : decode cX3_digest 79 = .ok (.ldc2_w 172, 3) := by decide +kernel
theorem dX3_digest_82 : decode cX3_digest 82 = .ok (.lmul, 1) := by decide +kernel
theorem dX3_digest_83 : decode cX3_digest 83 = .ok (.aload_n 0, 1) := by decide +kernel
theorem dX3_digest_84 : decode cX3_digest 84 = .ok (.getfield 10, 3) := by decide +kernel
theorem dX3_digest_87 : decode cX3_digest 87 = .ok (.getfield 174, 3) := by decide +kernel
theorem dX3_digest_90 : decode cX3_digest 90 = .ok (.iload_n 3, 1) := by decide +kernel
theorem dX3_digest_91 : decode cX3_digest 91 = .ok (.iaload, 1) := by decide +kernel
theorem dX3_digest_92 : decode cX3_digest 92 = .ok (.i2l, 1) := by decide +kernel
theorem dX3_digest_93 : decode cX3_digest 93 = .ok (.ladd, 1) := by decide +kernel
theorem dX3_digest_94 : decode cX3_digest 94 = .ok (.lstore_n 1, 1) := by decide +kernel
theorem dX3_digest_95 : decode cX3_digest 95 = .ok (.lload_n 1, 1) := by decide +kernel
theorem dX3_digest_96 : decode cX3_digest 96 = .ok (.ldc2_w 172, 3) := by decide +kernel
theorem dX3_digest_99 : decode cX3_digest 99 = .ok (.lmul, 1) := by decide +kernel
theorem dX3_digest_100 : decode cX3_digest 100 = .ok (.aload_n 0, 1) := by decide +kernel
theorem dX3_digest_101 : decode cX3_digest 101 = .ok (.getfield 10, 3) := by decide +kernel
theorem dX3_digest_104 : decode cX3_digest 104 = .ok (.getfield 177, 3) := by decide +kernel
theorem dX3_digest_107 : decode cX3_digest 107 = .ok (.iload_n 3, 1) := by decide +kernel
theorem dX3_digest_108 : decode cX3_digest 108 = .ok (.iaload, 1) := by decide +kernel
theorem dX3_digest_109 : decode cX3_digest 109 = .ok (.i2l, 1) := by decide +kernel
theorem dX3_digest_110 : decode cX3_digest 110 = .ok (.ladd, 1) := by decide +kernel
theorem dX3_digest_111 : decode cX3_digest 111 = .ok (.lstore_n 1, 1) := by decide +kernel
theorem dX3_digest_112 : decode cX3_digest 112 = .ok (.iinc 3 1, 3) := by decide +kernel
theorem dX3_digest_115 : decode cX3_digest 115 = .ok (.goto (-48), 3) := by decide +kernel
theorem dX3_digest_118 : decode cX3_digest 118 = .ok (.iconst 0, 1) := by decide +kernel
theorem dX3_digest_119 : decode cX3_digest 119 = .ok (.istore_n 3, 1) := by decide +kernel
theorem dX3_digest_120 : decode cX3_digest 120 = .ok (.iload_n 3, 1) := by decide +kernel
theorem dX3_digest_121 : decode cX3_digest 121 = .ok (.aload_n 0, 1) := by decide +kernel
theorem dX3_digest_122 : decode cX3_digest 122 = .ok (.getfield 19, 3) := by decide +kernel
theorem dX3_digest_125 : decode cX3_digest 125 = .ok (.getfield 74, 3) := by decide +kernel
theorem dX3_digest_128 : decode cX3_digest 128 = .ok (.if_icmp .ge 24, 3) := by decide +kernel
theorem dX3_digest_131 : decode cX3_digest 131 = .ok (.aload_n 0, 1) := by decide +kernel
theorem dX3_digest_132 : decode cX3_digest 132 = .ok (.lload_n 1, 1) := by decide +kernel
theorem dX3_digest_133 : decode cX3_digest 133 = .ok (.aload_n 0, 1) := by decide +kernel
theorem dX3_digest_134 : decode cX3_digest 134 = .ok (.getfield 19, 3) := by decide +kernel
theorem dX3_digest_137 : decode cX3_digest 137 = .ok (.getfield 96, 3) := by decide +kernel
theorem dX3_digest_140 : decode cX3_digest 140 = .ok (.iload_n 3, 1) := by decide +kernel
theorem dX3_digest_141 : decode cX3_digest 141 = .ok (.aaload, 1) := by decide +kernel
theorem dX3_digest_142 : decode cX3_digest 142 = .ok (.invokevirtual 180, 3) := by decide +kernel
theorem dX3_digest_145 : decode cX3_digest 145 = .ok (.lstore_n 1, 1) := by decide +kernel
theorem dX3_digest_146 : decode cX3_digest 146 = .ok (.iinc 3 1, 3) := by decide +kernel
theorem dX3_digest_149 : decode cX3_digest 149 = .ok (.goto (-29), 3) := by decide +kernel
theorem dX3_digest_152 : decode cX3_digest 152 = .ok (.lload_n 1, 1) := by decide +kernel
theorem dX3_digest_153 : decode cX3_digest 153 = .ok (.lreturn, 1) := by decide +kernel
set_option maxRecDepth 20000 in
theorem ggX3_digestWith_X0_fact : GoodIn wsX3_digestWith wsX0_fact := goodIn_r _ [9, 10, 11, 12, 13, 14, 15, 16, 17, 18, 19, 20, 8, 21, 22, 34, 35, 36, 37, 38, 39, 40, 41, 42, 43, 44, 45] (by decide +kernel) (by decide +kernel)
set_option maxRecDepth 20000 in
theorem gX3_digestWith_X0_fact : GoodIn wsX3_digestWith (wsV RX3 118 RX0 yX0_fact wsX0_fact) := goodIn_app (goodIn_of _ (by decide +kernel)) ggX3_digestWith_X0_fact
set_option maxRecDepth 20000 in
theorem ggX3_digestWith_X1_rankOf : GoodIn wsX3_digestWith wsX1_rankOf := goodIn_r _ [27, 28, 29, 30, 31, 32, 8, 33, 15, 10, 18, 19, 20, 21, 22, 14, 49, 50, 51, 34, 35, 36, 37, 38, 39, 40, 41, 42, 43, 44, 45] (by decide +kernel) (by decide +kernel)
set_option maxRecDepth 20000 in
theorem gX3_digestWith_X1_rankOf : GoodIn wsX3_digestWith (wsV RX3 133 RX1 yX1_rankOf wsX1_rankOf) := goodIn_app (goodIn_of _ (by decide +kernel)) ggX3_digestWith_X1_rankOf
theorem dX3_digestWith_0 : decode cX3_digestWith 0 = .ok (.lload_n 1, 1) := by decide +kernel
theorem dX3_digestWith_1 : decode cX3_digestWith 1 = .ok (.lstore 4, 2) := by decide +kernel
theorem dX3_digestWith_3 : decode cX3_digestWith 3 = .ok (.iconst 0, 1) := by decide +kernel
theorem dX3_digestWith_4 : decode cX3_digestWith 4 = .ok (.istore 6, 2) := by decide +kernel
theorem dX3_digestWith_6 : decode cX3_digestWith 6 = .ok (.iload 6, 2) := by decide +kernel
theorem dX3_digestWith_8 : decode cX3_digestWith 8 = .ok (.bipush 8, 2) := by decide +kernel
theorem dX3_digestWith_10 : decode cX3_digestWith 10 = .ok (.if_icmp .gt 25, 3) := by decide +kernel
theorem dX3_digestWith_13 : decode cX3_digestWith 13 = .ok (.lload 4, 2) := by decide +kernel
theorem dX3_digestWith_15 : decode cX3_digestWith 15 = .ok (.ldc2_w 172, 3) := by decide +kernel
theorem dX3_digestWith_18 : decode cX3_digestWith 18 = .ok (.lmul, 1) := by decide +kernel
theorem dX3_digestWith_19 : decode cX3_digestWith 19 = .ok (.aload_n 3, 1) := by decide +kernel
theorem dX3_digestWith_20 : decode cX3_digestWith 20 = .ok (.iload 6, 2) := by decide +kernel
theorem dX3_digestWith_22 : decode cX3_digestWith 22 = .ok (.invokevirtual 118, 3) := by decide +kernel
theorem dX3_digestWith_25 : decode cX3_digestWith 25 = .ok (.i2l, 1) := by decide +kernel
theorem dX3_digestWith_26 : decode cX3_digestWith 26 = .ok (.ladd, 1) := by decide +kernel
theorem dX3_digestWith_27 : decode cX3_digestWith 27 = .ok (.lstore 4, 2) := by decide +kernel
theorem dX3_digestWith_29 : decode cX3_digestWith 29 = .ok (.iinc 6 1, 3) := by decide +kernel
theorem dX3_digestWith_32 : decode cX3_digestWith 32 = .ok (.goto (-26), 3) := by decide +kernel
theorem dX3_digestWith_35 : decode cX3_digestWith 35 = .ok (.iconst 0, 1) := by decide +kernel
theorem dX3_digestWith_36 : decode cX3_digestWith 36 = .ok (.istore 6, 2) := by decide +kernel
theorem dX3_digestWith_38 : decode cX3_digestWith 38 = .ok (.iload 6, 2) := by decide +kernel
theorem dX3_digestWith_40 : decode cX3_digestWith 40 = .ok (.aload_n 3, 1) := by decide +kernel
theorem dX3_digestWith_41 : decode cX3_digestWith 41 = .ok (.getfield 100, 3) := by decide +kernel
theorem dX3_digestWith_44 : decode cX3_digestWith 44 = .ok (.if_icmp .ge 26, 3) := by decide +kernel
theorem dX3_digestWith_47 : decode cX3_digestWith 47 = .ok (.lload 4, 2) := by decide +kernel
theorem dX3_digestWith_49 : decode cX3_digestWith 49 = .ok (.ldc2_w 172, 3) := by decide +kernel
theorem dX3_digestWith_52 : decode cX3_digestWith 52 = .ok (.lmul, 1) := by decide +kernel
theorem dX3_digestWith_53 : decode cX3_digestWith 53 = .ok (.aload_n 3, 1) := by decide +kernel
theorem dX3_digestWith_54 : decode cX3_digestWith 54 = .ok (.getfield 184, 3) := by decide +kernel
theorem dX3_digestWith_57 : decode cX3_digestWith 57 = .ok (.iload 6, 2) := by decide +kernel
theorem dX3_digestWith_59 : decode cX3_digestWith 59 = .ok (.iaload, 1) := by decide +kernel
theorem dX3_digestWith_60 : decode cX3_digestWith 60 = .ok (.i2l, 1) := by decide +kernel
theorem dX3_digestWith_61 : decode cX3_digestWith 61 = .ok (.ladd, 1) := by decide +kernel
theorem dX3_digestWith_62 : decode cX3_digestWith 62 = .ok (.lstore 4, 2) := by decide +kernel
theorem dX3_digestWith_64 : decode cX3_digestWith 64 = .ok (.iinc 6 1, 3) := by decide +kernel
theorem dX3_digestWith_67 : decode cX3_digestWith 67 = .ok (.goto (-29), 3) := by decide +kernel
theorem dX3_digestWith_70 : decode cX3_digestWith 70 = .ok (.lload 4, 2) := by decide +kernel
theorem dX3_digestWith_72 : decode cX3_digestWith 72 = .ok (.ldc2_w 172, 3) := by decide +kernel
theorem dX3_digestWith_75 : decode cX3_digestWith 75 = .ok (.lmul, 1) := by decide +kernel
theorem dX3_digestWith_76 : decode cX3_digestWith 76 = .ok (.aload_n 0, 1) := by decide +kernel
theorem dX3_digestWith_77 : decode cX3_digestWith 77 = .ok (.getfield 19, 3) := by decide +kernel
theorem dX3_digestWith_80 : decode cX3_digestWith 80 = .ok (.aload_n 3, 1) := by decide +kernel
theorem dX3_digestWith_81 : decode cX3_digestWith 81 = .ok (.invokevirtual 133, 3) := by decide +kernel
theorem dX3_digestWith_84 : decode cX3_digestWith 84 = .ok (.i2l, 1) := by decide +kernel
theorem dX3_digestWith_85 : decode cX3_digestWith 85 = .ok (.ladd, 1) := by decide +kernel
theorem dX3_digestWith_86 : decode cX3_digestWith 86 = .ok (.lreturn, 1) := by decide +kernel
set_option maxRecDepth 20000 in
theorem ggX3_countIn_X1_boatsIn : GoodIn wsX3_countIn wsX1_boatsIn := goodIn_r _ [9, 10, 11, 12, 13, 14, 15, 16, 17, 38, 39, 40, 48, 49, 50, 51, 52, 53, 54, 55, 56, 57, 58, 59] (by decide +kernel) (by decide +kernel)
set_option maxRecDepth 20000 in
theorem gX3_countIn_X1_boatsIn : GoodIn wsX3_countIn (wsV RX3 139 RX1 yX1_boatsIn wsX1_boatsIn) := goodIn_app (goodIn_of _ (by decide +kernel)) ggX3_countIn_X1_boatsIn
set_option maxRecDepth 20000 in
theorem ggX3_countIn_X1_foulsAdded : GoodIn wsX3_countIn wsX1_foulsAdded := goodIn_r _ [21, 10, 11, 22, 38, 39, 40, 48, 49, 50, 51, 52, 53, 54, 55, 56, 57, 58, 59] (by decide +kernel) (by decide +kernel)
set_option maxRecDepth 20000 in
theorem gX3_countIn_X1_foulsAdded : GoodIn wsX3_countIn (wsV RX3 187 RX1 yX1_foulsAdded wsX1_foulsAdded) := goodIn_app (goodIn_of _ (by decide +kernel)) ggX3_countIn_X1_foulsAdded
set_option maxRecDepth 20000 in
theorem ggX3_countIn_X1_leader : GoodIn wsX3_countIn wsX1_leader := goodIn_r _ [26, 10, 11, 27, 12, 13, 14, 15, 16, 17, 38, 39, 40, 48, 49, 50, 51, 52, 53, 54, 55, 56, 57, 58, 59] (by decide +kernel) (by decide +kernel)
set_option maxRecDepth 20000 in
theorem gX3_countIn_X1_leader : GoodIn wsX3_countIn (wsV RX3 190 RX1 yX1_leader wsX1_leader) := goodIn_app (goodIn_of _ (by decide +kernel)) ggX3_countIn_X1_leader
set_option maxRecDepth 20000 in
theorem ggX3_countIn_X1_winner : GoodIn wsX3_countIn wsX1_winner := goodIn_r _ [31, 10, 11, 12, 13, 14, 15, 16, 17, 32, 33, 34, 35, 36, 37, 38, 39, 40, 48, 49, 50, 51, 52, 53, 54, 55, 56, 57, 58, 59] (by decide +kernel) (by decide +kernel)
set_option maxRecDepth 20000 in
theorem gX3_countIn_X1_winner : GoodIn wsX3_countIn (wsV RX3 193 RX1 yX1_winner wsX1_winner) := goodIn_app (goodIn_of _ (by decide +kernel)) ggX3_countIn_X1_winner
theorem dX3_countIn_0 : decode cX3_countIn 0 = .ok (.iload_n 2, 1) := by decide +kernel
theorem dX3_countIn_1 : decode cX3_countIn 1 = .ok (.tableswitch 72 0 5 #[39, 44, 49, 57, 62, 67], 39) := by decide +kernel
theorem dX3_countIn_40 : decode cX3_countIn 40 = .ok (.aload_n 1, 1) := by decide +kernel
theorem dX3_countIn_41 : decode cX3_countIn 41 = .ok (.getfield 150, 3) := by decide +kernel
theorem dX3_countIn_44 : decode cX3_countIn 44 = .ok (.ireturn, 1) := by decide +kernel
theorem dX3_countIn_45 : decode cX3_countIn 45 = .ok (.aload_n 1, 1) := by decide +kernel
theorem dX3_countIn_46 : decode cX3_countIn 46 = .ok (.getfield 74, 3) := by decide +kernel
theorem dX3_countIn_49 : decode cX3_countIn 49 = .ok (.ireturn, 1) := by decide +kernel
theorem dX3_countIn_50 : decode cX3_countIn 50 = .ok (.aload_n 0, 1) := by decide +kernel
theorem dX3_countIn_51 : decode cX3_countIn 51 = .ok (.getfield 10, 3) := by decide +kernel
theorem dX3_countIn_54 : decode cX3_countIn 54 = .ok (.getfield 50, 3) := by decide +kernel
theorem dX3_countIn_57 : decode cX3_countIn 57 = .ok (.ireturn, 1) := by decide +kernel
theorem dX3_countIn_58 : decode cX3_countIn 58 = .ok (.aload_n 1, 1) := by decide +kernel
theorem dX3_countIn_59 : decode cX3_countIn 59 = .ok (.invokevirtual 139, 3) := by decide +kernel
theorem dX3_countIn_62 : decode cX3_countIn 62 = .ok (.ireturn, 1) := by decide +kernel
theorem dX3_countIn_63 : decode cX3_countIn 63 = .ok (.aload_n 1, 1) := by decide +kernel
theorem dX3_countIn_64 : decode cX3_countIn 64 = .ok (.invokevirtual 187, 3) := by decide +kernel
theorem dX3_countIn_67 : decode cX3_countIn 67 = .ok (.ireturn, 1) := by decide +kernel
theorem dX3_countIn_68 : decode cX3_countIn 68 = .ok (.aload_n 1, 1) := by decide +kernel
theorem dX3_countIn_69 : decode cX3_countIn 69 = .ok (.invokevirtual 190, 3) := by decide +kernel
theorem dX3_countIn_72 : decode cX3_countIn 72 = .ok (.ireturn, 1) := by decide +kernel
theorem dX3_countIn_73 : decode cX3_countIn 73 = .ok (.aload_n 1, 1) := by decide +kernel
theorem dX3_countIn_74 : decode cX3_countIn 74 = .ok (.invokevirtual 193, 3) := by decide +kernel
theorem dX3_countIn_77 : decode cX3_countIn 77 = .ok (.ireturn, 1) := by decide +kernel
set_option maxRecDepth 20000 in
theorem ggX3_placeWith_X0_copyFrom : GoodIn wsX3_placeWith wsX0_copyFrom := goodIn_r _ [11, 12, 13, 14, 15, 16, 17, 18, 19, 20, 21, 22, 23, 24, 25, 26, 27, 92, 93, 94, 95, 96, 97, 98, 99, 100, 101, 102, 103] (by decide +kernel) (by decide +kernel)
set_option maxRecDepth 20000 in
theorem gX3_placeWith_X0_copyFrom : GoodIn wsX3_placeWith (wsV RX3 146 RX0 yX0_copyFrom wsX0_copyFrom) := goodIn_app (goodIn_of _ (by decide +kernel)) ggX3_placeWith_X0_copyFrom
set_option maxRecDepth 20000 in
theorem ggX3_placeWith_X0_takePattern : GoodIn wsX3_placeWith wsX0_takePattern := goodIn_r _ [31, 12, 17, 92, 93, 94, 95, 96, 97, 98, 99, 100, 101, 102, 103] (by decide +kernel) (by decide +kernel)
set_option maxRecDepth 20000 in
theorem gX3_placeWith_X0_takePattern : GoodIn wsX3_placeWith (wsV RX3 103 RX0 yX0_takePattern wsX0_takePattern) := goodIn_app (goodIn_of _ (by decide +kernel)) ggX3_placeWith_X0_takePattern
set_option maxRecDepth 20000 in
theorem ggX3_placeWith_X0_letTickGoBy : GoodIn wsX3_placeWith wsX0_letTickGoBy := goodIn_r _ [35, 24, 19, 25, 36, 37, 38, 10, 39, 17, 12, 40, 41, 42, 43, 44, 45, 46, 47, 21, 26, 22, 48, 49, 50, 51, 52, 53, 54, 55, 18, 56, 57, 58, 59, 20, 23, 60, 61, 62, 63, 64, 65, 66, 67, 68, 69, 70, 71, 72, 73, 74, 27, 75, 76, 77, 78, 79, 80, 81, 82, 83, 84, 85, 92, 93, 94, 95, 96, 97, 98, 99, 100, 101, 102, 103, 104, 105, 106, 107] (by decide +kernel) (by decide +kernel)
set_option maxRecDepth 20000 in
theorem gX3_placeWith_X0_letTickGoBy : GoodIn wsX3_placeWith (wsV RX3 153 RX0 yX0_letTickGoBy wsX0_letTickGoBy) := goodIn_app (goodIn_of _ (by decide +kernel)) ggX3_placeWith_X0_letTickGoBy
theorem dX3_placeWith_0 : decode cX3_placeWith 0 = .ok (.aload_n 0, 1) := by decide +kernel
theorem dX3_placeWith_1 : decode cX3_placeWith 1 = .ok (.getfield 23, 3) := by decide +kernel
theorem dX3_placeWith_4 : decode cX3_placeWith 4 = .ok (.getfield 96, 3) := by decide +kernel
theorem dX3_placeWith_7 : decode cX3_placeWith 7 = .ok (.iload_n 1, 1) := by decide +kernel
theorem dX3_placeWith_8 : decode cX3_placeWith 8 = .ok (.aaload, 1) := by decide +kernel
theorem dX3_placeWith_9 : decode cX3_placeWith 9 = .ok (.astore 4, 2) := by decide +kernel
theorem dX3_placeWith_11 : decode cX3_placeWith 11 = .ok (.aload 4, 2) := by decide +kernel
theorem dX3_placeWith_13 : decode cX3_placeWith 13 = .ok (.aload_n 0, 1) := by decide +kernel
theorem dX3_placeWith_14 : decode cX3_placeWith 14 = .ok (.getfield 19, 3) := by decide +kernel
theorem dX3_placeWith_17 : decode cX3_placeWith 17 = .ok (.getfield 96, 3) := by decide +kernel
theorem dX3_placeWith_20 : decode cX3_placeWith 20 = .ok (.iload_n 1, 1) := by decide +kernel
theorem dX3_placeWith_21 : decode cX3_placeWith 21 = .ok (.aaload, 1) := by decide +kernel
theorem dX3_placeWith_22 : decode cX3_placeWith 22 = .ok (.invokevirtual 146, 3) := by decide +kernel
theorem dX3_placeWith_25 : decode cX3_placeWith 25 = .ok (.aload 4, 2) := by decide +kernel
theorem dX3_placeWith_27 : decode cX3_placeWith 27 = .ok (.iconst 2, 1) := by decide +kernel
theorem dX3_placeWith_28 : decode cX3_placeWith 28 = .ok (.iload_n 2, 1) := by decide +kernel
theorem dX3_placeWith_29 : decode cX3_placeWith 29 = .ok (.invokevirtual 103, 3) := by decide +kernel
theorem dX3_placeWith_32 : decode cX3_placeWith 32 = .ok (.iconst 0, 1) := by decide +kernel
theorem dX3_placeWith_33 : decode cX3_placeWith 33 = .ok (.istore 5, 2) := by decide +kernel
theorem dX3_placeWith_35 : decode cX3_placeWith 35 = .ok (.iload 5, 2) := by decide +kernel
theorem dX3_placeWith_37 : decode cX3_placeWith 37 = .ok (.iload_n 3, 1) := by decide +kernel
theorem dX3_placeWith_38 : decode cX3_placeWith 38 = .ok (.if_icmp .ge 28, 3) := by decide +kernel
theorem dX3_placeWith_41 : decode cX3_placeWith 41 = .ok (.aload 4, 2) := by decide +kernel
theorem dX3_placeWith_43 : decode cX3_placeWith 43 = .ok (.aload_n 0, 1) := by decide +kernel
theorem dX3_placeWith_44 : decode cX3_placeWith 44 = .ok (.getfield 10, 3) := by decide +kernel
theorem dX3_placeWith_47 : decode cX3_placeWith 47 = .ok (.aload_n 0, 1) := by decide +kernel
theorem dX3_placeWith_48 : decode cX3_placeWith 48 = .ok (.getfield 19, 3) := by decide +kernel
theorem dX3_placeWith_51 : decode cX3_placeWith 51 = .ok (.getfield 150, 3) := by decide +kernel
theorem dX3_placeWith_54 : decode cX3_placeWith 54 = .ok (.iload 5, 2) := by decide +kernel
theorem dX3_placeWith_56 : decode cX3_placeWith 56 = .ok (.iadd, 1) := by decide +kernel
theorem dX3_placeWith_57 : decode cX3_placeWith 57 = .ok (.invokevirtual 153, 3) := by decide +kernel
theorem dX3_placeWith_60 : decode cX3_placeWith 60 = .ok (.iinc 5 1, 3) := by decide +kernel
theorem dX3_placeWith_63 : decode cX3_placeWith 63 = .ok (.goto (-28), 3) := by decide +kernel
theorem dX3_placeWith_66 : decode cX3_placeWith 66 = .ok (.aload 4, 2) := by decide +kernel
theorem dX3_placeWith_68 : decode cX3_placeWith 68 = .ok (.getfield 196, 3) := by decide +kernel
theorem dX3_placeWith_71 : decode cX3_placeWith 71 = .ok (.ireturn, 1) := by decide +kernel
theorem dX3_isPattern_0 : decode cX3_isPattern 0 = .ok (.iload_n 1, 1) := by decide +kernel
theorem dX3_isPattern_1 : decode cX3_isPattern 1 = .ok (.ifCond .ge 5, 3) := by decide +kernel
theorem dX3_isPattern_4 : decode cX3_isPattern 4 = .ok (.iconst 0, 1) := by decide +kernel
theorem dX3_isPattern_5 : decode cX3_isPattern 5 = .ok (.ireturn, 1) := by decide +kernel
theorem dX3_isPattern_6 : decode cX3_isPattern 6 = .ok (.iload_n 1, 1) := by decide +kernel
theorem dX3_isPattern_7 : decode cX3_isPattern 7 = .ok (.istore_n 2, 1) := by decide +kernel
theorem dX3_isPattern_8 : decode cX3_isPattern 8 = .ok (.iconst 0, 1) := by decide +kernel
theorem dX3_isPattern_9 : decode cX3_isPattern 9 = .ok (.istore_n 3, 1) := by decide +kernel
theorem dX3_isPattern_10 : decode cX3_isPattern 10 = .ok (.iload_n 3, 1) := by decide +kernel
theorem dX3_isPattern_11 : decode cX3_isPattern 11 = .ok (.iload_n 0, 1) := by decide +kernel
theorem dX3_isPattern_12 : decode cX3_isPattern 12 = .ok (.if_icmp .ge 24, 3) := by decide +kernel
theorem dX3_isPattern_15 : decode cX3_isPattern 15 = .ok (.iload_n 2, 1) := by decide +kernel
theorem dX3_isPattern_16 : decode cX3_isPattern 16 = .ok (.bipush 10, 2) := by decide +kernel
theorem dX3_isPattern_18 : decode cX3_isPattern 18 = .ok (.irem, 1) := by decide +kernel
theorem dX3_isPattern_19 : decode cX3_isPattern 19 = .ok (.iconst 3, 1) := by decide +kernel
theorem dX3_isPattern_20 : decode cX3_isPattern 20 = .ok (.if_icmp .le 5, 3) := by decide +kernel
theorem dX3_isPattern_23 : decode cX3_isPattern 23 = .ok (.iconst 0, 1) := by decide +kernel
theorem dX3_isPattern_24 : decode cX3_isPattern 24 = .ok (.ireturn, 1) := by decide +kernel
theorem dX3_isPattern_25 : decode cX3_isPattern 25 = .ok (.iload_n 2, 1) := by decide +kernel
theorem dX3_isPattern_26 : decode cX3_isPattern 26 = .ok (.bipush 10, 2) := by decide +kernel
theorem dX3_isPattern_28 : decode cX3_isPattern 28 = .ok (.idiv, 1) := by decide +kernel
theorem dX3_isPattern_29 : decode cX3_isPattern 29 = .ok (.istore_n 2, 1) := by decide +kernel
theorem dX3_isPattern_30 : decode cX3_isPattern 30 = .ok (.iinc 3 1, 3) := by decide +kernel
theorem dX3_isPattern_33 : decode cX3_isPattern 33 = .ok (.goto (-23), 3) := by decide +kernel
theorem dX3_isPattern_36 : decode cX3_isPattern 36 = .ok (.iload_n 2, 1) := by decide +kernel
theorem dX3_isPattern_37 : decode cX3_isPattern 37 = .ok (.ifCond .ne 7, 3) := by decide +kernel
theorem dX3_isPattern_40 : decode cX3_isPattern 40 = .ok (.iconst 1, 1) := by decide +kernel
theorem dX3_isPattern_41 : decode cX3_isPattern 41 = .ok (.goto 4, 3) := by decide +kernel
theorem dX3_isPattern_44 : decode cX3_isPattern 44 = .ok (.iconst 0, 1) := by decide +kernel
theorem dX3_isPattern_45 : decode cX3_isPattern 45 = .ok (.ireturn, 1) := by decide +kernel
