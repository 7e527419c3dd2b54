theorem dX0_init_0 : decode cX0_init 0 = .ok (.aload_n 0, 1) := by decide +kernel
theorem dX0_init_1 : decode cX0_init 1 = .ok (.invokespecial 1, 3) := by decide +kernel
theorem dX0_init_4 : decode cX0_init 4 = .ok (.aload_n 0, 1) := by decide +kernel
theorem dX0_init_5 : decode cX0_init 5 = .ok (.bipush 6, 2) := by decide +kernel
theorem dX0_init_7 : decode cX0_init 7 = .ok (.newarray .int, 2) := by decide +kernel
theorem dX0_init_9 : decode cX0_init 9 = .ok (.putfield 9, 3) := by decide +kernel
theorem dX0_init_12 : decode cX0_init 12 = .ok (.aload_n 0, 1) := by decide +kernel
theorem dX0_init_13 : decode cX0_init 13 = .ok (.iconst 1, 1) := by decide +kernel
theorem dX0_init_14 : decode cX0_init 14 = .ok (.putfield 13, 3) := by decide +kernel
theorem dX0_init_17 : decode cX0_init 17 = .ok (.aload_n 0, 1) := by decide +kernel
theorem dX0_init_18 : decode cX0_init 18 = .ok (.iconst 1, 1) := by decide +kernel
theorem dX0_init_19 : decode cX0_init 19 = .ok (.putfield 17, 3) := by decide +kernel
theorem dX0_init_22 : decode cX0_init 22 = .ok (.aload_n 0, 1) := by decide +kernel
theorem dX0_init_23 : decode cX0_init 23 = .ok (.iconst 0, 1) := by decide +kernel
theorem dX0_init_24 : decode cX0_init 24 = .ok (.putfield 20, 3) := by decide +kernel
theorem dX0_init_27 : decode cX0_init 27 = .ok (.aload_n 0, 1) := by decide +kernel
theorem dX0_init_28 : decode cX0_init 28 = .ok (.iconst 0, 1) := by decide +kernel
theorem dX0_init_29 : decode cX0_init 29 = .ok (.putfield 23, 3) := by decide +kernel
theorem dX0_init_32 : decode cX0_init 32 = .ok (.aload_n 0, 1) := by decide +kernel
theorem dX0_init_33 : decode cX0_init 33 = .ok (.iconst 0, 1) := by decide +kernel
theorem dX0_init_34 : decode cX0_init 34 = .ok (.putfield 26, 3) := by decide +kernel
theorem dX0_init_37 : decode cX0_init 37 = .ok (.aload_n 0, 1) := by decide +kernel
theorem dX0_init_38 : decode cX0_init 38 = .ok (.iconst 0, 1) := by decide +kernel
theorem dX0_init_39 : decode cX0_init 39 = .ok (.putfield 29, 3) := by decide +kernel
theorem dX0_init_42 : decode cX0_init 42 = .ok (.aload_n 0, 1) := by decide +kernel
theorem dX0_init_43 : decode cX0_init 43 = .ok (.iconst 0, 1) := by decide +kernel
theorem dX0_init_44 : decode cX0_init 44 = .ok (.putfield 32, 3) := by decide +kernel
theorem dX0_init_47 : decode cX0_init 47 = .ok (.aload_n 0, 1) := by decide +kernel
theorem dX0_init_48 : decode cX0_init 48 = .ok (.iconst 0, 1) := by decide +kernel
theorem dX0_init_49 : decode cX0_init 49 = .ok (.putfield 35, 3) := by decide +kernel
theorem dX0_init_52 : decode cX0_init 52 = .ok (.aload_n 0, 1) := by decide +kernel
theorem dX0_init_53 : decode cX0_init 53 = .ok (.iconst 0, 1) := by decide +kernel
theorem dX0_init_54 : decode cX0_init 54 = .ok (.putfield 39, 3) := by decide +kernel
theorem dX0_init_57 : decode cX0_init 57 = .ok (.aload_n 0, 1) := by decide +kernel
theorem dX0_init_58 : decode cX0_init 58 = .ok (.iconst 0, 1) := by decide +kernel
theorem dX0_init_59 : decode cX0_init 59 = .ok (.putfield 42, 3) := by decide +kernel
theorem dX0_init_62 : decode cX0_init 62 = .ok (.aload_n 0, 1) := by decide +kernel
theorem dX0_init_63 : decode cX0_init 63 = .ok (.iconst 0, 1) := by decide +kernel
theorem dX0_init_64 : decode cX0_init 64 = .ok (.putfield 45, 3) := by decide +kernel
theorem dX0_init_67 : decode cX0_init 67 = .ok (.return_, 1) := by decide +kernel
set_option maxRecDepth 20000 in
theorem ggX0_start_X0_takePattern : GoodIn wsX0_start wsX0_takePattern := goodIn_r _ [7, 8, 9, 10, 11, 12, 13, 14, 15, 16, 17, 18, 19, 20, 21] (by decide +kernel) (by decide +kernel)
set_option maxRecDepth 20000 in
theorem gX0_start_X0_takePattern : GoodIn wsX0_start (wsV RX0 48 RX0 yX0_takePattern wsX0_takePattern) := goodIn_app (goodIn_of _ (by decide +kernel)) ggX0_start_X0_takePattern
theorem dX0_start_0 : decode cX0_start 0 = .ok (.aload_n 0, 1) := by decide +kernel
theorem dX0_start_1 : decode cX0_start 1 = .ok (.iload_n 1, 1) := by decide +kernel
theorem dX0_start_2 : decode cX0_start 2 = .ok (.putfield 23, 3) := by decide +kernel
theorem dX0_start_5 : decode cX0_start 5 = .ok (.aload_n 0, 1) := by decide +kernel
theorem dX0_start_6 : decode cX0_start 6 = .ok (.iload_n 2, 1) := by decide +kernel
theorem dX0_start_7 : decode cX0_start 7 = .ok (.putfield 17, 3) := by decide +kernel
theorem dX0_start_10 : decode cX0_start 10 = .ok (.aload_n 0, 1) := by decide +kernel
theorem dX0_start_11 : decode cX0_start 11 = .ok (.iconst 1, 1) := by decide +kernel
theorem dX0_start_12 : decode cX0_start 12 = .ok (.iconst 3, 1) := by decide +kernel
theorem dX0_start_13 : decode cX0_start 13 = .ok (.invokevirtual 48, 3) := by decide +kernel
theorem dX0_start_16 : decode cX0_start 16 = .ok (.return_, 1) := by decide +kernel
theorem dX0_copyFrom_0 : decode cX0_copyFrom 0 = .ok (.aload_n 1, 1) := by decide +kernel
theorem dX0_copyFrom_1 : decode cX0_copyFrom 1 = .ok (.getfield 9, 3) := by decide +kernel
theorem dX0_copyFrom_4 : decode cX0_copyFrom 4 = .ok (.iconst 0, 1) := by decide +kernel
theorem dX0_copyFrom_5 : decode cX0_copyFrom 5 = .ok (.aload_n 0, 1) := by decide +kernel
theorem dX0_copyFrom_6 : decode cX0_copyFrom 6 = .ok (.getfield 9, 3) := by decide +kernel
theorem dX0_copyFrom_9 : decode cX0_copyFrom 9 = .ok (.iconst 0, 1) := by decide +kernel
theorem dX0_copyFrom_10 : decode cX0_copyFrom 10 = .ok (.bipush 6, 2) := by decide +kernel
theorem dX0_copyFrom_12 : decode cX0_copyFrom 12 = .ok (.invokestatic 52, 3) := by decide +kernel
theorem dX0_copyFrom_15 : decode cX0_copyFrom 15 = .ok (.aload_n 0, 1) := by decide +kernel
theorem dX0_copyFrom_16 : decode cX0_copyFrom 16 = .ok (.aload_n 1, 1) := by decide +kernel
theorem dX0_copyFrom_17 : decode cX0_copyFrom 17 = .ok (.getfield 13, 3) := by decide +kernel
theorem dX0_copyFrom_20 : decode cX0_copyFrom 20 = .ok (.putfield 13, 3) := by decide +kernel
theorem dX0_copyFrom_23 : decode cX0_copyFrom 23 = .ok (.aload_n 0, 1) := by decide +kernel
theorem dX0_copyFrom_24 : decode cX0_copyFrom 24 = .ok (.aload_n 1, 1) := by decide +kernel
theorem dX0_copyFrom_25 : decode cX0_copyFrom 25 = .ok (.getfield 17, 3) := by decide +kernel
theorem dX0_copyFrom_28 : decode cX0_copyFrom 28 = .ok (.putfield 17, 3) := by decide +kernel
theorem dX0_copyFrom_31 : decode cX0_copyFrom 31 = .ok (.aload_n 0, 1) := by decide +kernel
theorem dX0_copyFrom_32 : decode cX0_copyFrom 32 = .ok (.aload_n 1, 1) := by decide +kernel
theorem dX0_copyFrom_33 : decode cX0_copyFrom 33 = .ok (.getfield 20, 3) := by decide +kernel
theorem dX0_copyFrom_36 : decode cX0_copyFrom 36 = .ok (.putfield 20, 3) := by decide +kernel
theorem dX0_copyFrom_39 : decode cX0_copyFrom 39 = .ok (.aload_n 0, 1) := by decide +kernel
theorem dX0_copyFrom_40 : decode cX0_copyFrom 40 = .ok (.aload_n 1, 1) := by decide +kernel
theorem dX0_copyFrom_41 : decode cX0_copyFrom 41 = .ok (.getfield 23, 3) := by decide +kernel
theorem dX0_copyFrom_44 : decode cX0_copyFrom 44 = .ok (.putfield 23, 3) := by decide +kernel
theorem dX0_copyFrom_47 : decode cX0_copyFrom 47 = .ok (.aload_n 0, 1) := by decide +kernel
theorem dX0_copyFrom_48 : decode cX0_copyFrom 48 = .ok (.aload_n 1, 1) := by decide +kernel
theorem dX0_copyFrom_49 : decode cX0_copyFrom 49 = .ok (.getfield 26, 3) := by decide +kernel
theorem dX0_copyFrom_52 : decode cX0_copyFrom 52 = .ok (.putfield 26, 3) := by decide +kernel
theorem dX0_copyFrom_55 : decode cX0_copyFrom 55 = .ok (.aload_n 0, 1) := by decide +kernel
theorem dX0_copyFrom_56 : decode cX0_copyFrom 56 = .ok (.aload_n 1, 1) := by decide +kernel
theorem dX0_copyFrom_57 : decode cX0_copyFrom 57 = .ok (.getfield 29, 3) := by decide +kernel
theorem dX0_copyFrom_60 : decode cX0_copyFrom 60 = .ok (.putfield 29, 3) := by decide +kernel
theorem dX0_copyFrom_63 : decode cX0_copyFrom 63 = .ok (.aload_n 0, 1) := by decide +kernel
theorem dX0_copyFrom_64 : decode cX0_copyFrom 64 = .ok (.aload_n 1, 1) := by decide +kernel
theorem dX0_copyFrom_65 : decode cX0_copyFrom 65 = .ok (.getfield 32, 3) := by decide +kernel
theorem dX0_copyFrom_68 : decode cX0_copyFrom 68 = .ok (.putfield 32, 3) := by decide +kernel
theorem dX0_copyFrom_71 : decode cX0_copyFrom 71 = .ok (.aload_n 0, 1) := by decide +kernel
theorem dX0_copyFrom_72 : decode cX0_copyFrom 72 = .ok (.aload_n 1, 1) := by decide +kernel
theorem dX0_copyFrom_73 : decode cX0_copyFrom 73 = .ok (.getfield 35, 3) := by decide +kernel
theorem dX0_copyFrom_76 : decode cX0_copyFrom 76 = .ok (.putfield 35, 3) := by decide +kernel
theorem dX0_copyFrom_79 : decode cX0_copyFrom 79 = .ok (.aload_n 0, 1) := by decide +kernel
theorem dX0_copyFrom_80 : decode cX0_copyFrom 80 = .ok (.aload_n 1, 1) := by decide +kernel
theorem dX0_copyFrom_81 : decode cX0_copyFrom 81 = .ok (.getfield 39, 3) := by decide +kernel
theorem dX0_copyFrom_84 : decode cX0_copyFrom 84 = .ok (.putfield 39, 3) := by decide +kernel
theorem dX0_copyFrom_87 : decode cX0_copyFrom 87 = .ok (.aload_n 0, 1) := by decide +kernel
theorem dX0_copyFrom_88 : decode cX0_copyFrom 88 = .ok (.aload_n 1, 1) := by decide +kernel
theorem dX0_copyFrom_89 : decode cX0_copyFrom 89 = .ok (.getfield 42, 3) := by decide +kernel
theorem dX0_copyFrom_92 : decode cX0_copyFrom 92 = .ok (.putfield 42, 3) := by decide +kernel
theorem dX0_copyFrom_95 : decode cX0_copyFrom 95 = .ok (.aload_n 0, 1) := by decide +kernel
theorem dX0_copyFrom_96 : decode cX0_copyFrom 96 = .ok (.aload_n 1, 1) := by decide +kernel
theorem dX0_copyFrom_97 : decode cX0_copyFrom 97 = .ok (.getfield 45, 3) := by decide +kernel
theorem dX0_copyFrom_100 : decode cX0_copyFrom 100 = .ok (.putfield 45, 3) := by decide +kernel
theorem dX0_copyFrom_103 : decode cX0_copyFrom 103 = .ok (.return_, 1) := by decide +kernel
theorem dX0_isIn_0 : decode cX0_isIn 0 = .ok (.aload_n 0, 1) := by decide +kernel
theorem dX0_isIn_1 : decode cX0_isIn 1 = .ok (.getfield 35, 3) := by decide +kernel
theorem dX0_isIn_4 : decode cX0_isIn 4 = .ok (.ireturn, 1) := by decide +kernel
theorem dX0_time_0 : decode cX0_time 0 = .ok (.aload_n 0, 1) := by decide +kernel
theorem dX0_time_1 : decode cX0_time 1 = .ok (.getfield 35, 3) := by decide +kernel
theorem dX0_time_4 : decode cX0_time 4 = .ok (.ifCond .eq 17, 3) := by decide +kernel
theorem dX0_time_7 : decode cX0_time 7 = .ok (.aload_n 0, 1) := by decide +kernel
theorem dX0_time_8 : decode cX0_time 8 = .ok (.getfield 39, 3) := by decide +kernel
theorem dX0_time_11 : decode cX0_time 11 = .ok (.iconst 1, 1) := by decide +kernel
theorem dX0_time_12 : decode cX0_time 12 = .ok (.iadd, 1) := by decide +kernel
theorem dX0_time_13 : decode cX0_time 13 = .ok (.aload_n 0, 1) := by decide +kernel
theorem dX0_time_14 : decode cX0_time 14 = .ok (.getfield 32, 3) := by decide +kernel
theorem dX0_time_17 : decode cX0_time 17 = .ok (.iadd, 1) := by decide +kernel
theorem dX0_time_18 : decode cX0_time 18 = .ok (.goto 4, 3) := by decide +kernel
theorem dX0_time_21 : decode cX0_time 21 = .ok (.iconst (-1), 1) := by decide +kernel
theorem dX0_time_22 : decode cX0_time 22 = .ok (.ireturn, 1) := by decide +kernel
set_option maxRecDepth 20000 in
theorem ggX0_fact_X0_time : GoodIn wsX0_fact wsX0_time := goodIn_r _ [13, 6, 14, 5, 15, 16, 17, 18, 19, 20, 21, 22, 23, 24, 25, 26] (by decide +kernel) (by decide +kernel)
set_option maxRecDepth 20000 in
theorem gX0_fact_X0_time : GoodIn wsX0_fact (wsV RX0 58 RX0 yX0_time wsX0_time) := goodIn_app (goodIn_of _ (by decide +kernel)) ggX0_fact_X0_time
theorem dX0_fact_0 : decode cX0_fact 0 = .ok (.iload_n 1, 1) := by decide +kernel
theorem dX0_fact_1 : decode cX0_fact 1 = .ok (.tableswitch 95 0 7 #[47, 52, 57, 62, 67, 72, 85, 90], 47) := by decide +kernel
theorem dX0_fact_48 : decode cX0_fact 48 = .ok (.aload_n 0, 1) := by decide +kernel
theorem dX0_fact_49 : decode cX0_fact 49 = .ok (.getfield 20, 3) := by decide +kernel
theorem dX0_fact_52 : decode cX0_fact 52 = .ok (.ireturn, 1) := by decide +kernel
theorem dX0_fact_53 : decode cX0_fact 53 = .ok (.aload_n 0, 1) := by decide +kernel
theorem dX0_fact_54 : decode cX0_fact 54 = .ok (.getfield 23, 3) := by decide +kernel
theorem dX0_fact_57 : decode cX0_fact 57 = .ok (.ireturn, 1) := by decide +kernel
theorem dX0_fact_58 : decode cX0_fact 58 = .ok (.aload_n 0, 1) := by decide +kernel
theorem dX0_fact_59 : decode cX0_fact 59 = .ok (.getfield 26, 3) := by decide +kernel
theorem dX0_fact_62 : decode cX0_fact 62 = .ok (.ireturn, 1) := by decide +kernel
theorem dX0_fact_63 : decode cX0_fact 63 = .ok (.aload_n 0, 1) := by decide +kernel
theorem dX0_fact_64 : decode cX0_fact 64 = .ok (.getfield 29, 3) := by decide +kernel
theorem dX0_fact_67 : decode cX0_fact 67 = .ok (.ireturn, 1) := by decide +kernel
theorem dX0_fact_68 : decode cX0_fact 68 = .ok (.aload_n 0, 1) := by decide +kernel
theorem dX0_fact_69 : decode cX0_fact 69 = .ok (.getfield 32, 3) := by decide +kernel
theorem dX0_fact_72 : decode cX0_fact 72 = .ok (.ireturn, 1) := by decide +kernel
theorem dX0_fact_73 : decode cX0_fact 73 = .ok (.aload_n 0, 1) := by decide +kernel
theorem dX0_fact_74 : decode cX0_fact 74 = .ok (.getfield 35, 3) := by decide +kernel
theorem dX0_fact_77 : decode cX0_fact 77 = .ok (.ifCond .eq 7, 3) := by decide +kernel
theorem dX0_fact_80 : decode cX0_fact 80 = .ok (.iconst 1, 1) := by decide +kernel
theorem dX0_fact_81 : decode cX0_fact 81 = .ok (.goto 4, 3) := by decide +kernel
theorem dX0_fact_84 : decode cX0_fact 84 = .ok (.iconst 0, 1) := by decide +kernel
theorem dX0_fact_85 : decode cX0_fact 85 = .ok (.ireturn, 1) := by decide +kernel
theorem dX0_fact_86 : decode cX0_fact 86 = .ok (.aload_n 0, 1) := by decide +kernel
theorem dX0_fact_87 : decode cX0_fact 87 = .ok (.invokevirtual 58, 3) := by decide +kernel
theorem dX0_fact_90 : decode cX0_fact 90 = .ok (.ireturn, 1) := by decide +kernel
theorem dX0_fact_91 : decode cX0_fact 91 = .ok (.aload_n 0, 1) := by decide +kernel
theorem dX0_fact_92 : decode cX0_fact 92 = .ok (.getfield 42, 3) := by decide +kernel
theorem dX0_fact_95 : decode cX0_fact 95 = .ok (.ireturn, 1) := by decide +kernel
theorem dX0_fact_96 : decode cX0_fact 96 = .ok (.aload_n 0, 1) := by decide +kernel
theorem dX0_fact_97 : decode cX0_fact 97 = .ok (.getfield 45, 3) := by decide +kernel
theorem dX0_fact_100 : decode cX0_fact 100 = .ok (.ireturn, 1) := by decide +kernel
set_option maxRecDepth 20000 in
theorem ggX0_isAheadOf_X0_time : GoodIn wsX0_isAheadOf wsX0_time := goodIn_r _ [7, 1, 8, 9, 10, 11, 12, 13, 14, 15, 16, 17, 18, 19, 20, 21] (by decide +kernel) (by decide +kernel)
set_option maxRecDepth 20000 in
theorem gX0_isAheadOf_X0_time : GoodIn wsX0_isAheadOf (wsV RX0 58 RX0 yX0_time wsX0_time) := goodIn_app (goodIn_of _ (by decide +kernel)) ggX0_isAheadOf_X0_time
theorem dX0_isAheadOf_0 : decode cX0_isAheadOf 0 = .ok (.aload_n 0, 1) := by decide +kernel
theorem dX0_isAheadOf_1 : decode cX0_isAheadOf 1 = .ok (.getfield 35, 3) := by decide +kernel
theorem dX0_isAheadOf_4 : decode cX0_isAheadOf 4 = .ok (.ifCond .eq 27, 3) := by decide +kernel
theorem dX0_isAheadOf_7 : decode cX0_isAheadOf 7 = .ok (.aload_n 1, 1) := by decide +kernel
theorem dX0_isAheadOf_8 : decode cX0_isAheadOf 8 = .ok (.getfield 35, 3) := by decide +kernel
theorem dX0_isAheadOf_11 : decode cX0_isAheadOf 11 = .ok (.ifCond .eq 14, 3) := by decide +kernel
theorem dX0_isAheadOf_14 : decode cX0_isAheadOf 14 = .ok (.aload_n 0, 1) := by decide +kernel
theorem dX0_isAheadOf_15 : decode cX0_isAheadOf 15 = .ok (.invokevirtual 58, 3) := by decide +kernel
theorem dX0_isAheadOf_18 : decode cX0_isAheadOf 18 = .ok (.aload_n 1, 1) := by decide +kernel
theorem dX0_isAheadOf_19 : decode cX0_isAheadOf 19 = .ok (.invokevirtual 58, 3) := by decide +kernel
theorem dX0_isAheadOf_22 : decode cX0_isAheadOf 22 = .ok (.if_icmp .ge 7, 3) := by decide +kernel
theorem dX0_isAheadOf_25 : decode cX0_isAheadOf 25 = .ok (.iconst 1, 1) := by decide +kernel
theorem dX0_isAheadOf_26 : decode cX0_isAheadOf 26 = .ok (.goto 4, 3) := by decide +kernel
theorem dX0_isAheadOf_29 : decode cX0_isAheadOf 29 = .ok (.iconst 0, 1) := by decide +kernel
theorem dX0_isAheadOf_30 : decode cX0_isAheadOf 30 = .ok (.ireturn, 1) := by decide +kernel
theorem dX0_isAheadOf_31 : decode cX0_isAheadOf 31 = .ok (.aload_n 1, 1) := by decide +kernel
theorem dX0_isAheadOf_32 : decode cX0_isAheadOf 32 = .ok (.getfield 35, 3) := by decide +kernel
theorem dX0_isAheadOf_35 : decode cX0_isAheadOf 35 = .ok (.ifCond .ne 18, 3) := by decide +kernel
theorem dX0_isAheadOf_38 : decode cX0_isAheadOf 38 = .ok (.aload_n 0, 1) := by decide +kernel
theorem dX0_isAheadOf_39 : decode cX0_isAheadOf 39 = .ok (.getfield 20, 3) := by decide +kernel
theorem dX0_isAheadOf_42 : decode cX0_isAheadOf 42 = .ok (.aload_n 1, 1) := by decide +kernel
theorem dX0_isAheadOf_43 : decode cX0_isAheadOf 43 = .ok (.getfield 20, 3) := by decide +kernel
theorem dX0_isAheadOf_46 : decode cX0_isAheadOf 46 = .ok (.if_icmp .le 7, 3) := by decide +kernel
theorem dX0_isAheadOf_49 : decode cX0_isAheadOf 49 = .ok (.iconst 1, 1) := by decide +kernel
theorem dX0_isAheadOf_50 : decode cX0_isAheadOf 50 = .ok (.goto 4, 3) := by decide +kernel
theorem dX0_isAheadOf_53 : decode cX0_isAheadOf 53 = .ok (.iconst 0, 1) := by decide +kernel
theorem dX0_isAheadOf_54 : decode cX0_isAheadOf 54 = .ok (.ireturn, 1) := by decide +kernel
theorem dX0_takePattern_0 : decode cX0_takePattern 0 = .ok (.iload_n 1, 1) := by decide +kernel
theorem dX0_takePattern_1 : decode cX0_takePattern 1 = .ok (.iconst 1, 1) := by decide +kernel
theorem dX0_takePattern_2 : decode cX0_takePattern 2 = .ok (.if_icmp .lt 9, 3) := by decide +kernel
theorem dX0_takePattern_5 : decode cX0_takePattern 5 = .ok (.iload_n 1, 1) := by decide +kernel
theorem dX0_takePattern_6 : decode cX0_takePattern 6 = .ok (.bipush 6, 2) := by decide +kernel
theorem dX0_takePattern_8 : decode cX0_takePattern 8 = .ok (.if_icmp .le 4, 3) := by decide +kernel
theorem dX0_takePattern_11 : decode cX0_takePattern 11 = .ok (.return_, 1) := by decide +kernel
theorem dX0_takePattern_12 : decode cX0_takePattern 12 = .ok (.iload_n 2, 1) := by decide +kernel
theorem dX0_takePattern_13 : decode cX0_takePattern 13 = .ok (.istore_n 3, 1) := by decide +kernel
theorem dX0_takePattern_14 : decode cX0_takePattern 14 = .ok (.iload_n 1, 1) := by decide +kernel
theorem dX0_takePattern_15 : decode cX0_takePattern 15 = .ok (.iconst 1, 1) := by decide +kernel
theorem dX0_takePattern_16 : decode cX0_takePattern 16 = .ok (.isub, 1) := by decide +kernel
theorem dX0_takePattern_17 : decode cX0_takePattern 17 = .ok (.istore 4, 2) := by decide +kernel
theorem dX0_takePattern_19 : decode cX0_takePattern 19 = .ok (.iload 4, 2) := by decide +kernel
theorem dX0_takePattern_21 : decode cX0_takePattern 21 = .ok (.ifCond .lt 25, 3) := by decide +kernel
theorem dX0_takePattern_24 : decode cX0_takePattern 24 = .ok (.aload_n 0, 1) := by decide +kernel
theorem dX0_takePattern_25 : decode cX0_takePattern 25 = .ok (.getfield 9, 3) := by decide +kernel
theorem dX0_takePattern_28 : decode cX0_takePattern 28 = .ok (.iload 4, 2) := by decide +kernel
theorem dX0_takePattern_30 : decode cX0_takePattern 30 = .ok (.iload_n 3, 1) := by decide +kernel
theorem dX0_takePattern_31 : decode cX0_takePattern 31 = .ok (.bipush 10, 2) := by decide +kernel
theorem dX0_takePattern_33 : decode cX0_takePattern 33 = .ok (.irem, 1) := by decide +kernel
theorem dX0_takePattern_34 : decode cX0_takePattern 34 = .ok (.iastore, 1) := by decide +kernel
theorem dX0_takePattern_35 : decode cX0_takePattern 35 = .ok (.iload_n 3, 1) := by decide +kernel
theorem dX0_takePattern_36 : decode cX0_takePattern 36 = .ok (.bipush 10, 2) := by decide +kernel
theorem dX0_takePattern_38 : decode cX0_takePattern 38 = .ok (.idiv, 1) := by decide +kernel
theorem dX0_takePattern_39 : decode cX0_takePattern 39 = .ok (.istore_n 3, 1) := by decide +kernel
theorem dX0_takePattern_40 : decode cX0_takePattern 40 = .ok (.iinc 4 (-1), 3) := by decide +kernel
theorem dX0_takePattern_43 : decode cX0_takePattern 43 = .ok (.goto (-24), 3) := by decide +kernel
theorem dX0_takePattern_46 : decode cX0_takePattern 46 = .ok (.aload_n 0, 1) := by decide +kernel
theorem dX0_takePattern_47 : decode cX0_takePattern 47 = .ok (.iload_n 1, 1) := by decide +kernel
theorem dX0_takePattern_48 : decode cX0_takePattern 48 = .ok (.putfield 13, 3) := by decide +kernel
theorem dX0_takePattern_51 : decode cX0_takePattern 51 = .ok (.return_, 1) := by decide +kernel
theorem dX0_dryOut_0 : decode cX0_dryOut 0 = .ok (.aload_n 0, 1) := by decide +kernel
theorem dX0_dryOut_1 : decode cX0_dryOut 1 = .ok (.getfield 29, 3) := by decide +kernel
theorem dX0_dryOut_4 : decode cX0_dryOut 4 = .ok (.istore_n 1, 1) := by decide +kernel
theorem dX0_dryOut_5 : decode cX0_dryOut 5 = .ok (.aload_n 0, 1) := by decide +kernel
theorem dX0_dryOut_6 : decode cX0_dryOut 6 = .ok (.iconst 0, 1) := by decide +kernel
theorem dX0_dryOut_7 : decode cX0_dryOut 7 = .ok (.putfield 29, 3) := by decide +kernel
theorem dX0_dryOut_10 : decode cX0_dryOut 10 = .ok (.aload_n 0, 1) := by decide +kernel
theorem dX0_dryOut_11 : decode cX0_dryOut 11 = .ok (.dup, 1) := by decide +kernel
theorem dX0_dryOut_12 : decode cX0_dryOut 12 = .ok (.getfield 32, 3) := by decide +kernel
theorem dX0_dryOut_15 : decode cX0_dryOut 15 = .ok (.iconst 4, 1) := by decide +kernel
theorem dX0_dryOut_16 : decode cX0_dryOut 16 = .ok (.iadd, 1) := by decide +kernel
theorem dX0_dryOut_17 : decode cX0_dryOut 17 = .ok (.putfield 32, 3) := by decide +kernel
theorem dX0_dryOut_20 : decode cX0_dryOut 20 = .ok (.iload_n 1, 1) := by decide +kernel
theorem dX0_dryOut_21 : decode cX0_dryOut 21 = .ok (.ireturn, 1) := by decide +kernel
set_option maxRecDepth 20000 in
theorem ggX0_letTickGoBy_X0_strokeIn : GoodIn wsX0_letTickGoBy wsX0_strokeIn := goodIn_r _ [8, 9, 10, 11, 12, 13, 14, 64, 65, 66, 67, 68, 69, 70, 71, 72, 73, 74, 75] (by decide +kernel) (by decide +kernel)
set_option maxRecDepth 20000 in
theorem gX0_letTickGoBy_X0_strokeIn : GoodIn wsX0_letTickGoBy (wsV RX0 62 RX0 yX0_strokeIn wsX0_strokeIn) := goodIn_app (goodIn_of _ (by decide +kernel)) ggX0_letTickGoBy_X0_strokeIn
set_option maxRecDepth 20000 in
theorem ggX0_letTickGoBy_X0_forceOf : GoodIn wsX0_letTickGoBy wsX0_forceOf := goodIn_r _ [18, 19, 20, 21, 22, 23, 24, 25, 26, 27, 28, 7, 29, 30, 64, 65, 66, 67, 68, 69, 70, 71, 72, 73, 74, 75] (by decide +kernel) (by decide +kernel)
set_option maxRecDepth 20000 in
theorem gX0_letTickGoBy_X0_forceOf : GoodIn wsX0_letTickGoBy (wsV RX0 66 RX0 yX0_forceOf wsX0_forceOf) := goodIn_app (goodIn_of _ (by decide +kernel)) ggX0_letTickGoBy_X0_forceOf
set_option maxRecDepth 20000 in
theorem ggX0_letTickGoBy_X0_drift : GoodIn wsX0_letTickGoBy wsX0_drift := goodIn_r _ [34, 35, 19, 36, 37, 38, 39, 40, 64, 65, 66, 67, 68, 69, 70, 71, 72, 73, 74, 75] (by decide +kernel) (by decide +kernel)
set_option maxRecDepth 20000 in
theorem gX0_letTickGoBy_X0_drift : GoodIn wsX0_letTickGoBy (wsV RX0 69 RX0 yX0_drift wsX0_drift) := goodIn_app (goodIn_of _ (by decide +kernel)) ggX0_letTickGoBy_X0_drift
set_option maxRecDepth 20000 in
theorem ggX0_letTickGoBy_X0_advance : GoodIn wsX0_letTickGoBy wsX0_advance := goodIn_r _ [44, 35, 19, 45, 46, 24, 47, 48, 2, 49, 50, 51, 52, 37, 38, 39, 40, 53, 54, 55, 56, 57, 58, 59, 60, 61, 62, 7, 63, 21, 64, 65, 66, 67, 68, 69, 70, 71, 72, 73, 74, 75, 76, 77, 78, 79] (by decide +kernel) (by decide +kernel)
set_option maxRecDepth 20000 in
theorem gX0_letTickGoBy_X0_advance : GoodIn wsX0_letTickGoBy (wsV RX0 72 RX0 yX0_advance wsX0_advance) := goodIn_app (goodIn_of _ (by decide +kernel)) ggX0_letTickGoBy_X0_advance
set_option maxRecDepth 20000 in
theorem ggX0_letTickGoBy_X0_soak : GoodIn wsX0_letTickGoBy wsX0_soak := goodIn_r _ [63, 21, 49, 50, 24, 51, 64, 65, 66, 67, 68, 69, 70, 71, 72, 73, 74, 75] (by decide +kernel) (by decide +kernel)
set_option maxRecDepth 20000 in
theorem gX0_letTickGoBy_X0_soak : GoodIn wsX0_letTickGoBy (wsV RX0 76 RX0 yX0_soak wsX0_soak) := goodIn_app (goodIn_of _ (by decide +kernel)) ggX0_letTickGoBy_X0_soak
theorem dX0_letTickGoBy_0 : decode cX0_letTickGoBy 0 = .ok (.aload_n 0, 1) := by decide +kernel
theorem dX0_letTickGoBy_1 : decode cX0_letTickGoBy 1 = .ok (.getfield 35, 3) := by decide +kernel
theorem dX0_letTickGoBy_4 : decode cX0_letTickGoBy 4 = .ok (.ifCond .eq 4, 3) := by decide +kernel
theorem dX0_letTickGoBy_7 : decode cX0_letTickGoBy 7 = .ok (.return_, 1) := by decide +kernel
theorem dX0_letTickGoBy_8 : decode cX0_letTickGoBy 8 = .ok (.aload_n 0, 1) := by decide +kernel
theorem dX0_letTickGoBy_9 : decode cX0_letTickGoBy 9 = .ok (.aload_n 0, 1) := by decide +kernel
theorem dX0_letTickGoBy_10 : decode cX0_letTickGoBy 10 = .ok (.iload_n 2, 1) := by decide +kernel
theorem dX0_letTickGoBy_11 : decode cX0_letTickGoBy 11 = .ok (.invokevirtual 62, 3) := by decide +kernel
theorem dX0_letTickGoBy_14 : decode cX0_letTickGoBy 14 = .ok (.invokevirtual 66, 3) := by decide +kernel
theorem dX0_letTickGoBy_17 : decode cX0_letTickGoBy 17 = .ok (.istore_n 3, 1) := by decide +kernel
theorem dX0_letTickGoBy_18 : decode cX0_letTickGoBy 18 = .ok (.aload_n 0, 1) := by decide +kernel
theorem dX0_letTickGoBy_19 : decode cX0_letTickGoBy 19 = .ok (.invokevirtual 69, 3) := by decide +kernel
theorem dX0_letTickGoBy_22 : decode cX0_letTickGoBy 22 = .ok (.aload_n 0, 1) := by decide +kernel
theorem dX0_letTickGoBy_23 : decode cX0_letTickGoBy 23 = .ok (.aload_n 1, 1) := by decide +kernel
theorem dX0_letTickGoBy_24 : decode cX0_letTickGoBy 24 = .ok (.iload_n 3, 1) := by decide +kernel
theorem dX0_letTickGoBy_25 : decode cX0_letTickGoBy 25 = .ok (.invokevirtual 72, 3) := by decide +kernel
theorem dX0_letTickGoBy_28 : decode cX0_letTickGoBy 28 = .ok (.iload_n 2, 1) := by decide +kernel
theorem dX0_letTickGoBy_29 : decode cX0_letTickGoBy 29 = .ok (.iconst 4, 1) := by decide +kernel
theorem dX0_letTickGoBy_30 : decode cX0_letTickGoBy 30 = .ok (.irem, 1) := by decide +kernel
theorem dX0_letTickGoBy_31 : decode cX0_letTickGoBy 31 = .ok (.ifCond .ne 8, 3) := by decide +kernel
theorem dX0_letTickGoBy_34 : decode cX0_letTickGoBy 34 = .ok (.aload_n 0, 1) := by decide +kernel
theorem dX0_letTickGoBy_35 : decode cX0_letTickGoBy 35 = .ok (.iconst 1, 1) := by decide +kernel
theorem dX0_letTickGoBy_36 : decode cX0_letTickGoBy 36 = .ok (.invokevirtual 76, 3) := by decide +kernel
theorem dX0_letTickGoBy_39 : decode cX0_letTickGoBy 39 = .ok (.aload_n 0, 1) := by decide +kernel
theorem dX0_letTickGoBy_40 : decode cX0_letTickGoBy 40 = .ok (.getfield 20, 3) := by decide +kernel
theorem dX0_letTickGoBy_43 : decode cX0_letTickGoBy 43 = .ok (.sipush 200, 3) := by decide +kernel
theorem dX0_letTickGoBy_46 : decode cX0_letTickGoBy 46 = .ok (.if_icmp .ne 13, 3) := by decide +kernel
theorem dX0_letTickGoBy_49 : decode cX0_letTickGoBy 49 = .ok (.aload_n 0, 1) := by decide +kernel
theorem dX0_letTickGoBy_50 : decode cX0_letTickGoBy 50 = .ok (.iconst 1, 1) := by decide +kernel
theorem dX0_letTickGoBy_51 : decode cX0_letTickGoBy 51 = .ok (.putfield 35, 3) := by decide +kernel
theorem dX0_letTickGoBy_54 : decode cX0_letTickGoBy 54 = .ok (.aload_n 0, 1) := by decide +kernel
theorem dX0_letTickGoBy_55 : decode cX0_letTickGoBy 55 = .ok (.iload_n 2, 1) := by decide +kernel
theorem dX0_letTickGoBy_56 : decode cX0_letTickGoBy 56 = .ok (.putfield 39, 3) := by decide +kernel
theorem dX0_letTickGoBy_59 : decode cX0_letTickGoBy 59 = .ok (.return_, 1) := by decide +kernel
set_option maxRecDepth 20000 in
theorem ggX0_strokeIn_J9_floorMod_7cf53 : GoodIn wsX0_strokeIn wsJ9_floorMod_7cf53 := goodIn_r _ [6] (by decide +kernel) (by decide +kernel)
set_option maxRecDepth 20000 in
theorem gX0_strokeIn_J9_floorMod_7cf53 : GoodIn wsX0_strokeIn (va_wsS RX0 82 yJ9_floorMod_7cf53 wsJ9_floorMod_7cf53) := goodIn_app (goodIn_of _ (by decide +kernel)) ggX0_strokeIn_J9_floorMod_7cf53
theorem dX0_strokeIn_0 : decode cX0_strokeIn 0 = .ok (.aload_n 0, 1) := by decide +kernel
theorem dX0_strokeIn_1 : decode cX0_strokeIn 1 = .ok (.getfield 13, 3) := by decide +kernel
theorem dX0_strokeIn_4 : decode cX0_strokeIn 4 = .ok (.iconst 1, 1) := by decide +kernel
theorem dX0_strokeIn_5 : decode cX0_strokeIn 5 = .ok (.if_icmp .lt 12, 3) := by decide +kernel
theorem dX0_strokeIn_8 : decode cX0_strokeIn 8 = .ok (.aload_n 0, 1) := by decide +kernel
theorem dX0_strokeIn_9 : decode cX0_strokeIn 9 = .ok (.getfield 13, 3) := by decide +kernel
theorem dX0_strokeIn_12 : decode cX0_strokeIn 12 = .ok (.bipush 6, 2) := by decide +kernel
theorem dX0_strokeIn_14 : decode cX0_strokeIn 14 = .ok (.if_icmp .le 5, 3) := by decide +kernel
theorem dX0_strokeIn_17 : decode cX0_strokeIn 17 = .ok (.iconst 0, 1) := by decide +kernel
theorem dX0_strokeIn_18 : decode cX0_strokeIn 18 = .ok (.ireturn, 1) := by decide +kernel
theorem dX0_strokeIn_19 : decode cX0_strokeIn 19 = .ok (.aload_n 0, 1) := by decide +kernel
theorem dX0_strokeIn_20 : decode cX0_strokeIn 20 = .ok (.getfield 9, 3) := by decide +kernel
theorem dX0_strokeIn_23 : decode cX0_strokeIn 23 = .ok (.iload_n 1, 1) := by decide +kernel
theorem dX0_strokeIn_24 : decode cX0_strokeIn 24 = .ok (.aload_n 0, 1) := by decide +kernel
theorem dX0_strokeIn_25 : decode cX0_strokeIn 25 = .ok (.getfield 13, 3) := by decide +kernel
theorem dX0_strokeIn_28 : decode cX0_strokeIn 28 = .ok (.invokestatic 82, 3) := by decide +kernel
theorem dX0_strokeIn_31 : decode cX0_strokeIn 31 = .ok (.iaload, 1) := by decide +kernel
theorem dX0_strokeIn_32 : decode cX0_strokeIn 32 = .ok (.ireturn, 1) := by decide +kernel
set_option maxRecDepth 20000 in
theorem ggX0_forceOf_X0_pushOf : GoodIn wsX0_forceOf wsX0_pushOf := goodIn_r _ [12, 13, 14, 15, 16, 17, 18, 19, 20, 21, 22, 23, 24, 25] (by decide +kernel) (by decide +kernel)
set_option maxRecDepth 20000 in
theorem gX0_forceOf_X0_pushOf : GoodIn wsX0_forceOf (wsV RX0 88 RX0 yX0_pushOf wsX0_pushOf) := goodIn_app (goodIn_of _ (by decide +kernel)) ggX0_forceOf_X0_pushOf
theorem dX0_forceOf_0 : decode cX0_forceOf 0 = .ok (.iload_n 1, 1) := by decide +kernel
theorem dX0_forceOf_1 : decode cX0_forceOf 1 = .ok (.iconst 1, 1) := by decide +kernel
theorem dX0_forceOf_2 : decode cX0_forceOf 2 = .ok (.if_icmp .ne 16, 3) := by decide +kernel
theorem dX0_forceOf_5 : decode cX0_forceOf 5 = .ok (.aload_n 0, 1) := by decide +kernel
theorem dX0_forceOf_6 : decode cX0_forceOf 6 = .ok (.dup, 1) := by decide +kernel
theorem dX0_forceOf_7 : decode cX0_forceOf 7 = .ok (.getfield 26, 3) := by decide +kernel
theorem dX0_forceOf_10 : decode cX0_forceOf 10 = .ok (.iconst 1, 1) := by decide +kernel
theorem dX0_forceOf_11 : decode cX0_forceOf 11 = .ok (.iadd, 1) := by decide +kernel
theorem dX0_forceOf_12 : decode cX0_forceOf 12 = .ok (.putfield 26, 3) := by decide +kernel
theorem dX0_forceOf_15 : decode cX0_forceOf 15 = .ok (.goto 18, 3) := by decide +kernel
theorem dX0_forceOf_18 : decode cX0_forceOf 18 = .ok (.iload_n 1, 1) := by decide +kernel
theorem dX0_forceOf_19 : decode cX0_forceOf 19 = .ok (.iconst 2, 1) := by decide +kernel
theorem dX0_forceOf_20 : decode cX0_forceOf 20 = .ok (.if_icmp .ne 13, 3) := by decide +kernel
theorem dX0_forceOf_23 : decode cX0_forceOf 23 = .ok (.aload_n 0, 1) := by decide +kernel
theorem dX0_forceOf_24 : decode cX0_forceOf 24 = .ok (.dup, 1) := by decide +kernel
theorem dX0_forceOf_25 : decode cX0_forceOf 25 = .ok (.getfield 26, 3) := by decide +kernel
theorem dX0_forceOf_28 : decode cX0_forceOf 28 = .ok (.iconst 1, 1) := by decide +kernel
theorem dX0_forceOf_29 : decode cX0_forceOf 29 = .ok (.isub, 1) := by decide +kernel
theorem dX0_forceOf_30 : decode cX0_forceOf 30 = .ok (.putfield 26, 3) := by decide +kernel
theorem dX0_forceOf_33 : decode cX0_forceOf 33 = .ok (.aload_n 0, 1) := by decide +kernel
theorem dX0_forceOf_34 : decode cX0_forceOf 34 = .ok (.getfield 26, 3) := by decide +kernel
theorem dX0_forceOf_37 : decode cX0_forceOf 37 = .ok (.iconst 4, 1) := by decide +kernel
theorem dX0_forceOf_38 : decode cX0_forceOf 38 = .ok (.if_icmp .gt 12, 3) := by decide +kernel
theorem dX0_forceOf_41 : decode cX0_forceOf 41 = .ok (.aload_n 0, 1) := by decide +kernel
theorem dX0_forceOf_42 : decode cX0_forceOf 42 = .ok (.getfield 26, 3) := by decide +kernel
theorem dX0_forceOf_45 : decode cX0_forceOf 45 = .ok (.bipush (-4), 2) := by decide +kernel
theorem dX0_forceOf_47 : decode cX0_forceOf 47 = .ok (.if_icmp .ge 20, 3) := by decide +kernel
theorem dX0_forceOf_50 : decode cX0_forceOf 50 = .ok (.aload_n 0, 1) := by decide +kernel
theorem dX0_forceOf_51 : decode cX0_forceOf 51 = .ok (.iconst 0, 1) := by decide +kernel
theorem dX0_forceOf_52 : decode cX0_forceOf 52 = .ok (.putfield 26, 3) := by decide +kernel
theorem dX0_forceOf_55 : decode cX0_forceOf 55 = .ok (.aload_n 0, 1) := by decide +kernel
theorem dX0_forceOf_56 : decode cX0_forceOf 56 = .ok (.dup, 1) := by decide +kernel
theorem dX0_forceOf_57 : decode cX0_forceOf 57 = .ok (.getfield 42, 3) := by decide +kernel
theorem dX0_forceOf_60 : decode cX0_forceOf 60 = .ok (.iconst 1, 1) := by decide +kernel
theorem dX0_forceOf_61 : decode cX0_forceOf 61 = .ok (.iadd, 1) := by decide +kernel
theorem dX0_forceOf_62 : decode cX0_forceOf 62 = .ok (.putfield 42, 3) := by decide +kernel
theorem dX0_forceOf_65 : decode cX0_forceOf 65 = .ok (.iconst 0, 1) := by decide +kernel
theorem dX0_forceOf_66 : decode cX0_forceOf 66 = .ok (.ireturn, 1) := by decide +kernel
theorem dX0_forceOf_67 : decode cX0_forceOf 67 = .ok (.iconst 0, 1) := by decide +kernel
theorem dX0_forceOf_68 : decode cX0_forceOf 68 = .ok (.aload_n 0, 1) := by decide +kernel
theorem dX0_forceOf_69 : decode cX0_forceOf 69 = .ok (.iload_n 1, 1) := by decide +kernel
theorem dX0_forceOf_70 : decode cX0_forceOf 70 = .ok (.invokevirtual 88, 3) := by decide +kernel
theorem dX0_forceOf_73 : decode cX0_forceOf 73 = .ok (.aload_n 0, 1) := by decide +kernel
theorem dX0_forceOf_74 : decode cX0_forceOf 74 = .ok (.getfield 29, 3) := by decide +kernel
theorem dX0_forceOf_77 : decode cX0_forceOf 77 = .ok (.bipush 6, 2) := by decide +kernel
theorem dX0_forceOf_79 : decode cX0_forceOf 79 = .ok (.idiv, 1) := by decide +kernel
theorem dX0_forceOf_80 : decode cX0_forceOf 80 = .ok (.isub, 1) := by decide +kernel
theorem dX0_forceOf_81 : decode cX0_forceOf 81 = .ok (.invokestatic 91, 3) := by decide +kernel
theorem dX0_forceOf_84 : decode cX0_forceOf 84 = .ok (.ireturn, 1) := by decide +kernel
theorem dX0_pushOf_0 : decode cX0_pushOf 0 = .ok (.iload_n 1, 1) := by decide +kernel
theorem dX0_pushOf_1 : decode cX0_pushOf 1 = .ok (.iconst 3, 1) := by decide +kernel
theorem dX0_pushOf_2 : decode cX0_pushOf 2 = .ok (.if_icmp .ne 8, 3) := by decide +kernel
theorem dX0_pushOf_5 : decode cX0_pushOf 5 = .ok (.aload_n 0, 1) := by decide +kernel
theorem dX0_pushOf_6 : decode cX0_pushOf 6 = .ok (.getfield 17, 3) := by decide +kernel
theorem dX0_pushOf_9 : decode cX0_pushOf 9 = .ok (.ireturn, 1) := by decide +kernel
theorem dX0_pushOf_10 : decode cX0_pushOf 10 = .ok (.iload_n 1, 1) := by decide +kernel
theorem dX0_pushOf_11 : decode cX0_pushOf 11 = .ok (.ifCond .ne 7, 3) := by decide +kernel
theorem dX0_pushOf_14 : decode cX0_pushOf 14 = .ok (.iconst 0, 1) := by decide +kernel
theorem dX0_pushOf_15 : decode cX0_pushOf 15 = .ok (.goto 9, 3) := by decide +kernel
theorem dX0_pushOf_18 : decode cX0_pushOf 18 = .ok (.aload_n 0, 1) := by decide +kernel
theorem dX0_pushOf_19 : decode cX0_pushOf 19 = .ok (.getfield 17, 3) := by decide +kernel
theorem dX0_pushOf_22 : decode cX0_pushOf 22 = .ok (.iconst 2, 1) := by decide +kernel
theorem dX0_pushOf_23 : decode cX0_pushOf 23 = .ok (.idiv, 1) := by decide +kernel
theorem dX0_pushOf_24 : decode cX0_pushOf 24 = .ok (.ireturn, 1) := by decide +kernel
set_option maxRecDepth 20000 in
theorem ggX0_drift_X2_isLane : GoodIn wsX0_drift wsX2_isLane := goodIn_r _ [7] (by decide +kernel) (by decide +kernel)
set_option maxRecDepth 20000 in
theorem gX0_drift_X2_isLane : GoodIn wsX0_drift (va_wsS RX0 94 yX2_isLane wsX2_isLane) := goodIn_app (goodIn_of _ (by decide +kernel)) ggX0_drift_X2_isLane
theorem dX0_drift_0 : decode cX0_drift 0 = .ok (.aload_n 0, 1) := by decide +kernel
theorem dX0_drift_1 : decode cX0_drift 1 = .ok (.getfield 23, 3) := by decide +kernel
theorem dX0_drift_4 : decode cX0_drift 4 = .ok (.istore_n 1, 1) := by decide +kernel
theorem dX0_drift_5 : decode cX0_drift 5 = .ok (.aload_n 0, 1) := by decide +kernel
theorem dX0_drift_6 : decode cX0_drift 6 = .ok (.getfield 26, 3) := by decide +kernel
theorem dX0_drift_9 : decode cX0_drift 9 = .ok (.iconst 2, 1) := by decide +kernel
theorem dX0_drift_10 : decode cX0_drift 10 = .ok (.if_icmp .lt 13, 3) := by decide +kernel
theorem dX0_drift_13 : decode cX0_drift 13 = .ok (.aload_n 0, 1) := by decide +kernel
theorem dX0_drift_14 : decode cX0_drift 14 = .ok (.getfield 23, 3) := by decide +kernel
theorem dX0_drift_17 : decode cX0_drift 17 = .ok (.iconst 1, 1) := by decide +kernel
theorem dX0_drift_18 : decode cX0_drift 18 = .ok (.iadd, 1) := by decide +kernel
theorem dX0_drift_19 : decode cX0_drift 19 = .ok (.istore_n 1, 1) := by decide +kernel
theorem dX0_drift_20 : decode cX0_drift 20 = .ok (.goto 19, 3) := by decide +kernel
theorem dX0_drift_23 : decode cX0_drift 23 = .ok (.aload_n 0, 1) := by decide +kernel
theorem dX0_drift_24 : decode cX0_drift 24 = .ok (.getfield 26, 3) := by decide +kernel
theorem dX0_drift_27 : decode cX0_drift 27 = .ok (.bipush (-2), 2) := by decide +kernel
theorem dX0_drift_29 : decode cX0_drift 29 = .ok (.if_icmp .gt 10, 3) := by decide +kernel
theorem dX0_drift_32 : decode cX0_drift 32 = .ok (.aload_n 0, 1) := by decide +kernel
theorem dX0_drift_33 : decode cX0_drift 33 = .ok (.getfield 23, 3) := by decide +kernel
theorem dX0_drift_36 : decode cX0_drift 36 = .ok (.iconst 1, 1) := by decide +kernel
theorem dX0_drift_37 : decode cX0_drift 37 = .ok (.isub, 1) := by decide +kernel
theorem dX0_drift_38 : decode cX0_drift 38 = .ok (.istore_n 1, 1) := by decide +kernel
theorem dX0_drift_39 : decode cX0_drift 39 = .ok (.iload_n 1, 1) := by decide +kernel
theorem dX0_drift_40 : decode cX0_drift 40 = .ok (.invokestatic 94, 3) := by decide +kernel
theorem dX0_drift_43 : decode cX0_drift 43 = .ok (.ifCond .eq 11, 3) := by decide +kernel
theorem dX0_drift_46 : decode cX0_drift 46 = .ok (.aload_n 0, 1) := by decide +kernel
theorem dX0_drift_47 : decode cX0_drift 47 = .ok (.iload_n 1, 1) := by decide +kernel
theorem dX0_drift_48 : decode cX0_drift 48 = .ok (.putfield 23, 3) := by decide +kernel
theorem dX0_drift_51 : decode cX0_drift 51 = .ok (.goto 13, 3) := by decide +kernel
theorem dX0_drift_54 : decode cX0_drift 54 = .ok (.aload_n 0, 1) := by decide +kernel
theorem dX0_drift_55 : decode cX0_drift 55 = .ok (.dup, 1) := by decide +kernel
theorem dX0_drift_56 : decode cX0_drift 56 = .ok (.getfield 32, 3) := by decide +kernel
theorem dX0_drift_59 : decode cX0_drift 59 = .ok (.iconst 3, 1) := by decide +kernel
theorem dX0_drift_60 : decode cX0_drift 60 = .ok (.iadd, 1) := by decide +kernel
theorem dX0_drift_61 : decode cX0_drift 61 = .ok (.putfield 32, 3) := by decide +kernel
theorem dX0_drift_64 : decode cX0_drift 64 = .ok (.return_, 1) := by decide +kernel
set_option maxRecDepth 20000 in
theorem ggX0_advance_X2_isLane : GoodIn wsX0_advance wsX2_isLane := goodIn_r _ [16] (by decide +kernel) (by decide +kernel)
set_option maxRecDepth 20000 in
theorem gX0_advance_X2_isLane : GoodIn wsX0_advance (va_wsS RX0 94 yX2_isLane wsX2_isLane) := goodIn_app (goodIn_of _ (by decide +kernel)) ggX0_advance_X2_isLane
set_option maxRecDepth 20000 in
theorem ggX0_advance_X2_firstStop : GoodIn wsX0_advance wsX2_firstStop := goodIn_r _ [20, 21, 22, 23, 42, 43, 44, 45] (by decide +kernel) (by decide +kernel)
set_option maxRecDepth 20000 in
theorem gX0_advance_X2_firstStop : GoodIn wsX0_advance (wsV RX0 104 RX2 yX2_firstStop wsX2_firstStop) := goodIn_app (goodIn_of _ (by decide +kernel)) ggX0_advance_X2_firstStop
set_option maxRecDepth 20000 in
theorem ggX0_advance_X0_soak : GoodIn wsX0_advance wsX0_soak := goodIn_r _ [28, 29, 9, 10, 5, 11, 30, 31, 32, 33, 34, 35, 36, 37, 38, 39, 40, 41] (by decide +kernel) (by decide +kernel)
set_option maxRecDepth 20000 in
theorem gX0_advance_X0_soak : GoodIn wsX0_advance (wsV RX0 76 RX0 yX0_soak wsX0_soak) := goodIn_app (goodIn_of _ (by decide +kernel)) ggX0_advance_X0_soak
theorem dX0_advance_0 : decode cX0_advance 0 = .ok (.aload_n 0, 1) := by decide +kernel
theorem dX0_advance_1 : decode cX0_advance 1 = .ok (.getfield 23, 3) := by decide +kernel
theorem dX0_advance_4 : decode cX0_advance 4 = .ok (.invokestatic 94, 3) := by decide +kernel
theorem dX0_advance_7 : decode cX0_advance 7 = .ok (.ifCond .ne 4, 3) := by decide +kernel
theorem dX0_advance_10 : decode cX0_advance 10 = .ok (.return_, 1) := by decide +kernel
theorem dX0_advance_11 : decode cX0_advance 11 = .ok (.iload_n 2, 1) := by decide +kernel
theorem dX0_advance_12 : decode cX0_advance 12 = .ok (.iconst 4, 1) := by decide +kernel
theorem dX0_advance_13 : decode cX0_advance 13 = .ok (.aload_n 0, 1) := by decide +kernel
theorem dX0_advance_14 : decode cX0_advance 14 = .ok (.getfield 26, 3) := by decide +kernel
theorem dX0_advance_17 : decode cX0_advance 17 = .ok (.invokestatic 98, 3) := by decide +kernel
theorem dX0_advance_20 : decode cX0_advance 20 = .ok (.isub, 1) := by decide +kernel
theorem dX0_advance_21 : decode cX0_advance 21 = .ok (.imul, 1) := by decide +kernel
theorem dX0_advance_22 : decode cX0_advance 22 = .ok (.iconst 4, 1) := by decide +kernel
theorem dX0_advance_23 : decode cX0_advance 23 = .ok (.idiv, 1) := by decide +kernel
theorem dX0_advance_24 : decode cX0_advance 24 = .ok (.aload_n 1, 1) := by decide +kernel
theorem dX0_advance_25 : decode cX0_advance 25 = .ok (.getfield 101, 3) := by decide +kernel
theorem dX0_advance_28 : decode cX0_advance 28 = .ok (.aload_n 0, 1) := by decide +kernel
theorem dX0_advance_29 : decode cX0_advance 29 = .ok (.getfield 23, 3) := by decide +kernel
theorem dX0_advance_32 : decode cX0_advance 32 = .ok (.iaload, 1) := by decide +kernel
theorem dX0_advance_33 : decode cX0_advance 33 = .ok (.iadd, 1) := by decide +kernel
theorem dX0_advance_34 : decode cX0_advance 34 = .ok (.istore_n 3, 1) := by decide +kernel
theorem dX0_advance_35 : decode cX0_advance 35 = .ok (.aload_n 1, 1) := by decide +kernel
theorem dX0_advance_36 : decode cX0_advance 36 = .ok (.aload_n 0, 1) := by decide +kernel
theorem dX0_advance_37 : decode cX0_advance 37 = .ok (.getfield 20, 3) := by decide +kernel
theorem dX0_advance_40 : decode cX0_advance 40 = .ok (.aload_n 0, 1) := by decide +kernel
theorem dX0_advance_41 : decode cX0_advance 41 = .ok (.getfield 20, 3) := by decide +kernel
theorem dX0_advance_44 : decode cX0_advance 44 = .ok (.iload_n 3, 1) := by decide +kernel
theorem dX0_advance_45 : decode cX0_advance 45 = .ok (.iadd, 1) := by decide +kernel
theorem dX0_advance_46 : decode cX0_advance 46 = .ok (.aload_n 0, 1) := by decide +kernel
theorem dX0_advance_47 : decode cX0_advance 47 = .ok (.getfield 23, 3) := by decide +kernel
theorem dX0_advance_50 : decode cX0_advance 50 = .ok (.invokevirtual 104, 3) := by decide +kernel
theorem dX0_advance_53 : decode cX0_advance 53 = .ok (.istore 4, 2) := by decide +kernel
theorem dX0_advance_55 : decode cX0_advance 55 = .ok (.iload 4, 2) := by decide +kernel
theorem dX0_advance_57 : decode cX0_advance 57 = .ok (.iconst (-1), 1) := by decide +kernel
theorem dX0_advance_58 : decode cX0_advance 58 = .ok (.if_icmp .ne 20, 3) := by decide +kernel
theorem dX0_advance_61 : decode cX0_advance 61 = .ok (.aload_n 0, 1) := by decide +kernel
theorem dX0_advance_62 : decode cX0_advance 62 = .ok (.aload_n 0, 1) := by decide +kernel
theorem dX0_advance_63 : decode cX0_advance 63 = .ok (.getfield 20, 3) := by decide +kernel
theorem dX0_advance_66 : decode cX0_advance 66 = .ok (.iload_n 3, 1) := by decide +kernel
theorem dX0_advance_67 : decode cX0_advance 67 = .ok (.iadd, 1) := by decide +kernel
theorem dX0_advance_68 : decode cX0_advance 68 = .ok (.sipush 200, 3) := by decide +kernel
theorem dX0_advance_71 : decode cX0_advance 71 = .ok (.invokestatic 108, 3) := by decide +kernel
theorem dX0_advance_74 : decode cX0_advance 74 = .ok (.putfield 20, 3) := by decide +kernel
theorem dX0_advance_77 : decode cX0_advance 77 = .ok (.return_, 1) := by decide +kernel
theorem dX0_advance_78 : decode cX0_advance 78 = .ok (.aload_n 0, 1) := by decide +kernel
theorem dX0_advance_79 : decode cX0_advance 79 = .ok (.iload 4, 2) := by decide +kernel
theorem dX0_advance_81 : decode cX0_advance 81 = .ok (.putfield 20, 3) := by decide +kernel
theorem dX0_advance_84 : decode cX0_advance 84 = .ok (.aload_n 0, 1) := by decide +kernel
theorem dX0_advance_85 : decode cX0_advance 85 = .ok (.iconst 0, 1) := by decide +kernel
theorem dX0_advance_86 : decode cX0_advance 86 = .ok (.putfield 26, 3) := by decide +kernel
theorem dX0_advance_89 : decode cX0_advance 89 = .ok (.aload_n 0, 1) := by decide +kernel
theorem dX0_advance_90 : decode cX0_advance 90 = .ok (.iconst 5, 1) := by decide +kernel
theorem dX0_advance_91 : decode cX0_advance 91 = .ok (.invokevirtual 76, 3) := by decide +kernel
theorem dX0_advance_94 : decode cX0_advance 94 = .ok (.aload_n 0, 1) := by decide +kernel
theorem dX0_advance_95 : decode cX0_advance 95 = .ok (.dup, 1) := by decide +kernel
theorem dX0_advance_96 : decode cX0_advance 96 = .ok (.getfield 45, 3) := by decide +kernel
theorem dX0_advance_99 : decode cX0_advance 99 = .ok (.iconst 1, 1) := by decide +kernel
theorem dX0_advance_100 : decode cX0_advance 100 = .ok (.iadd, 1) := by decide +kernel
theorem dX0_advance_101 : decode cX0_advance 101 = .ok (.putfield 45, 3) := by decide +kernel
theorem dX0_advance_104 : decode cX0_advance 104 = .ok (.return_, 1) := by decide +kernel
theorem dX0_soak_0 : decode cX0_soak 0 = .ok (.aload_n 0, 1) := by decide +kernel
theorem dX0_soak_1 : decode cX0_soak 1 = .ok (.aload_n 0, 1) := by decide +kernel
theorem dX0_soak_2 : decode cX0_soak 2 = .ok (.getfield 29, 3) := by decide +kernel
theorem dX0_soak_5 : decode cX0_soak 5 = .ok (.iload_n 1, 1) := by decide +kernel
theorem dX0_soak_6 : decode cX0_soak 6 = .ok (.iadd, 1) := by decide +kernel
theorem dX0_soak_7 : decode cX0_soak 7 = .ok (.bipush 30, 2) := by decide +kernel
theorem dX0_soak_9 : decode cX0_soak 9 = .ok (.invokestatic 108, 3) := by decide +kernel
theorem dX0_soak_12 : decode cX0_soak 12 = .ok (.putfield 29, 3) := by decide +kernel
theorem dX0_soak_15 : decode cX0_soak 15 = .ok (.return_, 1) := by decide +kernel
set_option maxRecDepth 20000 in
theorem ggX1_init_X0_init : GoodIn wsX1_init wsX0_init := goodIn_r _ [11, 12, 2, 3, 13, 14, 15, 16, 17, 18, 19, 20, 21, 22, 23, 24, 25, 29, 30, 31, 32, 33, 34, 35, 36, 37, 38, 39, 40] (by decide +kernel) (by decide +kernel)
set_option maxRecDepth 20000 in
theorem gX1_init_X0_init_n22 : GoodIn wsX1_init (wsX0_init) := ggX1_init_X0_init
theorem dX1_init_0 : decode cX1_init 0 = .ok (.aload_n 0, 1) := by decide +kernel
theorem dX1_init_1 : decode cX1_init 1 = .ok (.invokespecial 1, 3) := by decide +kernel
theorem dX1_init_4 : decode cX1_init 4 = .ok (.aload_n 0, 1) := by decide +kernel
theorem dX1_init_5 : decode cX1_init 5 = .ok (.bipush 6, 2) := by decide +kernel
theorem dX1_init_7 : decode cX1_init 7 = .ok (.anewarray 9, 3) := by decide +kernel
theorem dX1_init_10 : decode cX1_init 10 = .ok (.putfield 11, 3) := by decide +kernel
theorem dX1_init_13 : decode cX1_init 13 = .ok (.aload_n 0, 1) := by decide +kernel
theorem dX1_init_14 : decode cX1_init 14 = .ok (.iconst 0, 1) := by decide +kernel
theorem dX1_init_15 : decode cX1_init 15 = .ok (.putfield 15, 3) := by decide +kernel
theorem dX1_init_18 : decode cX1_init 18 = .ok (.aload_n 0, 1) := by decide +kernel
theorem dX1_init_19 : decode cX1_init 19 = .ok (.iconst 0, 1) := by decide +kernel
theorem dX1_init_20 : decode cX1_init 20 = .ok (.putfield 19, 3) := by decide +kernel
theorem dX1_init_23 : decode cX1_init 23 = .ok (.iconst 0, 1) := by decide +kernel
theorem dX1_init_24 : decode cX1_init 24 = .ok (.istore_n 1, 1) := by decide +kernel
theorem dX1_init_25 : decode cX1_init 25 = .ok (.iload_n 1, 1) := by decide +kernel
theorem dX1_init_26 : decode cX1_init 26 = .ok (.bipush 6, 2) := by decide +kernel
theorem dX1_init_28 : decode cX1_init 28 = .ok (.if_icmp .ge 22, 3) := by decide +kernel
theorem dX1_init_31 : decode cX1_init 31 = .ok (.aload_n 0, 1) := by decide +kernel
theorem dX1_init_32 : decode cX1_init 32 = .ok (.getfield 11, 3) := by decide +kernel
theorem dX1_init_35 : decode cX1_init 35 = .ok (.iload_n 1, 1) := by decide +kernel
theorem dX1_init_36 : decode cX1_init 36 = .ok (.new 9, 3) := by decide +kernel
theorem dX1_init_39 : decode cX1_init 39 = .ok (.dup, 1) := by decide +kernel
theorem dX1_init_40 : decode cX1_init 40 = .ok (.invokespecial 22, 3) := by decide +kernel
theorem dX1_init_43 : decode cX1_init 43 = .ok (.aastore, 1) := by decide +kernel
theorem dX1_init_44 : decode cX1_init 44 = .ok (.iinc 1 1, 3) := by decide +kernel
theorem dX1_init_47 : decode cX1_init 47 = .ok (.goto (-22), 3) := by decide +kernel
theorem dX1_init_50 : decode cX1_init 50 = .ok (.return_, 1) := by decide +kernel
theorem dX1_has_0 : decode cX1_has 0 = .ok (.iload_n 1, 1) := by decide +kernel
theorem dX1_has_1 : decode cX1_has 1 = .ok (.ifCond .lt 15, 3) := by decide +kernel
theorem dX1_has_4 : decode cX1_has 4 = .ok (.iload_n 1, 1) := by decide +kernel
theorem dX1_has_5 : decode cX1_has 5 = .ok (.aload_n 0, 1) := by decide +kernel
theorem dX1_has_6 : decode cX1_has 6 = .ok (.getfield 15, 3) := by decide +kernel
theorem dX1_has_9 : decode cX1_has 9 = .ok (.if_icmp .ge 7, 3) := by decide +kernel
theorem dX1_has_12 : decode cX1_has 12 = .ok (.iconst 1, 1) := by decide +kernel
theorem dX1_has_13 : decode cX1_has 13 = .ok (.goto 4, 3) := by decide +kernel
theorem dX1_has_16 : decode cX1_has 16 = .ok (.iconst 0, 1) := by decide +kernel
theorem dX1_has_17 : decode cX1_has 17 = .ok (.ireturn, 1) := by decide +kernel
set_option maxRecDepth 20000 in
theorem ggX1_add_X0_start : GoodIn wsX1_add wsX0_start := goodIn_r _ [7, 8, 9, 10, 11, 12, 6, 13, 14, 15, 19, 20, 21, 22, 23, 24, 25, 26, 27, 28, 29, 30] (by decide +kernel) (by decide +kernel)
set_option maxRecDepth 20000 in
theorem gX1_add_X0_start : GoodIn wsX1_add (wsV RX1 23 RX0 yX0_start wsX0_start) := goodIn_app (goodIn_of _ (by decide +kernel)) ggX1_add_X0_start
theorem dX1_add_0 : decode cX1_add 0 = .ok (.aload_n 0, 1) := by decide +kernel
theorem dX1_add_1 : decode cX1_add 1 = .ok (.getfield 15, 3) := by decide +kernel
theorem dX1_add_4 : decode cX1_add 4 = .ok (.bipush 6, 2) := by decide +kernel
theorem dX1_add_6 : decode cX1_add 6 = .ok (.if_icmp .lt 5, 3) := by decide +kernel
theorem dX1_add_9 : decode cX1_add 9 = .ok (.iconst (-1), 1) := by decide +kernel
theorem dX1_add_10 : decode cX1_add 10 = .ok (.ireturn, 1) := by decide +kernel
theorem dX1_add_11 : decode cX1_add 11 = .ok (.aload_n 0, 1) := by decide +kernel
theorem dX1_add_12 : decode cX1_add 12 = .ok (.getfield 11, 3) := by decide +kernel
theorem dX1_add_15 : decode cX1_add 15 = .ok (.aload_n 0, 1) := by decide +kernel
theorem dX1_add_16 : decode cX1_add 16 = .ok (.getfield 15, 3) := by decide +kernel
theorem dX1_add_19 : decode cX1_add 19 = .ok (.aaload, 1) := by decide +kernel
theorem dX1_add_20 : decode cX1_add 20 = .ok (.iload_n 1, 1) := by decide +kernel
theorem dX1_add_21 : decode cX1_add 21 = .ok (.iload_n 2, 1) := by decide +kernel
theorem dX1_add_22 : decode cX1_add 22 = .ok (.invokevirtual 23, 3) := by decide +kernel
theorem dX1_add_25 : decode cX1_add 25 = .ok (.aload_n 0, 1) := by decide +kernel
theorem dX1_add_26 : decode cX1_add 26 = .ok (.dup, 1) := by decide +kernel
theorem dX1_add_27 : decode cX1_add 27 = .ok (.getfield 15, 3) := by decide +kernel
theorem dX1_add_30 : decode cX1_add 30 = .ok (.iconst 1, 1) := by decide +kernel
theorem dX1_add_31 : decode cX1_add 31 = .ok (.iadd, 1) := by decide +kernel
theorem dX1_add_32 : decode cX1_add 32 = .ok (.putfield 15, 3) := by decide +kernel
theorem dX1_add_35 : decode cX1_add 35 = .ok (.aload_n 0, 1) := by decide +kernel
theorem dX1_add_36 : decode cX1_add 36 = .ok (.getfield 15, 3) := by decide +kernel
theorem dX1_add_39 : decode cX1_add 39 = .ok (.iconst 1, 1) := by decide +kernel
theorem dX1_add_40 : decode cX1_add 40 = .ok (.isub, 1) := by decide +kernel
theorem dX1_add_41 : decode cX1_add 41 = .ok (.ireturn, 1) := by decide +kernel
set_option maxRecDepth 20000 in
theorem ggX1_copyFrom_X0_copyFrom : GoodIn wsX1_copyFrom wsX0_copyFrom := goodIn_r _ [8, 9, 10, 11, 12, 13, 14, 15, 16, 17, 18, 19, 20, 21, 22, 23, 24, 28, 29, 30, 31, 32, 33, 34, 35, 36, 37, 38, 39] (by decide +kernel) (by decide +kernel)
set_option maxRecDepth 20000 in
theorem gX1_copyFrom_X0_copyFrom : GoodIn wsX1_copyFrom (wsV RX1 27 RX0 yX0_copyFrom wsX0_copyFrom) := goodIn_app (goodIn_of _ (by decide +kernel)) ggX1_copyFrom_X0_copyFrom
theorem dX1_copyFrom_0 : decode cX1_copyFrom 0 = .ok (.aload_n 0, 1) := by decide +kernel
theorem dX1_copyFrom_1 : decode cX1_copyFrom 1 = .ok (.aload_n 1, 1) := by decide +kernel
theorem dX1_copyFrom_2 : decode cX1_copyFrom 2 = .ok (.getfield 15, 3) := by decide +kernel
theorem dX1_copyFrom_5 : decode cX1_copyFrom 5 = .ok (.putfield 15, 3) := by decide +kernel
theorem dX1_copyFrom_8 : decode cX1_copyFrom 8 = .ok (.aload_n 0, 1) := by decide +kernel
theorem dX1_copyFrom_9 : decode cX1_copyFrom 9 = .ok (.aload_n 1, 1) := by decide +kernel
theorem dX1_copyFrom_10 : decode cX1_copyFrom 10 = .ok (.getfield 19, 3) := by decide +kernel
theorem dX1_copyFrom_13 : decode cX1_copyFrom 13 = .ok (.putfield 19, 3) := by decide +kernel
theorem dX1_copyFrom_16 : decode cX1_copyFrom 16 = .ok (.iconst 0, 1) := by decide +kernel
theorem dX1_copyFrom_17 : decode cX1_copyFrom 17 = .ok (.istore_n 2, 1) := by decide +kernel
theorem dX1_copyFrom_18 : decode cX1_copyFrom 18 = .ok (.iload_n 2, 1) := by decide +kernel
theorem dX1_copyFrom_19 : decode cX1_copyFrom 19 = .ok (.aload_n 0, 1) := by decide +kernel
theorem dX1_copyFrom_20 : decode cX1_copyFrom 20 = .ok (.getfield 15, 3) := by decide +kernel
theorem dX1_copyFrom_23 : decode cX1_copyFrom 23 = .ok (.if_icmp .ge 24, 3) := by decide +kernel
theorem dX1_copyFrom_26 : decode cX1_copyFrom 26 = .ok (.aload_n 0, 1) := by decide +kernel
theorem dX1_copyFrom_27 : decode cX1_copyFrom 27 = .ok (.getfield 11, 3) := by decide +kernel
theorem dX1_copyFrom_30 : decode cX1_copyFrom 30 = .ok (.iload_n 2, 1) := by decide +kernel
theorem dX1_copyFrom_31 : decode cX1_copyFrom 31 = .ok (.aaload, 1) := by decide +kernel
theorem dX1_copyFrom_32 : decode cX1_copyFrom 32 = .ok (.aload_n 1, 1) := by decide +kernel
theorem dX1_copyFrom_33 : decode cX1_copyFrom 33 = .ok (.getfield 11, 3) := by decide +kernel
theorem dX1_copyFrom_36 : decode cX1_copyFrom 36 = .ok (.iload_n 2, 1) := by decide +kernel
theorem dX1_copyFrom_37 : decode cX1_copyFrom 37 = .ok (.aaload, 1) := by decide +kernel
theorem dX1_copyFrom_38 : decode cX1_copyFrom 38 = .ok (.invokevirtual 27, 3) := by decide +kernel
theorem dX1_copyFrom_41 : decode cX1_copyFrom 41 = .ok (.iinc 2 1, 3) := by decide +kernel
theorem dX1_copyFrom_44 : decode cX1_copyFrom 44 = .ok (.goto (-26), 3) := by decide +kernel
theorem dX1_copyFrom_47 : decode cX1_copyFrom 47 = .ok (.return_, 1) := by decide +kernel
set_option maxRecDepth 20000 in
theorem ggX1_letTicksGoBy_X0_letTickGoBy : GoodIn wsX1_letTicksGoBy wsX0_letTickGoBy := goodIn_r _ [8, 9, 10, 11, 12, 13, 14, 7, 15, 16, 17, 18, 19, 20, 21, 22, 23, 24, 25, 26, 27, 28, 29, 30, 31, 32, 33, 34, 35, 36, 37, 38, 39, 40, 41, 42, 43, 44, 45, 46, 47, 48, 49, 50, 51, 52, 53, 54, 55, 56, 57, 58, 59, 60, 61, 62, 63, 64, 65, 66, 67, 68, 69, 70, 74, 75, 76, 77, 78, 79, 80, 81, 82, 83, 84, 85, 86, 87, 88, 89] (by decide +kernel) (by decide +kernel)
set_option maxRecDepth 20000 in
theorem gX1_letTicksGoBy_X0_letTickGoBy : GoodIn wsX1_letTicksGoBy (wsV RX1 31 RX0 yX0_letTickGoBy wsX0_letTickGoBy) := goodIn_app (goodIn_of _ (by decide +kernel)) ggX1_letTicksGoBy_X0_letTickGoBy
theorem dX1_letTicksGoBy_0 : decode cX1_letTicksGoBy 0 = .ok (.iconst 0, 1) := by decide +kernel
theorem dX1_letTicksGoBy_1 : decode cX1_letTicksGoBy 1 = .ok (.istore_n 3, 1) := by decide +kernel
theorem dX1_letTicksGoBy_2 : decode cX1_letTicksGoBy 2 = .ok (.iload_n 3, 1) := by decide +kernel
theorem dX1_letTicksGoBy_3 : decode cX1_letTicksGoBy 3 = .ok (.iload_n 2, 1) := by decide +kernel
theorem dX1_letTicksGoBy_4 : decode cX1_letTicksGoBy 4 = .ok (.if_icmp .ge 52, 3) := by decide +kernel
theorem dX1_letTicksGoBy_7 : decode cX1_letTicksGoBy 7 = .ok (.iconst 0, 1) := by decide +kernel
theorem dX1_letTicksGoBy_8 : decode cX1_letTicksGoBy 8 = .ok (.istore 4, 2) := by decide +kernel
theorem dX1_letTicksGoBy_10 : decode cX1_letTicksGoBy 10 = .ok (.iload 4, 2) := by decide +kernel
theorem dX1_letTicksGoBy_12 : decode cX1_letTicksGoBy 12 = .ok (.aload_n 0, 1) := by decide +kernel
theorem dX1_letTicksGoBy_13 : decode cX1_letTicksGoBy 13 = .ok (.getfield 15, 3) := by decide +kernel
theorem dX1_letTicksGoBy_16 : decode cX1_letTicksGoBy 16 = .ok (.if_icmp .ge 24, 3) := by decide +kernel
theorem dX1_letTicksGoBy_19 : decode cX1_letTicksGoBy 19 = .ok (.aload_n 0, 1) := by decide +kernel
theorem dX1_letTicksGoBy_20 : decode cX1_letTicksGoBy 20 = .ok (.getfield 11, 3) := by decide +kernel
theorem dX1_letTicksGoBy_23 : decode cX1_letTicksGoBy 23 = .ok (.iload 4, 2) := by decide +kernel
theorem dX1_letTicksGoBy_25 : decode cX1_letTicksGoBy 25 = .ok (.aaload, 1) := by decide +kernel
theorem dX1_letTicksGoBy_26 : decode cX1_letTicksGoBy 26 = .ok (.aload_n 1, 1) := by decide +kernel
theorem dX1_letTicksGoBy_27 : decode cX1_letTicksGoBy 27 = .ok (.aload_n 0, 1) := by decide +kernel
theorem dX1_letTicksGoBy_28 : decode cX1_letTicksGoBy 28 = .ok (.getfield 19, 3) := by decide +kernel
theorem dX1_letTicksGoBy_31 : decode cX1_letTicksGoBy 31 = .ok (.invokevirtual 31, 3) := by decide +kernel
theorem dX1_letTicksGoBy_34 : decode cX1_letTicksGoBy 34 = .ok (.iinc 4 1, 3) := by decide +kernel
theorem dX1_letTicksGoBy_37 : decode cX1_letTicksGoBy 37 = .ok (.goto (-27), 3) := by decide +kernel
theorem dX1_letTicksGoBy_40 : decode cX1_letTicksGoBy 40 = .ok (.aload_n 0, 1) := by decide +kernel
theorem dX1_letTicksGoBy_41 : decode cX1_letTicksGoBy 41 = .ok (.dup, 1) := by decide +kernel
theorem dX1_letTicksGoBy_42 : decode cX1_letTicksGoBy 42 = .ok (.getfield 19, 3) := by decide +kernel
theorem dX1_letTicksGoBy_45 : decode cX1_letTicksGoBy 45 = .ok (.iconst 1, 1) := by decide +kernel
theorem dX1_letTicksGoBy_46 : decode cX1_letTicksGoBy 46 = .ok (.iadd, 1) := by decide +kernel
theorem dX1_letTicksGoBy_47 : decode cX1_letTicksGoBy 47 = .ok (.putfield 19, 3) := by decide +kernel
theorem dX1_letTicksGoBy_50 : decode cX1_letTicksGoBy 50 = .ok (.iinc 3 1, 3) := by decide +kernel
theorem dX1_letTicksGoBy_53 : decode cX1_letTicksGoBy 53 = .ok (.goto (-51), 3) := by decide +kernel
theorem dX1_letTicksGoBy_56 : decode cX1_letTicksGoBy 56 = .ok (.return_, 1) := by decide +kernel
set_option maxRecDepth 20000 in
theorem ggX1_boatsIn_X0_isIn : GoodIn wsX1_boatsIn wsX0_isIn := goodIn_r _ [7, 8, 12, 13, 14, 15, 16, 17, 18, 19, 20, 21, 22, 23] (by decide +kernel) (by decide +kernel)
set_option maxRecDepth 20000 in
theorem gX1_boatsIn_X0_isIn : GoodIn wsX1_boatsIn (wsV RX1 35 RX0 yX0_isIn wsX0_isIn) := goodIn_app (goodIn_of _ (by decide +kernel)) ggX1_boatsIn_X0_isIn
theorem dX1_boatsIn_0 : decode cX1_boatsIn 0 = .ok (.iconst 0, 1) := by decide +kernel
theorem dX1_boatsIn_1 : decode cX1_boatsIn 1 = .ok (.istore_n 1, 1) := by decide +kernel
theorem dX1_boatsIn_2 : decode cX1_boatsIn 2 = .ok (.iconst 0, 1) := by decide +kernel
theorem dX1_boatsIn_3 : decode cX1_boatsIn 3 = .ok (.istore_n 2, 1) := by decide +kernel
theorem dX1_boatsIn_4 : decode cX1_boatsIn 4 = .ok (.iload_n 2, 1) := by decide +kernel
theorem dX1_boatsIn_5 : decode cX1_boatsIn 5 = .ok (.aload_n 0, 1) := by decide +kernel
theorem dX1_boatsIn_6 : decode cX1_boatsIn 6 = .ok (.getfield 15, 3) := by decide +kernel
theorem dX1_boatsIn_9 : decode cX1_boatsIn 9 = .ok (.if_icmp .ge 24, 3) := by decide +kernel
theorem dX1_boatsIn_12 : decode cX1_boatsIn 12 = .ok (.aload_n 0, 1) := by decide +kernel
theorem dX1_boatsIn_13 : decode cX1_boatsIn 13 = .ok (.getfield 11, 3) := by decide +kernel
theorem dX1_boatsIn_16 : decode cX1_boatsIn 16 = .ok (.iload_n 2, 1) := by decide +kernel
theorem dX1_boatsIn_17 : decode cX1_boatsIn 17 = .ok (.aaload, 1) := by decide +kernel
theorem dX1_boatsIn_18 : decode cX1_boatsIn 18 = .ok (.invokevirtual 35, 3) := by decide +kernel
theorem dX1_boatsIn_21 : decode cX1_boatsIn 21 = .ok (.ifCond .eq 6, 3) := by decide +kernel
theorem dX1_boatsIn_24 : decode cX1_boatsIn 24 = .ok (.iinc 1 1, 3) := by decide +kernel
theorem dX1_boatsIn_27 : decode cX1_boatsIn 27 = .ok (.iinc 2 1, 3) := by decide +kernel
theorem dX1_boatsIn_30 : decode cX1_boatsIn 30 = .ok (.goto (-26), 3) := by decide +kernel
theorem dX1_boatsIn_33 : decode cX1_boatsIn 33 = .ok (.iload_n 1, 1) := by decide +kernel
theorem dX1_boatsIn_34 : decode cX1_boatsIn 34 = .ok (.ireturn, 1) := by decide +kernel
theorem dX1_foulsAdded_0 : decode cX1_foulsAdded 0 = .ok (.iconst 0, 1) := by decide +kernel
theorem dX1_foulsAdded_1 : decode cX1_foulsAdded 1 = .ok (.istore_n 1, 1) := by decide +kernel
theorem dX1_foulsAdded_2 : decode cX1_foulsAdded 2 = .ok (.iconst 0, 1) := by decide +kernel
theorem dX1_foulsAdded_3 : decode cX1_foulsAdded 3 = .ok (.istore_n 2, 1) := by decide +kernel
theorem dX1_foulsAdded_4 : decode cX1_foulsAdded 4 = .ok (.iload_n 2, 1) := by decide +kernel
theorem dX1_foulsAdded_5 : decode cX1_foulsAdded 5 = .ok (.aload_n 0, 1) := by decide +kernel
theorem dX1_foulsAdded_6 : decode cX1_foulsAdded 6 = .ok (.getfield 15, 3) := by decide +kernel
theorem dX1_foulsAdded_9 : decode cX1_foulsAdded 9 = .ok (.if_icmp .ge 21, 3) := by decide +kernel
theorem dX1_foulsAdded_12 : decode cX1_foulsAdded 12 = .ok (.iload_n 1, 1) := by decide +kernel
theorem dX1_foulsAdded_13 : decode cX1_foulsAdded 13 = .ok (.aload_n 0, 1) := by decide +kernel
theorem dX1_foulsAdded_14 : decode cX1_foulsAdded 14 = .ok (.getfield 11, 3) := by decide +kernel
theorem dX1_foulsAdded_17 : decode cX1_foulsAdded 17 = .ok (.iload_n 2, 1) := by decide +kernel
theorem dX1_foulsAdded_18 : decode cX1_foulsAdded 18 = .ok (.aaload, 1) := by decide +kernel
theorem dX1_foulsAdded_19 : decode cX1_foulsAdded 19 = .ok (.getfield 39, 3) := by decide +kernel
theorem dX1_foulsAdded_22 : decode cX1_foulsAdded 22 = .ok (.iadd, 1) := by decide +kernel
theorem dX1_foulsAdded_23 : decode cX1_foulsAdded 23 = .ok (.istore_n 1, 1) := by decide +kernel
theorem dX1_foulsAdded_24 : decode cX1_foulsAdded 24 = .ok (.iinc 2 1, 3) := by decide +kernel
theorem dX1_foulsAdded_27 : decode cX1_foulsAdded 27 = .ok (.goto (-23), 3) := by decide +kernel
theorem dX1_foulsAdded_30 : decode cX1_foulsAdded 30 = .ok (.iload_n 1, 1) := by decide +kernel
theorem dX1_foulsAdded_31 : decode cX1_foulsAdded 31 = .ok (.ireturn, 1) := by decide +kernel
theorem dX1_placesAdded_0 : decode cX1_placesAdded 0 = .ok (.iconst 0, 1) := by decide +kernel
theorem dX1_placesAdded_1 : decode cX1_placesAdded 1 = .ok (.istore_n 1, 1) := by decide +kernel
theorem dX1_placesAdded_2 : decode cX1_placesAdded 2 = .ok (.iconst 0, 1) := by decide +kernel
theorem dX1_placesAdded_3 : decode cX1_placesAdded 3 = .ok (.istore_n 2, 1) := by decide +kernel
theorem dX1_placesAdded_4 : decode cX1_placesAdded 4 = .ok (.iload_n 2, 1) := by decide +kernel
theorem dX1_placesAdded_5 : decode cX1_placesAdded 5 = .ok (.aload_n 0, 1) := by decide +kernel
theorem dX1_placesAdded_6 : decode cX1_placesAdded 6 = .ok (.getfield 15, 3) := by decide +kernel
theorem dX1_placesAdded_9 : decode cX1_placesAdded 9 = .ok (.if_icmp .ge 21, 3) := by decide +kernel
theorem dX1_placesAdded_12 : decode cX1_placesAdded 12 = .ok (.iload_n 1, 1) := by decide +kernel
theorem dX1_placesAdded_13 : decode cX1_placesAdded 13 = .ok (.aload_n 0, 1) := by decide +kernel
theorem dX1_placesAdded_14 : decode cX1_placesAdded 14 = .ok (.getfield 11, 3) := by decide +kernel
theorem dX1_placesAdded_17 : decode cX1_placesAdded 17 = .ok (.iload_n 2, 1) := by decide +kernel
theorem dX1_placesAdded_18 : decode cX1_placesAdded 18 = .ok (.aaload, 1) := by decide +kernel
theorem dX1_placesAdded_19 : decode cX1_placesAdded 19 = .ok (.getfield 42, 3) := by decide +kernel
theorem dX1_placesAdded_22 : decode cX1_placesAdded 22 = .ok (.iadd, 1) := by decide +kernel
theorem dX1_placesAdded_23 : decode cX1_placesAdded 23 = .ok (.istore_n 1, 1) := by decide +kernel
theorem dX1_placesAdded_24 : decode cX1_placesAdded 24 = .ok (.iinc 2 1, 3) := by decide +kernel
theorem dX1_placesAdded_27 : decode cX1_placesAdded 27 = .ok (.goto (-23), 3) := by decide +kernel
theorem dX1_placesAdded_30 : decode cX1_placesAdded 30 = .ok (.iload_n 1, 1) := by decide +kernel
theorem dX1_placesAdded_31 : decode cX1_placesAdded 31 = .ok (.ireturn, 1) := by decide +kernel
set_option maxRecDepth 20000 in
theorem ggX1_leader_X0_isIn : GoodIn wsX1_leader wsX0_isIn := goodIn_r _ [8, 9, 13, 14, 15, 16, 17, 18, 19, 20, 21, 22, 23, 24] (by decide +kernel) (by decide +kernel)
set_option maxRecDepth 20000 in
theorem gX1_leader_X0_isIn : GoodIn wsX1_leader (wsV RX1 35 RX0 yX0_isIn wsX0_isIn) := goodIn_app (goodIn_of _ (by decide +kernel)) ggX1_leader_X0_isIn
theorem dX1_leader_0 : decode cX1_leader 0 = .ok (.iconst (-1), 1) := by decide +kernel
theorem dX1_leader_1 : decode cX1_leader 1 = .ok (.istore_n 1, 1) := by decide +kernel
theorem dX1_leader_2 : decode cX1_leader 2 = .ok (.iconst (-1), 1) := by decide +kernel
theorem dX1_leader_3 : decode cX1_leader 3 = .ok (.istore_n 2, 1) := by decide +kernel
theorem dX1_leader_4 : decode cX1_leader 4 = .ok (.iconst 0, 1) := by decide +kernel
theorem dX1_leader_5 : decode cX1_leader 5 = .ok (.istore_n 3, 1) := by decide +kernel
theorem dX1_leader_6 : decode cX1_leader 6 = .ok (.iload_n 3, 1) := by decide +kernel
theorem dX1_leader_7 : decode cX1_leader 7 = .ok (.aload_n 0, 1) := by decide +kernel
theorem dX1_leader_8 : decode cX1_leader 8 = .ok (.getfield 15, 3) := by decide +kernel
theorem dX1_leader_11 : decode cX1_leader 11 = .ok (.if_icmp .ge 46, 3) := by decide +kernel
theorem dX1_leader_14 : decode cX1_leader 14 = .ok (.aload_n 0, 1) := by decide +kernel
theorem dX1_leader_15 : decode cX1_leader 15 = .ok (.getfield 11, 3) := by decide +kernel
theorem dX1_leader_18 : decode cX1_leader 18 = .ok (.iload_n 3, 1) := by decide +kernel
theorem dX1_leader_19 : decode cX1_leader 19 = .ok (.aaload, 1) := by decide +kernel
theorem dX1_leader_20 : decode cX1_leader 20 = .ok (.invokevirtual 35, 3) := by decide +kernel
theorem dX1_leader_23 : decode cX1_leader 23 = .ok (.ifCond .ne 28, 3) := by decide +kernel
theorem dX1_leader_26 : decode cX1_leader 26 = .ok (.aload_n 0, 1) := by decide +kernel
theorem dX1_leader_27 : decode cX1_leader 27 = .ok (.getfield 11, 3) := by decide +kernel
theorem dX1_leader_30 : decode cX1_leader 30 = .ok (.iload_n 3, 1) := by decide +kernel
theorem dX1_leader_31 : decode cX1_leader 31 = .ok (.aaload, 1) := by decide +kernel
theorem dX1_leader_32 : decode cX1_leader 32 = .ok (.getfield 42, 3) := by decide +kernel
theorem dX1_leader_35 : decode cX1_leader 35 = .ok (.iload_n 2, 1) := by decide +kernel
theorem dX1_leader_36 : decode cX1_leader 36 = .ok (.if_icmp .le 15, 3) := by decide +kernel
theorem dX1_leader_39 : decode cX1_leader 39 = .ok (.iload_n 3, 1) := by decide +kernel
theorem dX1_leader_40 : decode cX1_leader 40 = .ok (.istore_n 1, 1) := by decide +kernel
theorem dX1_leader_41 : decode cX1_leader 41 = .ok (.aload_n 0, 1) := by decide +kernel
theorem dX1_leader_42 : decode cX1_leader 42 = .ok (.getfield 11, 3) := by decide +kernel
theorem dX1_leader_45 : decode cX1_leader 45 = .ok (.iload_n 3, 1) := by decide +kernel
theorem dX1_leader_46 : decode cX1_leader 46 = .ok (.aaload, 1) := by decide +kernel
theorem dX1_leader_47 : decode cX1_leader 47 = .ok (.getfield 42, 3) := by decide +kernel
theorem dX1_leader_50 : decode cX1_leader 50 = .ok (.istore_n 2, 1) := by decide +kernel
theorem dX1_leader_51 : decode cX1_leader 51 = .ok (.iinc 3 1, 3) := by decide +kernel
theorem dX1_leader_54 : decode cX1_leader 54 = .ok (.goto (-48), 3) := by decide +kernel
theorem dX1_leader_57 : decode cX1_leader 57 = .ok (.iload_n 1, 1) := by decide +kernel
theorem dX1_leader_58 : decode cX1_leader 58 = .ok (.ireturn, 1) := by decide +kernel
set_option maxRecDepth 20000 in
theorem ggX1_winner_X0_isIn : GoodIn wsX1_winner wsX0_isIn := goodIn_r _ [7, 8, 18, 19, 20, 21, 22, 23, 24, 25, 26, 27, 28, 29] (by decide +kernel) (by decide +kernel)
set_option maxRecDepth 20000 in
theorem gX1_winner_X0_isIn : GoodIn wsX1_winner (wsV RX1 35 RX0 yX0_isIn wsX0_isIn) := goodIn_app (goodIn_of _ (by decide +kernel)) ggX1_winner_X0_isIn
set_option maxRecDepth 20000 in
theorem ggX1_winner_X0_time : GoodIn wsX1_winner wsX0_time := goodIn_r _ [12, 8, 13, 14, 18, 19, 20, 21, 22, 23, 24, 25, 26, 27, 28, 29] (by decide +kernel) (by decide +kernel)
set_option maxRecDepth 20000 in
theorem gX1_winner_X0_time : GoodIn wsX1_winner (wsV RX1 45 RX0 yX0_time wsX0_time) := goodIn_app (goodIn_of _ (by decide +kernel)) ggX1_winner_X0_time
theorem dX1_winner_0 : decode cX1_winner 0 = .ok (.iconst (-1), 1) := by decide +kernel
theorem dX1_winner_1 : decode cX1_winner 1 = .ok (.istore_n 1, 1) := by decide +kernel
theorem dX1_winner_2 : decode cX1_winner 2 = .ok (.iconst 0, 1) := by decide +kernel
theorem dX1_winner_3 : decode cX1_winner 3 = .ok (.istore_n 2, 1) := by decide +kernel
theorem dX1_winner_4 : decode cX1_winner 4 = .ok (.iconst 0, 1) := by decide +kernel
theorem dX1_winner_5 : decode cX1_winner 5 = .ok (.istore_n 3, 1) := by decide +kernel
theorem dX1_winner_6 : decode cX1_winner 6 = .ok (.iload_n 3, 1) := by decide +kernel
theorem dX1_winner_7 : decode cX1_winner 7 = .ok (.aload_n 0, 1) := by decide +kernel
theorem dX1_winner_8 : decode cX1_winner 8 = .ok (.getfield 15, 3) := by decide +kernel
theorem dX1_winner_11 : decode cX1_winner 11 = .ok (.if_icmp .ge 51, 3) := by decide +kernel
theorem dX1_winner_14 : decode cX1_winner 14 = .ok (.aload_n 0, 1) := by decide +kernel
theorem dX1_winner_15 : decode cX1_winner 15 = .ok (.getfield 11, 3) := by decide +kernel
theorem dX1_winner_18 : decode cX1_winner 18 = .ok (.iload_n 3, 1) := by decide +kernel
theorem dX1_winner_19 : decode cX1_winner 19 = .ok (.aaload, 1) := by decide +kernel
theorem dX1_winner_20 : decode cX1_winner 20 = .ok (.invokevirtual 35, 3) := by decide +kernel
theorem dX1_winner_23 : decode cX1_winner 23 = .ok (.ifCond .eq 33, 3) := by decide +kernel
theorem dX1_winner_26 : decode cX1_winner 26 = .ok (.iload_n 1, 1) := by decide +kernel
theorem dX1_winner_27 : decode cX1_winner 27 = .ok (.iconst (-1), 1) := by decide +kernel
theorem dX1_winner_28 : decode cX1_winner 28 = .ok (.if_icmp .eq 16, 3) := by decide +kernel
theorem dX1_winner_31 : decode cX1_winner 31 = .ok (.aload_n 0, 1) := by decide +kernel
theorem dX1_winner_32 : decode cX1_winner 32 = .ok (.getfield 11, 3) := by decide +kernel
theorem dX1_winner_35 : decode cX1_winner 35 = .ok (.iload_n 3, 1) := by decide +kernel
theorem dX1_winner_36 : decode cX1_winner 36 = .ok (.aaload, 1) := by decide +kernel
theorem dX1_winner_37 : decode cX1_winner 37 = .ok (.invokevirtual 45, 3) := by decide +kernel
theorem dX1_winner_40 : decode cX1_winner 40 = .ok (.iload_n 2, 1) := by decide +kernel
theorem dX1_winner_41 : decode cX1_winner 41 = .ok (.if_icmp .ge 15, 3) := by decide +kernel
theorem dX1_winner_44 : decode cX1_winner 44 = .ok (.iload_n 3, 1) := by decide +kernel
theorem dX1_winner_45 : decode cX1_winner 45 = .ok (.istore_n 1, 1) := by decide +kernel
theorem dX1_winner_46 : decode cX1_winner 46 = .ok (.aload_n 0, 1) := by decide +kernel
theorem dX1_winner_47 : decode cX1_winner 47 = .ok (.getfield 11, 3) := by decide +kernel
theorem dX1_winner_50 : decode cX1_winner 50 = .ok (.iload_n 3, 1) := by decide +kernel
theorem dX1_winner_51 : decode cX1_winner 51 = .ok (.aaload, 1) := by decide +kernel
theorem dX1_winner_52 : decode cX1_winner 52 = .ok (.invokevirtual 45, 3) := by decide +kernel
theorem dX1_winner_55 : decode cX1_winner 55 = .ok (.istore_n 2, 1) := by decide +kernel
theorem dX1_winner_56 : decode cX1_winner 56 = .ok (.iinc 3 1, 3) := by decide +kernel
theorem dX1_winner_59 : decode cX1_winner 59 = .ok (.goto (-53), 3) := by decide +kernel
theorem dX1_winner_62 : decode cX1_winner 62 = .ok (.iload_n 1, 1) := by decide +kernel
theorem dX1_winner_63 : decode cX1_winner 63 = .ok (.ireturn, 1) := by decide +kernel
set_option maxRecDepth 20000 in
theorem ggX1_rankOf_X0_isAheadOf : GoodIn wsX1_rankOf wsX0_isAheadOf := goodIn_r _ [7, 8, 9, 10, 11, 12, 6, 13, 14, 15, 19, 20, 21, 22, 23, 24, 25, 26, 27, 28, 29, 30] (by decide +kernel) (by decide +kernel)
set_option maxRecDepth 20000 in
theorem gX1_rankOf_X0_isAheadOf : GoodIn wsX1_rankOf (wsV RX1 49 RX0 yX0_isAheadOf wsX0_isAheadOf) := goodIn_app (goodIn_of _ (by decide +kernel)) ggX1_rankOf_X0_isAheadOf
theorem dX1_rankOf_0 : decode cX1_rankOf 0 = .ok (.iconst 0, 1) := by decide +kernel
theorem dX1_rankOf_1 : decode cX1_rankOf 1 = .ok (.istore_n 2, 1) := by decide +kernel
theorem dX1_rankOf_2 : decode cX1_rankOf 2 = .ok (.iconst 0, 1) := by decide +kernel
theorem dX1_rankOf_3 : decode cX1_rankOf 3 = .ok (.istore_n 3, 1) := by decide +kernel
theorem dX1_rankOf_4 : decode cX1_rankOf 4 = .ok (.iload_n 3, 1) := by decide +kernel
theorem dX1_rankOf_5 : decode cX1_rankOf 5 = .ok (.aload_n 0, 1) := by decide +kernel
theorem dX1_rankOf_6 : decode cX1_rankOf 6 = .ok (.getfield 15, 3) := by decide +kernel
theorem dX1_rankOf_9 : decode cX1_rankOf 9 = .ok (.if_icmp .ge 25, 3) := by decide +kernel
theorem dX1_rankOf_12 : decode cX1_rankOf 12 = .ok (.aload_n 0, 1) := by decide +kernel
theorem dX1_rankOf_13 : decode cX1_rankOf 13 = .ok (.getfield 11, 3) := by decide +kernel
theorem dX1_rankOf_16 : decode cX1_rankOf 16 = .ok (.iload_n 3, 1) := by decide +kernel
theorem dX1_rankOf_17 : decode cX1_rankOf 17 = .ok (.aaload, 1) := by decide +kernel
theorem dX1_rankOf_18 : decode cX1_rankOf 18 = .ok (.aload_n 1, 1) := by decide +kernel
theorem dX1_rankOf_19 : decode cX1_rankOf 19 = .ok (.invokevirtual 49, 3) := by decide +kernel
theorem dX1_rankOf_22 : decode cX1_rankOf 22 = .ok (.ifCond .eq 6, 3) := by decide +kernel
theorem dX1_rankOf_25 : decode cX1_rankOf 25 = .ok (.iinc 2 1, 3) := by decide +kernel
theorem dX1_rankOf_28 : decode cX1_rankOf 28 = .ok (.iinc 3 1, 3) := by decide +kernel
theorem dX1_rankOf_31 : decode cX1_rankOf 31 = .ok (.goto (-27), 3) := by decide +kernel
theorem dX1_rankOf_34 : decode cX1_rankOf 34 = .ok (.iconst 1, 1) := by decide +kernel
theorem dX1_rankOf_35 : decode cX1_rankOf 35 = .ok (.iload_n 2, 1) := by decide +kernel
theorem dX1_rankOf_36 : decode cX1_rankOf 36 = .ok (.iadd, 1) := by decide +kernel
theorem dX1_rankOf_37 : decode cX1_rankOf 37 = .ok (.ireturn, 1) := by decide +kernel
theorem dX2_init_0 : decode cX2_init 0 = .ok (.aload_n 0, 1) := by decide +kernel
theorem dX2_init_1 : decode cX2_init 1 = .ok (.invokespecial 1, 3) := by decide +kernel
theorem dX2_init_4 : decode cX2_init 4 = .ok (.aload_n 0, 1) := by decide +kernel
theorem dX2_init_5 : decode cX2_init 5 = .ok (.iconst 5, 1) := by decide +kernel
theorem dX2_init_6 : decode cX2_init 6 = .ok (.newarray .int, 2) := by decide +kernel
theorem dX2_init_8 : decode cX2_init 8 = .ok (.dup, 1) := by decide +kernel
theorem dX2_init_9 : decode cX2_init 9 = .ok (.iconst 0, 1) := by decide +kernel
theorem dX2_init_10 : decode cX2_init 10 = .ok (.iconst 1, 1) := by decide +kernel
theorem dX2_init_11 : decode cX2_init 11 = .ok (.iastore, 1) := by decide +kernel
theorem dX2_init_12 : decode cX2_init 12 = .ok (.dup, 1) := by decide +kernel
theorem dX2_init_13 : decode cX2_init 13 = .ok (.iconst 1, 1) := by decide +kernel
theorem dX2_init_14 : decode cX2_init 14 = .ok (.iconst 2, 1) := by decide +kernel
theorem dX2_init_15 : decode cX2_init 15 = .ok (.iastore, 1) := by decide +kernel
theorem dX2_init_16 : decode cX2_init 16 = .ok (.dup, 1) := by decide +kernel
theorem dX2_init_17 : decode cX2_init 17 = .ok (.iconst 2, 1) := by decide +kernel
theorem dX2_init_18 : decode cX2_init 18 = .ok (.iconst 3, 1) := by decide +kernel
theorem dX2_init_19 : decode cX2_init 19 = .ok (.iastore, 1) := by decide +kernel
theorem dX2_init_20 : decode cX2_init 20 = .ok (.dup, 1) := by decide +kernel
theorem dX2_init_21 : decode cX2_init 21 = .ok (.iconst 3, 1) := by decide +kernel
theorem dX2_init_22 : decode cX2_init 22 = .ok (.iconst 2, 1) := by decide +kernel
theorem dX2_init_23 : decode cX2_init 23 = .ok (.iastore, 1) := by decide +kernel
theorem dX2_init_24 : decode cX2_init 24 = .ok (.dup, 1) := by decide +kernel
theorem dX2_init_25 : decode cX2_init 25 = .ok (.iconst 4, 1) := by decide +kernel
theorem dX2_init_26 : decode cX2_init 26 = .ok (.iconst 1, 1) := by decide +kernel
theorem dX2_init_27 : decode cX2_init 27 = .ok (.iastore, 1) := by decide +kernel
theorem dX2_init_28 : decode cX2_init 28 = .ok (.putfield 7, 3) := by decide +kernel
theorem dX2_init_31 : decode cX2_init 31 = .ok (.aload_n 0, 1) := by decide +kernel
theorem dX2_init_32 : decode cX2_init 32 = .ok (.bipush 6, 2) := by decide +kernel
theorem dX2_init_34 : decode cX2_init 34 = .ok (.newarray .int, 2) := by decide +kernel
theorem dX2_init_36 : decode cX2_init 36 = .ok (.putfield 13, 3) := by decide +kernel
theorem dX2_init_39 : decode cX2_init 39 = .ok (.aload_n 0, 1) := by decide +kernel
theorem dX2_init_40 : decode cX2_init 40 = .ok (.bipush 6, 2) := by decide +kernel
theorem dX2_init_42 : decode cX2_init 42 = .ok (.newarray .int, 2) := by decide +kernel
theorem dX2_init_44 : decode cX2_init 44 = .ok (.putfield 16, 3) := by decide +kernel
theorem dX2_init_47 : decode cX2_init 47 = .ok (.aload_n 0, 1) := by decide +kernel
theorem dX2_init_48 : decode cX2_init 48 = .ok (.iconst 0, 1) := by decide +kernel
theorem dX2_init_49 : decode cX2_init 49 = .ok (.putfield 19, 3) := by decide +kernel
theorem dX2_init_52 : decode cX2_init 52 = .ok (.return_, 1) := by decide +kernel
theorem dX2_isLane_0 : decode cX2_isLane 0 = .ok (.iload_n 0, 1) := by decide +kernel
theorem dX2_isLane_1 : decode cX2_isLane 1 = .ok (.ifCond .lt 12, 3) := by decide +kernel
theorem dX2_isLane_4 : decode cX2_isLane 4 = .ok (.iload_n 0, 1) := by decide +kernel
theorem dX2_isLane_5 : decode cX2_isLane 5 = .ok (.iconst 5, 1) := by decide +kernel
theorem dX2_isLane_6 : decode cX2_isLane 6 = .ok (.if_icmp .ge 7, 3) := by decide +kernel
theorem dX2_isLane_9 : decode cX2_isLane 9 = .ok (.iconst 1, 1) := by decide +kernel
theorem dX2_isLane_10 : decode cX2_isLane 10 = .ok (.goto 4, 3) := by decide +kernel
theorem dX2_isLane_13 : decode cX2_isLane 13 = .ok (.iconst 0, 1) := by decide +kernel
theorem dX2_isLane_14 : decode cX2_isLane 14 = .ok (.ireturn, 1) := by decide +kernel
theorem dX2_hasWeirAt_0 : decode cX2_hasWeirAt 0 = .ok (.iconst 0, 1) := by decide +kernel
theorem dX2_hasWeirAt_1 : decode cX2_hasWeirAt 1 = .ok (.istore_n 2, 1) := by decide +kernel
theorem dX2_hasWeirAt_2 : decode cX2_hasWeirAt 2 = .ok (.iload_n 2, 1) := by decide +kernel
theorem dX2_hasWeirAt_3 : decode cX2_hasWeirAt 3 = .ok (.aload_n 0, 1) := by decide +kernel
theorem dX2_hasWeirAt_4 : decode cX2_hasWeirAt 4 = .ok (.getfield 19, 3) := by decide +kernel
theorem dX2_hasWeirAt_7 : decode cX2_hasWeirAt 7 = .ok (.if_icmp .ge 21, 3) := by decide +kernel
theorem dX2_hasWeirAt_10 : decode cX2_hasWeirAt 10 = .ok (.aload_n 0, 1) := by decide +kernel
theorem dX2_hasWeirAt_11 : decode cX2_hasWeirAt 11 = .ok (.getfield 13, 3) := by decide +kernel
theorem dX2_hasWeirAt_14 : decode cX2_hasWeirAt 14 = .ok (.iload_n 2, 1) := by decide +kernel
theorem dX2_hasWeirAt_15 : decode cX2_hasWeirAt 15 = .ok (.iaload, 1) := by decide +kernel
theorem dX2_hasWeirAt_16 : decode cX2_hasWeirAt 16 = .ok (.iload_n 1, 1) := by decide +kernel
theorem dX2_hasWeirAt_17 : decode cX2_hasWeirAt 17 = .ok (.if_icmp .ne 5, 3) := by decide +kernel
theorem dX2_hasWeirAt_20 : decode cX2_hasWeirAt 20 = .ok (.iconst 1, 1) := by decide +kernel
theorem dX2_hasWeirAt_21 : decode cX2_hasWeirAt 21 = .ok (.ireturn, 1) := by decide +kernel
theorem dX2_hasWeirAt_22 : decode cX2_hasWeirAt 22 = .ok (.iinc 2 1, 3) := by decide +kernel
theorem dX2_hasWeirAt_25 : decode cX2_hasWeirAt 25 = .ok (.goto (-23), 3) := by decide +kernel
theorem dX2_hasWeirAt_28 : decode cX2_hasWeirAt 28 = .ok (.iconst 0, 1) := by decide +kernel
theorem dX2_hasWeirAt_29 : decode cX2_hasWeirAt 29 = .ok (.ireturn, 1) := by decide +kernel
theorem dX2_addWeir_0 : decode cX2_addWeir 0 = .ok (.aload_n 0, 1) := by decide +kernel
theorem dX2_addWeir_1 : decode cX2_addWeir 1 = .ok (.getfield 19, 3) := by decide +kernel
theorem dX2_addWeir_4 : decode cX2_addWeir 4 = .ok (.bipush 6, 2) := by decide +kernel
theorem dX2_addWeir_6 : decode cX2_addWeir 6 = .ok (.if_icmp .ge 33, 3) := by decide +kernel
theorem dX2_addWeir_9 : decode cX2_addWeir 9 = .ok (.aload_n 0, 1) := by decide +kernel
theorem dX2_addWeir_10 : decode cX2_addWeir 10 = .ok (.getfield 13, 3) := by decide +kernel
theorem dX2_addWeir_13 : decode cX2_addWeir 13 = .ok (.aload_n 0, 1) := by decide +kernel
theorem dX2_addWeir_14 : decode cX2_addWeir 14 = .ok (.getfield 19, 3) := by decide +kernel
theorem dX2_addWeir_17 : decode cX2_addWeir 17 = .ok (.iload_n 1, 1) := by decide +kernel
theorem dX2_addWeir_18 : decode cX2_addWeir 18 = .ok (.iastore, 1) := by decide +kernel
theorem dX2_addWeir_19 : decode cX2_addWeir 19 = .ok (.aload_n 0, 1) := by decide +kernel
theorem dX2_addWeir_20 : decode cX2_addWeir 20 = .ok (.getfield 16, 3) := by decide +kernel
theorem dX2_addWeir_23 : decode cX2_addWeir 23 = .ok (.aload_n 0, 1) := by decide +kernel
theorem dX2_addWeir_24 : decode cX2_addWeir 24 = .ok (.getfield 19, 3) := by decide +kernel
theorem dX2_addWeir_27 : decode cX2_addWeir 27 = .ok (.iload_n 2, 1) := by decide +kernel
theorem dX2_addWeir_28 : decode cX2_addWeir 28 = .ok (.iastore, 1) := by decide +kernel
theorem dX2_addWeir_29 : decode cX2_addWeir 29 = .ok (.aload_n 0, 1) := by decide +kernel
theorem dX2_addWeir_30 : decode cX2_addWeir 30 = .ok (.dup, 1) := by decide +kernel
theorem dX2_addWeir_31 : decode cX2_addWeir 31 = .ok (.getfield 19, 3) := by decide +kernel
theorem dX2_addWeir_34 : decode cX2_addWeir 34 = .ok (.iconst 1, 1) := by decide +kernel
theorem dX2_addWeir_35 : decode cX2_addWeir 35 = .ok (.iadd, 1) := by decide +kernel
theorem dX2_addWeir_36 : decode cX2_addWeir 36 = .ok (.putfield 19, 3) := by decide +kernel
theorem dX2_addWeir_39 : decode cX2_addWeir 39 = .ok (.return_, 1) := by decide +kernel
theorem dX2_firstStop_0 : decode cX2_firstStop 0 = .ok (.iconst (-1), 1) := by decide +kernel
theorem dX2_firstStop_1 : decode cX2_firstStop 1 = .ok (.istore 4, 2) := by decide +kernel
theorem dX2_firstStop_3 : decode cX2_firstStop 3 = .ok (.iconst 0, 1) := by decide +kernel
theorem dX2_firstStop_4 : decode cX2_firstStop 4 = .ok (.istore 5, 2) := by decide +kernel
theorem dX2_firstStop_6 : decode cX2_firstStop 6 = .ok (.iload 5, 2) := by decide +kernel
theorem dX2_firstStop_8 : decode cX2_firstStop 8 = .ok (.aload_n 0, 1) := by decide +kernel
theorem dX2_firstStop_9 : decode cX2_firstStop 9 = .ok (.getfield 19, 3) := by decide +kernel
theorem dX2_firstStop_12 : decode cX2_firstStop 12 = .ok (.if_icmp .ge 81, 3) := by decide +kernel
theorem dX2_firstStop_15 : decode cX2_firstStop 15 = .ok (.aload_n 0, 1) := by decide +kernel
theorem dX2_firstStop_16 : decode cX2_firstStop 16 = .ok (.getfield 13, 3) := by decide +kernel
theorem dX2_firstStop_19 : decode cX2_firstStop 19 = .ok (.iload 5, 2) := by decide +kernel
theorem dX2_firstStop_21 : decode cX2_firstStop 21 = .ok (.iaload, 1) := by decide +kernel
theorem dX2_firstStop_22 : decode cX2_firstStop 22 = .ok (.iload_n 1, 1) := by decide +kernel
theorem dX2_firstStop_23 : decode cX2_firstStop 23 = .ok (.if_icmp .le 18, 3) := by decide +kernel
theorem dX2_firstStop_26 : decode cX2_firstStop 26 = .ok (.aload_n 0, 1) := by decide +kernel
theorem dX2_firstStop_27 : decode cX2_firstStop 27 = .ok (.getfield 13, 3) := by decide +kernel
theorem dX2_firstStop_30 : decode cX2_firstStop 30 = .ok (.iload 5, 2) := by decide +kernel
theorem dX2_firstStop_32 : decode cX2_firstStop 32 = .ok (.iaload, 1) := by decide +kernel
theorem dX2_firstStop_33 : decode cX2_firstStop 33 = .ok (.iload_n 2, 1) := by decide +kernel
theorem dX2_firstStop_34 : decode cX2_firstStop 34 = .ok (.if_icmp .gt 7, 3) := by decide +kernel
theorem dX2_firstStop_37 : decode cX2_firstStop 37 = .ok (.iconst 1, 1) := by decide +kernel
theorem dX2_firstStop_38 : decode cX2_firstStop 38 = .ok (.goto 4, 3) := by decide +kernel
theorem dX2_firstStop_41 : decode cX2_firstStop 41 = .ok (.iconst 0, 1) := by decide +kernel
theorem dX2_firstStop_42 : decode cX2_firstStop 42 = .ok (.istore 6, 2) := by decide +kernel
theorem dX2_firstStop_44 : decode cX2_firstStop 44 = .ok (.iload 6, 2) := by decide +kernel
theorem dX2_firstStop_46 : decode cX2_firstStop 46 = .ok (.ifCond .eq 41, 3) := by decide +kernel
theorem dX2_firstStop_49 : decode cX2_firstStop 49 = .ok (.aload_n 0, 1) := by decide +kernel
theorem dX2_firstStop_50 : decode cX2_firstStop 50 = .ok (.getfield 16, 3) := by decide +kernel
theorem dX2_firstStop_53 : decode cX2_firstStop 53 = .ok (.iload 5, 2) := by decide +kernel
theorem dX2_firstStop_55 : decode cX2_firstStop 55 = .ok (.iaload, 1) := by decide +kernel
theorem dX2_firstStop_56 : decode cX2_firstStop 56 = .ok (.iload_n 3, 1) := by decide +kernel
theorem dX2_firstStop_57 : decode cX2_firstStop 57 = .ok (.if_icmp .eq 30, 3) := by decide +kernel
theorem dX2_firstStop_60 : decode cX2_firstStop 60 = .ok (.iload 4, 2) := by decide +kernel
theorem dX2_firstStop_62 : decode cX2_firstStop 62 = .ok (.iconst (-1), 1) := by decide +kernel
theorem dX2_firstStop_63 : decode cX2_firstStop 63 = .ok (.if_icmp .eq 15, 3) := by decide +kernel
theorem dX2_firstStop_66 : decode cX2_firstStop 66 = .ok (.aload_n 0, 1) := by decide +kernel
theorem dX2_firstStop_67 : decode cX2_firstStop 67 = .ok (.getfield 13, 3) := by decide +kernel
theorem dX2_firstStop_70 : decode cX2_firstStop 70 = .ok (.iload 5, 2) := by decide +kernel
theorem dX2_firstStop_72 : decode cX2_firstStop 72 = .ok (.iaload, 1) := by decide +kernel
theorem dX2_firstStop_73 : decode cX2_firstStop 73 = .ok (.iload 4, 2) := by decide +kernel
theorem dX2_firstStop_75 : decode cX2_firstStop 75 = .ok (.if_icmp .ge 12, 3) := by decide +kernel
theorem dX2_firstStop_78 : decode cX2_firstStop 78 = .ok (.aload_n 0, 1) := by decide +kernel
theorem dX2_firstStop_79 : decode cX2_firstStop 79 = .ok (.getfield 13, 3) := by decide +kernel
theorem dX2_firstStop_82 : decode cX2_firstStop 82 = .ok (.iload 5, 2) := by decide +kernel
theorem dX2_firstStop_84 : decode cX2_firstStop 84 = .ok (.iaload, 1) := by decide +kernel
theorem dX2_firstStop_85 : decode cX2_firstStop 85 = .ok (.istore 4, 2) := by decide +kernel
theorem dX2_firstStop_87 : decode cX2_firstStop 87 = .ok (.iinc 5 1, 3) := by decide +kernel
theorem dX2_firstStop_90 : decode cX2_firstStop 90 = .ok (.goto (-84), 3) := by decide +kernel
theorem dX2_firstStop_93 : decode cX2_firstStop 93 = .ok (.iload 4, 2) := by decide +kernel
theorem dX2_firstStop_95 : decode cX2_firstStop 95 = .ok (.ireturn, 1) := by decide +kernel
