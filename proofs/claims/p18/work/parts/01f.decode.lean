set_option maxRecDepth 20000 in
theorem ggX4_init_J7_fill_53178 : GoodIn wsX4_init wsJ7_fill_53178 := goodIn_r _ [13] (by decide +kernel) (by decide +kernel)
set_option maxRecDepth 20000 in
theorem gX4_init_J7_fill_53178 : GoodIn wsX4_init (va_wsS RX4 24 yJ7_fill_53178 wsJ7_fill_53178) := goodIn_app (goodIn_of _ (by decide +kernel)) ggX4_init_J7_fill_53178
theorem dX4_init_0 : decode cX4_init 0 = .ok (.aload_n 0, 1) := by decide +kernel
theorem dX4_init_1 : decode cX4_init 1 = .ok (.invokespecial 1, 3) := by decide +kernel
theorem dX4_init_4 : decode cX4_init 4 = .ok (.aload_n 0, 1) := by decide +kernel
theorem dX4_init_5 : decode cX4_init 5 = .ok (.iconst 5, 1) := by decide +kernel
theorem dX4_init_6 : decode cX4_init 6 = .ok (.newarray .int, 2) := by decide +kernel
theorem dX4_init_8 : decode cX4_init 8 = .ok (.dup, 1) := by decide +kernel
theorem dX4_init_9 : decode cX4_init 9 = .ok (.iconst 0, 1) := by decide +kernel
theorem dX4_init_10 : decode cX4_init 10 = .ok (.iconst 1, 1) := by decide +kernel
theorem dX4_init_11 : decode cX4_init 11 = .ok (.iastore, 1) := by decide +kernel
theorem dX4_init_12 : decode cX4_init 12 = .ok (.dup, 1) := by decide +kernel
theorem dX4_init_13 : decode cX4_init 13 = .ok (.iconst 1, 1) := by decide +kernel
theorem dX4_init_14 : decode cX4_init 14 = .ok (.iconst 2, 1) := by decide +kernel
theorem dX4_init_15 : decode cX4_init 15 = .ok (.iastore, 1) := by decide +kernel
theorem dX4_init_16 : decode cX4_init 16 = .ok (.dup, 1) := by decide +kernel
theorem dX4_init_17 : decode cX4_init 17 = .ok (.iconst 2, 1) := by decide +kernel
theorem dX4_init_18 : decode cX4_init 18 = .ok (.iconst 3, 1) := by decide +kernel
theorem dX4_init_19 : decode cX4_init 19 = .ok (.iastore, 1) := by decide +kernel
theorem dX4_init_20 : decode cX4_init 20 = .ok (.dup, 1) := by decide +kernel
theorem dX4_init_21 : decode cX4_init 21 = .ok (.iconst 3, 1) := by decide +kernel
theorem dX4_init_22 : decode cX4_init 22 = .ok (.iconst 2, 1) := by decide +kernel
theorem dX4_init_23 : decode cX4_init 23 = .ok (.iastore, 1) := by decide +kernel
theorem dX4_init_24 : decode cX4_init 24 = .ok (.dup, 1) := by decide +kernel
theorem dX4_init_25 : decode cX4_init 25 = .ok (.iconst 4, 1) := by decide +kernel
theorem dX4_init_26 : decode cX4_init 26 = .ok (.iconst 1, 1) := by decide +kernel
theorem dX4_init_27 : decode cX4_init 27 = .ok (.iastore, 1) := by decide +kernel
theorem dX4_init_28 : decode cX4_init 28 = .ok (.putfield 7, 3) := by decide +kernel
theorem dX4_init_31 : decode cX4_init 31 = .ok (.aload_n 0, 1) := by decide +kernel
theorem dX4_init_32 : decode cX4_init 32 = .ok (.sipush 201, 3) := by decide +kernel
theorem dX4_init_35 : decode cX4_init 35 = .ok (.newarray .int, 2) := by decide +kernel
theorem dX4_init_37 : decode cX4_init 37 = .ok (.putfield 13, 3) := by decide +kernel
theorem dX4_init_40 : decode cX4_init 40 = .ok (.aload_n 0, 1) := by decide +kernel
theorem dX4_init_41 : decode cX4_init 41 = .ok (.iconst 0, 1) := by decide +kernel
theorem dX4_init_42 : decode cX4_init 42 = .ok (.anewarray 16, 3) := by decide +kernel
theorem dX4_init_45 : decode cX4_init 45 = .ok (.putfield 17, 3) := by decide +kernel
theorem dX4_init_48 : decode cX4_init 48 = .ok (.aload_n 0, 1) := by decide +kernel
theorem dX4_init_49 : decode cX4_init 49 = .ok (.iconst 0, 1) := by decide +kernel
theorem dX4_init_50 : decode cX4_init 50 = .ok (.anewarray 16, 3) := by decide +kernel
theorem dX4_init_53 : decode cX4_init 53 = .ok (.putfield 21, 3) := by decide +kernel
theorem dX4_init_56 : decode cX4_init 56 = .ok (.aload_n 0, 1) := by decide +kernel
theorem dX4_init_57 : decode cX4_init 57 = .ok (.getfield 13, 3) := by decide +kernel
theorem dX4_init_60 : decode cX4_init 60 = .ok (.iconst (-1), 1) := by decide +kernel
theorem dX4_init_61 : decode cX4_init 61 = .ok (.invokestatic 24, 3) := by decide +kernel
theorem dX4_init_64 : decode cX4_init 64 = .ok (.return_, 1) := by decide +kernel
theorem dX4_more_0 : decode cX4_more 0 = .ok (.aload_n 0, 1) := by decide +kernel
theorem dX4_more_1 : decode cX4_more 1 = .ok (.arraylength, 1) := by decide +kernel
theorem dX4_more_2 : decode cX4_more 2 = .ok (.iconst 1, 1) := by decide +kernel
theorem dX4_more_3 : decode cX4_more 3 = .ok (.iadd, 1) := by decide +kernel
theorem dX4_more_4 : decode cX4_more 4 = .ok (.anewarray 16, 3) := by decide +kernel
theorem dX4_more_7 : decode cX4_more 7 = .ok (.astore_n 2, 1) := by decide +kernel
theorem dX4_more_8 : decode cX4_more 8 = .ok (.iconst 0, 1) := by decide +kernel
theorem dX4_more_9 : decode cX4_more 9 = .ok (.istore_n 3, 1) := by decide +kernel
theorem dX4_more_10 : decode cX4_more 10 = .ok (.iload_n 3, 1) := by decide +kernel
theorem dX4_more_11 : decode cX4_more 11 = .ok (.aload_n 0, 1) := by decide +kernel
theorem dX4_more_12 : decode cX4_more 12 = .ok (.arraylength, 1) := by decide +kernel
theorem dX4_more_13 : decode cX4_more 13 = .ok (.if_icmp .ge 15, 3) := by decide +kernel
theorem dX4_more_16 : decode cX4_more 16 = .ok (.aload_n 2, 1) := by decide +kernel
theorem dX4_more_17 : decode cX4_more 17 = .ok (.iload_n 3, 1) := by decide +kernel
theorem dX4_more_18 : decode cX4_more 18 = .ok (.aload_n 0, 1) := by decide +kernel
theorem dX4_more_19 : decode cX4_more 19 = .ok (.iload_n 3, 1) := by decide +kernel
theorem dX4_more_20 : decode cX4_more 20 = .ok (.aaload, 1) := by decide +kernel
theorem dX4_more_21 : decode cX4_more 21 = .ok (.aastore, 1) := by decide +kernel
theorem dX4_more_22 : decode cX4_more 22 = .ok (.iinc 3 1, 3) := by decide +kernel
theorem dX4_more_25 : decode cX4_more 25 = .ok (.goto (-15), 3) := by decide +kernel
theorem dX4_more_28 : decode cX4_more 28 = .ok (.aload_n 2, 1) := by decide +kernel
theorem dX4_more_29 : decode cX4_more 29 = .ok (.aload_n 0, 1) := by decide +kernel
theorem dX4_more_30 : decode cX4_more 30 = .ok (.arraylength, 1) := by decide +kernel
theorem dX4_more_31 : decode cX4_more 31 = .ok (.aload_n 1, 1) := by decide +kernel
theorem dX4_more_32 : decode cX4_more 32 = .ok (.aastore, 1) := by decide +kernel
theorem dX4_more_33 : decode cX4_more 33 = .ok (.aload_n 2, 1) := by decide +kernel
theorem dX4_more_34 : decode cX4_more 34 = .ok (.areturn, 1) := by decide +kernel
theorem dX4_go_0 : decode cX4_go 0 = .ok (.aload_n 0, 1) := by decide +kernel
theorem dX4_go_1 : decode cX4_go 1 = .ok (.getfield 17, 3) := by decide +kernel
theorem dX4_go_4 : decode cX4_go 4 = .ok (.iload_n 1, 1) := by decide +kernel
theorem dX4_go_5 : decode cX4_go 5 = .ok (.aaload, 1) := by decide +kernel
theorem dX4_go_6 : decode cX4_go 6 = .ok (.astore_n 2, 1) := by decide +kernel
theorem dX4_go_7 : decode cX4_go 7 = .ok (.aload_n 0, 1) := by decide +kernel
theorem dX4_go_8 : decode cX4_go 8 = .ok (.getfield 21, 3) := by decide +kernel
theorem dX4_go_11 : decode cX4_go 11 = .ok (.iload_n 1, 1) := by decide +kernel
theorem dX4_go_12 : decode cX4_go 12 = .ok (.aaload, 1) := by decide +kernel
theorem dX4_go_13 : decode cX4_go 13 = .ok (.aload_n 0, 1) := by decide +kernel
theorem dX4_go_14 : decode cX4_go 14 = .ok (.getfield 30, 3) := by decide +kernel
theorem dX4_go_17 : decode cX4_go 17 = .ok (.aload_n 0, 1) := by decide +kernel
theorem dX4_go_18 : decode cX4_go 18 = .ok (.getfield 21, 3) := by decide +kernel
theorem dX4_go_21 : decode cX4_go 21 = .ok (.iload_n 1, 1) := by decide +kernel
theorem dX4_go_22 : decode cX4_go 22 = .ok (.aaload, 1) := by decide +kernel
theorem dX4_go_23 : decode cX4_go 23 = .ok (.arraylength, 1) := by decide +kernel
theorem dX4_go_24 : decode cX4_go 24 = .ok (.irem, 1) := by decide +kernel
theorem dX4_go_25 : decode cX4_go 25 = .ok (.iaload, 1) := by decide +kernel
theorem dX4_go_26 : decode cX4_go 26 = .ok (.istore_n 3, 1) := by decide +kernel
theorem dX4_go_27 : decode cX4_go 27 = .ok (.iload_n 3, 1) := by decide +kernel
theorem dX4_go_28 : decode cX4_go 28 = .ok (.iconst 3, 1) := by decide +kernel
theorem dX4_go_29 : decode cX4_go 29 = .ok (.if_icmp .ne 10, 3) := by decide +kernel
theorem dX4_go_32 : decode cX4_go 32 = .ok (.aload_n 2, 1) := by decide +kernel
theorem dX4_go_33 : decode cX4_go 33 = .ok (.bipush 8, 2) := by decide +kernel
theorem dX4_go_35 : decode cX4_go 35 = .ok (.iaload, 1) := by decide +kernel
theorem dX4_go_36 : decode cX4_go 36 = .ok (.goto 17, 3) := by decide +kernel
theorem dX4_go_39 : decode cX4_go 39 = .ok (.iload_n 3, 1) := by decide +kernel
theorem dX4_go_40 : decode cX4_go 40 = .ok (.ifCond .ne 7, 3) := by decide +kernel
theorem dX4_go_43 : decode cX4_go 43 = .ok (.iconst 0, 1) := by decide +kernel
theorem dX4_go_44 : decode cX4_go 44 = .ok (.goto 9, 3) := by decide +kernel
theorem dX4_go_47 : decode cX4_go 47 = .ok (.aload_n 2, 1) := by decide +kernel
theorem dX4_go_48 : decode cX4_go 48 = .ok (.bipush 8, 2) := by decide +kernel
theorem dX4_go_50 : decode cX4_go 50 = .ok (.iaload, 1) := by decide +kernel
theorem dX4_go_51 : decode cX4_go 51 = .ok (.iconst 2, 1) := by decide +kernel
theorem dX4_go_52 : decode cX4_go 52 = .ok (.idiv, 1) := by decide +kernel
theorem dX4_go_53 : decode cX4_go 53 = .ok (.istore 4, 2) := by decide +kernel
theorem dX4_go_55 : decode cX4_go 55 = .ok (.iload 4, 2) := by decide +kernel
theorem dX4_go_57 : decode cX4_go 57 = .ok (.aload_n 2, 1) := by decide +kernel
theorem dX4_go_58 : decode cX4_go 58 = .ok (.iconst 3, 1) := by decide +kernel
theorem dX4_go_59 : decode cX4_go 59 = .ok (.iaload, 1) := by decide +kernel
theorem dX4_go_60 : decode cX4_go 60 = .ok (.bipush 6, 2) := by decide +kernel
theorem dX4_go_62 : decode cX4_go 62 = .ok (.idiv, 1) := by decide +kernel
theorem dX4_go_63 : decode cX4_go 63 = .ok (.if_icmp .le 15, 3) := by decide +kernel
theorem dX4_go_66 : decode cX4_go 66 = .ok (.iload 4, 2) := by decide +kernel
theorem dX4_go_68 : decode cX4_go 68 = .ok (.aload_n 2, 1) := by decide +kernel
theorem dX4_go_69 : decode cX4_go 69 = .ok (.iconst 3, 1) := by decide +kernel
theorem dX4_go_70 : decode cX4_go 70 = .ok (.iaload, 1) := by decide +kernel
theorem dX4_go_71 : decode cX4_go 71 = .ok (.bipush 6, 2) := by decide +kernel
theorem dX4_go_73 : decode cX4_go 73 = .ok (.idiv, 1) := by decide +kernel
theorem dX4_go_74 : decode cX4_go 74 = .ok (.isub, 1) := by decide +kernel
theorem dX4_go_75 : decode cX4_go 75 = .ok (.goto 4, 3) := by decide +kernel
theorem dX4_go_78 : decode cX4_go 78 = .ok (.iconst 0, 1) := by decide +kernel
theorem dX4_go_79 : decode cX4_go 79 = .ok (.istore 4, 2) := by decide +kernel
theorem dX4_go_81 : decode cX4_go 81 = .ok (.iload_n 3, 1) := by decide +kernel
theorem dX4_go_82 : decode cX4_go 82 = .ok (.iconst 1, 1) := by decide +kernel
theorem dX4_go_83 : decode cX4_go 83 = .ok (.if_icmp .ne 10, 3) := by decide +kernel
theorem dX4_go_86 : decode cX4_go 86 = .ok (.aload_n 2, 1) := by decide +kernel
theorem dX4_go_87 : decode cX4_go 87 = .ok (.iconst 2, 1) := by decide +kernel
theorem dX4_go_88 : decode cX4_go 88 = .ok (.dup2, 1) := by decide +kernel
theorem dX4_go_89 : decode cX4_go 89 = .ok (.iaload, 1) := by decide +kernel
theorem dX4_go_90 : decode cX4_go 90 = .ok (.iconst 1, 1) := by decide +kernel
theorem dX4_go_91 : decode cX4_go 91 = .ok (.iadd, 1) := by decide +kernel
theorem dX4_go_92 : decode cX4_go 92 = .ok (.iastore, 1) := by decide +kernel
theorem dX4_go_93 : decode cX4_go 93 = .ok (.iload_n 3, 1) := by decide +kernel
theorem dX4_go_94 : decode cX4_go 94 = .ok (.iconst 2, 1) := by decide +kernel
theorem dX4_go_95 : decode cX4_go 95 = .ok (.if_icmp .ne 10, 3) := by decide +kernel
theorem dX4_go_98 : decode cX4_go 98 = .ok (.aload_n 2, 1) := by decide +kernel
theorem dX4_go_99 : decode cX4_go 99 = .ok (.iconst 2, 1) := by decide +kernel
theorem dX4_go_100 : decode cX4_go 100 = .ok (.dup2, 1) := by decide +kernel
theorem dX4_go_101 : decode cX4_go 101 = .ok (.iaload, 1) := by decide +kernel
theorem dX4_go_102 : decode cX4_go 102 = .ok (.iconst 1, 1) := by decide +kernel
theorem dX4_go_103 : decode cX4_go 103 = .ok (.isub, 1) := by decide +kernel
theorem dX4_go_104 : decode cX4_go 104 = .ok (.iastore, 1) := by decide +kernel
theorem dX4_go_105 : decode cX4_go 105 = .ok (.aload_n 2, 1) := by decide +kernel
theorem dX4_go_106 : decode cX4_go 106 = .ok (.iconst 2, 1) := by decide +kernel
theorem dX4_go_107 : decode cX4_go 107 = .ok (.iaload, 1) := by decide +kernel
theorem dX4_go_108 : decode cX4_go 108 = .ok (.iconst 4, 1) := by decide +kernel
theorem dX4_go_109 : decode cX4_go 109 = .ok (.if_icmp .gt 11, 3) := by decide +kernel
theorem dX4_go_112 : decode cX4_go 112 = .ok (.aload_n 2, 1) := by decide +kernel
theorem dX4_go_113 : decode cX4_go 113 = .ok (.iconst 2, 1) := by decide +kernel
theorem dX4_go_114 : decode cX4_go 114 = .ok (.iaload, 1) := by decide +kernel
theorem dX4_go_115 : decode cX4_go 115 = .ok (.bipush (-4), 2) := by decide +kernel
theorem dX4_go_117 : decode cX4_go 117 = .ok (.if_icmp .ge 18, 3) := by decide +kernel
theorem dX4_go_120 : decode cX4_go 120 = .ok (.aload_n 2, 1) := by decide +kernel
theorem dX4_go_121 : decode cX4_go 121 = .ok (.iconst 2, 1) := by decide +kernel
theorem dX4_go_122 : decode cX4_go 122 = .ok (.iconst 0, 1) := by decide +kernel
theorem dX4_go_123 : decode cX4_go 123 = .ok (.iastore, 1) := by decide +kernel
theorem dX4_go_124 : decode cX4_go 124 = .ok (.aload_n 2, 1) := by decide +kernel
theorem dX4_go_125 : decode cX4_go 125 = .ok (.bipush 6, 2) := by decide +kernel
theorem dX4_go_127 : decode cX4_go 127 = .ok (.dup2, 1) := by decide +kernel
theorem dX4_go_128 : decode cX4_go 128 = .ok (.iaload, 1) := by decide +kernel
theorem dX4_go_129 : decode cX4_go 129 = .ok (.iconst 1, 1) := by decide +kernel
theorem dX4_go_130 : decode cX4_go 130 = .ok (.iadd, 1) := by decide +kernel
theorem dX4_go_131 : decode cX4_go 131 = .ok (.iastore, 1) := by decide +kernel
theorem dX4_go_132 : decode cX4_go 132 = .ok (.iconst 0, 1) := by decide +kernel
theorem dX4_go_133 : decode cX4_go 133 = .ok (.istore 4, 2) := by decide +kernel
theorem dX4_go_135 : decode cX4_go 135 = .ok (.aload_n 2, 1) := by decide +kernel
theorem dX4_go_136 : decode cX4_go 136 = .ok (.iconst 2, 1) := by decide +kernel
theorem dX4_go_137 : decode cX4_go 137 = .ok (.iaload, 1) := by decide +kernel
theorem dX4_go_138 : decode cX4_go 138 = .ok (.iconst 1, 1) := by decide +kernel
theorem dX4_go_139 : decode cX4_go 139 = .ok (.if_icmp .le 27, 3) := by decide +kernel
theorem dX4_go_142 : decode cX4_go 142 = .ok (.aload_n 2, 1) := by decide +kernel
theorem dX4_go_143 : decode cX4_go 143 = .ok (.iconst 1, 1) := by decide +kernel
theorem dX4_go_144 : decode cX4_go 144 = .ok (.iaload, 1) := by decide +kernel
theorem dX4_go_145 : decode cX4_go 145 = .ok (.iconst 4, 1) := by decide +kernel
theorem dX4_go_146 : decode cX4_go 146 = .ok (.if_icmp .ne 13, 3) := by decide +kernel
theorem dX4_go_149 : decode cX4_go 149 = .ok (.aload_n 2, 1) := by decide +kernel
theorem dX4_go_150 : decode cX4_go 150 = .ok (.iconst 4, 1) := by decide +kernel
theorem dX4_go_151 : decode cX4_go 151 = .ok (.dup2, 1) := by decide +kernel
theorem dX4_go_152 : decode cX4_go 152 = .ok (.iaload, 1) := by decide +kernel
theorem dX4_go_153 : decode cX4_go 153 = .ok (.iconst 3, 1) := by decide +kernel
theorem dX4_go_154 : decode cX4_go 154 = .ok (.iadd, 1) := by decide +kernel
theorem dX4_go_155 : decode cX4_go 155 = .ok (.iastore, 1) := by decide +kernel
theorem dX4_go_156 : decode cX4_go 156 = .ok (.goto 10, 3) := by decide +kernel
theorem dX4_go_159 : decode cX4_go 159 = .ok (.aload_n 2, 1) := by decide +kernel
theorem dX4_go_160 : decode cX4_go 160 = .ok (.iconst 1, 1) := by decide +kernel
theorem dX4_go_161 : decode cX4_go 161 = .ok (.dup2, 1) := by decide +kernel
theorem dX4_go_162 : decode cX4_go 162 = .ok (.iaload, 1) := by decide +kernel
theorem dX4_go_163 : decode cX4_go 163 = .ok (.iconst 1, 1) := by decide +kernel
theorem dX4_go_164 : decode cX4_go 164 = .ok (.iadd, 1) := by decide +kernel
theorem dX4_go_165 : decode cX4_go 165 = .ok (.iastore, 1) := by decide +kernel
theorem dX4_go_166 : decode cX4_go 166 = .ok (.aload_n 2, 1) := by decide +kernel
theorem dX4_go_167 : decode cX4_go 167 = .ok (.iconst 2, 1) := by decide +kernel
theorem dX4_go_168 : decode cX4_go 168 = .ok (.iaload, 1) := by decide +kernel
theorem dX4_go_169 : decode cX4_go 169 = .ok (.iconst (-1), 1) := by decide +kernel
theorem dX4_go_170 : decode cX4_go 170 = .ok (.if_icmp .ge 26, 3) := by decide +kernel
theorem dX4_go_173 : decode cX4_go 173 = .ok (.aload_n 2, 1) := by decide +kernel
theorem dX4_go_174 : decode cX4_go 174 = .ok (.iconst 1, 1) := by decide +kernel
theorem dX4_go_175 : decode cX4_go 175 = .ok (.iaload, 1) := by decide +kernel
theorem dX4_go_176 : decode cX4_go 176 = .ok (.ifCond .ne 13, 3) := by decide +kernel
theorem dX4_go_179 : decode cX4_go 179 = .ok (.aload_n 2, 1) := by decide +kernel
theorem dX4_go_180 : decode cX4_go 180 = .ok (.iconst 4, 1) := by decide +kernel
theorem dX4_go_181 : decode cX4_go 181 = .ok (.dup2, 1) := by decide +kernel
theorem dX4_go_182 : decode cX4_go 182 = .ok (.iaload, 1) := by decide +kernel
theorem dX4_go_183 : decode cX4_go 183 = .ok (.iconst 3, 1) := by decide +kernel
theorem dX4_go_184 : decode cX4_go 184 = .ok (.iadd, 1) := by decide +kernel
theorem dX4_go_185 : decode cX4_go 185 = .ok (.iastore, 1) := by decide +kernel
theorem dX4_go_186 : decode cX4_go 186 = .ok (.goto 10, 3) := by decide +kernel
theorem dX4_go_189 : decode cX4_go 189 = .ok (.aload_n 2, 1) := by decide +kernel
theorem dX4_go_190 : decode cX4_go 190 = .ok (.iconst 1, 1) := by decide +kernel
theorem dX4_go_191 : decode cX4_go 191 = .ok (.dup2, 1) := by decide +kernel
theorem dX4_go_192 : decode cX4_go 192 = .ok (.iaload, 1) := by decide +kernel
theorem dX4_go_193 : decode cX4_go 193 = .ok (.iconst 1, 1) := by decide +kernel
theorem dX4_go_194 : decode cX4_go 194 = .ok (.isub, 1) := by decide +kernel
theorem dX4_go_195 : decode cX4_go 195 = .ok (.iastore, 1) := by decide +kernel
theorem dX4_go_196 : decode cX4_go 196 = .ok (.iload 4, 2) := by decide +kernel
theorem dX4_go_198 : decode cX4_go 198 = .ok (.iconst 4, 1) := by decide +kernel
theorem dX4_go_199 : decode cX4_go 199 = .ok (.aload_n 2, 1) := by decide +kernel
theorem dX4_go_200 : decode cX4_go 200 = .ok (.iconst 2, 1) := by decide +kernel
theorem dX4_go_201 : decode cX4_go 201 = .ok (.iaload, 1) := by decide +kernel
theorem dX4_go_202 : decode cX4_go 202 = .ok (.invokestatic 34, 3) := by decide +kernel
theorem dX4_go_205 : decode cX4_go 205 = .ok (.isub, 1) := by decide +kernel
theorem dX4_go_206 : decode cX4_go 206 = .ok (.imul, 1) := by decide +kernel
theorem dX4_go_207 : decode cX4_go 207 = .ok (.iconst 4, 1) := by decide +kernel
theorem dX4_go_208 : decode cX4_go 208 = .ok (.idiv, 1) := by decide +kernel
theorem dX4_go_209 : decode cX4_go 209 = .ok (.aload_n 0, 1) := by decide +kernel
theorem dX4_go_210 : decode cX4_go 210 = .ok (.getfield 7, 3) := by decide +kernel
theorem dX4_go_213 : decode cX4_go 213 = .ok (.aload_n 2, 1) := by decide +kernel
theorem dX4_go_214 : decode cX4_go 214 = .ok (.iconst 1, 1) := by decide +kernel
theorem dX4_go_215 : decode cX4_go 215 = .ok (.iaload, 1) := by decide +kernel
theorem dX4_go_216 : decode cX4_go 216 = .ok (.iaload, 1) := by decide +kernel
theorem dX4_go_217 : decode cX4_go 217 = .ok (.iadd, 1) := by decide +kernel
theorem dX4_go_218 : decode cX4_go 218 = .ok (.istore 5, 2) := by decide +kernel
theorem dX4_go_220 : decode cX4_go 220 = .ok (.iload 5, 2) := by decide +kernel
theorem dX4_go_222 : decode cX4_go 222 = .ok (.ifCond .le 81, 3) := by decide +kernel
theorem dX4_go_225 : decode cX4_go 225 = .ok (.aload_n 2, 1) := by decide +kernel
theorem dX4_go_226 : decode cX4_go 226 = .ok (.iconst 0, 1) := by decide +kernel
theorem dX4_go_227 : decode cX4_go 227 = .ok (.iaload, 1) := by decide +kernel
theorem dX4_go_228 : decode cX4_go 228 = .ok (.sipush 200, 3) := by decide +kernel
theorem dX4_go_231 : decode cX4_go 231 = .ok (.if_icmp .ge 72, 3) := by decide +kernel
theorem dX4_go_234 : decode cX4_go 234 = .ok (.aload_n 2, 1) := by decide +kernel
theorem dX4_go_235 : decode cX4_go 235 = .ok (.iconst 0, 1) := by decide +kernel
theorem dX4_go_236 : decode cX4_go 236 = .ok (.dup2, 1) := by decide +kernel
theorem dX4_go_237 : decode cX4_go 237 = .ok (.iaload, 1) := by decide +kernel
theorem dX4_go_238 : decode cX4_go 238 = .ok (.iconst 1, 1) := by decide +kernel
theorem dX4_go_239 : decode cX4_go 239 = .ok (.iadd, 1) := by decide +kernel
theorem dX4_go_240 : decode cX4_go 240 = .ok (.iastore, 1) := by decide +kernel
theorem dX4_go_241 : decode cX4_go 241 = .ok (.iinc 5 (-1), 3) := by decide +kernel
theorem dX4_go_244 : decode cX4_go 244 = .ok (.aload_n 0, 1) := by decide +kernel
theorem dX4_go_245 : decode cX4_go 245 = .ok (.getfield 13, 3) := by decide +kernel
theorem dX4_go_248 : decode cX4_go 248 = .ok (.aload_n 2, 1) := by decide +kernel
theorem dX4_go_249 : decode cX4_go 249 = .ok (.iconst 0, 1) := by decide +kernel
theorem dX4_go_250 : decode cX4_go 250 = .ok (.iaload, 1) := by decide +kernel
theorem dX4_go_251 : decode cX4_go 251 = .ok (.iaload, 1) := by decide +kernel
theorem dX4_go_252 : decode cX4_go 252 = .ok (.ifCond .lt (-32), 3) := by decide +kernel
theorem dX4_go_255 : decode cX4_go 255 = .ok (.aload_n 0, 1) := by decide +kernel
theorem dX4_go_256 : decode cX4_go 256 = .ok (.getfield 13, 3) := by decide +kernel
theorem dX4_go_259 : decode cX4_go 259 = .ok (.aload_n 2, 1) := by decide +kernel
theorem dX4_go_260 : decode cX4_go 260 = .ok (.iconst 0, 1) := by decide +kernel
theorem dX4_go_261 : decode cX4_go 261 = .ok (.iaload, 1) := by decide +kernel
theorem dX4_go_262 : decode cX4_go 262 = .ok (.iaload, 1) := by decide +kernel
theorem dX4_go_263 : decode cX4_go 263 = .ok (.aload_n 2, 1) := by decide +kernel
theorem dX4_go_264 : decode cX4_go 264 = .ok (.iconst 1, 1) := by decide +kernel
theorem dX4_go_265 : decode cX4_go 265 = .ok (.iaload, 1) := by decide +kernel
theorem dX4_go_266 : decode cX4_go 266 = .ok (.if_icmp .ne 6, 3) := by decide +kernel
theorem dX4_go_269 : decode cX4_go 269 = .ok (.goto (-49), 3) := by decide +kernel
theorem dX4_go_272 : decode cX4_go 272 = .ok (.iconst 0, 1) := by decide +kernel
theorem dX4_go_273 : decode cX4_go 273 = .ok (.istore 5, 2) := by decide +kernel
theorem dX4_go_275 : decode cX4_go 275 = .ok (.aload_n 2, 1) := by decide +kernel
theorem dX4_go_276 : decode cX4_go 276 = .ok (.iconst 2, 1) := by decide +kernel
theorem dX4_go_277 : decode cX4_go 277 = .ok (.iconst 0, 1) := by decide +kernel
theorem dX4_go_278 : decode cX4_go 278 = .ok (.iastore, 1) := by decide +kernel
theorem dX4_go_279 : decode cX4_go 279 = .ok (.aload_n 2, 1) := by decide +kernel
theorem dX4_go_280 : decode cX4_go 280 = .ok (.bipush 7, 2) := by decide +kernel
theorem dX4_go_282 : decode cX4_go 282 = .ok (.dup2, 1) := by decide +kernel
theorem dX4_go_283 : decode cX4_go 283 = .ok (.iaload, 1) := by decide +kernel
theorem dX4_go_284 : decode cX4_go 284 = .ok (.iconst 1, 1) := by decide +kernel
theorem dX4_go_285 : decode cX4_go 285 = .ok (.iadd, 1) := by decide +kernel
theorem dX4_go_286 : decode cX4_go 286 = .ok (.iastore, 1) := by decide +kernel
theorem dX4_go_287 : decode cX4_go 287 = .ok (.aload_n 2, 1) := by decide +kernel
theorem dX4_go_288 : decode cX4_go 288 = .ok (.iconst 3, 1) := by decide +kernel
theorem dX4_go_289 : decode cX4_go 289 = .ok (.bipush 30, 2) := by decide +kernel
theorem dX4_go_291 : decode cX4_go 291 = .ok (.aload_n 2, 1) := by decide +kernel
theorem dX4_go_292 : decode cX4_go 292 = .ok (.iconst 3, 1) := by decide +kernel
theorem dX4_go_293 : decode cX4_go 293 = .ok (.iaload, 1) := by decide +kernel
theorem dX4_go_294 : decode cX4_go 294 = .ok (.iconst 5, 1) := by decide +kernel
theorem dX4_go_295 : decode cX4_go 295 = .ok (.iadd, 1) := by decide +kernel
theorem dX4_go_296 : decode cX4_go 296 = .ok (.invokestatic 40, 3) := by decide +kernel
theorem dX4_go_299 : decode cX4_go 299 = .ok (.iastore, 1) := by decide +kernel
theorem dX4_go_300 : decode cX4_go 300 = .ok (.goto (-80), 3) := by decide +kernel
theorem dX4_go_303 : decode cX4_go 303 = .ok (.aload_n 0, 1) := by decide +kernel
theorem dX4_go_304 : decode cX4_go 304 = .ok (.getfield 30, 3) := by decide +kernel
theorem dX4_go_307 : decode cX4_go 307 = .ok (.iconst 4, 1) := by decide +kernel
theorem dX4_go_308 : decode cX4_go 308 = .ok (.irem, 1) := by decide +kernel
theorem dX4_go_309 : decode cX4_go 309 = .ok (.ifCond .ne 18, 3) := by decide +kernel
theorem dX4_go_312 : decode cX4_go 312 = .ok (.aload_n 2, 1) := by decide +kernel
theorem dX4_go_313 : decode cX4_go 313 = .ok (.iconst 3, 1) := by decide +kernel
theorem dX4_go_314 : decode cX4_go 314 = .ok (.iaload, 1) := by decide +kernel
theorem dX4_go_315 : decode cX4_go 315 = .ok (.bipush 30, 2) := by decide +kernel
theorem dX4_go_317 : decode cX4_go 317 = .ok (.if_icmp .ge 10, 3) := by decide +kernel
theorem dX4_go_320 : decode cX4_go 320 = .ok (.aload_n 2, 1) := by decide +kernel
theorem dX4_go_321 : decode cX4_go 321 = .ok (.iconst 3, 1) := by decide +kernel
theorem dX4_go_322 : decode cX4_go 322 = .ok (.dup2, 1) := by decide +kernel
theorem dX4_go_323 : decode cX4_go 323 = .ok (.iaload, 1) := by decide +kernel
theorem dX4_go_324 : decode cX4_go 324 = .ok (.iconst 1, 1) := by decide +kernel
theorem dX4_go_325 : decode cX4_go 325 = .ok (.iadd, 1) := by decide +kernel
theorem dX4_go_326 : decode cX4_go 326 = .ok (.iastore, 1) := by decide +kernel
theorem dX4_go_327 : decode cX4_go 327 = .ok (.aload_n 2, 1) := by decide +kernel
theorem dX4_go_328 : decode cX4_go 328 = .ok (.iconst 0, 1) := by decide +kernel
theorem dX4_go_329 : decode cX4_go 329 = .ok (.iaload, 1) := by decide +kernel
theorem dX4_go_330 : decode cX4_go 330 = .ok (.sipush 200, 3) := by decide +kernel
theorem dX4_go_333 : decode cX4_go 333 = .ok (.if_icmp .ne 10, 3) := by decide +kernel
theorem dX4_go_336 : decode cX4_go 336 = .ok (.aload_n 2, 1) := by decide +kernel
theorem dX4_go_337 : decode cX4_go 337 = .ok (.iconst 5, 1) := by decide +kernel
theorem dX4_go_338 : decode cX4_go 338 = .ok (.aload_n 0, 1) := by decide +kernel
theorem dX4_go_339 : decode cX4_go 339 = .ok (.getfield 30, 3) := by decide +kernel
theorem dX4_go_342 : decode cX4_go 342 = .ok (.iastore, 1) := by decide +kernel
theorem dX4_go_343 : decode cX4_go 343 = .ok (.return_, 1) := by decide +kernel
set_option maxRecDepth 20000 in
theorem ggX4_go__X4_go : GoodIn wsX4_go_ wsX4_go := goodIn_r _ [7, 1, 8, 2, 9, 10, 11, 12, 13, 14, 15, 16, 17, 18, 19, 20, 21, 22, 23] (by decide +kernel) (by decide +kernel)
set_option maxRecDepth 20000 in
theorem gX4_go__X4_go : GoodIn wsX4_go_ (wsV RX4 44 RX4 yX4_go wsX4_go) := goodIn_app (goodIn_of _ (by decide +kernel)) ggX4_go__X4_go
theorem dX4_go__0 : decode cX4_go_ 0 = .ok (.iconst 0, 1) := by decide +kernel
theorem dX4_go__1 : decode cX4_go_ 1 = .ok (.istore_n 1, 1) := by decide +kernel
theorem dX4_go__2 : decode cX4_go_ 2 = .ok (.iconst 0, 1) := by decide +kernel
theorem dX4_go__3 : decode cX4_go_ 3 = .ok (.istore_n 2, 1) := by decide +kernel
theorem dX4_go__4 : decode cX4_go_ 4 = .ok (.iload_n 2, 1) := by decide +kernel
theorem dX4_go__5 : decode cX4_go_ 5 = .ok (.aload_n 0, 1) := by decide +kernel
theorem dX4_go__6 : decode cX4_go_ 6 = .ok (.getfield 17, 3) := by decide +kernel
theorem dX4_go__9 : decode cX4_go_ 9 = .ok (.arraylength, 1) := by decide +kernel
theorem dX4_go__10 : decode cX4_go_ 10 = .ok (.if_icmp .ge 47, 3) := by decide +kernel
theorem dX4_go__13 : decode cX4_go_ 13 = .ok (.aload_n 0, 1) := by decide +kernel
theorem dX4_go__14 : decode cX4_go_ 14 = .ok (.getfield 17, 3) := by decide +kernel
theorem dX4_go__17 : decode cX4_go_ 17 = .ok (.iload_n 2, 1) := by decide +kernel
theorem dX4_go__18 : decode cX4_go_ 18 = .ok (.aaload, 1) := by decide +kernel
theorem dX4_go__19 : decode cX4_go_ 19 = .ok (.iconst 5, 1) := by decide +kernel
theorem dX4_go__20 : decode cX4_go_ 20 = .ok (.iaload, 1) := by decide +kernel
theorem dX4_go__21 : decode cX4_go_ 21 = .ok (.ifCond .lt 6, 3) := by decide +kernel
theorem dX4_go__24 : decode cX4_go_ 24 = .ok (.goto 27, 3) := by decide +kernel
theorem dX4_go__27 : decode cX4_go_ 27 = .ok (.aload_n 0, 1) := by decide +kernel
theorem dX4_go__28 : decode cX4_go_ 28 = .ok (.iload_n 2, 1) := by decide +kernel
theorem dX4_go__29 : decode cX4_go_ 29 = .ok (.invokevirtual 44, 3) := by decide +kernel
theorem dX4_go__32 : decode cX4_go_ 32 = .ok (.iload_n 1, 1) := by decide +kernel
theorem dX4_go__33 : decode cX4_go_ 33 = .ok (.aload_n 0, 1) := by decide +kernel
theorem dX4_go__34 : decode cX4_go_ 34 = .ok (.getfield 17, 3) := by decide +kernel
theorem dX4_go__37 : decode cX4_go_ 37 = .ok (.iload_n 2, 1) := by decide +kernel
theorem dX4_go__38 : decode cX4_go_ 38 = .ok (.aaload, 1) := by decide +kernel
theorem dX4_go__39 : decode cX4_go_ 39 = .ok (.iconst 5, 1) := by decide +kernel
theorem dX4_go__40 : decode cX4_go_ 40 = .ok (.iaload, 1) := by decide +kernel
theorem dX4_go__41 : decode cX4_go_ 41 = .ok (.ifCond .lt 7, 3) := by decide +kernel
theorem dX4_go__44 : decode cX4_go_ 44 = .ok (.iconst 1, 1) := by decide +kernel
theorem dX4_go__45 : decode cX4_go_ 45 = .ok (.goto 4, 3) := by decide +kernel
theorem dX4_go__48 : decode cX4_go_ 48 = .ok (.iconst 0, 1) := by decide +kernel
theorem dX4_go__49 : decode cX4_go_ 49 = .ok (.iadd, 1) := by decide +kernel
theorem dX4_go__50 : decode cX4_go_ 50 = .ok (.istore_n 1, 1) := by decide +kernel
theorem dX4_go__51 : decode cX4_go_ 51 = .ok (.iinc 2 1, 3) := by decide +kernel
theorem dX4_go__54 : decode cX4_go_ 54 = .ok (.goto (-50), 3) := by decide +kernel
theorem dX4_go__57 : decode cX4_go_ 57 = .ok (.aload_n 0, 1) := by decide +kernel
theorem dX4_go__58 : decode cX4_go_ 58 = .ok (.dup, 1) := by decide +kernel
theorem dX4_go__59 : decode cX4_go_ 59 = .ok (.getfield 30, 3) := by decide +kernel
theorem dX4_go__62 : decode cX4_go_ 62 = .ok (.iconst 1, 1) := by decide +kernel
theorem dX4_go__63 : decode cX4_go_ 63 = .ok (.iadd, 1) := by decide +kernel
theorem dX4_go__64 : decode cX4_go_ 64 = .ok (.putfield 30, 3) := by decide +kernel
theorem dX4_go__67 : decode cX4_go_ 67 = .ok (.iload_n 1, 1) := by decide +kernel
theorem dX4_go__68 : decode cX4_go_ 68 = .ok (.ireturn, 1) := by decide +kernel
theorem dX4_time_0 : decode cX4_time 0 = .ok (.aload_n 1, 1) := by decide +kernel
theorem dX4_time_1 : decode cX4_time 1 = .ok (.iconst 5, 1) := by decide +kernel
theorem dX4_time_2 : decode cX4_time 2 = .ok (.iaload, 1) := by decide +kernel
theorem dX4_time_3 : decode cX4_time 3 = .ok (.ifCond .ge 7, 3) := by decide +kernel
theorem dX4_time_6 : decode cX4_time 6 = .ok (.iconst (-1), 1) := by decide +kernel
theorem dX4_time_7 : decode cX4_time 7 = .ok (.goto 12, 3) := by decide +kernel
theorem dX4_time_10 : decode cX4_time 10 = .ok (.aload_n 1, 1) := by decide +kernel
theorem dX4_time_11 : decode cX4_time 11 = .ok (.iconst 5, 1) := by decide +kernel
theorem dX4_time_12 : decode cX4_time 12 = .ok (.iaload, 1) := by decide +kernel
theorem dX4_time_13 : decode cX4_time 13 = .ok (.iconst 1, 1) := by decide +kernel
theorem dX4_time_14 : decode cX4_time 14 = .ok (.iadd, 1) := by decide +kernel
theorem dX4_time_15 : decode cX4_time 15 = .ok (.aload_n 1, 1) := by decide +kernel
theorem dX4_time_16 : decode cX4_time 16 = .ok (.iconst 4, 1) := by decide +kernel
theorem dX4_time_17 : decode cX4_time 17 = .ok (.iaload, 1) := by decide +kernel
theorem dX4_time_18 : decode cX4_time 18 = .ok (.iadd, 1) := by decide +kernel
theorem dX4_time_19 : decode cX4_time 19 = .ok (.ireturn, 1) := by decide +kernel
set_option maxRecDepth 20000 in
theorem ggX4_counts_X4_time : GoodIn wsX4_counts wsX4_time := goodIn_r _ [9] (by decide +kernel) (by decide +kernel)
set_option maxRecDepth 20000 in
theorem gX4_counts_X4_time : GoodIn wsX4_counts (wsV RX4 48 RX4 yX4_time wsX4_time) := goodIn_app (goodIn_of _ (by decide +kernel)) ggX4_counts_X4_time
theorem dX4_counts_0 : decode cX4_counts 0 = .ok (.iconst 0, 1) := by decide +kernel
theorem dX4_counts_1 : decode cX4_counts 1 = .ok (.istore_n 1, 1) := by decide +kernel
theorem dX4_counts_2 : decode cX4_counts 2 = .ok (.iconst 0, 1) := by decide +kernel
theorem dX4_counts_3 : decode cX4_counts 3 = .ok (.istore_n 2, 1) := by decide +kernel
theorem dX4_counts_4 : decode cX4_counts 4 = .ok (.iconst (-1), 1) := by decide +kernel
theorem dX4_counts_5 : decode cX4_counts 5 = .ok (.istore_n 3, 1) := by decide +kernel
theorem dX4_counts_6 : decode cX4_counts 6 = .ok (.iconst (-1), 1) := by decide +kernel
theorem dX4_counts_7 : decode cX4_counts 7 = .ok (.istore 4, 2) := by decide +kernel
theorem dX4_counts_9 : decode cX4_counts 9 = .ok (.aload_n 0, 1) := by decide +kernel
theorem dX4_counts_10 : decode cX4_counts 10 = .ok (.getfield 17, 3) := by decide +kernel
theorem dX4_counts_13 : decode cX4_counts 13 = .ok (.arraylength, 1) := by decide +kernel
theorem dX4_counts_14 : decode cX4_counts 14 = .ok (.iconst 1, 1) := by decide +kernel
theorem dX4_counts_15 : decode cX4_counts 15 = .ok (.isub, 1) := by decide +kernel
theorem dX4_counts_16 : decode cX4_counts 16 = .ok (.istore 5, 2) := by decide +kernel
theorem dX4_counts_18 : decode cX4_counts 18 = .ok (.iload 5, 2) := by decide +kernel
theorem dX4_counts_20 : decode cX4_counts 20 = .ok (.ifCond .lt 89, 3) := by decide +kernel
theorem dX4_counts_23 : decode cX4_counts 23 = .ok (.aload_n 0, 1) := by decide +kernel
theorem dX4_counts_24 : decode cX4_counts 24 = .ok (.getfield 17, 3) := by decide +kernel
theorem dX4_counts_27 : decode cX4_counts 27 = .ok (.iload 5, 2) := by decide +kernel
theorem dX4_counts_29 : decode cX4_counts 29 = .ok (.aaload, 1) := by decide +kernel
theorem dX4_counts_30 : decode cX4_counts 30 = .ok (.astore 6, 2) := by decide +kernel
theorem dX4_counts_32 : decode cX4_counts 32 = .ok (.iload_n 2, 1) := by decide +kernel
theorem dX4_counts_33 : decode cX4_counts 33 = .ok (.aload 6, 2) := by decide +kernel
theorem dX4_counts_35 : decode cX4_counts 35 = .ok (.iconst 4, 1) := by decide +kernel
theorem dX4_counts_36 : decode cX4_counts 36 = .ok (.iaload, 1) := by decide +kernel
theorem dX4_counts_37 : decode cX4_counts 37 = .ok (.iadd, 1) := by decide +kernel
theorem dX4_counts_38 : decode cX4_counts 38 = .ok (.istore_n 2, 1) := by decide +kernel
theorem dX4_counts_39 : decode cX4_counts 39 = .ok (.aload 6, 2) := by decide +kernel
theorem dX4_counts_41 : decode cX4_counts 41 = .ok (.iconst 5, 1) := by decide +kernel
theorem dX4_counts_42 : decode cX4_counts 42 = .ok (.iaload, 1) := by decide +kernel
theorem dX4_counts_43 : decode cX4_counts 43 = .ok (.ifCond .ge 28, 3) := by decide +kernel
theorem dX4_counts_46 : decode cX4_counts 46 = .ok (.iload_n 3, 1) := by decide +kernel
theorem dX4_counts_47 : decode cX4_counts 47 = .ok (.ifCond .lt 18, 3) := by decide +kernel
theorem dX4_counts_50 : decode cX4_counts 50 = .ok (.aload 6, 2) := by decide +kernel
theorem dX4_counts_52 : decode cX4_counts 52 = .ok (.iconst 0, 1) := by decide +kernel
theorem dX4_counts_53 : decode cX4_counts 53 = .ok (.iaload, 1) := by decide +kernel
theorem dX4_counts_54 : decode cX4_counts 54 = .ok (.aload_n 0, 1) := by decide +kernel
theorem dX4_counts_55 : decode cX4_counts 55 = .ok (.getfield 17, 3) := by decide +kernel
theorem dX4_counts_58 : decode cX4_counts 58 = .ok (.iload_n 3, 1) := by decide +kernel
theorem dX4_counts_59 : decode cX4_counts 59 = .ok (.aaload, 1) := by decide +kernel
theorem dX4_counts_60 : decode cX4_counts 60 = .ok (.iconst 0, 1) := by decide +kernel
theorem dX4_counts_61 : decode cX4_counts 61 = .ok (.iaload, 1) := by decide +kernel
theorem dX4_counts_62 : decode cX4_counts 62 = .ok (.if_icmp .lt 41, 3) := by decide +kernel
theorem dX4_counts_65 : decode cX4_counts 65 = .ok (.iload 5, 2) := by decide +kernel
theorem dX4_counts_67 : decode cX4_counts 67 = .ok (.istore_n 3, 1) := by decide +kernel
theorem dX4_counts_68 : decode cX4_counts 68 = .ok (.goto 35, 3) := by decide +kernel
theorem dX4_counts_71 : decode cX4_counts 71 = .ok (.iinc 1 1, 3) := by decide +kernel
theorem dX4_counts_74 : decode cX4_counts 74 = .ok (.iload 4, 2) := by decide +kernel
theorem dX4_counts_76 : decode cX4_counts 76 = .ok (.ifCond .lt 23, 3) := by decide +kernel
theorem dX4_counts_79 : decode cX4_counts 79 = .ok (.aload_n 0, 1) := by decide +kernel
theorem dX4_counts_80 : decode cX4_counts 80 = .ok (.aload 6, 2) := by decide +kernel
theorem dX4_counts_82 : decode cX4_counts 82 = .ok (.invokevirtual 48, 3) := by decide +kernel
theorem dX4_counts_85 : decode cX4_counts 85 = .ok (.aload_n 0, 1) := by decide +kernel
theorem dX4_counts_86 : decode cX4_counts 86 = .ok (.aload_n 0, 1) := by decide +kernel
theorem dX4_counts_87 : decode cX4_counts 87 = .ok (.getfield 17, 3) := by decide +kernel
theorem dX4_counts_90 : decode cX4_counts 90 = .ok (.iload 4, 2) := by decide +kernel
theorem dX4_counts_92 : decode cX4_counts 92 = .ok (.aaload, 1) := by decide +kernel
theorem dX4_counts_93 : decode cX4_counts 93 = .ok (.invokevirtual 48, 3) := by decide +kernel
theorem dX4_counts_96 : decode cX4_counts 96 = .ok (.if_icmp .gt 7, 3) := by decide +kernel
theorem dX4_counts_99 : decode cX4_counts 99 = .ok (.iload 5, 2) := by decide +kernel
theorem dX4_counts_101 : decode cX4_counts 101 = .ok (.istore 4, 2) := by decide +kernel
theorem dX4_counts_103 : decode cX4_counts 103 = .ok (.iinc 5 (-1), 3) := by decide +kernel
theorem dX4_counts_106 : decode cX4_counts 106 = .ok (.goto (-88), 3) := by decide +kernel
theorem dX4_counts_109 : decode cX4_counts 109 = .ok (.bipush 7, 2) := by decide +kernel
theorem dX4_counts_111 : decode cX4_counts 111 = .ok (.newarray .int, 2) := by decide +kernel
theorem dX4_counts_113 : decode cX4_counts 113 = .ok (.dup, 1) := by decide +kernel
theorem dX4_counts_114 : decode cX4_counts 114 = .ok (.iconst 0, 1) := by decide +kernel
theorem dX4_counts_115 : decode cX4_counts 115 = .ok (.aload_n 0, 1) := by decide +kernel
theorem dX4_counts_116 : decode cX4_counts 116 = .ok (.getfield 30, 3) := by decide +kernel
theorem dX4_counts_119 : decode cX4_counts 119 = .ok (.iastore, 1) := by decide +kernel
theorem dX4_counts_120 : decode cX4_counts 120 = .ok (.dup, 1) := by decide +kernel
theorem dX4_counts_121 : decode cX4_counts 121 = .ok (.iconst 1, 1) := by decide +kernel
theorem dX4_counts_122 : decode cX4_counts 122 = .ok (.aload_n 0, 1) := by decide +kernel
theorem dX4_counts_123 : decode cX4_counts 123 = .ok (.getfield 17, 3) := by decide +kernel
theorem dX4_counts_126 : decode cX4_counts 126 = .ok (.arraylength, 1) := by decide +kernel
theorem dX4_counts_127 : decode cX4_counts 127 = .ok (.iastore, 1) := by decide +kernel
theorem dX4_counts_128 : decode cX4_counts 128 = .ok (.dup, 1) := by decide +kernel
theorem dX4_counts_129 : decode cX4_counts 129 = .ok (.iconst 2, 1) := by decide +kernel
theorem dX4_counts_130 : decode cX4_counts 130 = .ok (.aload_n 0, 1) := by decide +kernel
theorem dX4_counts_131 : decode cX4_counts 131 = .ok (.getfield 52, 3) := by decide +kernel
theorem dX4_counts_134 : decode cX4_counts 134 = .ok (.iastore, 1) := by decide +kernel
theorem dX4_counts_135 : decode cX4_counts 135 = .ok (.dup, 1) := by decide +kernel
theorem dX4_counts_136 : decode cX4_counts 136 = .ok (.iconst 3, 1) := by decide +kernel
theorem dX4_counts_137 : decode cX4_counts 137 = .ok (.iload_n 1, 1) := by decide +kernel
theorem dX4_counts_138 : decode cX4_counts 138 = .ok (.iastore, 1) := by decide +kernel
theorem dX4_counts_139 : decode cX4_counts 139 = .ok (.dup, 1) := by decide +kernel
theorem dX4_counts_140 : decode cX4_counts 140 = .ok (.iconst 4, 1) := by decide +kernel
theorem dX4_counts_141 : decode cX4_counts 141 = .ok (.iload_n 2, 1) := by decide +kernel
theorem dX4_counts_142 : decode cX4_counts 142 = .ok (.iastore, 1) := by decide +kernel
theorem dX4_counts_143 : decode cX4_counts 143 = .ok (.dup, 1) := by decide +kernel
theorem dX4_counts_144 : decode cX4_counts 144 = .ok (.iconst 5, 1) := by decide +kernel
theorem dX4_counts_145 : decode cX4_counts 145 = .ok (.iload_n 3, 1) := by decide +kernel
theorem dX4_counts_146 : decode cX4_counts 146 = .ok (.iastore, 1) := by decide +kernel
theorem dX4_counts_147 : decode cX4_counts 147 = .ok (.dup, 1) := by decide +kernel
theorem dX4_counts_148 : decode cX4_counts 148 = .ok (.bipush 6, 2) := by decide +kernel
theorem dX4_counts_150 : decode cX4_counts 150 = .ok (.iload 4, 2) := by decide +kernel
theorem dX4_counts_152 : decode cX4_counts 152 = .ok (.iastore, 1) := by decide +kernel
theorem dX4_counts_153 : decode cX4_counts 153 = .ok (.astore 5, 2) := by decide +kernel
theorem dX4_counts_155 : decode cX4_counts 155 = .ok (.aload 5, 2) := by decide +kernel
theorem dX4_counts_157 : decode cX4_counts 157 = .ok (.areturn, 1) := by decide +kernel
set_option maxRecDepth 20000 in
theorem ggX4_rank_X4_time : GoodIn wsX4_rank wsX4_time := goodIn_r _ [6] (by decide +kernel) (by decide +kernel)
set_option maxRecDepth 20000 in
theorem gX4_rank_X4_time : GoodIn wsX4_rank (wsV RX4 48 RX4 yX4_time wsX4_time) := goodIn_app (goodIn_of _ (by decide +kernel)) ggX4_rank_X4_time
theorem dX4_rank_0 : decode cX4_rank 0 = .ok (.iconst 1, 1) := by decide +kernel
theorem dX4_rank_1 : decode cX4_rank 1 = .ok (.istore_n 2, 1) := by decide +kernel
theorem dX4_rank_2 : decode cX4_rank 2 = .ok (.aload_n 0, 1) := by decide +kernel
theorem dX4_rank_3 : decode cX4_rank 3 = .ok (.getfield 17, 3) := by decide +kernel
theorem dX4_rank_6 : decode cX4_rank 6 = .ok (.astore_n 3, 1) := by decide +kernel
theorem dX4_rank_7 : decode cX4_rank 7 = .ok (.aload_n 3, 1) := by decide +kernel
theorem dX4_rank_8 : decode cX4_rank 8 = .ok (.arraylength, 1) := by decide +kernel
theorem dX4_rank_9 : decode cX4_rank 9 = .ok (.istore 4, 2) := by decide +kernel
theorem dX4_rank_11 : decode cX4_rank 11 = .ok (.iconst 0, 1) := by decide +kernel
theorem dX4_rank_12 : decode cX4_rank 12 = .ok (.istore 5, 2) := by decide +kernel
theorem dX4_rank_14 : decode cX4_rank 14 = .ok (.iload 5, 2) := by decide +kernel
theorem dX4_rank_16 : decode cX4_rank 16 = .ok (.iload 4, 2) := by decide +kernel
theorem dX4_rank_18 : decode cX4_rank 18 = .ok (.if_icmp .ge 78, 3) := by decide +kernel
theorem dX4_rank_21 : decode cX4_rank 21 = .ok (.aload_n 3, 1) := by decide +kernel
theorem dX4_rank_22 : decode cX4_rank 22 = .ok (.iload 5, 2) := by decide +kernel
theorem dX4_rank_24 : decode cX4_rank 24 = .ok (.aaload, 1) := by decide +kernel
theorem dX4_rank_25 : decode cX4_rank 25 = .ok (.astore 6, 2) := by decide +kernel
theorem dX4_rank_27 : decode cX4_rank 27 = .ok (.aload_n 1, 1) := by decide +kernel
theorem dX4_rank_28 : decode cX4_rank 28 = .ok (.iconst 5, 1) := by decide +kernel
theorem dX4_rank_29 : decode cX4_rank 29 = .ok (.iaload, 1) := by decide +kernel
theorem dX4_rank_30 : decode cX4_rank 30 = .ok (.ifCond .ge 31, 3) := by decide +kernel
theorem dX4_rank_33 : decode cX4_rank 33 = .ok (.iload_n 2, 1) := by decide +kernel
theorem dX4_rank_34 : decode cX4_rank 34 = .ok (.aload 6, 2) := by decide +kernel
theorem dX4_rank_36 : decode cX4_rank 36 = .ok (.iconst 5, 1) := by decide +kernel
theorem dX4_rank_37 : decode cX4_rank 37 = .ok (.iaload, 1) := by decide +kernel
theorem dX4_rank_38 : decode cX4_rank 38 = .ok (.ifCond .ge 13, 3) := by decide +kernel
theorem dX4_rank_41 : decode cX4_rank 41 = .ok (.aload 6, 2) := by decide +kernel
theorem dX4_rank_43 : decode cX4_rank 43 = .ok (.iconst 0, 1) := by decide +kernel
theorem dX4_rank_44 : decode cX4_rank 44 = .ok (.iaload, 1) := by decide +kernel
theorem dX4_rank_45 : decode cX4_rank 45 = .ok (.aload_n 1, 1) := by decide +kernel
theorem dX4_rank_46 : decode cX4_rank 46 = .ok (.iconst 0, 1) := by decide +kernel
theorem dX4_rank_47 : decode cX4_rank 47 = .ok (.iaload, 1) := by decide +kernel
theorem dX4_rank_48 : decode cX4_rank 48 = .ok (.if_icmp .le 7, 3) := by decide +kernel
theorem dX4_rank_51 : decode cX4_rank 51 = .ok (.iconst 1, 1) := by decide +kernel
theorem dX4_rank_52 : decode cX4_rank 52 = .ok (.goto 4, 3) := by decide +kernel
theorem dX4_rank_55 : decode cX4_rank 55 = .ok (.iconst 0, 1) := by decide +kernel
theorem dX4_rank_56 : decode cX4_rank 56 = .ok (.iadd, 1) := by decide +kernel
theorem dX4_rank_57 : decode cX4_rank 57 = .ok (.istore_n 2, 1) := by decide +kernel
theorem dX4_rank_58 : decode cX4_rank 58 = .ok (.goto 32, 3) := by decide +kernel
theorem dX4_rank_61 : decode cX4_rank 61 = .ok (.iload_n 2, 1) := by decide +kernel
theorem dX4_rank_62 : decode cX4_rank 62 = .ok (.aload 6, 2) := by decide +kernel
theorem dX4_rank_64 : decode cX4_rank 64 = .ok (.iconst 5, 1) := by decide +kernel
theorem dX4_rank_65 : decode cX4_rank 65 = .ok (.iaload, 1) := by decide +kernel
theorem dX4_rank_66 : decode cX4_rank 66 = .ok (.ifCond .lt 21, 3) := by decide +kernel
theorem dX4_rank_69 : decode cX4_rank 69 = .ok (.aload_n 0, 1) := by decide +kernel
theorem dX4_rank_70 : decode cX4_rank 70 = .ok (.aload 6, 2) := by decide +kernel
theorem dX4_rank_72 : decode cX4_rank 72 = .ok (.invokevirtual 48, 3) := by decide +kernel
theorem dX4_rank_75 : decode cX4_rank 75 = .ok (.aload_n 0, 1) := by decide +kernel
theorem dX4_rank_76 : decode cX4_rank 76 = .ok (.aload_n 1, 1) := by decide +kernel
theorem dX4_rank_77 : decode cX4_rank 77 = .ok (.invokevirtual 48, 3) := by decide +kernel
theorem dX4_rank_80 : decode cX4_rank 80 = .ok (.if_icmp .ge 7, 3) := by decide +kernel
theorem dX4_rank_83 : decode cX4_rank 83 = .ok (.iconst 1, 1) := by decide +kernel
theorem dX4_rank_84 : decode cX4_rank 84 = .ok (.goto 4, 3) := by decide +kernel
theorem dX4_rank_87 : decode cX4_rank 87 = .ok (.iconst 0, 1) := by decide +kernel
theorem dX4_rank_88 : decode cX4_rank 88 = .ok (.iadd, 1) := by decide +kernel
theorem dX4_rank_89 : decode cX4_rank 89 = .ok (.istore_n 2, 1) := by decide +kernel
theorem dX4_rank_90 : decode cX4_rank 90 = .ok (.iinc 5 1, 3) := by decide +kernel
theorem dX4_rank_93 : decode cX4_rank 93 = .ok (.goto (-79), 3) := by decide +kernel
theorem dX4_rank_96 : decode cX4_rank 96 = .ok (.iload_n 2, 1) := by decide +kernel
theorem dX4_rank_97 : decode cX4_rank 97 = .ok (.ireturn, 1) := by decide +kernel
set_option maxRecDepth 20000 in
theorem ggX4_isSame_X4_time : GoodIn wsX4_isSame wsX4_time := goodIn_r _ [7] (by decide +kernel) (by decide +kernel)
set_option maxRecDepth 20000 in
theorem gX4_isSame_X4_time : GoodIn wsX4_isSame (wsV RX4 48 RX4 yX4_time wsX4_time) := goodIn_app (goodIn_of _ (by decide +kernel)) ggX4_isSame_X4_time
set_option maxRecDepth 20000 in
theorem ggX4_isSame_X3_boat : GoodIn wsX4_isSame wsX3_boat := goodIn_ca (goodIn_r _ [12, 13, 14, 15, 16, 17, 18, 19, 20, 21, 22, 23, 24, 25, 26, 27, 28, 29, 30, 31, 32, 33, 34, 35, 36, 37, 38, 39, 40, 113, 114, 115, 116, 117, 118, 119, 120, 121, 122, 123, 124, 125, 126, 127, 128, 129, 130] (by decide +kernel) (by decide +kernel)) (goodIn_sub (fun _ h => List.mem_cons_of_mem _ (List.mem_append_right _ h)) (by decide +kernel))
set_option maxRecDepth 20000 in
theorem gX4_isSame_X3_boat : GoodIn wsX4_isSame (wsV RX4 66 RX3 yX3_boat wsX3_boat) := goodIn_app (goodIn_of _ (by decide +kernel)) ggX4_isSame_X3_boat
set_option maxRecDepth 20000 in
theorem ggX4_isSame_X3_rank : GoodIn wsX4_isSame wsX3_rank := goodIn_ca (goodIn_r _ [44, 13, 14, 15, 16, 17, 18, 19, 20, 21, 22, 45, 46, 47, 48, 49, 50, 51, 52, 26, 53, 33, 28, 36, 37, 38, 39, 40, 32, 113, 114, 115, 116, 117, 118, 119, 120, 121, 122, 123, 124, 125, 126, 127, 128, 129, 130] (by decide +kernel) (by decide +kernel)) (goodIn_sub (fun _ h => List.mem_cons_of_mem _ (List.mem_append_right _ h)) (by decide +kernel))
set_option maxRecDepth 20000 in
theorem gX4_isSame_X3_rank : GoodIn wsX4_isSame (wsV RX4 71 RX3 yX3_rank wsX3_rank) := goodIn_app (goodIn_of _ (by decide +kernel)) ggX4_isSame_X3_rank
set_option maxRecDepth 20000 in
theorem ggX4_isSame_X4_rank : GoodIn wsX4_isSame wsX4_rank := goodIn_r _ [57, 1, 3, 4, 5, 6, 7, 107, 108, 109, 110, 111, 112] (by decide +kernel) (by decide +kernel)
set_option maxRecDepth 20000 in
theorem gX4_isSame_X4_rank : GoodIn wsX4_isSame (wsV RX4 74 RX4 yX4_rank wsX4_rank) := goodIn_app (goodIn_of _ (by decide +kernel)) ggX4_isSame_X4_rank
set_option maxRecDepth 20000 in
theorem ggX4_isSame_X4_counts : GoodIn wsX4_isSame wsX4_counts := goodIn_r _ [61, 1, 2, 62, 63, 3, 4, 5, 6, 7, 107, 108, 109, 110, 111, 112] (by decide +kernel) (by decide +kernel)
set_option maxRecDepth 20000 in
theorem gX4_isSame_X4_counts : GoodIn wsX4_isSame (wsV RX4 76 RX4 yX4_counts wsX4_counts) := goodIn_app (goodIn_of _ (by decide +kernel)) ggX4_isSame_X4_counts
set_option maxRecDepth 20000 in
theorem ggX4_isSame_X3_count : GoodIn wsX4_isSame wsX3_count := goodIn_ca (goodIn_r _ [67, 13, 14, 15, 68, 69, 70, 11, 71, 72, 73, 74, 75, 76, 77, 78, 20, 79, 22, 49, 80, 81, 82, 26, 83, 33, 84, 85, 86, 87, 88, 89, 90, 91, 92, 93, 94, 95, 96, 97, 98, 37, 38, 39, 40, 32, 113, 114, 115, 116, 117, 118, 131, 132, 133, 134, 119, 120, 121, 122, 123, 124, 125, 126, 127, 128, 129, 130] (by decide +kernel) (by decide +kernel)) (goodIn_sub (fun _ h => List.mem_cons_of_mem _ (List.mem_append_right _ h)) (by decide +kernel))
set_option maxRecDepth 20000 in
theorem gX4_isSame_X3_count : GoodIn wsX4_isSame (wsV RX4 80 RX3 yX3_count wsX3_count) := goodIn_app (goodIn_of _ (by decide +kernel)) ggX4_isSame_X3_count
set_option maxRecDepth 20000 in
theorem ggX4_isSame_X3_mean : GoodIn wsX4_isSame wsX3_mean := goodIn_r _ [102, 15, 73, 103, 104, 105, 20, 106, 22, 49, 93, 113, 114, 115, 116, 117, 118, 119, 120, 121, 122, 123, 124, 125, 126, 127, 128, 129, 130] (by decide +kernel) (by decide +kernel)
set_option maxRecDepth 20000 in
theorem gX4_isSame_X3_mean : GoodIn wsX4_isSame (wsV RX4 83 RX3 yX3_mean wsX3_mean) := goodIn_app (goodIn_of _ (by decide +kernel)) ggX4_isSame_X3_mean
theorem dX4_isSame_0 : decode cX4_isSame 0 = .ok (.iconst 0, 1) := by decide +kernel
theorem dX4_isSame_1 : decode cX4_isSame 1 = .ok (.istore_n 2, 1) := by decide +kernel
theorem dX4_isSame_2 : decode cX4_isSame 2 = .ok (.iconst 0, 1) := by decide +kernel
theorem dX4_isSame_3 : decode cX4_isSame 3 = .ok (.istore_n 3, 1) := by decide +kernel
theorem dX4_isSame_4 : decode cX4_isSame 4 = .ok (.iload_n 3, 1) := by decide +kernel
theorem dX4_isSame_5 : decode cX4_isSame 5 = .ok (.aload_n 0, 1) := by decide +kernel
theorem dX4_isSame_6 : decode cX4_isSame 6 = .ok (.getfield 17, 3) := by decide +kernel
theorem dX4_isSame_9 : decode cX4_isSame 9 = .ok (.arraylength, 1) := by decide +kernel
theorem dX4_isSame_10 : decode cX4_isSame 10 = .ok (.if_icmp .ge 157, 3) := by decide +kernel
theorem dX4_isSame_13 : decode cX4_isSame 13 = .ok (.aload_n 0, 1) := by decide +kernel
theorem dX4_isSame_14 : decode cX4_isSame 14 = .ok (.getfield 17, 3) := by decide +kernel
theorem dX4_isSame_17 : decode cX4_isSame 17 = .ok (.iload_n 3, 1) := by decide +kernel
theorem dX4_isSame_18 : decode cX4_isSame 18 = .ok (.aaload, 1) := by decide +kernel
theorem dX4_isSame_19 : decode cX4_isSame 19 = .ok (.astore 4, 2) := by decide +kernel
theorem dX4_isSame_21 : decode cX4_isSame 21 = .ok (.bipush 9, 2) := by decide +kernel
theorem dX4_isSame_23 : decode cX4_isSame 23 = .ok (.newarray .int, 2) := by decide +kernel
theorem dX4_isSame_25 : decode cX4_isSame 25 = .ok (.dup, 1) := by decide +kernel
theorem dX4_isSame_26 : decode cX4_isSame 26 = .ok (.iconst 0, 1) := by decide +kernel
theorem dX4_isSame_27 : decode cX4_isSame 27 = .ok (.aload 4, 2) := by decide +kernel
theorem dX4_isSame_29 : decode cX4_isSame 29 = .ok (.iconst 0, 1) := by decide +kernel
theorem dX4_isSame_30 : decode cX4_isSame 30 = .ok (.iaload, 1) := by decide +kernel
theorem dX4_isSame_31 : decode cX4_isSame 31 = .ok (.iastore, 1) := by decide +kernel
theorem dX4_isSame_32 : decode cX4_isSame 32 = .ok (.dup, 1) := by decide +kernel
theorem dX4_isSame_33 : decode cX4_isSame 33 = .ok (.iconst 1, 1) := by decide +kernel
theorem dX4_isSame_34 : decode cX4_isSame 34 = .ok (.aload 4, 2) := by decide +kernel
theorem dX4_isSame_36 : decode cX4_isSame 36 = .ok (.iconst 1, 1) := by decide +kernel
theorem dX4_isSame_37 : decode cX4_isSame 37 = .ok (.iaload, 1) := by decide +kernel
theorem dX4_isSame_38 : decode cX4_isSame 38 = .ok (.iastore, 1) := by decide +kernel
theorem dX4_isSame_39 : decode cX4_isSame 39 = .ok (.dup, 1) := by decide +kernel
theorem dX4_isSame_40 : decode cX4_isSame 40 = .ok (.iconst 2, 1) := by decide +kernel
theorem dX4_isSame_41 : decode cX4_isSame 41 = .ok (.aload 4, 2) := by decide +kernel
theorem dX4_isSame_43 : decode cX4_isSame 43 = .ok (.iconst 2, 1) := by decide +kernel
theorem dX4_isSame_44 : decode cX4_isSame 44 = .ok (.iaload, 1) := by decide +kernel
theorem dX4_isSame_45 : decode cX4_isSame 45 = .ok (.iastore, 1) := by decide +kernel
theorem dX4_isSame_46 : decode cX4_isSame 46 = .ok (.dup, 1) := by decide +kernel
theorem dX4_isSame_47 : decode cX4_isSame 47 = .ok (.iconst 3, 1) := by decide +kernel
theorem dX4_isSame_48 : decode cX4_isSame 48 = .ok (.aload 4, 2) := by decide +kernel
theorem dX4_isSame_50 : decode cX4_isSame 50 = .ok (.iconst 3, 1) := by decide +kernel
theorem dX4_isSame_51 : decode cX4_isSame 51 = .ok (.iaload, 1) := by decide +kernel
theorem dX4_isSame_52 : decode cX4_isSame 52 = .ok (.iastore, 1) := by decide +kernel
theorem dX4_isSame_53 : decode cX4_isSame 53 = .ok (.dup, 1) := by decide +kernel
theorem dX4_isSame_54 : decode cX4_isSame 54 = .ok (.iconst 4, 1) := by decide +kernel
theorem dX4_isSame_55 : decode cX4_isSame 55 = .ok (.aload 4, 2) := by decide +kernel
theorem dX4_isSame_57 : decode cX4_isSame 57 = .ok (.iconst 4, 1) := by decide +kernel
theorem dX4_isSame_58 : decode cX4_isSame 58 = .ok (.iaload, 1) := by decide +kernel
theorem dX4_isSame_59 : decode cX4_isSame 59 = .ok (.iastore, 1) := by decide +kernel
theorem dX4_isSame_60 : decode cX4_isSame 60 = .ok (.dup, 1) := by decide +kernel
theorem dX4_isSame_61 : decode cX4_isSame 61 = .ok (.iconst 5, 1) := by decide +kernel
theorem dX4_isSame_62 : decode cX4_isSame 62 = .ok (.aload 4, 2) := by decide +kernel
theorem dX4_isSame_64 : decode cX4_isSame 64 = .ok (.iconst 5, 1) := by decide +kernel
theorem dX4_isSame_65 : decode cX4_isSame 65 = .ok (.iaload, 1) := by decide +kernel
theorem dX4_isSame_66 : decode cX4_isSame 66 = .ok (.ifCond .ge 7, 3) := by decide +kernel
theorem dX4_isSame_69 : decode cX4_isSame 69 = .ok (.iconst 0, 1) := by decide +kernel
theorem dX4_isSame_70 : decode cX4_isSame 70 = .ok (.goto 4, 3) := by decide +kernel
theorem dX4_isSame_73 : decode cX4_isSame 73 = .ok (.iconst 1, 1) := by decide +kernel
theorem dX4_isSame_74 : decode cX4_isSame 74 = .ok (.iastore, 1) := by decide +kernel
theorem dX4_isSame_75 : decode cX4_isSame 75 = .ok (.dup, 1) := by decide +kernel
theorem dX4_isSame_76 : decode cX4_isSame 76 = .ok (.bipush 6, 2) := by decide +kernel
theorem dX4_isSame_78 : decode cX4_isSame 78 = .ok (.aload_n 0, 1) := by decide +kernel
theorem dX4_isSame_79 : decode cX4_isSame 79 = .ok (.aload 4, 2) := by decide +kernel
theorem dX4_isSame_81 : decode cX4_isSame 81 = .ok (.invokevirtual 48, 3) := by decide +kernel
theorem dX4_isSame_84 : decode cX4_isSame 84 = .ok (.iastore, 1) := by decide +kernel
theorem dX4_isSame_85 : decode cX4_isSame 85 = .ok (.dup, 1) := by decide +kernel
theorem dX4_isSame_86 : decode cX4_isSame 86 = .ok (.bipush 7, 2) := by decide +kernel
theorem dX4_isSame_88 : decode cX4_isSame 88 = .ok (.aload 4, 2) := by decide +kernel
theorem dX4_isSame_90 : decode cX4_isSame 90 = .ok (.bipush 6, 2) := by decide +kernel
theorem dX4_isSame_92 : decode cX4_isSame 92 = .ok (.iaload, 1) := by decide +kernel
theorem dX4_isSame_93 : decode cX4_isSame 93 = .ok (.iastore, 1) := by decide +kernel
theorem dX4_isSame_94 : decode cX4_isSame 94 = .ok (.dup, 1) := by decide +kernel
theorem dX4_isSame_95 : decode cX4_isSame 95 = .ok (.bipush 8, 2) := by decide +kernel
theorem dX4_isSame_97 : decode cX4_isSame 97 = .ok (.aload 4, 2) := by decide +kernel
theorem dX4_isSame_99 : decode cX4_isSame 99 = .ok (.bipush 7, 2) := by decide +kernel
theorem dX4_isSame_101 : decode cX4_isSame 101 = .ok (.iaload, 1) := by decide +kernel
theorem dX4_isSame_102 : decode cX4_isSame 102 = .ok (.iastore, 1) := by decide +kernel
theorem dX4_isSame_103 : decode cX4_isSame 103 = .ok (.astore 5, 2) := by decide +kernel
theorem dX4_isSame_105 : decode cX4_isSame 105 = .ok (.iconst 0, 1) := by decide +kernel
theorem dX4_isSame_106 : decode cX4_isSame 106 = .ok (.istore 6, 2) := by decide +kernel
theorem dX4_isSame_108 : decode cX4_isSame 108 = .ok (.iload 6, 2) := by decide +kernel
theorem dX4_isSame_110 : decode cX4_isSame 110 = .ok (.bipush 9, 2) := by decide +kernel
theorem dX4_isSame_112 : decode cX4_isSame 112 = .ok (.if_icmp .ge 26, 3) := by decide +kernel
theorem dX4_isSame_115 : decode cX4_isSame 115 = .ok (.aload_n 1, 1) := by decide +kernel
theorem dX4_isSame_116 : decode cX4_isSame 116 = .ok (.iload_n 3, 1) := by decide +kernel
theorem dX4_isSame_117 : decode cX4_isSame 117 = .ok (.iload 6, 2) := by decide +kernel
theorem dX4_isSame_119 : decode cX4_isSame 119 = .ok (.invokevirtual 66, 3) := by decide +kernel
theorem dX4_isSame_122 : decode cX4_isSame 122 = .ok (.aload 5, 2) := by decide +kernel
theorem dX4_isSame_124 : decode cX4_isSame 124 = .ok (.iload 6, 2) := by decide +kernel
theorem dX4_isSame_126 : decode cX4_isSame 126 = .ok (.iaload, 1) := by decide +kernel
theorem dX4_isSame_127 : decode cX4_isSame 127 = .ok (.if_icmp .eq 5, 3) := by decide +kernel
theorem dX4_isSame_130 : decode cX4_isSame 130 = .ok (.iconst 0, 1) := by decide +kernel
theorem dX4_isSame_131 : decode cX4_isSame 131 = .ok (.ireturn, 1) := by decide +kernel
theorem dX4_isSame_132 : decode cX4_isSame 132 = .ok (.iinc 6 1, 3) := by decide +kernel
theorem dX4_isSame_135 : decode cX4_isSame 135 = .ok (.goto (-27), 3) := by decide +kernel
theorem dX4_isSame_138 : decode cX4_isSame 138 = .ok (.aload_n 1, 1) := by decide +kernel
theorem dX4_isSame_139 : decode cX4_isSame 139 = .ok (.iload_n 3, 1) := by decide +kernel
theorem dX4_isSame_140 : decode cX4_isSame 140 = .ok (.invokevirtual 71, 3) := by decide +kernel
theorem dX4_isSame_143 : decode cX4_isSame 143 = .ok (.aload_n 0, 1) := by decide +kernel
theorem dX4_isSame_144 : decode cX4_isSame 144 = .ok (.aload 4, 2) := by decide +kernel
theorem dX4_isSame_146 : decode cX4_isSame 146 = .ok (.invokevirtual 74, 3) := by decide +kernel
theorem dX4_isSame_149 : decode cX4_isSame 149 = .ok (.if_icmp .eq 5, 3) := by decide +kernel
theorem dX4_isSame_152 : decode cX4_isSame 152 = .ok (.iconst 0, 1) := by decide +kernel
theorem dX4_isSame_153 : decode cX4_isSame 153 = .ok (.ireturn, 1) := by decide +kernel
theorem dX4_isSame_154 : decode cX4_isSame 154 = .ok (.iload_n 2, 1) := by decide +kernel
theorem dX4_isSame_155 : decode cX4_isSame 155 = .ok (.aload 4, 2) := by decide +kernel
theorem dX4_isSame_157 : decode cX4_isSame 157 = .ok (.iconst 0, 1) := by decide +kernel
theorem dX4_isSame_158 : decode cX4_isSame 158 = .ok (.iaload, 1) := by decide +kernel
theorem dX4_isSame_159 : decode cX4_isSame 159 = .ok (.iadd, 1) := by decide +kernel
theorem dX4_isSame_160 : decode cX4_isSame 160 = .ok (.istore_n 2, 1) := by decide +kernel
theorem dX4_isSame_161 : decode cX4_isSame 161 = .ok (.iinc 3 1, 3) := by decide +kernel
theorem dX4_isSame_164 : decode cX4_isSame 164 = .ok (.goto (-160), 3) := by decide +kernel
theorem dX4_isSame_167 : decode cX4_isSame 167 = .ok (.aload_n 0, 1) := by decide +kernel
theorem dX4_isSame_168 : decode cX4_isSame 168 = .ok (.invokevirtual 76, 3) := by decide +kernel
theorem dX4_isSame_171 : decode cX4_isSame 171 = .ok (.astore_n 3, 1) := by decide +kernel
theorem dX4_isSame_172 : decode cX4_isSame 172 = .ok (.iconst 0, 1) := by decide +kernel
theorem dX4_isSame_173 : decode cX4_isSame 173 = .ok (.istore 4, 2) := by decide +kernel
theorem dX4_isSame_175 : decode cX4_isSame 175 = .ok (.iload 4, 2) := by decide +kernel
theorem dX4_isSame_177 : decode cX4_isSame 177 = .ok (.bipush 7, 2) := by decide +kernel
theorem dX4_isSame_179 : decode cX4_isSame 179 = .ok (.if_icmp .ge 24, 3) := by decide +kernel
theorem dX4_isSame_182 : decode cX4_isSame 182 = .ok (.aload_n 1, 1) := by decide +kernel
theorem dX4_isSame_183 : decode cX4_isSame 183 = .ok (.iload 4, 2) := by decide +kernel
theorem dX4_isSame_185 : decode cX4_isSame 185 = .ok (.invokevirtual 80, 3) := by decide +kernel
theorem dX4_isSame_188 : decode cX4_isSame 188 = .ok (.aload_n 3, 1) := by decide +kernel
theorem dX4_isSame_189 : decode cX4_isSame 189 = .ok (.iload 4, 2) := by decide +kernel
theorem dX4_isSame_191 : decode cX4_isSame 191 = .ok (.iaload, 1) := by decide +kernel
theorem dX4_isSame_192 : decode cX4_isSame 192 = .ok (.if_icmp .eq 5, 3) := by decide +kernel
theorem dX4_isSame_195 : decode cX4_isSame 195 = .ok (.iconst 0, 1) := by decide +kernel
theorem dX4_isSame_196 : decode cX4_isSame 196 = .ok (.ireturn, 1) := by decide +kernel
theorem dX4_isSame_197 : decode cX4_isSame 197 = .ok (.iinc 4 1, 3) := by decide +kernel
theorem dX4_isSame_200 : decode cX4_isSame 200 = .ok (.goto (-25), 3) := by decide +kernel
theorem dX4_isSame_203 : decode cX4_isSame 203 = .ok (.aload_n 1, 1) := by decide +kernel
theorem dX4_isSame_204 : decode cX4_isSame 204 = .ok (.invokevirtual 83, 3) := by decide +kernel
theorem dX4_isSame_207 : decode cX4_isSame 207 = .ok (.aload_n 0, 1) := by decide +kernel
theorem dX4_isSame_208 : decode cX4_isSame 208 = .ok (.getfield 17, 3) := by decide +kernel
theorem dX4_isSame_211 : decode cX4_isSame 211 = .ok (.arraylength, 1) := by decide +kernel
theorem dX4_isSame_212 : decode cX4_isSame 212 = .ok (.ifCond .ne 7, 3) := by decide +kernel
theorem dX4_isSame_215 : decode cX4_isSame 215 = .ok (.dconst 0, 1) := by decide +kernel
theorem dX4_isSame_216 : decode cX4_isSame 216 = .ok (.goto 12, 3) := by decide +kernel
theorem dX4_isSame_219 : decode cX4_isSame 219 = .ok (.iload_n 2, 1) := by decide +kernel
theorem dX4_isSame_220 : decode cX4_isSame 220 = .ok (.i2d, 1) := by decide +kernel
theorem dX4_isSame_221 : decode cX4_isSame 221 = .ok (.aload_n 0, 1) := by decide +kernel
theorem dX4_isSame_222 : decode cX4_isSame 222 = .ok (.getfield 17, 3) := by decide +kernel
theorem dX4_isSame_225 : decode cX4_isSame 225 = .ok (.arraylength, 1) := by decide +kernel
theorem dX4_isSame_226 : decode cX4_isSame 226 = .ok (.i2d, 1) := by decide +kernel
theorem dX4_isSame_227 : decode cX4_isSame 227 = .ok (.ddiv, 1) := by decide +kernel
theorem dX4_isSame_228 : decode cX4_isSame 228 = .ok (.dcmp .l, 1) := by decide +kernel
theorem dX4_isSame_229 : decode cX4_isSame 229 = .ok (.ifCond .ne 7, 3) := by decide +kernel
theorem dX4_isSame_232 : decode cX4_isSame 232 = .ok (.iconst 1, 1) := by decide +kernel
theorem dX4_isSame_233 : decode cX4_isSame 233 = .ok (.goto 4, 3) := by decide +kernel
theorem dX4_isSame_236 : decode cX4_isSame 236 = .ok (.iconst 0, 1) := by decide +kernel
theorem dX4_isSame_237 : decode cX4_isSame 237 = .ok (.ireturn, 1) := by decide +kernel
