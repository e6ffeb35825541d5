theorem dX6_init_0 : decode cX6_init 0 = .ok (.aload_n 0, 1) := by decide +kernel
theorem dX6_init_1 : decode cX6_init 1 = .ok (.invokespecial 1, 3) := by decide +kernel
theorem dX6_init_4 : decode cX6_init 4 = .ok (.aload_n 0, 1) := by decide +kernel
theorem dX6_init_5 : decode cX6_init 5 = .ok (.iconst 0, 1) := by decide +kernel
theorem dX6_init_6 : decode cX6_init 6 = .ok (.anewarray 7, 3) := by decide +kernel
theorem dX6_init_9 : decode cX6_init 9 = .ok (.putfield 9, 3) := by decide +kernel
theorem dX6_init_12 : decode cX6_init 12 = .ok (.aload_n 0, 1) := by decide +kernel
theorem dX6_init_13 : decode cX6_init 13 = .ok (.iconst 0, 1) := by decide +kernel
theorem dX6_init_14 : decode cX6_init 14 = .ok (.anewarray 7, 3) := by decide +kernel
theorem dX6_init_17 : decode cX6_init 17 = .ok (.putfield 15, 3) := by decide +kernel
theorem dX6_init_20 : decode cX6_init 20 = .ok (.aload_n 0, 1) := by decide +kernel
theorem dX6_init_21 : decode cX6_init 21 = .ok (.iconst 0, 1) := by decide +kernel
theorem dX6_init_22 : decode cX6_init 22 = .ok (.anewarray 7, 3) := by decide +kernel
theorem dX6_init_25 : decode cX6_init 25 = .ok (.putfield 18, 3) := by decide +kernel
theorem dX6_init_28 : decode cX6_init 28 = .ok (.aload_n 0, 1) := by decide +kernel
theorem dX6_init_29 : decode cX6_init 29 = .ok (.iconst 0, 1) := by decide +kernel
theorem dX6_init_30 : decode cX6_init 30 = .ok (.anewarray 7, 3) := by decide +kernel
theorem dX6_init_33 : decode cX6_init 33 = .ok (.putfield 21, 3) := by decide +kernel
theorem dX6_init_36 : decode cX6_init 36 = .ok (.aload_n 0, 1) := by decide +kernel
theorem dX6_init_37 : decode cX6_init 37 = .ok (.iconst (-1), 1) := by decide +kernel
theorem dX6_init_38 : decode cX6_init 38 = .ok (.putfield 24, 3) := by decide +kernel
theorem dX6_init_41 : decode cX6_init 41 = .ok (.return_, 1) := by decide +kernel
theorem dX6_more_0 : decode cX6_more 0 = .ok (.aload_n 0, 1) := by decide +kernel
theorem dX6_more_1 : decode cX6_more 1 = .ok (.arraylength, 1) := by decide +kernel
theorem dX6_more_2 : decode cX6_more 2 = .ok (.iconst 1, 1) := by decide +kernel
theorem dX6_more_3 : decode cX6_more 3 = .ok (.iadd, 1) := by decide +kernel
theorem dX6_more_4 : decode cX6_more 4 = .ok (.anewarray 7, 3) := by decide +kernel
theorem dX6_more_7 : decode cX6_more 7 = .ok (.astore_n 2, 1) := by decide +kernel
theorem dX6_more_8 : decode cX6_more 8 = .ok (.iconst 0, 1) := by decide +kernel
theorem dX6_more_9 : decode cX6_more 9 = .ok (.istore_n 3, 1) := by decide +kernel
theorem dX6_more_10 : decode cX6_more 10 = .ok (.iload_n 3, 1) := by decide +kernel
theorem dX6_more_11 : decode cX6_more 11 = .ok (.aload_n 0, 1) := by decide +kernel
theorem dX6_more_12 : decode cX6_more 12 = .ok (.arraylength, 1) := by decide +kernel
theorem dX6_more_13 : decode cX6_more 13 = .ok (.if_icmp .ge 15, 3) := by decide +kernel
theorem dX6_more_16 : decode cX6_more 16 = .ok (.aload_n 2, 1) := by decide +kernel
theorem dX6_more_17 : decode cX6_more 17 = .ok (.iload_n 3, 1) := by decide +kernel
theorem dX6_more_18 : decode cX6_more 18 = .ok (.aload_n 0, 1) := by decide +kernel
theorem dX6_more_19 : decode cX6_more 19 = .ok (.iload_n 3, 1) := by decide +kernel
theorem dX6_more_20 : decode cX6_more 20 = .ok (.aaload, 1) := by decide +kernel
theorem dX6_more_21 : decode cX6_more 21 = .ok (.aastore, 1) := by decide +kernel
theorem dX6_more_22 : decode cX6_more 22 = .ok (.iinc 3 1, 3) := by decide +kernel
theorem dX6_more_25 : decode cX6_more 25 = .ok (.goto (-15), 3) := by decide +kernel
theorem dX6_more_28 : decode cX6_more 28 = .ok (.aload_n 2, 1) := by decide +kernel
theorem dX6_more_29 : decode cX6_more 29 = .ok (.aload_n 0, 1) := by decide +kernel
theorem dX6_more_30 : decode cX6_more 30 = .ok (.arraylength, 1) := by decide +kernel
theorem dX6_more_31 : decode cX6_more 31 = .ok (.aload_n 1, 1) := by decide +kernel
theorem dX6_more_32 : decode cX6_more 32 = .ok (.aastore, 1) := by decide +kernel
theorem dX6_more_33 : decode cX6_more 33 = .ok (.aload_n 2, 1) := by decide +kernel
theorem dX6_more_34 : decode cX6_more 34 = .ok (.areturn, 1) := by decide +kernel
theorem dX6_turned_0 : decode cX6_turned 0 = .ok (.iload_n 0, 1) := by decide +kernel
theorem dX6_turned_1 : decode cX6_turned 1 = .ok (.iload_n 1, 1) := by decide +kernel
theorem dX6_turned_2 : decode cX6_turned 2 = .ok (.iadd, 1) := by decide +kernel
theorem dX6_turned_3 : decode cX6_turned 3 = .ok (.istore_n 2, 1) := by decide +kernel
theorem dX6_turned_4 : decode cX6_turned 4 = .ok (.iload_n 2, 1) := by decide +kernel
theorem dX6_turned_5 : decode cX6_turned 5 = .ok (.ifCond .ge 9, 3) := by decide +kernel
theorem dX6_turned_8 : decode cX6_turned 8 = .ok (.iload_n 2, 1) := by decide +kernel
theorem dX6_turned_9 : decode cX6_turned 9 = .ok (.sipush 360, 3) := by decide +kernel
theorem dX6_turned_12 : decode cX6_turned 12 = .ok (.iadd, 1) := by decide +kernel
theorem dX6_turned_13 : decode cX6_turned 13 = .ok (.ireturn, 1) := by decide +kernel
theorem dX6_turned_14 : decode cX6_turned 14 = .ok (.iload_n 2, 1) := by decide +kernel
theorem dX6_turned_15 : decode cX6_turned 15 = .ok (.sipush 359, 3) := by decide +kernel
theorem dX6_turned_18 : decode cX6_turned 18 = .ok (.if_icmp .le 11, 3) := by decide +kernel
theorem dX6_turned_21 : decode cX6_turned 21 = .ok (.iload_n 2, 1) := by decide +kernel
theorem dX6_turned_22 : decode cX6_turned 22 = .ok (.sipush 360, 3) := by decide +kernel
theorem dX6_turned_25 : decode cX6_turned 25 = .ok (.isub, 1) := by decide +kernel
theorem dX6_turned_26 : decode cX6_turned 26 = .ok (.goto 4, 3) := by decide +kernel
theorem dX6_turned_29 : decode cX6_turned 29 = .ok (.iload_n 2, 1) := by decide +kernel
theorem dX6_turned_30 : decode cX6_turned 30 = .ok (.ireturn, 1) := by decide +kernel
set_option maxRecDepth 20000 in
theorem ggX6_pass_X6_more : GoodIn wsX6_pass wsX6_more := goodIn_r _ [15, 16] (by decide +kernel) (by decide +kernel)
set_option maxRecDepth 20000 in
theorem gX6_pass_X6_more : GoodIn wsX6_pass (va_wsS RX6 53 yX6_more wsX6_more) := goodIn_app (goodIn_of _ (by decide +kernel)) ggX6_pass_X6_more
set_option maxRecDepth 20000 in
theorem ggX6_pass_X6_turned : GoodIn wsX6_pass wsX6_turned := goodIn_r _ [19] (by decide +kernel) (by decide +kernel)
set_option maxRecDepth 20000 in
theorem gX6_pass_X6_turned : GoodIn wsX6_pass (va_wsS RX6 57 yX6_turned wsX6_turned) := goodIn_app (goodIn_of _ (by decide +kernel)) ggX6_pass_X6_turned
theorem dX6_pass_0 : decode cX6_pass 0 = .ok (.iconst 0, 1) := by decide +kernel
theorem dX6_pass_1 : decode cX6_pass 1 = .ok (.istore_n 1, 1) := by decide +kernel
theorem dX6_pass_2 : decode cX6_pass 2 = .ok (.aload_n 0, 1) := by decide +kernel
theorem dX6_pass_3 : decode cX6_pass 3 = .ok (.getfield 40, 3) := by decide +kernel
theorem dX6_pass_6 : decode cX6_pass 6 = .ok (.istore_n 2, 1) := by decide +kernel
theorem dX6_pass_7 : decode cX6_pass 7 = .ok (.aload_n 0, 1) := by decide +kernel
theorem dX6_pass_8 : decode cX6_pass 8 = .ok (.getfield 21, 3) := by decide +kernel
theorem dX6_pass_11 : decode cX6_pass 11 = .ok (.astore_n 3, 1) := by decide +kernel
theorem dX6_pass_12 : decode cX6_pass 12 = .ok (.aload_n 3, 1) := by decide +kernel
theorem dX6_pass_13 : decode cX6_pass 13 = .ok (.arraylength, 1) := by decide +kernel
theorem dX6_pass_14 : decode cX6_pass 14 = .ok (.istore 4, 2) := by decide +kernel
theorem dX6_pass_16 : decode cX6_pass 16 = .ok (.iconst 0, 1) := by decide +kernel
theorem dX6_pass_17 : decode cX6_pass 17 = .ok (.istore 5, 2) := by decide +kernel
theorem dX6_pass_19 : decode cX6_pass 19 = .ok (.iload 5, 2) := by decide +kernel
theorem dX6_pass_21 : decode cX6_pass 21 = .ok (.iload 4, 2) := by decide +kernel
theorem dX6_pass_23 : decode cX6_pass 23 = .ok (.if_icmp .ge 162, 3) := by decide +kernel
theorem dX6_pass_26 : decode cX6_pass 26 = .ok (.aload_n 3, 1) := by decide +kernel
theorem dX6_pass_27 : decode cX6_pass 27 = .ok (.iload 5, 2) := by decide +kernel
theorem dX6_pass_29 : decode cX6_pass 29 = .ok (.aaload, 1) := by decide +kernel
theorem dX6_pass_30 : decode cX6_pass 30 = .ok (.astore 6, 2) := by decide +kernel
theorem dX6_pass_32 : decode cX6_pass 32 = .ok (.iload_n 2, 1) := by decide +kernel
theorem dX6_pass_33 : decode cX6_pass 33 = .ok (.ifCond .eq 146, 3) := by decide +kernel
theorem dX6_pass_36 : decode cX6_pass 36 = .ok (.aload 6, 2) := by decide +kernel
theorem dX6_pass_38 : decode cX6_pass 38 = .ok (.iconst 0, 1) := by decide +kernel
theorem dX6_pass_39 : decode cX6_pass 39 = .ok (.iaload, 1) := by decide +kernel
theorem dX6_pass_40 : decode cX6_pass 40 = .ok (.aload_n 0, 1) := by decide +kernel
theorem dX6_pass_41 : decode cX6_pass 41 = .ok (.getfield 37, 3) := by decide +kernel
theorem dX6_pass_44 : decode cX6_pass 44 = .ok (.if_icmp .eq 6, 3) := by decide +kernel
theorem dX6_pass_47 : decode cX6_pass 47 = .ok (.goto 132, 3) := by decide +kernel
theorem dX6_pass_50 : decode cX6_pass 50 = .ok (.iinc 1 1, 3) := by decide +kernel
theorem dX6_pass_53 : decode cX6_pass 53 = .ok (.aload 6, 2) := by decide +kernel
theorem dX6_pass_55 : decode cX6_pass 55 = .ok (.iconst 1, 1) := by decide +kernel
theorem dX6_pass_56 : decode cX6_pass 56 = .ok (.iaload, 1) := by decide +kernel
theorem dX6_pass_57 : decode cX6_pass 57 = .ok (.ifCond .ne 18, 3) := by decide +kernel
theorem dX6_pass_60 : decode cX6_pass 60 = .ok (.aload_n 0, 1) := by decide +kernel
theorem dX6_pass_61 : decode cX6_pass 61 = .ok (.getfield 9, 3) := by decide +kernel
theorem dX6_pass_64 : decode cX6_pass 64 = .ok (.aload 6, 2) := by decide +kernel
theorem dX6_pass_66 : decode cX6_pass 66 = .ok (.iconst 2, 1) := by decide +kernel
theorem dX6_pass_67 : decode cX6_pass 67 = .ok (.iaload, 1) := by decide +kernel
theorem dX6_pass_68 : decode cX6_pass 68 = .ok (.aaload, 1) := by decide +kernel
theorem dX6_pass_69 : decode cX6_pass 69 = .ok (.iconst 2, 1) := by decide +kernel
theorem dX6_pass_70 : decode cX6_pass 70 = .ok (.aload 6, 2) := by decide +kernel
theorem dX6_pass_72 : decode cX6_pass 72 = .ok (.iconst 3, 1) := by decide +kernel
theorem dX6_pass_73 : decode cX6_pass 73 = .ok (.iaload, 1) := by decide +kernel
theorem dX6_pass_74 : decode cX6_pass 74 = .ok (.iastore, 1) := by decide +kernel
theorem dX6_pass_75 : decode cX6_pass 75 = .ok (.aload 6, 2) := by decide +kernel
theorem dX6_pass_77 : decode cX6_pass 77 = .ok (.iconst 1, 1) := by decide +kernel
theorem dX6_pass_78 : decode cX6_pass 78 = .ok (.iaload, 1) := by decide +kernel
theorem dX6_pass_79 : decode cX6_pass 79 = .ok (.iconst 1, 1) := by decide +kernel
theorem dX6_pass_80 : decode cX6_pass 80 = .ok (.if_icmp .ne 11, 3) := by decide +kernel
theorem dX6_pass_83 : decode cX6_pass 83 = .ok (.aload_n 0, 1) := by decide +kernel
theorem dX6_pass_84 : decode cX6_pass 84 = .ok (.aload 6, 2) := by decide +kernel
theorem dX6_pass_86 : decode cX6_pass 86 = .ok (.iconst 3, 1) := by decide +kernel
theorem dX6_pass_87 : decode cX6_pass 87 = .ok (.iaload, 1) := by decide +kernel
theorem dX6_pass_88 : decode cX6_pass 88 = .ok (.putfield 50, 3) := by decide +kernel
theorem dX6_pass_91 : decode cX6_pass 91 = .ok (.aload 6, 2) := by decide +kernel
theorem dX6_pass_93 : decode cX6_pass 93 = .ok (.iconst 1, 1) := by decide +kernel
theorem dX6_pass_94 : decode cX6_pass 94 = .ok (.iaload, 1) := by decide +kernel
theorem dX6_pass_95 : decode cX6_pass 95 = .ok (.iconst 2, 1) := by decide +kernel
theorem dX6_pass_96 : decode cX6_pass 96 = .ok (.if_icmp .ne 46, 3) := by decide +kernel
theorem dX6_pass_99 : decode cX6_pass 99 = .ok (.aload_n 0, 1) := by decide +kernel
theorem dX6_pass_100 : decode cX6_pass 100 = .ok (.getfield 18, 3) := by decide +kernel
theorem dX6_pass_103 : decode cX6_pass 103 = .ok (.arraylength, 1) := by decide +kernel
theorem dX6_pass_104 : decode cX6_pass 104 = .ok (.bipush 12, 2) := by decide +kernel
theorem dX6_pass_106 : decode cX6_pass 106 = .ok (.if_icmp .ge 36, 3) := by decide +kernel
theorem dX6_pass_109 : decode cX6_pass 109 = .ok (.aload_n 0, 1) := by decide +kernel
theorem dX6_pass_110 : decode cX6_pass 110 = .ok (.aload_n 0, 1) := by decide +kernel
theorem dX6_pass_111 : decode cX6_pass 111 = .ok (.getfield 18, 3) := by decide +kernel
theorem dX6_pass_114 : decode cX6_pass 114 = .ok (.iconst 3, 1) := by decide +kernel
theorem dX6_pass_115 : decode cX6_pass 115 = .ok (.newarray .int, 2) := by decide +kernel
theorem dX6_pass_117 : decode cX6_pass 117 = .ok (.dup, 1) := by decide +kernel
theorem dX6_pass_118 : decode cX6_pass 118 = .ok (.iconst 0, 1) := by decide +kernel
theorem dX6_pass_119 : decode cX6_pass 119 = .ok (.aload 6, 2) := by decide +kernel
theorem dX6_pass_121 : decode cX6_pass 121 = .ok (.iconst 2, 1) := by decide +kernel
theorem dX6_pass_122 : decode cX6_pass 122 = .ok (.iaload, 1) := by decide +kernel
theorem dX6_pass_123 : decode cX6_pass 123 = .ok (.iastore, 1) := by decide +kernel
theorem dX6_pass_124 : decode cX6_pass 124 = .ok (.dup, 1) := by decide +kernel
theorem dX6_pass_125 : decode cX6_pass 125 = .ok (.iconst 1, 1) := by decide +kernel
theorem dX6_pass_126 : decode cX6_pass 126 = .ok (.aload 6, 2) := by decide +kernel
theorem dX6_pass_128 : decode cX6_pass 128 = .ok (.iconst 3, 1) := by decide +kernel
theorem dX6_pass_129 : decode cX6_pass 129 = .ok (.iaload, 1) := by decide +kernel
theorem dX6_pass_130 : decode cX6_pass 130 = .ok (.iastore, 1) := by decide +kernel
theorem dX6_pass_131 : decode cX6_pass 131 = .ok (.dup, 1) := by decide +kernel
theorem dX6_pass_132 : decode cX6_pass 132 = .ok (.iconst 2, 1) := by decide +kernel
theorem dX6_pass_133 : decode cX6_pass 133 = .ok (.bipush 20, 2) := by decide +kernel
theorem dX6_pass_135 : decode cX6_pass 135 = .ok (.iastore, 1) := by decide +kernel
theorem dX6_pass_136 : decode cX6_pass 136 = .ok (.invokestatic 53, 3) := by decide +kernel
theorem dX6_pass_139 : decode cX6_pass 139 = .ok (.putfield 18, 3) := by decide +kernel
theorem dX6_pass_142 : decode cX6_pass 142 = .ok (.aload 6, 2) := by decide +kernel
theorem dX6_pass_144 : decode cX6_pass 144 = .ok (.iconst 1, 1) := by decide +kernel
theorem dX6_pass_145 : decode cX6_pass 145 = .ok (.iaload, 1) := by decide +kernel
theorem dX6_pass_146 : decode cX6_pass 146 = .ok (.iconst 3, 1) := by decide +kernel
theorem dX6_pass_147 : decode cX6_pass 147 = .ok (.if_icmp .ne 19, 3) := by decide +kernel
theorem dX6_pass_150 : decode cX6_pass 150 = .ok (.aload_n 0, 1) := by decide +kernel
theorem dX6_pass_151 : decode cX6_pass 151 = .ok (.aload 6, 2) := by decide +kernel
theorem dX6_pass_153 : decode cX6_pass 153 = .ok (.iconst 2, 1) := by decide +kernel
theorem dX6_pass_154 : decode cX6_pass 154 = .ok (.iaload, 1) := by decide +kernel
theorem dX6_pass_155 : decode cX6_pass 155 = .ok (.putfield 24, 3) := by decide +kernel
theorem dX6_pass_158 : decode cX6_pass 158 = .ok (.aload_n 0, 1) := by decide +kernel
theorem dX6_pass_159 : decode cX6_pass 159 = .ok (.aload 6, 2) := by decide +kernel
theorem dX6_pass_161 : decode cX6_pass 161 = .ok (.iconst 3, 1) := by decide +kernel
theorem dX6_pass_162 : decode cX6_pass 162 = .ok (.iaload, 1) := by decide +kernel
theorem dX6_pass_163 : decode cX6_pass 163 = .ok (.putfield 44, 3) := by decide +kernel
theorem dX6_pass_166 : decode cX6_pass 166 = .ok (.aload 6, 2) := by decide +kernel
theorem dX6_pass_168 : decode cX6_pass 168 = .ok (.iconst 1, 1) := by decide +kernel
theorem dX6_pass_169 : decode cX6_pass 169 = .ok (.iaload, 1) := by decide +kernel
theorem dX6_pass_170 : decode cX6_pass 170 = .ok (.iconst 4, 1) := by decide +kernel
theorem dX6_pass_171 : decode cX6_pass 171 = .ok (.if_icmp .ne 8, 3) := by decide +kernel
theorem dX6_pass_174 : decode cX6_pass 174 = .ok (.aload_n 0, 1) := by decide +kernel
theorem dX6_pass_175 : decode cX6_pass 175 = .ok (.iconst 0, 1) := by decide +kernel
theorem dX6_pass_176 : decode cX6_pass 176 = .ok (.putfield 40, 3) := by decide +kernel
theorem dX6_pass_179 : decode cX6_pass 179 = .ok (.iinc 5 1, 3) := by decide +kernel
theorem dX6_pass_182 : decode cX6_pass 182 = .ok (.goto (-163), 3) := by decide +kernel
theorem dX6_pass_185 : decode cX6_pass 185 = .ok (.iload_n 2, 1) := by decide +kernel
theorem dX6_pass_186 : decode cX6_pass 186 = .ok (.ifCond .eq 13, 3) := by decide +kernel
theorem dX6_pass_189 : decode cX6_pass 189 = .ok (.aload_n 0, 1) := by decide +kernel
theorem dX6_pass_190 : decode cX6_pass 190 = .ok (.dup, 1) := by decide +kernel
theorem dX6_pass_191 : decode cX6_pass 191 = .ok (.getfield 37, 3) := by decide +kernel
theorem dX6_pass_194 : decode cX6_pass 194 = .ok (.iconst 1, 1) := by decide +kernel
theorem dX6_pass_195 : decode cX6_pass 195 = .ok (.iadd, 1) := by decide +kernel
theorem dX6_pass_196 : decode cX6_pass 196 = .ok (.putfield 37, 3) := by decide +kernel
theorem dX6_pass_199 : decode cX6_pass 199 = .ok (.aload_n 0, 1) := by decide +kernel
theorem dX6_pass_200 : decode cX6_pass 200 = .ok (.getfield 9, 3) := by decide +kernel
theorem dX6_pass_203 : decode cX6_pass 203 = .ok (.astore_n 3, 1) := by decide +kernel
theorem dX6_pass_204 : decode cX6_pass 204 = .ok (.aload_n 3, 1) := by decide +kernel
theorem dX6_pass_205 : decode cX6_pass 205 = .ok (.arraylength, 1) := by decide +kernel
theorem dX6_pass_206 : decode cX6_pass 206 = .ok (.istore 4, 2) := by decide +kernel
theorem dX6_pass_208 : decode cX6_pass 208 = .ok (.iconst 0, 1) := by decide +kernel
theorem dX6_pass_209 : decode cX6_pass 209 = .ok (.istore 5, 2) := by decide +kernel
theorem dX6_pass_211 : decode cX6_pass 211 = .ok (.iload 5, 2) := by decide +kernel
theorem dX6_pass_213 : decode cX6_pass 213 = .ok (.iload 4, 2) := by decide +kernel
theorem dX6_pass_215 : decode cX6_pass 215 = .ok (.if_icmp .ge 135, 3) := by decide +kernel
theorem dX6_pass_218 : decode cX6_pass 218 = .ok (.aload_n 3, 1) := by decide +kernel
theorem dX6_pass_219 : decode cX6_pass 219 = .ok (.iload 5, 2) := by decide +kernel
theorem dX6_pass_221 : decode cX6_pass 221 = .ok (.aaload, 1) := by decide +kernel
theorem dX6_pass_222 : decode cX6_pass 222 = .ok (.astore 6, 2) := by decide +kernel
theorem dX6_pass_224 : decode cX6_pass 224 = .ok (.aload 6, 2) := by decide +kernel
theorem dX6_pass_226 : decode cX6_pass 226 = .ok (.iconst 1, 1) := by decide +kernel
theorem dX6_pass_227 : decode cX6_pass 227 = .ok (.iaload, 1) := by decide +kernel
theorem dX6_pass_228 : decode cX6_pass 228 = .ok (.aload 6, 2) := by decide +kernel
theorem dX6_pass_230 : decode cX6_pass 230 = .ok (.iconst 2, 1) := by decide +kernel
theorem dX6_pass_231 : decode cX6_pass 231 = .ok (.iaload, 1) := by decide +kernel
theorem dX6_pass_232 : decode cX6_pass 232 = .ok (.if_icmp .ge 42, 3) := by decide +kernel
theorem dX6_pass_235 : decode cX6_pass 235 = .ok (.aload 6, 2) := by decide +kernel
theorem dX6_pass_237 : decode cX6_pass 237 = .ok (.iconst 1, 1) := by decide +kernel
theorem dX6_pass_238 : decode cX6_pass 238 = .ok (.aload 6, 2) := by decide +kernel
theorem dX6_pass_240 : decode cX6_pass 240 = .ok (.iconst 1, 1) := by decide +kernel
theorem dX6_pass_241 : decode cX6_pass 241 = .ok (.iaload, 1) := by decide +kernel
theorem dX6_pass_242 : decode cX6_pass 242 = .ok (.aload 6, 2) := by decide +kernel
theorem dX6_pass_244 : decode cX6_pass 244 = .ok (.iconst 3, 1) := by decide +kernel
theorem dX6_pass_245 : decode cX6_pass 245 = .ok (.iaload, 1) := by decide +kernel
theorem dX6_pass_246 : decode cX6_pass 246 = .ok (.iadd, 1) := by decide +kernel
theorem dX6_pass_247 : decode cX6_pass 247 = .ok (.aload 6, 2) := by decide +kernel
theorem dX6_pass_249 : decode cX6_pass 249 = .ok (.iconst 2, 1) := by decide +kernel
theorem dX6_pass_250 : decode cX6_pass 250 = .ok (.iaload, 1) := by decide +kernel
theorem dX6_pass_251 : decode cX6_pass 251 = .ok (.if_icmp .le 10, 3) := by decide +kernel
theorem dX6_pass_254 : decode cX6_pass 254 = .ok (.aload 6, 2) := by decide +kernel
theorem dX6_pass_256 : decode cX6_pass 256 = .ok (.iconst 2, 1) := by decide +kernel
theorem dX6_pass_257 : decode cX6_pass 257 = .ok (.iaload, 1) := by decide +kernel
theorem dX6_pass_258 : decode cX6_pass 258 = .ok (.goto 12, 3) := by decide +kernel
theorem dX6_pass_261 : decode cX6_pass 261 = .ok (.aload 6, 2) := by decide +kernel
theorem dX6_pass_263 : decode cX6_pass 263 = .ok (.iconst 1, 1) := by decide +kernel
theorem dX6_pass_264 : decode cX6_pass 264 = .ok (.iaload, 1) := by decide +kernel
theorem dX6_pass_265 : decode cX6_pass 265 = .ok (.aload 6, 2) := by decide +kernel
theorem dX6_pass_267 : decode cX6_pass 267 = .ok (.iconst 3, 1) := by decide +kernel
theorem dX6_pass_268 : decode cX6_pass 268 = .ok (.iaload, 1) := by decide +kernel
theorem dX6_pass_269 : decode cX6_pass 269 = .ok (.iadd, 1) := by decide +kernel
theorem dX6_pass_270 : decode cX6_pass 270 = .ok (.iastore, 1) := by decide +kernel
theorem dX6_pass_271 : decode cX6_pass 271 = .ok (.goto 39, 3) := by decide +kernel
theorem dX6_pass_274 : decode cX6_pass 274 = .ok (.aload 6, 2) := by decide +kernel
theorem dX6_pass_276 : decode cX6_pass 276 = .ok (.iconst 1, 1) := by decide +kernel
theorem dX6_pass_277 : decode cX6_pass 277 = .ok (.aload 6, 2) := by decide +kernel
theorem dX6_pass_279 : decode cX6_pass 279 = .ok (.iconst 1, 1) := by decide +kernel
theorem dX6_pass_280 : decode cX6_pass 280 = .ok (.iaload, 1) := by decide +kernel
theorem dX6_pass_281 : decode cX6_pass 281 = .ok (.aload 6, 2) := by decide +kernel
theorem dX6_pass_283 : decode cX6_pass 283 = .ok (.iconst 3, 1) := by decide +kernel
theorem dX6_pass_284 : decode cX6_pass 284 = .ok (.iaload, 1) := by decide +kernel
theorem dX6_pass_285 : decode cX6_pass 285 = .ok (.isub, 1) := by decide +kernel
theorem dX6_pass_286 : decode cX6_pass 286 = .ok (.aload 6, 2) := by decide +kernel
theorem dX6_pass_288 : decode cX6_pass 288 = .ok (.iconst 2, 1) := by decide +kernel
theorem dX6_pass_289 : decode cX6_pass 289 = .ok (.iaload, 1) := by decide +kernel
theorem dX6_pass_290 : decode cX6_pass 290 = .ok (.if_icmp .ge 10, 3) := by decide +kernel
theorem dX6_pass_293 : decode cX6_pass 293 = .ok (.aload 6, 2) := by decide +kernel
theorem dX6_pass_295 : decode cX6_pass 295 = .ok (.iconst 2, 1) := by decide +kernel
theorem dX6_pass_296 : decode cX6_pass 296 = .ok (.iaload, 1) := by decide +kernel
theorem dX6_pass_297 : decode cX6_pass 297 = .ok (.goto 12, 3) := by decide +kernel
theorem dX6_pass_300 : decode cX6_pass 300 = .ok (.aload 6, 2) := by decide +kernel
theorem dX6_pass_302 : decode cX6_pass 302 = .ok (.iconst 1, 1) := by decide +kernel
theorem dX6_pass_303 : decode cX6_pass 303 = .ok (.iaload, 1) := by decide +kernel
theorem dX6_pass_304 : decode cX6_pass 304 = .ok (.aload 6, 2) := by decide +kernel
theorem dX6_pass_306 : decode cX6_pass 306 = .ok (.iconst 3, 1) := by decide +kernel
theorem dX6_pass_307 : decode cX6_pass 307 = .ok (.iaload, 1) := by decide +kernel
theorem dX6_pass_308 : decode cX6_pass 308 = .ok (.isub, 1) := by decide +kernel
theorem dX6_pass_309 : decode cX6_pass 309 = .ok (.iastore, 1) := by decide +kernel
theorem dX6_pass_310 : decode cX6_pass 310 = .ok (.aload 6, 2) := by decide +kernel
theorem dX6_pass_312 : decode cX6_pass 312 = .ok (.iconst 4, 1) := by decide +kernel
theorem dX6_pass_313 : decode cX6_pass 313 = .ok (.dup2, 1) := by decide +kernel
theorem dX6_pass_314 : decode cX6_pass 314 = .ok (.iaload, 1) := by decide +kernel
theorem dX6_pass_315 : decode cX6_pass 315 = .ok (.aload 6, 2) := by decide +kernel
theorem dX6_pass_317 : decode cX6_pass 317 = .ok (.iconst 1, 1) := by decide +kernel
theorem dX6_pass_318 : decode cX6_pass 318 = .ok (.iaload, 1) := by decide +kernel
theorem dX6_pass_319 : decode cX6_pass 319 = .ok (.bipush 10, 2) := by decide +kernel
theorem dX6_pass_321 : decode cX6_pass 321 = .ok (.idiv, 1) := by decide +kernel
theorem dX6_pass_322 : decode cX6_pass 322 = .ok (.isub, 1) := by decide +kernel
theorem dX6_pass_323 : decode cX6_pass 323 = .ok (.iastore, 1) := by decide +kernel
theorem dX6_pass_324 : decode cX6_pass 324 = .ok (.aload 6, 2) := by decide +kernel
theorem dX6_pass_326 : decode cX6_pass 326 = .ok (.iconst 4, 1) := by decide +kernel
theorem dX6_pass_327 : decode cX6_pass 327 = .ok (.iaload, 1) := by decide +kernel
theorem dX6_pass_328 : decode cX6_pass 328 = .ok (.ifCond .le 6, 3) := by decide +kernel
theorem dX6_pass_331 : decode cX6_pass 331 = .ok (.goto 13, 3) := by decide +kernel
theorem dX6_pass_334 : decode cX6_pass 334 = .ok (.aload 6, 2) := by decide +kernel
theorem dX6_pass_336 : decode cX6_pass 336 = .ok (.iconst 4, 1) := by decide +kernel
theorem dX6_pass_337 : decode cX6_pass 337 = .ok (.iconst 0, 1) := by decide +kernel
theorem dX6_pass_338 : decode cX6_pass 338 = .ok (.iastore, 1) := by decide +kernel
theorem dX6_pass_339 : decode cX6_pass 339 = .ok (.aload 6, 2) := by decide +kernel
theorem dX6_pass_341 : decode cX6_pass 341 = .ok (.iconst 1, 1) := by decide +kernel
theorem dX6_pass_342 : decode cX6_pass 342 = .ok (.iconst 0, 1) := by decide +kernel
theorem dX6_pass_343 : decode cX6_pass 343 = .ok (.iastore, 1) := by decide +kernel
theorem dX6_pass_344 : decode cX6_pass 344 = .ok (.iinc 5 1, 3) := by decide +kernel
theorem dX6_pass_347 : decode cX6_pass 347 = .ok (.goto (-136), 3) := by decide +kernel
theorem dX6_pass_350 : decode cX6_pass 350 = .ok (.aload_n 0, 1) := by decide +kernel
theorem dX6_pass_351 : decode cX6_pass 351 = .ok (.aload_n 0, 1) := by decide +kernel
theorem dX6_pass_352 : decode cX6_pass 352 = .ok (.getfield 47, 3) := by decide +kernel
theorem dX6_pass_355 : decode cX6_pass 355 = .ok (.aload_n 0, 1) := by decide +kernel
theorem dX6_pass_356 : decode cX6_pass 356 = .ok (.getfield 50, 3) := by decide +kernel
theorem dX6_pass_359 : decode cX6_pass 359 = .ok (.invokestatic 57, 3) := by decide +kernel
theorem dX6_pass_362 : decode cX6_pass 362 = .ok (.putfield 47, 3) := by decide +kernel
theorem dX6_pass_365 : decode cX6_pass 365 = .ok (.aload_n 0, 1) := by decide +kernel
theorem dX6_pass_366 : decode cX6_pass 366 = .ok (.getfield 18, 3) := by decide +kernel
theorem dX6_pass_369 : decode cX6_pass 369 = .ok (.astore_n 3, 1) := by decide +kernel
theorem dX6_pass_370 : decode cX6_pass 370 = .ok (.aload_n 3, 1) := by decide +kernel
theorem dX6_pass_371 : decode cX6_pass 371 = .ok (.arraylength, 1) := by decide +kernel
theorem dX6_pass_372 : decode cX6_pass 372 = .ok (.istore 4, 2) := by decide +kernel
theorem dX6_pass_374 : decode cX6_pass 374 = .ok (.iconst 0, 1) := by decide +kernel
theorem dX6_pass_375 : decode cX6_pass 375 = .ok (.istore 5, 2) := by decide +kernel
theorem dX6_pass_377 : decode cX6_pass 377 = .ok (.iload 5, 2) := by decide +kernel
theorem dX6_pass_379 : decode cX6_pass 379 = .ok (.iload 4, 2) := by decide +kernel
theorem dX6_pass_381 : decode cX6_pass 381 = .ok (.if_icmp .ge 48, 3) := by decide +kernel
theorem dX6_pass_384 : decode cX6_pass 384 = .ok (.aload_n 3, 1) := by decide +kernel
theorem dX6_pass_385 : decode cX6_pass 385 = .ok (.iload 5, 2) := by decide +kernel
theorem dX6_pass_387 : decode cX6_pass 387 = .ok (.aaload, 1) := by decide +kernel
theorem dX6_pass_388 : decode cX6_pass 388 = .ok (.astore 6, 2) := by decide +kernel
theorem dX6_pass_390 : decode cX6_pass 390 = .ok (.aload 6, 2) := by decide +kernel
theorem dX6_pass_392 : decode cX6_pass 392 = .ok (.iconst 2, 1) := by decide +kernel
theorem dX6_pass_393 : decode cX6_pass 393 = .ok (.iaload, 1) := by decide +kernel
theorem dX6_pass_394 : decode cX6_pass 394 = .ok (.ifCond .ne 6, 3) := by decide +kernel
theorem dX6_pass_397 : decode cX6_pass 397 = .ok (.goto 26, 3) := by decide +kernel
theorem dX6_pass_400 : decode cX6_pass 400 = .ok (.aload 6, 2) := by decide +kernel
theorem dX6_pass_402 : decode cX6_pass 402 = .ok (.iconst 0, 1) := by decide +kernel
theorem dX6_pass_403 : decode cX6_pass 403 = .ok (.aload 6, 2) := by decide +kernel
theorem dX6_pass_405 : decode cX6_pass 405 = .ok (.iconst 0, 1) := by decide +kernel
theorem dX6_pass_406 : decode cX6_pass 406 = .ok (.iaload, 1) := by decide +kernel
theorem dX6_pass_407 : decode cX6_pass 407 = .ok (.aload 6, 2) := by decide +kernel
theorem dX6_pass_409 : decode cX6_pass 409 = .ok (.iconst 1, 1) := by decide +kernel
theorem dX6_pass_410 : decode cX6_pass 410 = .ok (.iaload, 1) := by decide +kernel
theorem dX6_pass_411 : decode cX6_pass 411 = .ok (.invokestatic 57, 3) := by decide +kernel
theorem dX6_pass_414 : decode cX6_pass 414 = .ok (.iastore, 1) := by decide +kernel
theorem dX6_pass_415 : decode cX6_pass 415 = .ok (.aload 6, 2) := by decide +kernel
theorem dX6_pass_417 : decode cX6_pass 417 = .ok (.iconst 2, 1) := by decide +kernel
theorem dX6_pass_418 : decode cX6_pass 418 = .ok (.dup2, 1) := by decide +kernel
theorem dX6_pass_419 : decode cX6_pass 419 = .ok (.iaload, 1) := by decide +kernel
theorem dX6_pass_420 : decode cX6_pass 420 = .ok (.iconst 1, 1) := by decide +kernel
theorem dX6_pass_421 : decode cX6_pass 421 = .ok (.isub, 1) := by decide +kernel
theorem dX6_pass_422 : decode cX6_pass 422 = .ok (.iastore, 1) := by decide +kernel
theorem dX6_pass_423 : decode cX6_pass 423 = .ok (.iinc 5 1, 3) := by decide +kernel
theorem dX6_pass_426 : decode cX6_pass 426 = .ok (.goto (-49), 3) := by decide +kernel
theorem dX6_pass_429 : decode cX6_pass 429 = .ok (.aload_n 0, 1) := by decide +kernel
theorem dX6_pass_430 : decode cX6_pass 430 = .ok (.getfield 44, 3) := by decide +kernel
theorem dX6_pass_433 : decode cX6_pass 433 = .ok (.ifCond .le 13, 3) := by decide +kernel
theorem dX6_pass_436 : decode cX6_pass 436 = .ok (.aload_n 0, 1) := by decide +kernel
theorem dX6_pass_437 : decode cX6_pass 437 = .ok (.dup, 1) := by decide +kernel
theorem dX6_pass_438 : decode cX6_pass 438 = .ok (.getfield 44, 3) := by decide +kernel
theorem dX6_pass_441 : decode cX6_pass 441 = .ok (.iconst 1, 1) := by decide +kernel
theorem dX6_pass_442 : decode cX6_pass 442 = .ok (.isub, 1) := by decide +kernel
theorem dX6_pass_443 : decode cX6_pass 443 = .ok (.putfield 44, 3) := by decide +kernel
theorem dX6_pass_446 : decode cX6_pass 446 = .ok (.aload_n 0, 1) := by decide +kernel
theorem dX6_pass_447 : decode cX6_pass 447 = .ok (.getfield 44, 3) := by decide +kernel
theorem dX6_pass_450 : decode cX6_pass 450 = .ok (.ifCond .ne 8, 3) := by decide +kernel
theorem dX6_pass_453 : decode cX6_pass 453 = .ok (.aload_n 0, 1) := by decide +kernel
theorem dX6_pass_454 : decode cX6_pass 454 = .ok (.iconst (-1), 1) := by decide +kernel
theorem dX6_pass_455 : decode cX6_pass 455 = .ok (.putfield 24, 3) := by decide +kernel
theorem dX6_pass_458 : decode cX6_pass 458 = .ok (.aload_n 0, 1) := by decide +kernel
theorem dX6_pass_459 : decode cX6_pass 459 = .ok (.dup, 1) := by decide +kernel
theorem dX6_pass_460 : decode cX6_pass 460 = .ok (.getfield 61, 3) := by decide +kernel
theorem dX6_pass_463 : decode cX6_pass 463 = .ok (.iconst 1, 1) := by decide +kernel
theorem dX6_pass_464 : decode cX6_pass 464 = .ok (.iadd, 1) := by decide +kernel
theorem dX6_pass_465 : decode cX6_pass 465 = .ok (.putfield 61, 3) := by decide +kernel
theorem dX6_pass_468 : decode cX6_pass 468 = .ok (.iload_n 1, 1) := by decide +kernel
theorem dX6_pass_469 : decode cX6_pass 469 = .ok (.ireturn, 1) := by decide +kernel
theorem dX6_glare_0 : decode cX6_glare 0 = .ok (.iconst 0, 1) := by decide +kernel
theorem dX6_glare_1 : decode cX6_glare 1 = .ok (.istore_n 2, 1) := by decide +kernel
theorem dX6_glare_2 : decode cX6_glare 2 = .ok (.aload_n 0, 1) := by decide +kernel
theorem dX6_glare_3 : decode cX6_glare 3 = .ok (.getfield 9, 3) := by decide +kernel
theorem dX6_glare_6 : decode cX6_glare 6 = .ok (.astore_n 3, 1) := by decide +kernel
theorem dX6_glare_7 : decode cX6_glare 7 = .ok (.aload_n 3, 1) := by decide +kernel
theorem dX6_glare_8 : decode cX6_glare 8 = .ok (.arraylength, 1) := by decide +kernel
theorem dX6_glare_9 : decode cX6_glare 9 = .ok (.istore 4, 2) := by decide +kernel
theorem dX6_glare_11 : decode cX6_glare 11 = .ok (.iconst 0, 1) := by decide +kernel
theorem dX6_glare_12 : decode cX6_glare 12 = .ok (.istore 5, 2) := by decide +kernel
theorem dX6_glare_14 : decode cX6_glare 14 = .ok (.iload 5, 2) := by decide +kernel
theorem dX6_glare_16 : decode cX6_glare 16 = .ok (.iload 4, 2) := by decide +kernel
theorem dX6_glare_18 : decode cX6_glare 18 = .ok (.if_icmp .ge 65, 3) := by decide +kernel
theorem dX6_glare_21 : decode cX6_glare 21 = .ok (.aload_n 3, 1) := by decide +kernel
theorem dX6_glare_22 : decode cX6_glare 22 = .ok (.iload 5, 2) := by decide +kernel
theorem dX6_glare_24 : decode cX6_glare 24 = .ok (.aaload, 1) := by decide +kernel
theorem dX6_glare_25 : decode cX6_glare 25 = .ok (.astore 6, 2) := by decide +kernel
theorem dX6_glare_27 : decode cX6_glare 27 = .ok (.aload 6, 2) := by decide +kernel
theorem dX6_glare_29 : decode cX6_glare 29 = .ok (.iconst 0, 1) := by decide +kernel
theorem dX6_glare_30 : decode cX6_glare 30 = .ok (.iaload, 1) := by decide +kernel
theorem dX6_glare_31 : decode cX6_glare 31 = .ok (.iload_n 1, 1) := by decide +kernel
theorem dX6_glare_32 : decode cX6_glare 32 = .ok (.if_icmp .ne 10, 3) := by decide +kernel
theorem dX6_glare_35 : decode cX6_glare 35 = .ok (.iload_n 2, 1) := by decide +kernel
theorem dX6_glare_36 : decode cX6_glare 36 = .ok (.aload 6, 2) := by decide +kernel
theorem dX6_glare_38 : decode cX6_glare 38 = .ok (.iconst 1, 1) := by decide +kernel
theorem dX6_glare_39 : decode cX6_glare 39 = .ok (.iaload, 1) := by decide +kernel
theorem dX6_glare_40 : decode cX6_glare 40 = .ok (.iadd, 1) := by decide +kernel
theorem dX6_glare_41 : decode cX6_glare 41 = .ok (.istore_n 2, 1) := by decide +kernel
theorem dX6_glare_42 : decode cX6_glare 42 = .ok (.aload 6, 2) := by decide +kernel
theorem dX6_glare_44 : decode cX6_glare 44 = .ok (.iconst 0, 1) := by decide +kernel
theorem dX6_glare_45 : decode cX6_glare 45 = .ok (.iaload, 1) := by decide +kernel
theorem dX6_glare_46 : decode cX6_glare 46 = .ok (.iload_n 1, 1) := by decide +kernel
theorem dX6_glare_47 : decode cX6_glare 47 = .ok (.iconst 1, 1) := by decide +kernel
theorem dX6_glare_48 : decode cX6_glare 48 = .ok (.iadd, 1) := by decide +kernel
theorem dX6_glare_49 : decode cX6_glare 49 = .ok (.bipush 12, 2) := by decide +kernel
theorem dX6_glare_51 : decode cX6_glare 51 = .ok (.irem, 1) := by decide +kernel
theorem dX6_glare_52 : decode cX6_glare 52 = .ok (.if_icmp .eq 16, 3) := by decide +kernel
theorem dX6_glare_55 : decode cX6_glare 55 = .ok (.aload 6, 2) := by decide +kernel
theorem dX6_glare_57 : decode cX6_glare 57 = .ok (.iconst 0, 1) := by decide +kernel
theorem dX6_glare_58 : decode cX6_glare 58 = .ok (.iaload, 1) := by decide +kernel
theorem dX6_glare_59 : decode cX6_glare 59 = .ok (.iconst 1, 1) := by decide +kernel
theorem dX6_glare_60 : decode cX6_glare 60 = .ok (.iadd, 1) := by decide +kernel
theorem dX6_glare_61 : decode cX6_glare 61 = .ok (.bipush 12, 2) := by decide +kernel
theorem dX6_glare_63 : decode cX6_glare 63 = .ok (.irem, 1) := by decide +kernel
theorem dX6_glare_64 : decode cX6_glare 64 = .ok (.iload_n 1, 1) := by decide +kernel
theorem dX6_glare_65 : decode cX6_glare 65 = .ok (.if_icmp .ne 12, 3) := by decide +kernel
theorem dX6_glare_68 : decode cX6_glare 68 = .ok (.iload_n 2, 1) := by decide +kernel
theorem dX6_glare_69 : decode cX6_glare 69 = .ok (.aload 6, 2) := by decide +kernel
theorem dX6_glare_71 : decode cX6_glare 71 = .ok (.iconst 1, 1) := by decide +kernel
theorem dX6_glare_72 : decode cX6_glare 72 = .ok (.iaload, 1) := by decide +kernel
theorem dX6_glare_73 : decode cX6_glare 73 = .ok (.iconst 4, 1) := by decide +kernel
theorem dX6_glare_74 : decode cX6_glare 74 = .ok (.idiv, 1) := by decide +kernel
theorem dX6_glare_75 : decode cX6_glare 75 = .ok (.iadd, 1) := by decide +kernel
theorem dX6_glare_76 : decode cX6_glare 76 = .ok (.istore_n 2, 1) := by decide +kernel
theorem dX6_glare_77 : decode cX6_glare 77 = .ok (.iinc 5 1, 3) := by decide +kernel
theorem dX6_glare_80 : decode cX6_glare 80 = .ok (.goto (-66), 3) := by decide +kernel
theorem dX6_glare_83 : decode cX6_glare 83 = .ok (.iload_n 2, 1) := by decide +kernel
theorem dX6_glare_84 : decode cX6_glare 84 = .ok (.ireturn, 1) := by decide +kernel
set_option maxRecDepth 20000 in
theorem ggX6_sees_X6_glare : GoodIn wsX6_sees wsX6_glare := goodIn_r _ [5, 6, 7, 8, 9, 10, 11, 12, 13, 14, 15, 16, 17] (by decide +kernel) (by decide +kernel)
set_option maxRecDepth 20000 in
theorem gX6_sees_X6_glare : GoodIn wsX6_sees (wsV RX6 64 RX6 yX6_glare wsX6_glare) := goodIn_app (goodIn_of _ (by decide +kernel)) ggX6_sees_X6_glare
theorem dX6_sees_0 : decode cX6_sees 0 = .ok (.aload_n 0, 1) := by decide +kernel
theorem dX6_sees_1 : decode cX6_sees 1 = .ok (.iload_n 1, 1) := by decide +kernel
theorem dX6_sees_2 : decode cX6_sees 2 = .ok (.bipush 30, 2) := by decide +kernel
theorem dX6_sees_4 : decode cX6_sees 4 = .ok (.idiv, 1) := by decide +kernel
theorem dX6_sees_5 : decode cX6_sees 5 = .ok (.invokevirtual 64, 3) := by decide +kernel
theorem dX6_sees_8 : decode cX6_sees 8 = .ok (.bipush 10, 2) := by decide +kernel
theorem dX6_sees_10 : decode cX6_sees 10 = .ok (.iload_n 2, 1) := by decide +kernel
theorem dX6_sees_11 : decode cX6_sees 11 = .ok (.imul, 1) := by decide +kernel
theorem dX6_sees_12 : decode cX6_sees 12 = .ok (.if_icmp .ge 7, 3) := by decide +kernel
theorem dX6_sees_15 : decode cX6_sees 15 = .ok (.iconst 1, 1) := by decide +kernel
theorem dX6_sees_16 : decode cX6_sees 16 = .ok (.goto 4, 3) := by decide +kernel
theorem dX6_sees_19 : decode cX6_sees 19 = .ok (.iconst 0, 1) := by decide +kernel
theorem dX6_sees_20 : decode cX6_sees 20 = .ok (.ireturn, 1) := by decide +kernel
set_option maxRecDepth 20000 in
theorem ggX6_stars_X6_sees : GoodIn wsX6_stars wsX6_sees := goodIn_r _ [7, 8, 9, 10, 6, 11, 12, 13, 14, 15, 16, 17, 18, 19, 20, 21, 22, 23] (by decide +kernel) (by decide +kernel)
set_option maxRecDepth 20000 in
theorem gX6_stars_X6_sees : GoodIn wsX6_stars (wsV RX6 68 RX6 yX6_sees wsX6_sees) := goodIn_app (goodIn_of _ (by decide +kernel)) ggX6_stars_X6_sees
theorem dX6_stars_0 : decode cX6_stars 0 = .ok (.iconst 0, 1) := by decide +kernel
theorem dX6_stars_1 : decode cX6_stars 1 = .ok (.istore_n 1, 1) := by decide +kernel
theorem dX6_stars_2 : decode cX6_stars 2 = .ok (.aload_n 0, 1) := by decide +kernel
theorem dX6_stars_3 : decode cX6_stars 3 = .ok (.getfield 15, 3) := by decide +kernel
theorem dX6_stars_6 : decode cX6_stars 6 = .ok (.astore_n 2, 1) := by decide +kernel
theorem dX6_stars_7 : decode cX6_stars 7 = .ok (.aload_n 2, 1) := by decide +kernel
theorem dX6_stars_8 : decode cX6_stars 8 = .ok (.arraylength, 1) := by decide +kernel
theorem dX6_stars_9 : decode cX6_stars 9 = .ok (.istore_n 3, 1) := by decide +kernel
theorem dX6_stars_10 : decode cX6_stars 10 = .ok (.iconst 0, 1) := by decide +kernel
theorem dX6_stars_11 : decode cX6_stars 11 = .ok (.istore 4, 2) := by decide +kernel
theorem dX6_stars_13 : decode cX6_stars 13 = .ok (.iload 4, 2) := by decide +kernel
theorem dX6_stars_15 : decode cX6_stars 15 = .ok (.iload_n 3, 1) := by decide +kernel
theorem dX6_stars_16 : decode cX6_stars 16 = .ok (.if_icmp .ge 47, 3) := by decide +kernel
theorem dX6_stars_19 : decode cX6_stars 19 = .ok (.aload_n 2, 1) := by decide +kernel
theorem dX6_stars_20 : decode cX6_stars 20 = .ok (.iload 4, 2) := by decide +kernel
theorem dX6_stars_22 : decode cX6_stars 22 = .ok (.aaload, 1) := by decide +kernel
theorem dX6_stars_23 : decode cX6_stars 23 = .ok (.astore 5, 2) := by decide +kernel
theorem dX6_stars_25 : decode cX6_stars 25 = .ok (.iload_n 1, 1) := by decide +kernel
theorem dX6_stars_26 : decode cX6_stars 26 = .ok (.aload_n 0, 1) := by decide +kernel
theorem dX6_stars_27 : decode cX6_stars 27 = .ok (.aload 5, 2) := by decide +kernel
theorem dX6_stars_29 : decode cX6_stars 29 = .ok (.iconst 0, 1) := by decide +kernel
theorem dX6_stars_30 : decode cX6_stars 30 = .ok (.iaload, 1) := by decide +kernel
theorem dX6_stars_31 : decode cX6_stars 31 = .ok (.aload_n 0, 1) := by decide +kernel
theorem dX6_stars_32 : decode cX6_stars 32 = .ok (.getfield 47, 3) := by decide +kernel
theorem dX6_stars_35 : decode cX6_stars 35 = .ok (.iadd, 1) := by decide +kernel
theorem dX6_stars_36 : decode cX6_stars 36 = .ok (.sipush 360, 3) := by decide +kernel
theorem dX6_stars_39 : decode cX6_stars 39 = .ok (.irem, 1) := by decide +kernel
theorem dX6_stars_40 : decode cX6_stars 40 = .ok (.aload 5, 2) := by decide +kernel
theorem dX6_stars_42 : decode cX6_stars 42 = .ok (.iconst 1, 1) := by decide +kernel
theorem dX6_stars_43 : decode cX6_stars 43 = .ok (.iaload, 1) := by decide +kernel
theorem dX6_stars_44 : decode cX6_stars 44 = .ok (.invokevirtual 68, 3) := by decide +kernel
theorem dX6_stars_47 : decode cX6_stars 47 = .ok (.ifCond .eq 7, 3) := by decide +kernel
theorem dX6_stars_50 : decode cX6_stars 50 = .ok (.iconst 1, 1) := by decide +kernel
theorem dX6_stars_51 : decode cX6_stars 51 = .ok (.goto 4, 3) := by decide +kernel
theorem dX6_stars_54 : decode cX6_stars 54 = .ok (.iconst 0, 1) := by decide +kernel
theorem dX6_stars_55 : decode cX6_stars 55 = .ok (.iadd, 1) := by decide +kernel
theorem dX6_stars_56 : decode cX6_stars 56 = .ok (.istore_n 1, 1) := by decide +kernel
theorem dX6_stars_57 : decode cX6_stars 57 = .ok (.iinc 4 1, 3) := by decide +kernel
theorem dX6_stars_60 : decode cX6_stars 60 = .ok (.goto (-47), 3) := by decide +kernel
theorem dX6_stars_63 : decode cX6_stars 63 = .ok (.iload_n 1, 1) := by decide +kernel
theorem dX6_stars_64 : decode cX6_stars 64 = .ok (.ireturn, 1) := by decide +kernel
set_option maxRecDepth 20000 in
theorem ggX6_comets_X6_sees : GoodIn wsX6_comets wsX6_sees := goodIn_r _ [6, 7, 8, 9, 5, 10, 11, 12, 13, 14, 15, 16, 17, 18, 19, 20, 21, 22] (by decide +kernel) (by decide +kernel)
set_option maxRecDepth 20000 in
theorem gX6_comets_X6_sees : GoodIn wsX6_comets (wsV RX6 68 RX6 yX6_sees wsX6_sees) := goodIn_app (goodIn_of _ (by decide +kernel)) ggX6_comets_X6_sees
theorem dX6_comets_0 : decode cX6_comets 0 = .ok (.iconst 0, 1) := by decide +kernel
theorem dX6_comets_1 : decode cX6_comets 1 = .ok (.istore_n 1, 1) := by decide +kernel
theorem dX6_comets_2 : decode cX6_comets 2 = .ok (.aload_n 0, 1) := by decide +kernel
theorem dX6_comets_3 : decode cX6_comets 3 = .ok (.getfield 18, 3) := by decide +kernel
theorem dX6_comets_6 : decode cX6_comets 6 = .ok (.astore_n 2, 1) := by decide +kernel
theorem dX6_comets_7 : decode cX6_comets 7 = .ok (.aload_n 2, 1) := by decide +kernel
theorem dX6_comets_8 : decode cX6_comets 8 = .ok (.arraylength, 1) := by decide +kernel
theorem dX6_comets_9 : decode cX6_comets 9 = .ok (.istore_n 3, 1) := by decide +kernel
theorem dX6_comets_10 : decode cX6_comets 10 = .ok (.iconst 0, 1) := by decide +kernel
theorem dX6_comets_11 : decode cX6_comets 11 = .ok (.istore 4, 2) := by decide +kernel
theorem dX6_comets_13 : decode cX6_comets 13 = .ok (.iload 4, 2) := by decide +kernel
theorem dX6_comets_15 : decode cX6_comets 15 = .ok (.iload_n 3, 1) := by decide +kernel
theorem dX6_comets_16 : decode cX6_comets 16 = .ok (.if_icmp .ge 43, 3) := by decide +kernel
theorem dX6_comets_19 : decode cX6_comets 19 = .ok (.aload_n 2, 1) := by decide +kernel
theorem dX6_comets_20 : decode cX6_comets 20 = .ok (.iload 4, 2) := by decide +kernel
theorem dX6_comets_22 : decode cX6_comets 22 = .ok (.aaload, 1) := by decide +kernel
theorem dX6_comets_23 : decode cX6_comets 23 = .ok (.astore 5, 2) := by decide +kernel
theorem dX6_comets_25 : decode cX6_comets 25 = .ok (.iload_n 1, 1) := by decide +kernel
theorem dX6_comets_26 : decode cX6_comets 26 = .ok (.aload 5, 2) := by decide +kernel
theorem dX6_comets_28 : decode cX6_comets 28 = .ok (.iconst 2, 1) := by decide +kernel
theorem dX6_comets_29 : decode cX6_comets 29 = .ok (.iaload, 1) := by decide +kernel
theorem dX6_comets_30 : decode cX6_comets 30 = .ok (.ifCond .le 20, 3) := by decide +kernel
theorem dX6_comets_33 : decode cX6_comets 33 = .ok (.aload_n 0, 1) := by decide +kernel
theorem dX6_comets_34 : decode cX6_comets 34 = .ok (.aload 5, 2) := by decide +kernel
theorem dX6_comets_36 : decode cX6_comets 36 = .ok (.iconst 0, 1) := by decide +kernel
theorem dX6_comets_37 : decode cX6_comets 37 = .ok (.iaload, 1) := by decide +kernel
theorem dX6_comets_38 : decode cX6_comets 38 = .ok (.bipush 6, 2) := by decide +kernel
theorem dX6_comets_40 : decode cX6_comets 40 = .ok (.invokevirtual 68, 3) := by decide +kernel
theorem dX6_comets_43 : decode cX6_comets 43 = .ok (.ifCond .eq 7, 3) := by decide +kernel
theorem dX6_comets_46 : decode cX6_comets 46 = .ok (.iconst 1, 1) := by decide +kernel
theorem dX6_comets_47 : decode cX6_comets 47 = .ok (.goto 4, 3) := by decide +kernel
theorem dX6_comets_50 : decode cX6_comets 50 = .ok (.iconst 0, 1) := by decide +kernel
theorem dX6_comets_51 : decode cX6_comets 51 = .ok (.iadd, 1) := by decide +kernel
theorem dX6_comets_52 : decode cX6_comets 52 = .ok (.istore_n 1, 1) := by decide +kernel
theorem dX6_comets_53 : decode cX6_comets 53 = .ok (.iinc 4 1, 3) := by decide +kernel
theorem dX6_comets_56 : decode cX6_comets 56 = .ok (.goto (-43), 3) := by decide +kernel
theorem dX6_comets_59 : decode cX6_comets 59 = .ok (.iload_n 1, 1) := by decide +kernel
theorem dX6_comets_60 : decode cX6_comets 60 = .ok (.ireturn, 1) := by decide +kernel
set_option maxRecDepth 20000 in
theorem ggX6_isSame_X6_glare : GoodIn wsX6_isSame wsX6_glare := goodIn_r _ [18, 1, 164, 165, 166, 167, 168, 169, 170, 171, 172, 173, 174] (by decide +kernel) (by decide +kernel)
set_option maxRecDepth 20000 in
theorem gX6_isSame_X6_glare : GoodIn wsX6_isSame (wsV RX6 64 RX6 yX6_glare wsX6_glare) := goodIn_app (goodIn_of _ (by decide +kernel)) ggX6_isSame_X6_glare
set_option maxRecDepth 20000 in
theorem ggX6_isSame_X5_glare : GoodIn wsX6_isSame wsX5_glare := goodIn_ca (goodIn_r _ [23, 24, 25, 26, 27, 28, 29, 22, 30, 31, 32, 33, 34, 35, 36, 37, 38, 39, 40, 41, 42, 175, 176, 177, 178, 179, 180, 181, 182, 183, 184, 185, 186, 187, 188, 189, 190, 191, 192, 193] (by decide +kernel) (by decide +kernel)) (goodIn_sub (fun _ h => List.mem_cons_of_mem _ (List.mem_append_right _ h)) (by decide +kernel))
set_option maxRecDepth 20000 in
theorem gX6_isSame_X5_glare : GoodIn wsX6_isSame (wsV RX6 72 RX5 yX5_glare wsX5_glare) := goodIn_app (goodIn_of _ (by decide +kernel)) ggX6_isSame_X5_glare
set_option maxRecDepth 20000 in
theorem ggX6_isSame_X5_told : GoodIn wsX6_isSame wsX5_told := goodIn_ca (goodIn_r _ [46, 24, 25, 26, 27, 47, 48, 49, 34, 50, 36, 28, 29, 22, 30, 51, 52, 53, 54, 37, 38, 55, 56, 57, 58, 175, 176, 177, 178, 179, 180, 181, 182, 183, 184, 185, 186, 187, 188, 189, 190, 191, 192, 193] (by decide +kernel) (by decide +kernel)) (goodIn_sub (fun _ h => List.mem_cons_of_mem _ (List.mem_append_right _ h)) (by decide +kernel))
set_option maxRecDepth 20000 in
theorem gX6_isSame_X5_told : GoodIn wsX6_isSame (wsV RX6 75 RX5 yX5_told wsX5_told) := goodIn_app (goodIn_of _ (by decide +kernel)) ggX6_isSame_X5_told
set_option maxRecDepth 20000 in
theorem ggX6_isSame_X6_sees : GoodIn wsX6_isSame wsX6_sees := goodIn_r _ [62, 14, 15, 16, 17, 18, 1, 164, 165, 166, 167, 168, 169, 170, 171, 172, 173, 174] (by decide +kernel) (by decide +kernel)
set_option maxRecDepth 20000 in
theorem gX6_isSame_X6_sees : GoodIn wsX6_isSame (wsV RX6 68 RX6 yX6_sees wsX6_sees) := goodIn_app (goodIn_of _ (by decide +kernel)) ggX6_isSame_X6_sees
set_option maxRecDepth 20000 in
theorem ggX6_isSame_X5_about : GoodIn wsX6_isSame wsX5_about := goodIn_ca (goodIn_r _ [66, 24, 25, 67, 26, 68, 69, 70, 71, 72, 73, 28, 29, 22, 30, 74, 75, 76, 77, 78, 79, 80, 81, 82, 83, 84, 85, 40, 41, 42, 86, 87, 88, 89, 90, 91, 92, 93, 94, 95, 32, 33, 34, 35, 36, 37, 38, 39, 175, 176, 177, 178, 194, 195, 196, 179, 180, 181, 182, 183, 184, 185, 186, 187, 188, 189, 190, 191, 192, 193] (by decide +kernel) (by decide +kernel)) (goodIn_sub (fun _ h => List.mem_cons_of_mem _ (List.mem_append_right _ h)) (by decide +kernel))
set_option maxRecDepth 20000 in
theorem gX6_isSame_X5_about : GoodIn wsX6_isSame (wsV RX6 78 RX5 yX5_about wsX5_about) := goodIn_app (goodIn_of _ (by decide +kernel)) ggX6_isSame_X5_about
set_option maxRecDepth 20000 in
theorem ggX6_isSame_X5_comet : GoodIn wsX6_isSame wsX5_comet := goodIn_ca (goodIn_r _ [99, 24, 25, 26, 100, 101, 102, 103, 104, 105, 106, 28, 29, 22, 30, 107, 108, 109, 77, 110, 111, 112, 113, 114, 115, 116, 117, 118, 119, 90, 91, 92, 93, 94, 95, 32, 33, 34, 35, 36, 37, 38, 39, 40, 41, 42, 175, 176, 177, 178, 179, 180, 181, 182, 183, 184, 185, 186, 187, 197, 198, 199, 200, 188, 189, 190, 191, 192, 193] (by decide +kernel) (by decide +kernel)) (goodIn_sub (fun _ h => List.mem_cons_of_mem _ (List.mem_append_right _ h)) (by decide +kernel))
set_option maxRecDepth 20000 in
theorem gX6_isSame_X5_comet : GoodIn wsX6_isSame (wsV RX6 81 RX5 yX5_comet wsX5_comet) := goodIn_app (goodIn_of _ (by decide +kernel)) ggX6_isSame_X5_comet
set_option maxRecDepth 20000 in
theorem ggX6_isSame_X6_stars : GoodIn wsX6_isSame wsX6_stars := goodIn_r _ [123, 2, 3, 59, 60, 61, 17, 62, 14, 15, 16, 18, 1, 164, 165, 166, 167, 168, 169, 170, 171, 172, 173, 174] (by decide +kernel) (by decide +kernel)
set_option maxRecDepth 20000 in
theorem gX6_isSame_X6_stars : GoodIn wsX6_isSame (wsV RX6 84 RX6 yX6_stars wsX6_stars) := goodIn_app (goodIn_of _ (by decide +kernel)) ggX6_isSame_X6_stars
set_option maxRecDepth 20000 in
theorem ggX6_isSame_X6_comets : GoodIn wsX6_isSame wsX6_comets := goodIn_r _ [127, 5, 59, 60, 61, 17, 62, 14, 15, 16, 18, 1, 164, 165, 166, 167, 168, 169, 170, 171, 172, 173, 174] (by decide +kernel) (by decide +kernel)
set_option maxRecDepth 20000 in
theorem gX6_isSame_X6_comets : GoodIn wsX6_isSame (wsV RX6 87 RX6 yX6_comets wsX6_comets) := goodIn_app (goodIn_of _ (by decide +kernel)) ggX6_isSame_X6_comets
set_option maxRecDepth 20000 in
theorem ggX6_isSame_X5_count : GoodIn wsX6_isSame wsX5_count := goodIn_ca (goodIn_r _ [131, 24, 25, 26, 67, 132, 28, 29, 22, 30, 133, 134, 135, 77, 136, 137, 138, 139, 94, 140, 141, 111, 142, 143, 144, 145, 81, 146, 147, 148, 149, 150, 86, 87, 88, 89, 79, 80, 82, 69, 70, 71, 72, 73, 83, 84, 85, 40, 41, 42, 90, 91, 92, 93, 95, 32, 33, 34, 35, 36, 37, 38, 39, 151, 152, 153, 154, 116, 117, 118, 119, 114, 112, 115, 102, 103, 104, 105, 106, 175, 176, 177, 178, 179, 180, 181, 182, 183, 184, 185, 186, 187, 188, 189, 190, 191, 192, 193, 194, 195, 196, 197, 198, 199, 200, 201, 202, 203, 204, 205] (by decide +kernel) (by decide +kernel)) (goodIn_sub (fun _ h => List.mem_cons_of_mem _ (List.mem_append_right _ h)) (by decide +kernel))
set_option maxRecDepth 20000 in
theorem gX6_isSame_X5_count : GoodIn wsX6_isSame (wsV RX6 89 RX5 yX5_count wsX5_count) := goodIn_app (goodIn_of _ (by decide +kernel)) ggX6_isSame_X5_count
set_option maxRecDepth 20000 in
theorem ggX6_isSame_X5_mean : GoodIn wsX6_isSame wsX5_mean := goodIn_r _ [158, 26, 27, 159, 31, 32, 33, 34, 35, 36, 37, 38, 39, 40, 41, 42, 175, 176, 177, 178, 179, 180, 181, 182, 183, 184, 185, 186, 187, 188, 189, 190, 191, 192, 193] (by decide +kernel) (by decide +kernel)
set_option maxRecDepth 20000 in
theorem gX6_isSame_X5_mean : GoodIn wsX6_isSame (wsV RX6 92 RX5 yX5_mean wsX5_mean) := goodIn_app (goodIn_of _ (by decide +kernel)) ggX6_isSame_X5_mean
set_option maxRecDepth 20000 in
theorem ggX6_isSame_X5_darkest : GoodIn wsX6_isSame wsX5_darkest := goodIn_r _ [163, 26, 27, 31, 32, 33, 34, 35, 36, 37, 38, 39, 40, 41, 42, 175, 176, 177, 178, 179, 180, 181, 182, 183, 184, 185, 186, 187, 188, 189, 190, 191, 192, 193] (by decide +kernel) (by decide +kernel)
set_option maxRecDepth 20000 in
theorem gX6_isSame_X5_darkest : GoodIn wsX6_isSame (wsV RX6 98 RX5 yX5_darkest wsX5_darkest) := goodIn_app (goodIn_of _ (by decide +kernel)) ggX6_isSame_X5_darkest
theorem dX6_isSame_0 : decode cX6_isSame 0 = .ok (.iconst 0, 1) := by decide +kernel
theorem dX6_isSame_1 : decode cX6_isSame 1 = .ok (.istore_n 2, 1) := by decide +kernel
theorem dX6_isSame_2 : decode cX6_isSame 2 = .ok (.iconst 0, 1) := by decide +kernel
theorem dX6_isSame_3 : decode cX6_isSame 3 = .ok (.istore_n 3, 1) := by decide +kernel
theorem dX6_isSame_4 : decode cX6_isSame 4 = .ok (.iconst 0, 1) := by decide +kernel
theorem dX6_isSame_5 : decode cX6_isSame 5 = .ok (.istore 4, 2) := by decide +kernel
theorem dX6_isSame_7 : decode cX6_isSame 7 = .ok (.iload 4, 2) := by decide +kernel
theorem dX6_isSame_9 : decode cX6_isSame 9 = .ok (.bipush 12, 2) := by decide +kernel
theorem dX6_isSame_11 : decode cX6_isSame 11 = .ok (.if_icmp .ge 52, 3) := by decide +kernel
theorem dX6_isSame_14 : decode cX6_isSame 14 = .ok (.iload_n 2, 1) := by decide +kernel
theorem dX6_isSame_15 : decode cX6_isSame 15 = .ok (.aload_n 0, 1) := by decide +kernel
theorem dX6_isSame_16 : decode cX6_isSame 16 = .ok (.iload 4, 2) := by decide +kernel
theorem dX6_isSame_18 : decode cX6_isSame 18 = .ok (.invokevirtual 64, 3) := by decide +kernel
theorem dX6_isSame_21 : decode cX6_isSame 21 = .ok (.iadd, 1) := by decide +kernel
theorem dX6_isSame_22 : decode cX6_isSame 22 = .ok (.istore_n 2, 1) := by decide +kernel
theorem dX6_isSame_23 : decode cX6_isSame 23 = .ok (.aload_n 0, 1) := by decide +kernel
theorem dX6_isSame_24 : decode cX6_isSame 24 = .ok (.iload 4, 2) := by decide +kernel
theorem dX6_isSame_26 : decode cX6_isSame 26 = .ok (.invokevirtual 64, 3) := by decide +kernel
theorem dX6_isSame_29 : decode cX6_isSame 29 = .ok (.aload_n 0, 1) := by decide +kernel
theorem dX6_isSame_30 : decode cX6_isSame 30 = .ok (.iload_n 3, 1) := by decide +kernel
theorem dX6_isSame_31 : decode cX6_isSame 31 = .ok (.invokevirtual 64, 3) := by decide +kernel
theorem dX6_isSame_34 : decode cX6_isSame 34 = .ok (.if_icmp .ge 6, 3) := by decide +kernel
theorem dX6_isSame_37 : decode cX6_isSame 37 = .ok (.iload 4, 2) := by decide +kernel
theorem dX6_isSame_39 : decode cX6_isSame 39 = .ok (.istore_n 3, 1) := by decide +kernel
theorem dX6_isSame_40 : decode cX6_isSame 40 = .ok (.aload_n 1, 1) := by decide +kernel
theorem dX6_isSame_41 : decode cX6_isSame 41 = .ok (.iload 4, 2) := by decide +kernel
theorem dX6_isSame_43 : decode cX6_isSame 43 = .ok (.invokevirtual 72, 3) := by decide +kernel
theorem dX6_isSame_46 : decode cX6_isSame 46 = .ok (.aload_n 0, 1) := by decide +kernel
theorem dX6_isSame_47 : decode cX6_isSame 47 = .ok (.iload 4, 2) := by decide +kernel
theorem dX6_isSame_49 : decode cX6_isSame 49 = .ok (.invokevirtual 64, 3) := by decide +kernel
theorem dX6_isSame_52 : decode cX6_isSame 52 = .ok (.if_icmp .eq 5, 3) := by decide +kernel
theorem dX6_isSame_55 : decode cX6_isSame 55 = .ok (.iconst 0, 1) := by decide +kernel
theorem dX6_isSame_56 : decode cX6_isSame 56 = .ok (.ireturn, 1) := by decide +kernel
theorem dX6_isSame_57 : decode cX6_isSame 57 = .ok (.iinc 4 1, 3) := by decide +kernel
theorem dX6_isSame_60 : decode cX6_isSame 60 = .ok (.goto (-53), 3) := by decide +kernel
theorem dX6_isSame_63 : decode cX6_isSame 63 = .ok (.iconst 0, 1) := by decide +kernel
theorem dX6_isSame_64 : decode cX6_isSame 64 = .ok (.istore 4, 2) := by decide +kernel
theorem dX6_isSame_66 : decode cX6_isSame 66 = .ok (.iload 4, 2) := by decide +kernel
theorem dX6_isSame_68 : decode cX6_isSame 68 = .ok (.aload_n 0, 1) := by decide +kernel
theorem dX6_isSame_69 : decode cX6_isSame 69 = .ok (.getfield 9, 3) := by decide +kernel
theorem dX6_isSame_72 : decode cX6_isSame 72 = .ok (.arraylength, 1) := by decide +kernel
theorem dX6_isSame_73 : decode cX6_isSame 73 = .ok (.if_icmp .ge 47, 3) := by decide +kernel
theorem dX6_isSame_76 : decode cX6_isSame 76 = .ok (.iconst 0, 1) := by decide +kernel
theorem dX6_isSame_77 : decode cX6_isSame 77 = .ok (.istore 5, 2) := by decide +kernel
theorem dX6_isSame_79 : decode cX6_isSame 79 = .ok (.iload 5, 2) := by decide +kernel
theorem dX6_isSame_81 : decode cX6_isSame 81 = .ok (.iconst 5, 1) := by decide +kernel
theorem dX6_isSame_82 : decode cX6_isSame 82 = .ok (.if_icmp .ge 32, 3) := by decide +kernel
theorem dX6_isSame_85 : decode cX6_isSame 85 = .ok (.aload_n 1, 1) := by decide +kernel
theorem dX6_isSame_86 : decode cX6_isSame 86 = .ok (.iload 4, 2) := by decide +kernel
theorem dX6_isSame_88 : decode cX6_isSame 88 = .ok (.iload 5, 2) := by decide +kernel
theorem dX6_isSame_90 : decode cX6_isSame 90 = .ok (.invokevirtual 75, 3) := by decide +kernel
theorem dX6_isSame_93 : decode cX6_isSame 93 = .ok (.aload_n 0, 1) := by decide +kernel
theorem dX6_isSame_94 : decode cX6_isSame 94 = .ok (.getfield 9, 3) := by decide +kernel
theorem dX6_isSame_97 : decode cX6_isSame 97 = .ok (.iload 4, 2) := by decide +kernel
theorem dX6_isSame_99 : decode cX6_isSame 99 = .ok (.aaload, 1) := by decide +kernel
theorem dX6_isSame_100 : decode cX6_isSame 100 = .ok (.iload 5, 2) := by decide +kernel
theorem dX6_isSame_102 : decode cX6_isSame 102 = .ok (.iaload, 1) := by decide +kernel
theorem dX6_isSame_103 : decode cX6_isSame 103 = .ok (.if_icmp .eq 5, 3) := by decide +kernel
theorem dX6_isSame_106 : decode cX6_isSame 106 = .ok (.iconst 0, 1) := by decide +kernel
theorem dX6_isSame_107 : decode cX6_isSame 107 = .ok (.ireturn, 1) := by decide +kernel
theorem dX6_isSame_108 : decode cX6_isSame 108 = .ok (.iinc 5 1, 3) := by decide +kernel
theorem dX6_isSame_111 : decode cX6_isSame 111 = .ok (.goto (-32), 3) := by decide +kernel
theorem dX6_isSame_114 : decode cX6_isSame 114 = .ok (.iinc 4 1, 3) := by decide +kernel
theorem dX6_isSame_117 : decode cX6_isSame 117 = .ok (.goto (-51), 3) := by decide +kernel
theorem dX6_isSame_120 : decode cX6_isSame 120 = .ok (.iconst 0, 1) := by decide +kernel
theorem dX6_isSame_121 : decode cX6_isSame 121 = .ok (.istore 4, 2) := by decide +kernel
theorem dX6_isSame_123 : decode cX6_isSame 123 = .ok (.iload 4, 2) := by decide +kernel
theorem dX6_isSame_125 : decode cX6_isSame 125 = .ok (.aload_n 0, 1) := by decide +kernel
theorem dX6_isSame_126 : decode cX6_isSame 126 = .ok (.getfield 15, 3) := by decide +kernel
theorem dX6_isSame_129 : decode cX6_isSame 129 = .ok (.arraylength, 1) := by decide +kernel
theorem dX6_isSame_130 : decode cX6_isSame 130 = .ok (.if_icmp .ge 122, 3) := by decide +kernel
theorem dX6_isSame_133 : decode cX6_isSame 133 = .ok (.aload_n 0, 1) := by decide +kernel
theorem dX6_isSame_134 : decode cX6_isSame 134 = .ok (.getfield 15, 3) := by decide +kernel
theorem dX6_isSame_137 : decode cX6_isSame 137 = .ok (.iload 4, 2) := by decide +kernel
theorem dX6_isSame_139 : decode cX6_isSame 139 = .ok (.aaload, 1) := by decide +kernel
theorem dX6_isSame_140 : decode cX6_isSame 140 = .ok (.iconst 0, 1) := by decide +kernel
theorem dX6_isSame_141 : decode cX6_isSame 141 = .ok (.iaload, 1) := by decide +kernel
theorem dX6_isSame_142 : decode cX6_isSame 142 = .ok (.aload_n 0, 1) := by decide +kernel
theorem dX6_isSame_143 : decode cX6_isSame 143 = .ok (.getfield 47, 3) := by decide +kernel
theorem dX6_isSame_146 : decode cX6_isSame 146 = .ok (.iadd, 1) := by decide +kernel
theorem dX6_isSame_147 : decode cX6_isSame 147 = .ok (.sipush 360, 3) := by decide +kernel
theorem dX6_isSame_150 : decode cX6_isSame 150 = .ok (.irem, 1) := by decide +kernel
theorem dX6_isSame_151 : decode cX6_isSame 151 = .ok (.istore 5, 2) := by decide +kernel
theorem dX6_isSame_153 : decode cX6_isSame 153 = .ok (.iconst 4, 1) := by decide +kernel
theorem dX6_isSame_154 : decode cX6_isSame 154 = .ok (.newarray .int, 2) := by decide +kernel
theorem dX6_isSame_156 : decode cX6_isSame 156 = .ok (.dup, 1) := by decide +kernel
theorem dX6_isSame_157 : decode cX6_isSame 157 = .ok (.iconst 0, 1) := by decide +kernel
theorem dX6_isSame_158 : decode cX6_isSame 158 = .ok (.aload_n 0, 1) := by decide +kernel
theorem dX6_isSame_159 : decode cX6_isSame 159 = .ok (.getfield 15, 3) := by decide +kernel
theorem dX6_isSame_162 : decode cX6_isSame 162 = .ok (.iload 4, 2) := by decide +kernel
theorem dX6_isSame_164 : decode cX6_isSame 164 = .ok (.aaload, 1) := by decide +kernel
theorem dX6_isSame_165 : decode cX6_isSame 165 = .ok (.iconst 0, 1) := by decide +kernel
theorem dX6_isSame_166 : decode cX6_isSame 166 = .ok (.iaload, 1) := by decide +kernel
theorem dX6_isSame_167 : decode cX6_isSame 167 = .ok (.iastore, 1) := by decide +kernel
theorem dX6_isSame_168 : decode cX6_isSame 168 = .ok (.dup, 1) := by decide +kernel
theorem dX6_isSame_169 : decode cX6_isSame 169 = .ok (.iconst 1, 1) := by decide +kernel
theorem dX6_isSame_170 : decode cX6_isSame 170 = .ok (.aload_n 0, 1) := by decide +kernel
theorem dX6_isSame_171 : decode cX6_isSame 171 = .ok (.getfield 15, 3) := by decide +kernel
theorem dX6_isSame_174 : decode cX6_isSame 174 = .ok (.iload 4, 2) := by decide +kernel
theorem dX6_isSame_176 : decode cX6_isSame 176 = .ok (.aaload, 1) := by decide +kernel
theorem dX6_isSame_177 : decode cX6_isSame 177 = .ok (.iconst 1, 1) := by decide +kernel
theorem dX6_isSame_178 : decode cX6_isSame 178 = .ok (.iaload, 1) := by decide +kernel
theorem dX6_isSame_179 : decode cX6_isSame 179 = .ok (.iastore, 1) := by decide +kernel
theorem dX6_isSame_180 : decode cX6_isSame 180 = .ok (.dup, 1) := by decide +kernel
theorem dX6_isSame_181 : decode cX6_isSame 181 = .ok (.iconst 2, 1) := by decide +kernel
theorem dX6_isSame_182 : decode cX6_isSame 182 = .ok (.iload 5, 2) := by decide +kernel
theorem dX6_isSame_184 : decode cX6_isSame 184 = .ok (.iastore, 1) := by decide +kernel
theorem dX6_isSame_185 : decode cX6_isSame 185 = .ok (.dup, 1) := by decide +kernel
theorem dX6_isSame_186 : decode cX6_isSame 186 = .ok (.iconst 3, 1) := by decide +kernel
theorem dX6_isSame_187 : decode cX6_isSame 187 = .ok (.aload_n 0, 1) := by decide +kernel
theorem dX6_isSame_188 : decode cX6_isSame 188 = .ok (.iload 5, 2) := by decide +kernel
theorem dX6_isSame_190 : decode cX6_isSame 190 = .ok (.aload_n 0, 1) := by decide +kernel
theorem dX6_isSame_191 : decode cX6_isSame 191 = .ok (.getfield 15, 3) := by decide +kernel
theorem dX6_isSame_194 : decode cX6_isSame 194 = .ok (.iload 4, 2) := by decide +kernel
theorem dX6_isSame_196 : decode cX6_isSame 196 = .ok (.aaload, 1) := by decide +kernel
theorem dX6_isSame_197 : decode cX6_isSame 197 = .ok (.iconst 1, 1) := by decide +kernel
theorem dX6_isSame_198 : decode cX6_isSame 198 = .ok (.iaload, 1) := by decide +kernel
theorem dX6_isSame_199 : decode cX6_isSame 199 = .ok (.invokevirtual 68, 3) := by decide +kernel
theorem dX6_isSame_202 : decode cX6_isSame 202 = .ok (.ifCond .eq 7, 3) := by decide +kernel
theorem dX6_isSame_205 : decode cX6_isSame 205 = .ok (.iconst 1, 1) := by decide +kernel
theorem dX6_isSame_206 : decode cX6_isSame 206 = .ok (.goto 4, 3) := by decide +kernel
theorem dX6_isSame_209 : decode cX6_isSame 209 = .ok (.iconst 0, 1) := by decide +kernel
theorem dX6_isSame_210 : decode cX6_isSame 210 = .ok (.iastore, 1) := by decide +kernel
theorem dX6_isSame_211 : decode cX6_isSame 211 = .ok (.astore 6, 2) := by decide +kernel
theorem dX6_isSame_213 : decode cX6_isSame 213 = .ok (.iconst 0, 1) := by decide +kernel
theorem dX6_isSame_214 : decode cX6_isSame 214 = .ok (.istore 7, 2) := by decide +kernel
theorem dX6_isSame_216 : decode cX6_isSame 216 = .ok (.iload 7, 2) := by decide +kernel
theorem dX6_isSame_218 : decode cX6_isSame 218 = .ok (.iconst 4, 1) := by decide +kernel
theorem dX6_isSame_219 : decode cX6_isSame 219 = .ok (.if_icmp .ge 27, 3) := by decide +kernel
theorem dX6_isSame_222 : decode cX6_isSame 222 = .ok (.aload_n 1, 1) := by decide +kernel
theorem dX6_isSame_223 : decode cX6_isSame 223 = .ok (.iload 4, 2) := by decide +kernel
theorem dX6_isSame_225 : decode cX6_isSame 225 = .ok (.iload 7, 2) := by decide +kernel
theorem dX6_isSame_227 : decode cX6_isSame 227 = .ok (.invokevirtual 78, 3) := by decide +kernel
theorem dX6_isSame_230 : decode cX6_isSame 230 = .ok (.aload 6, 2) := by decide +kernel
theorem dX6_isSame_232 : decode cX6_isSame 232 = .ok (.iload 7, 2) := by decide +kernel
theorem dX6_isSame_234 : decode cX6_isSame 234 = .ok (.iaload, 1) := by decide +kernel
theorem dX6_isSame_235 : decode cX6_isSame 235 = .ok (.if_icmp .eq 5, 3) := by decide +kernel
theorem dX6_isSame_238 : decode cX6_isSame 238 = .ok (.iconst 0, 1) := by decide +kernel
theorem dX6_isSame_239 : decode cX6_isSame 239 = .ok (.ireturn, 1) := by decide +kernel
theorem dX6_isSame_240 : decode cX6_isSame 240 = .ok (.iinc 7 1, 3) := by decide +kernel
theorem dX6_isSame_243 : decode cX6_isSame 243 = .ok (.goto (-27), 3) := by decide +kernel
theorem dX6_isSame_246 : decode cX6_isSame 246 = .ok (.iinc 4 1, 3) := by decide +kernel
theorem dX6_isSame_249 : decode cX6_isSame 249 = .ok (.goto (-126), 3) := by decide +kernel
theorem dX6_isSame_252 : decode cX6_isSame 252 = .ok (.iconst 0, 1) := by decide +kernel
theorem dX6_isSame_253 : decode cX6_isSame 253 = .ok (.istore 4, 2) := by decide +kernel
theorem dX6_isSame_255 : decode cX6_isSame 255 = .ok (.iload 4, 2) := by decide +kernel
theorem dX6_isSame_257 : decode cX6_isSame 257 = .ok (.aload_n 0, 1) := by decide +kernel
theorem dX6_isSame_258 : decode cX6_isSame 258 = .ok (.getfield 18, 3) := by decide +kernel
theorem dX6_isSame_261 : decode cX6_isSame 261 = .ok (.arraylength, 1) := by decide +kernel
theorem dX6_isSame_262 : decode cX6_isSame 262 = .ok (.if_icmp .ge 121, 3) := by decide +kernel
theorem dX6_isSame_265 : decode cX6_isSame 265 = .ok (.iconst 4, 1) := by decide +kernel
theorem dX6_isSame_266 : decode cX6_isSame 266 = .ok (.newarray .int, 2) := by decide +kernel
theorem dX6_isSame_268 : decode cX6_isSame 268 = .ok (.dup, 1) := by decide +kernel
theorem dX6_isSame_269 : decode cX6_isSame 269 = .ok (.iconst 0, 1) := by decide +kernel
theorem dX6_isSame_270 : decode cX6_isSame 270 = .ok (.aload_n 0, 1) := by decide +kernel
theorem dX6_isSame_271 : decode cX6_isSame 271 = .ok (.getfield 18, 3) := by decide +kernel
theorem dX6_isSame_274 : decode cX6_isSame 274 = .ok (.iload 4, 2) := by decide +kernel
theorem dX6_isSame_276 : decode cX6_isSame 276 = .ok (.aaload, 1) := by decide +kernel
theorem dX6_isSame_277 : decode cX6_isSame 277 = .ok (.iconst 0, 1) := by decide +kernel
theorem dX6_isSame_278 : decode cX6_isSame 278 = .ok (.iaload, 1) := by decide +kernel
theorem dX6_isSame_279 : decode cX6_isSame 279 = .ok (.iastore, 1) := by decide +kernel
theorem dX6_isSame_280 : decode cX6_isSame 280 = .ok (.dup, 1) := by decide +kernel
theorem dX6_isSame_281 : decode cX6_isSame 281 = .ok (.iconst 1, 1) := by decide +kernel
theorem dX6_isSame_282 : decode cX6_isSame 282 = .ok (.aload_n 0, 1) := by decide +kernel
theorem dX6_isSame_283 : decode cX6_isSame 283 = .ok (.getfield 18, 3) := by decide +kernel
theorem dX6_isSame_286 : decode cX6_isSame 286 = .ok (.iload 4, 2) := by decide +kernel
theorem dX6_isSame_288 : decode cX6_isSame 288 = .ok (.aaload, 1) := by decide +kernel
theorem dX6_isSame_289 : decode cX6_isSame 289 = .ok (.iconst 1, 1) := by decide +kernel
theorem dX6_isSame_290 : decode cX6_isSame 290 = .ok (.iaload, 1) := by decide +kernel
theorem dX6_isSame_291 : decode cX6_isSame 291 = .ok (.iastore, 1) := by decide +kernel
theorem dX6_isSame_292 : decode cX6_isSame 292 = .ok (.dup, 1) := by decide +kernel
theorem dX6_isSame_293 : decode cX6_isSame 293 = .ok (.iconst 2, 1) := by decide +kernel
theorem dX6_isSame_294 : decode cX6_isSame 294 = .ok (.aload_n 0, 1) := by decide +kernel
theorem dX6_isSame_295 : decode cX6_isSame 295 = .ok (.getfield 18, 3) := by decide +kernel
theorem dX6_isSame_298 : decode cX6_isSame 298 = .ok (.iload 4, 2) := by decide +kernel
theorem dX6_isSame_300 : decode cX6_isSame 300 = .ok (.aaload, 1) := by decide +kernel
theorem dX6_isSame_301 : decode cX6_isSame 301 = .ok (.iconst 2, 1) := by decide +kernel
theorem dX6_isSame_302 : decode cX6_isSame 302 = .ok (.iaload, 1) := by decide +kernel
theorem dX6_isSame_303 : decode cX6_isSame 303 = .ok (.iastore, 1) := by decide +kernel
theorem dX6_isSame_304 : decode cX6_isSame 304 = .ok (.dup, 1) := by decide +kernel
theorem dX6_isSame_305 : decode cX6_isSame 305 = .ok (.iconst 3, 1) := by decide +kernel
theorem dX6_isSame_306 : decode cX6_isSame 306 = .ok (.aload_n 0, 1) := by decide +kernel
theorem dX6_isSame_307 : decode cX6_isSame 307 = .ok (.getfield 18, 3) := by decide +kernel
theorem dX6_isSame_310 : decode cX6_isSame 310 = .ok (.iload 4, 2) := by decide +kernel
theorem dX6_isSame_312 : decode cX6_isSame 312 = .ok (.aaload, 1) := by decide +kernel
theorem dX6_isSame_313 : decode cX6_isSame 313 = .ok (.iconst 2, 1) := by decide +kernel
theorem dX6_isSame_314 : decode cX6_isSame 314 = .ok (.iaload, 1) := by decide +kernel
theorem dX6_isSame_315 : decode cX6_isSame 315 = .ok (.ifCond .le 25, 3) := by decide +kernel
theorem dX6_isSame_318 : decode cX6_isSame 318 = .ok (.aload_n 0, 1) := by decide +kernel
theorem dX6_isSame_319 : decode cX6_isSame 319 = .ok (.aload_n 0, 1) := by decide +kernel
theorem dX6_isSame_320 : decode cX6_isSame 320 = .ok (.getfield 18, 3) := by decide +kernel
theorem dX6_isSame_323 : decode cX6_isSame 323 = .ok (.iload 4, 2) := by decide +kernel
theorem dX6_isSame_325 : decode cX6_isSame 325 = .ok (.aaload, 1) := by decide +kernel
theorem dX6_isSame_326 : decode cX6_isSame 326 = .ok (.iconst 0, 1) := by decide +kernel
theorem dX6_isSame_327 : decode cX6_isSame 327 = .ok (.iaload, 1) := by decide +kernel
theorem dX6_isSame_328 : decode cX6_isSame 328 = .ok (.bipush 6, 2) := by decide +kernel
theorem dX6_isSame_330 : decode cX6_isSame 330 = .ok (.invokevirtual 68, 3) := by decide +kernel
theorem dX6_isSame_333 : decode cX6_isSame 333 = .ok (.ifCond .eq 7, 3) := by decide +kernel
theorem dX6_isSame_336 : decode cX6_isSame 336 = .ok (.iconst 1, 1) := by decide +kernel
theorem dX6_isSame_337 : decode cX6_isSame 337 = .ok (.goto 4, 3) := by decide +kernel
theorem dX6_isSame_340 : decode cX6_isSame 340 = .ok (.iconst 0, 1) := by decide +kernel
theorem dX6_isSame_341 : decode cX6_isSame 341 = .ok (.iastore, 1) := by decide +kernel
theorem dX6_isSame_342 : decode cX6_isSame 342 = .ok (.astore 5, 2) := by decide +kernel
theorem dX6_isSame_344 : decode cX6_isSame 344 = .ok (.iconst 0, 1) := by decide +kernel
theorem dX6_isSame_345 : decode cX6_isSame 345 = .ok (.istore 6, 2) := by decide +kernel
theorem dX6_isSame_347 : decode cX6_isSame 347 = .ok (.iload 6, 2) := by decide +kernel
theorem dX6_isSame_349 : decode cX6_isSame 349 = .ok (.iconst 4, 1) := by decide +kernel
theorem dX6_isSame_350 : decode cX6_isSame 350 = .ok (.if_icmp .ge 27, 3) := by decide +kernel
theorem dX6_isSame_353 : decode cX6_isSame 353 = .ok (.aload_n 1, 1) := by decide +kernel
theorem dX6_isSame_354 : decode cX6_isSame 354 = .ok (.iload 4, 2) := by decide +kernel
theorem dX6_isSame_356 : decode cX6_isSame 356 = .ok (.iload 6, 2) := by decide +kernel
theorem dX6_isSame_358 : decode cX6_isSame 358 = .ok (.invokevirtual 81, 3) := by decide +kernel
theorem dX6_isSame_361 : decode cX6_isSame 361 = .ok (.aload 5, 2) := by decide +kernel
theorem dX6_isSame_363 : decode cX6_isSame 363 = .ok (.iload 6, 2) := by decide +kernel
theorem dX6_isSame_365 : decode cX6_isSame 365 = .ok (.iaload, 1) := by decide +kernel
theorem dX6_isSame_366 : decode cX6_isSame 366 = .ok (.if_icmp .eq 5, 3) := by decide +kernel
theorem dX6_isSame_369 : decode cX6_isSame 369 = .ok (.iconst 0, 1) := by decide +kernel
theorem dX6_isSame_370 : decode cX6_isSame 370 = .ok (.ireturn, 1) := by decide +kernel
theorem dX6_isSame_371 : decode cX6_isSame 371 = .ok (.iinc 6 1, 3) := by decide +kernel
theorem dX6_isSame_374 : decode cX6_isSame 374 = .ok (.goto (-27), 3) := by decide +kernel
theorem dX6_isSame_377 : decode cX6_isSame 377 = .ok (.iinc 4 1, 3) := by decide +kernel
theorem dX6_isSame_380 : decode cX6_isSame 380 = .ok (.goto (-125), 3) := by decide +kernel
theorem dX6_isSame_383 : decode cX6_isSame 383 = .ok (.bipush 13, 2) := by decide +kernel
theorem dX6_isSame_385 : decode cX6_isSame 385 = .ok (.newarray .int, 2) := by decide +kernel
theorem dX6_isSame_387 : decode cX6_isSame 387 = .ok (.dup, 1) := by decide +kernel
theorem dX6_isSame_388 : decode cX6_isSame 388 = .ok (.iconst 0, 1) := by decide +kernel
theorem dX6_isSame_389 : decode cX6_isSame 389 = .ok (.aload_n 0, 1) := by decide +kernel
theorem dX6_isSame_390 : decode cX6_isSame 390 = .ok (.getfield 61, 3) := by decide +kernel
theorem dX6_isSame_393 : decode cX6_isSame 393 = .ok (.iastore, 1) := by decide +kernel
theorem dX6_isSame_394 : decode cX6_isSame 394 = .ok (.dup, 1) := by decide +kernel
theorem dX6_isSame_395 : decode cX6_isSame 395 = .ok (.iconst 1, 1) := by decide +kernel
theorem dX6_isSame_396 : decode cX6_isSame 396 = .ok (.aload_n 0, 1) := by decide +kernel
theorem dX6_isSame_397 : decode cX6_isSame 397 = .ok (.getfield 37, 3) := by decide +kernel
theorem dX6_isSame_400 : decode cX6_isSame 400 = .ok (.iastore, 1) := by decide +kernel
theorem dX6_isSame_401 : decode cX6_isSame 401 = .ok (.dup, 1) := by decide +kernel
theorem dX6_isSame_402 : decode cX6_isSame 402 = .ok (.iconst 2, 1) := by decide +kernel
theorem dX6_isSame_403 : decode cX6_isSame 403 = .ok (.aload_n 0, 1) := by decide +kernel
theorem dX6_isSame_404 : decode cX6_isSame 404 = .ok (.getfield 40, 3) := by decide +kernel
theorem dX6_isSame_407 : decode cX6_isSame 407 = .ok (.ifCond .eq 7, 3) := by decide +kernel
theorem dX6_isSame_410 : decode cX6_isSame 410 = .ok (.iconst 1, 1) := by decide +kernel
theorem dX6_isSame_411 : decode cX6_isSame 411 = .ok (.goto 4, 3) := by decide +kernel
theorem dX6_isSame_414 : decode cX6_isSame 414 = .ok (.iconst 0, 1) := by decide +kernel
theorem dX6_isSame_415 : decode cX6_isSame 415 = .ok (.iastore, 1) := by decide +kernel
theorem dX6_isSame_416 : decode cX6_isSame 416 = .ok (.dup, 1) := by decide +kernel
theorem dX6_isSame_417 : decode cX6_isSame 417 = .ok (.iconst 3, 1) := by decide +kernel
theorem dX6_isSame_418 : decode cX6_isSame 418 = .ok (.aload_n 0, 1) := by decide +kernel
theorem dX6_isSame_419 : decode cX6_isSame 419 = .ok (.getfield 9, 3) := by decide +kernel
theorem dX6_isSame_422 : decode cX6_isSame 422 = .ok (.arraylength, 1) := by decide +kernel
theorem dX6_isSame_423 : decode cX6_isSame 423 = .ok (.iastore, 1) := by decide +kernel
theorem dX6_isSame_424 : decode cX6_isSame 424 = .ok (.dup, 1) := by decide +kernel
theorem dX6_isSame_425 : decode cX6_isSame 425 = .ok (.iconst 4, 1) := by decide +kernel
theorem dX6_isSame_426 : decode cX6_isSame 426 = .ok (.aload_n 0, 1) := by decide +kernel
theorem dX6_isSame_427 : decode cX6_isSame 427 = .ok (.getfield 15, 3) := by decide +kernel
theorem dX6_isSame_430 : decode cX6_isSame 430 = .ok (.arraylength, 1) := by decide +kernel
theorem dX6_isSame_431 : decode cX6_isSame 431 = .ok (.iastore, 1) := by decide +kernel
theorem dX6_isSame_432 : decode cX6_isSame 432 = .ok (.dup, 1) := by decide +kernel
theorem dX6_isSame_433 : decode cX6_isSame 433 = .ok (.iconst 5, 1) := by decide +kernel
theorem dX6_isSame_434 : decode cX6_isSame 434 = .ok (.aload_n 0, 1) := by decide +kernel
theorem dX6_isSame_435 : decode cX6_isSame 435 = .ok (.getfield 18, 3) := by decide +kernel
theorem dX6_isSame_438 : decode cX6_isSame 438 = .ok (.arraylength, 1) := by decide +kernel
theorem dX6_isSame_439 : decode cX6_isSame 439 = .ok (.iastore, 1) := by decide +kernel
theorem dX6_isSame_440 : decode cX6_isSame 440 = .ok (.dup, 1) := by decide +kernel
theorem dX6_isSame_441 : decode cX6_isSame 441 = .ok (.bipush 6, 2) := by decide +kernel
theorem dX6_isSame_443 : decode cX6_isSame 443 = .ok (.aload_n 0, 1) := by decide +kernel
theorem dX6_isSame_444 : decode cX6_isSame 444 = .ok (.getfield 21, 3) := by decide +kernel
theorem dX6_isSame_447 : decode cX6_isSame 447 = .ok (.arraylength, 1) := by decide +kernel
theorem dX6_isSame_448 : decode cX6_isSame 448 = .ok (.iastore, 1) := by decide +kernel
theorem dX6_isSame_449 : decode cX6_isSame 449 = .ok (.dup, 1) := by decide +kernel
theorem dX6_isSame_450 : decode cX6_isSame 450 = .ok (.bipush 7, 2) := by decide +kernel
theorem dX6_isSame_452 : decode cX6_isSame 452 = .ok (.aload_n 0, 1) := by decide +kernel
theorem dX6_isSame_453 : decode cX6_isSame 453 = .ok (.invokevirtual 84, 3) := by decide +kernel
theorem dX6_isSame_456 : decode cX6_isSame 456 = .ok (.iastore, 1) := by decide +kernel
theorem dX6_isSame_457 : decode cX6_isSame 457 = .ok (.dup, 1) := by decide +kernel
theorem dX6_isSame_458 : decode cX6_isSame 458 = .ok (.bipush 8, 2) := by decide +kernel
theorem dX6_isSame_460 : decode cX6_isSame 460 = .ok (.aload_n 0, 1) := by decide +kernel
theorem dX6_isSame_461 : decode cX6_isSame 461 = .ok (.invokevirtual 87, 3) := by decide +kernel
theorem dX6_isSame_464 : decode cX6_isSame 464 = .ok (.iastore, 1) := by decide +kernel
theorem dX6_isSame_465 : decode cX6_isSame 465 = .ok (.dup, 1) := by decide +kernel
theorem dX6_isSame_466 : decode cX6_isSame 466 = .ok (.bipush 9, 2) := by decide +kernel
theorem dX6_isSame_468 : decode cX6_isSame 468 = .ok (.aload_n 0, 1) := by decide +kernel
theorem dX6_isSame_469 : decode cX6_isSame 469 = .ok (.getfield 24, 3) := by decide +kernel
theorem dX6_isSame_472 : decode cX6_isSame 472 = .ok (.iastore, 1) := by decide +kernel
theorem dX6_isSame_473 : decode cX6_isSame 473 = .ok (.dup, 1) := by decide +kernel
theorem dX6_isSame_474 : decode cX6_isSame 474 = .ok (.bipush 10, 2) := by decide +kernel
theorem dX6_isSame_476 : decode cX6_isSame 476 = .ok (.aload_n 0, 1) := by decide +kernel
theorem dX6_isSame_477 : decode cX6_isSame 477 = .ok (.getfield 44, 3) := by decide +kernel
theorem dX6_isSame_480 : decode cX6_isSame 480 = .ok (.iastore, 1) := by decide +kernel
theorem dX6_isSame_481 : decode cX6_isSame 481 = .ok (.dup, 1) := by decide +kernel
theorem dX6_isSame_482 : decode cX6_isSame 482 = .ok (.bipush 11, 2) := by decide +kernel
theorem dX6_isSame_484 : decode cX6_isSame 484 = .ok (.aload_n 0, 1) := by decide +kernel
theorem dX6_isSame_485 : decode cX6_isSame 485 = .ok (.getfield 47, 3) := by decide +kernel
theorem dX6_isSame_488 : decode cX6_isSame 488 = .ok (.iastore, 1) := by decide +kernel
theorem dX6_isSame_489 : decode cX6_isSame 489 = .ok (.dup, 1) := by decide +kernel
theorem dX6_isSame_490 : decode cX6_isSame 490 = .ok (.bipush 12, 2) := by decide +kernel
theorem dX6_isSame_492 : decode cX6_isSame 492 = .ok (.aload_n 0, 1) := by decide +kernel
theorem dX6_isSame_493 : decode cX6_isSame 493 = .ok (.getfield 50, 3) := by decide +kernel
theorem dX6_isSame_496 : decode cX6_isSame 496 = .ok (.iastore, 1) := by decide +kernel
theorem dX6_isSame_497 : decode cX6_isSame 497 = .ok (.astore 4, 2) := by decide +kernel
theorem dX6_isSame_499 : decode cX6_isSame 499 = .ok (.iconst 0, 1) := by decide +kernel
theorem dX6_isSame_500 : decode cX6_isSame 500 = .ok (.istore 5, 2) := by decide +kernel
theorem dX6_isSame_502 : decode cX6_isSame 502 = .ok (.iload 5, 2) := by decide +kernel
theorem dX6_isSame_504 : decode cX6_isSame 504 = .ok (.bipush 13, 2) := by decide +kernel
theorem dX6_isSame_506 : decode cX6_isSame 506 = .ok (.if_icmp .ge 25, 3) := by decide +kernel
theorem dX6_isSame_509 : decode cX6_isSame 509 = .ok (.aload_n 1, 1) := by decide +kernel
theorem dX6_isSame_510 : decode cX6_isSame 510 = .ok (.iload 5, 2) := by decide +kernel
theorem dX6_isSame_512 : decode cX6_isSame 512 = .ok (.invokevirtual 89, 3) := by decide +kernel
theorem dX6_isSame_515 : decode cX6_isSame 515 = .ok (.aload 4, 2) := by decide +kernel
theorem dX6_isSame_517 : decode cX6_isSame 517 = .ok (.iload 5, 2) := by decide +kernel
theorem dX6_isSame_519 : decode cX6_isSame 519 = .ok (.iaload, 1) := by decide +kernel
theorem dX6_isSame_520 : decode cX6_isSame 520 = .ok (.if_icmp .eq 5, 3) := by decide +kernel
theorem dX6_isSame_523 : decode cX6_isSame 523 = .ok (.iconst 0, 1) := by decide +kernel
theorem dX6_isSame_524 : decode cX6_isSame 524 = .ok (.ireturn, 1) := by decide +kernel
theorem dX6_isSame_525 : decode cX6_isSame 525 = .ok (.iinc 5 1, 3) := by decide +kernel
theorem dX6_isSame_528 : decode cX6_isSame 528 = .ok (.goto (-26), 3) := by decide +kernel
theorem dX6_isSame_531 : decode cX6_isSame 531 = .ok (.aload_n 1, 1) := by decide +kernel
theorem dX6_isSame_532 : decode cX6_isSame 532 = .ok (.invokevirtual 92, 3) := by decide +kernel
theorem dX6_isSame_535 : decode cX6_isSame 535 = .ok (.iload_n 2, 1) := by decide +kernel
theorem dX6_isSame_536 : decode cX6_isSame 536 = .ok (.i2d, 1) := by decide +kernel
theorem dX6_isSame_537 : decode cX6_isSame 537 = .ok (.ldc2_w 96, 3) := by decide +kernel
theorem dX6_isSame_540 : decode cX6_isSame 540 = .ok (.ddiv, 1) := by decide +kernel
theorem dX6_isSame_541 : decode cX6_isSame 541 = .ok (.dcmp .l, 1) := by decide +kernel
theorem dX6_isSame_542 : decode cX6_isSame 542 = .ok (.ifCond .ne 15, 3) := by decide +kernel
theorem dX6_isSame_545 : decode cX6_isSame 545 = .ok (.aload_n 1, 1) := by decide +kernel
theorem dX6_isSame_546 : decode cX6_isSame 546 = .ok (.invokevirtual 98, 3) := by decide +kernel
theorem dX6_isSame_549 : decode cX6_isSame 549 = .ok (.iload_n 3, 1) := by decide +kernel
theorem dX6_isSame_550 : decode cX6_isSame 550 = .ok (.if_icmp .ne 7, 3) := by decide +kernel
theorem dX6_isSame_553 : decode cX6_isSame 553 = .ok (.iconst 1, 1) := by decide +kernel
theorem dX6_isSame_554 : decode cX6_isSame 554 = .ok (.goto 4, 3) := by decide +kernel
theorem dX6_isSame_557 : decode cX6_isSame 557 = .ok (.iconst 0, 1) := by decide +kernel
theorem dX6_isSame_558 : decode cX6_isSame 558 = .ok (.ireturn, 1) := by decide +kernel
