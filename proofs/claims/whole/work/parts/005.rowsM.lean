theorem dX6_init_0 : decode cX6_init 0 = .ok (.aload_n 0, 1) := by decide +kernel
theorem dX6_init_1 : decode cX6_init 1 = .ok (.invokespecial 1, 3) := by decide +kernel
theorem dX6_init_4 : decode cX6_init 4 = .ok (.aload_n 0, 1) := by decide +kernel
theorem dX6_init_5 : decode cX6_init 5 = .ok (.bipush 40, 2) := by decide +kernel
theorem dX6_init_7 : decode cX6_init 7 = .ok (.newarray .int, 2) := by decide +kernel
theorem dX6_init_9 : decode cX6_init 9 = .ok (.putfield 9, 3) := by decide +kernel
theorem dX6_init_12 : decode cX6_init 12 = .ok (.aload_n 0, 1) := by decide +kernel
theorem dX6_init_13 : decode cX6_init 13 = .ok (.bipush 40, 2) := by decide +kernel
theorem dX6_init_15 : decode cX6_init 15 = .ok (.newarray .int, 2) := by decide +kernel
theorem dX6_init_17 : decode cX6_init 17 = .ok (.putfield 13, 3) := by decide +kernel
theorem dX6_init_20 : decode cX6_init 20 = .ok (.aload_n 0, 1) := by decide +kernel
theorem dX6_init_21 : decode cX6_init 21 = .ok (.bipush 36, 2) := by decide +kernel
theorem dX6_init_23 : decode cX6_init 23 = .ok (.newarray .int, 2) := by decide +kernel
theorem dX6_init_25 : decode cX6_init 25 = .ok (.putfield 16, 3) := by decide +kernel
theorem dX6_init_28 : decode cX6_init 28 = .ok (.aload_n 0, 1) := by decide +kernel
theorem dX6_init_29 : decode cX6_init 29 = .ok (.bipush 96, 2) := by decide +kernel
theorem dX6_init_31 : decode cX6_init 31 = .ok (.newarray .int, 2) := by decide +kernel
theorem dX6_init_33 : decode cX6_init 33 = .ok (.putfield 19, 3) := by decide +kernel
theorem dX6_init_36 : decode cX6_init 36 = .ok (.aload_n 0, 1) := by decide +kernel
theorem dX6_init_37 : decode cX6_init 37 = .ok (.bipush 8, 2) := by decide +kernel
theorem dX6_init_39 : decode cX6_init 39 = .ok (.newarray .int, 2) := by decide +kernel
theorem dX6_init_41 : decode cX6_init 41 = .ok (.dup, 1) := by decide +kernel
theorem dX6_init_42 : decode cX6_init 42 = .ok (.iconst 0, 1) := by decide +kernel
theorem dX6_init_43 : decode cX6_init 43 = .ok (.iconst 0, 1) := by decide +kernel
theorem dX6_init_44 : decode cX6_init 44 = .ok (.iastore, 1) := by decide +kernel
theorem dX6_init_45 : decode cX6_init 45 = .ok (.dup, 1) := by decide +kernel
theorem dX6_init_46 : decode cX6_init 46 = .ok (.iconst 1, 1) := by decide +kernel
theorem dX6_init_47 : decode cX6_init 47 = .ok (.iconst 0, 1) := by decide +kernel
theorem dX6_init_48 : decode cX6_init 48 = .ok (.iastore, 1) := by decide +kernel
theorem dX6_init_49 : decode cX6_init 49 = .ok (.dup, 1) := by decide +kernel
theorem dX6_init_50 : decode cX6_init 50 = .ok (.iconst 2, 1) := by decide +kernel
theorem dX6_init_51 : decode cX6_init 51 = .ok (.iconst 0, 1) := by decide +kernel
theorem dX6_init_52 : decode cX6_init 52 = .ok (.iastore, 1) := by decide +kernel
theorem dX6_init_53 : decode cX6_init 53 = .ok (.dup, 1) := by decide +kernel
theorem dX6_init_54 : decode cX6_init 54 = .ok (.iconst 3, 1) := by decide +kernel
theorem dX6_init_55 : decode cX6_init 55 = .ok (.iconst (-1), 1) := by decide +kernel
theorem dX6_init_56 : decode cX6_init 56 = .ok (.iastore, 1) := by decide +kernel
theorem dX6_init_57 : decode cX6_init 57 = .ok (.dup, 1) := by decide +kernel
theorem dX6_init_58 : decode cX6_init 58 = .ok (.iconst 4, 1) := by decide +kernel
theorem dX6_init_59 : decode cX6_init 59 = .ok (.iconst 0, 1) := by decide +kernel
theorem dX6_init_60 : decode cX6_init 60 = .ok (.iastore, 1) := by decide +kernel
theorem dX6_init_61 : decode cX6_init 61 = .ok (.dup, 1) := by decide +kernel
theorem dX6_init_62 : decode cX6_init 62 = .ok (.iconst 5, 1) := by decide +kernel
theorem dX6_init_63 : decode cX6_init 63 = .ok (.iconst 0, 1) := by decide +kernel
theorem dX6_init_64 : decode cX6_init 64 = .ok (.iastore, 1) := by decide +kernel
theorem dX6_init_65 : decode cX6_init 65 = .ok (.dup, 1) := by decide +kernel
theorem dX6_init_66 : decode cX6_init 66 = .ok (.bipush 6, 2) := by decide +kernel
theorem dX6_init_68 : decode cX6_init 68 = .ok (.iconst 0, 1) := by decide +kernel
theorem dX6_init_69 : decode cX6_init 69 = .ok (.iastore, 1) := by decide +kernel
theorem dX6_init_70 : decode cX6_init 70 = .ok (.dup, 1) := by decide +kernel
theorem dX6_init_71 : decode cX6_init 71 = .ok (.bipush 7, 2) := by decide +kernel
theorem dX6_init_73 : decode cX6_init 73 = .ok (.iconst 0, 1) := by decide +kernel
theorem dX6_init_74 : decode cX6_init 74 = .ok (.iastore, 1) := by decide +kernel
theorem dX6_init_75 : decode cX6_init 75 = .ok (.putfield 22, 3) := by decide +kernel
theorem dX6_init_78 : decode cX6_init 78 = .ok (.return_, 1) := by decide +kernel
theorem dX6_thrown_0 : decode cX6_thrown 0 = .ok (.aload_n 0, 1) := by decide +kernel
theorem dX6_thrown_1 : decode cX6_thrown 1 = .ok (.getfield 25, 3) := by decide +kernel
theorem dX6_thrown_4 : decode cX6_thrown 4 = .ok (.ireturn, 1) := by decide +kernel
theorem dX6_fail_0 : decode cX6_fail 0 = .ok (.aload_n 0, 1) := by decide +kernel
theorem dX6_fail_1 : decode cX6_fail 1 = .ok (.iload_n 1, 1) := by decide +kernel
theorem dX6_fail_2 : decode cX6_fail 2 = .ok (.putfield 25, 3) := by decide +kernel
theorem dX6_fail_5 : decode cX6_fail 5 = .ok (.iconst 0, 1) := by decide +kernel
theorem dX6_fail_6 : decode cX6_fail 6 = .ok (.ireturn, 1) := by decide +kernel
theorem dX6_isIn_0 : decode cX6_isIn 0 = .ok (.iload_n 0, 1) := by decide +kernel
theorem dX6_isIn_1 : decode cX6_isIn 1 = .ok (.iload_n 1, 1) := by decide +kernel
theorem dX6_isIn_2 : decode cX6_isIn 2 = .ok (.if_icmp .lt 12, 3) := by decide +kernel
theorem dX6_isIn_5 : decode cX6_isIn 5 = .ok (.iload_n 0, 1) := by decide +kernel
theorem dX6_isIn_6 : decode cX6_isIn 6 = .ok (.iload_n 2, 1) := by decide +kernel
theorem dX6_isIn_7 : decode cX6_isIn 7 = .ok (.if_icmp .gt 7, 3) := by decide +kernel
theorem dX6_isIn_10 : decode cX6_isIn 10 = .ok (.iconst 1, 1) := by decide +kernel
theorem dX6_isIn_11 : decode cX6_isIn 11 = .ok (.goto 4, 3) := by decide +kernel
theorem dX6_isIn_14 : decode cX6_isIn 14 = .ok (.iconst 0, 1) := by decide +kernel
theorem dX6_isIn_15 : decode cX6_isIn 15 = .ok (.ireturn, 1) := by decide +kernel
set_option maxRecDepth 20000 in
theorem ggX6_isDimmer_X6_isIn : GoodIn wsX6_isDimmer wsX6_isIn := goodIn_r _ [5] (by decide +kernel) (by decide +kernel)
set_option maxRecDepth 20000 in
theorem gX6_isDimmer_X6_isIn : GoodIn wsX6_isDimmer (va_wsS RX6 32 yX6_isIn wsX6_isIn) := goodIn_app (goodIn_of _ (by decide +kernel)) ggX6_isDimmer_X6_isIn
theorem dX6_isDimmer_0 : decode cX6_isDimmer 0 = .ok (.iload_n 1, 1) := by decide +kernel
theorem dX6_isDimmer_1 : decode cX6_isDimmer 1 = .ok (.iconst 0, 1) := by decide +kernel
theorem dX6_isDimmer_2 : decode cX6_isDimmer 2 = .ok (.aload_n 0, 1) := by decide +kernel
theorem dX6_isDimmer_3 : decode cX6_isDimmer 3 = .ok (.getfield 29, 3) := by decide +kernel
theorem dX6_isDimmer_6 : decode cX6_isDimmer 6 = .ok (.iconst 1, 1) := by decide +kernel
theorem dX6_isDimmer_7 : decode cX6_isDimmer 7 = .ok (.isub, 1) := by decide +kernel
theorem dX6_isDimmer_8 : decode cX6_isDimmer 8 = .ok (.invokestatic 32, 3) := by decide +kernel
theorem dX6_isDimmer_11 : decode cX6_isDimmer 11 = .ok (.ireturn, 1) := by decide +kernel
theorem dX6_la_0 : decode cX6_la 0 = .ok (.aload_n 0, 1) := by decide +kernel
theorem dX6_la_1 : decode cX6_la 1 = .ok (.getfield 9, 3) := by decide +kernel
theorem dX6_la_4 : decode cX6_la 4 = .ok (.iconst 5, 1) := by decide +kernel
theorem dX6_la_5 : decode cX6_la 5 = .ok (.iload_n 1, 1) := by decide +kernel
theorem dX6_la_6 : decode cX6_la 6 = .ok (.imul, 1) := by decide +kernel
theorem dX6_la_7 : decode cX6_la 7 = .ok (.iload_n 2, 1) := by decide +kernel
theorem dX6_la_8 : decode cX6_la 8 = .ok (.iadd, 1) := by decide +kernel
theorem dX6_la_9 : decode cX6_la 9 = .ok (.iaload, 1) := by decide +kernel
theorem dX6_la_10 : decode cX6_la 10 = .ok (.ireturn, 1) := by decide +kernel
theorem dX6_put_0 : decode cX6_put 0 = .ok (.aload_n 0, 1) := by decide +kernel
theorem dX6_put_1 : decode cX6_put 1 = .ok (.getfield 9, 3) := by decide +kernel
theorem dX6_put_4 : decode cX6_put 4 = .ok (.iconst 5, 1) := by decide +kernel
theorem dX6_put_5 : decode cX6_put 5 = .ok (.iload_n 1, 1) := by decide +kernel
theorem dX6_put_6 : decode cX6_put 6 = .ok (.imul, 1) := by decide +kernel
theorem dX6_put_7 : decode cX6_put 7 = .ok (.iload_n 2, 1) := by decide +kernel
theorem dX6_put_8 : decode cX6_put 8 = .ok (.iadd, 1) := by decide +kernel
theorem dX6_put_9 : decode cX6_put 9 = .ok (.iload_n 3, 1) := by decide +kernel
theorem dX6_put_10 : decode cX6_put 10 = .ok (.iastore, 1) := by decide +kernel
theorem dX6_put_11 : decode cX6_put 11 = .ok (.return_, 1) := by decide +kernel
set_option maxRecDepth 20000 in
theorem ggX6_dimmer_X6_isIn : GoodIn wsX6_dimmer wsX6_isIn := goodIn_r _ [12] (by decide +kernel) (by decide +kernel)
set_option maxRecDepth 20000 in
theorem gX6_dimmer_X6_isIn : GoodIn wsX6_dimmer (va_wsS RX6 32 yX6_isIn wsX6_isIn) := goodIn_app (goodIn_of _ (by decide +kernel)) ggX6_dimmer_X6_isIn
set_option maxRecDepth 20000 in
theorem ggX6_dimmer_X6_fail : GoodIn wsX6_dimmer wsX6_fail := goodIn_r _ [16, 1, 17, 18, 19, 20, 21, 22, 23, 24, 25] (by decide +kernel) (by decide +kernel)
set_option maxRecDepth 20000 in
theorem gX6_dimmer_X6_fail : GoodIn wsX6_dimmer (wsV RX6 36 RX6 yX6_fail wsX6_fail) := goodIn_app (goodIn_of _ (by decide +kernel)) ggX6_dimmer_X6_fail
theorem dX6_dimmer_0 : decode cX6_dimmer 0 = .ok (.aload_n 0, 1) := by decide +kernel
theorem dX6_dimmer_1 : decode cX6_dimmer 1 = .ok (.iconst 0, 1) := by decide +kernel
theorem dX6_dimmer_2 : decode cX6_dimmer 2 = .ok (.putfield 25, 3) := by decide +kernel
theorem dX6_dimmer_5 : decode cX6_dimmer 5 = .ok (.iload_n 1, 1) := by decide +kernel
theorem dX6_dimmer_6 : decode cX6_dimmer 6 = .ok (.iconst 0, 1) := by decide +kernel
theorem dX6_dimmer_7 : decode cX6_dimmer 7 = .ok (.bipush 11, 2) := by decide +kernel
theorem dX6_dimmer_9 : decode cX6_dimmer 9 = .ok (.invokestatic 32, 3) := by decide +kernel
theorem dX6_dimmer_12 : decode cX6_dimmer 12 = .ok (.ifCond .eq 24, 3) := by decide +kernel
theorem dX6_dimmer_15 : decode cX6_dimmer 15 = .ok (.iload_n 2, 1) := by decide +kernel
theorem dX6_dimmer_16 : decode cX6_dimmer 16 = .ok (.iconst 1, 1) := by decide +kernel
theorem dX6_dimmer_17 : decode cX6_dimmer 17 = .ok (.bipush 50, 2) := by decide +kernel
theorem dX6_dimmer_19 : decode cX6_dimmer 19 = .ok (.invokestatic 32, 3) := by decide +kernel
theorem dX6_dimmer_22 : decode cX6_dimmer 22 = .ok (.ifCond .eq 14, 3) := by decide +kernel
theorem dX6_dimmer_25 : decode cX6_dimmer 25 = .ok (.iload_n 3, 1) := by decide +kernel
theorem dX6_dimmer_26 : decode cX6_dimmer 26 = .ok (.iconst 0, 1) := by decide +kernel
theorem dX6_dimmer_27 : decode cX6_dimmer 27 = .ok (.sipush 9999, 3) := by decide +kernel
theorem dX6_dimmer_30 : decode cX6_dimmer 30 = .ok (.invokestatic 32, 3) := by decide +kernel
theorem dX6_dimmer_33 : decode cX6_dimmer 33 = .ok (.ifCond .ne 9, 3) := by decide +kernel
theorem dX6_dimmer_36 : decode cX6_dimmer 36 = .ok (.aload_n 0, 1) := by decide +kernel
theorem dX6_dimmer_37 : decode cX6_dimmer 37 = .ok (.iconst 1, 1) := by decide +kernel
theorem dX6_dimmer_38 : decode cX6_dimmer 38 = .ok (.invokevirtual 36, 3) := by decide +kernel
theorem dX6_dimmer_41 : decode cX6_dimmer 41 = .ok (.ireturn, 1) := by decide +kernel
theorem dX6_dimmer_42 : decode cX6_dimmer 42 = .ok (.aload_n 0, 1) := by decide +kernel
theorem dX6_dimmer_43 : decode cX6_dimmer 43 = .ok (.getfield 29, 3) := by decide +kernel
theorem dX6_dimmer_46 : decode cX6_dimmer 46 = .ok (.bipush 8, 2) := by decide +kernel
theorem dX6_dimmer_48 : decode cX6_dimmer 48 = .ok (.if_icmp .ne 9, 3) := by decide +kernel
theorem dX6_dimmer_51 : decode cX6_dimmer 51 = .ok (.aload_n 0, 1) := by decide +kernel
theorem dX6_dimmer_52 : decode cX6_dimmer 52 = .ok (.iconst 2, 1) := by decide +kernel
theorem dX6_dimmer_53 : decode cX6_dimmer 53 = .ok (.invokevirtual 36, 3) := by decide +kernel
theorem dX6_dimmer_56 : decode cX6_dimmer 56 = .ok (.ireturn, 1) := by decide +kernel
theorem dX6_dimmer_57 : decode cX6_dimmer 57 = .ok (.iconst 5, 1) := by decide +kernel
theorem dX6_dimmer_58 : decode cX6_dimmer 58 = .ok (.newarray .int, 2) := by decide +kernel
theorem dX6_dimmer_60 : decode cX6_dimmer 60 = .ok (.dup, 1) := by decide +kernel
theorem dX6_dimmer_61 : decode cX6_dimmer 61 = .ok (.iconst 0, 1) := by decide +kernel
theorem dX6_dimmer_62 : decode cX6_dimmer 62 = .ok (.iload_n 1, 1) := by decide +kernel
theorem dX6_dimmer_63 : decode cX6_dimmer 63 = .ok (.iastore, 1) := by decide +kernel
theorem dX6_dimmer_64 : decode cX6_dimmer 64 = .ok (.dup, 1) := by decide +kernel
theorem dX6_dimmer_65 : decode cX6_dimmer 65 = .ok (.iconst 1, 1) := by decide +kernel
theorem dX6_dimmer_66 : decode cX6_dimmer 66 = .ok (.iconst 0, 1) := by decide +kernel
theorem dX6_dimmer_67 : decode cX6_dimmer 67 = .ok (.iastore, 1) := by decide +kernel
theorem dX6_dimmer_68 : decode cX6_dimmer 68 = .ok (.dup, 1) := by decide +kernel
theorem dX6_dimmer_69 : decode cX6_dimmer 69 = .ok (.iconst 2, 1) := by decide +kernel
theorem dX6_dimmer_70 : decode cX6_dimmer 70 = .ok (.iconst 0, 1) := by decide +kernel
theorem dX6_dimmer_71 : decode cX6_dimmer 71 = .ok (.iastore, 1) := by decide +kernel
theorem dX6_dimmer_72 : decode cX6_dimmer 72 = .ok (.dup, 1) := by decide +kernel
theorem dX6_dimmer_73 : decode cX6_dimmer 73 = .ok (.iconst 3, 1) := by decide +kernel
theorem dX6_dimmer_74 : decode cX6_dimmer 74 = .ok (.iload_n 2, 1) := by decide +kernel
theorem dX6_dimmer_75 : decode cX6_dimmer 75 = .ok (.iastore, 1) := by decide +kernel
theorem dX6_dimmer_76 : decode cX6_dimmer 76 = .ok (.dup, 1) := by decide +kernel
theorem dX6_dimmer_77 : decode cX6_dimmer 77 = .ok (.iconst 4, 1) := by decide +kernel
theorem dX6_dimmer_78 : decode cX6_dimmer 78 = .ok (.iload_n 3, 1) := by decide +kernel
theorem dX6_dimmer_79 : decode cX6_dimmer 79 = .ok (.iastore, 1) := by decide +kernel
theorem dX6_dimmer_80 : decode cX6_dimmer 80 = .ok (.astore 4, 2) := by decide +kernel
theorem dX6_dimmer_82 : decode cX6_dimmer 82 = .ok (.aload 4, 2) := by decide +kernel
theorem dX6_dimmer_84 : decode cX6_dimmer 84 = .ok (.iconst 0, 1) := by decide +kernel
theorem dX6_dimmer_85 : decode cX6_dimmer 85 = .ok (.aload_n 0, 1) := by decide +kernel
theorem dX6_dimmer_86 : decode cX6_dimmer 86 = .ok (.getfield 9, 3) := by decide +kernel
theorem dX6_dimmer_89 : decode cX6_dimmer 89 = .ok (.iconst 5, 1) := by decide +kernel
theorem dX6_dimmer_90 : decode cX6_dimmer 90 = .ok (.aload_n 0, 1) := by decide +kernel
theorem dX6_dimmer_91 : decode cX6_dimmer 91 = .ok (.getfield 29, 3) := by decide +kernel
theorem dX6_dimmer_94 : decode cX6_dimmer 94 = .ok (.imul, 1) := by decide +kernel
theorem dX6_dimmer_95 : decode cX6_dimmer 95 = .ok (.iconst 5, 1) := by decide +kernel
theorem dX6_dimmer_96 : decode cX6_dimmer 96 = .ok (.invokestatic 40, 3) := by decide +kernel
theorem dX6_dimmer_99 : decode cX6_dimmer 99 = .ok (.aload_n 0, 1) := by decide +kernel
theorem dX6_dimmer_100 : decode cX6_dimmer 100 = .ok (.dup, 1) := by decide +kernel
theorem dX6_dimmer_101 : decode cX6_dimmer 101 = .ok (.getfield 29, 3) := by decide +kernel
theorem dX6_dimmer_104 : decode cX6_dimmer 104 = .ok (.iconst 1, 1) := by decide +kernel
theorem dX6_dimmer_105 : decode cX6_dimmer 105 = .ok (.iadd, 1) := by decide +kernel
theorem dX6_dimmer_106 : decode cX6_dimmer 106 = .ok (.putfield 29, 3) := by decide +kernel
theorem dX6_dimmer_109 : decode cX6_dimmer 109 = .ok (.aload_n 0, 1) := by decide +kernel
theorem dX6_dimmer_110 : decode cX6_dimmer 110 = .ok (.getfield 29, 3) := by decide +kernel
theorem dX6_dimmer_113 : decode cX6_dimmer 113 = .ok (.iconst 1, 1) := by decide +kernel
theorem dX6_dimmer_114 : decode cX6_dimmer 114 = .ok (.isub, 1) := by decide +kernel
theorem dX6_dimmer_115 : decode cX6_dimmer 115 = .ok (.ireturn, 1) := by decide +kernel
set_option maxRecDepth 20000 in
theorem ggX6_lamp_X6_isDimmer : GoodIn wsX6_lamp wsX6_isDimmer := goodIn_r _ [6, 7, 8, 9, 5, 10, 24, 25, 26, 27, 28, 29, 30, 31, 32] (by decide +kernel) (by decide +kernel)
set_option maxRecDepth 20000 in
theorem gX6_lamp_X6_isDimmer : GoodIn wsX6_lamp (wsV RX6 46 RX6 yX6_isDimmer wsX6_isDimmer) := goodIn_app (goodIn_of _ (by decide +kernel)) ggX6_lamp_X6_isDimmer
set_option maxRecDepth 20000 in
theorem ggX6_lamp_X6_fail : GoodIn wsX6_lamp wsX6_fail := goodIn_r _ [14, 1, 24, 25, 26, 27, 28, 29, 30, 31, 32] (by decide +kernel) (by decide +kernel)
set_option maxRecDepth 20000 in
theorem gX6_lamp_X6_fail : GoodIn wsX6_lamp (wsV RX6 36 RX6 yX6_fail wsX6_fail) := goodIn_app (goodIn_of _ (by decide +kernel)) ggX6_lamp_X6_fail
set_option maxRecDepth 20000 in
theorem ggX6_lamp_X6_isIn : GoodIn wsX6_lamp wsX6_isIn := goodIn_r _ [10] (by decide +kernel) (by decide +kernel)
set_option maxRecDepth 20000 in
theorem gX6_lamp_X6_isIn : GoodIn wsX6_lamp (va_wsS RX6 32 yX6_isIn wsX6_isIn) := goodIn_app (goodIn_of _ (by decide +kernel)) ggX6_lamp_X6_isIn
set_option maxRecDepth 20000 in
theorem ggX6_lamp_X6_la : GoodIn wsX6_lamp wsX6_la := goodIn_r _ [18, 19, 24, 25, 26, 27, 28, 29, 30, 31, 32] (by decide +kernel) (by decide +kernel)
set_option maxRecDepth 20000 in
theorem gX6_lamp_X6_la : GoodIn wsX6_lamp (wsV RX6 50 RX6 yX6_la wsX6_la) := goodIn_app (goodIn_of _ (by decide +kernel)) ggX6_lamp_X6_la
set_option maxRecDepth 20000 in
theorem ggX6_lamp_X6_put : GoodIn wsX6_lamp wsX6_put := goodIn_r _ [23, 19, 24, 25, 26, 27, 28, 29, 30, 31, 32] (by decide +kernel) (by decide +kernel)
set_option maxRecDepth 20000 in
theorem gX6_lamp_X6_put : GoodIn wsX6_lamp (wsV RX6 54 RX6 yX6_put wsX6_put) := goodIn_app (goodIn_of _ (by decide +kernel)) ggX6_lamp_X6_put
theorem dX6_lamp_0 : decode cX6_lamp 0 = .ok (.aload_n 0, 1) := by decide +kernel
theorem dX6_lamp_1 : decode cX6_lamp 1 = .ok (.iconst 0, 1) := by decide +kernel
theorem dX6_lamp_2 : decode cX6_lamp 2 = .ok (.putfield 25, 3) := by decide +kernel
theorem dX6_lamp_5 : decode cX6_lamp 5 = .ok (.aload_n 0, 1) := by decide +kernel
theorem dX6_lamp_6 : decode cX6_lamp 6 = .ok (.iload_n 1, 1) := by decide +kernel
theorem dX6_lamp_7 : decode cX6_lamp 7 = .ok (.invokevirtual 46, 3) := by decide +kernel
theorem dX6_lamp_10 : decode cX6_lamp 10 = .ok (.ifCond .ne 9, 3) := by decide +kernel
theorem dX6_lamp_13 : decode cX6_lamp 13 = .ok (.aload_n 0, 1) := by decide +kernel
theorem dX6_lamp_14 : decode cX6_lamp 14 = .ok (.iconst 1, 1) := by decide +kernel
theorem dX6_lamp_15 : decode cX6_lamp 15 = .ok (.invokevirtual 36, 3) := by decide +kernel
theorem dX6_lamp_18 : decode cX6_lamp 18 = .ok (.ireturn, 1) := by decide +kernel
theorem dX6_lamp_19 : decode cX6_lamp 19 = .ok (.iload_n 2, 1) := by decide +kernel
theorem dX6_lamp_20 : decode cX6_lamp 20 = .ok (.iconst 0, 1) := by decide +kernel
theorem dX6_lamp_21 : decode cX6_lamp 21 = .ok (.sipush 9999, 3) := by decide +kernel
theorem dX6_lamp_24 : decode cX6_lamp 24 = .ok (.invokestatic 32, 3) := by decide +kernel
theorem dX6_lamp_27 : decode cX6_lamp 27 = .ok (.ifCond .ne 9, 3) := by decide +kernel
theorem dX6_lamp_30 : decode cX6_lamp 30 = .ok (.aload_n 0, 1) := by decide +kernel
theorem dX6_lamp_31 : decode cX6_lamp 31 = .ok (.iconst 2, 1) := by decide +kernel
theorem dX6_lamp_32 : decode cX6_lamp 32 = .ok (.invokevirtual 36, 3) := by decide +kernel
theorem dX6_lamp_35 : decode cX6_lamp 35 = .ok (.ireturn, 1) := by decide +kernel
theorem dX6_lamp_36 : decode cX6_lamp 36 = .ok (.aload_n 0, 1) := by decide +kernel
theorem dX6_lamp_37 : decode cX6_lamp 37 = .ok (.iload_n 1, 1) := by decide +kernel
theorem dX6_lamp_38 : decode cX6_lamp 38 = .ok (.iconst 4, 1) := by decide +kernel
theorem dX6_lamp_39 : decode cX6_lamp 39 = .ok (.invokevirtual 50, 3) := by decide +kernel
theorem dX6_lamp_42 : decode cX6_lamp 42 = .ok (.istore_n 3, 1) := by decide +kernel
theorem dX6_lamp_43 : decode cX6_lamp 43 = .ok (.aload_n 0, 1) := by decide +kernel
theorem dX6_lamp_44 : decode cX6_lamp 44 = .ok (.iload_n 1, 1) := by decide +kernel
theorem dX6_lamp_45 : decode cX6_lamp 45 = .ok (.iconst 4, 1) := by decide +kernel
theorem dX6_lamp_46 : decode cX6_lamp 46 = .ok (.iload_n 2, 1) := by decide +kernel
theorem dX6_lamp_47 : decode cX6_lamp 47 = .ok (.invokevirtual 54, 3) := by decide +kernel
theorem dX6_lamp_50 : decode cX6_lamp 50 = .ok (.iload_n 2, 1) := by decide +kernel
theorem dX6_lamp_51 : decode cX6_lamp 51 = .ok (.ifCond .ne 10, 3) := by decide +kernel
theorem dX6_lamp_54 : decode cX6_lamp 54 = .ok (.aload_n 0, 1) := by decide +kernel
theorem dX6_lamp_55 : decode cX6_lamp 55 = .ok (.iload_n 1, 1) := by decide +kernel
theorem dX6_lamp_56 : decode cX6_lamp 56 = .ok (.iconst 1, 1) := by decide +kernel
theorem dX6_lamp_57 : decode cX6_lamp 57 = .ok (.iconst 0, 1) := by decide +kernel
theorem dX6_lamp_58 : decode cX6_lamp 58 = .ok (.invokevirtual 54, 3) := by decide +kernel
theorem dX6_lamp_61 : decode cX6_lamp 61 = .ok (.iload_n 3, 1) := by decide +kernel
theorem dX6_lamp_62 : decode cX6_lamp 62 = .ok (.ireturn, 1) := by decide +kernel
set_option maxRecDepth 20000 in
theorem ggX6_star_X6_isIn : GoodIn wsX6_star wsX6_isIn := goodIn_r _ [7] (by decide +kernel) (by decide +kernel)
set_option maxRecDepth 20000 in
theorem gX6_star_X6_isIn : GoodIn wsX6_star (va_wsS RX6 32 yX6_isIn wsX6_isIn) := goodIn_app (goodIn_of _ (by decide +kernel)) ggX6_star_X6_isIn
set_option maxRecDepth 20000 in
theorem ggX6_star_X6_fail : GoodIn wsX6_star wsX6_fail := goodIn_r _ [11, 1, 12, 13, 14, 15, 16, 17, 18, 19, 20] (by decide +kernel) (by decide +kernel)
set_option maxRecDepth 20000 in
theorem gX6_star_X6_fail : GoodIn wsX6_star (wsV RX6 36 RX6 yX6_fail wsX6_fail) := goodIn_app (goodIn_of _ (by decide +kernel)) ggX6_star_X6_fail
theorem dX6_star_0 : decode cX6_star 0 = .ok (.aload_n 0, 1) := by decide +kernel
theorem dX6_star_1 : decode cX6_star 1 = .ok (.iconst 0, 1) := by decide +kernel
theorem dX6_star_2 : decode cX6_star 2 = .ok (.putfield 25, 3) := by decide +kernel
theorem dX6_star_5 : decode cX6_star 5 = .ok (.iload_n 1, 1) := by decide +kernel
theorem dX6_star_6 : decode cX6_star 6 = .ok (.iconst 0, 1) := by decide +kernel
theorem dX6_star_7 : decode cX6_star 7 = .ok (.sipush 359, 3) := by decide +kernel
theorem dX6_star_10 : decode cX6_star 10 = .ok (.invokestatic 32, 3) := by decide +kernel
theorem dX6_star_13 : decode cX6_star 13 = .ok (.ifCond .eq 13, 3) := by decide +kernel
theorem dX6_star_16 : decode cX6_star 16 = .ok (.iload_n 2, 1) := by decide +kernel
theorem dX6_star_17 : decode cX6_star 17 = .ok (.iconst 1, 1) := by decide +kernel
theorem dX6_star_18 : decode cX6_star 18 = .ok (.bipush 9, 2) := by decide +kernel
theorem dX6_star_20 : decode cX6_star 20 = .ok (.invokestatic 32, 3) := by decide +kernel
theorem dX6_star_23 : decode cX6_star 23 = .ok (.ifCond .ne 9, 3) := by decide +kernel
theorem dX6_star_26 : decode cX6_star 26 = .ok (.aload_n 0, 1) := by decide +kernel
theorem dX6_star_27 : decode cX6_star 27 = .ok (.iconst 1, 1) := by decide +kernel
theorem dX6_star_28 : decode cX6_star 28 = .ok (.invokevirtual 36, 3) := by decide +kernel
theorem dX6_star_31 : decode cX6_star 31 = .ok (.ireturn, 1) := by decide +kernel
theorem dX6_star_32 : decode cX6_star 32 = .ok (.aload_n 0, 1) := by decide +kernel
theorem dX6_star_33 : decode cX6_star 33 = .ok (.getfield 58, 3) := by decide +kernel
theorem dX6_star_36 : decode cX6_star 36 = .ok (.bipush 20, 2) := by decide +kernel
theorem dX6_star_38 : decode cX6_star 38 = .ok (.if_icmp .ne 9, 3) := by decide +kernel
theorem dX6_star_41 : decode cX6_star 41 = .ok (.aload_n 0, 1) := by decide +kernel
theorem dX6_star_42 : decode cX6_star 42 = .ok (.iconst 2, 1) := by decide +kernel
theorem dX6_star_43 : decode cX6_star 43 = .ok (.invokevirtual 36, 3) := by decide +kernel
theorem dX6_star_46 : decode cX6_star 46 = .ok (.ireturn, 1) := by decide +kernel
theorem dX6_star_47 : decode cX6_star 47 = .ok (.aload_n 0, 1) := by decide +kernel
theorem dX6_star_48 : decode cX6_star 48 = .ok (.getfield 13, 3) := by decide +kernel
theorem dX6_star_51 : decode cX6_star 51 = .ok (.iconst 2, 1) := by decide +kernel
theorem dX6_star_52 : decode cX6_star 52 = .ok (.aload_n 0, 1) := by decide +kernel
theorem dX6_star_53 : decode cX6_star 53 = .ok (.getfield 58, 3) := by decide +kernel
theorem dX6_star_56 : decode cX6_star 56 = .ok (.imul, 1) := by decide +kernel
theorem dX6_star_57 : decode cX6_star 57 = .ok (.iload_n 1, 1) := by decide +kernel
theorem dX6_star_58 : decode cX6_star 58 = .ok (.iastore, 1) := by decide +kernel
theorem dX6_star_59 : decode cX6_star 59 = .ok (.aload_n 0, 1) := by decide +kernel
theorem dX6_star_60 : decode cX6_star 60 = .ok (.getfield 13, 3) := by decide +kernel
theorem dX6_star_63 : decode cX6_star 63 = .ok (.iconst 2, 1) := by decide +kernel
theorem dX6_star_64 : decode cX6_star 64 = .ok (.aload_n 0, 1) := by decide +kernel
theorem dX6_star_65 : decode cX6_star 65 = .ok (.getfield 58, 3) := by decide +kernel
theorem dX6_star_68 : decode cX6_star 68 = .ok (.imul, 1) := by decide +kernel
theorem dX6_star_69 : decode cX6_star 69 = .ok (.iconst 1, 1) := by decide +kernel
theorem dX6_star_70 : decode cX6_star 70 = .ok (.iadd, 1) := by decide +kernel
theorem dX6_star_71 : decode cX6_star 71 = .ok (.iload_n 2, 1) := by decide +kernel
theorem dX6_star_72 : decode cX6_star 72 = .ok (.iastore, 1) := by decide +kernel
theorem dX6_star_73 : decode cX6_star 73 = .ok (.aload_n 0, 1) := by decide +kernel
theorem dX6_star_74 : decode cX6_star 74 = .ok (.dup, 1) := by decide +kernel
theorem dX6_star_75 : decode cX6_star 75 = .ok (.getfield 58, 3) := by decide +kernel
theorem dX6_star_78 : decode cX6_star 78 = .ok (.iconst 1, 1) := by decide +kernel
theorem dX6_star_79 : decode cX6_star 79 = .ok (.iadd, 1) := by decide +kernel
theorem dX6_star_80 : decode cX6_star 80 = .ok (.putfield 58, 3) := by decide +kernel
theorem dX6_star_83 : decode cX6_star 83 = .ok (.aload_n 0, 1) := by decide +kernel
theorem dX6_star_84 : decode cX6_star 84 = .ok (.getfield 58, 3) := by decide +kernel
theorem dX6_star_87 : decode cX6_star 87 = .ok (.iconst 1, 1) := by decide +kernel
theorem dX6_star_88 : decode cX6_star 88 = .ok (.isub, 1) := by decide +kernel
theorem dX6_star_89 : decode cX6_star 89 = .ok (.ireturn, 1) := by decide +kernel
set_option maxRecDepth 20000 in
theorem ggX6_isCue_X6_isDimmer : GoodIn wsX6_isCue wsX6_isDimmer := goodIn_r _ [5, 6, 7, 8, 4, 9, 10, 11, 12, 13, 14, 15, 16, 17, 18] (by decide +kernel) (by decide +kernel)
set_option maxRecDepth 20000 in
theorem gX6_isCue_X6_isDimmer : GoodIn wsX6_isCue (wsV RX6 46 RX6 yX6_isDimmer wsX6_isDimmer) := goodIn_app (goodIn_of _ (by decide +kernel)) ggX6_isCue_X6_isDimmer
set_option maxRecDepth 20000 in
theorem ggX6_isCue_X6_isIn : GoodIn wsX6_isCue wsX6_isIn := goodIn_r _ [9] (by decide +kernel) (by decide +kernel)
set_option maxRecDepth 20000 in
theorem gX6_isCue_X6_isIn : GoodIn wsX6_isCue (va_wsS RX6 32 yX6_isIn wsX6_isIn) := goodIn_app (goodIn_of _ (by decide +kernel)) ggX6_isCue_X6_isIn
theorem dX6_isCue_0 : decode cX6_isCue 0 = .ok (.iload_n 1, 1) := by decide +kernel
theorem dX6_isCue_1 : decode cX6_isCue 1 = .ok (.tableswitch 148 0 4 #[35, 59, 80, 108, 134], 35) := by decide +kernel
theorem dX6_isCue_36 : decode cX6_isCue 36 = .ok (.aload_n 0, 1) := by decide +kernel
theorem dX6_isCue_37 : decode cX6_isCue 37 = .ok (.iload_n 2, 1) := by decide +kernel
theorem dX6_isCue_38 : decode cX6_isCue 38 = .ok (.invokevirtual 46, 3) := by decide +kernel
theorem dX6_isCue_41 : decode cX6_isCue 41 = .ok (.ifCond .eq 17, 3) := by decide +kernel
theorem dX6_isCue_44 : decode cX6_isCue 44 = .ok (.iload_n 3, 1) := by decide +kernel
theorem dX6_isCue_45 : decode cX6_isCue 45 = .ok (.iconst 0, 1) := by decide +kernel
theorem dX6_isCue_46 : decode cX6_isCue 46 = .ok (.bipush 100, 2) := by decide +kernel
theorem dX6_isCue_48 : decode cX6_isCue 48 = .ok (.invokestatic 32, 3) := by decide +kernel
theorem dX6_isCue_51 : decode cX6_isCue 51 = .ok (.ifCond .eq 7, 3) := by decide +kernel
theorem dX6_isCue_54 : decode cX6_isCue 54 = .ok (.iconst 1, 1) := by decide +kernel
theorem dX6_isCue_55 : decode cX6_isCue 55 = .ok (.goto 4, 3) := by decide +kernel
theorem dX6_isCue_58 : decode cX6_isCue 58 = .ok (.iconst 0, 1) := by decide +kernel
theorem dX6_isCue_59 : decode cX6_isCue 59 = .ok (.ireturn, 1) := by decide +kernel
theorem dX6_isCue_60 : decode cX6_isCue 60 = .ok (.iload_n 2, 1) := by decide +kernel
theorem dX6_isCue_61 : decode cX6_isCue 61 = .ok (.ifCond .ne 18, 3) := by decide +kernel
theorem dX6_isCue_64 : decode cX6_isCue 64 = .ok (.iload_n 3, 1) := by decide +kernel
theorem dX6_isCue_65 : decode cX6_isCue 65 = .ok (.bipush (-30), 2) := by decide +kernel
theorem dX6_isCue_67 : decode cX6_isCue 67 = .ok (.bipush 30, 2) := by decide +kernel
theorem dX6_isCue_69 : decode cX6_isCue 69 = .ok (.invokestatic 32, 3) := by decide +kernel
theorem dX6_isCue_72 : decode cX6_isCue 72 = .ok (.ifCond .eq 7, 3) := by decide +kernel
theorem dX6_isCue_75 : decode cX6_isCue 75 = .ok (.iconst 1, 1) := by decide +kernel
theorem dX6_isCue_76 : decode cX6_isCue 76 = .ok (.goto 4, 3) := by decide +kernel
theorem dX6_isCue_79 : decode cX6_isCue 79 = .ok (.iconst 0, 1) := by decide +kernel
theorem dX6_isCue_80 : decode cX6_isCue 80 = .ok (.ireturn, 1) := by decide +kernel
theorem dX6_isCue_81 : decode cX6_isCue 81 = .ok (.iload_n 2, 1) := by decide +kernel
theorem dX6_isCue_82 : decode cX6_isCue 82 = .ok (.iconst 0, 1) := by decide +kernel
theorem dX6_isCue_83 : decode cX6_isCue 83 = .ok (.sipush 359, 3) := by decide +kernel
theorem dX6_isCue_86 : decode cX6_isCue 86 = .ok (.invokestatic 32, 3) := by decide +kernel
theorem dX6_isCue_89 : decode cX6_isCue 89 = .ok (.ifCond .eq 18, 3) := by decide +kernel
theorem dX6_isCue_92 : decode cX6_isCue 92 = .ok (.iload_n 3, 1) := by decide +kernel
theorem dX6_isCue_93 : decode cX6_isCue 93 = .ok (.bipush (-20), 2) := by decide +kernel
theorem dX6_isCue_95 : decode cX6_isCue 95 = .ok (.bipush 20, 2) := by decide +kernel
theorem dX6_isCue_97 : decode cX6_isCue 97 = .ok (.invokestatic 32, 3) := by decide +kernel
theorem dX6_isCue_100 : decode cX6_isCue 100 = .ok (.ifCond .eq 7, 3) := by decide +kernel
theorem dX6_isCue_103 : decode cX6_isCue 103 = .ok (.iconst 1, 1) := by decide +kernel
theorem dX6_isCue_104 : decode cX6_isCue 104 = .ok (.goto 4, 3) := by decide +kernel
theorem dX6_isCue_107 : decode cX6_isCue 107 = .ok (.iconst 0, 1) := by decide +kernel
theorem dX6_isCue_108 : decode cX6_isCue 108 = .ok (.ireturn, 1) := by decide +kernel
theorem dX6_isCue_109 : decode cX6_isCue 109 = .ok (.iload_n 2, 1) := by decide +kernel
theorem dX6_isCue_110 : decode cX6_isCue 110 = .ok (.iconst 0, 1) := by decide +kernel
theorem dX6_isCue_111 : decode cX6_isCue 111 = .ok (.bipush 99, 2) := by decide +kernel
theorem dX6_isCue_113 : decode cX6_isCue 113 = .ok (.invokestatic 32, 3) := by decide +kernel
theorem dX6_isCue_116 : decode cX6_isCue 116 = .ok (.ifCond .eq 17, 3) := by decide +kernel
theorem dX6_isCue_119 : decode cX6_isCue 119 = .ok (.iload_n 3, 1) := by decide +kernel
theorem dX6_isCue_120 : decode cX6_isCue 120 = .ok (.iconst 1, 1) := by decide +kernel
theorem dX6_isCue_121 : decode cX6_isCue 121 = .ok (.bipush 60, 2) := by decide +kernel
theorem dX6_isCue_123 : decode cX6_isCue 123 = .ok (.invokestatic 32, 3) := by decide +kernel
theorem dX6_isCue_126 : decode cX6_isCue 126 = .ok (.ifCond .eq 7, 3) := by decide +kernel
theorem dX6_isCue_129 : decode cX6_isCue 129 = .ok (.iconst 1, 1) := by decide +kernel
theorem dX6_isCue_130 : decode cX6_isCue 130 = .ok (.goto 4, 3) := by decide +kernel
theorem dX6_isCue_133 : decode cX6_isCue 133 = .ok (.iconst 0, 1) := by decide +kernel
theorem dX6_isCue_134 : decode cX6_isCue 134 = .ok (.ireturn, 1) := by decide +kernel
theorem dX6_isCue_135 : decode cX6_isCue 135 = .ok (.iload_n 2, 1) := by decide +kernel
theorem dX6_isCue_136 : decode cX6_isCue 136 = .ok (.ifCond .ne 11, 3) := by decide +kernel
theorem dX6_isCue_139 : decode cX6_isCue 139 = .ok (.iload_n 3, 1) := by decide +kernel
theorem dX6_isCue_140 : decode cX6_isCue 140 = .ok (.ifCond .ne 7, 3) := by decide +kernel
theorem dX6_isCue_143 : decode cX6_isCue 143 = .ok (.iconst 1, 1) := by decide +kernel
theorem dX6_isCue_144 : decode cX6_isCue 144 = .ok (.goto 4, 3) := by decide +kernel
theorem dX6_isCue_147 : decode cX6_isCue 147 = .ok (.iconst 0, 1) := by decide +kernel
theorem dX6_isCue_148 : decode cX6_isCue 148 = .ok (.ireturn, 1) := by decide +kernel
theorem dX6_isCue_149 : decode cX6_isCue 149 = .ok (.iconst 0, 1) := by decide +kernel
theorem dX6_isCue_150 : decode cX6_isCue 150 = .ok (.ireturn, 1) := by decide +kernel
set_option maxRecDepth 20000 in
theorem ggX6_cue_X6_isIn : GoodIn wsX6_cue wsX6_isIn := goodIn_r _ [12] (by decide +kernel) (by decide +kernel)
set_option maxRecDepth 20000 in
theorem gX6_cue_X6_isIn : GoodIn wsX6_cue (va_wsS RX6 32 yX6_isIn wsX6_isIn) := goodIn_app (goodIn_of _ (by decide +kernel)) ggX6_cue_X6_isIn
set_option maxRecDepth 20000 in
theorem ggX6_cue_X6_isCue : GoodIn wsX6_cue wsX6_isCue := goodIn_r _ [16, 17, 18, 19, 11, 20, 21, 9, 10, 12, 26, 27, 28, 29, 30, 31, 32, 33, 34] (by decide +kernel) (by decide +kernel)
set_option maxRecDepth 20000 in
theorem gX6_cue_X6_isCue : GoodIn wsX6_cue (wsV RX6 61 RX6 yX6_isCue wsX6_isCue) := goodIn_app (goodIn_of _ (by decide +kernel)) ggX6_cue_X6_isCue
set_option maxRecDepth 20000 in
theorem ggX6_cue_X6_fail : GoodIn wsX6_cue wsX6_fail := goodIn_r _ [25, 1, 26, 27, 28, 29, 30, 31, 32, 33, 34] (by decide +kernel) (by decide +kernel)
set_option maxRecDepth 20000 in
theorem gX6_cue_X6_fail : GoodIn wsX6_cue (wsV RX6 36 RX6 yX6_fail wsX6_fail) := goodIn_app (goodIn_of _ (by decide +kernel)) ggX6_cue_X6_fail
theorem dX6_cue_0 : decode cX6_cue 0 = .ok (.aload_n 0, 1) := by decide +kernel
theorem dX6_cue_1 : decode cX6_cue 1 = .ok (.iconst 0, 1) := by decide +kernel
theorem dX6_cue_2 : decode cX6_cue 2 = .ok (.putfield 25, 3) := by decide +kernel
theorem dX6_cue_5 : decode cX6_cue 5 = .ok (.iload_n 1, 1) := by decide +kernel
theorem dX6_cue_6 : decode cX6_cue 6 = .ok (.iconst 0, 1) := by decide +kernel
theorem dX6_cue_7 : decode cX6_cue 7 = .ok (.sipush 999, 3) := by decide +kernel
theorem dX6_cue_10 : decode cX6_cue 10 = .ok (.invokestatic 32, 3) := by decide +kernel
theorem dX6_cue_13 : decode cX6_cue 13 = .ok (.ifCond .eq 14, 3) := by decide +kernel
theorem dX6_cue_16 : decode cX6_cue 16 = .ok (.aload_n 0, 1) := by decide +kernel
theorem dX6_cue_17 : decode cX6_cue 17 = .ok (.iload_n 2, 1) := by decide +kernel
theorem dX6_cue_18 : decode cX6_cue 18 = .ok (.iload_n 3, 1) := by decide +kernel
theorem dX6_cue_19 : decode cX6_cue 19 = .ok (.iload 4, 2) := by decide +kernel
theorem dX6_cue_21 : decode cX6_cue 21 = .ok (.invokevirtual 61, 3) := by decide +kernel
theorem dX6_cue_24 : decode cX6_cue 24 = .ok (.ifCond .ne 9, 3) := by decide +kernel
theorem dX6_cue_27 : decode cX6_cue 27 = .ok (.aload_n 0, 1) := by decide +kernel
theorem dX6_cue_28 : decode cX6_cue 28 = .ok (.iconst 1, 1) := by decide +kernel
theorem dX6_cue_29 : decode cX6_cue 29 = .ok (.invokevirtual 36, 3) := by decide +kernel
theorem dX6_cue_32 : decode cX6_cue 32 = .ok (.ireturn, 1) := by decide +kernel
theorem dX6_cue_33 : decode cX6_cue 33 = .ok (.aload_n 0, 1) := by decide +kernel
theorem dX6_cue_34 : decode cX6_cue 34 = .ok (.getfield 64, 3) := by decide +kernel
theorem dX6_cue_37 : decode cX6_cue 37 = .ok (.bipush 24, 2) := by decide +kernel
theorem dX6_cue_39 : decode cX6_cue 39 = .ok (.if_icmp .ne 9, 3) := by decide +kernel
theorem dX6_cue_42 : decode cX6_cue 42 = .ok (.aload_n 0, 1) := by decide +kernel
theorem dX6_cue_43 : decode cX6_cue 43 = .ok (.iconst 2, 1) := by decide +kernel
theorem dX6_cue_44 : decode cX6_cue 44 = .ok (.invokevirtual 36, 3) := by decide +kernel
theorem dX6_cue_47 : decode cX6_cue 47 = .ok (.ireturn, 1) := by decide +kernel
theorem dX6_cue_48 : decode cX6_cue 48 = .ok (.iconst 4, 1) := by decide +kernel
theorem dX6_cue_49 : decode cX6_cue 49 = .ok (.newarray .int, 2) := by decide +kernel
theorem dX6_cue_51 : decode cX6_cue 51 = .ok (.dup, 1) := by decide +kernel
theorem dX6_cue_52 : decode cX6_cue 52 = .ok (.iconst 0, 1) := by decide +kernel
theorem dX6_cue_53 : decode cX6_cue 53 = .ok (.iload_n 1, 1) := by decide +kernel
theorem dX6_cue_54 : decode cX6_cue 54 = .ok (.iastore, 1) := by decide +kernel
theorem dX6_cue_55 : decode cX6_cue 55 = .ok (.dup, 1) := by decide +kernel
theorem dX6_cue_56 : decode cX6_cue 56 = .ok (.iconst 1, 1) := by decide +kernel
theorem dX6_cue_57 : decode cX6_cue 57 = .ok (.iload_n 2, 1) := by decide +kernel
theorem dX6_cue_58 : decode cX6_cue 58 = .ok (.iastore, 1) := by decide +kernel
theorem dX6_cue_59 : decode cX6_cue 59 = .ok (.dup, 1) := by decide +kernel
theorem dX6_cue_60 : decode cX6_cue 60 = .ok (.iconst 2, 1) := by decide +kernel
theorem dX6_cue_61 : decode cX6_cue 61 = .ok (.iload_n 3, 1) := by decide +kernel
theorem dX6_cue_62 : decode cX6_cue 62 = .ok (.iastore, 1) := by decide +kernel
theorem dX6_cue_63 : decode cX6_cue 63 = .ok (.dup, 1) := by decide +kernel
theorem dX6_cue_64 : decode cX6_cue 64 = .ok (.iconst 3, 1) := by decide +kernel
theorem dX6_cue_65 : decode cX6_cue 65 = .ok (.iload 4, 2) := by decide +kernel
theorem dX6_cue_67 : decode cX6_cue 67 = .ok (.iastore, 1) := by decide +kernel
theorem dX6_cue_68 : decode cX6_cue 68 = .ok (.astore 5, 2) := by decide +kernel
theorem dX6_cue_70 : decode cX6_cue 70 = .ok (.aload 5, 2) := by decide +kernel
theorem dX6_cue_72 : decode cX6_cue 72 = .ok (.iconst 0, 1) := by decide +kernel
theorem dX6_cue_73 : decode cX6_cue 73 = .ok (.aload_n 0, 1) := by decide +kernel
theorem dX6_cue_74 : decode cX6_cue 74 = .ok (.getfield 19, 3) := by decide +kernel
theorem dX6_cue_77 : decode cX6_cue 77 = .ok (.iconst 4, 1) := by decide +kernel
theorem dX6_cue_78 : decode cX6_cue 78 = .ok (.aload_n 0, 1) := by decide +kernel
theorem dX6_cue_79 : decode cX6_cue 79 = .ok (.getfield 64, 3) := by decide +kernel
theorem dX6_cue_82 : decode cX6_cue 82 = .ok (.imul, 1) := by decide +kernel
theorem dX6_cue_83 : decode cX6_cue 83 = .ok (.iconst 4, 1) := by decide +kernel
theorem dX6_cue_84 : decode cX6_cue 84 = .ok (.invokestatic 40, 3) := by decide +kernel
theorem dX6_cue_87 : decode cX6_cue 87 = .ok (.aload_n 0, 1) := by decide +kernel
theorem dX6_cue_88 : decode cX6_cue 88 = .ok (.dup, 1) := by decide +kernel
theorem dX6_cue_89 : decode cX6_cue 89 = .ok (.getfield 64, 3) := by decide +kernel
theorem dX6_cue_92 : decode cX6_cue 92 = .ok (.iconst 1, 1) := by decide +kernel
theorem dX6_cue_93 : decode cX6_cue 93 = .ok (.iadd, 1) := by decide +kernel
theorem dX6_cue_94 : decode cX6_cue 94 = .ok (.putfield 64, 3) := by decide +kernel
theorem dX6_cue_97 : decode cX6_cue 97 = .ok (.aload_n 0, 1) := by decide +kernel
theorem dX6_cue_98 : decode cX6_cue 98 = .ok (.getfield 64, 3) := by decide +kernel
theorem dX6_cue_101 : decode cX6_cue 101 = .ok (.iconst 1, 1) := by decide +kernel
theorem dX6_cue_102 : decode cX6_cue 102 = .ok (.isub, 1) := by decide +kernel
theorem dX6_cue_103 : decode cX6_cue 103 = .ok (.ireturn, 1) := by decide +kernel
theorem dX6_run_0 : decode cX6_run 0 = .ok (.aload_n 0, 1) := by decide +kernel
theorem dX6_run_1 : decode cX6_run 1 = .ok (.iconst 0, 1) := by decide +kernel
theorem dX6_run_2 : decode cX6_run 2 = .ok (.putfield 25, 3) := by decide +kernel
theorem dX6_run_5 : decode cX6_run 5 = .ok (.aload_n 0, 1) := by decide +kernel
theorem dX6_run_6 : decode cX6_run 6 = .ok (.getfield 22, 3) := by decide +kernel
theorem dX6_run_9 : decode cX6_run 9 = .ok (.iconst 2, 1) := by decide +kernel
theorem dX6_run_10 : decode cX6_run 10 = .ok (.iconst 1, 1) := by decide +kernel
theorem dX6_run_11 : decode cX6_run 11 = .ok (.aload_n 0, 1) := by decide +kernel
theorem dX6_run_12 : decode cX6_run 12 = .ok (.getfield 22, 3) := by decide +kernel
theorem dX6_run_15 : decode cX6_run 15 = .ok (.iconst 2, 1) := by decide +kernel
theorem dX6_run_16 : decode cX6_run 16 = .ok (.iaload, 1) := by decide +kernel
theorem dX6_run_17 : decode cX6_run 17 = .ok (.isub, 1) := by decide +kernel
theorem dX6_run_18 : decode cX6_run 18 = .ok (.iastore, 1) := by decide +kernel
theorem dX6_run_19 : decode cX6_run 19 = .ok (.aload_n 0, 1) := by decide +kernel
theorem dX6_run_20 : decode cX6_run 20 = .ok (.getfield 22, 3) := by decide +kernel
theorem dX6_run_23 : decode cX6_run 23 = .ok (.iconst 2, 1) := by decide +kernel
theorem dX6_run_24 : decode cX6_run 24 = .ok (.iaload, 1) := by decide +kernel
theorem dX6_run_25 : decode cX6_run 25 = .ok (.iconst 1, 1) := by decide +kernel
theorem dX6_run_26 : decode cX6_run 26 = .ok (.if_icmp .ne 7, 3) := by decide +kernel
theorem dX6_run_29 : decode cX6_run 29 = .ok (.iconst 1, 1) := by decide +kernel
theorem dX6_run_30 : decode cX6_run 30 = .ok (.goto 4, 3) := by decide +kernel
theorem dX6_run_33 : decode cX6_run 33 = .ok (.iconst 0, 1) := by decide +kernel
theorem dX6_run_34 : decode cX6_run 34 = .ok (.ireturn, 1) := by decide +kernel
set_option maxRecDepth 20000 in
theorem ggX6_jump_X6_isIn : GoodIn wsX6_jump wsX6_isIn := goodIn_r _ [6] (by decide +kernel) (by decide +kernel)
set_option maxRecDepth 20000 in
theorem gX6_jump_X6_isIn : GoodIn wsX6_jump (va_wsS RX6 32 yX6_isIn wsX6_isIn) := goodIn_app (goodIn_of _ (by decide +kernel)) ggX6_jump_X6_isIn
set_option maxRecDepth 20000 in
theorem ggX6_jump_X6_fail : GoodIn wsX6_jump wsX6_fail := goodIn_r _ [10, 1, 11, 12, 13, 14, 15, 16, 17, 18, 19] (by decide +kernel) (by decide +kernel)
set_option maxRecDepth 20000 in
theorem gX6_jump_X6_fail : GoodIn wsX6_jump (wsV RX6 36 RX6 yX6_fail wsX6_fail) := goodIn_app (goodIn_of _ (by decide +kernel)) ggX6_jump_X6_fail
theorem dX6_jump_0 : decode cX6_jump 0 = .ok (.aload_n 0, 1) := by decide +kernel
theorem dX6_jump_1 : decode cX6_jump 1 = .ok (.iconst 0, 1) := by decide +kernel
theorem dX6_jump_2 : decode cX6_jump 2 = .ok (.putfield 25, 3) := by decide +kernel
theorem dX6_jump_5 : decode cX6_jump 5 = .ok (.iload_n 1, 1) := by decide +kernel
theorem dX6_jump_6 : decode cX6_jump 6 = .ok (.iconst 0, 1) := by decide +kernel
theorem dX6_jump_7 : decode cX6_jump 7 = .ok (.sipush 1000, 3) := by decide +kernel
theorem dX6_jump_10 : decode cX6_jump 10 = .ok (.invokestatic 32, 3) := by decide +kernel
theorem dX6_jump_13 : decode cX6_jump 13 = .ok (.ifCond .ne 9, 3) := by decide +kernel
theorem dX6_jump_16 : decode cX6_jump 16 = .ok (.aload_n 0, 1) := by decide +kernel
theorem dX6_jump_17 : decode cX6_jump 17 = .ok (.iconst 1, 1) := by decide +kernel
theorem dX6_jump_18 : decode cX6_jump 18 = .ok (.invokevirtual 36, 3) := by decide +kernel
theorem dX6_jump_21 : decode cX6_jump 21 = .ok (.ireturn, 1) := by decide +kernel
theorem dX6_jump_22 : decode cX6_jump 22 = .ok (.aload_n 0, 1) := by decide +kernel
theorem dX6_jump_23 : decode cX6_jump 23 = .ok (.getfield 22, 3) := by decide +kernel
theorem dX6_jump_26 : decode cX6_jump 26 = .ok (.iconst 1, 1) := by decide +kernel
theorem dX6_jump_27 : decode cX6_jump 27 = .ok (.iaload, 1) := by decide +kernel
theorem dX6_jump_28 : decode cX6_jump 28 = .ok (.istore_n 2, 1) := by decide +kernel
theorem dX6_jump_29 : decode cX6_jump 29 = .ok (.aload_n 0, 1) := by decide +kernel
theorem dX6_jump_30 : decode cX6_jump 30 = .ok (.getfield 22, 3) := by decide +kernel
theorem dX6_jump_33 : decode cX6_jump 33 = .ok (.iconst 1, 1) := by decide +kernel
theorem dX6_jump_34 : decode cX6_jump 34 = .ok (.iload_n 1, 1) := by decide +kernel
theorem dX6_jump_35 : decode cX6_jump 35 = .ok (.iastore, 1) := by decide +kernel
theorem dX6_jump_36 : decode cX6_jump 36 = .ok (.iload_n 2, 1) := by decide +kernel
theorem dX6_jump_37 : decode cX6_jump 37 = .ok (.ireturn, 1) := by decide +kernel
set_option maxRecDepth 20000 in
theorem ggX6_fade_X6_isDimmer : GoodIn wsX6_fade wsX6_isDimmer := goodIn_r _ [6, 7, 8, 9, 5, 10, 24, 25, 26, 27, 28, 29, 30, 31, 32] (by decide +kernel) (by decide +kernel)
set_option maxRecDepth 20000 in
theorem gX6_fade_X6_isDimmer : GoodIn wsX6_fade (wsV RX6 46 RX6 yX6_isDimmer wsX6_isDimmer) := goodIn_app (goodIn_of _ (by decide +kernel)) ggX6_fade_X6_isDimmer
set_option maxRecDepth 20000 in
theorem ggX6_fade_X6_fail : GoodIn wsX6_fade wsX6_fail := goodIn_r _ [14, 1, 24, 25, 26, 27, 28, 29, 30, 31, 32] (by decide +kernel) (by decide +kernel)
set_option maxRecDepth 20000 in
theorem gX6_fade_X6_fail : GoodIn wsX6_fade (wsV RX6 36 RX6 yX6_fail wsX6_fail) := goodIn_app (goodIn_of _ (by decide +kernel)) ggX6_fade_X6_fail
set_option maxRecDepth 20000 in
theorem ggX6_fade_X6_isIn : GoodIn wsX6_fade wsX6_isIn := goodIn_r _ [10] (by decide +kernel) (by decide +kernel)
set_option maxRecDepth 20000 in
theorem gX6_fade_X6_isIn : GoodIn wsX6_fade (va_wsS RX6 32 yX6_isIn wsX6_isIn) := goodIn_app (goodIn_of _ (by decide +kernel)) ggX6_fade_X6_isIn
set_option maxRecDepth 20000 in
theorem ggX6_fade_X6_la : GoodIn wsX6_fade wsX6_la := goodIn_r _ [18, 19, 24, 25, 26, 27, 28, 29, 30, 31, 32] (by decide +kernel) (by decide +kernel)
set_option maxRecDepth 20000 in
theorem gX6_fade_X6_la : GoodIn wsX6_fade (wsV RX6 50 RX6 yX6_la wsX6_la) := goodIn_app (goodIn_of _ (by decide +kernel)) ggX6_fade_X6_la
set_option maxRecDepth 20000 in
theorem ggX6_fade_X6_put : GoodIn wsX6_fade wsX6_put := goodIn_r _ [23, 19, 24, 25, 26, 27, 28, 29, 30, 31, 32] (by decide +kernel) (by decide +kernel)
set_option maxRecDepth 20000 in
theorem gX6_fade_X6_put : GoodIn wsX6_fade (wsV RX6 54 RX6 yX6_put wsX6_put) := goodIn_app (goodIn_of _ (by decide +kernel)) ggX6_fade_X6_put
theorem dX6_fade_0 : decode cX6_fade 0 = .ok (.aload_n 0, 1) := by decide +kernel
theorem dX6_fade_1 : decode cX6_fade 1 = .ok (.iconst 0, 1) := by decide +kernel
theorem dX6_fade_2 : decode cX6_fade 2 = .ok (.putfield 25, 3) := by decide +kernel
theorem dX6_fade_5 : decode cX6_fade 5 = .ok (.aload_n 0, 1) := by decide +kernel
theorem dX6_fade_6 : decode cX6_fade 6 = .ok (.iload_n 1, 1) := by decide +kernel
theorem dX6_fade_7 : decode cX6_fade 7 = .ok (.invokevirtual 46, 3) := by decide +kernel
theorem dX6_fade_10 : decode cX6_fade 10 = .ok (.ifCond .ne 9, 3) := by decide +kernel
theorem dX6_fade_13 : decode cX6_fade 13 = .ok (.aload_n 0, 1) := by decide +kernel
theorem dX6_fade_14 : decode cX6_fade 14 = .ok (.iconst 1, 1) := by decide +kernel
theorem dX6_fade_15 : decode cX6_fade 15 = .ok (.invokevirtual 36, 3) := by decide +kernel
theorem dX6_fade_18 : decode cX6_fade 18 = .ok (.ireturn, 1) := by decide +kernel
theorem dX6_fade_19 : decode cX6_fade 19 = .ok (.iload_n 2, 1) := by decide +kernel
theorem dX6_fade_20 : decode cX6_fade 20 = .ok (.iconst 0, 1) := by decide +kernel
theorem dX6_fade_21 : decode cX6_fade 21 = .ok (.bipush 100, 2) := by decide +kernel
theorem dX6_fade_23 : decode cX6_fade 23 = .ok (.invokestatic 32, 3) := by decide +kernel
theorem dX6_fade_26 : decode cX6_fade 26 = .ok (.ifCond .ne 9, 3) := by decide +kernel
theorem dX6_fade_29 : decode cX6_fade 29 = .ok (.aload_n 0, 1) := by decide +kernel
theorem dX6_fade_30 : decode cX6_fade 30 = .ok (.iconst 2, 1) := by decide +kernel
theorem dX6_fade_31 : decode cX6_fade 31 = .ok (.invokevirtual 36, 3) := by decide +kernel
theorem dX6_fade_34 : decode cX6_fade 34 = .ok (.ireturn, 1) := by decide +kernel
theorem dX6_fade_35 : decode cX6_fade 35 = .ok (.aload_n 0, 1) := by decide +kernel
theorem dX6_fade_36 : decode cX6_fade 36 = .ok (.iload_n 1, 1) := by decide +kernel
theorem dX6_fade_37 : decode cX6_fade 37 = .ok (.iconst 2, 1) := by decide +kernel
theorem dX6_fade_38 : decode cX6_fade 38 = .ok (.invokevirtual 50, 3) := by decide +kernel
theorem dX6_fade_41 : decode cX6_fade 41 = .ok (.istore_n 3, 1) := by decide +kernel
theorem dX6_fade_42 : decode cX6_fade 42 = .ok (.aload_n 0, 1) := by decide +kernel
theorem dX6_fade_43 : decode cX6_fade 43 = .ok (.iload_n 1, 1) := by decide +kernel
theorem dX6_fade_44 : decode cX6_fade 44 = .ok (.iconst 2, 1) := by decide +kernel
theorem dX6_fade_45 : decode cX6_fade 45 = .ok (.iload_n 2, 1) := by decide +kernel
theorem dX6_fade_46 : decode cX6_fade 46 = .ok (.invokevirtual 54, 3) := by decide +kernel
theorem dX6_fade_49 : decode cX6_fade 49 = .ok (.iload_n 3, 1) := by decide +kernel
theorem dX6_fade_50 : decode cX6_fade 50 = .ok (.ireturn, 1) := by decide +kernel
set_option maxRecDepth 20000 in
theorem ggX6_carryOut_X6_put : GoodIn wsX6_carryOut wsX6_put := goodIn_r _ [8, 9, 10, 11, 12, 13, 14, 15, 16, 17, 18] (by decide +kernel) (by decide +kernel)
set_option maxRecDepth 20000 in
theorem gX6_carryOut_X6_put : GoodIn wsX6_carryOut (wsV RX6 54 RX6 yX6_put wsX6_put) := goodIn_app (goodIn_of _ (by decide +kernel)) ggX6_carryOut_X6_put
theorem dX6_carryOut_0 : decode cX6_carryOut 0 = .ok (.aload_n 0, 1) := by decide +kernel
theorem dX6_carryOut_1 : decode cX6_carryOut 1 = .ok (.getfield 19, 3) := by decide +kernel
theorem dX6_carryOut_4 : decode cX6_carryOut 4 = .ok (.iconst 4, 1) := by decide +kernel
theorem dX6_carryOut_5 : decode cX6_carryOut 5 = .ok (.iload_n 1, 1) := by decide +kernel
theorem dX6_carryOut_6 : decode cX6_carryOut 6 = .ok (.imul, 1) := by decide +kernel
theorem dX6_carryOut_7 : decode cX6_carryOut 7 = .ok (.iconst 2, 1) := by decide +kernel
theorem dX6_carryOut_8 : decode cX6_carryOut 8 = .ok (.iadd, 1) := by decide +kernel
theorem dX6_carryOut_9 : decode cX6_carryOut 9 = .ok (.iaload, 1) := by decide +kernel
theorem dX6_carryOut_10 : decode cX6_carryOut 10 = .ok (.istore_n 2, 1) := by decide +kernel
theorem dX6_carryOut_11 : decode cX6_carryOut 11 = .ok (.aload_n 0, 1) := by decide +kernel
theorem dX6_carryOut_12 : decode cX6_carryOut 12 = .ok (.getfield 19, 3) := by decide +kernel
theorem dX6_carryOut_15 : decode cX6_carryOut 15 = .ok (.iconst 4, 1) := by decide +kernel
theorem dX6_carryOut_16 : decode cX6_carryOut 16 = .ok (.iload_n 1, 1) := by decide +kernel
theorem dX6_carryOut_17 : decode cX6_carryOut 17 = .ok (.imul, 1) := by decide +kernel
theorem dX6_carryOut_18 : decode cX6_carryOut 18 = .ok (.iconst 3, 1) := by decide +kernel
theorem dX6_carryOut_19 : decode cX6_carryOut 19 = .ok (.iadd, 1) := by decide +kernel
theorem dX6_carryOut_20 : decode cX6_carryOut 20 = .ok (.iaload, 1) := by decide +kernel
theorem dX6_carryOut_21 : decode cX6_carryOut 21 = .ok (.istore_n 3, 1) := by decide +kernel
theorem dX6_carryOut_22 : decode cX6_carryOut 22 = .ok (.aload_n 0, 1) := by decide +kernel
theorem dX6_carryOut_23 : decode cX6_carryOut 23 = .ok (.getfield 19, 3) := by decide +kernel
theorem dX6_carryOut_26 : decode cX6_carryOut 26 = .ok (.iconst 4, 1) := by decide +kernel
theorem dX6_carryOut_27 : decode cX6_carryOut 27 = .ok (.iload_n 1, 1) := by decide +kernel
theorem dX6_carryOut_28 : decode cX6_carryOut 28 = .ok (.imul, 1) := by decide +kernel
theorem dX6_carryOut_29 : decode cX6_carryOut 29 = .ok (.iconst 1, 1) := by decide +kernel
theorem dX6_carryOut_30 : decode cX6_carryOut 30 = .ok (.iadd, 1) := by decide +kernel
theorem dX6_carryOut_31 : decode cX6_carryOut 31 = .ok (.iaload, 1) := by decide +kernel
theorem dX6_carryOut_32 : decode cX6_carryOut 32 = .ok (.tableswitch 141 0 3 #[32, 40, 49, 126], 32) := by decide +kernel
theorem dX6_carryOut_64 : decode cX6_carryOut 64 = .ok (.aload_n 0, 1) := by decide +kernel
theorem dX6_carryOut_65 : decode cX6_carryOut 65 = .ok (.iload_n 2, 1) := by decide +kernel
theorem dX6_carryOut_66 : decode cX6_carryOut 66 = .ok (.iconst 2, 1) := by decide +kernel
theorem dX6_carryOut_67 : decode cX6_carryOut 67 = .ok (.iload_n 3, 1) := by decide +kernel
theorem dX6_carryOut_68 : decode cX6_carryOut 68 = .ok (.invokevirtual 54, 3) := by decide +kernel
theorem dX6_carryOut_71 : decode cX6_carryOut 71 = .ok (.return_, 1) := by decide +kernel
theorem dX6_carryOut_72 : decode cX6_carryOut 72 = .ok (.aload_n 0, 1) := by decide +kernel
theorem dX6_carryOut_73 : decode cX6_carryOut 73 = .ok (.getfield 22, 3) := by decide +kernel
theorem dX6_carryOut_76 : decode cX6_carryOut 76 = .ok (.bipush 6, 2) := by decide +kernel
theorem dX6_carryOut_78 : decode cX6_carryOut 78 = .ok (.iload_n 3, 1) := by decide +kernel
theorem dX6_carryOut_79 : decode cX6_carryOut 79 = .ok (.iastore, 1) := by decide +kernel
theorem dX6_carryOut_80 : decode cX6_carryOut 80 = .ok (.return_, 1) := by decide +kernel
theorem dX6_carryOut_81 : decode cX6_carryOut 81 = .ok (.aload_n 0, 1) := by decide +kernel
theorem dX6_carryOut_82 : decode cX6_carryOut 82 = .ok (.getfield 22, 3) := by decide +kernel
theorem dX6_carryOut_85 : decode cX6_carryOut 85 = .ok (.bipush 7, 2) := by decide +kernel
theorem dX6_carryOut_87 : decode cX6_carryOut 87 = .ok (.iaload, 1) := by decide +kernel
theorem dX6_carryOut_88 : decode cX6_carryOut 88 = .ok (.bipush 12, 2) := by decide +kernel
theorem dX6_carryOut_90 : decode cX6_carryOut 90 = .ok (.if_icmp .ne 4, 3) := by decide +kernel
theorem dX6_carryOut_93 : decode cX6_carryOut 93 = .ok (.return_, 1) := by decide +kernel
theorem dX6_carryOut_94 : decode cX6_carryOut 94 = .ok (.aload_n 0, 1) := by decide +kernel
theorem dX6_carryOut_95 : decode cX6_carryOut 95 = .ok (.getfield 16, 3) := by decide +kernel
theorem dX6_carryOut_98 : decode cX6_carryOut 98 = .ok (.iconst 3, 1) := by decide +kernel
theorem dX6_carryOut_99 : decode cX6_carryOut 99 = .ok (.aload_n 0, 1) := by decide +kernel
theorem dX6_carryOut_100 : decode cX6_carryOut 100 = .ok (.getfield 22, 3) := by decide +kernel
theorem dX6_carryOut_103 : decode cX6_carryOut 103 = .ok (.bipush 7, 2) := by decide +kernel
theorem dX6_carryOut_105 : decode cX6_carryOut 105 = .ok (.iaload, 1) := by decide +kernel
theorem dX6_carryOut_106 : decode cX6_carryOut 106 = .ok (.imul, 1) := by decide +kernel
theorem dX6_carryOut_107 : decode cX6_carryOut 107 = .ok (.iconst 0, 1) := by decide +kernel
theorem dX6_carryOut_108 : decode cX6_carryOut 108 = .ok (.iadd, 1) := by decide +kernel
theorem dX6_carryOut_109 : decode cX6_carryOut 109 = .ok (.iload_n 2, 1) := by decide +kernel
theorem dX6_carryOut_110 : decode cX6_carryOut 110 = .ok (.iastore, 1) := by decide +kernel
theorem dX6_carryOut_111 : decode cX6_carryOut 111 = .ok (.aload_n 0, 1) := by decide +kernel
theorem dX6_carryOut_112 : decode cX6_carryOut 112 = .ok (.getfield 16, 3) := by decide +kernel
theorem dX6_carryOut_115 : decode cX6_carryOut 115 = .ok (.iconst 3, 1) := by decide +kernel
theorem dX6_carryOut_116 : decode cX6_carryOut 116 = .ok (.aload_n 0, 1) := by decide +kernel
theorem dX6_carryOut_117 : decode cX6_carryOut 117 = .ok (.getfield 22, 3) := by decide +kernel
theorem dX6_carryOut_120 : decode cX6_carryOut 120 = .ok (.bipush 7, 2) := by decide +kernel
theorem dX6_carryOut_122 : decode cX6_carryOut 122 = .ok (.iaload, 1) := by decide +kernel
theorem dX6_carryOut_123 : decode cX6_carryOut 123 = .ok (.imul, 1) := by decide +kernel
theorem dX6_carryOut_124 : decode cX6_carryOut 124 = .ok (.iconst 1, 1) := by decide +kernel
theorem dX6_carryOut_125 : decode cX6_carryOut 125 = .ok (.iadd, 1) := by decide +kernel
theorem dX6_carryOut_126 : decode cX6_carryOut 126 = .ok (.iload_n 3, 1) := by decide +kernel
theorem dX6_carryOut_127 : decode cX6_carryOut 127 = .ok (.iastore, 1) := by decide +kernel
theorem dX6_carryOut_128 : decode cX6_carryOut 128 = .ok (.aload_n 0, 1) := by decide +kernel
theorem dX6_carryOut_129 : decode cX6_carryOut 129 = .ok (.getfield 16, 3) := by decide +kernel
theorem dX6_carryOut_132 : decode cX6_carryOut 132 = .ok (.iconst 3, 1) := by decide +kernel
theorem dX6_carryOut_133 : decode cX6_carryOut 133 = .ok (.aload_n 0, 1) := by decide +kernel
theorem dX6_carryOut_134 : decode cX6_carryOut 134 = .ok (.getfield 22, 3) := by decide +kernel
theorem dX6_carryOut_137 : decode cX6_carryOut 137 = .ok (.bipush 7, 2) := by decide +kernel
theorem dX6_carryOut_139 : decode cX6_carryOut 139 = .ok (.iaload, 1) := by decide +kernel
theorem dX6_carryOut_140 : decode cX6_carryOut 140 = .ok (.imul, 1) := by decide +kernel
theorem dX6_carryOut_141 : decode cX6_carryOut 141 = .ok (.iconst 2, 1) := by decide +kernel
theorem dX6_carryOut_142 : decode cX6_carryOut 142 = .ok (.iadd, 1) := by decide +kernel
theorem dX6_carryOut_143 : decode cX6_carryOut 143 = .ok (.bipush 20, 2) := by decide +kernel
theorem dX6_carryOut_145 : decode cX6_carryOut 145 = .ok (.iastore, 1) := by decide +kernel
theorem dX6_carryOut_146 : decode cX6_carryOut 146 = .ok (.aload_n 0, 1) := by decide +kernel
theorem dX6_carryOut_147 : decode cX6_carryOut 147 = .ok (.getfield 22, 3) := by decide +kernel
theorem dX6_carryOut_150 : decode cX6_carryOut 150 = .ok (.bipush 7, 2) := by decide +kernel
theorem dX6_carryOut_152 : decode cX6_carryOut 152 = .ok (.dup2, 1) := by decide +kernel
theorem dX6_carryOut_153 : decode cX6_carryOut 153 = .ok (.iaload, 1) := by decide +kernel
theorem dX6_carryOut_154 : decode cX6_carryOut 154 = .ok (.iconst 1, 1) := by decide +kernel
theorem dX6_carryOut_155 : decode cX6_carryOut 155 = .ok (.iadd, 1) := by decide +kernel
theorem dX6_carryOut_156 : decode cX6_carryOut 156 = .ok (.iastore, 1) := by decide +kernel
theorem dX6_carryOut_157 : decode cX6_carryOut 157 = .ok (.return_, 1) := by decide +kernel
theorem dX6_carryOut_158 : decode cX6_carryOut 158 = .ok (.aload_n 0, 1) := by decide +kernel
theorem dX6_carryOut_159 : decode cX6_carryOut 159 = .ok (.getfield 22, 3) := by decide +kernel
theorem dX6_carryOut_162 : decode cX6_carryOut 162 = .ok (.iconst 3, 1) := by decide +kernel
theorem dX6_carryOut_163 : decode cX6_carryOut 163 = .ok (.iload_n 2, 1) := by decide +kernel
theorem dX6_carryOut_164 : decode cX6_carryOut 164 = .ok (.iastore, 1) := by decide +kernel
theorem dX6_carryOut_165 : decode cX6_carryOut 165 = .ok (.aload_n 0, 1) := by decide +kernel
theorem dX6_carryOut_166 : decode cX6_carryOut 166 = .ok (.getfield 22, 3) := by decide +kernel
theorem dX6_carryOut_169 : decode cX6_carryOut 169 = .ok (.iconst 4, 1) := by decide +kernel
theorem dX6_carryOut_170 : decode cX6_carryOut 170 = .ok (.iload_n 3, 1) := by decide +kernel
theorem dX6_carryOut_171 : decode cX6_carryOut 171 = .ok (.iastore, 1) := by decide +kernel
theorem dX6_carryOut_172 : decode cX6_carryOut 172 = .ok (.return_, 1) := by decide +kernel
theorem dX6_carryOut_173 : decode cX6_carryOut 173 = .ok (.aload_n 0, 1) := by decide +kernel
theorem dX6_carryOut_174 : decode cX6_carryOut 174 = .ok (.getfield 22, 3) := by decide +kernel
theorem dX6_carryOut_177 : decode cX6_carryOut 177 = .ok (.iconst 2, 1) := by decide +kernel
theorem dX6_carryOut_178 : decode cX6_carryOut 178 = .ok (.iconst 0, 1) := by decide +kernel
theorem dX6_carryOut_179 : decode cX6_carryOut 179 = .ok (.iastore, 1) := by decide +kernel
theorem dX6_carryOut_180 : decode cX6_carryOut 180 = .ok (.return_, 1) := by decide +kernel
theorem dX6_round_0 : decode cX6_round 0 = .ok (.iload_n 0, 1) := by decide +kernel
theorem dX6_round_1 : decode cX6_round 1 = .ok (.sipush 360, 3) := by decide +kernel
theorem dX6_round_4 : decode cX6_round 4 = .ok (.iadd, 1) := by decide +kernel
theorem dX6_round_5 : decode cX6_round 5 = .ok (.sipush 360, 3) := by decide +kernel
theorem dX6_round_8 : decode cX6_round 8 = .ok (.irem, 1) := by decide +kernel
theorem dX6_round_9 : decode cX6_round 9 = .ok (.ireturn, 1) := by decide +kernel
set_option maxRecDepth 20000 in
theorem ggX6_glow_X6_la : GoodIn wsX6_glow wsX6_la := goodIn_r _ [12, 13, 18, 19, 20, 21, 22, 23, 24, 25, 26] (by decide +kernel) (by decide +kernel)
set_option maxRecDepth 20000 in
theorem gX6_glow_X6_la : GoodIn wsX6_glow (wsV RX6 50 RX6 yX6_la wsX6_la) := goodIn_app (goodIn_of _ (by decide +kernel)) ggX6_glow_X6_la
set_option maxRecDepth 20000 in
theorem ggX6_glow_X6_put : GoodIn wsX6_glow wsX6_put := goodIn_r _ [17, 13, 18, 19, 20, 21, 22, 23, 24, 25, 26] (by decide +kernel) (by decide +kernel)
set_option maxRecDepth 20000 in
theorem gX6_glow_X6_put : GoodIn wsX6_glow (wsV RX6 54 RX6 yX6_put wsX6_put) := goodIn_app (goodIn_of _ (by decide +kernel)) ggX6_glow_X6_put
theorem dX6_glow_0 : decode cX6_glow 0 = .ok (.aload_n 0, 1) := by decide +kernel
theorem dX6_glow_1 : decode cX6_glow 1 = .ok (.iload_n 1, 1) := by decide +kernel
theorem dX6_glow_2 : decode cX6_glow 2 = .ok (.iconst 2, 1) := by decide +kernel
theorem dX6_glow_3 : decode cX6_glow 3 = .ok (.invokevirtual 50, 3) := by decide +kernel
theorem dX6_glow_6 : decode cX6_glow 6 = .ok (.aload_n 0, 1) := by decide +kernel
theorem dX6_glow_7 : decode cX6_glow 7 = .ok (.iload_n 1, 1) := by decide +kernel
theorem dX6_glow_8 : decode cX6_glow 8 = .ok (.iconst 1, 1) := by decide +kernel
theorem dX6_glow_9 : decode cX6_glow 9 = .ok (.invokevirtual 50, 3) := by decide +kernel
theorem dX6_glow_12 : decode cX6_glow 12 = .ok (.isub, 1) := by decide +kernel
theorem dX6_glow_13 : decode cX6_glow 13 = .ok (.istore_n 2, 1) := by decide +kernel
theorem dX6_glow_14 : decode cX6_glow 14 = .ok (.aload_n 0, 1) := by decide +kernel
theorem dX6_glow_15 : decode cX6_glow 15 = .ok (.iload_n 1, 1) := by decide +kernel
theorem dX6_glow_16 : decode cX6_glow 16 = .ok (.iconst 1, 1) := by decide +kernel
theorem dX6_glow_17 : decode cX6_glow 17 = .ok (.invokevirtual 50, 3) := by decide +kernel
theorem dX6_glow_20 : decode cX6_glow 20 = .ok (.aload_n 0, 1) := by decide +kernel
theorem dX6_glow_21 : decode cX6_glow 21 = .ok (.iload_n 1, 1) := by decide +kernel
theorem dX6_glow_22 : decode cX6_glow 22 = .ok (.iconst 3, 1) := by decide +kernel
theorem dX6_glow_23 : decode cX6_glow 23 = .ok (.invokevirtual 50, 3) := by decide +kernel
theorem dX6_glow_26 : decode cX6_glow 26 = .ok (.ineg, 1) := by decide +kernel
theorem dX6_glow_27 : decode cX6_glow 27 = .ok (.aload_n 0, 1) := by decide +kernel
theorem dX6_glow_28 : decode cX6_glow 28 = .ok (.iload_n 1, 1) := by decide +kernel
theorem dX6_glow_29 : decode cX6_glow 29 = .ok (.iconst 3, 1) := by decide +kernel
theorem dX6_glow_30 : decode cX6_glow 30 = .ok (.invokevirtual 50, 3) := by decide +kernel
theorem dX6_glow_33 : decode cX6_glow 33 = .ok (.iload_n 2, 1) := by decide +kernel
theorem dX6_glow_34 : decode cX6_glow 34 = .ok (.invokestatic 67, 3) := by decide +kernel
theorem dX6_glow_37 : decode cX6_glow 37 = .ok (.invokestatic 72, 3) := by decide +kernel
theorem dX6_glow_40 : decode cX6_glow 40 = .ok (.iadd, 1) := by decide +kernel
theorem dX6_glow_41 : decode cX6_glow 41 = .ok (.istore_n 3, 1) := by decide +kernel
theorem dX6_glow_42 : decode cX6_glow 42 = .ok (.iconst 0, 1) := by decide +kernel
theorem dX6_glow_43 : decode cX6_glow 43 = .ok (.aload_n 0, 1) := by decide +kernel
theorem dX6_glow_44 : decode cX6_glow 44 = .ok (.iload_n 1, 1) := by decide +kernel
theorem dX6_glow_45 : decode cX6_glow 45 = .ok (.iconst 4, 1) := by decide +kernel
theorem dX6_glow_46 : decode cX6_glow 46 = .ok (.invokevirtual 50, 3) := by decide +kernel
theorem dX6_glow_49 : decode cX6_glow 49 = .ok (.iload_n 3, 1) := by decide +kernel
theorem dX6_glow_50 : decode cX6_glow 50 = .ok (.bipush 10, 2) := by decide +kernel
theorem dX6_glow_52 : decode cX6_glow 52 = .ok (.idiv, 1) := by decide +kernel
theorem dX6_glow_53 : decode cX6_glow 53 = .ok (.isub, 1) := by decide +kernel
theorem dX6_glow_54 : decode cX6_glow 54 = .ok (.invokestatic 72, 3) := by decide +kernel
theorem dX6_glow_57 : decode cX6_glow 57 = .ok (.istore 4, 2) := by decide +kernel
theorem dX6_glow_59 : decode cX6_glow 59 = .ok (.aload_n 0, 1) := by decide +kernel
theorem dX6_glow_60 : decode cX6_glow 60 = .ok (.iload_n 1, 1) := by decide +kernel
theorem dX6_glow_61 : decode cX6_glow 61 = .ok (.iconst 4, 1) := by decide +kernel
theorem dX6_glow_62 : decode cX6_glow 62 = .ok (.iload 4, 2) := by decide +kernel
theorem dX6_glow_64 : decode cX6_glow 64 = .ok (.invokevirtual 54, 3) := by decide +kernel
theorem dX6_glow_67 : decode cX6_glow 67 = .ok (.aload_n 0, 1) := by decide +kernel
theorem dX6_glow_68 : decode cX6_glow 68 = .ok (.iload_n 1, 1) := by decide +kernel
theorem dX6_glow_69 : decode cX6_glow 69 = .ok (.iconst 1, 1) := by decide +kernel
theorem dX6_glow_70 : decode cX6_glow 70 = .ok (.iload 4, 2) := by decide +kernel
theorem dX6_glow_72 : decode cX6_glow 72 = .ok (.ifCond .ne 7, 3) := by decide +kernel
theorem dX6_glow_75 : decode cX6_glow 75 = .ok (.iconst 0, 1) := by decide +kernel
theorem dX6_glow_76 : decode cX6_glow 76 = .ok (.goto 4, 3) := by decide +kernel
theorem dX6_glow_79 : decode cX6_glow 79 = .ok (.iload_n 3, 1) := by decide +kernel
theorem dX6_glow_80 : decode cX6_glow 80 = .ok (.invokevirtual 54, 3) := by decide +kernel
theorem dX6_glow_83 : decode cX6_glow 83 = .ok (.return_, 1) := by decide +kernel
set_option maxRecDepth 20000 in
theorem ggX6_tickOn_X6_carryOut : GoodIn wsX6_tickOn wsX6_carryOut := goodIn_r _ [10, 3, 1, 5, 11, 12, 13, 9, 14, 15, 34, 35, 36, 37, 38, 39, 40, 41, 42] (by decide +kernel) (by decide +kernel)
set_option maxRecDepth 20000 in
theorem gX6_tickOn_X6_carryOut : GoodIn wsX6_tickOn (wsV RX6 75 RX6 yX6_carryOut wsX6_carryOut) := goodIn_app (goodIn_of _ (by decide +kernel)) ggX6_tickOn_X6_carryOut
set_option maxRecDepth 20000 in
theorem ggX6_tickOn_X6_glow : GoodIn wsX6_tickOn wsX6_glow := goodIn_r _ [19, 20, 21, 22, 23, 24, 25, 26, 27, 28, 29, 9, 30, 15, 11, 12, 13, 14, 34, 35, 36, 37, 38, 39, 40, 41, 42] (by decide +kernel) (by decide +kernel)
set_option maxRecDepth 20000 in
theorem gX6_tickOn_X6_glow : GoodIn wsX6_tickOn (wsV RX6 79 RX6 yX6_glow wsX6_glow) := goodIn_app (goodIn_of _ (by decide +kernel)) ggX6_tickOn_X6_glow
set_option maxRecDepth 20000 in
theorem ggX6_tickOn_X6_round : GoodIn wsX6_tickOn wsX6_round := goodIn_r _ [33] (by decide +kernel) (by decide +kernel)
set_option maxRecDepth 20000 in
theorem gX6_tickOn_X6_round : GoodIn wsX6_tickOn (va_wsS RX6 82 yX6_round wsX6_round) := goodIn_app (goodIn_of _ (by decide +kernel)) ggX6_tickOn_X6_round
theorem dX6_tickOn_0 : decode cX6_tickOn 0 = .ok (.iconst 0, 1) := by decide +kernel
theorem dX6_tickOn_1 : decode cX6_tickOn 1 = .ok (.istore_n 1, 1) := by decide +kernel
theorem dX6_tickOn_2 : decode cX6_tickOn 2 = .ok (.aload_n 0, 1) := by decide +kernel
theorem dX6_tickOn_3 : decode cX6_tickOn 3 = .ok (.getfield 22, 3) := by decide +kernel
theorem dX6_tickOn_6 : decode cX6_tickOn 6 = .ok (.iconst 2, 1) := by decide +kernel
theorem dX6_tickOn_7 : decode cX6_tickOn 7 = .ok (.iaload, 1) := by decide +kernel
theorem dX6_tickOn_8 : decode cX6_tickOn 8 = .ok (.iconst 1, 1) := by decide +kernel
theorem dX6_tickOn_9 : decode cX6_tickOn 9 = .ok (.if_icmp .ne 61, 3) := by decide +kernel
theorem dX6_tickOn_12 : decode cX6_tickOn 12 = .ok (.aload_n 0, 1) := by decide +kernel
theorem dX6_tickOn_13 : decode cX6_tickOn 13 = .ok (.getfield 22, 3) := by decide +kernel
theorem dX6_tickOn_16 : decode cX6_tickOn 16 = .ok (.iconst 1, 1) := by decide +kernel
theorem dX6_tickOn_17 : decode cX6_tickOn 17 = .ok (.iaload, 1) := by decide +kernel
theorem dX6_tickOn_18 : decode cX6_tickOn 18 = .ok (.istore_n 2, 1) := by decide +kernel
theorem dX6_tickOn_19 : decode cX6_tickOn 19 = .ok (.iconst 0, 1) := by decide +kernel
theorem dX6_tickOn_20 : decode cX6_tickOn 20 = .ok (.istore_n 3, 1) := by decide +kernel
theorem dX6_tickOn_21 : decode cX6_tickOn 21 = .ok (.iload_n 3, 1) := by decide +kernel
theorem dX6_tickOn_22 : decode cX6_tickOn 22 = .ok (.aload_n 0, 1) := by decide +kernel
theorem dX6_tickOn_23 : decode cX6_tickOn 23 = .ok (.getfield 64, 3) := by decide +kernel
theorem dX6_tickOn_26 : decode cX6_tickOn 26 = .ok (.if_icmp .ge 34, 3) := by decide +kernel
theorem dX6_tickOn_29 : decode cX6_tickOn 29 = .ok (.aload_n 0, 1) := by decide +kernel
theorem dX6_tickOn_30 : decode cX6_tickOn 30 = .ok (.getfield 19, 3) := by decide +kernel
theorem dX6_tickOn_33 : decode cX6_tickOn 33 = .ok (.iconst 4, 1) := by decide +kernel
theorem dX6_tickOn_34 : decode cX6_tickOn 34 = .ok (.iload_n 3, 1) := by decide +kernel
theorem dX6_tickOn_35 : decode cX6_tickOn 35 = .ok (.imul, 1) := by decide +kernel
theorem dX6_tickOn_36 : decode cX6_tickOn 36 = .ok (.iconst 0, 1) := by decide +kernel
theorem dX6_tickOn_37 : decode cX6_tickOn 37 = .ok (.iadd, 1) := by decide +kernel
theorem dX6_tickOn_38 : decode cX6_tickOn 38 = .ok (.iaload, 1) := by decide +kernel
theorem dX6_tickOn_39 : decode cX6_tickOn 39 = .ok (.iload_n 2, 1) := by decide +kernel
theorem dX6_tickOn_40 : decode cX6_tickOn 40 = .ok (.if_icmp .eq 6, 3) := by decide +kernel
theorem dX6_tickOn_43 : decode cX6_tickOn 43 = .ok (.goto 11, 3) := by decide +kernel
theorem dX6_tickOn_46 : decode cX6_tickOn 46 = .ok (.aload_n 0, 1) := by decide +kernel
theorem dX6_tickOn_47 : decode cX6_tickOn 47 = .ok (.iload_n 3, 1) := by decide +kernel
theorem dX6_tickOn_48 : decode cX6_tickOn 48 = .ok (.invokevirtual 75, 3) := by decide +kernel
theorem dX6_tickOn_51 : decode cX6_tickOn 51 = .ok (.iinc 1 1, 3) := by decide +kernel
theorem dX6_tickOn_54 : decode cX6_tickOn 54 = .ok (.iinc 3 1, 3) := by decide +kernel
theorem dX6_tickOn_57 : decode cX6_tickOn 57 = .ok (.goto (-36), 3) := by decide +kernel
theorem dX6_tickOn_60 : decode cX6_tickOn 60 = .ok (.aload_n 0, 1) := by decide +kernel
theorem dX6_tickOn_61 : decode cX6_tickOn 61 = .ok (.getfield 22, 3) := by decide +kernel
theorem dX6_tickOn_64 : decode cX6_tickOn 64 = .ok (.iconst 1, 1) := by decide +kernel
theorem dX6_tickOn_65 : decode cX6_tickOn 65 = .ok (.dup2, 1) := by decide +kernel
theorem dX6_tickOn_66 : decode cX6_tickOn 66 = .ok (.iaload, 1) := by decide +kernel
theorem dX6_tickOn_67 : decode cX6_tickOn 67 = .ok (.iconst 1, 1) := by decide +kernel
theorem dX6_tickOn_68 : decode cX6_tickOn 68 = .ok (.iadd, 1) := by decide +kernel
theorem dX6_tickOn_69 : decode cX6_tickOn 69 = .ok (.iastore, 1) := by decide +kernel
theorem dX6_tickOn_70 : decode cX6_tickOn 70 = .ok (.iconst 0, 1) := by decide +kernel
theorem dX6_tickOn_71 : decode cX6_tickOn 71 = .ok (.istore_n 2, 1) := by decide +kernel
theorem dX6_tickOn_72 : decode cX6_tickOn 72 = .ok (.iload_n 2, 1) := by decide +kernel
theorem dX6_tickOn_73 : decode cX6_tickOn 73 = .ok (.aload_n 0, 1) := by decide +kernel
theorem dX6_tickOn_74 : decode cX6_tickOn 74 = .ok (.getfield 29, 3) := by decide +kernel
theorem dX6_tickOn_77 : decode cX6_tickOn 77 = .ok (.if_icmp .ge 14, 3) := by decide +kernel
theorem dX6_tickOn_80 : decode cX6_tickOn 80 = .ok (.aload_n 0, 1) := by decide +kernel
theorem dX6_tickOn_81 : decode cX6_tickOn 81 = .ok (.iload_n 2, 1) := by decide +kernel
theorem dX6_tickOn_82 : decode cX6_tickOn 82 = .ok (.invokevirtual 79, 3) := by decide +kernel
theorem dX6_tickOn_85 : decode cX6_tickOn 85 = .ok (.iinc 2 1, 3) := by decide +kernel
theorem dX6_tickOn_88 : decode cX6_tickOn 88 = .ok (.goto (-16), 3) := by decide +kernel
theorem dX6_tickOn_91 : decode cX6_tickOn 91 = .ok (.aload_n 0, 1) := by decide +kernel
theorem dX6_tickOn_92 : decode cX6_tickOn 92 = .ok (.getfield 22, 3) := by decide +kernel
theorem dX6_tickOn_95 : decode cX6_tickOn 95 = .ok (.iconst 5, 1) := by decide +kernel
theorem dX6_tickOn_96 : decode cX6_tickOn 96 = .ok (.aload_n 0, 1) := by decide +kernel
theorem dX6_tickOn_97 : decode cX6_tickOn 97 = .ok (.getfield 22, 3) := by decide +kernel
theorem dX6_tickOn_100 : decode cX6_tickOn 100 = .ok (.iconst 5, 1) := by decide +kernel
theorem dX6_tickOn_101 : decode cX6_tickOn 101 = .ok (.iaload, 1) := by decide +kernel
theorem dX6_tickOn_102 : decode cX6_tickOn 102 = .ok (.aload_n 0, 1) := by decide +kernel
theorem dX6_tickOn_103 : decode cX6_tickOn 103 = .ok (.getfield 22, 3) := by decide +kernel
theorem dX6_tickOn_106 : decode cX6_tickOn 106 = .ok (.bipush 6, 2) := by decide +kernel
theorem dX6_tickOn_108 : decode cX6_tickOn 108 = .ok (.iaload, 1) := by decide +kernel
theorem dX6_tickOn_109 : decode cX6_tickOn 109 = .ok (.iadd, 1) := by decide +kernel
theorem dX6_tickOn_110 : decode cX6_tickOn 110 = .ok (.invokestatic 82, 3) := by decide +kernel
theorem dX6_tickOn_113 : decode cX6_tickOn 113 = .ok (.iastore, 1) := by decide +kernel
theorem dX6_tickOn_114 : decode cX6_tickOn 114 = .ok (.iconst 0, 1) := by decide +kernel
theorem dX6_tickOn_115 : decode cX6_tickOn 115 = .ok (.istore_n 2, 1) := by decide +kernel
theorem dX6_tickOn_116 : decode cX6_tickOn 116 = .ok (.iload_n 2, 1) := by decide +kernel
theorem dX6_tickOn_117 : decode cX6_tickOn 117 = .ok (.aload_n 0, 1) := by decide +kernel
theorem dX6_tickOn_118 : decode cX6_tickOn 118 = .ok (.getfield 22, 3) := by decide +kernel
theorem dX6_tickOn_121 : decode cX6_tickOn 121 = .ok (.bipush 7, 2) := by decide +kernel
theorem dX6_tickOn_123 : decode cX6_tickOn 123 = .ok (.iaload, 1) := by decide +kernel
theorem dX6_tickOn_124 : decode cX6_tickOn 124 = .ok (.if_icmp .ge 73, 3) := by decide +kernel
theorem dX6_tickOn_127 : decode cX6_tickOn 127 = .ok (.aload_n 0, 1) := by decide +kernel
theorem dX6_tickOn_128 : decode cX6_tickOn 128 = .ok (.getfield 16, 3) := by decide +kernel
theorem dX6_tickOn_131 : decode cX6_tickOn 131 = .ok (.iconst 3, 1) := by decide +kernel
theorem dX6_tickOn_132 : decode cX6_tickOn 132 = .ok (.iload_n 2, 1) := by decide +kernel
theorem dX6_tickOn_133 : decode cX6_tickOn 133 = .ok (.imul, 1) := by decide +kernel
theorem dX6_tickOn_134 : decode cX6_tickOn 134 = .ok (.iconst 2, 1) := by decide +kernel
theorem dX6_tickOn_135 : decode cX6_tickOn 135 = .ok (.iadd, 1) := by decide +kernel
theorem dX6_tickOn_136 : decode cX6_tickOn 136 = .ok (.iaload, 1) := by decide +kernel
theorem dX6_tickOn_137 : decode cX6_tickOn 137 = .ok (.ifCond .ne 6, 3) := by decide +kernel
theorem dX6_tickOn_140 : decode cX6_tickOn 140 = .ok (.goto 51, 3) := by decide +kernel
theorem dX6_tickOn_143 : decode cX6_tickOn 143 = .ok (.aload_n 0, 1) := by decide +kernel
theorem dX6_tickOn_144 : decode cX6_tickOn 144 = .ok (.getfield 16, 3) := by decide +kernel
theorem dX6_tickOn_147 : decode cX6_tickOn 147 = .ok (.iconst 3, 1) := by decide +kernel
theorem dX6_tickOn_148 : decode cX6_tickOn 148 = .ok (.iload_n 2, 1) := by decide +kernel
theorem dX6_tickOn_149 : decode cX6_tickOn 149 = .ok (.imul, 1) := by decide +kernel
theorem dX6_tickOn_150 : decode cX6_tickOn 150 = .ok (.iconst 0, 1) := by decide +kernel
theorem dX6_tickOn_151 : decode cX6_tickOn 151 = .ok (.iadd, 1) := by decide +kernel
theorem dX6_tickOn_152 : decode cX6_tickOn 152 = .ok (.aload_n 0, 1) := by decide +kernel
theorem dX6_tickOn_153 : decode cX6_tickOn 153 = .ok (.getfield 16, 3) := by decide +kernel
theorem dX6_tickOn_156 : decode cX6_tickOn 156 = .ok (.iconst 3, 1) := by decide +kernel
theorem dX6_tickOn_157 : decode cX6_tickOn 157 = .ok (.iload_n 2, 1) := by decide +kernel
theorem dX6_tickOn_158 : decode cX6_tickOn 158 = .ok (.imul, 1) := by decide +kernel
theorem dX6_tickOn_159 : decode cX6_tickOn 159 = .ok (.iconst 0, 1) := by decide +kernel
theorem dX6_tickOn_160 : decode cX6_tickOn 160 = .ok (.iadd, 1) := by decide +kernel
theorem dX6_tickOn_161 : decode cX6_tickOn 161 = .ok (.iaload, 1) := by decide +kernel
theorem dX6_tickOn_162 : decode cX6_tickOn 162 = .ok (.aload_n 0, 1) := by decide +kernel
theorem dX6_tickOn_163 : decode cX6_tickOn 163 = .ok (.getfield 16, 3) := by decide +kernel
theorem dX6_tickOn_166 : decode cX6_tickOn 166 = .ok (.iconst 3, 1) := by decide +kernel
theorem dX6_tickOn_167 : decode cX6_tickOn 167 = .ok (.iload_n 2, 1) := by decide +kernel
theorem dX6_tickOn_168 : decode cX6_tickOn 168 = .ok (.imul, 1) := by decide +kernel
theorem dX6_tickOn_169 : decode cX6_tickOn 169 = .ok (.iconst 1, 1) := by decide +kernel
theorem dX6_tickOn_170 : decode cX6_tickOn 170 = .ok (.iadd, 1) := by decide +kernel
theorem dX6_tickOn_171 : decode cX6_tickOn 171 = .ok (.iaload, 1) := by decide +kernel
theorem dX6_tickOn_172 : decode cX6_tickOn 172 = .ok (.iadd, 1) := by decide +kernel
theorem dX6_tickOn_173 : decode cX6_tickOn 173 = .ok (.invokestatic 82, 3) := by decide +kernel
theorem dX6_tickOn_176 : decode cX6_tickOn 176 = .ok (.iastore, 1) := by decide +kernel
theorem dX6_tickOn_177 : decode cX6_tickOn 177 = .ok (.aload_n 0, 1) := by decide +kernel
theorem dX6_tickOn_178 : decode cX6_tickOn 178 = .ok (.getfield 16, 3) := by decide +kernel
theorem dX6_tickOn_181 : decode cX6_tickOn 181 = .ok (.iconst 3, 1) := by decide +kernel
theorem dX6_tickOn_182 : decode cX6_tickOn 182 = .ok (.iload_n 2, 1) := by decide +kernel
theorem dX6_tickOn_183 : decode cX6_tickOn 183 = .ok (.imul, 1) := by decide +kernel
theorem dX6_tickOn_184 : decode cX6_tickOn 184 = .ok (.iconst 2, 1) := by decide +kernel
theorem dX6_tickOn_185 : decode cX6_tickOn 185 = .ok (.iadd, 1) := by decide +kernel
theorem dX6_tickOn_186 : decode cX6_tickOn 186 = .ok (.dup2, 1) := by decide +kernel
theorem dX6_tickOn_187 : decode cX6_tickOn 187 = .ok (.iaload, 1) := by decide +kernel
theorem dX6_tickOn_188 : decode cX6_tickOn 188 = .ok (.iconst 1, 1) := by decide +kernel
theorem dX6_tickOn_189 : decode cX6_tickOn 189 = .ok (.isub, 1) := by decide +kernel
theorem dX6_tickOn_190 : decode cX6_tickOn 190 = .ok (.iastore, 1) := by decide +kernel
theorem dX6_tickOn_191 : decode cX6_tickOn 191 = .ok (.iinc 2 1, 3) := by decide +kernel
theorem dX6_tickOn_194 : decode cX6_tickOn 194 = .ok (.goto (-78), 3) := by decide +kernel
theorem dX6_tickOn_197 : decode cX6_tickOn 197 = .ok (.aload_n 0, 1) := by decide +kernel
theorem dX6_tickOn_198 : decode cX6_tickOn 198 = .ok (.getfield 22, 3) := by decide +kernel
theorem dX6_tickOn_201 : decode cX6_tickOn 201 = .ok (.iconst 4, 1) := by decide +kernel
theorem dX6_tickOn_202 : decode cX6_tickOn 202 = .ok (.iaload, 1) := by decide +kernel
theorem dX6_tickOn_203 : decode cX6_tickOn 203 = .ok (.ifCond .le 13, 3) := by decide +kernel
theorem dX6_tickOn_206 : decode cX6_tickOn 206 = .ok (.aload_n 0, 1) := by decide +kernel
theorem dX6_tickOn_207 : decode cX6_tickOn 207 = .ok (.getfield 22, 3) := by decide +kernel
theorem dX6_tickOn_210 : decode cX6_tickOn 210 = .ok (.iconst 4, 1) := by decide +kernel
theorem dX6_tickOn_211 : decode cX6_tickOn 211 = .ok (.dup2, 1) := by decide +kernel
theorem dX6_tickOn_212 : decode cX6_tickOn 212 = .ok (.iaload, 1) := by decide +kernel
theorem dX6_tickOn_213 : decode cX6_tickOn 213 = .ok (.iconst 1, 1) := by decide +kernel
theorem dX6_tickOn_214 : decode cX6_tickOn 214 = .ok (.isub, 1) := by decide +kernel
theorem dX6_tickOn_215 : decode cX6_tickOn 215 = .ok (.iastore, 1) := by decide +kernel
theorem dX6_tickOn_216 : decode cX6_tickOn 216 = .ok (.aload_n 0, 1) := by decide +kernel
theorem dX6_tickOn_217 : decode cX6_tickOn 217 = .ok (.getfield 22, 3) := by decide +kernel
theorem dX6_tickOn_220 : decode cX6_tickOn 220 = .ok (.iconst 4, 1) := by decide +kernel
theorem dX6_tickOn_221 : decode cX6_tickOn 221 = .ok (.iaload, 1) := by decide +kernel
theorem dX6_tickOn_222 : decode cX6_tickOn 222 = .ok (.ifCond .ne 10, 3) := by decide +kernel
theorem dX6_tickOn_225 : decode cX6_tickOn 225 = .ok (.aload_n 0, 1) := by decide +kernel
theorem dX6_tickOn_226 : decode cX6_tickOn 226 = .ok (.getfield 22, 3) := by decide +kernel
theorem dX6_tickOn_229 : decode cX6_tickOn 229 = .ok (.iconst 3, 1) := by decide +kernel
theorem dX6_tickOn_230 : decode cX6_tickOn 230 = .ok (.iconst (-1), 1) := by decide +kernel
theorem dX6_tickOn_231 : decode cX6_tickOn 231 = .ok (.iastore, 1) := by decide +kernel
theorem dX6_tickOn_232 : decode cX6_tickOn 232 = .ok (.aload_n 0, 1) := by decide +kernel
theorem dX6_tickOn_233 : decode cX6_tickOn 233 = .ok (.getfield 22, 3) := by decide +kernel
theorem dX6_tickOn_236 : decode cX6_tickOn 236 = .ok (.iconst 0, 1) := by decide +kernel
theorem dX6_tickOn_237 : decode cX6_tickOn 237 = .ok (.dup2, 1) := by decide +kernel
theorem dX6_tickOn_238 : decode cX6_tickOn 238 = .ok (.iaload, 1) := by decide +kernel
theorem dX6_tickOn_239 : decode cX6_tickOn 239 = .ok (.iconst 1, 1) := by decide +kernel
theorem dX6_tickOn_240 : decode cX6_tickOn 240 = .ok (.iadd, 1) := by decide +kernel
theorem dX6_tickOn_241 : decode cX6_tickOn 241 = .ok (.iastore, 1) := by decide +kernel
theorem dX6_tickOn_242 : decode cX6_tickOn 242 = .ok (.iload_n 1, 1) := by decide +kernel
theorem dX6_tickOn_243 : decode cX6_tickOn 243 = .ok (.ireturn, 1) := by decide +kernel
set_option maxRecDepth 20000 in
theorem ggX6_ticksOn_X6_tickOn : GoodIn wsX6_ticksOn wsX6_tickOn := goodIn_r _ [5, 6, 7, 8, 9, 10, 11, 12, 13, 4, 14, 15, 16, 17, 18, 19, 20, 21, 22, 23, 24, 25, 26, 27, 28, 29, 30, 31, 32, 33, 34, 35, 36, 37, 38, 39, 40, 41, 42, 43, 44, 45, 46] (by decide +kernel) (by decide +kernel)
set_option maxRecDepth 20000 in
theorem gX6_ticksOn_X6_tickOn : GoodIn wsX6_ticksOn (wsV RX6 85 RX6 yX6_tickOn wsX6_tickOn) := goodIn_app (goodIn_of _ (by decide +kernel)) ggX6_ticksOn_X6_tickOn
theorem dX6_ticksOn_0 : decode cX6_ticksOn 0 = .ok (.iconst 0, 1) := by decide +kernel
theorem dX6_ticksOn_1 : decode cX6_ticksOn 1 = .ok (.istore_n 2, 1) := by decide +kernel
theorem dX6_ticksOn_2 : decode cX6_ticksOn 2 = .ok (.iconst 0, 1) := by decide +kernel
theorem dX6_ticksOn_3 : decode cX6_ticksOn 3 = .ok (.istore_n 3, 1) := by decide +kernel
theorem dX6_ticksOn_4 : decode cX6_ticksOn 4 = .ok (.iload_n 3, 1) := by decide +kernel
theorem dX6_ticksOn_5 : decode cX6_ticksOn 5 = .ok (.iload_n 1, 1) := by decide +kernel
theorem dX6_ticksOn_6 : decode cX6_ticksOn 6 = .ok (.if_icmp .ge 16, 3) := by decide +kernel
theorem dX6_ticksOn_9 : decode cX6_ticksOn 9 = .ok (.iload_n 2, 1) := by decide +kernel
theorem dX6_ticksOn_10 : decode cX6_ticksOn 10 = .ok (.aload_n 0, 1) := by decide +kernel
theorem dX6_ticksOn_11 : decode cX6_ticksOn 11 = .ok (.invokevirtual 85, 3) := by decide +kernel
theorem dX6_ticksOn_14 : decode cX6_ticksOn 14 = .ok (.iadd, 1) := by decide +kernel
theorem dX6_ticksOn_15 : decode cX6_ticksOn 15 = .ok (.istore_n 2, 1) := by decide +kernel
theorem dX6_ticksOn_16 : decode cX6_ticksOn 16 = .ok (.iinc 3 1, 3) := by decide +kernel
theorem dX6_ticksOn_19 : decode cX6_ticksOn 19 = .ok (.goto (-15), 3) := by decide +kernel
theorem dX6_ticksOn_22 : decode cX6_ticksOn 22 = .ok (.iload_n 2, 1) := by decide +kernel
theorem dX6_ticksOn_23 : decode cX6_ticksOn 23 = .ok (.ireturn, 1) := by decide +kernel
set_option maxRecDepth 20000 in
theorem ggX6_pass_X6_isIn : GoodIn wsX6_pass wsX6_isIn := goodIn_r _ [5] (by decide +kernel) (by decide +kernel)
set_option maxRecDepth 20000 in
theorem gX6_pass_X6_isIn : GoodIn wsX6_pass (va_wsS RX6 32 yX6_isIn wsX6_isIn) := goodIn_app (goodIn_of _ (by decide +kernel)) ggX6_pass_X6_isIn
set_option maxRecDepth 20000 in
theorem ggX6_pass_X6_ticksOn : GoodIn wsX6_pass wsX6_ticksOn := goodIn_r _ [9, 10, 11, 12, 4, 13, 14, 15, 16, 17, 18, 19, 20, 21, 22, 23, 24, 25, 26, 27, 28, 29, 30, 31, 32, 33, 34, 35, 36, 37, 38, 39, 40, 41, 42, 43, 44, 45, 50, 51, 52, 53, 54, 55, 56, 57, 58] (by decide +kernel) (by decide +kernel)
set_option maxRecDepth 20000 in
theorem gX6_pass_X6_ticksOn : GoodIn wsX6_pass (wsV RX6 89 RX6 yX6_ticksOn wsX6_ticksOn) := goodIn_app (goodIn_of _ (by decide +kernel)) ggX6_pass_X6_ticksOn
set_option maxRecDepth 20000 in
theorem ggX6_pass_X6_fail : GoodIn wsX6_pass wsX6_fail := goodIn_r _ [49, 1, 50, 51, 52, 53, 54, 55, 56, 57, 58] (by decide +kernel) (by decide +kernel)
set_option maxRecDepth 20000 in
theorem gX6_pass_X6_fail : GoodIn wsX6_pass (wsV RX6 36 RX6 yX6_fail wsX6_fail) := goodIn_app (goodIn_of _ (by decide +kernel)) ggX6_pass_X6_fail
theorem dX6_pass_0 : decode cX6_pass 0 = .ok (.aload_n 0, 1) := by decide +kernel
theorem dX6_pass_1 : decode cX6_pass 1 = .ok (.iconst 0, 1) := by decide +kernel
theorem dX6_pass_2 : decode cX6_pass 2 = .ok (.putfield 25, 3) := by decide +kernel
theorem dX6_pass_5 : decode cX6_pass 5 = .ok (.iload_n 1, 1) := by decide +kernel
theorem dX6_pass_6 : decode cX6_pass 6 = .ok (.iconst 1, 1) := by decide +kernel
theorem dX6_pass_7 : decode cX6_pass 7 = .ok (.sipush 500, 3) := by decide +kernel
theorem dX6_pass_10 : decode cX6_pass 10 = .ok (.invokestatic 32, 3) := by decide +kernel
theorem dX6_pass_13 : decode cX6_pass 13 = .ok (.ifCond .eq 11, 3) := by decide +kernel
theorem dX6_pass_16 : decode cX6_pass 16 = .ok (.aload_n 0, 1) := by decide +kernel
theorem dX6_pass_17 : decode cX6_pass 17 = .ok (.iload_n 1, 1) := by decide +kernel
theorem dX6_pass_18 : decode cX6_pass 18 = .ok (.invokevirtual 89, 3) := by decide +kernel
theorem dX6_pass_21 : decode cX6_pass 21 = .ok (.goto 8, 3) := by decide +kernel
theorem dX6_pass_24 : decode cX6_pass 24 = .ok (.aload_n 0, 1) := by decide +kernel
theorem dX6_pass_25 : decode cX6_pass 25 = .ok (.iconst 1, 1) := by decide +kernel
theorem dX6_pass_26 : decode cX6_pass 26 = .ok (.invokevirtual 36, 3) := by decide +kernel
theorem dX6_pass_29 : decode cX6_pass 29 = .ok (.ireturn, 1) := by decide +kernel
set_option maxRecDepth 20000 in
theorem ggX6_told_X6_isDimmer : GoodIn wsX6_told wsX6_isDimmer := goodIn_r _ [6, 7, 8, 9, 5, 10, 20, 21, 22, 23, 24, 25, 26, 27, 28] (by decide +kernel) (by decide +kernel)
set_option maxRecDepth 20000 in
theorem gX6_told_X6_isDimmer : GoodIn wsX6_told (wsV RX6 46 RX6 yX6_isDimmer wsX6_isDimmer) := goodIn_app (goodIn_of _ (by decide +kernel)) ggX6_told_X6_isDimmer
set_option maxRecDepth 20000 in
theorem ggX6_told_X6_isIn : GoodIn wsX6_told wsX6_isIn := goodIn_r _ [10] (by decide +kernel) (by decide +kernel)
set_option maxRecDepth 20000 in
theorem gX6_told_X6_isIn : GoodIn wsX6_told (va_wsS RX6 32 yX6_isIn wsX6_isIn) := goodIn_app (goodIn_of _ (by decide +kernel)) ggX6_told_X6_isIn
set_option maxRecDepth 20000 in
theorem ggX6_told_X6_la : GoodIn wsX6_told wsX6_la := goodIn_r _ [14, 15, 20, 21, 22, 23, 24, 25, 26, 27, 28] (by decide +kernel) (by decide +kernel)
set_option maxRecDepth 20000 in
theorem gX6_told_X6_la : GoodIn wsX6_told (wsV RX6 50 RX6 yX6_la wsX6_la) := goodIn_app (goodIn_of _ (by decide +kernel)) ggX6_told_X6_la
set_option maxRecDepth 20000 in
theorem ggX6_told_X6_fail : GoodIn wsX6_told wsX6_fail := goodIn_r _ [19, 1, 20, 21, 22, 23, 24, 25, 26, 27, 28] (by decide +kernel) (by decide +kernel)
set_option maxRecDepth 20000 in
theorem gX6_told_X6_fail : GoodIn wsX6_told (wsV RX6 36 RX6 yX6_fail wsX6_fail) := goodIn_app (goodIn_of _ (by decide +kernel)) ggX6_told_X6_fail
theorem dX6_told_0 : decode cX6_told 0 = .ok (.aload_n 0, 1) := by decide +kernel
theorem dX6_told_1 : decode cX6_told 1 = .ok (.iconst 0, 1) := by decide +kernel
theorem dX6_told_2 : decode cX6_told 2 = .ok (.putfield 25, 3) := by decide +kernel
theorem dX6_told_5 : decode cX6_told 5 = .ok (.aload_n 0, 1) := by decide +kernel
theorem dX6_told_6 : decode cX6_told 6 = .ok (.iload_n 1, 1) := by decide +kernel
theorem dX6_told_7 : decode cX6_told 7 = .ok (.invokevirtual 46, 3) := by decide +kernel
theorem dX6_told_10 : decode cX6_told 10 = .ok (.ifCond .eq 21, 3) := by decide +kernel
theorem dX6_told_13 : decode cX6_told 13 = .ok (.iload_n 2, 1) := by decide +kernel
theorem dX6_told_14 : decode cX6_told 14 = .ok (.iconst 0, 1) := by decide +kernel
theorem dX6_told_15 : decode cX6_told 15 = .ok (.iconst 4, 1) := by decide +kernel
theorem dX6_told_16 : decode cX6_told 16 = .ok (.invokestatic 32, 3) := by decide +kernel
theorem dX6_told_19 : decode cX6_told 19 = .ok (.ifCond .eq 12, 3) := by decide +kernel
theorem dX6_told_22 : decode cX6_told 22 = .ok (.aload_n 0, 1) := by decide +kernel
theorem dX6_told_23 : decode cX6_told 23 = .ok (.iload_n 1, 1) := by decide +kernel
theorem dX6_told_24 : decode cX6_told 24 = .ok (.iload_n 2, 1) := by decide +kernel
theorem dX6_told_25 : decode cX6_told 25 = .ok (.invokevirtual 50, 3) := by decide +kernel
theorem dX6_told_28 : decode cX6_told 28 = .ok (.goto 8, 3) := by decide +kernel
theorem dX6_told_31 : decode cX6_told 31 = .ok (.aload_n 0, 1) := by decide +kernel
theorem dX6_told_32 : decode cX6_told 32 = .ok (.iconst 1, 1) := by decide +kernel
theorem dX6_told_33 : decode cX6_told 33 = .ok (.invokevirtual 36, 3) := by decide +kernel
theorem dX6_told_36 : decode cX6_told 36 = .ok (.ireturn, 1) := by decide +kernel
set_option maxRecDepth 20000 in
theorem ggX6_glareOf_X6_la : GoodIn wsX6_glareOf wsX6_la := goodIn_r _ [6, 7, 8, 9, 10, 11, 12, 13, 14, 15, 16] (by decide +kernel) (by decide +kernel)
set_option maxRecDepth 20000 in
theorem gX6_glareOf_X6_la : GoodIn wsX6_glareOf (wsV RX6 50 RX6 yX6_la wsX6_la) := goodIn_app (goodIn_of _ (by decide +kernel)) ggX6_glareOf_X6_la
theorem dX6_glareOf_0 : decode cX6_glareOf 0 = .ok (.iconst 0, 1) := by decide +kernel
theorem dX6_glareOf_1 : decode cX6_glareOf 1 = .ok (.istore_n 2, 1) := by decide +kernel
theorem dX6_glareOf_2 : decode cX6_glareOf 2 = .ok (.iconst 0, 1) := by decide +kernel
theorem dX6_glareOf_3 : decode cX6_glareOf 3 = .ok (.istore_n 3, 1) := by decide +kernel
theorem dX6_glareOf_4 : decode cX6_glareOf 4 = .ok (.iload_n 3, 1) := by decide +kernel
theorem dX6_glareOf_5 : decode cX6_glareOf 5 = .ok (.aload_n 0, 1) := by decide +kernel
theorem dX6_glareOf_6 : decode cX6_glareOf 6 = .ok (.getfield 29, 3) := by decide +kernel
theorem dX6_glareOf_9 : decode cX6_glareOf 9 = .ok (.if_icmp .ge 67, 3) := by decide +kernel
theorem dX6_glareOf_12 : decode cX6_glareOf 12 = .ok (.aload_n 0, 1) := by decide +kernel
theorem dX6_glareOf_13 : decode cX6_glareOf 13 = .ok (.iload_n 3, 1) := by decide +kernel
theorem dX6_glareOf_14 : decode cX6_glareOf 14 = .ok (.iconst 0, 1) := by decide +kernel
theorem dX6_glareOf_15 : decode cX6_glareOf 15 = .ok (.invokevirtual 50, 3) := by decide +kernel
theorem dX6_glareOf_18 : decode cX6_glareOf 18 = .ok (.iload_n 1, 1) := by decide +kernel
theorem dX6_glareOf_19 : decode cX6_glareOf 19 = .ok (.isub, 1) := by decide +kernel
theorem dX6_glareOf_20 : decode cX6_glareOf 20 = .ok (.bipush 12, 2) := by decide +kernel
theorem dX6_glareOf_22 : decode cX6_glareOf 22 = .ok (.iadd, 1) := by decide +kernel
theorem dX6_glareOf_23 : decode cX6_glareOf 23 = .ok (.bipush 12, 2) := by decide +kernel
theorem dX6_glareOf_25 : decode cX6_glareOf 25 = .ok (.irem, 1) := by decide +kernel
theorem dX6_glareOf_26 : decode cX6_glareOf 26 = .ok (.istore 4, 2) := by decide +kernel
theorem dX6_glareOf_28 : decode cX6_glareOf 28 = .ok (.iload_n 2, 1) := by decide +kernel
theorem dX6_glareOf_29 : decode cX6_glareOf 29 = .ok (.iload 4, 2) := by decide +kernel
theorem dX6_glareOf_31 : decode cX6_glareOf 31 = .ok (.ifCond .ne 12, 3) := by decide +kernel
theorem dX6_glareOf_34 : decode cX6_glareOf 34 = .ok (.aload_n 0, 1) := by decide +kernel
theorem dX6_glareOf_35 : decode cX6_glareOf 35 = .ok (.iload_n 3, 1) := by decide +kernel
theorem dX6_glareOf_36 : decode cX6_glareOf 36 = .ok (.iconst 1, 1) := by decide +kernel
theorem dX6_glareOf_37 : decode cX6_glareOf 37 = .ok (.invokevirtual 50, 3) := by decide +kernel
theorem dX6_glareOf_40 : decode cX6_glareOf 40 = .ok (.goto 28, 3) := by decide +kernel
theorem dX6_glareOf_43 : decode cX6_glareOf 43 = .ok (.iload 4, 2) := by decide +kernel
theorem dX6_glareOf_45 : decode cX6_glareOf 45 = .ok (.iconst 1, 1) := by decide +kernel
theorem dX6_glareOf_46 : decode cX6_glareOf 46 = .ok (.if_icmp .eq 10, 3) := by decide +kernel
theorem dX6_glareOf_49 : decode cX6_glareOf 49 = .ok (.iload 4, 2) := by decide +kernel
theorem dX6_glareOf_51 : decode cX6_glareOf 51 = .ok (.bipush 11, 2) := by decide +kernel
theorem dX6_glareOf_53 : decode cX6_glareOf 53 = .ok (.if_icmp .ne 14, 3) := by decide +kernel
theorem dX6_glareOf_56 : decode cX6_glareOf 56 = .ok (.aload_n 0, 1) := by decide +kernel
theorem dX6_glareOf_57 : decode cX6_glareOf 57 = .ok (.iload_n 3, 1) := by decide +kernel
theorem dX6_glareOf_58 : decode cX6_glareOf 58 = .ok (.iconst 1, 1) := by decide +kernel
theorem dX6_glareOf_59 : decode cX6_glareOf 59 = .ok (.invokevirtual 50, 3) := by decide +kernel
theorem dX6_glareOf_62 : decode cX6_glareOf 62 = .ok (.iconst 4, 1) := by decide +kernel
theorem dX6_glareOf_63 : decode cX6_glareOf 63 = .ok (.idiv, 1) := by decide +kernel
theorem dX6_glareOf_64 : decode cX6_glareOf 64 = .ok (.goto 4, 3) := by decide +kernel
theorem dX6_glareOf_67 : decode cX6_glareOf 67 = .ok (.iconst 0, 1) := by decide +kernel
theorem dX6_glareOf_68 : decode cX6_glareOf 68 = .ok (.iadd, 1) := by decide +kernel
theorem dX6_glareOf_69 : decode cX6_glareOf 69 = .ok (.istore_n 2, 1) := by decide +kernel
theorem dX6_glareOf_70 : decode cX6_glareOf 70 = .ok (.iinc 3 1, 3) := by decide +kernel
theorem dX6_glareOf_73 : decode cX6_glareOf 73 = .ok (.goto (-69), 3) := by decide +kernel
theorem dX6_glareOf_76 : decode cX6_glareOf 76 = .ok (.iload_n 2, 1) := by decide +kernel
theorem dX6_glareOf_77 : decode cX6_glareOf 77 = .ok (.ireturn, 1) := by decide +kernel
set_option maxRecDepth 20000 in
theorem ggX6_glare_X6_isIn : GoodIn wsX6_glare wsX6_isIn := goodIn_r _ [5] (by decide +kernel) (by decide +kernel)
set_option maxRecDepth 20000 in
theorem gX6_glare_X6_isIn : GoodIn wsX6_glare (va_wsS RX6 32 yX6_isIn wsX6_isIn) := goodIn_app (goodIn_of _ (by decide +kernel)) ggX6_glare_X6_isIn
set_option maxRecDepth 20000 in
theorem ggX6_glare_X6_glareOf : GoodIn wsX6_glare wsX6_glareOf := goodIn_r _ [9, 10, 11, 12, 13, 4, 14, 15, 20, 21, 22, 23, 24, 25, 26, 27, 28] (by decide +kernel) (by decide +kernel)
set_option maxRecDepth 20000 in
theorem gX6_glare_X6_glareOf : GoodIn wsX6_glare (wsV RX6 92 RX6 yX6_glareOf wsX6_glareOf) := goodIn_app (goodIn_of _ (by decide +kernel)) ggX6_glare_X6_glareOf
set_option maxRecDepth 20000 in
theorem ggX6_glare_X6_fail : GoodIn wsX6_glare wsX6_fail := goodIn_r _ [19, 1, 20, 21, 22, 23, 24, 25, 26, 27, 28] (by decide +kernel) (by decide +kernel)
set_option maxRecDepth 20000 in
theorem gX6_glare_X6_fail : GoodIn wsX6_glare (wsV RX6 36 RX6 yX6_fail wsX6_fail) := goodIn_app (goodIn_of _ (by decide +kernel)) ggX6_glare_X6_fail
theorem dX6_glare_0 : decode cX6_glare 0 = .ok (.aload_n 0, 1) := by decide +kernel
theorem dX6_glare_1 : decode cX6_glare 1 = .ok (.iconst 0, 1) := by decide +kernel
theorem dX6_glare_2 : decode cX6_glare 2 = .ok (.putfield 25, 3) := by decide +kernel
theorem dX6_glare_5 : decode cX6_glare 5 = .ok (.iload_n 1, 1) := by decide +kernel
theorem dX6_glare_6 : decode cX6_glare 6 = .ok (.iconst 0, 1) := by decide +kernel
theorem dX6_glare_7 : decode cX6_glare 7 = .ok (.bipush 11, 2) := by decide +kernel
theorem dX6_glare_9 : decode cX6_glare 9 = .ok (.invokestatic 32, 3) := by decide +kernel
theorem dX6_glare_12 : decode cX6_glare 12 = .ok (.ifCond .eq 11, 3) := by decide +kernel
theorem dX6_glare_15 : decode cX6_glare 15 = .ok (.aload_n 0, 1) := by decide +kernel
theorem dX6_glare_16 : decode cX6_glare 16 = .ok (.iload_n 1, 1) := by decide +kernel
theorem dX6_glare_17 : decode cX6_glare 17 = .ok (.invokevirtual 92, 3) := by decide +kernel
theorem dX6_glare_20 : decode cX6_glare 20 = .ok (.goto 8, 3) := by decide +kernel
theorem dX6_glare_23 : decode cX6_glare 23 = .ok (.aload_n 0, 1) := by decide +kernel
theorem dX6_glare_24 : decode cX6_glare 24 = .ok (.iconst 1, 1) := by decide +kernel
theorem dX6_glare_25 : decode cX6_glare 25 = .ok (.invokevirtual 36, 3) := by decide +kernel
theorem dX6_glare_28 : decode cX6_glare 28 = .ok (.ireturn, 1) := by decide +kernel
theorem dX6_stands_0 : decode cX6_stands 0 = .ok (.aload_n 0, 1) := by decide +kernel
theorem dX6_stands_1 : decode cX6_stands 1 = .ok (.getfield 13, 3) := by decide +kernel
theorem dX6_stands_4 : decode cX6_stands 4 = .ok (.iconst 2, 1) := by decide +kernel
theorem dX6_stands_5 : decode cX6_stands 5 = .ok (.iload_n 1, 1) := by decide +kernel
theorem dX6_stands_6 : decode cX6_stands 6 = .ok (.imul, 1) := by decide +kernel
theorem dX6_stands_7 : decode cX6_stands 7 = .ok (.iaload, 1) := by decide +kernel
theorem dX6_stands_8 : decode cX6_stands 8 = .ok (.aload_n 0, 1) := by decide +kernel
theorem dX6_stands_9 : decode cX6_stands 9 = .ok (.getfield 22, 3) := by decide +kernel
theorem dX6_stands_12 : decode cX6_stands 12 = .ok (.iconst 5, 1) := by decide +kernel
theorem dX6_stands_13 : decode cX6_stands 13 = .ok (.iaload, 1) := by decide +kernel
theorem dX6_stands_14 : decode cX6_stands 14 = .ok (.iadd, 1) := by decide +kernel
theorem dX6_stands_15 : decode cX6_stands 15 = .ok (.sipush 360, 3) := by decide +kernel
theorem dX6_stands_18 : decode cX6_stands 18 = .ok (.irem, 1) := by decide +kernel
theorem dX6_stands_19 : decode cX6_stands 19 = .ok (.ireturn, 1) := by decide +kernel
set_option maxRecDepth 20000 in
theorem ggX6_isSeen_X6_glareOf : GoodIn wsX6_isSeen wsX6_glareOf := goodIn_r _ [5, 6, 7, 8, 9, 4, 10, 11, 12, 13, 14, 15, 16, 17, 18, 19, 20] (by decide +kernel) (by decide +kernel)
set_option maxRecDepth 20000 in
theorem gX6_isSeen_X6_glareOf : GoodIn wsX6_isSeen (wsV RX6 92 RX6 yX6_glareOf wsX6_glareOf) := goodIn_app (goodIn_of _ (by decide +kernel)) ggX6_isSeen_X6_glareOf
theorem dX6_isSeen_0 : decode cX6_isSeen 0 = .ok (.bipush 10, 2) := by decide +kernel
theorem dX6_isSeen_2 : decode cX6_isSeen 2 = .ok (.iload_n 2, 1) := by decide +kernel
theorem dX6_isSeen_3 : decode cX6_isSeen 3 = .ok (.imul, 1) := by decide +kernel
theorem dX6_isSeen_4 : decode cX6_isSeen 4 = .ok (.aload_n 0, 1) := by decide +kernel
theorem dX6_isSeen_5 : decode cX6_isSeen 5 = .ok (.iload_n 1, 1) := by decide +kernel
theorem dX6_isSeen_6 : decode cX6_isSeen 6 = .ok (.bipush 30, 2) := by decide +kernel
theorem dX6_isSeen_8 : decode cX6_isSeen 8 = .ok (.idiv, 1) := by decide +kernel
theorem dX6_isSeen_9 : decode cX6_isSeen 9 = .ok (.invokevirtual 92, 3) := by decide +kernel
theorem dX6_isSeen_12 : decode cX6_isSeen 12 = .ok (.if_icmp .le 7, 3) := by decide +kernel
theorem dX6_isSeen_15 : decode cX6_isSeen 15 = .ok (.iconst 1, 1) := by decide +kernel
theorem dX6_isSeen_16 : decode cX6_isSeen 16 = .ok (.goto 4, 3) := by decide +kernel
theorem dX6_isSeen_19 : decode cX6_isSeen 19 = .ok (.iconst 0, 1) := by decide +kernel
theorem dX6_isSeen_20 : decode cX6_isSeen 20 = .ok (.ireturn, 1) := by decide +kernel
set_option maxRecDepth 20000 in
theorem ggX6_starTold_X6_stands : GoodIn wsX6_starTold wsX6_stands := goodIn_r _ [6, 1, 7, 22, 23, 24, 25, 26, 27, 28, 29, 30] (by decide +kernel) (by decide +kernel)
set_option maxRecDepth 20000 in
theorem gX6_starTold_X6_stands : GoodIn wsX6_starTold (wsV RX6 95 RX6 yX6_stands wsX6_stands) := goodIn_app (goodIn_of _ (by decide +kernel)) ggX6_starTold_X6_stands
set_option maxRecDepth 20000 in
theorem ggX6_starTold_X6_isSeen : GoodIn wsX6_starTold wsX6_isSeen := goodIn_r _ [11, 12, 13, 14, 5, 15, 16, 17, 18, 19, 20, 21, 22, 23, 24, 25, 26, 27, 28, 29, 30] (by decide +kernel) (by decide +kernel)
set_option maxRecDepth 20000 in
theorem gX6_starTold_X6_isSeen : GoodIn wsX6_starTold (wsV RX6 98 RX6 yX6_isSeen wsX6_isSeen) := goodIn_app (goodIn_of _ (by decide +kernel)) ggX6_starTold_X6_isSeen
theorem dX6_starTold_0 : decode cX6_starTold 0 = .ok (.iload_n 2, 1) := by decide +kernel
theorem dX6_starTold_1 : decode cX6_starTold 1 = .ok (.iconst 2, 1) := by decide +kernel
theorem dX6_starTold_2 : decode cX6_starTold 2 = .ok (.if_icmp .ge 16, 3) := by decide +kernel
theorem dX6_starTold_5 : decode cX6_starTold 5 = .ok (.aload_n 0, 1) := by decide +kernel
theorem dX6_starTold_6 : decode cX6_starTold 6 = .ok (.getfield 13, 3) := by decide +kernel
theorem dX6_starTold_9 : decode cX6_starTold 9 = .ok (.iconst 2, 1) := by decide +kernel
theorem dX6_starTold_10 : decode cX6_starTold 10 = .ok (.iload_n 1, 1) := by decide +kernel
theorem dX6_starTold_11 : decode cX6_starTold 11 = .ok (.imul, 1) := by decide +kernel
theorem dX6_starTold_12 : decode cX6_starTold 12 = .ok (.iload_n 2, 1) := by decide +kernel
theorem dX6_starTold_13 : decode cX6_starTold 13 = .ok (.iadd, 1) := by decide +kernel
theorem dX6_starTold_14 : decode cX6_starTold 14 = .ok (.iaload, 1) := by decide +kernel
theorem dX6_starTold_15 : decode cX6_starTold 15 = .ok (.goto 43, 3) := by decide +kernel
theorem dX6_starTold_18 : decode cX6_starTold 18 = .ok (.iload_n 2, 1) := by decide +kernel
theorem dX6_starTold_19 : decode cX6_starTold 19 = .ok (.iconst 2, 1) := by decide +kernel
theorem dX6_starTold_20 : decode cX6_starTold 20 = .ok (.if_icmp .ne 11, 3) := by decide +kernel
theorem dX6_starTold_23 : decode cX6_starTold 23 = .ok (.aload_n 0, 1) := by decide +kernel
theorem dX6_starTold_24 : decode cX6_starTold 24 = .ok (.iload_n 1, 1) := by decide +kernel
theorem dX6_starTold_25 : decode cX6_starTold 25 = .ok (.invokevirtual 95, 3) := by decide +kernel
theorem dX6_starTold_28 : decode cX6_starTold 28 = .ok (.goto 30, 3) := by decide +kernel
theorem dX6_starTold_31 : decode cX6_starTold 31 = .ok (.aload_n 0, 1) := by decide +kernel
theorem dX6_starTold_32 : decode cX6_starTold 32 = .ok (.aload_n 0, 1) := by decide +kernel
theorem dX6_starTold_33 : decode cX6_starTold 33 = .ok (.iload_n 1, 1) := by decide +kernel
theorem dX6_starTold_34 : decode cX6_starTold 34 = .ok (.invokevirtual 95, 3) := by decide +kernel
theorem dX6_starTold_37 : decode cX6_starTold 37 = .ok (.aload_n 0, 1) := by decide +kernel
theorem dX6_starTold_38 : decode cX6_starTold 38 = .ok (.getfield 13, 3) := by decide +kernel
theorem dX6_starTold_41 : decode cX6_starTold 41 = .ok (.iconst 2, 1) := by decide +kernel
theorem dX6_starTold_42 : decode cX6_starTold 42 = .ok (.iload_n 1, 1) := by decide +kernel
theorem dX6_starTold_43 : decode cX6_starTold 43 = .ok (.imul, 1) := by decide +kernel
theorem dX6_starTold_44 : decode cX6_starTold 44 = .ok (.iconst 1, 1) := by decide +kernel
theorem dX6_starTold_45 : decode cX6_starTold 45 = .ok (.iadd, 1) := by decide +kernel
theorem dX6_starTold_46 : decode cX6_starTold 46 = .ok (.iaload, 1) := by decide +kernel
theorem dX6_starTold_47 : decode cX6_starTold 47 = .ok (.invokevirtual 98, 3) := by decide +kernel
theorem dX6_starTold_50 : decode cX6_starTold 50 = .ok (.ifCond .eq 7, 3) := by decide +kernel
theorem dX6_starTold_53 : decode cX6_starTold 53 = .ok (.iconst 1, 1) := by decide +kernel
theorem dX6_starTold_54 : decode cX6_starTold 54 = .ok (.goto 4, 3) := by decide +kernel
theorem dX6_starTold_57 : decode cX6_starTold 57 = .ok (.iconst 0, 1) := by decide +kernel
theorem dX6_starTold_58 : decode cX6_starTold 58 = .ok (.ireturn, 1) := by decide +kernel
set_option maxRecDepth 20000 in
theorem ggX6_about_X6_isIn : GoodIn wsX6_about wsX6_isIn := goodIn_r _ [6] (by decide +kernel) (by decide +kernel)
set_option maxRecDepth 20000 in
theorem gX6_about_X6_isIn : GoodIn wsX6_about (va_wsS RX6 32 yX6_isIn wsX6_isIn) := goodIn_app (goodIn_of _ (by decide +kernel)) ggX6_about_X6_isIn
set_option maxRecDepth 20000 in
theorem ggX6_about_X6_starTold : GoodIn wsX6_about wsX6_starTold := goodIn_r _ [10, 11, 12, 13, 14, 5, 15, 16, 17, 18, 19, 20, 21, 22, 23, 24, 25, 26, 27, 28, 29, 30, 35, 36, 37, 38, 39, 40, 41, 42, 43] (by decide +kernel) (by decide +kernel)
set_option maxRecDepth 20000 in
theorem gX6_about_X6_starTold : GoodIn wsX6_about (wsV RX6 102 RX6 yX6_starTold wsX6_starTold) := goodIn_app (goodIn_of _ (by decide +kernel)) ggX6_about_X6_starTold
set_option maxRecDepth 20000 in
theorem ggX6_about_X6_fail : GoodIn wsX6_about wsX6_fail := goodIn_r _ [34, 1, 35, 36, 37, 38, 39, 40, 41, 42, 43] (by decide +kernel) (by decide +kernel)
set_option maxRecDepth 20000 in
theorem gX6_about_X6_fail : GoodIn wsX6_about (wsV RX6 36 RX6 yX6_fail wsX6_fail) := goodIn_app (goodIn_of _ (by decide +kernel)) ggX6_about_X6_fail
theorem dX6_about_0 : decode cX6_about 0 = .ok (.aload_n 0, 1) := by decide +kernel
theorem dX6_about_1 : decode cX6_about 1 = .ok (.iconst 0, 1) := by decide +kernel
theorem dX6_about_2 : decode cX6_about 2 = .ok (.putfield 25, 3) := by decide +kernel
theorem dX6_about_5 : decode cX6_about 5 = .ok (.iload_n 1, 1) := by decide +kernel
theorem dX6_about_6 : decode cX6_about 6 = .ok (.iconst 0, 1) := by decide +kernel
theorem dX6_about_7 : decode cX6_about 7 = .ok (.aload_n 0, 1) := by decide +kernel
theorem dX6_about_8 : decode cX6_about 8 = .ok (.getfield 58, 3) := by decide +kernel
theorem dX6_about_11 : decode cX6_about 11 = .ok (.iconst 1, 1) := by decide +kernel
theorem dX6_about_12 : decode cX6_about 12 = .ok (.isub, 1) := by decide +kernel
theorem dX6_about_13 : decode cX6_about 13 = .ok (.invokestatic 32, 3) := by decide +kernel
theorem dX6_about_16 : decode cX6_about 16 = .ok (.ifCond .eq 21, 3) := by decide +kernel
theorem dX6_about_19 : decode cX6_about 19 = .ok (.iload_n 2, 1) := by decide +kernel
theorem dX6_about_20 : decode cX6_about 20 = .ok (.iconst 0, 1) := by decide +kernel
theorem dX6_about_21 : decode cX6_about 21 = .ok (.iconst 3, 1) := by decide +kernel
theorem dX6_about_22 : decode cX6_about 22 = .ok (.invokestatic 32, 3) := by decide +kernel
theorem dX6_about_25 : decode cX6_about 25 = .ok (.ifCond .eq 12, 3) := by decide +kernel
theorem dX6_about_28 : decode cX6_about 28 = .ok (.aload_n 0, 1) := by decide +kernel
theorem dX6_about_29 : decode cX6_about 29 = .ok (.iload_n 1, 1) := by decide +kernel
theorem dX6_about_30 : decode cX6_about 30 = .ok (.iload_n 2, 1) := by decide +kernel
theorem dX6_about_31 : decode cX6_about 31 = .ok (.invokevirtual 102, 3) := by decide +kernel
theorem dX6_about_34 : decode cX6_about 34 = .ok (.goto 8, 3) := by decide +kernel
theorem dX6_about_37 : decode cX6_about 37 = .ok (.aload_n 0, 1) := by decide +kernel
theorem dX6_about_38 : decode cX6_about 38 = .ok (.iconst 1, 1) := by decide +kernel
theorem dX6_about_39 : decode cX6_about 39 = .ok (.invokevirtual 36, 3) := by decide +kernel
theorem dX6_about_42 : decode cX6_about 42 = .ok (.ireturn, 1) := by decide +kernel
set_option maxRecDepth 20000 in
theorem ggX6_cometTold_X6_isSeen : GoodIn wsX6_cometTold wsX6_isSeen := goodIn_r _ [6, 7, 8, 9, 5, 10, 11, 12, 13, 14, 15, 16, 17, 18, 19, 20, 21, 22, 23, 24, 25] (by decide +kernel) (by decide +kernel)
set_option maxRecDepth 20000 in
theorem gX6_cometTold_X6_isSeen : GoodIn wsX6_cometTold (wsV RX6 98 RX6 yX6_isSeen wsX6_isSeen) := goodIn_app (goodIn_of _ (by decide +kernel)) ggX6_cometTold_X6_isSeen
theorem dX6_cometTold_0 : decode cX6_cometTold 0 = .ok (.iload_n 2, 1) := by decide +kernel
theorem dX6_cometTold_1 : decode cX6_cometTold 1 = .ok (.iconst 3, 1) := by decide +kernel
theorem dX6_cometTold_2 : decode cX6_cometTold 2 = .ok (.if_icmp .ge 16, 3) := by decide +kernel
theorem dX6_cometTold_5 : decode cX6_cometTold 5 = .ok (.aload_n 0, 1) := by decide +kernel
theorem dX6_cometTold_6 : decode cX6_cometTold 6 = .ok (.getfield 16, 3) := by decide +kernel
theorem dX6_cometTold_9 : decode cX6_cometTold 9 = .ok (.iconst 3, 1) := by decide +kernel
theorem dX6_cometTold_10 : decode cX6_cometTold 10 = .ok (.iload_n 1, 1) := by decide +kernel
theorem dX6_cometTold_11 : decode cX6_cometTold 11 = .ok (.imul, 1) := by decide +kernel
theorem dX6_cometTold_12 : decode cX6_cometTold 12 = .ok (.iload_n 2, 1) := by decide +kernel
theorem dX6_cometTold_13 : decode cX6_cometTold 13 = .ok (.iadd, 1) := by decide +kernel
theorem dX6_cometTold_14 : decode cX6_cometTold 14 = .ok (.iaload, 1) := by decide +kernel
theorem dX6_cometTold_15 : decode cX6_cometTold 15 = .ok (.goto 40, 3) := by decide +kernel
theorem dX6_cometTold_18 : decode cX6_cometTold 18 = .ok (.aload_n 0, 1) := by decide +kernel
theorem dX6_cometTold_19 : decode cX6_cometTold 19 = .ok (.getfield 16, 3) := by decide +kernel
theorem dX6_cometTold_22 : decode cX6_cometTold 22 = .ok (.iconst 3, 1) := by decide +kernel
theorem dX6_cometTold_23 : decode cX6_cometTold 23 = .ok (.iload_n 1, 1) := by decide +kernel
theorem dX6_cometTold_24 : decode cX6_cometTold 24 = .ok (.imul, 1) := by decide +kernel
theorem dX6_cometTold_25 : decode cX6_cometTold 25 = .ok (.iconst 2, 1) := by decide +kernel
theorem dX6_cometTold_26 : decode cX6_cometTold 26 = .ok (.iadd, 1) := by decide +kernel
theorem dX6_cometTold_27 : decode cX6_cometTold 27 = .ok (.iaload, 1) := by decide +kernel
theorem dX6_cometTold_28 : decode cX6_cometTold 28 = .ok (.ifCond .le 26, 3) := by decide +kernel
theorem dX6_cometTold_31 : decode cX6_cometTold 31 = .ok (.aload_n 0, 1) := by decide +kernel
theorem dX6_cometTold_32 : decode cX6_cometTold 32 = .ok (.aload_n 0, 1) := by decide +kernel
theorem dX6_cometTold_33 : decode cX6_cometTold 33 = .ok (.getfield 16, 3) := by decide +kernel
theorem dX6_cometTold_36 : decode cX6_cometTold 36 = .ok (.iconst 3, 1) := by decide +kernel
theorem dX6_cometTold_37 : decode cX6_cometTold 37 = .ok (.iload_n 1, 1) := by decide +kernel
theorem dX6_cometTold_38 : decode cX6_cometTold 38 = .ok (.imul, 1) := by decide +kernel
theorem dX6_cometTold_39 : decode cX6_cometTold 39 = .ok (.iconst 0, 1) := by decide +kernel
theorem dX6_cometTold_40 : decode cX6_cometTold 40 = .ok (.iadd, 1) := by decide +kernel
theorem dX6_cometTold_41 : decode cX6_cometTold 41 = .ok (.iaload, 1) := by decide +kernel
theorem dX6_cometTold_42 : decode cX6_cometTold 42 = .ok (.bipush 6, 2) := by decide +kernel
theorem dX6_cometTold_44 : decode cX6_cometTold 44 = .ok (.invokevirtual 98, 3) := by decide +kernel
theorem dX6_cometTold_47 : decode cX6_cometTold 47 = .ok (.ifCond .eq 7, 3) := by decide +kernel
theorem dX6_cometTold_50 : decode cX6_cometTold 50 = .ok (.iconst 1, 1) := by decide +kernel
theorem dX6_cometTold_51 : decode cX6_cometTold 51 = .ok (.goto 4, 3) := by decide +kernel
theorem dX6_cometTold_54 : decode cX6_cometTold 54 = .ok (.iconst 0, 1) := by decide +kernel
theorem dX6_cometTold_55 : decode cX6_cometTold 55 = .ok (.ireturn, 1) := by decide +kernel
set_option maxRecDepth 20000 in
theorem ggX6_comet_X6_isIn : GoodIn wsX6_comet wsX6_isIn := goodIn_r _ [6] (by decide +kernel) (by decide +kernel)
set_option maxRecDepth 20000 in
theorem gX6_comet_X6_isIn : GoodIn wsX6_comet (va_wsS RX6 32 yX6_isIn wsX6_isIn) := goodIn_app (goodIn_of _ (by decide +kernel)) ggX6_comet_X6_isIn
set_option maxRecDepth 20000 in
theorem ggX6_comet_X6_cometTold : GoodIn wsX6_comet wsX6_cometTold := goodIn_r _ [10, 11, 12, 13, 14, 5, 15, 16, 17, 18, 19, 20, 21, 22, 23, 24, 25, 30, 31, 32, 33, 34, 35, 36, 37, 38] (by decide +kernel) (by decide +kernel)
set_option maxRecDepth 20000 in
theorem gX6_comet_X6_cometTold : GoodIn wsX6_comet (wsV RX6 105 RX6 yX6_cometTold wsX6_cometTold) := goodIn_app (goodIn_of _ (by decide +kernel)) ggX6_comet_X6_cometTold
set_option maxRecDepth 20000 in
theorem ggX6_comet_X6_fail : GoodIn wsX6_comet wsX6_fail := goodIn_r _ [29, 1, 30, 31, 32, 33, 34, 35, 36, 37, 38] (by decide +kernel) (by decide +kernel)
set_option maxRecDepth 20000 in
theorem gX6_comet_X6_fail : GoodIn wsX6_comet (wsV RX6 36 RX6 yX6_fail wsX6_fail) := goodIn_app (goodIn_of _ (by decide +kernel)) ggX6_comet_X6_fail
theorem dX6_comet_0 : decode cX6_comet 0 = .ok (.aload_n 0, 1) := by decide +kernel
theorem dX6_comet_1 : decode cX6_comet 1 = .ok (.iconst 0, 1) := by decide +kernel
theorem dX6_comet_2 : decode cX6_comet 2 = .ok (.putfield 25, 3) := by decide +kernel
theorem dX6_comet_5 : decode cX6_comet 5 = .ok (.iload_n 1, 1) := by decide +kernel
theorem dX6_comet_6 : decode cX6_comet 6 = .ok (.iconst 0, 1) := by decide +kernel
theorem dX6_comet_7 : decode cX6_comet 7 = .ok (.aload_n 0, 1) := by decide +kernel
theorem dX6_comet_8 : decode cX6_comet 8 = .ok (.getfield 22, 3) := by decide +kernel
theorem dX6_comet_11 : decode cX6_comet 11 = .ok (.bipush 7, 2) := by decide +kernel
theorem dX6_comet_13 : decode cX6_comet 13 = .ok (.iaload, 1) := by decide +kernel
theorem dX6_comet_14 : decode cX6_comet 14 = .ok (.iconst 1, 1) := by decide +kernel
theorem dX6_comet_15 : decode cX6_comet 15 = .ok (.isub, 1) := by decide +kernel
theorem dX6_comet_16 : decode cX6_comet 16 = .ok (.invokestatic 32, 3) := by decide +kernel
theorem dX6_comet_19 : decode cX6_comet 19 = .ok (.ifCond .eq 21, 3) := by decide +kernel
theorem dX6_comet_22 : decode cX6_comet 22 = .ok (.iload_n 2, 1) := by decide +kernel
theorem dX6_comet_23 : decode cX6_comet 23 = .ok (.iconst 0, 1) := by decide +kernel
theorem dX6_comet_24 : decode cX6_comet 24 = .ok (.iconst 3, 1) := by decide +kernel
theorem dX6_comet_25 : decode cX6_comet 25 = .ok (.invokestatic 32, 3) := by decide +kernel
theorem dX6_comet_28 : decode cX6_comet 28 = .ok (.ifCond .eq 12, 3) := by decide +kernel
theorem dX6_comet_31 : decode cX6_comet 31 = .ok (.aload_n 0, 1) := by decide +kernel
theorem dX6_comet_32 : decode cX6_comet 32 = .ok (.iload_n 1, 1) := by decide +kernel
theorem dX6_comet_33 : decode cX6_comet 33 = .ok (.iload_n 2, 1) := by decide +kernel
theorem dX6_comet_34 : decode cX6_comet 34 = .ok (.invokevirtual 105, 3) := by decide +kernel
theorem dX6_comet_37 : decode cX6_comet 37 = .ok (.goto 8, 3) := by decide +kernel
theorem dX6_comet_40 : decode cX6_comet 40 = .ok (.aload_n 0, 1) := by decide +kernel
theorem dX6_comet_41 : decode cX6_comet 41 = .ok (.iconst 1, 1) := by decide +kernel
theorem dX6_comet_42 : decode cX6_comet 42 = .ok (.invokevirtual 36, 3) := by decide +kernel
theorem dX6_comet_45 : decode cX6_comet 45 = .ok (.ireturn, 1) := by decide +kernel
set_option maxRecDepth 20000 in
theorem ggX6_counted_X6_starTold : GoodIn wsX6_counted wsX6_starTold := goodIn_r _ [9, 10, 11, 12, 13, 8, 14, 1, 15, 16, 17, 18, 19, 20, 21, 22, 2, 23, 24, 25, 26, 27, 33, 34, 35, 36, 37, 38, 39, 40, 41] (by decide +kernel) (by decide +kernel)
set_option maxRecDepth 20000 in
theorem gX6_counted_X6_starTold : GoodIn wsX6_counted (wsV RX6 102 RX6 yX6_starTold wsX6_starTold) := goodIn_app (goodIn_of _ (by decide +kernel)) ggX6_counted_X6_starTold
set_option maxRecDepth 20000 in
theorem ggX6_counted_X6_cometTold : GoodIn wsX6_counted wsX6_cometTold := goodIn_r _ [31, 32, 15, 16, 17, 8, 18, 19, 20, 21, 22, 2, 23, 24, 25, 26, 27, 33, 34, 35, 36, 37, 38, 39, 40, 41] (by decide +kernel) (by decide +kernel)
set_option maxRecDepth 20000 in
theorem gX6_counted_X6_cometTold : GoodIn wsX6_counted (wsV RX6 105 RX6 yX6_cometTold wsX6_cometTold) := goodIn_app (goodIn_of _ (by decide +kernel)) ggX6_counted_X6_cometTold
theorem dX6_counted_0 : decode cX6_counted 0 = .ok (.iconst 0, 1) := by decide +kernel
theorem dX6_counted_1 : decode cX6_counted 1 = .ok (.istore_n 2, 1) := by decide +kernel
theorem dX6_counted_2 : decode cX6_counted 2 = .ok (.iload_n 1, 1) := by decide +kernel
theorem dX6_counted_3 : decode cX6_counted 3 = .ok (.tableswitch 150 0 8 #[49, 56, 63, 70, 75, 80, 88, 93, 120], 49) := by decide +kernel
theorem dX6_counted_52 : decode cX6_counted 52 = .ok (.aload_n 0, 1) := by decide +kernel
theorem dX6_counted_53 : decode cX6_counted 53 = .ok (.getfield 22, 3) := by decide +kernel
theorem dX6_counted_56 : decode cX6_counted 56 = .ok (.iconst 0, 1) := by decide +kernel
theorem dX6_counted_57 : decode cX6_counted 57 = .ok (.iaload, 1) := by decide +kernel
theorem dX6_counted_58 : decode cX6_counted 58 = .ok (.ireturn, 1) := by decide +kernel
theorem dX6_counted_59 : decode cX6_counted 59 = .ok (.aload_n 0, 1) := by decide +kernel
theorem dX6_counted_60 : decode cX6_counted 60 = .ok (.getfield 22, 3) := by decide +kernel
theorem dX6_counted_63 : decode cX6_counted 63 = .ok (.iconst 1, 1) := by decide +kernel
theorem dX6_counted_64 : decode cX6_counted 64 = .ok (.iaload, 1) := by decide +kernel
theorem dX6_counted_65 : decode cX6_counted 65 = .ok (.ireturn, 1) := by decide +kernel
theorem dX6_counted_66 : decode cX6_counted 66 = .ok (.aload_n 0, 1) := by decide +kernel
theorem dX6_counted_67 : decode cX6_counted 67 = .ok (.getfield 22, 3) := by decide +kernel
theorem dX6_counted_70 : decode cX6_counted 70 = .ok (.iconst 2, 1) := by decide +kernel
theorem dX6_counted_71 : decode cX6_counted 71 = .ok (.iaload, 1) := by decide +kernel
theorem dX6_counted_72 : decode cX6_counted 72 = .ok (.ireturn, 1) := by decide +kernel
theorem dX6_counted_73 : decode cX6_counted 73 = .ok (.aload_n 0, 1) := by decide +kernel
theorem dX6_counted_74 : decode cX6_counted 74 = .ok (.getfield 29, 3) := by decide +kernel
theorem dX6_counted_77 : decode cX6_counted 77 = .ok (.ireturn, 1) := by decide +kernel
theorem dX6_counted_78 : decode cX6_counted 78 = .ok (.aload_n 0, 1) := by decide +kernel
theorem dX6_counted_79 : decode cX6_counted 79 = .ok (.getfield 58, 3) := by decide +kernel
theorem dX6_counted_82 : decode cX6_counted 82 = .ok (.ireturn, 1) := by decide +kernel
theorem dX6_counted_83 : decode cX6_counted 83 = .ok (.aload_n 0, 1) := by decide +kernel
theorem dX6_counted_84 : decode cX6_counted 84 = .ok (.getfield 22, 3) := by decide +kernel
theorem dX6_counted_87 : decode cX6_counted 87 = .ok (.bipush 7, 2) := by decide +kernel
theorem dX6_counted_89 : decode cX6_counted 89 = .ok (.iaload, 1) := by decide +kernel
theorem dX6_counted_90 : decode cX6_counted 90 = .ok (.ireturn, 1) := by decide +kernel
theorem dX6_counted_91 : decode cX6_counted 91 = .ok (.aload_n 0, 1) := by decide +kernel
theorem dX6_counted_92 : decode cX6_counted 92 = .ok (.getfield 64, 3) := by decide +kernel
theorem dX6_counted_95 : decode cX6_counted 95 = .ok (.ireturn, 1) := by decide +kernel
theorem dX6_counted_96 : decode cX6_counted 96 = .ok (.iconst 0, 1) := by decide +kernel
theorem dX6_counted_97 : decode cX6_counted 97 = .ok (.istore_n 3, 1) := by decide +kernel
theorem dX6_counted_98 : decode cX6_counted 98 = .ok (.iload_n 3, 1) := by decide +kernel
theorem dX6_counted_99 : decode cX6_counted 99 = .ok (.aload_n 0, 1) := by decide +kernel
theorem dX6_counted_100 : decode cX6_counted 100 = .ok (.getfield 58, 3) := by decide +kernel
theorem dX6_counted_103 : decode cX6_counted 103 = .ok (.if_icmp .ge 18, 3) := by decide +kernel
theorem dX6_counted_106 : decode cX6_counted 106 = .ok (.iload_n 2, 1) := by decide +kernel
theorem dX6_counted_107 : decode cX6_counted 107 = .ok (.aload_n 0, 1) := by decide +kernel
theorem dX6_counted_108 : decode cX6_counted 108 = .ok (.iload_n 3, 1) := by decide +kernel
theorem dX6_counted_109 : decode cX6_counted 109 = .ok (.iconst 3, 1) := by decide +kernel
theorem dX6_counted_110 : decode cX6_counted 110 = .ok (.invokevirtual 102, 3) := by decide +kernel
theorem dX6_counted_113 : decode cX6_counted 113 = .ok (.iadd, 1) := by decide +kernel
theorem dX6_counted_114 : decode cX6_counted 114 = .ok (.istore_n 2, 1) := by decide +kernel
theorem dX6_counted_115 : decode cX6_counted 115 = .ok (.iinc 3 1, 3) := by decide +kernel
theorem dX6_counted_118 : decode cX6_counted 118 = .ok (.goto (-20), 3) := by decide +kernel
theorem dX6_counted_121 : decode cX6_counted 121 = .ok (.iload_n 2, 1) := by decide +kernel
theorem dX6_counted_122 : decode cX6_counted 122 = .ok (.ireturn, 1) := by decide +kernel
theorem dX6_counted_123 : decode cX6_counted 123 = .ok (.iconst 0, 1) := by decide +kernel
theorem dX6_counted_124 : decode cX6_counted 124 = .ok (.istore_n 3, 1) := by decide +kernel
theorem dX6_counted_125 : decode cX6_counted 125 = .ok (.iload_n 3, 1) := by decide +kernel
theorem dX6_counted_126 : decode cX6_counted 126 = .ok (.aload_n 0, 1) := by decide +kernel
theorem dX6_counted_127 : decode cX6_counted 127 = .ok (.getfield 22, 3) := by decide +kernel
theorem dX6_counted_130 : decode cX6_counted 130 = .ok (.bipush 7, 2) := by decide +kernel
theorem dX6_counted_132 : decode cX6_counted 132 = .ok (.iaload, 1) := by decide +kernel
theorem dX6_counted_133 : decode cX6_counted 133 = .ok (.if_icmp .ge 18, 3) := by decide +kernel
theorem dX6_counted_136 : decode cX6_counted 136 = .ok (.iload_n 2, 1) := by decide +kernel
theorem dX6_counted_137 : decode cX6_counted 137 = .ok (.aload_n 0, 1) := by decide +kernel
theorem dX6_counted_138 : decode cX6_counted 138 = .ok (.iload_n 3, 1) := by decide +kernel
theorem dX6_counted_139 : decode cX6_counted 139 = .ok (.iconst 3, 1) := by decide +kernel
theorem dX6_counted_140 : decode cX6_counted 140 = .ok (.invokevirtual 105, 3) := by decide +kernel
theorem dX6_counted_143 : decode cX6_counted 143 = .ok (.iadd, 1) := by decide +kernel
theorem dX6_counted_144 : decode cX6_counted 144 = .ok (.istore_n 2, 1) := by decide +kernel
theorem dX6_counted_145 : decode cX6_counted 145 = .ok (.iinc 3 1, 3) := by decide +kernel
theorem dX6_counted_148 : decode cX6_counted 148 = .ok (.goto (-23), 3) := by decide +kernel
theorem dX6_counted_151 : decode cX6_counted 151 = .ok (.iload_n 2, 1) := by decide +kernel
theorem dX6_counted_152 : decode cX6_counted 152 = .ok (.ireturn, 1) := by decide +kernel
theorem dX6_counted_153 : decode cX6_counted 153 = .ok (.aload_n 0, 1) := by decide +kernel
theorem dX6_counted_154 : decode cX6_counted 154 = .ok (.getfield 22, 3) := by decide +kernel
theorem dX6_counted_157 : decode cX6_counted 157 = .ok (.iload_n 1, 1) := by decide +kernel
theorem dX6_counted_158 : decode cX6_counted 158 = .ok (.bipush 6, 2) := by decide +kernel
theorem dX6_counted_160 : decode cX6_counted 160 = .ok (.isub, 1) := by decide +kernel
theorem dX6_counted_161 : decode cX6_counted 161 = .ok (.iaload, 1) := by decide +kernel
theorem dX6_counted_162 : decode cX6_counted 162 = .ok (.ireturn, 1) := by decide +kernel
set_option maxRecDepth 20000 in
theorem ggX6_count_X6_isIn : GoodIn wsX6_count wsX6_isIn := goodIn_r _ [5] (by decide +kernel) (by decide +kernel)
set_option maxRecDepth 20000 in
theorem gX6_count_X6_isIn : GoodIn wsX6_count (va_wsS RX6 32 yX6_isIn wsX6_isIn) := goodIn_app (goodIn_of _ (by decide +kernel)) ggX6_count_X6_isIn
set_option maxRecDepth 20000 in
theorem ggX6_count_X6_counted : GoodIn wsX6_count wsX6_counted := goodIn_r _ [9, 10, 11, 12, 13, 14, 15, 16, 4, 17, 18, 19, 20, 21, 22, 23, 24, 25, 26, 27, 28, 29, 30, 31, 32, 33, 34, 35, 36, 37, 38, 39, 40, 45, 46, 47, 48, 49, 50, 51, 52, 53] (by decide +kernel) (by decide +kernel)
set_option maxRecDepth 20000 in
theorem gX6_count_X6_counted : GoodIn wsX6_count (wsV RX6 108 RX6 yX6_counted wsX6_counted) := goodIn_app (goodIn_of _ (by decide +kernel)) ggX6_count_X6_counted
set_option maxRecDepth 20000 in
theorem ggX6_count_X6_fail : GoodIn wsX6_count wsX6_fail := goodIn_r _ [44, 1, 45, 46, 47, 48, 49, 50, 51, 52, 53] (by decide +kernel) (by decide +kernel)
set_option maxRecDepth 20000 in
theorem gX6_count_X6_fail : GoodIn wsX6_count (wsV RX6 36 RX6 yX6_fail wsX6_fail) := goodIn_app (goodIn_of _ (by decide +kernel)) ggX6_count_X6_fail
theorem dX6_count_0 : decode cX6_count 0 = .ok (.aload_n 0, 1) := by decide +kernel
theorem dX6_count_1 : decode cX6_count 1 = .ok (.iconst 0, 1) := by decide +kernel
theorem dX6_count_2 : decode cX6_count 2 = .ok (.putfield 25, 3) := by decide +kernel
theorem dX6_count_5 : decode cX6_count 5 = .ok (.iload_n 1, 1) := by decide +kernel
theorem dX6_count_6 : decode cX6_count 6 = .ok (.iconst 0, 1) := by decide +kernel
theorem dX6_count_7 : decode cX6_count 7 = .ok (.bipush 12, 2) := by decide +kernel
theorem dX6_count_9 : decode cX6_count 9 = .ok (.invokestatic 32, 3) := by decide +kernel
theorem dX6_count_12 : decode cX6_count 12 = .ok (.ifCond .eq 11, 3) := by decide +kernel
theorem dX6_count_15 : decode cX6_count 15 = .ok (.aload_n 0, 1) := by decide +kernel
theorem dX6_count_16 : decode cX6_count 16 = .ok (.iload_n 1, 1) := by decide +kernel
theorem dX6_count_17 : decode cX6_count 17 = .ok (.invokevirtual 108, 3) := by decide +kernel
theorem dX6_count_20 : decode cX6_count 20 = .ok (.goto 8, 3) := by decide +kernel
theorem dX6_count_23 : decode cX6_count 23 = .ok (.aload_n 0, 1) := by decide +kernel
theorem dX6_count_24 : decode cX6_count 24 = .ok (.iconst 1, 1) := by decide +kernel
theorem dX6_count_25 : decode cX6_count 25 = .ok (.invokevirtual 36, 3) := by decide +kernel
theorem dX6_count_28 : decode cX6_count 28 = .ok (.ireturn, 1) := by decide +kernel
theorem dX6_next_0 : decode cX6_next 0 = .ok (.aload_n 0, 1) := by decide +kernel
theorem dX6_next_1 : decode cX6_next 1 = .ok (.iconst 0, 1) := by decide +kernel
theorem dX6_next_2 : decode cX6_next 2 = .ok (.putfield 25, 3) := by decide +kernel
theorem dX6_next_5 : decode cX6_next 5 = .ok (.iconst (-1), 1) := by decide +kernel
theorem dX6_next_6 : decode cX6_next 6 = .ok (.istore_n 1, 1) := by decide +kernel
theorem dX6_next_7 : decode cX6_next 7 = .ok (.iconst 0, 1) := by decide +kernel
theorem dX6_next_8 : decode cX6_next 8 = .ok (.istore_n 2, 1) := by decide +kernel
theorem dX6_next_9 : decode cX6_next 9 = .ok (.iload_n 2, 1) := by decide +kernel
theorem dX6_next_10 : decode cX6_next 10 = .ok (.aload_n 0, 1) := by decide +kernel
theorem dX6_next_11 : decode cX6_next 11 = .ok (.getfield 64, 3) := by decide +kernel
theorem dX6_next_14 : decode cX6_next 14 = .ok (.if_icmp .ge 58, 3) := by decide +kernel
theorem dX6_next_17 : decode cX6_next 17 = .ok (.aload_n 0, 1) := by decide +kernel
theorem dX6_next_18 : decode cX6_next 18 = .ok (.getfield 19, 3) := by decide +kernel
theorem dX6_next_21 : decode cX6_next 21 = .ok (.iconst 4, 1) := by decide +kernel
theorem dX6_next_22 : decode cX6_next 22 = .ok (.iload_n 2, 1) := by decide +kernel
theorem dX6_next_23 : decode cX6_next 23 = .ok (.imul, 1) := by decide +kernel
theorem dX6_next_24 : decode cX6_next 24 = .ok (.iconst 0, 1) := by decide +kernel
theorem dX6_next_25 : decode cX6_next 25 = .ok (.iadd, 1) := by decide +kernel
theorem dX6_next_26 : decode cX6_next 26 = .ok (.iaload, 1) := by decide +kernel
theorem dX6_next_27 : decode cX6_next 27 = .ok (.aload_n 0, 1) := by decide +kernel
theorem dX6_next_28 : decode cX6_next 28 = .ok (.getfield 22, 3) := by decide +kernel
theorem dX6_next_31 : decode cX6_next 31 = .ok (.iconst 1, 1) := by decide +kernel
theorem dX6_next_32 : decode cX6_next 32 = .ok (.iaload, 1) := by decide +kernel
theorem dX6_next_33 : decode cX6_next 33 = .ok (.if_icmp .lt 33, 3) := by decide +kernel
theorem dX6_next_36 : decode cX6_next 36 = .ok (.iload_n 1, 1) := by decide +kernel
theorem dX6_next_37 : decode cX6_next 37 = .ok (.iconst (-1), 1) := by decide +kernel
theorem dX6_next_38 : decode cX6_next 38 = .ok (.if_icmp .eq 26, 3) := by decide +kernel
theorem dX6_next_41 : decode cX6_next 41 = .ok (.aload_n 0, 1) := by decide +kernel
theorem dX6_next_42 : decode cX6_next 42 = .ok (.getfield 19, 3) := by decide +kernel
theorem dX6_next_45 : decode cX6_next 45 = .ok (.iconst 4, 1) := by decide +kernel
theorem dX6_next_46 : decode cX6_next 46 = .ok (.iload_n 2, 1) := by decide +kernel
theorem dX6_next_47 : decode cX6_next 47 = .ok (.imul, 1) := by decide +kernel
theorem dX6_next_48 : decode cX6_next 48 = .ok (.iconst 0, 1) := by decide +kernel
theorem dX6_next_49 : decode cX6_next 49 = .ok (.iadd, 1) := by decide +kernel
theorem dX6_next_50 : decode cX6_next 50 = .ok (.iaload, 1) := by decide +kernel
theorem dX6_next_51 : decode cX6_next 51 = .ok (.aload_n 0, 1) := by decide +kernel
theorem dX6_next_52 : decode cX6_next 52 = .ok (.getfield 19, 3) := by decide +kernel
theorem dX6_next_55 : decode cX6_next 55 = .ok (.iconst 4, 1) := by decide +kernel
theorem dX6_next_56 : decode cX6_next 56 = .ok (.iload_n 1, 1) := by decide +kernel
theorem dX6_next_57 : decode cX6_next 57 = .ok (.imul, 1) := by decide +kernel
theorem dX6_next_58 : decode cX6_next 58 = .ok (.iconst 0, 1) := by decide +kernel
theorem dX6_next_59 : decode cX6_next 59 = .ok (.iadd, 1) := by decide +kernel
theorem dX6_next_60 : decode cX6_next 60 = .ok (.iaload, 1) := by decide +kernel
theorem dX6_next_61 : decode cX6_next 61 = .ok (.if_icmp .ge 5, 3) := by decide +kernel
theorem dX6_next_64 : decode cX6_next 64 = .ok (.iload_n 2, 1) := by decide +kernel
theorem dX6_next_65 : decode cX6_next 65 = .ok (.istore_n 1, 1) := by decide +kernel
theorem dX6_next_66 : decode cX6_next 66 = .ok (.iinc 2 1, 3) := by decide +kernel
theorem dX6_next_69 : decode cX6_next 69 = .ok (.goto (-60), 3) := by decide +kernel
theorem dX6_next_72 : decode cX6_next 72 = .ok (.iload_n 1, 1) := by decide +kernel
theorem dX6_next_73 : decode cX6_next 73 = .ok (.ireturn, 1) := by decide +kernel
set_option maxRecDepth 20000 in
theorem ggX6_when_X6_isIn : GoodIn wsX6_when wsX6_isIn := goodIn_r _ [8] (by decide +kernel) (by decide +kernel)
set_option maxRecDepth 20000 in
theorem gX6_when_X6_isIn : GoodIn wsX6_when (va_wsS RX6 32 yX6_isIn wsX6_isIn) := goodIn_app (goodIn_of _ (by decide +kernel)) ggX6_when_X6_isIn
set_option maxRecDepth 20000 in
theorem ggX6_when_X6_fail : GoodIn wsX6_when wsX6_fail := goodIn_r _ [12, 1, 13, 14, 15, 16, 17, 18, 19, 20, 21] (by decide +kernel) (by decide +kernel)
set_option maxRecDepth 20000 in
theorem gX6_when_X6_fail : GoodIn wsX6_when (wsV RX6 36 RX6 yX6_fail wsX6_fail) := goodIn_app (goodIn_of _ (by decide +kernel)) ggX6_when_X6_fail
theorem dX6_when_0 : decode cX6_when 0 = .ok (.aload_n 0, 1) := by decide +kernel
theorem dX6_when_1 : decode cX6_when 1 = .ok (.iconst 0, 1) := by decide +kernel
theorem dX6_when_2 : decode cX6_when 2 = .ok (.putfield 25, 3) := by decide +kernel
theorem dX6_when_5 : decode cX6_when 5 = .ok (.iload_n 1, 1) := by decide +kernel
theorem dX6_when_6 : decode cX6_when 6 = .ok (.iconst 0, 1) := by decide +kernel
theorem dX6_when_7 : decode cX6_when 7 = .ok (.aload_n 0, 1) := by decide +kernel
theorem dX6_when_8 : decode cX6_when 8 = .ok (.getfield 64, 3) := by decide +kernel
theorem dX6_when_11 : decode cX6_when 11 = .ok (.iconst 1, 1) := by decide +kernel
theorem dX6_when_12 : decode cX6_when 12 = .ok (.isub, 1) := by decide +kernel
theorem dX6_when_13 : decode cX6_when 13 = .ok (.invokestatic 32, 3) := by decide +kernel
theorem dX6_when_16 : decode cX6_when 16 = .ok (.ifCond .ne 9, 3) := by decide +kernel
theorem dX6_when_19 : decode cX6_when 19 = .ok (.aload_n 0, 1) := by decide +kernel
theorem dX6_when_20 : decode cX6_when 20 = .ok (.iconst 1, 1) := by decide +kernel
theorem dX6_when_21 : decode cX6_when 21 = .ok (.invokevirtual 36, 3) := by decide +kernel
theorem dX6_when_24 : decode cX6_when 24 = .ok (.ireturn, 1) := by decide +kernel
theorem dX6_when_25 : decode cX6_when 25 = .ok (.aload_n 0, 1) := by decide +kernel
theorem dX6_when_26 : decode cX6_when 26 = .ok (.getfield 19, 3) := by decide +kernel
theorem dX6_when_29 : decode cX6_when 29 = .ok (.iconst 4, 1) := by decide +kernel
theorem dX6_when_30 : decode cX6_when 30 = .ok (.iload_n 1, 1) := by decide +kernel
theorem dX6_when_31 : decode cX6_when 31 = .ok (.imul, 1) := by decide +kernel
theorem dX6_when_32 : decode cX6_when 32 = .ok (.iconst 0, 1) := by decide +kernel
theorem dX6_when_33 : decode cX6_when 33 = .ok (.iadd, 1) := by decide +kernel
theorem dX6_when_34 : decode cX6_when 34 = .ok (.iaload, 1) := by decide +kernel
theorem dX6_when_35 : decode cX6_when 35 = .ok (.istore_n 2, 1) := by decide +kernel
theorem dX6_when_36 : decode cX6_when 36 = .ok (.aload_n 0, 1) := by decide +kernel
theorem dX6_when_37 : decode cX6_when 37 = .ok (.getfield 22, 3) := by decide +kernel
theorem dX6_when_40 : decode cX6_when 40 = .ok (.iconst 2, 1) := by decide +kernel
theorem dX6_when_41 : decode cX6_when 41 = .ok (.iaload, 1) := by decide +kernel
theorem dX6_when_42 : decode cX6_when 42 = .ok (.ifCond .eq 13, 3) := by decide +kernel
theorem dX6_when_45 : decode cX6_when 45 = .ok (.iload_n 2, 1) := by decide +kernel
theorem dX6_when_46 : decode cX6_when 46 = .ok (.aload_n 0, 1) := by decide +kernel
theorem dX6_when_47 : decode cX6_when 47 = .ok (.getfield 22, 3) := by decide +kernel
theorem dX6_when_50 : decode cX6_when 50 = .ok (.iconst 1, 1) := by decide +kernel
theorem dX6_when_51 : decode cX6_when 51 = .ok (.iaload, 1) := by decide +kernel
theorem dX6_when_52 : decode cX6_when 52 = .ok (.if_icmp .ge 5, 3) := by decide +kernel
theorem dX6_when_55 : decode cX6_when 55 = .ok (.iconst (-1), 1) := by decide +kernel
theorem dX6_when_56 : decode cX6_when 56 = .ok (.ireturn, 1) := by decide +kernel
theorem dX6_when_57 : decode cX6_when 57 = .ok (.iconst 0, 1) := by decide +kernel
theorem dX6_when_58 : decode cX6_when 58 = .ok (.istore_n 3, 1) := by decide +kernel
theorem dX6_when_59 : decode cX6_when 59 = .ok (.iload_n 3, 1) := by decide +kernel
theorem dX6_when_60 : decode cX6_when 60 = .ok (.aload_n 0, 1) := by decide +kernel
theorem dX6_when_61 : decode cX6_when 61 = .ok (.getfield 64, 3) := by decide +kernel
theorem dX6_when_64 : decode cX6_when 64 = .ok (.if_icmp .ge 50, 3) := by decide +kernel
theorem dX6_when_67 : decode cX6_when 67 = .ok (.aload_n 0, 1) := by decide +kernel
theorem dX6_when_68 : decode cX6_when 68 = .ok (.getfield 19, 3) := by decide +kernel
theorem dX6_when_71 : decode cX6_when 71 = .ok (.iconst 4, 1) := by decide +kernel
theorem dX6_when_72 : decode cX6_when 72 = .ok (.iload_n 3, 1) := by decide +kernel
theorem dX6_when_73 : decode cX6_when 73 = .ok (.imul, 1) := by decide +kernel
theorem dX6_when_74 : decode cX6_when 74 = .ok (.iconst 1, 1) := by decide +kernel
theorem dX6_when_75 : decode cX6_when 75 = .ok (.iadd, 1) := by decide +kernel
theorem dX6_when_76 : decode cX6_when 76 = .ok (.iaload, 1) := by decide +kernel
theorem dX6_when_77 : decode cX6_when 77 = .ok (.iconst 4, 1) := by decide +kernel
theorem dX6_when_78 : decode cX6_when 78 = .ok (.if_icmp .ne 30, 3) := by decide +kernel
theorem dX6_when_81 : decode cX6_when 81 = .ok (.aload_n 0, 1) := by decide +kernel
theorem dX6_when_82 : decode cX6_when 82 = .ok (.getfield 19, 3) := by decide +kernel
theorem dX6_when_85 : decode cX6_when 85 = .ok (.iconst 4, 1) := by decide +kernel
theorem dX6_when_86 : decode cX6_when 86 = .ok (.iload_n 3, 1) := by decide +kernel
theorem dX6_when_87 : decode cX6_when 87 = .ok (.imul, 1) := by decide +kernel
theorem dX6_when_88 : decode cX6_when 88 = .ok (.iconst 0, 1) := by decide +kernel
theorem dX6_when_89 : decode cX6_when 89 = .ok (.iadd, 1) := by decide +kernel
theorem dX6_when_90 : decode cX6_when 90 = .ok (.iaload, 1) := by decide +kernel
theorem dX6_when_91 : decode cX6_when 91 = .ok (.aload_n 0, 1) := by decide +kernel
theorem dX6_when_92 : decode cX6_when 92 = .ok (.getfield 22, 3) := by decide +kernel
theorem dX6_when_95 : decode cX6_when 95 = .ok (.iconst 1, 1) := by decide +kernel
theorem dX6_when_96 : decode cX6_when 96 = .ok (.iaload, 1) := by decide +kernel
theorem dX6_when_97 : decode cX6_when 97 = .ok (.iload_n 2, 1) := by decide +kernel
theorem dX6_when_98 : decode cX6_when 98 = .ok (.iconst 1, 1) := by decide +kernel
theorem dX6_when_99 : decode cX6_when 99 = .ok (.isub, 1) := by decide +kernel
theorem dX6_when_100 : decode cX6_when 100 = .ok (.invokestatic 32, 3) := by decide +kernel
theorem dX6_when_103 : decode cX6_when 103 = .ok (.ifCond .eq 5, 3) := by decide +kernel
theorem dX6_when_106 : decode cX6_when 106 = .ok (.iconst (-1), 1) := by decide +kernel
theorem dX6_when_107 : decode cX6_when 107 = .ok (.ireturn, 1) := by decide +kernel
theorem dX6_when_108 : decode cX6_when 108 = .ok (.iinc 3 1, 3) := by decide +kernel
theorem dX6_when_111 : decode cX6_when 111 = .ok (.goto (-52), 3) := by decide +kernel
theorem dX6_when_114 : decode cX6_when 114 = .ok (.iload_n 2, 1) := by decide +kernel
theorem dX6_when_115 : decode cX6_when 115 = .ok (.aload_n 0, 1) := by decide +kernel
theorem dX6_when_116 : decode cX6_when 116 = .ok (.getfield 22, 3) := by decide +kernel
theorem dX6_when_119 : decode cX6_when 119 = .ok (.iconst 1, 1) := by decide +kernel
theorem dX6_when_120 : decode cX6_when 120 = .ok (.iaload, 1) := by decide +kernel
theorem dX6_when_121 : decode cX6_when 121 = .ok (.isub, 1) := by decide +kernel
theorem dX6_when_122 : decode cX6_when 122 = .ok (.iconst 1, 1) := by decide +kernel
theorem dX6_when_123 : decode cX6_when 123 = .ok (.iadd, 1) := by decide +kernel
theorem dX6_when_124 : decode cX6_when 124 = .ok (.ireturn, 1) := by decide +kernel
theorem dX6_kept_0 : decode cX6_kept 0 = .ok (.iconst 3, 1) := by decide +kernel
theorem dX6_kept_1 : decode cX6_kept 1 = .ok (.anewarray 111, 3) := by decide +kernel
theorem dX6_kept_4 : decode cX6_kept 4 = .ok (.dup, 1) := by decide +kernel
theorem dX6_kept_5 : decode cX6_kept 5 = .ok (.iconst 0, 1) := by decide +kernel
theorem dX6_kept_6 : decode cX6_kept 6 = .ok (.aload_n 0, 1) := by decide +kernel
theorem dX6_kept_7 : decode cX6_kept 7 = .ok (.getfield 9, 3) := by decide +kernel
theorem dX6_kept_10 : decode cX6_kept 10 = .ok (.invokevirtual 112, 3) := by decide +kernel
theorem dX6_kept_13 : decode cX6_kept 13 = .ok (.checkcast 111, 3) := by decide +kernel
theorem dX6_kept_16 : decode cX6_kept 16 = .ok (.aastore, 1) := by decide +kernel
theorem dX6_kept_17 : decode cX6_kept 17 = .ok (.dup, 1) := by decide +kernel
theorem dX6_kept_18 : decode cX6_kept 18 = .ok (.iconst 1, 1) := by decide +kernel
theorem dX6_kept_19 : decode cX6_kept 19 = .ok (.aload_n 0, 1) := by decide +kernel
theorem dX6_kept_20 : decode cX6_kept 20 = .ok (.getfield 16, 3) := by decide +kernel
theorem dX6_kept_23 : decode cX6_kept 23 = .ok (.invokevirtual 112, 3) := by decide +kernel
theorem dX6_kept_26 : decode cX6_kept 26 = .ok (.checkcast 111, 3) := by decide +kernel
theorem dX6_kept_29 : decode cX6_kept 29 = .ok (.aastore, 1) := by decide +kernel
theorem dX6_kept_30 : decode cX6_kept 30 = .ok (.dup, 1) := by decide +kernel
theorem dX6_kept_31 : decode cX6_kept 31 = .ok (.iconst 2, 1) := by decide +kernel
theorem dX6_kept_32 : decode cX6_kept 32 = .ok (.aload_n 0, 1) := by decide +kernel
theorem dX6_kept_33 : decode cX6_kept 33 = .ok (.getfield 22, 3) := by decide +kernel
theorem dX6_kept_36 : decode cX6_kept 36 = .ok (.invokevirtual 112, 3) := by decide +kernel
theorem dX6_kept_39 : decode cX6_kept 39 = .ok (.checkcast 111, 3) := by decide +kernel
theorem dX6_kept_42 : decode cX6_kept 42 = .ok (.aastore, 1) := by decide +kernel
theorem dX6_kept_43 : decode cX6_kept 43 = .ok (.areturn, 1) := by decide +kernel
theorem dX6_bringBack_0 : decode cX6_bringBack 0 = .ok (.aload_n 1, 1) := by decide +kernel
theorem dX6_bringBack_1 : decode cX6_bringBack 1 = .ok (.iconst 0, 1) := by decide +kernel
theorem dX6_bringBack_2 : decode cX6_bringBack 2 = .ok (.aaload, 1) := by decide +kernel
theorem dX6_bringBack_3 : decode cX6_bringBack 3 = .ok (.iconst 0, 1) := by decide +kernel
theorem dX6_bringBack_4 : decode cX6_bringBack 4 = .ok (.aload_n 0, 1) := by decide +kernel
theorem dX6_bringBack_5 : decode cX6_bringBack 5 = .ok (.getfield 9, 3) := by decide +kernel
theorem dX6_bringBack_8 : decode cX6_bringBack 8 = .ok (.iconst 0, 1) := by decide +kernel
theorem dX6_bringBack_9 : decode cX6_bringBack 9 = .ok (.aload_n 0, 1) := by decide +kernel
theorem dX6_bringBack_10 : decode cX6_bringBack 10 = .ok (.getfield 9, 3) := by decide +kernel
theorem dX6_bringBack_13 : decode cX6_bringBack 13 = .ok (.arraylength, 1) := by decide +kernel
theorem dX6_bringBack_14 : decode cX6_bringBack 14 = .ok (.invokestatic 40, 3) := by decide +kernel
theorem dX6_bringBack_17 : decode cX6_bringBack 17 = .ok (.aload_n 1, 1) := by decide +kernel
theorem dX6_bringBack_18 : decode cX6_bringBack 18 = .ok (.iconst 1, 1) := by decide +kernel
theorem dX6_bringBack_19 : decode cX6_bringBack 19 = .ok (.aaload, 1) := by decide +kernel
theorem dX6_bringBack_20 : decode cX6_bringBack 20 = .ok (.iconst 0, 1) := by decide +kernel
theorem dX6_bringBack_21 : decode cX6_bringBack 21 = .ok (.aload_n 0, 1) := by decide +kernel
theorem dX6_bringBack_22 : decode cX6_bringBack 22 = .ok (.getfield 16, 3) := by decide +kernel
theorem dX6_bringBack_25 : decode cX6_bringBack 25 = .ok (.iconst 0, 1) := by decide +kernel
theorem dX6_bringBack_26 : decode cX6_bringBack 26 = .ok (.aload_n 0, 1) := by decide +kernel
theorem dX6_bringBack_27 : decode cX6_bringBack 27 = .ok (.getfield 16, 3) := by decide +kernel
theorem dX6_bringBack_30 : decode cX6_bringBack 30 = .ok (.arraylength, 1) := by decide +kernel
theorem dX6_bringBack_31 : decode cX6_bringBack 31 = .ok (.invokestatic 40, 3) := by decide +kernel
theorem dX6_bringBack_34 : decode cX6_bringBack 34 = .ok (.aload_n 1, 1) := by decide +kernel
theorem dX6_bringBack_35 : decode cX6_bringBack 35 = .ok (.iconst 2, 1) := by decide +kernel
theorem dX6_bringBack_36 : decode cX6_bringBack 36 = .ok (.aaload, 1) := by decide +kernel
theorem dX6_bringBack_37 : decode cX6_bringBack 37 = .ok (.iconst 0, 1) := by decide +kernel
theorem dX6_bringBack_38 : decode cX6_bringBack 38 = .ok (.aload_n 0, 1) := by decide +kernel
theorem dX6_bringBack_39 : decode cX6_bringBack 39 = .ok (.getfield 22, 3) := by decide +kernel
theorem dX6_bringBack_42 : decode cX6_bringBack 42 = .ok (.iconst 0, 1) := by decide +kernel
theorem dX6_bringBack_43 : decode cX6_bringBack 43 = .ok (.aload_n 0, 1) := by decide +kernel
theorem dX6_bringBack_44 : decode cX6_bringBack 44 = .ok (.getfield 22, 3) := by decide +kernel
theorem dX6_bringBack_47 : decode cX6_bringBack 47 = .ok (.arraylength, 1) := by decide +kernel
theorem dX6_bringBack_48 : decode cX6_bringBack 48 = .ok (.invokestatic 40, 3) := by decide +kernel
theorem dX6_bringBack_51 : decode cX6_bringBack 51 = .ok (.return_, 1) := by decide +kernel
set_option maxRecDepth 20000 in
theorem ggX6_lasts_X6_isDimmer : GoodIn wsX6_lasts wsX6_isDimmer := goodIn_r _ [6, 7, 8, 9, 5, 10, 68, 69, 70, 71, 72, 73, 74, 75, 76] (by decide +kernel) (by decide +kernel)
set_option maxRecDepth 20000 in
theorem gX6_lasts_X6_isDimmer : GoodIn wsX6_lasts (wsV RX6 46 RX6 yX6_isDimmer wsX6_isDimmer) := goodIn_app (goodIn_of _ (by decide +kernel)) ggX6_lasts_X6_isDimmer
set_option maxRecDepth 20000 in
theorem ggX6_lasts_X6_fail : GoodIn wsX6_lasts wsX6_fail := goodIn_r _ [14, 1, 68, 69, 70, 71, 72, 73, 74, 75, 76] (by decide +kernel) (by decide +kernel)
set_option maxRecDepth 20000 in
theorem gX6_lasts_X6_fail : GoodIn wsX6_lasts (wsV RX6 36 RX6 yX6_fail wsX6_fail) := goodIn_app (goodIn_of _ (by decide +kernel)) ggX6_lasts_X6_fail
set_option maxRecDepth 20000 in
theorem ggX6_lasts_X6_kept : GoodIn wsX6_lasts wsX6_kept := goodIn_r _ [18, 19, 20, 21, 22, 23, 24, 25, 26, 27, 68, 69, 70, 71, 72, 73, 74, 75, 76] (by decide +kernel) (by decide +kernel)
set_option maxRecDepth 20000 in
theorem gX6_lasts_X6_kept : GoodIn wsX6_lasts (wsV RX6 116 RX6 yX6_kept wsX6_kept) := goodIn_app (goodIn_of _ (by decide +kernel)) ggX6_lasts_X6_kept
set_option maxRecDepth 20000 in
theorem ggX6_lasts_X6_la : GoodIn wsX6_lasts wsX6_la := goodIn_r _ [31, 20, 68, 69, 70, 71, 72, 73, 74, 75, 76] (by decide +kernel) (by decide +kernel)
set_option maxRecDepth 20000 in
theorem gX6_lasts_X6_la : GoodIn wsX6_lasts (wsV RX6 50 RX6 yX6_la wsX6_la) := goodIn_app (goodIn_of _ (by decide +kernel)) ggX6_lasts_X6_la
set_option maxRecDepth 20000 in
theorem ggX6_lasts_X6_tickOn : GoodIn wsX6_lasts wsX6_tickOn := goodIn_r _ [35, 27, 36, 37, 7, 26, 38, 39, 40, 5, 41, 42, 43, 44, 45, 20, 46, 47, 48, 49, 50, 51, 52, 53, 54, 55, 56, 28, 29, 30, 31, 57, 58, 59, 68, 69, 70, 71, 72, 73, 74, 75, 76] (by decide +kernel) (by decide +kernel)
set_option maxRecDepth 20000 in
theorem gX6_lasts_X6_tickOn : GoodIn wsX6_lasts (wsV RX6 85 RX6 yX6_tickOn wsX6_tickOn) := goodIn_app (goodIn_of _ (by decide +kernel)) ggX6_lasts_X6_tickOn
set_option maxRecDepth 20000 in
theorem ggX6_lasts_X6_bringBack : GoodIn wsX6_lasts wsX6_bringBack := goodIn_r _ [63, 20, 64, 65, 66, 67, 26, 27, 68, 69, 70, 71, 72, 73, 74, 75, 76] (by decide +kernel) (by decide +kernel)
set_option maxRecDepth 20000 in
theorem gX6_lasts_X6_bringBack : GoodIn wsX6_lasts (wsV RX6 120 RX6 yX6_bringBack wsX6_bringBack) := goodIn_app (goodIn_of _ (by decide +kernel)) ggX6_lasts_X6_bringBack
theorem dX6_lasts_0 : decode cX6_lasts 0 = .ok (.aload_n 0, 1) := by decide +kernel
theorem dX6_lasts_1 : decode cX6_lasts 1 = .ok (.iconst 0, 1) := by decide +kernel
theorem dX6_lasts_2 : decode cX6_lasts 2 = .ok (.putfield 25, 3) := by decide +kernel
theorem dX6_lasts_5 : decode cX6_lasts 5 = .ok (.aload_n 0, 1) := by decide +kernel
theorem dX6_lasts_6 : decode cX6_lasts 6 = .ok (.iload_n 1, 1) := by decide +kernel
theorem dX6_lasts_7 : decode cX6_lasts 7 = .ok (.invokevirtual 46, 3) := by decide +kernel
theorem dX6_lasts_10 : decode cX6_lasts 10 = .ok (.ifCond .ne 9, 3) := by decide +kernel
theorem dX6_lasts_13 : decode cX6_lasts 13 = .ok (.aload_n 0, 1) := by decide +kernel
theorem dX6_lasts_14 : decode cX6_lasts 14 = .ok (.iconst 1, 1) := by decide +kernel
theorem dX6_lasts_15 : decode cX6_lasts 15 = .ok (.invokevirtual 36, 3) := by decide +kernel
theorem dX6_lasts_18 : decode cX6_lasts 18 = .ok (.ireturn, 1) := by decide +kernel
theorem dX6_lasts_19 : decode cX6_lasts 19 = .ok (.aload_n 0, 1) := by decide +kernel
theorem dX6_lasts_20 : decode cX6_lasts 20 = .ok (.invokevirtual 116, 3) := by decide +kernel
theorem dX6_lasts_23 : decode cX6_lasts 23 = .ok (.astore_n 2, 1) := by decide +kernel
theorem dX6_lasts_24 : decode cX6_lasts 24 = .ok (.iconst 0, 1) := by decide +kernel
theorem dX6_lasts_25 : decode cX6_lasts 25 = .ok (.istore_n 3, 1) := by decide +kernel
theorem dX6_lasts_26 : decode cX6_lasts 26 = .ok (.iload_n 3, 1) := by decide +kernel
theorem dX6_lasts_27 : decode cX6_lasts 27 = .ok (.sipush 500, 3) := by decide +kernel
theorem dX6_lasts_30 : decode cX6_lasts 30 = .ok (.if_icmp .ge 23, 3) := by decide +kernel
theorem dX6_lasts_33 : decode cX6_lasts 33 = .ok (.aload_n 0, 1) := by decide +kernel
theorem dX6_lasts_34 : decode cX6_lasts 34 = .ok (.iload_n 1, 1) := by decide +kernel
theorem dX6_lasts_35 : decode cX6_lasts 35 = .ok (.iconst 4, 1) := by decide +kernel
theorem dX6_lasts_36 : decode cX6_lasts 36 = .ok (.invokevirtual 50, 3) := by decide +kernel
theorem dX6_lasts_39 : decode cX6_lasts 39 = .ok (.ifCond .le 14, 3) := by decide +kernel
theorem dX6_lasts_42 : decode cX6_lasts 42 = .ok (.aload_n 0, 1) := by decide +kernel
theorem dX6_lasts_43 : decode cX6_lasts 43 = .ok (.invokevirtual 85, 3) := by decide +kernel
theorem dX6_lasts_46 : decode cX6_lasts 46 = .ok (.pop, 1) := by decide +kernel
theorem dX6_lasts_47 : decode cX6_lasts 47 = .ok (.iinc 3 1, 3) := by decide +kernel
theorem dX6_lasts_50 : decode cX6_lasts 50 = .ok (.goto (-24), 3) := by decide +kernel
theorem dX6_lasts_53 : decode cX6_lasts 53 = .ok (.aload_n 0, 1) := by decide +kernel
theorem dX6_lasts_54 : decode cX6_lasts 54 = .ok (.iload_n 1, 1) := by decide +kernel
theorem dX6_lasts_55 : decode cX6_lasts 55 = .ok (.iconst 4, 1) := by decide +kernel
theorem dX6_lasts_56 : decode cX6_lasts 56 = .ok (.invokevirtual 50, 3) := by decide +kernel
theorem dX6_lasts_59 : decode cX6_lasts 59 = .ok (.ifCond .le 5, 3) := by decide +kernel
theorem dX6_lasts_62 : decode cX6_lasts 62 = .ok (.iconst (-1), 1) := by decide +kernel
theorem dX6_lasts_63 : decode cX6_lasts 63 = .ok (.istore_n 3, 1) := by decide +kernel
theorem dX6_lasts_64 : decode cX6_lasts 64 = .ok (.aload_n 0, 1) := by decide +kernel
theorem dX6_lasts_65 : decode cX6_lasts 65 = .ok (.aload_n 2, 1) := by decide +kernel
theorem dX6_lasts_66 : decode cX6_lasts 66 = .ok (.invokevirtual 120, 3) := by decide +kernel
theorem dX6_lasts_69 : decode cX6_lasts 69 = .ok (.iload_n 3, 1) := by decide +kernel
theorem dX6_lasts_70 : decode cX6_lasts 70 = .ok (.ireturn, 1) := by decide +kernel
set_option maxRecDepth 20000 in
theorem ggX6_foresee_X6_isIn : GoodIn wsX6_foresee wsX6_isIn := goodIn_r _ [5] (by decide +kernel) (by decide +kernel)
set_option maxRecDepth 20000 in
theorem gX6_foresee_X6_isIn : GoodIn wsX6_foresee (va_wsS RX6 32 yX6_isIn wsX6_isIn) := goodIn_app (goodIn_of _ (by decide +kernel)) ggX6_foresee_X6_isIn
set_option maxRecDepth 20000 in
theorem ggX6_foresee_X6_fail : GoodIn wsX6_foresee wsX6_fail := goodIn_r _ [9, 1, 94, 95, 96, 97, 98, 99, 100, 101, 102] (by decide +kernel) (by decide +kernel)
set_option maxRecDepth 20000 in
theorem gX6_foresee_X6_fail : GoodIn wsX6_foresee (wsV RX6 36 RX6 yX6_fail wsX6_fail) := goodIn_app (goodIn_of _ (by decide +kernel)) ggX6_foresee_X6_fail
set_option maxRecDepth 20000 in
theorem ggX6_foresee_X6_kept : GoodIn wsX6_foresee wsX6_kept := goodIn_r _ [13, 14, 15, 16, 17, 18, 19, 20, 21, 22, 94, 95, 96, 97, 98, 99, 100, 101, 102] (by decide +kernel) (by decide +kernel)
set_option maxRecDepth 20000 in
theorem gX6_foresee_X6_kept : GoodIn wsX6_foresee (wsV RX6 116 RX6 yX6_kept wsX6_kept) := goodIn_app (goodIn_of _ (by decide +kernel)) ggX6_foresee_X6_kept
set_option maxRecDepth 20000 in
theorem ggX6_foresee_X6_ticksOn : GoodIn wsX6_foresee wsX6_ticksOn := goodIn_r _ [26, 27, 28, 29, 4, 30, 22, 31, 32, 33, 21, 34, 35, 36, 37, 38, 39, 40, 41, 15, 42, 43, 44, 45, 46, 47, 48, 49, 50, 51, 52, 53, 54, 55, 56, 57, 58, 59, 94, 95, 96, 97, 98, 99, 100, 101, 102] (by decide +kernel) (by decide +kernel)
set_option maxRecDepth 20000 in
theorem gX6_foresee_X6_ticksOn : GoodIn wsX6_foresee (wsV RX6 89 RX6 yX6_ticksOn wsX6_ticksOn) := goodIn_app (goodIn_of _ (by decide +kernel)) ggX6_foresee_X6_ticksOn
set_option maxRecDepth 20000 in
theorem ggX6_foresee_X6_counted : GoodIn wsX6_foresee wsX6_counted := goodIn_r _ [63, 22, 33, 64, 31, 65, 66, 67, 4, 68, 69, 70, 71, 72, 73, 74, 75, 76, 77, 78, 79, 80, 81, 53, 54, 55, 56, 15, 82, 83, 84, 85, 21, 94, 95, 96, 97, 98, 99, 100, 101, 102] (by decide +kernel) (by decide +kernel)
set_option maxRecDepth 20000 in
theorem gX6_foresee_X6_counted : GoodIn wsX6_foresee (wsV RX6 108 RX6 yX6_counted wsX6_counted) := goodIn_app (goodIn_of _ (by decide +kernel)) ggX6_foresee_X6_counted
set_option maxRecDepth 20000 in
theorem ggX6_foresee_X6_bringBack : GoodIn wsX6_foresee wsX6_bringBack := goodIn_r _ [89, 15, 90, 91, 92, 93, 21, 22, 94, 95, 96, 97, 98, 99, 100, 101, 102] (by decide +kernel) (by decide +kernel)
set_option maxRecDepth 20000 in
theorem gX6_foresee_X6_bringBack : GoodIn wsX6_foresee (wsV RX6 120 RX6 yX6_bringBack wsX6_bringBack) := goodIn_app (goodIn_of _ (by decide +kernel)) ggX6_foresee_X6_bringBack
theorem dX6_foresee_0 : decode cX6_foresee 0 = .ok (.aload_n 0, 1) := by decide +kernel
theorem dX6_foresee_1 : decode cX6_foresee 1 = .ok (.iconst 0, 1) := by decide +kernel
theorem dX6_foresee_2 : decode cX6_foresee 2 = .ok (.putfield 25, 3) := by decide +kernel
theorem dX6_foresee_5 : decode cX6_foresee 5 = .ok (.iload_n 1, 1) := by decide +kernel
theorem dX6_foresee_6 : decode cX6_foresee 6 = .ok (.iconst 1, 1) := by decide +kernel
theorem dX6_foresee_7 : decode cX6_foresee 7 = .ok (.sipush 500, 3) := by decide +kernel
theorem dX6_foresee_10 : decode cX6_foresee 10 = .ok (.invokestatic 32, 3) := by decide +kernel
theorem dX6_foresee_13 : decode cX6_foresee 13 = .ok (.ifCond .ne 9, 3) := by decide +kernel
theorem dX6_foresee_16 : decode cX6_foresee 16 = .ok (.aload_n 0, 1) := by decide +kernel
theorem dX6_foresee_17 : decode cX6_foresee 17 = .ok (.iconst 1, 1) := by decide +kernel
theorem dX6_foresee_18 : decode cX6_foresee 18 = .ok (.invokevirtual 36, 3) := by decide +kernel
theorem dX6_foresee_21 : decode cX6_foresee 21 = .ok (.ireturn, 1) := by decide +kernel
theorem dX6_foresee_22 : decode cX6_foresee 22 = .ok (.iload_n 2, 1) := by decide +kernel
theorem dX6_foresee_23 : decode cX6_foresee 23 = .ok (.iconst 1, 1) := by decide +kernel
theorem dX6_foresee_24 : decode cX6_foresee 24 = .ok (.if_icmp .eq 32, 3) := by decide +kernel
theorem dX6_foresee_27 : decode cX6_foresee 27 = .ok (.iload_n 2, 1) := by decide +kernel
theorem dX6_foresee_28 : decode cX6_foresee 28 = .ok (.iconst 5, 1) := by decide +kernel
theorem dX6_foresee_29 : decode cX6_foresee 29 = .ok (.if_icmp .eq 27, 3) := by decide +kernel
theorem dX6_foresee_32 : decode cX6_foresee 32 = .ok (.iload_n 2, 1) := by decide +kernel
theorem dX6_foresee_33 : decode cX6_foresee 33 = .ok (.bipush 7, 2) := by decide +kernel
theorem dX6_foresee_35 : decode cX6_foresee 35 = .ok (.if_icmp .eq 21, 3) := by decide +kernel
theorem dX6_foresee_38 : decode cX6_foresee 38 = .ok (.iload_n 2, 1) := by decide +kernel
theorem dX6_foresee_39 : decode cX6_foresee 39 = .ok (.bipush 8, 2) := by decide +kernel
theorem dX6_foresee_41 : decode cX6_foresee 41 = .ok (.if_icmp .eq 15, 3) := by decide +kernel
theorem dX6_foresee_44 : decode cX6_foresee 44 = .ok (.iload_n 2, 1) := by decide +kernel
theorem dX6_foresee_45 : decode cX6_foresee 45 = .ok (.bipush 11, 2) := by decide +kernel
theorem dX6_foresee_47 : decode cX6_foresee 47 = .ok (.if_icmp .eq 9, 3) := by decide +kernel
theorem dX6_foresee_50 : decode cX6_foresee 50 = .ok (.aload_n 0, 1) := by decide +kernel
theorem dX6_foresee_51 : decode cX6_foresee 51 = .ok (.iconst 2, 1) := by decide +kernel
theorem dX6_foresee_52 : decode cX6_foresee 52 = .ok (.invokevirtual 36, 3) := by decide +kernel
theorem dX6_foresee_55 : decode cX6_foresee 55 = .ok (.ireturn, 1) := by decide +kernel
theorem dX6_foresee_56 : decode cX6_foresee 56 = .ok (.aload_n 0, 1) := by decide +kernel
theorem dX6_foresee_57 : decode cX6_foresee 57 = .ok (.invokevirtual 116, 3) := by decide +kernel
theorem dX6_foresee_60 : decode cX6_foresee 60 = .ok (.astore_n 3, 1) := by decide +kernel
theorem dX6_foresee_61 : decode cX6_foresee 61 = .ok (.aload_n 0, 1) := by decide +kernel
theorem dX6_foresee_62 : decode cX6_foresee 62 = .ok (.iload_n 1, 1) := by decide +kernel
theorem dX6_foresee_63 : decode cX6_foresee 63 = .ok (.invokevirtual 89, 3) := by decide +kernel
theorem dX6_foresee_66 : decode cX6_foresee 66 = .ok (.pop, 1) := by decide +kernel
theorem dX6_foresee_67 : decode cX6_foresee 67 = .ok (.aload_n 0, 1) := by decide +kernel
theorem dX6_foresee_68 : decode cX6_foresee 68 = .ok (.iload_n 2, 1) := by decide +kernel
theorem dX6_foresee_69 : decode cX6_foresee 69 = .ok (.invokevirtual 108, 3) := by decide +kernel
theorem dX6_foresee_72 : decode cX6_foresee 72 = .ok (.istore 4, 2) := by decide +kernel
theorem dX6_foresee_74 : decode cX6_foresee 74 = .ok (.aload_n 0, 1) := by decide +kernel
theorem dX6_foresee_75 : decode cX6_foresee 75 = .ok (.aload_n 3, 1) := by decide +kernel
theorem dX6_foresee_76 : decode cX6_foresee 76 = .ok (.invokevirtual 120, 3) := by decide +kernel
theorem dX6_foresee_79 : decode cX6_foresee 79 = .ok (.iload 4, 2) := by decide +kernel
theorem dX6_foresee_81 : decode cX6_foresee 81 = .ok (.ireturn, 1) := by decide +kernel
set_option maxRecDepth 20000 in
theorem ggX6_darkest_X6_glareOf : GoodIn wsX6_darkest wsX6_glareOf := goodIn_r _ [6, 7, 8, 9, 10, 5, 11, 12, 13, 14, 15, 16, 17, 18, 19, 20, 21] (by decide +kernel) (by decide +kernel)
set_option maxRecDepth 20000 in
theorem gX6_darkest_X6_glareOf : GoodIn wsX6_darkest (wsV RX6 92 RX6 yX6_glareOf wsX6_glareOf) := goodIn_app (goodIn_of _ (by decide +kernel)) ggX6_darkest_X6_glareOf
theorem dX6_darkest_0 : decode cX6_darkest 0 = .ok (.aload_n 0, 1) := by decide +kernel
theorem dX6_darkest_1 : decode cX6_darkest 1 = .ok (.iconst 0, 1) := by decide +kernel
theorem dX6_darkest_2 : decode cX6_darkest 2 = .ok (.putfield 25, 3) := by decide +kernel
theorem dX6_darkest_5 : decode cX6_darkest 5 = .ok (.iconst 0, 1) := by decide +kernel
theorem dX6_darkest_6 : decode cX6_darkest 6 = .ok (.istore_n 1, 1) := by decide +kernel
theorem dX6_darkest_7 : decode cX6_darkest 7 = .ok (.iconst 1, 1) := by decide +kernel
theorem dX6_darkest_8 : decode cX6_darkest 8 = .ok (.istore_n 2, 1) := by decide +kernel
theorem dX6_darkest_9 : decode cX6_darkest 9 = .ok (.iload_n 2, 1) := by decide +kernel
theorem dX6_darkest_10 : decode cX6_darkest 10 = .ok (.bipush 12, 2) := by decide +kernel
theorem dX6_darkest_12 : decode cX6_darkest 12 = .ok (.if_icmp .ge 24, 3) := by decide +kernel
theorem dX6_darkest_15 : decode cX6_darkest 15 = .ok (.aload_n 0, 1) := by decide +kernel
theorem dX6_darkest_16 : decode cX6_darkest 16 = .ok (.iload_n 2, 1) := by decide +kernel
theorem dX6_darkest_17 : decode cX6_darkest 17 = .ok (.invokevirtual 92, 3) := by decide +kernel
theorem dX6_darkest_20 : decode cX6_darkest 20 = .ok (.aload_n 0, 1) := by decide +kernel
theorem dX6_darkest_21 : decode cX6_darkest 21 = .ok (.iload_n 1, 1) := by decide +kernel
theorem dX6_darkest_22 : decode cX6_darkest 22 = .ok (.invokevirtual 92, 3) := by decide +kernel
theorem dX6_darkest_25 : decode cX6_darkest 25 = .ok (.if_icmp .ge 5, 3) := by decide +kernel
theorem dX6_darkest_28 : decode cX6_darkest 28 = .ok (.iload_n 2, 1) := by decide +kernel
theorem dX6_darkest_29 : decode cX6_darkest 29 = .ok (.istore_n 1, 1) := by decide +kernel
theorem dX6_darkest_30 : decode cX6_darkest 30 = .ok (.iinc 2 1, 3) := by decide +kernel
theorem dX6_darkest_33 : decode cX6_darkest 33 = .ok (.goto (-24), 3) := by decide +kernel
theorem dX6_darkest_36 : decode cX6_darkest 36 = .ok (.iload_n 1, 1) := by decide +kernel
theorem dX6_darkest_37 : decode cX6_darkest 37 = .ok (.ireturn, 1) := by decide +kernel
set_option maxRecDepth 20000 in
theorem ggX6_mean_X6_glareOf : GoodIn wsX6_mean wsX6_glareOf := goodIn_r _ [7, 8, 9, 10, 11, 6, 12, 13, 14, 15, 16, 17, 18, 19, 20, 21, 22] (by decide +kernel) (by decide +kernel)
set_option maxRecDepth 20000 in
theorem gX6_mean_X6_glareOf : GoodIn wsX6_mean (wsV RX6 92 RX6 yX6_glareOf wsX6_glareOf) := goodIn_app (goodIn_of _ (by decide +kernel)) ggX6_mean_X6_glareOf
theorem dX6_mean_0 : decode cX6_mean 0 = .ok (.aload_n 0, 1) := by decide +kernel
theorem dX6_mean_1 : decode cX6_mean 1 = .ok (.iconst 0, 1) := by decide +kernel
theorem dX6_mean_2 : decode cX6_mean 2 = .ok (.putfield 25, 3) := by decide +kernel
theorem dX6_mean_5 : decode cX6_mean 5 = .ok (.iconst 0, 1) := by decide +kernel
theorem dX6_mean_6 : decode cX6_mean 6 = .ok (.istore_n 1, 1) := by decide +kernel
theorem dX6_mean_7 : decode cX6_mean 7 = .ok (.iconst 0, 1) := by decide +kernel
theorem dX6_mean_8 : decode cX6_mean 8 = .ok (.istore_n 2, 1) := by decide +kernel
theorem dX6_mean_9 : decode cX6_mean 9 = .ok (.iload_n 2, 1) := by decide +kernel
theorem dX6_mean_10 : decode cX6_mean 10 = .ok (.bipush 12, 2) := by decide +kernel
theorem dX6_mean_12 : decode cX6_mean 12 = .ok (.if_icmp .ge 17, 3) := by decide +kernel
theorem dX6_mean_15 : decode cX6_mean 15 = .ok (.iload_n 1, 1) := by decide +kernel
theorem dX6_mean_16 : decode cX6_mean 16 = .ok (.aload_n 0, 1) := by decide +kernel
theorem dX6_mean_17 : decode cX6_mean 17 = .ok (.iload_n 2, 1) := by decide +kernel
theorem dX6_mean_18 : decode cX6_mean 18 = .ok (.invokevirtual 92, 3) := by decide +kernel
theorem dX6_mean_21 : decode cX6_mean 21 = .ok (.iadd, 1) := by decide +kernel
theorem dX6_mean_22 : decode cX6_mean 22 = .ok (.istore_n 1, 1) := by decide +kernel
theorem dX6_mean_23 : decode cX6_mean 23 = .ok (.iinc 2 1, 3) := by decide +kernel
theorem dX6_mean_26 : decode cX6_mean 26 = .ok (.goto (-17), 3) := by decide +kernel
theorem dX6_mean_29 : decode cX6_mean 29 = .ok (.iload_n 1, 1) := by decide +kernel
theorem dX6_mean_30 : decode cX6_mean 30 = .ok (.i2d, 1) := by decide +kernel
theorem dX6_mean_31 : decode cX6_mean 31 = .ok (.ldc2_w 124, 3) := by decide +kernel
theorem dX6_mean_34 : decode cX6_mean 34 = .ok (.ddiv, 1) := by decide +kernel
theorem dX6_mean_35 : decode cX6_mean 35 = .ok (.dreturn, 1) := by decide +kernel
set_option maxRecDepth 20000 in
theorem ggX6_digest_X6_counted : GoodIn wsX6_digest wsX6_counted := goodIn_r _ [14, 7, 4, 6, 8, 15, 16, 17, 13, 18, 19, 20, 21, 22, 23, 24, 25, 26, 27, 28, 29, 30, 31, 32, 33, 34, 35, 5, 36, 37, 38, 39, 40, 41, 42, 43, 44, 45, 46, 47, 48, 49] (by decide +kernel) (by decide +kernel)
set_option maxRecDepth 20000 in
theorem gX6_digest_X6_counted : GoodIn wsX6_digest (wsV RX6 108 RX6 yX6_counted wsX6_counted) := goodIn_app (goodIn_of _ (by decide +kernel)) ggX6_digest_X6_counted
set_option maxRecDepth 20000 in
theorem ggX6_digest_X6_glareOf : GoodIn wsX6_digest wsX6_glareOf := goodIn_r _ [31, 4, 32, 33, 34, 13, 35, 5, 41, 42, 43, 44, 45, 46, 47, 48, 49] (by decide +kernel) (by decide +kernel)
set_option maxRecDepth 20000 in
theorem gX6_digest_X6_glareOf : GoodIn wsX6_digest (wsV RX6 92 RX6 yX6_glareOf wsX6_glareOf) := goodIn_app (goodIn_of _ (by decide +kernel)) ggX6_digest_X6_glareOf
set_option maxRecDepth 20000 in
theorem ggX6_digest_X6_starTold : GoodIn wsX6_digest wsX6_starTold := goodIn_r _ [18, 19, 20, 21, 22, 13, 23, 7, 24, 25, 26, 27, 28, 29, 30, 31, 4, 32, 33, 34, 35, 5, 41, 42, 43, 44, 45, 46, 47, 48, 49] (by decide +kernel) (by decide +kernel)
set_option maxRecDepth 20000 in
theorem gX6_digest_X6_starTold : GoodIn wsX6_digest (wsV RX6 102 RX6 yX6_starTold wsX6_starTold) := goodIn_app (goodIn_of _ (by decide +kernel)) ggX6_digest_X6_starTold
set_option maxRecDepth 20000 in
theorem ggX6_digest_X6_cometTold : GoodIn wsX6_digest wsX6_cometTold := goodIn_r _ [39, 40, 24, 25, 26, 13, 27, 28, 29, 30, 31, 4, 32, 33, 34, 35, 5, 41, 42, 43, 44, 45, 46, 47, 48, 49] (by decide +kernel) (by decide +kernel)
set_option maxRecDepth 20000 in
theorem gX6_digest_X6_cometTold : GoodIn wsX6_digest (wsV RX6 105 RX6 yX6_cometTold wsX6_cometTold) := goodIn_app (goodIn_of _ (by decide +kernel)) ggX6_digest_X6_cometTold
theorem dX6_digest_0 : decode cX6_digest 0 = .ok (.aload_n 0, 1) := by decide +kernel
theorem dX6_digest_1 : decode cX6_digest 1 = .ok (.iconst 0, 1) := by decide +kernel
theorem dX6_digest_2 : decode cX6_digest 2 = .ok (.putfield 25, 3) := by decide +kernel
theorem dX6_digest_5 : decode cX6_digest 5 = .ok (.ldc2_w 126, 3) := by decide +kernel
theorem dX6_digest_8 : decode cX6_digest 8 = .ok (.lstore_n 1, 1) := by decide +kernel
theorem dX6_digest_9 : decode cX6_digest 9 = .ok (.iconst 0, 1) := by decide +kernel
theorem dX6_digest_10 : decode cX6_digest 10 = .ok (.istore_n 3, 1) := by decide +kernel
theorem dX6_digest_11 : decode cX6_digest 11 = .ok (.iload_n 3, 1) := by decide +kernel
theorem dX6_digest_12 : decode cX6_digest 12 = .ok (.bipush 13, 2) := by decide +kernel
theorem dX6_digest_14 : decode cX6_digest 14 = .ok (.if_icmp .ge 22, 3) := by decide +kernel
theorem dX6_digest_17 : decode cX6_digest 17 = .ok (.lload_n 1, 1) := by decide +kernel
theorem dX6_digest_18 : decode cX6_digest 18 = .ok (.ldc2_w 128, 3) := by decide +kernel
theorem dX6_digest_21 : decode cX6_digest 21 = .ok (.lmul, 1) := by decide +kernel
theorem dX6_digest_22 : decode cX6_digest 22 = .ok (.aload_n 0, 1) := by decide +kernel
theorem dX6_digest_23 : decode cX6_digest 23 = .ok (.iload_n 3, 1) := by decide +kernel
theorem dX6_digest_24 : decode cX6_digest 24 = .ok (.invokevirtual 108, 3) := by decide +kernel
theorem dX6_digest_27 : decode cX6_digest 27 = .ok (.i2l, 1) := by decide +kernel
theorem dX6_digest_28 : decode cX6_digest 28 = .ok (.ladd, 1) := by decide +kernel
theorem dX6_digest_29 : decode cX6_digest 29 = .ok (.lstore_n 1, 1) := by decide +kernel
theorem dX6_digest_30 : decode cX6_digest 30 = .ok (.iinc 3 1, 3) := by decide +kernel
theorem dX6_digest_33 : decode cX6_digest 33 = .ok (.goto (-22), 3) := by decide +kernel
theorem dX6_digest_36 : decode cX6_digest 36 = .ok (.iconst 0, 1) := by decide +kernel
theorem dX6_digest_37 : decode cX6_digest 37 = .ok (.istore_n 3, 1) := by decide +kernel
theorem dX6_digest_38 : decode cX6_digest 38 = .ok (.iload_n 3, 1) := by decide +kernel
theorem dX6_digest_39 : decode cX6_digest 39 = .ok (.bipush 12, 2) := by decide +kernel
theorem dX6_digest_41 : decode cX6_digest 41 = .ok (.if_icmp .ge 22, 3) := by decide +kernel
theorem dX6_digest_44 : decode cX6_digest 44 = .ok (.lload_n 1, 1) := by decide +kernel
theorem dX6_digest_45 : decode cX6_digest 45 = .ok (.ldc2_w 128, 3) := by decide +kernel
theorem dX6_digest_48 : decode cX6_digest 48 = .ok (.lmul, 1) := by decide +kernel
theorem dX6_digest_49 : decode cX6_digest 49 = .ok (.aload_n 0, 1) := by decide +kernel
theorem dX6_digest_50 : decode cX6_digest 50 = .ok (.iload_n 3, 1) := by decide +kernel
theorem dX6_digest_51 : decode cX6_digest 51 = .ok (.invokevirtual 92, 3) := by decide +kernel
theorem dX6_digest_54 : decode cX6_digest 54 = .ok (.i2l, 1) := by decide +kernel
theorem dX6_digest_55 : decode cX6_digest 55 = .ok (.ladd, 1) := by decide +kernel
theorem dX6_digest_56 : decode cX6_digest 56 = .ok (.lstore_n 1, 1) := by decide +kernel
theorem dX6_digest_57 : decode cX6_digest 57 = .ok (.iinc 3 1, 3) := by decide +kernel
theorem dX6_digest_60 : decode cX6_digest 60 = .ok (.goto (-22), 3) := by decide +kernel
theorem dX6_digest_63 : decode cX6_digest 63 = .ok (.iconst 0, 1) := by decide +kernel
theorem dX6_digest_64 : decode cX6_digest 64 = .ok (.istore_n 3, 1) := by decide +kernel
theorem dX6_digest_65 : decode cX6_digest 65 = .ok (.iload_n 3, 1) := by decide +kernel
theorem dX6_digest_66 : decode cX6_digest 66 = .ok (.iconst 5, 1) := by decide +kernel
theorem dX6_digest_67 : decode cX6_digest 67 = .ok (.aload_n 0, 1) := by decide +kernel
theorem dX6_digest_68 : decode cX6_digest 68 = .ok (.getfield 29, 3) := by decide +kernel
theorem dX6_digest_71 : decode cX6_digest 71 = .ok (.imul, 1) := by decide +kernel
theorem dX6_digest_72 : decode cX6_digest 72 = .ok (.if_icmp .ge 23, 3) := by decide +kernel
theorem dX6_digest_75 : decode cX6_digest 75 = .ok (.lload_n 1, 1) := by decide +kernel
theorem dX6_digest_76 : decode cX6_digest 76 = .ok (.ldc2_w 128, 3) := by decide +kernel
theorem dX6_digest_79 : decode cX6_digest 79 = .ok (.lmul, 1) := by decide +kernel
theorem dX6_digest_80 : decode cX6_digest 80 = .ok (.aload_n 0, 1) := by decide +kernel
theorem dX6_digest_81 : decode cX6_digest 81 = .ok (.getfield 9, 3) := by decide +kernel
theorem dX6_digest_84 : decode cX6_digest 84 = .ok (.iload_n 3, 1) := by decide +kernel
theorem dX6_digest_85 : decode cX6_digest 85 = .ok (.iaload, 1) := by decide +kernel
theorem dX6_digest_86 : decode cX6_digest 86 = .ok (.i2l, 1) := by decide +kernel
theorem dX6_digest_87 : decode cX6_digest 87 = .ok (.ladd, 1) := by decide +kernel
theorem dX6_digest_88 : decode cX6_digest 88 = .ok (.lstore_n 1, 1) := by decide +kernel
theorem dX6_digest_89 : decode cX6_digest 89 = .ok (.iinc 3 1, 3) := by decide +kernel
theorem dX6_digest_92 : decode cX6_digest 92 = .ok (.goto (-27), 3) := by decide +kernel
theorem dX6_digest_95 : decode cX6_digest 95 = .ok (.iconst 0, 1) := by decide +kernel
theorem dX6_digest_96 : decode cX6_digest 96 = .ok (.istore_n 3, 1) := by decide +kernel
theorem dX6_digest_97 : decode cX6_digest 97 = .ok (.iload_n 3, 1) := by decide +kernel
theorem dX6_digest_98 : decode cX6_digest 98 = .ok (.aload_n 0, 1) := by decide +kernel
theorem dX6_digest_99 : decode cX6_digest 99 = .ok (.getfield 58, 3) := by decide +kernel
theorem dX6_digest_102 : decode cX6_digest 102 = .ok (.if_icmp .ge 39, 3) := by decide +kernel
theorem dX6_digest_105 : decode cX6_digest 105 = .ok (.iconst 0, 1) := by decide +kernel
theorem dX6_digest_106 : decode cX6_digest 106 = .ok (.istore 4, 2) := by decide +kernel
theorem dX6_digest_108 : decode cX6_digest 108 = .ok (.iload 4, 2) := by decide +kernel
theorem dX6_digest_110 : decode cX6_digest 110 = .ok (.iconst 4, 1) := by decide +kernel
theorem dX6_digest_111 : decode cX6_digest 111 = .ok (.if_icmp .ge 24, 3) := by decide +kernel
theorem dX6_digest_114 : decode cX6_digest 114 = .ok (.lload_n 1, 1) := by decide +kernel
theorem dX6_digest_115 : decode cX6_digest 115 = .ok (.ldc2_w 128, 3) := by decide +kernel
theorem dX6_digest_118 : decode cX6_digest 118 = .ok (.lmul, 1) := by decide +kernel
theorem dX6_digest_119 : decode cX6_digest 119 = .ok (.aload_n 0, 1) := by decide +kernel
theorem dX6_digest_120 : decode cX6_digest 120 = .ok (.iload_n 3, 1) := by decide +kernel
theorem dX6_digest_121 : decode cX6_digest 121 = .ok (.iload 4, 2) := by decide +kernel
theorem dX6_digest_123 : decode cX6_digest 123 = .ok (.invokevirtual 102, 3) := by decide +kernel
theorem dX6_digest_126 : decode cX6_digest 126 = .ok (.i2l, 1) := by decide +kernel
theorem dX6_digest_127 : decode cX6_digest 127 = .ok (.ladd, 1) := by decide +kernel
theorem dX6_digest_128 : decode cX6_digest 128 = .ok (.lstore_n 1, 1) := by decide +kernel
theorem dX6_digest_129 : decode cX6_digest 129 = .ok (.iinc 4 1, 3) := by decide +kernel
theorem dX6_digest_132 : decode cX6_digest 132 = .ok (.goto (-24), 3) := by decide +kernel
theorem dX6_digest_135 : decode cX6_digest 135 = .ok (.iinc 3 1, 3) := by decide +kernel
theorem dX6_digest_138 : decode cX6_digest 138 = .ok (.goto (-41), 3) := by decide +kernel
theorem dX6_digest_141 : decode cX6_digest 141 = .ok (.iconst 0, 1) := by decide +kernel
theorem dX6_digest_142 : decode cX6_digest 142 = .ok (.istore_n 3, 1) := by decide +kernel
theorem dX6_digest_143 : decode cX6_digest 143 = .ok (.iload_n 3, 1) := by decide +kernel
theorem dX6_digest_144 : decode cX6_digest 144 = .ok (.aload_n 0, 1) := by decide +kernel
theorem dX6_digest_145 : decode cX6_digest 145 = .ok (.getfield 22, 3) := by decide +kernel
theorem dX6_digest_148 : decode cX6_digest 148 = .ok (.bipush 7, 2) := by decide +kernel
theorem dX6_digest_150 : decode cX6_digest 150 = .ok (.iaload, 1) := by decide +kernel
theorem dX6_digest_151 : decode cX6_digest 151 = .ok (.if_icmp .ge 39, 3) := by decide +kernel
theorem dX6_digest_154 : decode cX6_digest 154 = .ok (.iconst 0, 1) := by decide +kernel
theorem dX6_digest_155 : decode cX6_digest 155 = .ok (.istore 4, 2) := by decide +kernel
theorem dX6_digest_157 : decode cX6_digest 157 = .ok (.iload 4, 2) := by decide +kernel
theorem dX6_digest_159 : decode cX6_digest 159 = .ok (.iconst 4, 1) := by decide +kernel
theorem dX6_digest_160 : decode cX6_digest 160 = .ok (.if_icmp .ge 24, 3) := by decide +kernel
theorem dX6_digest_163 : decode cX6_digest 163 = .ok (.lload_n 1, 1) := by decide +kernel
theorem dX6_digest_164 : decode cX6_digest 164 = .ok (.ldc2_w 128, 3) := by decide +kernel
theorem dX6_digest_167 : decode cX6_digest 167 = .ok (.lmul, 1) := by decide +kernel
theorem dX6_digest_168 : decode cX6_digest 168 = .ok (.aload_n 0, 1) := by decide +kernel
theorem dX6_digest_169 : decode cX6_digest 169 = .ok (.iload_n 3, 1) := by decide +kernel
theorem dX6_digest_170 : decode cX6_digest 170 = .ok (.iload 4, 2) := by decide +kernel
theorem dX6_digest_172 : decode cX6_digest 172 = .ok (.invokevirtual 105, 3) := by decide +kernel
theorem dX6_digest_175 : decode cX6_digest 175 = .ok (.i2l, 1) := by decide +kernel
theorem dX6_digest_176 : decode cX6_digest 176 = .ok (.ladd, 1) := by decide +kernel
theorem dX6_digest_177 : decode cX6_digest 177 = .ok (.lstore_n 1, 1) := by decide +kernel
theorem dX6_digest_178 : decode cX6_digest 178 = .ok (.iinc 4 1, 3) := by decide +kernel
theorem dX6_digest_181 : decode cX6_digest 181 = .ok (.goto (-24), 3) := by decide +kernel
theorem dX6_digest_184 : decode cX6_digest 184 = .ok (.iinc 3 1, 3) := by decide +kernel
theorem dX6_digest_187 : decode cX6_digest 187 = .ok (.goto (-44), 3) := by decide +kernel
theorem dX6_digest_190 : decode cX6_digest 190 = .ok (.iconst 0, 1) := by decide +kernel
theorem dX6_digest_191 : decode cX6_digest 191 = .ok (.istore_n 3, 1) := by decide +kernel
theorem dX6_digest_192 : decode cX6_digest 192 = .ok (.iload_n 3, 1) := by decide +kernel
theorem dX6_digest_193 : decode cX6_digest 193 = .ok (.iconst 4, 1) := by decide +kernel
theorem dX6_digest_194 : decode cX6_digest 194 = .ok (.aload_n 0, 1) := by decide +kernel
theorem dX6_digest_195 : decode cX6_digest 195 = .ok (.getfield 64, 3) := by decide +kernel
theorem dX6_digest_198 : decode cX6_digest 198 = .ok (.imul, 1) := by decide +kernel
theorem dX6_digest_199 : decode cX6_digest 199 = .ok (.if_icmp .ge 23, 3) := by decide +kernel
theorem dX6_digest_202 : decode cX6_digest 202 = .ok (.lload_n 1, 1) := by decide +kernel
theorem dX6_digest_203 : decode cX6_digest 203 = .ok (.ldc2_w 128, 3) := by decide +kernel
theorem dX6_digest_206 : decode cX6_digest 206 = .ok (.lmul, 1) := by decide +kernel
theorem dX6_digest_207 : decode cX6_digest 207 = .ok (.aload_n 0, 1) := by decide +kernel
theorem dX6_digest_208 : decode cX6_digest 208 = .ok (.getfield 19, 3) := by decide +kernel
theorem dX6_digest_211 : decode cX6_digest 211 = .ok (.iload_n 3, 1) := by decide +kernel
theorem dX6_digest_212 : decode cX6_digest 212 = .ok (.iaload, 1) := by decide +kernel
theorem dX6_digest_213 : decode cX6_digest 213 = .ok (.i2l, 1) := by decide +kernel
theorem dX6_digest_214 : decode cX6_digest 214 = .ok (.ladd, 1) := by decide +kernel
theorem dX6_digest_215 : decode cX6_digest 215 = .ok (.lstore_n 1, 1) := by decide +kernel
theorem dX6_digest_216 : decode cX6_digest 216 = .ok (.iinc 3 1, 3) := by decide +kernel
theorem dX6_digest_219 : decode cX6_digest 219 = .ok (.goto (-27), 3) := by decide +kernel
theorem dX6_digest_222 : decode cX6_digest 222 = .ok (.lload_n 1, 1) := by decide +kernel
theorem dX6_digest_223 : decode cX6_digest 223 = .ok (.lreturn, 1) := by decide +kernel
theorem dJ9_floorMod_7cf53_0 : decode cJ9_floorMod_7cf53 0 = .ok (.iload_n 0, 1) := by decide +kernel
theorem dJ9_floorMod_7cf53_1 : decode cJ9_floorMod_7cf53 1 = .ok (.iload_n 1, 1) := by decide +kernel
theorem dJ9_floorMod_7cf53_2 : decode cJ9_floorMod_7cf53 2 = .ok (.irem, 1) := by decide +kernel
theorem dJ9_floorMod_7cf53_3 : decode cJ9_floorMod_7cf53 3 = .ok (.istore_n 2, 1) := by decide +kernel
theorem dJ9_floorMod_7cf53_4 : decode cJ9_floorMod_7cf53 4 = .ok (.iload_n 0, 1) := by decide +kernel
theorem dJ9_floorMod_7cf53_5 : decode cJ9_floorMod_7cf53 5 = .ok (.iload_n 1, 1) := by decide +kernel
theorem dJ9_floorMod_7cf53_6 : decode cJ9_floorMod_7cf53 6 = .ok (.ixor, 1) := by decide +kernel
theorem dJ9_floorMod_7cf53_7 : decode cJ9_floorMod_7cf53 7 = .ok (.ifCond .ge 11, 3) := by decide +kernel
theorem dJ9_floorMod_7cf53_10 : decode cJ9_floorMod_7cf53 10 = .ok (.iload_n 2, 1) := by decide +kernel
theorem dJ9_floorMod_7cf53_11 : decode cJ9_floorMod_7cf53 11 = .ok (.ifCond .eq 7, 3) := by decide +kernel
theorem dJ9_floorMod_7cf53_14 : decode cJ9_floorMod_7cf53 14 = .ok (.iload_n 2, 1) := by decide +kernel
theorem dJ9_floorMod_7cf53_15 : decode cJ9_floorMod_7cf53 15 = .ok (.iload_n 1, 1) := by decide +kernel
theorem dJ9_floorMod_7cf53_16 : decode cJ9_floorMod_7cf53 16 = .ok (.iadd, 1) := by decide +kernel
theorem dJ9_floorMod_7cf53_17 : decode cJ9_floorMod_7cf53 17 = .ok (.ireturn, 1) := by decide +kernel
theorem dJ9_floorMod_7cf53_18 : decode cJ9_floorMod_7cf53 18 = .ok (.iload_n 2, 1) := by decide +kernel
theorem dJ9_floorMod_7cf53_19 : decode cJ9_floorMod_7cf53 19 = .ok (.ireturn, 1) := by decide +kernel
theorem dJ9_max_7cf53_0 : decode cJ9_max_7cf53 0 = .ok (.iload_n 0, 1) := by decide +kernel
theorem dJ9_max_7cf53_1 : decode cJ9_max_7cf53 1 = .ok (.iload_n 1, 1) := by decide +kernel
theorem dJ9_max_7cf53_2 : decode cJ9_max_7cf53 2 = .ok (.if_icmp .lt 7, 3) := by decide +kernel
theorem dJ9_max_7cf53_5 : decode cJ9_max_7cf53 5 = .ok (.iload_n 0, 1) := by decide +kernel
theorem dJ9_max_7cf53_6 : decode cJ9_max_7cf53 6 = .ok (.goto 4, 3) := by decide +kernel
theorem dJ9_max_7cf53_9 : decode cJ9_max_7cf53 9 = .ok (.iload_n 1, 1) := by decide +kernel
theorem dJ9_max_7cf53_10 : decode cJ9_max_7cf53 10 = .ok (.ireturn, 1) := by decide +kernel
theorem dJ9_min_7cf53_0 : decode cJ9_min_7cf53 0 = .ok (.iload_n 0, 1) := by decide +kernel
theorem dJ9_min_7cf53_1 : decode cJ9_min_7cf53 1 = .ok (.iload_n 1, 1) := by decide +kernel
theorem dJ9_min_7cf53_2 : decode cJ9_min_7cf53 2 = .ok (.if_icmp .gt 7, 3) := by decide +kernel
theorem dJ9_min_7cf53_5 : decode cJ9_min_7cf53 5 = .ok (.iload_n 0, 1) := by decide +kernel
theorem dJ9_min_7cf53_6 : decode cJ9_min_7cf53 6 = .ok (.goto 4, 3) := by decide +kernel
theorem dJ9_min_7cf53_9 : decode cJ9_min_7cf53 9 = .ok (.iload_n 1, 1) := by decide +kernel
theorem dJ9_min_7cf53_10 : decode cJ9_min_7cf53 10 = .ok (.ireturn, 1) := by decide +kernel
set_option maxRecDepth 20000 in
theorem ggL_dimmer_X5_dimmer : GoodIn wsL_dimmer wsX5_dimmer := goodIn_ca (goodIn_ca (goodIn_r _ [7, 8, 9, 10, 11, 12, 13, 14, 15, 16, 6, 17, 18, 19, 20, 21, 22, 23, 24, 25, 26, 27, 28, 29, 30, 31, 32, 33, 34, 35, 36, 37, 38, 39, 40, 41, 42, 43, 44, 45, 46, 47] (by decide +kernel) (by decide +kernel)) (goodIn_sub (fun _ h => List.mem_cons_of_mem _ (List.mem_append_left _ (List.mem_append_right _ h))) (by decide +kernel))) (goodIn_sub (fun _ h => List.mem_cons_of_mem _ (List.mem_append_right _ h)) (by decide +kernel))
set_option maxRecDepth 20000 in
theorem gL_dimmer_X5_dimmer : GoodIn wsL_dimmer (wsV RL 7 RX5 yX5_dimmer wsX5_dimmer) := goodIn_app (goodIn_of _ (by decide +kernel)) ggL_dimmer_X5_dimmer
