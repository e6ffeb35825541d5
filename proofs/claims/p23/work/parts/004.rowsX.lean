theorem dX0_init_0 : decode cX0_init 0 = .ok (.aload_n 0, 1) := by decide +kernel
theorem dX0_init_1 : decode cX0_init 1 = .ok (.invokespecial 3, 3) := by decide +kernel
theorem dX0_init_4 : decode cX0_init 4 = .ok (.aload_n 0, 1) := by decide +kernel
theorem dX0_init_5 : decode cX0_init 5 = .ok (.bipush 12, 2) := by decide +kernel
theorem dX0_init_7 : decode cX0_init 7 = .ok (.newarray .int, 2) := by decide +kernel
theorem dX0_init_9 : decode cX0_init 9 = .ok (.putfield 9, 3) := by decide +kernel
theorem dX0_init_12 : decode cX0_init 12 = .ok (.aload_n 0, 1) := by decide +kernel
theorem dX0_init_13 : decode cX0_init 13 = .ok (.bipush 12, 2) := by decide +kernel
theorem dX0_init_15 : decode cX0_init 15 = .ok (.newarray .int, 2) := by decide +kernel
theorem dX0_init_17 : decode cX0_init 17 = .ok (.putfield 15, 3) := by decide +kernel
theorem dX0_init_20 : decode cX0_init 20 = .ok (.aload_n 0, 1) := by decide +kernel
theorem dX0_init_21 : decode cX0_init 21 = .ok (.bipush 12, 2) := by decide +kernel
theorem dX0_init_23 : decode cX0_init 23 = .ok (.newarray .int, 2) := by decide +kernel
theorem dX0_init_25 : decode cX0_init 25 = .ok (.putfield 18, 3) := by decide +kernel
theorem dX0_init_28 : decode cX0_init 28 = .ok (.return_, 1) := by decide +kernel
theorem dX0_has_0 : decode cX0_has 0 = .ok (.iload_n 1, 1) := by decide +kernel
theorem dX0_has_1 : decode cX0_has 1 = .ok (.ifCond .lt 15, 3) := by decide +kernel
theorem dX0_has_4 : decode cX0_has 4 = .ok (.iload_n 1, 1) := by decide +kernel
theorem dX0_has_5 : decode cX0_has 5 = .ok (.aload_n 0, 1) := by decide +kernel
theorem dX0_has_6 : decode cX0_has 6 = .ok (.getfield 21, 3) := by decide +kernel
theorem dX0_has_9 : decode cX0_has 9 = .ok (.if_icmp .ge 7, 3) := by decide +kernel
theorem dX0_has_12 : decode cX0_has 12 = .ok (.iconst 1, 1) := by decide +kernel
theorem dX0_has_13 : decode cX0_has 13 = .ok (.goto 4, 3) := by decide +kernel
theorem dX0_has_16 : decode cX0_has 16 = .ok (.iconst 0, 1) := by decide +kernel
theorem dX0_has_17 : decode cX0_has 17 = .ok (.ireturn, 1) := by decide +kernel
theorem dX0_addIfRoom_0 : decode cX0_addIfRoom 0 = .ok (.aload_n 0, 1) := by decide +kernel
theorem dX0_addIfRoom_1 : decode cX0_addIfRoom 1 = .ok (.getfield 21, 3) := by decide +kernel
theorem dX0_addIfRoom_4 : decode cX0_addIfRoom 4 = .ok (.bipush 12, 2) := by decide +kernel
theorem dX0_addIfRoom_6 : decode cX0_addIfRoom 6 = .ok (.if_icmp .lt 4, 3) := by decide +kernel
theorem dX0_addIfRoom_9 : decode cX0_addIfRoom 9 = .ok (.return_, 1) := by decide +kernel
theorem dX0_addIfRoom_10 : decode cX0_addIfRoom 10 = .ok (.aload_n 0, 1) := by decide +kernel
theorem dX0_addIfRoom_11 : decode cX0_addIfRoom 11 = .ok (.getfield 21, 3) := by decide +kernel
theorem dX0_addIfRoom_14 : decode cX0_addIfRoom 14 = .ok (.istore_n 3, 1) := by decide +kernel
theorem dX0_addIfRoom_15 : decode cX0_addIfRoom 15 = .ok (.aload_n 0, 1) := by decide +kernel
theorem dX0_addIfRoom_16 : decode cX0_addIfRoom 16 = .ok (.getfield 9, 3) := by decide +kernel
theorem dX0_addIfRoom_19 : decode cX0_addIfRoom 19 = .ok (.iload_n 3, 1) := by decide +kernel
theorem dX0_addIfRoom_20 : decode cX0_addIfRoom 20 = .ok (.iload_n 1, 1) := by decide +kernel
theorem dX0_addIfRoom_21 : decode cX0_addIfRoom 21 = .ok (.iastore, 1) := by decide +kernel
theorem dX0_addIfRoom_22 : decode cX0_addIfRoom 22 = .ok (.aload_n 0, 1) := by decide +kernel
theorem dX0_addIfRoom_23 : decode cX0_addIfRoom 23 = .ok (.getfield 15, 3) := by decide +kernel
theorem dX0_addIfRoom_26 : decode cX0_addIfRoom 26 = .ok (.iload_n 3, 1) := by decide +kernel
theorem dX0_addIfRoom_27 : decode cX0_addIfRoom 27 = .ok (.iload_n 2, 1) := by decide +kernel
theorem dX0_addIfRoom_28 : decode cX0_addIfRoom 28 = .ok (.iastore, 1) := by decide +kernel
theorem dX0_addIfRoom_29 : decode cX0_addIfRoom 29 = .ok (.aload_n 0, 1) := by decide +kernel
theorem dX0_addIfRoom_30 : decode cX0_addIfRoom 30 = .ok (.getfield 18, 3) := by decide +kernel
theorem dX0_addIfRoom_33 : decode cX0_addIfRoom 33 = .ok (.iload_n 3, 1) := by decide +kernel
theorem dX0_addIfRoom_34 : decode cX0_addIfRoom 34 = .ok (.bipush 20, 2) := by decide +kernel
theorem dX0_addIfRoom_36 : decode cX0_addIfRoom 36 = .ok (.iastore, 1) := by decide +kernel
theorem dX0_addIfRoom_37 : decode cX0_addIfRoom 37 = .ok (.aload_n 0, 1) := by decide +kernel
theorem dX0_addIfRoom_38 : decode cX0_addIfRoom 38 = .ok (.iload_n 3, 1) := by decide +kernel
theorem dX0_addIfRoom_39 : decode cX0_addIfRoom 39 = .ok (.iconst 1, 1) := by decide +kernel
theorem dX0_addIfRoom_40 : decode cX0_addIfRoom 40 = .ok (.iadd, 1) := by decide +kernel
theorem dX0_addIfRoom_41 : decode cX0_addIfRoom 41 = .ok (.putfield 21, 3) := by decide +kernel
theorem dX0_addIfRoom_44 : decode cX0_addIfRoom 44 = .ok (.return_, 1) := by decide +kernel
set_option maxRecDepth 20000 in
theorem ggX0_goOn_X5_turned : GoodIn wsX0_goOn wsX5_turned := goodIn_r _ [7, 8, 9, 10, 11] (by decide +kernel) (by decide +kernel)
set_option maxRecDepth 20000 in
theorem gX0_goOn_X5_turned_n25 : GoodIn wsX0_goOn (wsX5_turned) := ggX0_goOn_X5_turned
theorem dX0_goOn_0 : decode cX0_goOn 0 = .ok (.iconst 0, 1) := by decide +kernel
theorem dX0_goOn_1 : decode cX0_goOn 1 = .ok (.istore_n 1, 1) := by decide +kernel
theorem dX0_goOn_2 : decode cX0_goOn 2 = .ok (.iload_n 1, 1) := by decide +kernel
theorem dX0_goOn_3 : decode cX0_goOn 3 = .ok (.aload_n 0, 1) := by decide +kernel
theorem dX0_goOn_4 : decode cX0_goOn 4 = .ok (.getfield 21, 3) := by decide +kernel
theorem dX0_goOn_7 : decode cX0_goOn 7 = .ok (.if_icmp .ge 49, 3) := by decide +kernel
theorem dX0_goOn_10 : decode cX0_goOn 10 = .ok (.aload_n 0, 1) := by decide +kernel
theorem dX0_goOn_11 : decode cX0_goOn 11 = .ok (.getfield 18, 3) := by decide +kernel
theorem dX0_goOn_14 : decode cX0_goOn 14 = .ok (.iload_n 1, 1) := by decide +kernel
theorem dX0_goOn_15 : decode cX0_goOn 15 = .ok (.iaload, 1) := by decide +kernel
theorem dX0_goOn_16 : decode cX0_goOn 16 = .ok (.ifCond .le 34, 3) := by decide +kernel
theorem dX0_goOn_19 : decode cX0_goOn 19 = .ok (.aload_n 0, 1) := by decide +kernel
theorem dX0_goOn_20 : decode cX0_goOn 20 = .ok (.getfield 9, 3) := by decide +kernel
theorem dX0_goOn_23 : decode cX0_goOn 23 = .ok (.iload_n 1, 1) := by decide +kernel
theorem dX0_goOn_24 : decode cX0_goOn 24 = .ok (.aload_n 0, 1) := by decide +kernel
theorem dX0_goOn_25 : decode cX0_goOn 25 = .ok (.getfield 9, 3) := by decide +kernel
theorem dX0_goOn_28 : decode cX0_goOn 28 = .ok (.iload_n 1, 1) := by decide +kernel
theorem dX0_goOn_29 : decode cX0_goOn 29 = .ok (.iaload, 1) := by decide +kernel
theorem dX0_goOn_30 : decode cX0_goOn 30 = .ok (.aload_n 0, 1) := by decide +kernel
theorem dX0_goOn_31 : decode cX0_goOn 31 = .ok (.getfield 15, 3) := by decide +kernel
theorem dX0_goOn_34 : decode cX0_goOn 34 = .ok (.iload_n 1, 1) := by decide +kernel
theorem dX0_goOn_35 : decode cX0_goOn 35 = .ok (.iaload, 1) := by decide +kernel
theorem dX0_goOn_36 : decode cX0_goOn 36 = .ok (.invokestatic 25, 3) := by decide +kernel
theorem dX0_goOn_39 : decode cX0_goOn 39 = .ok (.iastore, 1) := by decide +kernel
theorem dX0_goOn_40 : decode cX0_goOn 40 = .ok (.aload_n 0, 1) := by decide +kernel
theorem dX0_goOn_41 : decode cX0_goOn 41 = .ok (.getfield 18, 3) := by decide +kernel
theorem dX0_goOn_44 : decode cX0_goOn 44 = .ok (.iload_n 1, 1) := by decide +kernel
theorem dX0_goOn_45 : decode cX0_goOn 45 = .ok (.dup2, 1) := by decide +kernel
theorem dX0_goOn_46 : decode cX0_goOn 46 = .ok (.iaload, 1) := by decide +kernel
theorem dX0_goOn_47 : decode cX0_goOn 47 = .ok (.iconst 1, 1) := by decide +kernel
theorem dX0_goOn_48 : decode cX0_goOn 48 = .ok (.isub, 1) := by decide +kernel
theorem dX0_goOn_49 : decode cX0_goOn 49 = .ok (.iastore, 1) := by decide +kernel
theorem dX0_goOn_50 : decode cX0_goOn 50 = .ok (.iinc 1 1, 3) := by decide +kernel
theorem dX0_goOn_53 : decode cX0_goOn 53 = .ok (.goto (-51), 3) := by decide +kernel
theorem dX0_goOn_56 : decode cX0_goOn 56 = .ok (.return_, 1) := by decide +kernel
theorem dX0_become_0 : decode cX0_become 0 = .ok (.iconst 0, 1) := by decide +kernel
theorem dX0_become_1 : decode cX0_become 1 = .ok (.istore_n 2, 1) := by decide +kernel
theorem dX0_become_2 : decode cX0_become 2 = .ok (.iload_n 2, 1) := by decide +kernel
theorem dX0_become_3 : decode cX0_become 3 = .ok (.bipush 12, 2) := by decide +kernel
theorem dX0_become_5 : decode cX0_become 5 = .ok (.if_icmp .ge 45, 3) := by decide +kernel
theorem dX0_become_8 : decode cX0_become 8 = .ok (.aload_n 0, 1) := by decide +kernel
theorem dX0_become_9 : decode cX0_become 9 = .ok (.getfield 9, 3) := by decide +kernel
theorem dX0_become_12 : decode cX0_become 12 = .ok (.iload_n 2, 1) := by decide +kernel
theorem dX0_become_13 : decode cX0_become 13 = .ok (.aload_n 1, 1) := by decide +kernel
theorem dX0_become_14 : decode cX0_become 14 = .ok (.getfield 9, 3) := by decide +kernel
theorem dX0_become_17 : decode cX0_become 17 = .ok (.iload_n 2, 1) := by decide +kernel
theorem dX0_become_18 : decode cX0_become 18 = .ok (.iaload, 1) := by decide +kernel
theorem dX0_become_19 : decode cX0_become 19 = .ok (.iastore, 1) := by decide +kernel
theorem dX0_become_20 : decode cX0_become 20 = .ok (.aload_n 0, 1) := by decide +kernel
theorem dX0_become_21 : decode cX0_become 21 = .ok (.getfield 15, 3) := by decide +kernel
theorem dX0_become_24 : decode cX0_become 24 = .ok (.iload_n 2, 1) := by decide +kernel
theorem dX0_become_25 : decode cX0_become 25 = .ok (.aload_n 1, 1) := by decide +kernel
theorem dX0_become_26 : decode cX0_become 26 = .ok (.getfield 15, 3) := by decide +kernel
theorem dX0_become_29 : decode cX0_become 29 = .ok (.iload_n 2, 1) := by decide +kernel
theorem dX0_become_30 : decode cX0_become 30 = .ok (.iaload, 1) := by decide +kernel
theorem dX0_become_31 : decode cX0_become 31 = .ok (.iastore, 1) := by decide +kernel
theorem dX0_become_32 : decode cX0_become 32 = .ok (.aload_n 0, 1) := by decide +kernel
theorem dX0_become_33 : decode cX0_become 33 = .ok (.getfield 18, 3) := by decide +kernel
theorem dX0_become_36 : decode cX0_become 36 = .ok (.iload_n 2, 1) := by decide +kernel
theorem dX0_become_37 : decode cX0_become 37 = .ok (.aload_n 1, 1) := by decide +kernel
theorem dX0_become_38 : decode cX0_become 38 = .ok (.getfield 18, 3) := by decide +kernel
theorem dX0_become_41 : decode cX0_become 41 = .ok (.iload_n 2, 1) := by decide +kernel
theorem dX0_become_42 : decode cX0_become 42 = .ok (.iaload, 1) := by decide +kernel
theorem dX0_become_43 : decode cX0_become 43 = .ok (.iastore, 1) := by decide +kernel
theorem dX0_become_44 : decode cX0_become 44 = .ok (.iinc 2 1, 3) := by decide +kernel
theorem dX0_become_47 : decode cX0_become 47 = .ok (.goto (-45), 3) := by decide +kernel
theorem dX0_become_50 : decode cX0_become 50 = .ok (.aload_n 0, 1) := by decide +kernel
theorem dX0_become_51 : decode cX0_become 51 = .ok (.aload_n 1, 1) := by decide +kernel
theorem dX0_become_52 : decode cX0_become 52 = .ok (.getfield 21, 3) := by decide +kernel
theorem dX0_become_55 : decode cX0_become 55 = .ok (.putfield 21, 3) := by decide +kernel
theorem dX0_become_58 : decode cX0_become 58 = .ok (.return_, 1) := by decide +kernel
theorem dX1_init_0 : decode cX1_init 0 = .ok (.aload_n 0, 1) := by decide +kernel
theorem dX1_init_1 : decode cX1_init 1 = .ok (.invokespecial 3, 3) := by decide +kernel
theorem dX1_init_4 : decode cX1_init 4 = .ok (.aload_n 0, 1) := by decide +kernel
theorem dX1_init_5 : decode cX1_init 5 = .ok (.bipush 24, 2) := by decide +kernel
theorem dX1_init_7 : decode cX1_init 7 = .ok (.newarray .int, 2) := by decide +kernel
theorem dX1_init_9 : decode cX1_init 9 = .ok (.putfield 9, 3) := by decide +kernel
theorem dX1_init_12 : decode cX1_init 12 = .ok (.aload_n 0, 1) := by decide +kernel
theorem dX1_init_13 : decode cX1_init 13 = .ok (.bipush 24, 2) := by decide +kernel
theorem dX1_init_15 : decode cX1_init 15 = .ok (.newarray .int, 2) := by decide +kernel
theorem dX1_init_17 : decode cX1_init 17 = .ok (.putfield 15, 3) := by decide +kernel
theorem dX1_init_20 : decode cX1_init 20 = .ok (.aload_n 0, 1) := by decide +kernel
theorem dX1_init_21 : decode cX1_init 21 = .ok (.bipush 24, 2) := by decide +kernel
theorem dX1_init_23 : decode cX1_init 23 = .ok (.newarray .int, 2) := by decide +kernel
theorem dX1_init_25 : decode cX1_init 25 = .ok (.putfield 18, 3) := by decide +kernel
theorem dX1_init_28 : decode cX1_init 28 = .ok (.aload_n 0, 1) := by decide +kernel
theorem dX1_init_29 : decode cX1_init 29 = .ok (.bipush 24, 2) := by decide +kernel
theorem dX1_init_31 : decode cX1_init 31 = .ok (.newarray .int, 2) := by decide +kernel
theorem dX1_init_33 : decode cX1_init 33 = .ok (.putfield 21, 3) := by decide +kernel
theorem dX1_init_36 : decode cX1_init 36 = .ok (.return_, 1) := by decide +kernel
theorem dX1_has_0 : decode cX1_has 0 = .ok (.iload_n 1, 1) := by decide +kernel
theorem dX1_has_1 : decode cX1_has 1 = .ok (.ifCond .lt 15, 3) := by decide +kernel
theorem dX1_has_4 : decode cX1_has 4 = .ok (.iload_n 1, 1) := by decide +kernel
theorem dX1_has_5 : decode cX1_has 5 = .ok (.aload_n 0, 1) := by decide +kernel
theorem dX1_has_6 : decode cX1_has 6 = .ok (.getfield 24, 3) := by decide +kernel
theorem dX1_has_9 : decode cX1_has 9 = .ok (.if_icmp .ge 7, 3) := by decide +kernel
theorem dX1_has_12 : decode cX1_has 12 = .ok (.iconst 1, 1) := by decide +kernel
theorem dX1_has_13 : decode cX1_has 13 = .ok (.goto 4, 3) := by decide +kernel
theorem dX1_has_16 : decode cX1_has 16 = .ok (.iconst 0, 1) := by decide +kernel
theorem dX1_has_17 : decode cX1_has 17 = .ok (.ireturn, 1) := by decide +kernel
theorem dX1_add_0 : decode cX1_add 0 = .ok (.aload_n 0, 1) := by decide +kernel
theorem dX1_add_1 : decode cX1_add 1 = .ok (.getfield 24, 3) := by decide +kernel
theorem dX1_add_4 : decode cX1_add 4 = .ok (.bipush 24, 2) := by decide +kernel
theorem dX1_add_6 : decode cX1_add 6 = .ok (.if_icmp .lt 5, 3) := by decide +kernel
theorem dX1_add_9 : decode cX1_add 9 = .ok (.iconst (-1), 1) := by decide +kernel
theorem dX1_add_10 : decode cX1_add 10 = .ok (.ireturn, 1) := by decide +kernel
theorem dX1_add_11 : decode cX1_add 11 = .ok (.aload_n 0, 1) := by decide +kernel
theorem dX1_add_12 : decode cX1_add 12 = .ok (.getfield 24, 3) := by decide +kernel
theorem dX1_add_15 : decode cX1_add 15 = .ok (.istore 5, 2) := by decide +kernel
theorem dX1_add_17 : decode cX1_add 17 = .ok (.aload_n 0, 1) := by decide +kernel
theorem dX1_add_18 : decode cX1_add 18 = .ok (.getfield 9, 3) := by decide +kernel
theorem dX1_add_21 : decode cX1_add 21 = .ok (.iload 5, 2) := by decide +kernel
theorem dX1_add_23 : decode cX1_add 23 = .ok (.iload_n 1, 1) := by decide +kernel
theorem dX1_add_24 : decode cX1_add 24 = .ok (.iastore, 1) := by decide +kernel
theorem dX1_add_25 : decode cX1_add 25 = .ok (.aload_n 0, 1) := by decide +kernel
theorem dX1_add_26 : decode cX1_add 26 = .ok (.getfield 15, 3) := by decide +kernel
theorem dX1_add_29 : decode cX1_add 29 = .ok (.iload 5, 2) := by decide +kernel
theorem dX1_add_31 : decode cX1_add 31 = .ok (.iload_n 2, 1) := by decide +kernel
theorem dX1_add_32 : decode cX1_add 32 = .ok (.iastore, 1) := by decide +kernel
theorem dX1_add_33 : decode cX1_add 33 = .ok (.aload_n 0, 1) := by decide +kernel
theorem dX1_add_34 : decode cX1_add 34 = .ok (.getfield 18, 3) := by decide +kernel
theorem dX1_add_37 : decode cX1_add 37 = .ok (.iload 5, 2) := by decide +kernel
theorem dX1_add_39 : decode cX1_add 39 = .ok (.iload_n 3, 1) := by decide +kernel
theorem dX1_add_40 : decode cX1_add 40 = .ok (.iastore, 1) := by decide +kernel
theorem dX1_add_41 : decode cX1_add 41 = .ok (.aload_n 0, 1) := by decide +kernel
theorem dX1_add_42 : decode cX1_add 42 = .ok (.getfield 21, 3) := by decide +kernel
theorem dX1_add_45 : decode cX1_add 45 = .ok (.iload 5, 2) := by decide +kernel
theorem dX1_add_47 : decode cX1_add 47 = .ok (.iload 4, 2) := by decide +kernel
theorem dX1_add_49 : decode cX1_add 49 = .ok (.iastore, 1) := by decide +kernel
theorem dX1_add_50 : decode cX1_add 50 = .ok (.aload_n 0, 1) := by decide +kernel
theorem dX1_add_51 : decode cX1_add 51 = .ok (.iload 5, 2) := by decide +kernel
theorem dX1_add_53 : decode cX1_add 53 = .ok (.iconst 1, 1) := by decide +kernel
theorem dX1_add_54 : decode cX1_add 54 = .ok (.iadd, 1) := by decide +kernel
theorem dX1_add_55 : decode cX1_add 55 = .ok (.putfield 24, 3) := by decide +kernel
theorem dX1_add_58 : decode cX1_add 58 = .ok (.iload 5, 2) := by decide +kernel
theorem dX1_add_60 : decode cX1_add 60 = .ok (.ireturn, 1) := by decide +kernel
set_option maxRecDepth 20000 in
theorem ggX1_timeOf_X1_has : GoodIn wsX1_timeOf wsX1_has := goodIn_r _ [6, 7, 8, 9, 10, 11, 12] (by decide +kernel) (by decide +kernel)
set_option maxRecDepth 20000 in
theorem gX1_timeOf_X1_has : GoodIn wsX1_timeOf (wsV RX1 28 RX1 yX1_has wsX1_has) := goodIn_app (goodIn_of _ (by decide +kernel)) ggX1_timeOf_X1_has
theorem dX1_timeOf_0 : decode cX1_timeOf 0 = .ok (.aload_n 0, 1) := by decide +kernel
theorem dX1_timeOf_1 : decode cX1_timeOf 1 = .ok (.iload_n 1, 1) := by decide +kernel
theorem dX1_timeOf_2 : decode cX1_timeOf 2 = .ok (.invokevirtual 28, 3) := by decide +kernel
theorem dX1_timeOf_5 : decode cX1_timeOf 5 = .ok (.ifCond .eq 12, 3) := by decide +kernel
theorem dX1_timeOf_8 : decode cX1_timeOf 8 = .ok (.aload_n 0, 1) := by decide +kernel
theorem dX1_timeOf_9 : decode cX1_timeOf 9 = .ok (.getfield 9, 3) := by decide +kernel
theorem dX1_timeOf_12 : decode cX1_timeOf 12 = .ok (.iload_n 1, 1) := by decide +kernel
theorem dX1_timeOf_13 : decode cX1_timeOf 13 = .ok (.iaload, 1) := by decide +kernel
theorem dX1_timeOf_14 : decode cX1_timeOf 14 = .ok (.goto 4, 3) := by decide +kernel
theorem dX1_timeOf_17 : decode cX1_timeOf 17 = .ok (.iconst (-1), 1) := by decide +kernel
theorem dX1_timeOf_18 : decode cX1_timeOf 18 = .ok (.ireturn, 1) := by decide +kernel
set_option maxRecDepth 20000 in
theorem ggX1_firstFrom_X1_timeOf : GoodIn wsX1_firstFrom wsX1_timeOf := goodIn_r _ [7, 2, 8, 9, 10, 6, 11, 1, 12, 13, 14, 15, 16] (by decide +kernel) (by decide +kernel)
set_option maxRecDepth 20000 in
theorem gX1_firstFrom_X1_timeOf : GoodIn wsX1_firstFrom (wsV RX1 32 RX1 yX1_timeOf wsX1_timeOf) := goodIn_app (goodIn_of _ (by decide +kernel)) ggX1_firstFrom_X1_timeOf
theorem dX1_firstFrom_0 : decode cX1_firstFrom 0 = .ok (.iconst (-1), 1) := by decide +kernel
theorem dX1_firstFrom_1 : decode cX1_firstFrom 1 = .ok (.istore_n 2, 1) := by decide +kernel
theorem dX1_firstFrom_2 : decode cX1_firstFrom 2 = .ok (.iconst 0, 1) := by decide +kernel
theorem dX1_firstFrom_3 : decode cX1_firstFrom 3 = .ok (.istore_n 3, 1) := by decide +kernel
theorem dX1_firstFrom_4 : decode cX1_firstFrom 4 = .ok (.iload_n 3, 1) := by decide +kernel
theorem dX1_firstFrom_5 : decode cX1_firstFrom 5 = .ok (.aload_n 0, 1) := by decide +kernel
theorem dX1_firstFrom_6 : decode cX1_firstFrom 6 = .ok (.getfield 24, 3) := by decide +kernel
theorem dX1_firstFrom_9 : decode cX1_firstFrom 9 = .ok (.if_icmp .ge 40, 3) := by decide +kernel
theorem dX1_firstFrom_12 : decode cX1_firstFrom 12 = .ok (.aload_n 0, 1) := by decide +kernel
theorem dX1_firstFrom_13 : decode cX1_firstFrom 13 = .ok (.getfield 9, 3) := by decide +kernel
theorem dX1_firstFrom_16 : decode cX1_firstFrom 16 = .ok (.iload_n 3, 1) := by decide +kernel
theorem dX1_firstFrom_17 : decode cX1_firstFrom 17 = .ok (.iaload, 1) := by decide +kernel
theorem dX1_firstFrom_18 : decode cX1_firstFrom 18 = .ok (.iload_n 1, 1) := by decide +kernel
theorem dX1_firstFrom_19 : decode cX1_firstFrom 19 = .ok (.if_icmp .lt 24, 3) := by decide +kernel
theorem dX1_firstFrom_22 : decode cX1_firstFrom 22 = .ok (.iload_n 2, 1) := by decide +kernel
theorem dX1_firstFrom_23 : decode cX1_firstFrom 23 = .ok (.iconst (-1), 1) := by decide +kernel
theorem dX1_firstFrom_24 : decode cX1_firstFrom 24 = .ok (.if_icmp .eq 17, 3) := by decide +kernel
theorem dX1_firstFrom_27 : decode cX1_firstFrom 27 = .ok (.aload_n 0, 1) := by decide +kernel
theorem dX1_firstFrom_28 : decode cX1_firstFrom 28 = .ok (.getfield 9, 3) := by decide +kernel
theorem dX1_firstFrom_31 : decode cX1_firstFrom 31 = .ok (.iload_n 3, 1) := by decide +kernel
theorem dX1_firstFrom_32 : decode cX1_firstFrom 32 = .ok (.iaload, 1) := by decide +kernel
theorem dX1_firstFrom_33 : decode cX1_firstFrom 33 = .ok (.aload_n 0, 1) := by decide +kernel
theorem dX1_firstFrom_34 : decode cX1_firstFrom 34 = .ok (.iload_n 2, 1) := by decide +kernel
theorem dX1_firstFrom_35 : decode cX1_firstFrom 35 = .ok (.invokevirtual 32, 3) := by decide +kernel
theorem dX1_firstFrom_38 : decode cX1_firstFrom 38 = .ok (.if_icmp .ge 5, 3) := by decide +kernel
theorem dX1_firstFrom_41 : decode cX1_firstFrom 41 = .ok (.iload_n 3, 1) := by decide +kernel
theorem dX1_firstFrom_42 : decode cX1_firstFrom 42 = .ok (.istore_n 2, 1) := by decide +kernel
theorem dX1_firstFrom_43 : decode cX1_firstFrom 43 = .ok (.iinc 3 1, 3) := by decide +kernel
theorem dX1_firstFrom_46 : decode cX1_firstFrom 46 = .ok (.goto (-42), 3) := by decide +kernel
theorem dX1_firstFrom_49 : decode cX1_firstFrom 49 = .ok (.iload_n 2, 1) := by decide +kernel
theorem dX1_firstFrom_50 : decode cX1_firstFrom 50 = .ok (.ireturn, 1) := by decide +kernel
theorem dX1_holdWithin_0 : decode cX1_holdWithin 0 = .ok (.iconst 0, 1) := by decide +kernel
theorem dX1_holdWithin_1 : decode cX1_holdWithin 1 = .ok (.istore_n 3, 1) := by decide +kernel
theorem dX1_holdWithin_2 : decode cX1_holdWithin 2 = .ok (.iload_n 3, 1) := by decide +kernel
theorem dX1_holdWithin_3 : decode cX1_holdWithin 3 = .ok (.aload_n 0, 1) := by decide +kernel
theorem dX1_holdWithin_4 : decode cX1_holdWithin 4 = .ok (.getfield 24, 3) := by decide +kernel
theorem dX1_holdWithin_7 : decode cX1_holdWithin 7 = .ok (.if_icmp .ge 41, 3) := by decide +kernel
theorem dX1_holdWithin_10 : decode cX1_holdWithin 10 = .ok (.aload_n 0, 1) := by decide +kernel
theorem dX1_holdWithin_11 : decode cX1_holdWithin 11 = .ok (.getfield 15, 3) := by decide +kernel
theorem dX1_holdWithin_14 : decode cX1_holdWithin 14 = .ok (.iload_n 3, 1) := by decide +kernel
theorem dX1_holdWithin_15 : decode cX1_holdWithin 15 = .ok (.iaload, 1) := by decide +kernel
theorem dX1_holdWithin_16 : decode cX1_holdWithin 16 = .ok (.iconst 4, 1) := by decide +kernel
theorem dX1_holdWithin_17 : decode cX1_holdWithin 17 = .ok (.if_icmp .ne 25, 3) := by decide +kernel
theorem dX1_holdWithin_20 : decode cX1_holdWithin 20 = .ok (.aload_n 0, 1) := by decide +kernel
theorem dX1_holdWithin_21 : decode cX1_holdWithin 21 = .ok (.getfield 9, 3) := by decide +kernel
theorem dX1_holdWithin_24 : decode cX1_holdWithin 24 = .ok (.iload_n 3, 1) := by decide +kernel
theorem dX1_holdWithin_25 : decode cX1_holdWithin 25 = .ok (.iaload, 1) := by decide +kernel
theorem dX1_holdWithin_26 : decode cX1_holdWithin 26 = .ok (.iload_n 1, 1) := by decide +kernel
theorem dX1_holdWithin_27 : decode cX1_holdWithin 27 = .ok (.if_icmp .lt 15, 3) := by decide +kernel
theorem dX1_holdWithin_30 : decode cX1_holdWithin 30 = .ok (.aload_n 0, 1) := by decide +kernel
theorem dX1_holdWithin_31 : decode cX1_holdWithin 31 = .ok (.getfield 9, 3) := by decide +kernel
theorem dX1_holdWithin_34 : decode cX1_holdWithin 34 = .ok (.iload_n 3, 1) := by decide +kernel
theorem dX1_holdWithin_35 : decode cX1_holdWithin 35 = .ok (.iaload, 1) := by decide +kernel
theorem dX1_holdWithin_36 : decode cX1_holdWithin 36 = .ok (.iload_n 2, 1) := by decide +kernel
theorem dX1_holdWithin_37 : decode cX1_holdWithin 37 = .ok (.if_icmp .ge 5, 3) := by decide +kernel
theorem dX1_holdWithin_40 : decode cX1_holdWithin 40 = .ok (.iconst 1, 1) := by decide +kernel
theorem dX1_holdWithin_41 : decode cX1_holdWithin 41 = .ok (.ireturn, 1) := by decide +kernel
theorem dX1_holdWithin_42 : decode cX1_holdWithin 42 = .ok (.iinc 3 1, 3) := by decide +kernel
theorem dX1_holdWithin_45 : decode cX1_holdWithin 45 = .ok (.goto (-43), 3) := by decide +kernel
theorem dX1_holdWithin_48 : decode cX1_holdWithin 48 = .ok (.iconst 0, 1) := by decide +kernel
theorem dX1_holdWithin_49 : decode cX1_holdWithin 49 = .ok (.ireturn, 1) := by decide +kernel
theorem dX2_init_0 : decode cX2_init 0 = .ok (.aload_n 0, 1) := by decide +kernel
theorem dX2_init_1 : decode cX2_init 1 = .ok (.invokespecial 3, 3) := by decide +kernel
theorem dX2_init_4 : decode cX2_init 4 = .ok (.aload_n 0, 1) := by decide +kernel
theorem dX2_init_5 : decode cX2_init 5 = .ok (.bipush 8, 2) := by decide +kernel
theorem dX2_init_7 : decode cX2_init 7 = .ok (.newarray .int, 2) := by decide +kernel
theorem dX2_init_9 : decode cX2_init 9 = .ok (.putfield 9, 3) := by decide +kernel
theorem dX2_init_12 : decode cX2_init 12 = .ok (.aload_n 0, 1) := by decide +kernel
theorem dX2_init_13 : decode cX2_init 13 = .ok (.bipush 8, 2) := by decide +kernel
theorem dX2_init_15 : decode cX2_init 15 = .ok (.newarray .int, 2) := by decide +kernel
theorem dX2_init_17 : decode cX2_init 17 = .ok (.putfield 15, 3) := by decide +kernel
theorem dX2_init_20 : decode cX2_init 20 = .ok (.aload_n 0, 1) := by decide +kernel
theorem dX2_init_21 : decode cX2_init 21 = .ok (.bipush 8, 2) := by decide +kernel
theorem dX2_init_23 : decode cX2_init 23 = .ok (.newarray .int, 2) := by decide +kernel
theorem dX2_init_25 : decode cX2_init 25 = .ok (.putfield 18, 3) := by decide +kernel
theorem dX2_init_28 : decode cX2_init 28 = .ok (.aload_n 0, 1) := by decide +kernel
theorem dX2_init_29 : decode cX2_init 29 = .ok (.bipush 8, 2) := by decide +kernel
theorem dX2_init_31 : decode cX2_init 31 = .ok (.newarray .int, 2) := by decide +kernel
theorem dX2_init_33 : decode cX2_init 33 = .ok (.putfield 21, 3) := by decide +kernel
theorem dX2_init_36 : decode cX2_init 36 = .ok (.aload_n 0, 1) := by decide +kernel
theorem dX2_init_37 : decode cX2_init 37 = .ok (.bipush 8, 2) := by decide +kernel
theorem dX2_init_39 : decode cX2_init 39 = .ok (.newarray .int, 2) := by decide +kernel
theorem dX2_init_41 : decode cX2_init 41 = .ok (.putfield 24, 3) := by decide +kernel
theorem dX2_init_44 : decode cX2_init 44 = .ok (.return_, 1) := by decide +kernel
theorem dX2_has_0 : decode cX2_has 0 = .ok (.iload_n 1, 1) := by decide +kernel
theorem dX2_has_1 : decode cX2_has 1 = .ok (.ifCond .lt 15, 3) := by decide +kernel
theorem dX2_has_4 : decode cX2_has 4 = .ok (.iload_n 1, 1) := by decide +kernel
theorem dX2_has_5 : decode cX2_has 5 = .ok (.aload_n 0, 1) := by decide +kernel
theorem dX2_has_6 : decode cX2_has 6 = .ok (.getfield 27, 3) := by decide +kernel
theorem dX2_has_9 : decode cX2_has 9 = .ok (.if_icmp .ge 7, 3) := by decide +kernel
theorem dX2_has_12 : decode cX2_has 12 = .ok (.iconst 1, 1) := by decide +kernel
theorem dX2_has_13 : decode cX2_has 13 = .ok (.goto 4, 3) := by decide +kernel
theorem dX2_has_16 : decode cX2_has 16 = .ok (.iconst 0, 1) := by decide +kernel
theorem dX2_has_17 : decode cX2_has 17 = .ok (.ireturn, 1) := by decide +kernel
theorem dX2_add_0 : decode cX2_add 0 = .ok (.aload_n 0, 1) := by decide +kernel
theorem dX2_add_1 : decode cX2_add 1 = .ok (.getfield 27, 3) := by decide +kernel
theorem dX2_add_4 : decode cX2_add 4 = .ok (.bipush 8, 2) := by decide +kernel
theorem dX2_add_6 : decode cX2_add 6 = .ok (.if_icmp .lt 5, 3) := by decide +kernel
theorem dX2_add_9 : decode cX2_add 9 = .ok (.iconst (-1), 1) := by decide +kernel
theorem dX2_add_10 : decode cX2_add 10 = .ok (.ireturn, 1) := by decide +kernel
theorem dX2_add_11 : decode cX2_add 11 = .ok (.aload_n 0, 1) := by decide +kernel
theorem dX2_add_12 : decode cX2_add 12 = .ok (.getfield 27, 3) := by decide +kernel
theorem dX2_add_15 : decode cX2_add 15 = .ok (.istore 4, 2) := by decide +kernel
theorem dX2_add_17 : decode cX2_add 17 = .ok (.aload_n 0, 1) := by decide +kernel
theorem dX2_add_18 : decode cX2_add 18 = .ok (.getfield 9, 3) := by decide +kernel
theorem dX2_add_21 : decode cX2_add 21 = .ok (.iload 4, 2) := by decide +kernel
theorem dX2_add_23 : decode cX2_add 23 = .ok (.iload_n 1, 1) := by decide +kernel
theorem dX2_add_24 : decode cX2_add 24 = .ok (.iastore, 1) := by decide +kernel
theorem dX2_add_25 : decode cX2_add 25 = .ok (.aload_n 0, 1) := by decide +kernel
theorem dX2_add_26 : decode cX2_add 26 = .ok (.getfield 15, 3) := by decide +kernel
theorem dX2_add_29 : decode cX2_add 29 = .ok (.iload 4, 2) := by decide +kernel
theorem dX2_add_31 : decode cX2_add 31 = .ok (.iconst 0, 1) := by decide +kernel
theorem dX2_add_32 : decode cX2_add 32 = .ok (.iastore, 1) := by decide +kernel
theorem dX2_add_33 : decode cX2_add 33 = .ok (.aload_n 0, 1) := by decide +kernel
theorem dX2_add_34 : decode cX2_add 34 = .ok (.getfield 18, 3) := by decide +kernel
theorem dX2_add_37 : decode cX2_add 37 = .ok (.iload 4, 2) := by decide +kernel
theorem dX2_add_39 : decode cX2_add 39 = .ok (.iconst 0, 1) := by decide +kernel
theorem dX2_add_40 : decode cX2_add 40 = .ok (.iastore, 1) := by decide +kernel
theorem dX2_add_41 : decode cX2_add 41 = .ok (.aload_n 0, 1) := by decide +kernel
theorem dX2_add_42 : decode cX2_add 42 = .ok (.getfield 21, 3) := by decide +kernel
theorem dX2_add_45 : decode cX2_add 45 = .ok (.iload 4, 2) := by decide +kernel
theorem dX2_add_47 : decode cX2_add 47 = .ok (.iload_n 2, 1) := by decide +kernel
theorem dX2_add_48 : decode cX2_add 48 = .ok (.iastore, 1) := by decide +kernel
theorem dX2_add_49 : decode cX2_add 49 = .ok (.aload_n 0, 1) := by decide +kernel
theorem dX2_add_50 : decode cX2_add 50 = .ok (.getfield 24, 3) := by decide +kernel
theorem dX2_add_53 : decode cX2_add 53 = .ok (.iload 4, 2) := by decide +kernel
theorem dX2_add_55 : decode cX2_add 55 = .ok (.iload_n 3, 1) := by decide +kernel
theorem dX2_add_56 : decode cX2_add 56 = .ok (.iastore, 1) := by decide +kernel
theorem dX2_add_57 : decode cX2_add 57 = .ok (.aload_n 0, 1) := by decide +kernel
theorem dX2_add_58 : decode cX2_add 58 = .ok (.iload 4, 2) := by decide +kernel
theorem dX2_add_60 : decode cX2_add 60 = .ok (.iconst 1, 1) := by decide +kernel
theorem dX2_add_61 : decode cX2_add 61 = .ok (.iadd, 1) := by decide +kernel
theorem dX2_add_62 : decode cX2_add 62 = .ok (.putfield 27, 3) := by decide +kernel
theorem dX2_add_65 : decode cX2_add 65 = .ok (.iload 4, 2) := by decide +kernel
theorem dX2_add_67 : decode cX2_add 67 = .ok (.ireturn, 1) := by decide +kernel
set_option maxRecDepth 20000 in
theorem ggX2_changeLamp_X2_has : GoodIn wsX2_changeLamp wsX2_has := goodIn_r _ [6, 7, 13, 14, 15, 16, 17, 18] (by decide +kernel) (by decide +kernel)
set_option maxRecDepth 20000 in
theorem gX2_changeLamp_X2_has : GoodIn wsX2_changeLamp (wsV RX2 31 RX2 yX2_has wsX2_has) := goodIn_app (goodIn_of _ (by decide +kernel)) ggX2_changeLamp_X2_has
set_option maxRecDepth 20000 in
theorem ggX2_changeLamp_X2_darkenWithoutLife : GoodIn wsX2_changeLamp wsX2_darkenWithoutLife := goodIn_r _ [11, 1, 12, 2, 3, 4, 5, 6, 7, 13, 14, 15, 16, 17, 18] (by decide +kernel) (by decide +kernel)
set_option maxRecDepth 20000 in
theorem gX2_changeLamp_X2_darkenWithoutLife : GoodIn wsX2_changeLamp (wsV RX2 35 RX2 yX2_darkenWithoutLife wsX2_darkenWithoutLife) := goodIn_app (goodIn_of _ (by decide +kernel)) ggX2_changeLamp_X2_darkenWithoutLife
theorem dX2_changeLamp_0 : decode cX2_changeLamp 0 = .ok (.aload_n 0, 1) := by decide +kernel
theorem dX2_changeLamp_1 : decode cX2_changeLamp 1 = .ok (.iload_n 1, 1) := by decide +kernel
theorem dX2_changeLamp_2 : decode cX2_changeLamp 2 = .ok (.invokevirtual 31, 3) := by decide +kernel
theorem dX2_changeLamp_5 : decode cX2_changeLamp 5 = .ok (.ifCond .ne 5, 3) := by decide +kernel
theorem dX2_changeLamp_8 : decode cX2_changeLamp 8 = .ok (.iconst (-1), 1) := by decide +kernel
theorem dX2_changeLamp_9 : decode cX2_changeLamp 9 = .ok (.ireturn, 1) := by decide +kernel
theorem dX2_changeLamp_10 : decode cX2_changeLamp 10 = .ok (.aload_n 0, 1) := by decide +kernel
theorem dX2_changeLamp_11 : decode cX2_changeLamp 11 = .ok (.getfield 24, 3) := by decide +kernel
theorem dX2_changeLamp_14 : decode cX2_changeLamp 14 = .ok (.iload_n 1, 1) := by decide +kernel
theorem dX2_changeLamp_15 : decode cX2_changeLamp 15 = .ok (.iaload, 1) := by decide +kernel
theorem dX2_changeLamp_16 : decode cX2_changeLamp 16 = .ok (.istore_n 3, 1) := by decide +kernel
theorem dX2_changeLamp_17 : decode cX2_changeLamp 17 = .ok (.aload_n 0, 1) := by decide +kernel
theorem dX2_changeLamp_18 : decode cX2_changeLamp 18 = .ok (.getfield 24, 3) := by decide +kernel
theorem dX2_changeLamp_21 : decode cX2_changeLamp 21 = .ok (.iload_n 1, 1) := by decide +kernel
theorem dX2_changeLamp_22 : decode cX2_changeLamp 22 = .ok (.iload_n 2, 1) := by decide +kernel
theorem dX2_changeLamp_23 : decode cX2_changeLamp 23 = .ok (.iastore, 1) := by decide +kernel
theorem dX2_changeLamp_24 : decode cX2_changeLamp 24 = .ok (.aload_n 0, 1) := by decide +kernel
theorem dX2_changeLamp_25 : decode cX2_changeLamp 25 = .ok (.iload_n 1, 1) := by decide +kernel
theorem dX2_changeLamp_26 : decode cX2_changeLamp 26 = .ok (.invokevirtual 35, 3) := by decide +kernel
theorem dX2_changeLamp_29 : decode cX2_changeLamp 29 = .ok (.iload_n 3, 1) := by decide +kernel
theorem dX2_changeLamp_30 : decode cX2_changeLamp 30 = .ok (.ireturn, 1) := by decide +kernel
set_option maxRecDepth 20000 in
theorem ggX2_changeAim_X2_has : GoodIn wsX2_changeAim wsX2_has := goodIn_r _ [6, 7, 8, 9, 10, 11, 12, 13] (by decide +kernel) (by decide +kernel)
set_option maxRecDepth 20000 in
theorem gX2_changeAim_X2_has : GoodIn wsX2_changeAim (wsV RX2 31 RX2 yX2_has wsX2_has) := goodIn_app (goodIn_of _ (by decide +kernel)) ggX2_changeAim_X2_has
theorem dX2_changeAim_0 : decode cX2_changeAim 0 = .ok (.aload_n 0, 1) := by decide +kernel
theorem dX2_changeAim_1 : decode cX2_changeAim 1 = .ok (.iload_n 1, 1) := by decide +kernel
theorem dX2_changeAim_2 : decode cX2_changeAim 2 = .ok (.invokevirtual 31, 3) := by decide +kernel
theorem dX2_changeAim_5 : decode cX2_changeAim 5 = .ok (.ifCond .ne 5, 3) := by decide +kernel
theorem dX2_changeAim_8 : decode cX2_changeAim 8 = .ok (.iconst (-1), 1) := by decide +kernel
theorem dX2_changeAim_9 : decode cX2_changeAim 9 = .ok (.ireturn, 1) := by decide +kernel
theorem dX2_changeAim_10 : decode cX2_changeAim 10 = .ok (.aload_n 0, 1) := by decide +kernel
theorem dX2_changeAim_11 : decode cX2_changeAim 11 = .ok (.getfield 18, 3) := by decide +kernel
theorem dX2_changeAim_14 : decode cX2_changeAim 14 = .ok (.iload_n 1, 1) := by decide +kernel
theorem dX2_changeAim_15 : decode cX2_changeAim 15 = .ok (.iaload, 1) := by decide +kernel
theorem dX2_changeAim_16 : decode cX2_changeAim 16 = .ok (.istore_n 3, 1) := by decide +kernel
theorem dX2_changeAim_17 : decode cX2_changeAim 17 = .ok (.aload_n 0, 1) := by decide +kernel
theorem dX2_changeAim_18 : decode cX2_changeAim 18 = .ok (.getfield 18, 3) := by decide +kernel
theorem dX2_changeAim_21 : decode cX2_changeAim 21 = .ok (.iload_n 1, 1) := by decide +kernel
theorem dX2_changeAim_22 : decode cX2_changeAim 22 = .ok (.iload_n 2, 1) := by decide +kernel
theorem dX2_changeAim_23 : decode cX2_changeAim 23 = .ok (.iastore, 1) := by decide +kernel
theorem dX2_changeAim_24 : decode cX2_changeAim 24 = .ok (.iload_n 3, 1) := by decide +kernel
theorem dX2_changeAim_25 : decode cX2_changeAim 25 = .ok (.ireturn, 1) := by decide +kernel
set_option maxRecDepth 20000 in
theorem ggX2_hasLife_X2_has : GoodIn wsX2_hasLife wsX2_has := goodIn_r _ [6, 7, 8, 9, 10, 11, 12, 13] (by decide +kernel) (by decide +kernel)
set_option maxRecDepth 20000 in
theorem gX2_hasLife_X2_has : GoodIn wsX2_hasLife (wsV RX2 31 RX2 yX2_has wsX2_has) := goodIn_app (goodIn_of _ (by decide +kernel)) ggX2_hasLife_X2_has
theorem dX2_hasLife_0 : decode cX2_hasLife 0 = .ok (.aload_n 0, 1) := by decide +kernel
theorem dX2_hasLife_1 : decode cX2_hasLife 1 = .ok (.iload_n 1, 1) := by decide +kernel
theorem dX2_hasLife_2 : decode cX2_hasLife 2 = .ok (.invokevirtual 31, 3) := by decide +kernel
theorem dX2_hasLife_5 : decode cX2_hasLife 5 = .ok (.ifCond .eq 16, 3) := by decide +kernel
theorem dX2_hasLife_8 : decode cX2_hasLife 8 = .ok (.aload_n 0, 1) := by decide +kernel
theorem dX2_hasLife_9 : decode cX2_hasLife 9 = .ok (.getfield 24, 3) := by decide +kernel
theorem dX2_hasLife_12 : decode cX2_hasLife 12 = .ok (.iload_n 1, 1) := by decide +kernel
theorem dX2_hasLife_13 : decode cX2_hasLife 13 = .ok (.iaload, 1) := by decide +kernel
theorem dX2_hasLife_14 : decode cX2_hasLife 14 = .ok (.ifCond .le 7, 3) := by decide +kernel
theorem dX2_hasLife_17 : decode cX2_hasLife 17 = .ok (.iconst 1, 1) := by decide +kernel
theorem dX2_hasLife_18 : decode cX2_hasLife 18 = .ok (.goto 4, 3) := by decide +kernel
theorem dX2_hasLife_21 : decode cX2_hasLife 21 = .ok (.iconst 0, 1) := by decide +kernel
theorem dX2_hasLife_22 : decode cX2_hasLife 22 = .ok (.ireturn, 1) := by decide +kernel
set_option maxRecDepth 20000 in
theorem ggX2_goOn_X2_approached : GoodIn wsX2_goOn wsX2_approached := goodIn_r _ [13, 14, 15, 8, 16, 6, 7, 9] (by decide +kernel) (by decide +kernel)
set_option maxRecDepth 20000 in
theorem gX2_goOn_X2_approached : GoodIn wsX2_goOn (va_wsS RX2 39 yX2_approached wsX2_approached) := goodIn_app (goodIn_of _ (by decide +kernel)) ggX2_goOn_X2_approached
set_option maxRecDepth 20000 in
theorem ggX2_goOn_X2_darkenWithoutLife : GoodIn wsX2_goOn wsX2_darkenWithoutLife := goodIn_r _ [20, 5, 2, 21, 22, 23, 12, 24, 1, 25, 26, 27, 28, 29, 30] (by decide +kernel) (by decide +kernel)
set_option maxRecDepth 20000 in
theorem gX2_goOn_X2_darkenWithoutLife : GoodIn wsX2_goOn (wsV RX2 35 RX2 yX2_darkenWithoutLife wsX2_darkenWithoutLife) := goodIn_app (goodIn_of _ (by decide +kernel)) ggX2_goOn_X2_darkenWithoutLife
theorem dX2_goOn_0 : decode cX2_goOn 0 = .ok (.iconst 0, 1) := by decide +kernel
theorem dX2_goOn_1 : decode cX2_goOn 1 = .ok (.istore_n 1, 1) := by decide +kernel
theorem dX2_goOn_2 : decode cX2_goOn 2 = .ok (.iload_n 1, 1) := by decide +kernel
theorem dX2_goOn_3 : decode cX2_goOn 3 = .ok (.aload_n 0, 1) := by decide +kernel
theorem dX2_goOn_4 : decode cX2_goOn 4 = .ok (.getfield 27, 3) := by decide +kernel
theorem dX2_goOn_7 : decode cX2_goOn 7 = .ok (.if_icmp .ge 67, 3) := by decide +kernel
theorem dX2_goOn_10 : decode cX2_goOn 10 = .ok (.aload_n 0, 1) := by decide +kernel
theorem dX2_goOn_11 : decode cX2_goOn 11 = .ok (.getfield 15, 3) := by decide +kernel
theorem dX2_goOn_14 : decode cX2_goOn 14 = .ok (.iload_n 1, 1) := by decide +kernel
theorem dX2_goOn_15 : decode cX2_goOn 15 = .ok (.aload_n 0, 1) := by decide +kernel
theorem dX2_goOn_16 : decode cX2_goOn 16 = .ok (.getfield 15, 3) := by decide +kernel
theorem dX2_goOn_19 : decode cX2_goOn 19 = .ok (.iload_n 1, 1) := by decide +kernel
theorem dX2_goOn_20 : decode cX2_goOn 20 = .ok (.iaload, 1) := by decide +kernel
theorem dX2_goOn_21 : decode cX2_goOn 21 = .ok (.aload_n 0, 1) := by decide +kernel
theorem dX2_goOn_22 : decode cX2_goOn 22 = .ok (.getfield 18, 3) := by decide +kernel
theorem dX2_goOn_25 : decode cX2_goOn 25 = .ok (.iload_n 1, 1) := by decide +kernel
theorem dX2_goOn_26 : decode cX2_goOn 26 = .ok (.iaload, 1) := by decide +kernel
theorem dX2_goOn_27 : decode cX2_goOn 27 = .ok (.aload_n 0, 1) := by decide +kernel
theorem dX2_goOn_28 : decode cX2_goOn 28 = .ok (.getfield 21, 3) := by decide +kernel
theorem dX2_goOn_31 : decode cX2_goOn 31 = .ok (.iload_n 1, 1) := by decide +kernel
theorem dX2_goOn_32 : decode cX2_goOn 32 = .ok (.iaload, 1) := by decide +kernel
theorem dX2_goOn_33 : decode cX2_goOn 33 = .ok (.invokestatic 39, 3) := by decide +kernel
theorem dX2_goOn_36 : decode cX2_goOn 36 = .ok (.iastore, 1) := by decide +kernel
theorem dX2_goOn_37 : decode cX2_goOn 37 = .ok (.aload_n 0, 1) := by decide +kernel
theorem dX2_goOn_38 : decode cX2_goOn 38 = .ok (.getfield 24, 3) := by decide +kernel
theorem dX2_goOn_41 : decode cX2_goOn 41 = .ok (.iload_n 1, 1) := by decide +kernel
theorem dX2_goOn_42 : decode cX2_goOn 42 = .ok (.iconst 0, 1) := by decide +kernel
theorem dX2_goOn_43 : decode cX2_goOn 43 = .ok (.aload_n 0, 1) := by decide +kernel
theorem dX2_goOn_44 : decode cX2_goOn 44 = .ok (.getfield 24, 3) := by decide +kernel
theorem dX2_goOn_47 : decode cX2_goOn 47 = .ok (.iload_n 1, 1) := by decide +kernel
theorem dX2_goOn_48 : decode cX2_goOn 48 = .ok (.iaload, 1) := by decide +kernel
theorem dX2_goOn_49 : decode cX2_goOn 49 = .ok (.aload_n 0, 1) := by decide +kernel
theorem dX2_goOn_50 : decode cX2_goOn 50 = .ok (.getfield 15, 3) := by decide +kernel
theorem dX2_goOn_53 : decode cX2_goOn 53 = .ok (.iload_n 1, 1) := by decide +kernel
theorem dX2_goOn_54 : decode cX2_goOn 54 = .ok (.iaload, 1) := by decide +kernel
theorem dX2_goOn_55 : decode cX2_goOn 55 = .ok (.bipush 10, 2) := by decide +kernel
theorem dX2_goOn_57 : decode cX2_goOn 57 = .ok (.idiv, 1) := by decide +kernel
theorem dX2_goOn_58 : decode cX2_goOn 58 = .ok (.isub, 1) := by decide +kernel
theorem dX2_goOn_59 : decode cX2_goOn 59 = .ok (.invokestatic 43, 3) := by decide +kernel
theorem dX2_goOn_62 : decode cX2_goOn 62 = .ok (.iastore, 1) := by decide +kernel
theorem dX2_goOn_63 : decode cX2_goOn 63 = .ok (.aload_n 0, 1) := by decide +kernel
theorem dX2_goOn_64 : decode cX2_goOn 64 = .ok (.iload_n 1, 1) := by decide +kernel
theorem dX2_goOn_65 : decode cX2_goOn 65 = .ok (.invokevirtual 35, 3) := by decide +kernel
theorem dX2_goOn_68 : decode cX2_goOn 68 = .ok (.iinc 1 1, 3) := by decide +kernel
theorem dX2_goOn_71 : decode cX2_goOn 71 = .ok (.goto (-69), 3) := by decide +kernel
theorem dX2_goOn_74 : decode cX2_goOn 74 = .ok (.return_, 1) := by decide +kernel
set_option maxRecDepth 20000 in
theorem ggX2_darkenWithoutLife_X2_has : GoodIn wsX2_darkenWithoutLife wsX2_has := goodIn_r _ [7, 8, 9, 10, 11, 12, 13, 14] (by decide +kernel) (by decide +kernel)
set_option maxRecDepth 20000 in
theorem gX2_darkenWithoutLife_X2_has : GoodIn wsX2_darkenWithoutLife (wsV RX2 31 RX2 yX2_has wsX2_has) := goodIn_app (goodIn_of _ (by decide +kernel)) ggX2_darkenWithoutLife_X2_has
theorem dX2_darkenWithoutLife_0 : decode cX2_darkenWithoutLife 0 = .ok (.aload_n 0, 1) := by decide +kernel
theorem dX2_darkenWithoutLife_1 : decode cX2_darkenWithoutLife 1 = .ok (.iload_n 1, 1) := by decide +kernel
theorem dX2_darkenWithoutLife_2 : decode cX2_darkenWithoutLife 2 = .ok (.invokevirtual 31, 3) := by decide +kernel
theorem dX2_darkenWithoutLife_5 : decode cX2_darkenWithoutLife 5 = .ok (.ifCond .eq 19, 3) := by decide +kernel
theorem dX2_darkenWithoutLife_8 : decode cX2_darkenWithoutLife 8 = .ok (.aload_n 0, 1) := by decide +kernel
theorem dX2_darkenWithoutLife_9 : decode cX2_darkenWithoutLife 9 = .ok (.getfield 24, 3) := by decide +kernel
theorem dX2_darkenWithoutLife_12 : decode cX2_darkenWithoutLife 12 = .ok (.iload_n 1, 1) := by decide +kernel
theorem dX2_darkenWithoutLife_13 : decode cX2_darkenWithoutLife 13 = .ok (.iaload, 1) := by decide +kernel
theorem dX2_darkenWithoutLife_14 : decode cX2_darkenWithoutLife 14 = .ok (.ifCond .ne 10, 3) := by decide +kernel
theorem dX2_darkenWithoutLife_17 : decode cX2_darkenWithoutLife 17 = .ok (.aload_n 0, 1) := by decide +kernel
theorem dX2_darkenWithoutLife_18 : decode cX2_darkenWithoutLife 18 = .ok (.getfield 15, 3) := by decide +kernel
theorem dX2_darkenWithoutLife_21 : decode cX2_darkenWithoutLife 21 = .ok (.iload_n 1, 1) := by decide +kernel
theorem dX2_darkenWithoutLife_22 : decode cX2_darkenWithoutLife 22 = .ok (.iconst 0, 1) := by decide +kernel
theorem dX2_darkenWithoutLife_23 : decode cX2_darkenWithoutLife 23 = .ok (.iastore, 1) := by decide +kernel
theorem dX2_darkenWithoutLife_24 : decode cX2_darkenWithoutLife 24 = .ok (.return_, 1) := by decide +kernel
theorem dX2_approached_0 : decode cX2_approached 0 = .ok (.iload_n 0, 1) := by decide +kernel
theorem dX2_approached_1 : decode cX2_approached 1 = .ok (.iload_n 1, 1) := by decide +kernel
theorem dX2_approached_2 : decode cX2_approached 2 = .ok (.if_icmp .ge 13, 3) := by decide +kernel
theorem dX2_approached_5 : decode cX2_approached 5 = .ok (.iload_n 0, 1) := by decide +kernel
theorem dX2_approached_6 : decode cX2_approached 6 = .ok (.iload_n 2, 1) := by decide +kernel
theorem dX2_approached_7 : decode cX2_approached 7 = .ok (.iadd, 1) := by decide +kernel
theorem dX2_approached_8 : decode cX2_approached 8 = .ok (.iload_n 1, 1) := by decide +kernel
theorem dX2_approached_9 : decode cX2_approached 9 = .ok (.invokestatic 49, 3) := by decide +kernel
theorem dX2_approached_12 : decode cX2_approached 12 = .ok (.goto 10, 3) := by decide +kernel
theorem dX2_approached_15 : decode cX2_approached 15 = .ok (.iload_n 0, 1) := by decide +kernel
theorem dX2_approached_16 : decode cX2_approached 16 = .ok (.iload_n 2, 1) := by decide +kernel
theorem dX2_approached_17 : decode cX2_approached 17 = .ok (.isub, 1) := by decide +kernel
theorem dX2_approached_18 : decode cX2_approached 18 = .ok (.iload_n 1, 1) := by decide +kernel
theorem dX2_approached_19 : decode cX2_approached 19 = .ok (.invokestatic 43, 3) := by decide +kernel
theorem dX2_approached_22 : decode cX2_approached 22 = .ok (.ireturn, 1) := by decide +kernel
set_option maxRecDepth 20000 in
theorem ggX2_glareOn_J9_floorMod_7cf53 : GoodIn wsX2_glareOn wsJ9_floorMod_7cf53 := goodIn_r _ [7] (by decide +kernel) (by decide +kernel)
set_option maxRecDepth 20000 in
theorem gX2_glareOn_J9_floorMod_7cf53 : GoodIn wsX2_glareOn (va_wsS RX2 52 yJ9_floorMod_7cf53 wsJ9_floorMod_7cf53) := goodIn_app (goodIn_of _ (by decide +kernel)) ggX2_glareOn_J9_floorMod_7cf53
theorem dX2_glareOn_0 : decode cX2_glareOn 0 = .ok (.iconst 0, 1) := by decide +kernel
theorem dX2_glareOn_1 : decode cX2_glareOn 1 = .ok (.istore_n 2, 1) := by decide +kernel
theorem dX2_glareOn_2 : decode cX2_glareOn 2 = .ok (.iconst 0, 1) := by decide +kernel
theorem dX2_glareOn_3 : decode cX2_glareOn 3 = .ok (.istore_n 3, 1) := by decide +kernel
theorem dX2_glareOn_4 : decode cX2_glareOn 4 = .ok (.iload_n 3, 1) := by decide +kernel
theorem dX2_glareOn_5 : decode cX2_glareOn 5 = .ok (.aload_n 0, 1) := by decide +kernel
theorem dX2_glareOn_6 : decode cX2_glareOn 6 = .ok (.getfield 27, 3) := by decide +kernel
theorem dX2_glareOn_9 : decode cX2_glareOn 9 = .ok (.if_icmp .ge 65, 3) := by decide +kernel
theorem dX2_glareOn_12 : decode cX2_glareOn 12 = .ok (.aload_n 0, 1) := by decide +kernel
theorem dX2_glareOn_13 : decode cX2_glareOn 13 = .ok (.getfield 9, 3) := by decide +kernel
theorem dX2_glareOn_16 : decode cX2_glareOn 16 = .ok (.iload_n 3, 1) := by decide +kernel
theorem dX2_glareOn_17 : decode cX2_glareOn 17 = .ok (.iaload, 1) := by decide +kernel
theorem dX2_glareOn_18 : decode cX2_glareOn 18 = .ok (.iload_n 1, 1) := by decide +kernel
theorem dX2_glareOn_19 : decode cX2_glareOn 19 = .ok (.isub, 1) := by decide +kernel
theorem dX2_glareOn_20 : decode cX2_glareOn 20 = .ok (.bipush 12, 2) := by decide +kernel
theorem dX2_glareOn_22 : decode cX2_glareOn 22 = .ok (.invokestatic 52, 3) := by decide +kernel
theorem dX2_glareOn_25 : decode cX2_glareOn 25 = .ok (.istore 4, 2) := by decide +kernel
theorem dX2_glareOn_27 : decode cX2_glareOn 27 = .ok (.iload 4, 2) := by decide +kernel
theorem dX2_glareOn_29 : decode cX2_glareOn 29 = .ok (.ifCond .ne 15, 3) := by decide +kernel
theorem dX2_glareOn_32 : decode cX2_glareOn 32 = .ok (.iload_n 2, 1) := by decide +kernel
theorem dX2_glareOn_33 : decode cX2_glareOn 33 = .ok (.aload_n 0, 1) := by decide +kernel
theorem dX2_glareOn_34 : decode cX2_glareOn 34 = .ok (.getfield 15, 3) := by decide +kernel
theorem dX2_glareOn_37 : decode cX2_glareOn 37 = .ok (.iload_n 3, 1) := by decide +kernel
theorem dX2_glareOn_38 : decode cX2_glareOn 38 = .ok (.iaload, 1) := by decide +kernel
theorem dX2_glareOn_39 : decode cX2_glareOn 39 = .ok (.iadd, 1) := by decide +kernel
theorem dX2_glareOn_40 : decode cX2_glareOn 40 = .ok (.istore_n 2, 1) := by decide +kernel
theorem dX2_glareOn_41 : decode cX2_glareOn 41 = .ok (.goto 27, 3) := by decide +kernel
theorem dX2_glareOn_44 : decode cX2_glareOn 44 = .ok (.iload 4, 2) := by decide +kernel
theorem dX2_glareOn_46 : decode cX2_glareOn 46 = .ok (.iconst 1, 1) := by decide +kernel
theorem dX2_glareOn_47 : decode cX2_glareOn 47 = .ok (.if_icmp .eq 10, 3) := by decide +kernel
theorem dX2_glareOn_50 : decode cX2_glareOn 50 = .ok (.iload 4, 2) := by decide +kernel
theorem dX2_glareOn_52 : decode cX2_glareOn 52 = .ok (.bipush 11, 2) := by decide +kernel
theorem dX2_glareOn_54 : decode cX2_glareOn 54 = .ok (.if_icmp .ne 14, 3) := by decide +kernel
theorem dX2_glareOn_57 : decode cX2_glareOn 57 = .ok (.iload_n 2, 1) := by decide +kernel
theorem dX2_glareOn_58 : decode cX2_glareOn 58 = .ok (.aload_n 0, 1) := by decide +kernel
theorem dX2_glareOn_59 : decode cX2_glareOn 59 = .ok (.getfield 15, 3) := by decide +kernel
theorem dX2_glareOn_62 : decode cX2_glareOn 62 = .ok (.iload_n 3, 1) := by decide +kernel
theorem dX2_glareOn_63 : decode cX2_glareOn 63 = .ok (.iaload, 1) := by decide +kernel
theorem dX2_glareOn_64 : decode cX2_glareOn 64 = .ok (.iconst 4, 1) := by decide +kernel
theorem dX2_glareOn_65 : decode cX2_glareOn 65 = .ok (.idiv, 1) := by decide +kernel
theorem dX2_glareOn_66 : decode cX2_glareOn 66 = .ok (.iadd, 1) := by decide +kernel
theorem dX2_glareOn_67 : decode cX2_glareOn 67 = .ok (.istore_n 2, 1) := by decide +kernel
theorem dX2_glareOn_68 : decode cX2_glareOn 68 = .ok (.iinc 3 1, 3) := by decide +kernel
theorem dX2_glareOn_71 : decode cX2_glareOn 71 = .ok (.goto (-67), 3) := by decide +kernel
theorem dX2_glareOn_74 : decode cX2_glareOn 74 = .ok (.iload_n 2, 1) := by decide +kernel
theorem dX2_glareOn_75 : decode cX2_glareOn 75 = .ok (.ireturn, 1) := by decide +kernel
set_option maxRecDepth 20000 in
theorem ggX2_fact_X2_has : GoodIn wsX2_fact wsX2_has := goodIn_r _ [10, 11, 12, 13, 14, 15, 16, 17] (by decide +kernel) (by decide +kernel)
set_option maxRecDepth 20000 in
theorem gX2_fact_X2_has : GoodIn wsX2_fact (wsV RX2 31 RX2 yX2_has wsX2_has) := goodIn_app (goodIn_of _ (by decide +kernel)) ggX2_fact_X2_has
theorem dX2_fact_0 : decode cX2_fact 0 = .ok (.aload_n 0, 1) := by decide +kernel
theorem dX2_fact_1 : decode cX2_fact 1 = .ok (.iload_n 1, 1) := by decide +kernel
theorem dX2_fact_2 : decode cX2_fact 2 = .ok (.invokevirtual 31, 3) := by decide +kernel
theorem dX2_fact_5 : decode cX2_fact 5 = .ok (.ifCond .ne 5, 3) := by decide +kernel
theorem dX2_fact_8 : decode cX2_fact 8 = .ok (.iconst (-1), 1) := by decide +kernel
theorem dX2_fact_9 : decode cX2_fact 9 = .ok (.ireturn, 1) := by decide +kernel
theorem dX2_fact_10 : decode cX2_fact 10 = .ok (.iload_n 2, 1) := by decide +kernel
theorem dX2_fact_11 : decode cX2_fact 11 = .ok (.tableswitch 57 0 3 #[29, 36, 43, 50], 29) := by decide +kernel
theorem dX2_fact_40 : decode cX2_fact 40 = .ok (.aload_n 0, 1) := by decide +kernel
theorem dX2_fact_41 : decode cX2_fact 41 = .ok (.getfield 9, 3) := by decide +kernel
theorem dX2_fact_44 : decode cX2_fact 44 = .ok (.iload_n 1, 1) := by decide +kernel
theorem dX2_fact_45 : decode cX2_fact 45 = .ok (.iaload, 1) := by decide +kernel
theorem dX2_fact_46 : decode cX2_fact 46 = .ok (.ireturn, 1) := by decide +kernel
theorem dX2_fact_47 : decode cX2_fact 47 = .ok (.aload_n 0, 1) := by decide +kernel
theorem dX2_fact_48 : decode cX2_fact 48 = .ok (.getfield 15, 3) := by decide +kernel
theorem dX2_fact_51 : decode cX2_fact 51 = .ok (.iload_n 1, 1) := by decide +kernel
theorem dX2_fact_52 : decode cX2_fact 52 = .ok (.iaload, 1) := by decide +kernel
theorem dX2_fact_53 : decode cX2_fact 53 = .ok (.ireturn, 1) := by decide +kernel
theorem dX2_fact_54 : decode cX2_fact 54 = .ok (.aload_n 0, 1) := by decide +kernel
theorem dX2_fact_55 : decode cX2_fact 55 = .ok (.getfield 18, 3) := by decide +kernel
theorem dX2_fact_58 : decode cX2_fact 58 = .ok (.iload_n 1, 1) := by decide +kernel
theorem dX2_fact_59 : decode cX2_fact 59 = .ok (.iaload, 1) := by decide +kernel
theorem dX2_fact_60 : decode cX2_fact 60 = .ok (.ireturn, 1) := by decide +kernel
theorem dX2_fact_61 : decode cX2_fact 61 = .ok (.aload_n 0, 1) := by decide +kernel
theorem dX2_fact_62 : decode cX2_fact 62 = .ok (.getfield 21, 3) := by decide +kernel
theorem dX2_fact_65 : decode cX2_fact 65 = .ok (.iload_n 1, 1) := by decide +kernel
theorem dX2_fact_66 : decode cX2_fact 66 = .ok (.iaload, 1) := by decide +kernel
theorem dX2_fact_67 : decode cX2_fact 67 = .ok (.ireturn, 1) := by decide +kernel
theorem dX2_fact_68 : decode cX2_fact 68 = .ok (.aload_n 0, 1) := by decide +kernel
theorem dX2_fact_69 : decode cX2_fact 69 = .ok (.getfield 24, 3) := by decide +kernel
theorem dX2_fact_72 : decode cX2_fact 72 = .ok (.iload_n 1, 1) := by decide +kernel
theorem dX2_fact_73 : decode cX2_fact 73 = .ok (.iaload, 1) := by decide +kernel
theorem dX2_fact_74 : decode cX2_fact 74 = .ok (.ireturn, 1) := by decide +kernel
theorem dX2_become_0 : decode cX2_become 0 = .ok (.iconst 0, 1) := by decide +kernel
theorem dX2_become_1 : decode cX2_become 1 = .ok (.istore_n 2, 1) := by decide +kernel
theorem dX2_become_2 : decode cX2_become 2 = .ok (.iload_n 2, 1) := by decide +kernel
theorem dX2_become_3 : decode cX2_become 3 = .ok (.bipush 8, 2) := by decide +kernel
theorem dX2_become_5 : decode cX2_become 5 = .ok (.if_icmp .ge 69, 3) := by decide +kernel
theorem dX2_become_8 : decode cX2_become 8 = .ok (.aload_n 0, 1) := by decide +kernel
theorem dX2_become_9 : decode cX2_become 9 = .ok (.getfield 9, 3) := by decide +kernel
theorem dX2_become_12 : decode cX2_become 12 = .ok (.iload_n 2, 1) := by decide +kernel
theorem dX2_become_13 : decode cX2_become 13 = .ok (.aload_n 1, 1) := by decide +kernel
theorem dX2_become_14 : decode cX2_become 14 = .ok (.getfield 9, 3) := by decide +kernel
theorem dX2_become_17 : decode cX2_become 17 = .ok (.iload_n 2, 1) := by decide +kernel
theorem dX2_become_18 : decode cX2_become 18 = .ok (.iaload, 1) := by decide +kernel
theorem dX2_become_19 : decode cX2_become 19 = .ok (.iastore, 1) := by decide +kernel
theorem dX2_become_20 : decode cX2_become 20 = .ok (.aload_n 0, 1) := by decide +kernel
theorem dX2_become_21 : decode cX2_become 21 = .ok (.getfield 15, 3) := by decide +kernel
theorem dX2_become_24 : decode cX2_become 24 = .ok (.iload_n 2, 1) := by decide +kernel
theorem dX2_become_25 : decode cX2_become 25 = .ok (.aload_n 1, 1) := by decide +kernel
theorem dX2_become_26 : decode cX2_become 26 = .ok (.getfield 15, 3) := by decide +kernel
theorem dX2_become_29 : decode cX2_become 29 = .ok (.iload_n 2, 1) := by decide +kernel
theorem dX2_become_30 : decode cX2_become 30 = .ok (.iaload, 1) := by decide +kernel
theorem dX2_become_31 : decode cX2_become 31 = .ok (.iastore, 1) := by decide +kernel
theorem dX2_become_32 : decode cX2_become 32 = .ok (.aload_n 0, 1) := by decide +kernel
theorem dX2_become_33 : decode cX2_become 33 = .ok (.getfield 18, 3) := by decide +kernel
theorem dX2_become_36 : decode cX2_become 36 = .ok (.iload_n 2, 1) := by decide +kernel
theorem dX2_become_37 : decode cX2_become 37 = .ok (.aload_n 1, 1) := by decide +kernel
theorem dX2_become_38 : decode cX2_become 38 = .ok (.getfield 18, 3) := by decide +kernel
theorem dX2_become_41 : decode cX2_become 41 = .ok (.iload_n 2, 1) := by decide +kernel
theorem dX2_become_42 : decode cX2_become 42 = .ok (.iaload, 1) := by decide +kernel
theorem dX2_become_43 : decode cX2_become 43 = .ok (.iastore, 1) := by decide +kernel
theorem dX2_become_44 : decode cX2_become 44 = .ok (.aload_n 0, 1) := by decide +kernel
theorem dX2_become_45 : decode cX2_become 45 = .ok (.getfield 21, 3) := by decide +kernel
theorem dX2_become_48 : decode cX2_become 48 = .ok (.iload_n 2, 1) := by decide +kernel
theorem dX2_become_49 : decode cX2_become 49 = .ok (.aload_n 1, 1) := by decide +kernel
theorem dX2_become_50 : decode cX2_become 50 = .ok (.getfield 21, 3) := by decide +kernel
theorem dX2_become_53 : decode cX2_become 53 = .ok (.iload_n 2, 1) := by decide +kernel
theorem dX2_become_54 : decode cX2_become 54 = .ok (.iaload, 1) := by decide +kernel
theorem dX2_become_55 : decode cX2_become 55 = .ok (.iastore, 1) := by decide +kernel
theorem dX2_become_56 : decode cX2_become 56 = .ok (.aload_n 0, 1) := by decide +kernel
theorem dX2_become_57 : decode cX2_become 57 = .ok (.getfield 24, 3) := by decide +kernel
theorem dX2_become_60 : decode cX2_become 60 = .ok (.iload_n 2, 1) := by decide +kernel
theorem dX2_become_61 : decode cX2_become 61 = .ok (.aload_n 1, 1) := by decide +kernel
theorem dX2_become_62 : decode cX2_become 62 = .ok (.getfield 24, 3) := by decide +kernel
theorem dX2_become_65 : decode cX2_become 65 = .ok (.iload_n 2, 1) := by decide +kernel
theorem dX2_become_66 : decode cX2_become 66 = .ok (.iaload, 1) := by decide +kernel
theorem dX2_become_67 : decode cX2_become 67 = .ok (.iastore, 1) := by decide +kernel
theorem dX2_become_68 : decode cX2_become 68 = .ok (.iinc 2 1, 3) := by decide +kernel
theorem dX2_become_71 : decode cX2_become 71 = .ok (.goto (-69), 3) := by decide +kernel
theorem dX2_become_74 : decode cX2_become 74 = .ok (.aload_n 0, 1) := by decide +kernel
theorem dX2_become_75 : decode cX2_become 75 = .ok (.aload_n 1, 1) := by decide +kernel
theorem dX2_become_76 : decode cX2_become 76 = .ok (.getfield 27, 3) := by decide +kernel
theorem dX2_become_79 : decode cX2_become 79 = .ok (.putfield 27, 3) := by decide +kernel
theorem dX2_become_82 : decode cX2_become 82 = .ok (.return_, 1) := by decide +kernel
set_option maxRecDepth 20000 in
theorem ggX3_init_X2_init : GoodIn wsX3_init wsX2_init := goodIn_r _ [14, 15, 2, 3, 16, 17, 18, 19, 20, 21, 37, 38, 39, 40, 41, 42] (by decide +kernel) (by decide +kernel)
set_option maxRecDepth 20000 in
theorem gX3_init_X2_init_n17 : GoodIn wsX3_init (wsX2_init) := ggX3_init_X2_init
set_option maxRecDepth 20000 in
theorem ggX3_init_X0_init : GoodIn wsX3_init wsX0_init := goodIn_r _ [23, 24, 2, 3, 16, 25, 26, 27, 43, 44, 45, 46] (by decide +kernel) (by decide +kernel)
set_option maxRecDepth 20000 in
theorem gX3_init_X0_init_n24 : GoodIn wsX3_init (wsX0_init) := ggX3_init_X0_init
theorem dX3_init_0 : decode cX3_init 0 = .ok (.aload_n 0, 1) := by decide +kernel
theorem dX3_init_1 : decode cX3_init 1 = .ok (.invokespecial 3, 3) := by decide +kernel
theorem dX3_init_4 : decode cX3_init 4 = .ok (.aload_n 0, 1) := by decide +kernel
theorem dX3_init_5 : decode cX3_init 5 = .ok (.iconst (-1), 1) := by decide +kernel
theorem dX3_init_6 : decode cX3_init 6 = .ok (.putfield 9, 3) := by decide +kernel
theorem dX3_init_9 : decode cX3_init 9 = .ok (.aload_n 0, 1) := by decide +kernel
theorem dX3_init_10 : decode cX3_init 10 = .ok (.new 15, 3) := by decide +kernel
theorem dX3_init_13 : decode cX3_init 13 = .ok (.dup, 1) := by decide +kernel
theorem dX3_init_14 : decode cX3_init 14 = .ok (.invokespecial 17, 3) := by decide +kernel
theorem dX3_init_17 : decode cX3_init 17 = .ok (.putfield 18, 3) := by decide +kernel
theorem dX3_init_20 : decode cX3_init 20 = .ok (.aload_n 0, 1) := by decide +kernel
theorem dX3_init_21 : decode cX3_init 21 = .ok (.new 22, 3) := by decide +kernel
theorem dX3_init_24 : decode cX3_init 24 = .ok (.dup, 1) := by decide +kernel
theorem dX3_init_25 : decode cX3_init 25 = .ok (.invokespecial 24, 3) := by decide +kernel
theorem dX3_init_28 : decode cX3_init 28 = .ok (.putfield 25, 3) := by decide +kernel
theorem dX3_init_31 : decode cX3_init 31 = .ok (.return_, 1) := by decide +kernel
set_option maxRecDepth 20000 in
theorem ggX3_become_X2_become : GoodIn wsX3_become wsX2_become := goodIn_r _ [14, 15, 16, 17, 18, 19, 20, 39, 40, 41, 42, 43, 44] (by decide +kernel) (by decide +kernel)
set_option maxRecDepth 20000 in
theorem gX3_become_X2_become : GoodIn wsX3_become (wsV RX3 48 RX2 yX2_become wsX2_become) := goodIn_app (goodIn_of _ (by decide +kernel)) ggX3_become_X2_become
set_option maxRecDepth 20000 in
theorem ggX3_become_X0_become : GoodIn wsX3_become wsX0_become := goodIn_r _ [25, 26, 27, 28, 29, 45, 46, 47, 48] (by decide +kernel) (by decide +kernel)
set_option maxRecDepth 20000 in
theorem gX3_become_X0_become : GoodIn wsX3_become (wsV RX3 52 RX0 yX0_become wsX0_become) := goodIn_app (goodIn_of _ (by decide +kernel)) ggX3_become_X0_become
theorem dX3_become_0 : decode cX3_become 0 = .ok (.aload_n 0, 1) := by decide +kernel
theorem dX3_become_1 : decode cX3_become 1 = .ok (.aload_n 1, 1) := by decide +kernel
theorem dX3_become_2 : decode cX3_become 2 = .ok (.getfield 29, 3) := by decide +kernel
theorem dX3_become_5 : decode cX3_become 5 = .ok (.putfield 29, 3) := by decide +kernel
theorem dX3_become_8 : decode cX3_become 8 = .ok (.aload_n 0, 1) := by decide +kernel
theorem dX3_become_9 : decode cX3_become 9 = .ok (.aload_n 1, 1) := by decide +kernel
theorem dX3_become_10 : decode cX3_become 10 = .ok (.getfield 32, 3) := by decide +kernel
theorem dX3_become_13 : decode cX3_become 13 = .ok (.putfield 32, 3) := by decide +kernel
theorem dX3_become_16 : decode cX3_become 16 = .ok (.aload_n 0, 1) := by decide +kernel
theorem dX3_become_17 : decode cX3_become 17 = .ok (.aload_n 1, 1) := by decide +kernel
theorem dX3_become_18 : decode cX3_become 18 = .ok (.getfield 35, 3) := by decide +kernel
theorem dX3_become_21 : decode cX3_become 21 = .ok (.putfield 35, 3) := by decide +kernel
theorem dX3_become_24 : decode cX3_become 24 = .ok (.aload_n 0, 1) := by decide +kernel
theorem dX3_become_25 : decode cX3_become 25 = .ok (.aload_n 1, 1) := by decide +kernel
theorem dX3_become_26 : decode cX3_become 26 = .ok (.getfield 39, 3) := by decide +kernel
theorem dX3_become_29 : decode cX3_become 29 = .ok (.putfield 39, 3) := by decide +kernel
theorem dX3_become_32 : decode cX3_become 32 = .ok (.aload_n 0, 1) := by decide +kernel
theorem dX3_become_33 : decode cX3_become 33 = .ok (.aload_n 1, 1) := by decide +kernel
theorem dX3_become_34 : decode cX3_become 34 = .ok (.getfield 42, 3) := by decide +kernel
theorem dX3_become_37 : decode cX3_become 37 = .ok (.putfield 42, 3) := by decide +kernel
theorem dX3_become_40 : decode cX3_become 40 = .ok (.aload_n 0, 1) := by decide +kernel
theorem dX3_become_41 : decode cX3_become 41 = .ok (.aload_n 1, 1) := by decide +kernel
theorem dX3_become_42 : decode cX3_become 42 = .ok (.getfield 9, 3) := by decide +kernel
theorem dX3_become_45 : decode cX3_become 45 = .ok (.putfield 9, 3) := by decide +kernel
theorem dX3_become_48 : decode cX3_become 48 = .ok (.aload_n 0, 1) := by decide +kernel
theorem dX3_become_49 : decode cX3_become 49 = .ok (.aload_n 1, 1) := by decide +kernel
theorem dX3_become_50 : decode cX3_become 50 = .ok (.getfield 45, 3) := by decide +kernel
theorem dX3_become_53 : decode cX3_become 53 = .ok (.putfield 45, 3) := by decide +kernel
theorem dX3_become_56 : decode cX3_become 56 = .ok (.aload_n 0, 1) := by decide +kernel
theorem dX3_become_57 : decode cX3_become 57 = .ok (.getfield 18, 3) := by decide +kernel
theorem dX3_become_60 : decode cX3_become 60 = .ok (.aload_n 1, 1) := by decide +kernel
theorem dX3_become_61 : decode cX3_become 61 = .ok (.getfield 18, 3) := by decide +kernel
theorem dX3_become_64 : decode cX3_become 64 = .ok (.invokevirtual 48, 3) := by decide +kernel
theorem dX3_become_67 : decode cX3_become 67 = .ok (.aload_n 0, 1) := by decide +kernel
theorem dX3_become_68 : decode cX3_become 68 = .ok (.getfield 25, 3) := by decide +kernel
theorem dX3_become_71 : decode cX3_become 71 = .ok (.aload_n 1, 1) := by decide +kernel
theorem dX3_become_72 : decode cX3_become 72 = .ok (.getfield 25, 3) := by decide +kernel
theorem dX3_become_75 : decode cX3_become 75 = .ok (.invokevirtual 52, 3) := by decide +kernel
theorem dX3_become_78 : decode cX3_become 78 = .ok (.return_, 1) := by decide +kernel
set_option maxRecDepth 20000 in
theorem ggX3_goOnFor_X3_goOn : GoodIn wsX3_goOnFor wsX3_goOn := goodIn_r _ [5, 6, 7, 8, 9, 10, 11, 12, 13, 14, 4, 15, 16, 17, 18, 19, 20, 21, 22, 23, 24, 25, 26, 27, 28, 29, 30, 31, 32, 33, 34, 35, 36, 37, 38, 39, 40, 41, 42, 43, 44, 45, 46, 47, 48, 49, 50, 51, 52, 53, 54, 55, 56, 57, 58, 59, 60, 61, 62, 63, 64, 65, 66, 67, 68, 69, 70, 71, 72, 73, 74, 75, 76, 77, 78, 79, 80, 81, 82, 83, 84, 85, 86, 87, 88, 89, 90, 91, 92, 93, 94, 95, 96, 97, 98, 99, 100, 101, 102, 103, 104, 105, 106, 107] (by decide +kernel) (by decide +kernel)
set_option maxRecDepth 20000 in
theorem gX3_goOnFor_X3_goOn : GoodIn wsX3_goOnFor (wsV RX3 55 RX3 yX3_goOn wsX3_goOn) := goodIn_app (goodIn_of _ (by decide +kernel)) ggX3_goOnFor_X3_goOn
theorem dX3_goOnFor_0 : decode cX3_goOnFor 0 = .ok (.iconst 0, 1) := by decide +kernel
theorem dX3_goOnFor_1 : decode cX3_goOnFor 1 = .ok (.istore_n 3, 1) := by decide +kernel
theorem dX3_goOnFor_2 : decode cX3_goOnFor 2 = .ok (.iconst 0, 1) := by decide +kernel
theorem dX3_goOnFor_3 : decode cX3_goOnFor 3 = .ok (.istore 4, 2) := by decide +kernel
theorem dX3_goOnFor_5 : decode cX3_goOnFor 5 = .ok (.iload 4, 2) := by decide +kernel
theorem dX3_goOnFor_7 : decode cX3_goOnFor 7 = .ok (.iload_n 1, 1) := by decide +kernel
theorem dX3_goOnFor_8 : decode cX3_goOnFor 8 = .ok (.if_icmp .ge 17, 3) := by decide +kernel
theorem dX3_goOnFor_11 : decode cX3_goOnFor 11 = .ok (.iload_n 3, 1) := by decide +kernel
theorem dX3_goOnFor_12 : decode cX3_goOnFor 12 = .ok (.aload_n 0, 1) := by decide +kernel
theorem dX3_goOnFor_13 : decode cX3_goOnFor 13 = .ok (.aload_n 2, 1) := by decide +kernel
theorem dX3_goOnFor_14 : decode cX3_goOnFor 14 = .ok (.invokevirtual 55, 3) := by decide +kernel
theorem dX3_goOnFor_17 : decode cX3_goOnFor 17 = .ok (.iadd, 1) := by decide +kernel
theorem dX3_goOnFor_18 : decode cX3_goOnFor 18 = .ok (.istore_n 3, 1) := by decide +kernel
theorem dX3_goOnFor_19 : decode cX3_goOnFor 19 = .ok (.iinc 4 1, 3) := by decide +kernel
theorem dX3_goOnFor_22 : decode cX3_goOnFor 22 = .ok (.goto (-17), 3) := by decide +kernel
theorem dX3_goOnFor_25 : decode cX3_goOnFor 25 = .ok (.iload_n 3, 1) := by decide +kernel
theorem dX3_goOnFor_26 : decode cX3_goOnFor 26 = .ok (.ireturn, 1) := by decide +kernel
set_option maxRecDepth 20000 in
theorem ggX3_goOn_X3_runCues : GoodIn wsX3_goOn wsX3_runCues := goodIn_r _ [11, 12, 13, 14, 15, 16, 17, 18, 19, 20, 10, 21, 2, 4, 5, 22, 23, 1, 24, 25, 26, 27, 28, 29, 30, 31, 32, 33, 34, 35, 36, 37, 38, 39, 40, 41, 42, 43, 89, 90, 91, 92, 93, 80, 81, 82, 83, 84, 85, 86, 87, 88, 94, 95, 96, 97, 98, 99, 100, 101, 102, 103] (by decide +kernel) (by decide +kernel)
set_option maxRecDepth 20000 in
theorem gX3_goOn_X3_runCues : GoodIn wsX3_goOn (wsV RX3 59 RX3 yX3_runCues wsX3_runCues) := goodIn_app (goodIn_of _ (by decide +kernel)) ggX3_goOn_X3_runCues
set_option maxRecDepth 20000 in
theorem ggX3_goOn_X2_goOn : GoodIn wsX3_goOn wsX2_goOn := goodIn_r _ [47, 34, 48, 29, 49, 50, 51, 52, 53, 54, 55, 56, 27, 57, 58, 59, 60, 61, 62, 63, 64, 30, 31, 32, 33, 94, 95, 96, 97, 98, 99] (by decide +kernel) (by decide +kernel)
set_option maxRecDepth 20000 in
theorem gX3_goOn_X2_goOn : GoodIn wsX3_goOn (wsV RX3 62 RX2 yX2_goOn wsX2_goOn) := goodIn_app (goodIn_of _ (by decide +kernel)) ggX3_goOn_X2_goOn
set_option maxRecDepth 20000 in
theorem ggX3_goOn_X5_turned : GoodIn wsX3_goOn wsX5_turned := goodIn_r _ [67, 68, 69, 70, 71] (by decide +kernel) (by decide +kernel)
set_option maxRecDepth 20000 in
theorem gX3_goOn_X5_turned_n64 : GoodIn wsX3_goOn (wsX5_turned) := ggX3_goOn_X5_turned
set_option maxRecDepth 20000 in
theorem ggX3_goOn_X0_goOn : GoodIn wsX3_goOn wsX0_goOn := goodIn_r _ [75, 40, 43, 41, 42, 65, 66, 67, 68, 69, 70, 71, 100, 101, 102, 103] (by decide +kernel) (by decide +kernel)
set_option maxRecDepth 20000 in
theorem gX3_goOn_X0_goOn : GoodIn wsX3_goOn (wsV RX3 68 RX0 yX0_goOn wsX0_goOn) := goodIn_app (goodIn_of _ (by decide +kernel)) ggX3_goOn_X0_goOn
set_option maxRecDepth 20000 in
theorem ggX3_goOn_X3_speakOn : GoodIn wsX3_goOn wsX3_speakOn := goodIn_r _ [79, 23, 22, 80, 81, 82, 83, 84, 85, 86, 87, 88] (by decide +kernel) (by decide +kernel)
set_option maxRecDepth 20000 in
theorem gX3_goOn_X3_speakOn : GoodIn wsX3_goOn (wsV RX3 69 RX3 yX3_speakOn wsX3_speakOn) := goodIn_app (goodIn_of _ (by decide +kernel)) ggX3_goOn_X3_speakOn
theorem dX3_goOn_0 : decode cX3_goOn 0 = .ok (.aload_n 0, 1) := by decide +kernel
theorem dX3_goOn_1 : decode cX3_goOn 1 = .ok (.getfield 35, 3) := by decide +kernel
theorem dX3_goOn_4 : decode cX3_goOn 4 = .ok (.ifCond .eq 11, 3) := by decide +kernel
theorem dX3_goOn_7 : decode cX3_goOn 7 = .ok (.aload_n 0, 1) := by decide +kernel
theorem dX3_goOn_8 : decode cX3_goOn 8 = .ok (.aload_n 1, 1) := by decide +kernel
theorem dX3_goOn_9 : decode cX3_goOn 9 = .ok (.invokevirtual 59, 3) := by decide +kernel
theorem dX3_goOn_12 : decode cX3_goOn 12 = .ok (.goto 4, 3) := by decide +kernel
theorem dX3_goOn_15 : decode cX3_goOn 15 = .ok (.iconst 0, 1) := by decide +kernel
theorem dX3_goOn_16 : decode cX3_goOn 16 = .ok (.istore_n 2, 1) := by decide +kernel
theorem dX3_goOn_17 : decode cX3_goOn 17 = .ok (.aload_n 0, 1) := by decide +kernel
theorem dX3_goOn_18 : decode cX3_goOn 18 = .ok (.getfield 18, 3) := by decide +kernel
theorem dX3_goOn_21 : decode cX3_goOn 21 = .ok (.invokevirtual 62, 3) := by decide +kernel
theorem dX3_goOn_24 : decode cX3_goOn 24 = .ok (.aload_n 0, 1) := by decide +kernel
theorem dX3_goOn_25 : decode cX3_goOn 25 = .ok (.aload_n 0, 1) := by decide +kernel
theorem dX3_goOn_26 : decode cX3_goOn 26 = .ok (.getfield 39, 3) := by decide +kernel
theorem dX3_goOn_29 : decode cX3_goOn 29 = .ok (.aload_n 0, 1) := by decide +kernel
theorem dX3_goOn_30 : decode cX3_goOn 30 = .ok (.getfield 42, 3) := by decide +kernel
theorem dX3_goOn_33 : decode cX3_goOn 33 = .ok (.invokestatic 64, 3) := by decide +kernel
theorem dX3_goOn_36 : decode cX3_goOn 36 = .ok (.putfield 39, 3) := by decide +kernel
theorem dX3_goOn_39 : decode cX3_goOn 39 = .ok (.aload_n 0, 1) := by decide +kernel
theorem dX3_goOn_40 : decode cX3_goOn 40 = .ok (.getfield 25, 3) := by decide +kernel
theorem dX3_goOn_43 : decode cX3_goOn 43 = .ok (.invokevirtual 68, 3) := by decide +kernel
theorem dX3_goOn_46 : decode cX3_goOn 46 = .ok (.aload_n 0, 1) := by decide +kernel
theorem dX3_goOn_47 : decode cX3_goOn 47 = .ok (.invokevirtual 69, 3) := by decide +kernel
theorem dX3_goOn_50 : decode cX3_goOn 50 = .ok (.aload_n 0, 1) := by decide +kernel
theorem dX3_goOn_51 : decode cX3_goOn 51 = .ok (.dup, 1) := by decide +kernel
theorem dX3_goOn_52 : decode cX3_goOn 52 = .ok (.getfield 29, 3) := by decide +kernel
theorem dX3_goOn_55 : decode cX3_goOn 55 = .ok (.iconst 1, 1) := by decide +kernel
theorem dX3_goOn_56 : decode cX3_goOn 56 = .ok (.iadd, 1) := by decide +kernel
theorem dX3_goOn_57 : decode cX3_goOn 57 = .ok (.putfield 29, 3) := by decide +kernel
theorem dX3_goOn_60 : decode cX3_goOn 60 = .ok (.iload_n 2, 1) := by decide +kernel
theorem dX3_goOn_61 : decode cX3_goOn 61 = .ok (.ireturn, 1) := by decide +kernel
set_option maxRecDepth 20000 in
theorem ggX3_runCues_X3_obey : GoodIn wsX3_runCues wsX3_obey := goodIn_r _ [11, 12, 13, 14, 15, 16, 17, 18, 19, 20, 21, 22, 23, 24, 25, 26, 27, 28, 29, 30, 31, 32, 33, 34, 35, 36, 37, 43, 44, 45, 46, 47, 48, 49, 50, 51, 52, 53, 54, 55, 56, 57, 58, 59, 60, 61] (by decide +kernel) (by decide +kernel)
set_option maxRecDepth 20000 in
theorem gX3_runCues_X3_obey : GoodIn wsX3_runCues (wsV RX3 90 RX3 yX3_obey wsX3_obey) := goodIn_app (goodIn_of _ (by decide +kernel)) ggX3_runCues_X3_obey
theorem dX3_runCues_0 : decode cX3_runCues 0 = .ok (.iconst 0, 1) := by decide +kernel
theorem dX3_runCues_1 : decode cX3_runCues 1 = .ok (.istore_n 2, 1) := by decide +kernel
theorem dX3_runCues_2 : decode cX3_runCues 2 = .ok (.iconst 0, 1) := by decide +kernel
theorem dX3_runCues_3 : decode cX3_runCues 3 = .ok (.istore_n 3, 1) := by decide +kernel
theorem dX3_runCues_4 : decode cX3_runCues 4 = .ok (.iload_n 3, 1) := by decide +kernel
theorem dX3_runCues_5 : decode cX3_runCues 5 = .ok (.aload_n 1, 1) := by decide +kernel
theorem dX3_runCues_6 : decode cX3_runCues 6 = .ok (.getfield 72, 3) := by decide +kernel
theorem dX3_runCues_9 : decode cX3_runCues 9 = .ok (.if_icmp .ge 47, 3) := by decide +kernel
theorem dX3_runCues_12 : decode cX3_runCues 12 = .ok (.aload_n 1, 1) := by decide +kernel
theorem dX3_runCues_13 : decode cX3_runCues 13 = .ok (.getfield 77, 3) := by decide +kernel
theorem dX3_runCues_16 : decode cX3_runCues 16 = .ok (.iload_n 3, 1) := by decide +kernel
theorem dX3_runCues_17 : decode cX3_runCues 17 = .ok (.iaload, 1) := by decide +kernel
theorem dX3_runCues_18 : decode cX3_runCues 18 = .ok (.aload_n 0, 1) := by decide +kernel
theorem dX3_runCues_19 : decode cX3_runCues 19 = .ok (.getfield 32, 3) := by decide +kernel
theorem dX3_runCues_22 : decode cX3_runCues 22 = .ok (.if_icmp .ne 28, 3) := by decide +kernel
theorem dX3_runCues_25 : decode cX3_runCues 25 = .ok (.aload_n 0, 1) := by decide +kernel
theorem dX3_runCues_26 : decode cX3_runCues 26 = .ok (.aload_n 1, 1) := by decide +kernel
theorem dX3_runCues_27 : decode cX3_runCues 27 = .ok (.getfield 81, 3) := by decide +kernel
theorem dX3_runCues_30 : decode cX3_runCues 30 = .ok (.iload_n 3, 1) := by decide +kernel
theorem dX3_runCues_31 : decode cX3_runCues 31 = .ok (.iaload, 1) := by decide +kernel
theorem dX3_runCues_32 : decode cX3_runCues 32 = .ok (.aload_n 1, 1) := by decide +kernel
theorem dX3_runCues_33 : decode cX3_runCues 33 = .ok (.getfield 84, 3) := by decide +kernel
theorem dX3_runCues_36 : decode cX3_runCues 36 = .ok (.iload_n 3, 1) := by decide +kernel
theorem dX3_runCues_37 : decode cX3_runCues 37 = .ok (.iaload, 1) := by decide +kernel
theorem dX3_runCues_38 : decode cX3_runCues 38 = .ok (.aload_n 1, 1) := by decide +kernel
theorem dX3_runCues_39 : decode cX3_runCues 39 = .ok (.getfield 87, 3) := by decide +kernel
theorem dX3_runCues_42 : decode cX3_runCues 42 = .ok (.iload_n 3, 1) := by decide +kernel
theorem dX3_runCues_43 : decode cX3_runCues 43 = .ok (.iaload, 1) := by decide +kernel
theorem dX3_runCues_44 : decode cX3_runCues 44 = .ok (.invokevirtual 90, 3) := by decide +kernel
theorem dX3_runCues_47 : decode cX3_runCues 47 = .ok (.iinc 2 1, 3) := by decide +kernel
theorem dX3_runCues_50 : decode cX3_runCues 50 = .ok (.iinc 3 1, 3) := by decide +kernel
theorem dX3_runCues_53 : decode cX3_runCues 53 = .ok (.goto (-49), 3) := by decide +kernel
theorem dX3_runCues_56 : decode cX3_runCues 56 = .ok (.aload_n 0, 1) := by decide +kernel
theorem dX3_runCues_57 : decode cX3_runCues 57 = .ok (.dup, 1) := by decide +kernel
theorem dX3_runCues_58 : decode cX3_runCues 58 = .ok (.getfield 32, 3) := by decide +kernel
theorem dX3_runCues_61 : decode cX3_runCues 61 = .ok (.iconst 1, 1) := by decide +kernel
theorem dX3_runCues_62 : decode cX3_runCues 62 = .ok (.iadd, 1) := by decide +kernel
theorem dX3_runCues_63 : decode cX3_runCues 63 = .ok (.putfield 32, 3) := by decide +kernel
theorem dX3_runCues_66 : decode cX3_runCues 66 = .ok (.iload_n 2, 1) := by decide +kernel
theorem dX3_runCues_67 : decode cX3_runCues 67 = .ok (.ireturn, 1) := by decide +kernel
set_option maxRecDepth 20000 in
theorem ggX3_obey_X2_changeAim : GoodIn wsX3_obey wsX2_changeAim := goodIn_r _ [11, 12, 13, 14, 15, 10, 16, 17, 36, 37, 38, 39, 40, 41] (by decide +kernel) (by decide +kernel)
set_option maxRecDepth 20000 in
theorem gX3_obey_X2_changeAim : GoodIn wsX3_obey (wsV RX3 94 RX2 yX2_changeAim wsX2_changeAim) := goodIn_app (goodIn_of _ (by decide +kernel)) ggX3_obey_X2_changeAim
set_option maxRecDepth 20000 in
theorem ggX3_obey_X0_addIfRoom : GoodIn wsX3_obey wsX0_addIfRoom := goodIn_r _ [22, 23, 24, 25, 26, 42, 43, 44, 45] (by decide +kernel) (by decide +kernel)
set_option maxRecDepth 20000 in
theorem gX3_obey_X0_addIfRoom : GoodIn wsX3_obey (wsV RX3 97 RX0 yX0_addIfRoom wsX0_addIfRoom) := goodIn_app (goodIn_of _ (by decide +kernel)) ggX3_obey_X0_addIfRoom
theorem dX3_obey_0 : decode cX3_obey 0 = .ok (.iload_n 1, 1) := by decide +kernel
theorem dX3_obey_1 : decode cX3_obey 1 = .ok (.tableswitch 89 0 4 #[35, 48, 56, 68, 81], 35) := by decide +kernel
theorem dX3_obey_36 : decode cX3_obey 36 = .ok (.aload_n 0, 1) := by decide +kernel
theorem dX3_obey_37 : decode cX3_obey 37 = .ok (.getfield 18, 3) := by decide +kernel
theorem dX3_obey_40 : decode cX3_obey 40 = .ok (.iload_n 2, 1) := by decide +kernel
theorem dX3_obey_41 : decode cX3_obey 41 = .ok (.iload_n 3, 1) := by decide +kernel
theorem dX3_obey_42 : decode cX3_obey 42 = .ok (.invokevirtual 94, 3) := by decide +kernel
theorem dX3_obey_45 : decode cX3_obey 45 = .ok (.pop, 1) := by decide +kernel
theorem dX3_obey_46 : decode cX3_obey 46 = .ok (.goto 44, 3) := by decide +kernel
theorem dX3_obey_49 : decode cX3_obey 49 = .ok (.aload_n 0, 1) := by decide +kernel
theorem dX3_obey_50 : decode cX3_obey 50 = .ok (.iload_n 3, 1) := by decide +kernel
theorem dX3_obey_51 : decode cX3_obey 51 = .ok (.putfield 42, 3) := by decide +kernel
theorem dX3_obey_54 : decode cX3_obey 54 = .ok (.goto 36, 3) := by decide +kernel
theorem dX3_obey_57 : decode cX3_obey 57 = .ok (.aload_n 0, 1) := by decide +kernel
theorem dX3_obey_58 : decode cX3_obey 58 = .ok (.getfield 25, 3) := by decide +kernel
theorem dX3_obey_61 : decode cX3_obey 61 = .ok (.iload_n 2, 1) := by decide +kernel
theorem dX3_obey_62 : decode cX3_obey 62 = .ok (.iload_n 3, 1) := by decide +kernel
theorem dX3_obey_63 : decode cX3_obey 63 = .ok (.invokevirtual 97, 3) := by decide +kernel
theorem dX3_obey_66 : decode cX3_obey 66 = .ok (.goto 24, 3) := by decide +kernel
theorem dX3_obey_69 : decode cX3_obey 69 = .ok (.aload_n 0, 1) := by decide +kernel
theorem dX3_obey_70 : decode cX3_obey 70 = .ok (.iload_n 2, 1) := by decide +kernel
theorem dX3_obey_71 : decode cX3_obey 71 = .ok (.putfield 9, 3) := by decide +kernel
theorem dX3_obey_74 : decode cX3_obey 74 = .ok (.aload_n 0, 1) := by decide +kernel
theorem dX3_obey_75 : decode cX3_obey 75 = .ok (.iload_n 3, 1) := by decide +kernel
theorem dX3_obey_76 : decode cX3_obey 76 = .ok (.putfield 45, 3) := by decide +kernel
theorem dX3_obey_79 : decode cX3_obey 79 = .ok (.goto 11, 3) := by decide +kernel
theorem dX3_obey_82 : decode cX3_obey 82 = .ok (.aload_n 0, 1) := by decide +kernel
theorem dX3_obey_83 : decode cX3_obey 83 = .ok (.iconst 0, 1) := by decide +kernel
theorem dX3_obey_84 : decode cX3_obey 84 = .ok (.putfield 35, 3) := by decide +kernel
theorem dX3_obey_87 : decode cX3_obey 87 = .ok (.goto 3, 3) := by decide +kernel
theorem dX3_obey_90 : decode cX3_obey 90 = .ok (.return_, 1) := by decide +kernel
theorem dX3_speakOn_0 : decode cX3_speakOn 0 = .ok (.aload_n 0, 1) := by decide +kernel
theorem dX3_speakOn_1 : decode cX3_speakOn 1 = .ok (.getfield 45, 3) := by decide +kernel
theorem dX3_speakOn_4 : decode cX3_speakOn 4 = .ok (.ifCond .le 13, 3) := by decide +kernel
theorem dX3_speakOn_7 : decode cX3_speakOn 7 = .ok (.aload_n 0, 1) := by decide +kernel
theorem dX3_speakOn_8 : decode cX3_speakOn 8 = .ok (.dup, 1) := by decide +kernel
theorem dX3_speakOn_9 : decode cX3_speakOn 9 = .ok (.getfield 45, 3) := by decide +kernel
theorem dX3_speakOn_12 : decode cX3_speakOn 12 = .ok (.iconst 1, 1) := by decide +kernel
theorem dX3_speakOn_13 : decode cX3_speakOn 13 = .ok (.isub, 1) := by decide +kernel
theorem dX3_speakOn_14 : decode cX3_speakOn 14 = .ok (.putfield 45, 3) := by decide +kernel
theorem dX3_speakOn_17 : decode cX3_speakOn 17 = .ok (.aload_n 0, 1) := by decide +kernel
theorem dX3_speakOn_18 : decode cX3_speakOn 18 = .ok (.getfield 45, 3) := by decide +kernel
theorem dX3_speakOn_21 : decode cX3_speakOn 21 = .ok (.ifCond .ne 8, 3) := by decide +kernel
theorem dX3_speakOn_24 : decode cX3_speakOn 24 = .ok (.aload_n 0, 1) := by decide +kernel
theorem dX3_speakOn_25 : decode cX3_speakOn 25 = .ok (.iconst (-1), 1) := by decide +kernel
theorem dX3_speakOn_26 : decode cX3_speakOn 26 = .ok (.putfield 9, 3) := by decide +kernel
theorem dX3_speakOn_29 : decode cX3_speakOn 29 = .ok (.return_, 1) := by decide +kernel
set_option maxRecDepth 20000 in
theorem ggX3_fact_X3_starsSeen : GoodIn wsX3_fact wsX3_starsSeen := goodIn_r _ [18, 6, 19, 20, 21, 17, 22, 23, 12, 24, 25, 26, 27, 28, 29, 30, 31, 32, 33, 34, 35, 36, 37, 38, 39, 40, 41, 4, 42, 43, 44, 45, 46, 47, 48, 49, 50, 82, 83, 84, 67, 68, 69, 70, 71, 72, 73, 74, 75, 76, 77, 78, 79, 80, 81] (by decide +kernel) (by decide +kernel)
set_option maxRecDepth 20000 in
theorem gX3_fact_X3_starsSeen : GoodIn wsX3_fact (wsV RX3 106 RX3 yX3_starsSeen wsX3_starsSeen) := goodIn_app (goodIn_of _ (by decide +kernel)) ggX3_fact_X3_starsSeen
set_option maxRecDepth 20000 in
theorem ggX3_fact_X3_cometsSeen : GoodIn wsX3_fact wsX3_cometsSeen := goodIn_r _ [54, 7, 8, 55, 56, 57, 17, 58, 59, 60, 61, 62, 63, 64, 65, 66, 38, 39, 40, 41, 4, 42, 43, 44, 45, 46, 47, 48, 49, 50, 35, 36, 37, 67, 68, 69, 70, 71, 72, 73, 74, 75, 85, 86, 87, 88, 76, 77, 78, 79, 80, 81] (by decide +kernel) (by decide +kernel)
set_option maxRecDepth 20000 in
theorem gX3_fact_X3_cometsSeen : GoodIn wsX3_fact (wsV RX3 110 RX3 yX3_cometsSeen wsX3_cometsSeen) := goodIn_app (goodIn_of _ (by decide +kernel)) ggX3_fact_X3_cometsSeen
theorem dX3_fact_0 : decode cX3_fact 0 = .ok (.iload_n 1, 1) := by decide +kernel
theorem dX3_fact_1 : decode cX3_fact 1 = .ok (.tableswitch 138 0 11 #[63, 68, 73, 86, 94, 99, 107, 112, 118, 123, 128, 133], 63) := by decide +kernel
theorem dX3_fact_64 : decode cX3_fact 64 = .ok (.aload_n 0, 1) := by decide +kernel
theorem dX3_fact_65 : decode cX3_fact 65 = .ok (.getfield 29, 3) := by decide +kernel
theorem dX3_fact_68 : decode cX3_fact 68 = .ok (.ireturn, 1) := by decide +kernel
theorem dX3_fact_69 : decode cX3_fact 69 = .ok (.aload_n 0, 1) := by decide +kernel
theorem dX3_fact_70 : decode cX3_fact 70 = .ok (.getfield 32, 3) := by decide +kernel
theorem dX3_fact_73 : decode cX3_fact 73 = .ok (.ireturn, 1) := by decide +kernel
theorem dX3_fact_74 : decode cX3_fact 74 = .ok (.aload_n 0, 1) := by decide +kernel
theorem dX3_fact_75 : decode cX3_fact 75 = .ok (.getfield 35, 3) := by decide +kernel
theorem dX3_fact_78 : decode cX3_fact 78 = .ok (.ifCond .eq 7, 3) := by decide +kernel
theorem dX3_fact_81 : decode cX3_fact 81 = .ok (.iconst 1, 1) := by decide +kernel
theorem dX3_fact_82 : decode cX3_fact 82 = .ok (.goto 4, 3) := by decide +kernel
theorem dX3_fact_85 : decode cX3_fact 85 = .ok (.iconst 0, 1) := by decide +kernel
theorem dX3_fact_86 : decode cX3_fact 86 = .ok (.ireturn, 1) := by decide +kernel
theorem dX3_fact_87 : decode cX3_fact 87 = .ok (.aload_n 0, 1) := by decide +kernel
theorem dX3_fact_88 : decode cX3_fact 88 = .ok (.getfield 18, 3) := by decide +kernel
theorem dX3_fact_91 : decode cX3_fact 91 = .ok (.getfield 101, 3) := by decide +kernel
theorem dX3_fact_94 : decode cX3_fact 94 = .ok (.ireturn, 1) := by decide +kernel
theorem dX3_fact_95 : decode cX3_fact 95 = .ok (.aload_n 2, 1) := by decide +kernel
theorem dX3_fact_96 : decode cX3_fact 96 = .ok (.getfield 102, 3) := by decide +kernel
theorem dX3_fact_99 : decode cX3_fact 99 = .ok (.ireturn, 1) := by decide +kernel
theorem dX3_fact_100 : decode cX3_fact 100 = .ok (.aload_n 0, 1) := by decide +kernel
theorem dX3_fact_101 : decode cX3_fact 101 = .ok (.getfield 25, 3) := by decide +kernel
theorem dX3_fact_104 : decode cX3_fact 104 = .ok (.getfield 105, 3) := by decide +kernel
theorem dX3_fact_107 : decode cX3_fact 107 = .ok (.ireturn, 1) := by decide +kernel
theorem dX3_fact_108 : decode cX3_fact 108 = .ok (.aload_n 3, 1) := by decide +kernel
theorem dX3_fact_109 : decode cX3_fact 109 = .ok (.getfield 72, 3) := by decide +kernel
theorem dX3_fact_112 : decode cX3_fact 112 = .ok (.ireturn, 1) := by decide +kernel
theorem dX3_fact_113 : decode cX3_fact 113 = .ok (.aload_n 0, 1) := by decide +kernel
theorem dX3_fact_114 : decode cX3_fact 114 = .ok (.aload_n 2, 1) := by decide +kernel
theorem dX3_fact_115 : decode cX3_fact 115 = .ok (.invokevirtual 106, 3) := by decide +kernel
theorem dX3_fact_118 : decode cX3_fact 118 = .ok (.ireturn, 1) := by decide +kernel
theorem dX3_fact_119 : decode cX3_fact 119 = .ok (.aload_n 0, 1) := by decide +kernel
theorem dX3_fact_120 : decode cX3_fact 120 = .ok (.invokevirtual 110, 3) := by decide +kernel
theorem dX3_fact_123 : decode cX3_fact 123 = .ok (.ireturn, 1) := by decide +kernel
theorem dX3_fact_124 : decode cX3_fact 124 = .ok (.aload_n 0, 1) := by decide +kernel
theorem dX3_fact_125 : decode cX3_fact 125 = .ok (.getfield 9, 3) := by decide +kernel
theorem dX3_fact_128 : decode cX3_fact 128 = .ok (.ireturn, 1) := by decide +kernel
theorem dX3_fact_129 : decode cX3_fact 129 = .ok (.aload_n 0, 1) := by decide +kernel
theorem dX3_fact_130 : decode cX3_fact 130 = .ok (.getfield 45, 3) := by decide +kernel
theorem dX3_fact_133 : decode cX3_fact 133 = .ok (.ireturn, 1) := by decide +kernel
theorem dX3_fact_134 : decode cX3_fact 134 = .ok (.aload_n 0, 1) := by decide +kernel
theorem dX3_fact_135 : decode cX3_fact 135 = .ok (.getfield 39, 3) := by decide +kernel
theorem dX3_fact_138 : decode cX3_fact 138 = .ok (.ireturn, 1) := by decide +kernel
theorem dX3_fact_139 : decode cX3_fact 139 = .ok (.aload_n 0, 1) := by decide +kernel
theorem dX3_fact_140 : decode cX3_fact 140 = .ok (.getfield 42, 3) := by decide +kernel
theorem dX3_fact_143 : decode cX3_fact 143 = .ok (.ireturn, 1) := by decide +kernel
set_option maxRecDepth 20000 in
theorem ggX3_factOfStar_X4_has : GoodIn wsX3_factOfStar wsX4_has := goodIn_r _ [8, 9, 36, 37, 38] (by decide +kernel) (by decide +kernel)
set_option maxRecDepth 20000 in
theorem gX3_factOfStar_X4_has : GoodIn wsX3_factOfStar (wsV RX3 114 RX4 yX4_has wsX4_has) := goodIn_app (goodIn_of _ (by decide +kernel)) ggX3_factOfStar_X4_has
set_option maxRecDepth 20000 in
theorem ggX3_factOfStar_X5_turned : GoodIn wsX3_factOfStar wsX5_turned := goodIn_r _ [12, 13, 14, 15, 16] (by decide +kernel) (by decide +kernel)
set_option maxRecDepth 20000 in
theorem gX3_factOfStar_X5_turned_n64 : GoodIn wsX3_factOfStar (wsX5_turned) := ggX3_factOfStar_X5_turned
set_option maxRecDepth 20000 in
theorem ggX3_factOfStar_X3_starSeen : GoodIn wsX3_factOfStar wsX3_starSeen := goodIn_r _ [21, 1, 3, 2, 4, 5, 6, 7, 8, 9, 10, 11, 12, 13, 14, 15, 16, 22, 23, 24, 20, 25, 26, 27, 28, 29, 30, 31, 32, 33, 34, 35, 36, 37, 38, 39, 40, 41, 42, 43, 44, 45, 46, 47, 48, 49, 50, 51, 52, 53] (by decide +kernel) (by decide +kernel)
set_option maxRecDepth 20000 in
theorem gX3_factOfStar_X3_starSeen : GoodIn wsX3_factOfStar (wsV RX3 124 RX3 yX3_starSeen wsX3_starSeen) := goodIn_app (goodIn_of _ (by decide +kernel)) ggX3_factOfStar_X3_starSeen
theorem dX3_factOfStar_0 : decode cX3_factOfStar 0 = .ok (.aload_n 1, 1) := by decide +kernel
theorem dX3_factOfStar_1 : decode cX3_factOfStar 1 = .ok (.iload_n 2, 1) := by decide +kernel
theorem dX3_factOfStar_2 : decode cX3_factOfStar 2 = .ok (.invokevirtual 114, 3) := by decide +kernel
theorem dX3_factOfStar_5 : decode cX3_factOfStar 5 = .ok (.ifCond .ne 5, 3) := by decide +kernel
theorem dX3_factOfStar_8 : decode cX3_factOfStar 8 = .ok (.iconst (-1), 1) := by decide +kernel
theorem dX3_factOfStar_9 : decode cX3_factOfStar 9 = .ok (.ireturn, 1) := by decide +kernel
theorem dX3_factOfStar_10 : decode cX3_factOfStar 10 = .ok (.iload_n 3, 1) := by decide +kernel
theorem dX3_factOfStar_11 : decode cX3_factOfStar 11 = .ok (.tableswitch 53 0 2 #[25, 32, 39], 25) := by decide +kernel
theorem dX3_factOfStar_36 : decode cX3_factOfStar 36 = .ok (.aload_n 1, 1) := by decide +kernel
theorem dX3_factOfStar_37 : decode cX3_factOfStar 37 = .ok (.getfield 118, 3) := by decide +kernel
theorem dX3_factOfStar_40 : decode cX3_factOfStar 40 = .ok (.iload_n 2, 1) := by decide +kernel
theorem dX3_factOfStar_41 : decode cX3_factOfStar 41 = .ok (.iaload, 1) := by decide +kernel
theorem dX3_factOfStar_42 : decode cX3_factOfStar 42 = .ok (.ireturn, 1) := by decide +kernel
theorem dX3_factOfStar_43 : decode cX3_factOfStar 43 = .ok (.aload_n 1, 1) := by decide +kernel
theorem dX3_factOfStar_44 : decode cX3_factOfStar 44 = .ok (.getfield 121, 3) := by decide +kernel
theorem dX3_factOfStar_47 : decode cX3_factOfStar 47 = .ok (.iload_n 2, 1) := by decide +kernel
theorem dX3_factOfStar_48 : decode cX3_factOfStar 48 = .ok (.iaload, 1) := by decide +kernel
theorem dX3_factOfStar_49 : decode cX3_factOfStar 49 = .ok (.ireturn, 1) := by decide +kernel
theorem dX3_factOfStar_50 : decode cX3_factOfStar 50 = .ok (.aload_n 1, 1) := by decide +kernel
theorem dX3_factOfStar_51 : decode cX3_factOfStar 51 = .ok (.getfield 118, 3) := by decide +kernel
theorem dX3_factOfStar_54 : decode cX3_factOfStar 54 = .ok (.iload_n 2, 1) := by decide +kernel
theorem dX3_factOfStar_55 : decode cX3_factOfStar 55 = .ok (.iaload, 1) := by decide +kernel
theorem dX3_factOfStar_56 : decode cX3_factOfStar 56 = .ok (.aload_n 0, 1) := by decide +kernel
theorem dX3_factOfStar_57 : decode cX3_factOfStar 57 = .ok (.getfield 39, 3) := by decide +kernel
theorem dX3_factOfStar_60 : decode cX3_factOfStar 60 = .ok (.invokestatic 64, 3) := by decide +kernel
theorem dX3_factOfStar_63 : decode cX3_factOfStar 63 = .ok (.ireturn, 1) := by decide +kernel
theorem dX3_factOfStar_64 : decode cX3_factOfStar 64 = .ok (.aload_n 0, 1) := by decide +kernel
theorem dX3_factOfStar_65 : decode cX3_factOfStar 65 = .ok (.aload_n 1, 1) := by decide +kernel
theorem dX3_factOfStar_66 : decode cX3_factOfStar 66 = .ok (.iload_n 2, 1) := by decide +kernel
theorem dX3_factOfStar_67 : decode cX3_factOfStar 67 = .ok (.invokevirtual 124, 3) := by decide +kernel
theorem dX3_factOfStar_70 : decode cX3_factOfStar 70 = .ok (.ifCond .eq 7, 3) := by decide +kernel
theorem dX3_factOfStar_73 : decode cX3_factOfStar 73 = .ok (.iconst 1, 1) := by decide +kernel
theorem dX3_factOfStar_74 : decode cX3_factOfStar 74 = .ok (.goto 4, 3) := by decide +kernel
theorem dX3_factOfStar_77 : decode cX3_factOfStar 77 = .ok (.iconst 0, 1) := by decide +kernel
theorem dX3_factOfStar_78 : decode cX3_factOfStar 78 = .ok (.ireturn, 1) := by decide +kernel
set_option maxRecDepth 20000 in
theorem ggX3_factOfComet_X0_has : GoodIn wsX3_factOfComet wsX0_has := goodIn_r _ [9, 10, 42, 43, 44, 45] (by decide +kernel) (by decide +kernel)
set_option maxRecDepth 20000 in
theorem gX3_factOfComet_X0_has : GoodIn wsX3_factOfComet (wsV RX3 128 RX0 yX0_has wsX0_has) := goodIn_app (goodIn_of _ (by decide +kernel)) ggX3_factOfComet_X0_has
set_option maxRecDepth 20000 in
theorem ggX3_factOfComet_X3_cometSeen : GoodIn wsX3_factOfComet wsX3_cometSeen := goodIn_r _ [15, 1, 4, 2, 5, 6, 7, 8, 9, 10, 16, 17, 18, 14, 19, 20, 21, 22, 23, 24, 25, 26, 27, 28, 29, 30, 31, 32, 33, 34, 35, 36, 37, 38, 39, 40, 41, 42, 43, 44, 45, 46, 47, 48, 49, 50, 51] (by decide +kernel) (by decide +kernel)
set_option maxRecDepth 20000 in
theorem gX3_factOfComet_X3_cometSeen : GoodIn wsX3_factOfComet (wsV RX3 138 RX3 yX3_cometSeen wsX3_cometSeen) := goodIn_app (goodIn_of _ (by decide +kernel)) ggX3_factOfComet_X3_cometSeen
theorem dX3_factOfComet_0 : decode cX3_factOfComet 0 = .ok (.aload_n 0, 1) := by decide +kernel
theorem dX3_factOfComet_1 : decode cX3_factOfComet 1 = .ok (.getfield 25, 3) := by decide +kernel
theorem dX3_factOfComet_4 : decode cX3_factOfComet 4 = .ok (.iload_n 1, 1) := by decide +kernel
theorem dX3_factOfComet_5 : decode cX3_factOfComet 5 = .ok (.invokevirtual 128, 3) := by decide +kernel
theorem dX3_factOfComet_8 : decode cX3_factOfComet 8 = .ok (.ifCond .ne 5, 3) := by decide +kernel
theorem dX3_factOfComet_11 : decode cX3_factOfComet 11 = .ok (.iconst (-1), 1) := by decide +kernel
theorem dX3_factOfComet_12 : decode cX3_factOfComet 12 = .ok (.ireturn, 1) := by decide +kernel
theorem dX3_factOfComet_13 : decode cX3_factOfComet 13 = .ok (.iload_n 2, 1) := by decide +kernel
theorem dX3_factOfComet_14 : decode cX3_factOfComet 14 = .ok (.tableswitch 56 0 2 #[26, 36, 46], 26) := by decide +kernel
theorem dX3_factOfComet_40 : decode cX3_factOfComet 40 = .ok (.aload_n 0, 1) := by decide +kernel
theorem dX3_factOfComet_41 : decode cX3_factOfComet 41 = .ok (.getfield 25, 3) := by decide +kernel
theorem dX3_factOfComet_44 : decode cX3_factOfComet 44 = .ok (.getfield 129, 3) := by decide +kernel
theorem dX3_factOfComet_47 : decode cX3_factOfComet 47 = .ok (.iload_n 1, 1) := by decide +kernel
theorem dX3_factOfComet_48 : decode cX3_factOfComet 48 = .ok (.iaload, 1) := by decide +kernel
theorem dX3_factOfComet_49 : decode cX3_factOfComet 49 = .ok (.ireturn, 1) := by decide +kernel
theorem dX3_factOfComet_50 : decode cX3_factOfComet 50 = .ok (.aload_n 0, 1) := by decide +kernel
theorem dX3_factOfComet_51 : decode cX3_factOfComet 51 = .ok (.getfield 25, 3) := by decide +kernel
theorem dX3_factOfComet_54 : decode cX3_factOfComet 54 = .ok (.getfield 132, 3) := by decide +kernel
theorem dX3_factOfComet_57 : decode cX3_factOfComet 57 = .ok (.iload_n 1, 1) := by decide +kernel
theorem dX3_factOfComet_58 : decode cX3_factOfComet 58 = .ok (.iaload, 1) := by decide +kernel
theorem dX3_factOfComet_59 : decode cX3_factOfComet 59 = .ok (.ireturn, 1) := by decide +kernel
theorem dX3_factOfComet_60 : decode cX3_factOfComet 60 = .ok (.aload_n 0, 1) := by decide +kernel
theorem dX3_factOfComet_61 : decode cX3_factOfComet 61 = .ok (.getfield 25, 3) := by decide +kernel
theorem dX3_factOfComet_64 : decode cX3_factOfComet 64 = .ok (.getfield 135, 3) := by decide +kernel
theorem dX3_factOfComet_67 : decode cX3_factOfComet 67 = .ok (.iload_n 1, 1) := by decide +kernel
theorem dX3_factOfComet_68 : decode cX3_factOfComet 68 = .ok (.iaload, 1) := by decide +kernel
theorem dX3_factOfComet_69 : decode cX3_factOfComet 69 = .ok (.ireturn, 1) := by decide +kernel
theorem dX3_factOfComet_70 : decode cX3_factOfComet 70 = .ok (.aload_n 0, 1) := by decide +kernel
theorem dX3_factOfComet_71 : decode cX3_factOfComet 71 = .ok (.iload_n 1, 1) := by decide +kernel
theorem dX3_factOfComet_72 : decode cX3_factOfComet 72 = .ok (.invokevirtual 138, 3) := by decide +kernel
theorem dX3_factOfComet_75 : decode cX3_factOfComet 75 = .ok (.ifCond .eq 7, 3) := by decide +kernel
theorem dX3_factOfComet_78 : decode cX3_factOfComet 78 = .ok (.iconst 1, 1) := by decide +kernel
theorem dX3_factOfComet_79 : decode cX3_factOfComet 79 = .ok (.goto 4, 3) := by decide +kernel
theorem dX3_factOfComet_82 : decode cX3_factOfComet 82 = .ok (.iconst 0, 1) := by decide +kernel
theorem dX3_factOfComet_83 : decode cX3_factOfComet 83 = .ok (.ireturn, 1) := by decide +kernel
set_option maxRecDepth 20000 in
theorem ggX3_starsSeen_X3_starSeen : GoodIn wsX3_starsSeen wsX3_starSeen := goodIn_r _ [6, 7, 8, 9, 10, 11, 12, 13, 14, 15, 16, 17, 18, 19, 20, 21, 22, 23, 24, 25, 5, 26, 27, 28, 29, 30, 31, 32, 33, 34, 35, 36, 37, 38, 39, 40, 41, 42, 43, 44, 45, 46, 47, 48, 49, 50, 51, 52, 53, 54] (by decide +kernel) (by decide +kernel)
set_option maxRecDepth 20000 in
theorem gX3_starsSeen_X3_starSeen : GoodIn wsX3_starsSeen (wsV RX3 124 RX3 yX3_starSeen wsX3_starSeen) := goodIn_app (goodIn_of _ (by decide +kernel)) ggX3_starsSeen_X3_starSeen
theorem dX3_starsSeen_0 : decode cX3_starsSeen 0 = .ok (.iconst 0, 1) := by decide +kernel
theorem dX3_starsSeen_1 : decode cX3_starsSeen 1 = .ok (.istore_n 2, 1) := by decide +kernel
theorem dX3_starsSeen_2 : decode cX3_starsSeen 2 = .ok (.iconst 0, 1) := by decide +kernel
theorem dX3_starsSeen_3 : decode cX3_starsSeen 3 = .ok (.istore_n 3, 1) := by decide +kernel
theorem dX3_starsSeen_4 : decode cX3_starsSeen 4 = .ok (.iload_n 3, 1) := by decide +kernel
theorem dX3_starsSeen_5 : decode cX3_starsSeen 5 = .ok (.aload_n 1, 1) := by decide +kernel
theorem dX3_starsSeen_6 : decode cX3_starsSeen 6 = .ok (.getfield 102, 3) := by decide +kernel
theorem dX3_starsSeen_9 : decode cX3_starsSeen 9 = .ok (.if_icmp .ge 21, 3) := by decide +kernel
theorem dX3_starsSeen_12 : decode cX3_starsSeen 12 = .ok (.aload_n 0, 1) := by decide +kernel
theorem dX3_starsSeen_13 : decode cX3_starsSeen 13 = .ok (.aload_n 1, 1) := by decide +kernel
theorem dX3_starsSeen_14 : decode cX3_starsSeen 14 = .ok (.iload_n 3, 1) := by decide +kernel
theorem dX3_starsSeen_15 : decode cX3_starsSeen 15 = .ok (.invokevirtual 124, 3) := by decide +kernel
theorem dX3_starsSeen_18 : decode cX3_starsSeen 18 = .ok (.ifCond .eq 6, 3) := by decide +kernel
theorem dX3_starsSeen_21 : decode cX3_starsSeen 21 = .ok (.iinc 2 1, 3) := by decide +kernel
theorem dX3_starsSeen_24 : decode cX3_starsSeen 24 = .ok (.iinc 3 1, 3) := by decide +kernel
theorem dX3_starsSeen_27 : decode cX3_starsSeen 27 = .ok (.goto (-23), 3) := by decide +kernel
theorem dX3_starsSeen_30 : decode cX3_starsSeen 30 = .ok (.iload_n 2, 1) := by decide +kernel
theorem dX3_starsSeen_31 : decode cX3_starsSeen 31 = .ok (.ireturn, 1) := by decide +kernel
set_option maxRecDepth 20000 in
theorem ggX3_cometsSeen_X3_cometSeen : GoodIn wsX3_cometsSeen wsX3_cometSeen := goodIn_r _ [7, 1, 8, 9, 10, 11, 12, 13, 14, 15, 16, 17, 18, 6, 19, 20, 21, 22, 23, 24, 25, 26, 27, 28, 29, 30, 31, 32, 33, 34, 35, 36, 37, 38, 39, 40, 41, 42, 43, 44, 45, 46, 47, 48, 49, 50, 51] (by decide +kernel) (by decide +kernel)
set_option maxRecDepth 20000 in
theorem gX3_cometsSeen_X3_cometSeen : GoodIn wsX3_cometsSeen (wsV RX3 138 RX3 yX3_cometSeen wsX3_cometSeen) := goodIn_app (goodIn_of _ (by decide +kernel)) ggX3_cometsSeen_X3_cometSeen
theorem dX3_cometsSeen_0 : decode cX3_cometsSeen 0 = .ok (.iconst 0, 1) := by decide +kernel
theorem dX3_cometsSeen_1 : decode cX3_cometsSeen 1 = .ok (.istore_n 1, 1) := by decide +kernel
theorem dX3_cometsSeen_2 : decode cX3_cometsSeen 2 = .ok (.iconst 0, 1) := by decide +kernel
theorem dX3_cometsSeen_3 : decode cX3_cometsSeen 3 = .ok (.istore_n 2, 1) := by decide +kernel
theorem dX3_cometsSeen_4 : decode cX3_cometsSeen 4 = .ok (.iload_n 2, 1) := by decide +kernel
theorem dX3_cometsSeen_5 : decode cX3_cometsSeen 5 = .ok (.aload_n 0, 1) := by decide +kernel
theorem dX3_cometsSeen_6 : decode cX3_cometsSeen 6 = .ok (.getfield 25, 3) := by decide +kernel
theorem dX3_cometsSeen_9 : decode cX3_cometsSeen 9 = .ok (.getfield 105, 3) := by decide +kernel
theorem dX3_cometsSeen_12 : decode cX3_cometsSeen 12 = .ok (.if_icmp .ge 20, 3) := by decide +kernel
theorem dX3_cometsSeen_15 : decode cX3_cometsSeen 15 = .ok (.aload_n 0, 1) := by decide +kernel
theorem dX3_cometsSeen_16 : decode cX3_cometsSeen 16 = .ok (.iload_n 2, 1) := by decide +kernel
theorem dX3_cometsSeen_17 : decode cX3_cometsSeen 17 = .ok (.invokevirtual 138, 3) := by decide +kernel
theorem dX3_cometsSeen_20 : decode cX3_cometsSeen 20 = .ok (.ifCond .eq 6, 3) := by decide +kernel
theorem dX3_cometsSeen_23 : decode cX3_cometsSeen 23 = .ok (.iinc 1 1, 3) := by decide +kernel
theorem dX3_cometsSeen_26 : decode cX3_cometsSeen 26 = .ok (.iinc 2 1, 3) := by decide +kernel
theorem dX3_cometsSeen_29 : decode cX3_cometsSeen 29 = .ok (.goto (-25), 3) := by decide +kernel
theorem dX3_cometsSeen_32 : decode cX3_cometsSeen 32 = .ok (.iload_n 1, 1) := by decide +kernel
theorem dX3_cometsSeen_33 : decode cX3_cometsSeen 33 = .ok (.ireturn, 1) := by decide +kernel
set_option maxRecDepth 20000 in
theorem ggX3_starSeen_X4_has : GoodIn wsX3_starSeen wsX4_has := goodIn_r _ [8, 9, 32, 33, 34] (by decide +kernel) (by decide +kernel)
set_option maxRecDepth 20000 in
theorem gX3_starSeen_X4_has : GoodIn wsX3_starSeen (wsV RX3 114 RX4 yX4_has wsX4_has) := goodIn_app (goodIn_of _ (by decide +kernel)) ggX3_starSeen_X4_has
set_option maxRecDepth 20000 in
theorem ggX3_starSeen_X5_turned : GoodIn wsX3_starSeen wsX5_turned := goodIn_r _ [12, 13, 14, 15, 16] (by decide +kernel) (by decide +kernel)
set_option maxRecDepth 20000 in
theorem gX3_starSeen_X5_turned_n64 : GoodIn wsX3_starSeen (wsX5_turned) := ggX3_starSeen_X5_turned
set_option maxRecDepth 20000 in
theorem ggX3_starSeen_X3_outshines : GoodIn wsX3_starSeen wsX3_outshines := goodIn_r _ [21, 22, 23, 24, 25, 26, 27, 28, 29, 30, 31, 14, 15, 16, 35, 36, 37, 38, 39, 40, 41, 42, 43, 44, 45, 46, 47, 48, 49] (by decide +kernel) (by decide +kernel)
set_option maxRecDepth 20000 in
theorem gX3_starSeen_X3_outshines : GoodIn wsX3_starSeen (wsV RX3 141 RX3 yX3_outshines wsX3_outshines) := goodIn_app (goodIn_of _ (by decide +kernel)) ggX3_starSeen_X3_outshines
theorem dX3_starSeen_0 : decode cX3_starSeen 0 = .ok (.aload_n 1, 1) := by decide +kernel
theorem dX3_starSeen_1 : decode cX3_starSeen 1 = .ok (.iload_n 2, 1) := by decide +kernel
theorem dX3_starSeen_2 : decode cX3_starSeen 2 = .ok (.invokevirtual 114, 3) := by decide +kernel
theorem dX3_starSeen_5 : decode cX3_starSeen 5 = .ok (.ifCond .eq 33, 3) := by decide +kernel
theorem dX3_starSeen_8 : decode cX3_starSeen 8 = .ok (.aload_n 0, 1) := by decide +kernel
theorem dX3_starSeen_9 : decode cX3_starSeen 9 = .ok (.aload_n 1, 1) := by decide +kernel
theorem dX3_starSeen_10 : decode cX3_starSeen 10 = .ok (.getfield 118, 3) := by decide +kernel
theorem dX3_starSeen_13 : decode cX3_starSeen 13 = .ok (.iload_n 2, 1) := by decide +kernel
theorem dX3_starSeen_14 : decode cX3_starSeen 14 = .ok (.iaload, 1) := by decide +kernel
theorem dX3_starSeen_15 : decode cX3_starSeen 15 = .ok (.aload_n 0, 1) := by decide +kernel
theorem dX3_starSeen_16 : decode cX3_starSeen 16 = .ok (.getfield 39, 3) := by decide +kernel
theorem dX3_starSeen_19 : decode cX3_starSeen 19 = .ok (.invokestatic 64, 3) := by decide +kernel
theorem dX3_starSeen_22 : decode cX3_starSeen 22 = .ok (.aload_n 1, 1) := by decide +kernel
theorem dX3_starSeen_23 : decode cX3_starSeen 23 = .ok (.getfield 121, 3) := by decide +kernel
theorem dX3_starSeen_26 : decode cX3_starSeen 26 = .ok (.iload_n 2, 1) := by decide +kernel
theorem dX3_starSeen_27 : decode cX3_starSeen 27 = .ok (.iaload, 1) := by decide +kernel
theorem dX3_starSeen_28 : decode cX3_starSeen 28 = .ok (.invokevirtual 141, 3) := by decide +kernel
theorem dX3_starSeen_31 : decode cX3_starSeen 31 = .ok (.ifCond .eq 7, 3) := by decide +kernel
theorem dX3_starSeen_34 : decode cX3_starSeen 34 = .ok (.iconst 1, 1) := by decide +kernel
theorem dX3_starSeen_35 : decode cX3_starSeen 35 = .ok (.goto 4, 3) := by decide +kernel
theorem dX3_starSeen_38 : decode cX3_starSeen 38 = .ok (.iconst 0, 1) := by decide +kernel
theorem dX3_starSeen_39 : decode cX3_starSeen 39 = .ok (.ireturn, 1) := by decide +kernel
set_option maxRecDepth 20000 in
theorem ggX3_cometSeen_X0_has : GoodIn wsX3_cometSeen wsX0_has := goodIn_r _ [8, 9, 37, 38, 39, 40] (by decide +kernel) (by decide +kernel)
set_option maxRecDepth 20000 in
theorem gX3_cometSeen_X0_has : GoodIn wsX3_cometSeen (wsV RX3 128 RX0 yX0_has wsX0_has) := goodIn_app (goodIn_of _ (by decide +kernel)) ggX3_cometSeen_X0_has
set_option maxRecDepth 20000 in
theorem ggX3_cometSeen_X3_outshines : GoodIn wsX3_cometSeen wsX3_outshines := goodIn_r _ [14, 15, 16, 17, 18, 19, 20, 21, 22, 23, 24, 25, 26, 27, 28, 29, 30, 31, 32, 33, 34, 35, 36, 41, 42, 43, 44, 45, 46] (by decide +kernel) (by decide +kernel)
set_option maxRecDepth 20000 in
theorem gX3_cometSeen_X3_outshines : GoodIn wsX3_cometSeen (wsV RX3 141 RX3 yX3_outshines wsX3_outshines) := goodIn_app (goodIn_of _ (by decide +kernel)) ggX3_cometSeen_X3_outshines
theorem dX3_cometSeen_0 : decode cX3_cometSeen 0 = .ok (.aload_n 0, 1) := by decide +kernel
theorem dX3_cometSeen_1 : decode cX3_cometSeen 1 = .ok (.getfield 25, 3) := by decide +kernel
theorem dX3_cometSeen_4 : decode cX3_cometSeen 4 = .ok (.iload_n 1, 1) := by decide +kernel
theorem dX3_cometSeen_5 : decode cX3_cometSeen 5 = .ok (.invokevirtual 128, 3) := by decide +kernel
theorem dX3_cometSeen_8 : decode cX3_cometSeen 8 = .ok (.ifCond .eq 37, 3) := by decide +kernel
theorem dX3_cometSeen_11 : decode cX3_cometSeen 11 = .ok (.aload_n 0, 1) := by decide +kernel
theorem dX3_cometSeen_12 : decode cX3_cometSeen 12 = .ok (.getfield 25, 3) := by decide +kernel
theorem dX3_cometSeen_15 : decode cX3_cometSeen 15 = .ok (.getfield 135, 3) := by decide +kernel
theorem dX3_cometSeen_18 : decode cX3_cometSeen 18 = .ok (.iload_n 1, 1) := by decide +kernel
theorem dX3_cometSeen_19 : decode cX3_cometSeen 19 = .ok (.iaload, 1) := by decide +kernel
theorem dX3_cometSeen_20 : decode cX3_cometSeen 20 = .ok (.ifCond .le 25, 3) := by decide +kernel
theorem dX3_cometSeen_23 : decode cX3_cometSeen 23 = .ok (.aload_n 0, 1) := by decide +kernel
theorem dX3_cometSeen_24 : decode cX3_cometSeen 24 = .ok (.aload_n 0, 1) := by decide +kernel
theorem dX3_cometSeen_25 : decode cX3_cometSeen 25 = .ok (.getfield 25, 3) := by decide +kernel
theorem dX3_cometSeen_28 : decode cX3_cometSeen 28 = .ok (.getfield 129, 3) := by decide +kernel
theorem dX3_cometSeen_31 : decode cX3_cometSeen 31 = .ok (.iload_n 1, 1) := by decide +kernel
theorem dX3_cometSeen_32 : decode cX3_cometSeen 32 = .ok (.iaload, 1) := by decide +kernel
theorem dX3_cometSeen_33 : decode cX3_cometSeen 33 = .ok (.bipush 6, 2) := by decide +kernel
theorem dX3_cometSeen_35 : decode cX3_cometSeen 35 = .ok (.invokevirtual 141, 3) := by decide +kernel
theorem dX3_cometSeen_38 : decode cX3_cometSeen 38 = .ok (.ifCond .eq 7, 3) := by decide +kernel
theorem dX3_cometSeen_41 : decode cX3_cometSeen 41 = .ok (.iconst 1, 1) := by decide +kernel
theorem dX3_cometSeen_42 : decode cX3_cometSeen 42 = .ok (.goto 4, 3) := by decide +kernel
theorem dX3_cometSeen_45 : decode cX3_cometSeen 45 = .ok (.iconst 0, 1) := by decide +kernel
theorem dX3_cometSeen_46 : decode cX3_cometSeen 46 = .ok (.ireturn, 1) := by decide +kernel
set_option maxRecDepth 20000 in
theorem ggX3_outshines_X2_glareOn : GoodIn wsX3_outshines wsX2_glareOn := goodIn_r _ [6, 7, 8, 9, 10, 11, 12, 13, 23, 24, 25, 26, 27, 28] (by decide +kernel) (by decide +kernel)
set_option maxRecDepth 20000 in
theorem gX3_outshines_X2_glareOn : GoodIn wsX3_outshines (wsV RX3 145 RX2 yX2_glareOn wsX2_glareOn) := goodIn_app (goodIn_of _ (by decide +kernel)) ggX3_outshines_X2_glareOn
theorem dX3_outshines_0 : decode cX3_outshines 0 = .ok (.bipush 10, 2) := by decide +kernel
theorem dX3_outshines_2 : decode cX3_outshines 2 = .ok (.iload_n 2, 1) := by decide +kernel
theorem dX3_outshines_3 : decode cX3_outshines 3 = .ok (.imul, 1) := by decide +kernel
theorem dX3_outshines_4 : decode cX3_outshines 4 = .ok (.aload_n 0, 1) := by decide +kernel
theorem dX3_outshines_5 : decode cX3_outshines 5 = .ok (.getfield 18, 3) := by decide +kernel
theorem dX3_outshines_8 : decode cX3_outshines 8 = .ok (.iload_n 1, 1) := by decide +kernel
theorem dX3_outshines_9 : decode cX3_outshines 9 = .ok (.bipush 30, 2) := by decide +kernel
theorem dX3_outshines_11 : decode cX3_outshines 11 = .ok (.idiv, 1) := by decide +kernel
theorem dX3_outshines_12 : decode cX3_outshines 12 = .ok (.invokevirtual 145, 3) := by decide +kernel
theorem dX3_outshines_15 : decode cX3_outshines 15 = .ok (.if_icmp .le 7, 3) := by decide +kernel
theorem dX3_outshines_18 : decode cX3_outshines 18 = .ok (.iconst 1, 1) := by decide +kernel
theorem dX3_outshines_19 : decode cX3_outshines 19 = .ok (.goto 4, 3) := by decide +kernel
theorem dX3_outshines_22 : decode cX3_outshines 22 = .ok (.iconst 0, 1) := by decide +kernel
theorem dX3_outshines_23 : decode cX3_outshines 23 = .ok (.ireturn, 1) := by decide +kernel
theorem dX4_init_0 : decode cX4_init 0 = .ok (.aload_n 0, 1) := by decide +kernel
theorem dX4_init_1 : decode cX4_init 1 = .ok (.invokespecial 3, 3) := by decide +kernel
theorem dX4_init_4 : decode cX4_init 4 = .ok (.aload_n 0, 1) := by decide +kernel
theorem dX4_init_5 : decode cX4_init 5 = .ok (.bipush 20, 2) := by decide +kernel
theorem dX4_init_7 : decode cX4_init 7 = .ok (.newarray .int, 2) := by decide +kernel
theorem dX4_init_9 : decode cX4_init 9 = .ok (.putfield 9, 3) := by decide +kernel
theorem dX4_init_12 : decode cX4_init 12 = .ok (.aload_n 0, 1) := by decide +kernel
theorem dX4_init_13 : decode cX4_init 13 = .ok (.bipush 20, 2) := by decide +kernel
theorem dX4_init_15 : decode cX4_init 15 = .ok (.newarray .int, 2) := by decide +kernel
theorem dX4_init_17 : decode cX4_init 17 = .ok (.putfield 15, 3) := by decide +kernel
theorem dX4_init_20 : decode cX4_init 20 = .ok (.return_, 1) := by decide +kernel
theorem dX4_has_0 : decode cX4_has 0 = .ok (.iload_n 1, 1) := by decide +kernel
theorem dX4_has_1 : decode cX4_has 1 = .ok (.ifCond .lt 15, 3) := by decide +kernel
theorem dX4_has_4 : decode cX4_has 4 = .ok (.iload_n 1, 1) := by decide +kernel
theorem dX4_has_5 : decode cX4_has 5 = .ok (.aload_n 0, 1) := by decide +kernel
theorem dX4_has_6 : decode cX4_has 6 = .ok (.getfield 18, 3) := by decide +kernel
theorem dX4_has_9 : decode cX4_has 9 = .ok (.if_icmp .ge 7, 3) := by decide +kernel
theorem dX4_has_12 : decode cX4_has 12 = .ok (.iconst 1, 1) := by decide +kernel
theorem dX4_has_13 : decode cX4_has 13 = .ok (.goto 4, 3) := by decide +kernel
theorem dX4_has_16 : decode cX4_has 16 = .ok (.iconst 0, 1) := by decide +kernel
theorem dX4_has_17 : decode cX4_has 17 = .ok (.ireturn, 1) := by decide +kernel
theorem dX4_add_0 : decode cX4_add 0 = .ok (.aload_n 0, 1) := by decide +kernel
theorem dX4_add_1 : decode cX4_add 1 = .ok (.getfield 18, 3) := by decide +kernel
theorem dX4_add_4 : decode cX4_add 4 = .ok (.bipush 20, 2) := by decide +kernel
theorem dX4_add_6 : decode cX4_add 6 = .ok (.if_icmp .lt 5, 3) := by decide +kernel
theorem dX4_add_9 : decode cX4_add 9 = .ok (.iconst (-1), 1) := by decide +kernel
theorem dX4_add_10 : decode cX4_add 10 = .ok (.ireturn, 1) := by decide +kernel
theorem dX4_add_11 : decode cX4_add 11 = .ok (.aload_n 0, 1) := by decide +kernel
theorem dX4_add_12 : decode cX4_add 12 = .ok (.getfield 18, 3) := by decide +kernel
theorem dX4_add_15 : decode cX4_add 15 = .ok (.istore_n 3, 1) := by decide +kernel
theorem dX4_add_16 : decode cX4_add 16 = .ok (.aload_n 0, 1) := by decide +kernel
theorem dX4_add_17 : decode cX4_add 17 = .ok (.getfield 9, 3) := by decide +kernel
theorem dX4_add_20 : decode cX4_add 20 = .ok (.iload_n 3, 1) := by decide +kernel
theorem dX4_add_21 : decode cX4_add 21 = .ok (.iload_n 1, 1) := by decide +kernel
theorem dX4_add_22 : decode cX4_add 22 = .ok (.iastore, 1) := by decide +kernel
theorem dX4_add_23 : decode cX4_add 23 = .ok (.aload_n 0, 1) := by decide +kernel
theorem dX4_add_24 : decode cX4_add 24 = .ok (.getfield 15, 3) := by decide +kernel
theorem dX4_add_27 : decode cX4_add 27 = .ok (.iload_n 3, 1) := by decide +kernel
theorem dX4_add_28 : decode cX4_add 28 = .ok (.iload_n 2, 1) := by decide +kernel
theorem dX4_add_29 : decode cX4_add 29 = .ok (.iastore, 1) := by decide +kernel
theorem dX4_add_30 : decode cX4_add 30 = .ok (.aload_n 0, 1) := by decide +kernel
theorem dX4_add_31 : decode cX4_add 31 = .ok (.iload_n 3, 1) := by decide +kernel
theorem dX4_add_32 : decode cX4_add 32 = .ok (.iconst 1, 1) := by decide +kernel
theorem dX4_add_33 : decode cX4_add 33 = .ok (.iadd, 1) := by decide +kernel
theorem dX4_add_34 : decode cX4_add 34 = .ok (.putfield 18, 3) := by decide +kernel
theorem dX4_add_37 : decode cX4_add 37 = .ok (.iload_n 3, 1) := by decide +kernel
theorem dX4_add_38 : decode cX4_add 38 = .ok (.ireturn, 1) := by decide +kernel
set_option maxRecDepth 20000 in
theorem ggX5_init_X4_init : GoodIn wsX5_init wsX4_init := goodIn_r _ [18, 19, 2, 3, 20, 21, 22, 56, 57, 58] (by decide +kernel) (by decide +kernel)
set_option maxRecDepth 20000 in
theorem gX5_init_X4_init_n9 : GoodIn wsX5_init (wsX4_init) := ggX5_init_X4_init
set_option maxRecDepth 20000 in
theorem ggX5_init_X1_init : GoodIn wsX5_init wsX1_init := goodIn_r _ [24, 25, 2, 3, 20, 26, 27, 28, 29, 63, 64, 65, 66, 67] (by decide +kernel) (by decide +kernel)
set_option maxRecDepth 20000 in
theorem gX5_init_X1_init_n18 : GoodIn wsX5_init (wsX1_init) := ggX5_init_X1_init
set_option maxRecDepth 20000 in
theorem ggX5_init_X3_init : GoodIn wsX5_init wsX3_init := goodIn_r _ [31, 32, 2, 3, 33, 34, 35, 36, 37, 38, 39, 40, 41, 42, 43, 44, 20, 45, 46, 47, 48, 49, 50, 51, 52, 53, 54, 55, 68, 69, 70, 71, 72, 73, 74, 75, 76, 77, 78, 79, 80, 81, 82, 83, 84, 85, 86] (by decide +kernel) (by decide +kernel)
set_option maxRecDepth 20000 in
theorem gX5_init_X3_init_n25 : GoodIn wsX5_init (wsX3_init) := ggX5_init_X3_init
theorem dX5_init_0 : decode cX5_init 0 = .ok (.aload_n 0, 1) := by decide +kernel
theorem dX5_init_1 : decode cX5_init 1 = .ok (.invokespecial 1, 3) := by decide +kernel
theorem dX5_init_4 : decode cX5_init 4 = .ok (.aload_n 0, 1) := by decide +kernel
theorem dX5_init_5 : decode cX5_init 5 = .ok (.new 7, 3) := by decide +kernel
theorem dX5_init_8 : decode cX5_init 8 = .ok (.dup, 1) := by decide +kernel
theorem dX5_init_9 : decode cX5_init 9 = .ok (.invokespecial 9, 3) := by decide +kernel
theorem dX5_init_12 : decode cX5_init 12 = .ok (.putfield 10, 3) := by decide +kernel
theorem dX5_init_15 : decode cX5_init 15 = .ok (.aload_n 0, 1) := by decide +kernel
theorem dX5_init_16 : decode cX5_init 16 = .ok (.new 16, 3) := by decide +kernel
theorem dX5_init_19 : decode cX5_init 19 = .ok (.dup, 1) := by decide +kernel
theorem dX5_init_20 : decode cX5_init 20 = .ok (.invokespecial 18, 3) := by decide +kernel
theorem dX5_init_23 : decode cX5_init 23 = .ok (.putfield 19, 3) := by decide +kernel
theorem dX5_init_26 : decode cX5_init 26 = .ok (.aload_n 0, 1) := by decide +kernel
theorem dX5_init_27 : decode cX5_init 27 = .ok (.new 23, 3) := by decide +kernel
theorem dX5_init_30 : decode cX5_init 30 = .ok (.dup, 1) := by decide +kernel
theorem dX5_init_31 : decode cX5_init 31 = .ok (.invokespecial 25, 3) := by decide +kernel
theorem dX5_init_34 : decode cX5_init 34 = .ok (.putfield 26, 3) := by decide +kernel
theorem dX5_init_37 : decode cX5_init 37 = .ok (.aload_n 0, 1) := by decide +kernel
theorem dX5_init_38 : decode cX5_init 38 = .ok (.new 23, 3) := by decide +kernel
theorem dX5_init_41 : decode cX5_init 41 = .ok (.dup, 1) := by decide +kernel
theorem dX5_init_42 : decode cX5_init 42 = .ok (.invokespecial 25, 3) := by decide +kernel
theorem dX5_init_45 : decode cX5_init 45 = .ok (.putfield 30, 3) := by decide +kernel
theorem dX5_init_48 : decode cX5_init 48 = .ok (.return_, 1) := by decide +kernel
set_option maxRecDepth 20000 in
theorem ggX5_dimmer_X5_within : GoodIn wsX5_dimmer wsX5_within := goodIn_r _ [11] (by decide +kernel) (by decide +kernel)
set_option maxRecDepth 20000 in
theorem gX5_dimmer_X5_within : GoodIn wsX5_dimmer (va_wsS RX5 33 yX5_within wsX5_within) := goodIn_app (goodIn_of _ (by decide +kernel)) ggX5_dimmer_X5_within
set_option maxRecDepth 20000 in
theorem ggX5_dimmer_X2_add : GoodIn wsX5_dimmer wsX2_add := goodIn_r _ [16, 17, 18, 19, 20, 21, 22, 36, 37, 38, 39, 40, 41] (by decide +kernel) (by decide +kernel)
set_option maxRecDepth 20000 in
theorem gX5_dimmer_X2_add : GoodIn wsX5_dimmer (wsV RX5 63 RX2 yX2_add wsX2_add) := goodIn_app (goodIn_of _ (by decide +kernel)) ggX5_dimmer_X2_add
theorem dX5_dimmer_0 : decode cX5_dimmer 0 = .ok (.iload_n 1, 1) := by decide +kernel
theorem dX5_dimmer_1 : decode cX5_dimmer 1 = .ok (.iconst 0, 1) := by decide +kernel
theorem dX5_dimmer_2 : decode cX5_dimmer 2 = .ok (.bipush 11, 2) := by decide +kernel
theorem dX5_dimmer_4 : decode cX5_dimmer 4 = .ok (.invokestatic 33, 3) := by decide +kernel
theorem dX5_dimmer_7 : decode cX5_dimmer 7 = .ok (.ifCond .ne 13, 3) := by decide +kernel
theorem dX5_dimmer_10 : decode cX5_dimmer 10 = .ok (.new 37, 3) := by decide +kernel
theorem dX5_dimmer_13 : decode cX5_dimmer 13 = .ok (.dup, 1) := by decide +kernel
theorem dX5_dimmer_14 : decode cX5_dimmer 14 = .ok (.ldc 39, 2) := by decide +kernel
theorem dX5_dimmer_16 : decode cX5_dimmer 16 = .ok (.invokespecial 41, 3) := by decide +kernel
theorem dX5_dimmer_19 : decode cX5_dimmer 19 = .ok (.athrow, 1) := by decide +kernel
theorem dX5_dimmer_20 : decode cX5_dimmer 20 = .ok (.iload_n 2, 1) := by decide +kernel
theorem dX5_dimmer_21 : decode cX5_dimmer 21 = .ok (.iconst 1, 1) := by decide +kernel
theorem dX5_dimmer_22 : decode cX5_dimmer 22 = .ok (.bipush 50, 2) := by decide +kernel
theorem dX5_dimmer_24 : decode cX5_dimmer 24 = .ok (.invokestatic 33, 3) := by decide +kernel
theorem dX5_dimmer_27 : decode cX5_dimmer 27 = .ok (.ifCond .ne 13, 3) := by decide +kernel
theorem dX5_dimmer_30 : decode cX5_dimmer 30 = .ok (.new 37, 3) := by decide +kernel
theorem dX5_dimmer_33 : decode cX5_dimmer 33 = .ok (.dup, 1) := by decide +kernel
theorem dX5_dimmer_34 : decode cX5_dimmer 34 = .ok (.ldc 44, 2) := by decide +kernel
theorem dX5_dimmer_36 : decode cX5_dimmer 36 = .ok (.invokespecial 41, 3) := by decide +kernel
theorem dX5_dimmer_39 : decode cX5_dimmer 39 = .ok (.athrow, 1) := by decide +kernel
theorem dX5_dimmer_40 : decode cX5_dimmer 40 = .ok (.iload_n 3, 1) := by decide +kernel
theorem dX5_dimmer_41 : decode cX5_dimmer 41 = .ok (.iconst 0, 1) := by decide +kernel
theorem dX5_dimmer_42 : decode cX5_dimmer 42 = .ok (.sipush 9999, 3) := by decide +kernel
theorem dX5_dimmer_45 : decode cX5_dimmer 45 = .ok (.invokestatic 33, 3) := by decide +kernel
theorem dX5_dimmer_48 : decode cX5_dimmer 48 = .ok (.ifCond .ne 13, 3) := by decide +kernel
theorem dX5_dimmer_51 : decode cX5_dimmer 51 = .ok (.new 37, 3) := by decide +kernel
theorem dX5_dimmer_54 : decode cX5_dimmer 54 = .ok (.dup, 1) := by decide +kernel
theorem dX5_dimmer_55 : decode cX5_dimmer 55 = .ok (.ldc 46, 2) := by decide +kernel
theorem dX5_dimmer_57 : decode cX5_dimmer 57 = .ok (.invokespecial 41, 3) := by decide +kernel
theorem dX5_dimmer_60 : decode cX5_dimmer 60 = .ok (.athrow, 1) := by decide +kernel
theorem dX5_dimmer_61 : decode cX5_dimmer 61 = .ok (.aload_n 0, 1) := by decide +kernel
theorem dX5_dimmer_62 : decode cX5_dimmer 62 = .ok (.getfield 26, 3) := by decide +kernel
theorem dX5_dimmer_65 : decode cX5_dimmer 65 = .ok (.getfield 48, 3) := by decide +kernel
theorem dX5_dimmer_68 : decode cX5_dimmer 68 = .ok (.getfield 52, 3) := by decide +kernel
theorem dX5_dimmer_71 : decode cX5_dimmer 71 = .ok (.bipush 8, 2) := by decide +kernel
theorem dX5_dimmer_73 : decode cX5_dimmer 73 = .ok (.if_icmp .lt 13, 3) := by decide +kernel
theorem dX5_dimmer_76 : decode cX5_dimmer 76 = .ok (.new 58, 3) := by decide +kernel
theorem dX5_dimmer_79 : decode cX5_dimmer 79 = .ok (.dup, 1) := by decide +kernel
theorem dX5_dimmer_80 : decode cX5_dimmer 80 = .ok (.ldc 60, 2) := by decide +kernel
theorem dX5_dimmer_82 : decode cX5_dimmer 82 = .ok (.invokespecial 62, 3) := by decide +kernel
theorem dX5_dimmer_85 : decode cX5_dimmer 85 = .ok (.athrow, 1) := by decide +kernel
theorem dX5_dimmer_86 : decode cX5_dimmer 86 = .ok (.aload_n 0, 1) := by decide +kernel
theorem dX5_dimmer_87 : decode cX5_dimmer 87 = .ok (.getfield 26, 3) := by decide +kernel
theorem dX5_dimmer_90 : decode cX5_dimmer 90 = .ok (.getfield 48, 3) := by decide +kernel
theorem dX5_dimmer_93 : decode cX5_dimmer 93 = .ok (.iload_n 1, 1) := by decide +kernel
theorem dX5_dimmer_94 : decode cX5_dimmer 94 = .ok (.iload_n 2, 1) := by decide +kernel
theorem dX5_dimmer_95 : decode cX5_dimmer 95 = .ok (.iload_n 3, 1) := by decide +kernel
theorem dX5_dimmer_96 : decode cX5_dimmer 96 = .ok (.invokevirtual 63, 3) := by decide +kernel
theorem dX5_dimmer_99 : decode cX5_dimmer 99 = .ok (.ireturn, 1) := by decide +kernel
set_option maxRecDepth 20000 in
theorem ggX5_lamp_X2_has : GoodIn wsX5_lamp wsX2_has := goodIn_r _ [11, 12, 41, 42, 43, 44, 45, 46] (by decide +kernel) (by decide +kernel)
set_option maxRecDepth 20000 in
theorem gX5_lamp_X2_has : GoodIn wsX5_lamp (wsV RX5 67 RX2 yX2_has wsX2_has) := goodIn_app (goodIn_of _ (by decide +kernel)) ggX5_lamp_X2_has
set_option maxRecDepth 20000 in
theorem ggX5_lamp_X5_within : GoodIn wsX5_lamp wsX5_within := goodIn_r _ [16] (by decide +kernel) (by decide +kernel)
set_option maxRecDepth 20000 in
theorem gX5_lamp_X5_within : GoodIn wsX5_lamp (va_wsS RX5 33 yX5_within wsX5_within) := goodIn_app (goodIn_of _ (by decide +kernel)) ggX5_lamp_X5_within
set_option maxRecDepth 20000 in
theorem ggX5_lamp_X2_changeLamp : GoodIn wsX5_lamp wsX2_changeLamp := goodIn_r _ [20, 21, 22, 8, 9, 10, 11, 12, 23, 24, 25, 26, 27, 41, 42, 43, 44, 45, 46] (by decide +kernel) (by decide +kernel)
set_option maxRecDepth 20000 in
theorem gX5_lamp_X2_changeLamp : GoodIn wsX5_lamp (wsV RX5 76 RX2 yX2_changeLamp wsX2_changeLamp) := goodIn_app (goodIn_of _ (by decide +kernel)) ggX5_lamp_X2_changeLamp
theorem dX5_lamp_0 : decode cX5_lamp 0 = .ok (.aload_n 0, 1) := by decide +kernel
theorem dX5_lamp_1 : decode cX5_lamp 1 = .ok (.getfield 26, 3) := by decide +kernel
theorem dX5_lamp_4 : decode cX5_lamp 4 = .ok (.getfield 48, 3) := by decide +kernel
theorem dX5_lamp_7 : decode cX5_lamp 7 = .ok (.iload_n 1, 1) := by decide +kernel
theorem dX5_lamp_8 : decode cX5_lamp 8 = .ok (.invokevirtual 67, 3) := by decide +kernel
theorem dX5_lamp_11 : decode cX5_lamp 11 = .ok (.ifCond .ne 13, 3) := by decide +kernel
theorem dX5_lamp_14 : decode cX5_lamp 14 = .ok (.new 71, 3) := by decide +kernel
theorem dX5_lamp_17 : decode cX5_lamp 17 = .ok (.dup, 1) := by decide +kernel
theorem dX5_lamp_18 : decode cX5_lamp 18 = .ok (.ldc 73, 2) := by decide +kernel
theorem dX5_lamp_20 : decode cX5_lamp 20 = .ok (.invokespecial 75, 3) := by decide +kernel
theorem dX5_lamp_23 : decode cX5_lamp 23 = .ok (.athrow, 1) := by decide +kernel
theorem dX5_lamp_24 : decode cX5_lamp 24 = .ok (.iload_n 2, 1) := by decide +kernel
theorem dX5_lamp_25 : decode cX5_lamp 25 = .ok (.iconst 0, 1) := by decide +kernel
theorem dX5_lamp_26 : decode cX5_lamp 26 = .ok (.sipush 9999, 3) := by decide +kernel
theorem dX5_lamp_29 : decode cX5_lamp 29 = .ok (.invokestatic 33, 3) := by decide +kernel
theorem dX5_lamp_32 : decode cX5_lamp 32 = .ok (.ifCond .ne 13, 3) := by decide +kernel
theorem dX5_lamp_35 : decode cX5_lamp 35 = .ok (.new 37, 3) := by decide +kernel
theorem dX5_lamp_38 : decode cX5_lamp 38 = .ok (.dup, 1) := by decide +kernel
theorem dX5_lamp_39 : decode cX5_lamp 39 = .ok (.ldc 46, 2) := by decide +kernel
theorem dX5_lamp_41 : decode cX5_lamp 41 = .ok (.invokespecial 41, 3) := by decide +kernel
theorem dX5_lamp_44 : decode cX5_lamp 44 = .ok (.athrow, 1) := by decide +kernel
theorem dX5_lamp_45 : decode cX5_lamp 45 = .ok (.aload_n 0, 1) := by decide +kernel
theorem dX5_lamp_46 : decode cX5_lamp 46 = .ok (.getfield 26, 3) := by decide +kernel
theorem dX5_lamp_49 : decode cX5_lamp 49 = .ok (.getfield 48, 3) := by decide +kernel
theorem dX5_lamp_52 : decode cX5_lamp 52 = .ok (.iload_n 1, 1) := by decide +kernel
theorem dX5_lamp_53 : decode cX5_lamp 53 = .ok (.iload_n 2, 1) := by decide +kernel
theorem dX5_lamp_54 : decode cX5_lamp 54 = .ok (.invokevirtual 76, 3) := by decide +kernel
theorem dX5_lamp_57 : decode cX5_lamp 57 = .ok (.ireturn, 1) := by decide +kernel
set_option maxRecDepth 20000 in
theorem ggX5_star_X5_within : GoodIn wsX5_star wsX5_within := goodIn_r _ [10] (by decide +kernel) (by decide +kernel)
set_option maxRecDepth 20000 in
theorem gX5_star_X5_within : GoodIn wsX5_star (va_wsS RX5 33 yX5_within wsX5_within) := goodIn_app (goodIn_of _ (by decide +kernel)) ggX5_star_X5_within
set_option maxRecDepth 20000 in
theorem ggX5_star_X4_add : GoodIn wsX5_star wsX4_add := goodIn_r _ [15, 16, 17, 18, 23, 24, 25] (by decide +kernel) (by decide +kernel)
set_option maxRecDepth 20000 in
theorem gX5_star_X4_add : GoodIn wsX5_star (wsV RX5 87 RX4 yX4_add wsX4_add) := goodIn_app (goodIn_of _ (by decide +kernel)) ggX5_star_X4_add
theorem dX5_star_0 : decode cX5_star 0 = .ok (.iload_n 1, 1) := by decide +kernel
theorem dX5_star_1 : decode cX5_star 1 = .ok (.iconst 0, 1) := by decide +kernel
theorem dX5_star_2 : decode cX5_star 2 = .ok (.sipush 359, 3) := by decide +kernel
theorem dX5_star_5 : decode cX5_star 5 = .ok (.invokestatic 33, 3) := by decide +kernel
theorem dX5_star_8 : decode cX5_star 8 = .ok (.ifCond .ne 13, 3) := by decide +kernel
theorem dX5_star_11 : decode cX5_star 11 = .ok (.new 37, 3) := by decide +kernel
theorem dX5_star_14 : decode cX5_star 14 = .ok (.dup, 1) := by decide +kernel
theorem dX5_star_15 : decode cX5_star 15 = .ok (.ldc 80, 2) := by decide +kernel
theorem dX5_star_17 : decode cX5_star 17 = .ok (.invokespecial 41, 3) := by decide +kernel
theorem dX5_star_20 : decode cX5_star 20 = .ok (.athrow, 1) := by decide +kernel
theorem dX5_star_21 : decode cX5_star 21 = .ok (.iload_n 2, 1) := by decide +kernel
theorem dX5_star_22 : decode cX5_star 22 = .ok (.iconst 1, 1) := by decide +kernel
theorem dX5_star_23 : decode cX5_star 23 = .ok (.bipush 9, 2) := by decide +kernel
theorem dX5_star_25 : decode cX5_star 25 = .ok (.invokestatic 33, 3) := by decide +kernel
theorem dX5_star_28 : decode cX5_star 28 = .ok (.ifCond .ne 13, 3) := by decide +kernel
theorem dX5_star_31 : decode cX5_star 31 = .ok (.new 37, 3) := by decide +kernel
theorem dX5_star_34 : decode cX5_star 34 = .ok (.dup, 1) := by decide +kernel
theorem dX5_star_35 : decode cX5_star 35 = .ok (.ldc 82, 2) := by decide +kernel
theorem dX5_star_37 : decode cX5_star 37 = .ok (.invokespecial 41, 3) := by decide +kernel
theorem dX5_star_40 : decode cX5_star 40 = .ok (.athrow, 1) := by decide +kernel
theorem dX5_star_41 : decode cX5_star 41 = .ok (.aload_n 0, 1) := by decide +kernel
theorem dX5_star_42 : decode cX5_star 42 = .ok (.getfield 10, 3) := by decide +kernel
theorem dX5_star_45 : decode cX5_star 45 = .ok (.getfield 84, 3) := by decide +kernel
theorem dX5_star_48 : decode cX5_star 48 = .ok (.bipush 20, 2) := by decide +kernel
theorem dX5_star_50 : decode cX5_star 50 = .ok (.if_icmp .lt 13, 3) := by decide +kernel
theorem dX5_star_53 : decode cX5_star 53 = .ok (.new 58, 3) := by decide +kernel
theorem dX5_star_56 : decode cX5_star 56 = .ok (.dup, 1) := by decide +kernel
theorem dX5_star_57 : decode cX5_star 57 = .ok (.ldc 85, 2) := by decide +kernel
theorem dX5_star_59 : decode cX5_star 59 = .ok (.invokespecial 62, 3) := by decide +kernel
theorem dX5_star_62 : decode cX5_star 62 = .ok (.athrow, 1) := by decide +kernel
theorem dX5_star_63 : decode cX5_star 63 = .ok (.aload_n 0, 1) := by decide +kernel
theorem dX5_star_64 : decode cX5_star 64 = .ok (.getfield 10, 3) := by decide +kernel
theorem dX5_star_67 : decode cX5_star 67 = .ok (.iload_n 1, 1) := by decide +kernel
theorem dX5_star_68 : decode cX5_star 68 = .ok (.iload_n 2, 1) := by decide +kernel
theorem dX5_star_69 : decode cX5_star 69 = .ok (.invokevirtual 87, 3) := by decide +kernel
theorem dX5_star_72 : decode cX5_star 72 = .ok (.ireturn, 1) := by decide +kernel
set_option maxRecDepth 20000 in
theorem ggX5_cue_X5_within : GoodIn wsX5_cue wsX5_within := goodIn_r _ [10] (by decide +kernel) (by decide +kernel)
set_option maxRecDepth 20000 in
theorem gX5_cue_X5_within : GoodIn wsX5_cue (va_wsS RX5 33 yX5_within wsX5_within) := goodIn_app (goodIn_of _ (by decide +kernel)) ggX5_cue_X5_within
set_option maxRecDepth 20000 in
theorem ggX5_cue_X5_suits : GoodIn wsX5_cue wsX5_suits := goodIn_r _ [14, 15, 16, 17, 18, 19, 20, 21, 22, 7, 8, 9, 10, 33, 34, 35, 36, 42, 43, 44, 45, 46, 47, 48, 49, 50, 51, 52, 53, 54, 55, 56] (by decide +kernel) (by decide +kernel)
set_option maxRecDepth 20000 in
theorem gX5_cue_X5_suits : GoodIn wsX5_cue (wsV RX5 93 RX5 yX5_suits wsX5_suits) := goodIn_app (goodIn_of _ (by decide +kernel)) ggX5_cue_X5_suits
set_option maxRecDepth 20000 in
theorem ggX5_cue_X1_add : GoodIn wsX5_cue wsX1_add := goodIn_r _ [27, 28, 29, 30, 31, 32, 37, 38, 39, 40, 41] (by decide +kernel) (by decide +kernel)
set_option maxRecDepth 20000 in
theorem gX5_cue_X1_add : GoodIn wsX5_cue (wsV RX5 101 RX1 yX1_add wsX1_add) := goodIn_app (goodIn_of _ (by decide +kernel)) ggX5_cue_X1_add
theorem dX5_cue_0 : decode cX5_cue 0 = .ok (.iload_n 1, 1) := by decide +kernel
theorem dX5_cue_1 : decode cX5_cue 1 = .ok (.iconst 0, 1) := by decide +kernel
theorem dX5_cue_2 : decode cX5_cue 2 = .ok (.sipush 999, 3) := by decide +kernel
theorem dX5_cue_5 : decode cX5_cue 5 = .ok (.invokestatic 33, 3) := by decide +kernel
theorem dX5_cue_8 : decode cX5_cue 8 = .ok (.ifCond .ne 13, 3) := by decide +kernel
theorem dX5_cue_11 : decode cX5_cue 11 = .ok (.new 37, 3) := by decide +kernel
theorem dX5_cue_14 : decode cX5_cue 14 = .ok (.dup, 1) := by decide +kernel
theorem dX5_cue_15 : decode cX5_cue 15 = .ok (.ldc 89, 2) := by decide +kernel
theorem dX5_cue_17 : decode cX5_cue 17 = .ok (.invokespecial 41, 3) := by decide +kernel
theorem dX5_cue_20 : decode cX5_cue 20 = .ok (.athrow, 1) := by decide +kernel
theorem dX5_cue_21 : decode cX5_cue 21 = .ok (.iload_n 2, 1) := by decide +kernel
theorem dX5_cue_22 : decode cX5_cue 22 = .ok (.iconst 0, 1) := by decide +kernel
theorem dX5_cue_23 : decode cX5_cue 23 = .ok (.iconst 4, 1) := by decide +kernel
theorem dX5_cue_24 : decode cX5_cue 24 = .ok (.invokestatic 33, 3) := by decide +kernel
theorem dX5_cue_27 : decode cX5_cue 27 = .ok (.ifCond .ne 13, 3) := by decide +kernel
theorem dX5_cue_30 : decode cX5_cue 30 = .ok (.new 37, 3) := by decide +kernel
theorem dX5_cue_33 : decode cX5_cue 33 = .ok (.dup, 1) := by decide +kernel
theorem dX5_cue_34 : decode cX5_cue 34 = .ok (.ldc 91, 2) := by decide +kernel
theorem dX5_cue_36 : decode cX5_cue 36 = .ok (.invokespecial 41, 3) := by decide +kernel
theorem dX5_cue_39 : decode cX5_cue 39 = .ok (.athrow, 1) := by decide +kernel
theorem dX5_cue_40 : decode cX5_cue 40 = .ok (.aload_n 0, 1) := by decide +kernel
theorem dX5_cue_41 : decode cX5_cue 41 = .ok (.iload_n 2, 1) := by decide +kernel
theorem dX5_cue_42 : decode cX5_cue 42 = .ok (.iload_n 3, 1) := by decide +kernel
theorem dX5_cue_43 : decode cX5_cue 43 = .ok (.iload 4, 2) := by decide +kernel
theorem dX5_cue_45 : decode cX5_cue 45 = .ok (.invokevirtual 93, 3) := by decide +kernel
theorem dX5_cue_48 : decode cX5_cue 48 = .ok (.ifCond .ne 13, 3) := by decide +kernel
theorem dX5_cue_51 : decode cX5_cue 51 = .ok (.new 37, 3) := by decide +kernel
theorem dX5_cue_54 : decode cX5_cue 54 = .ok (.dup, 1) := by decide +kernel
theorem dX5_cue_55 : decode cX5_cue 55 = .ok (.ldc 96, 2) := by decide +kernel
theorem dX5_cue_57 : decode cX5_cue 57 = .ok (.invokespecial 41, 3) := by decide +kernel
theorem dX5_cue_60 : decode cX5_cue 60 = .ok (.athrow, 1) := by decide +kernel
theorem dX5_cue_61 : decode cX5_cue 61 = .ok (.aload_n 0, 1) := by decide +kernel
theorem dX5_cue_62 : decode cX5_cue 62 = .ok (.getfield 19, 3) := by decide +kernel
theorem dX5_cue_65 : decode cX5_cue 65 = .ok (.getfield 98, 3) := by decide +kernel
theorem dX5_cue_68 : decode cX5_cue 68 = .ok (.bipush 24, 2) := by decide +kernel
theorem dX5_cue_70 : decode cX5_cue 70 = .ok (.if_icmp .lt 13, 3) := by decide +kernel
theorem dX5_cue_73 : decode cX5_cue 73 = .ok (.new 58, 3) := by decide +kernel
theorem dX5_cue_76 : decode cX5_cue 76 = .ok (.dup, 1) := by decide +kernel
theorem dX5_cue_77 : decode cX5_cue 77 = .ok (.ldc 99, 2) := by decide +kernel
theorem dX5_cue_79 : decode cX5_cue 79 = .ok (.invokespecial 62, 3) := by decide +kernel
theorem dX5_cue_82 : decode cX5_cue 82 = .ok (.athrow, 1) := by decide +kernel
theorem dX5_cue_83 : decode cX5_cue 83 = .ok (.aload_n 0, 1) := by decide +kernel
theorem dX5_cue_84 : decode cX5_cue 84 = .ok (.getfield 19, 3) := by decide +kernel
theorem dX5_cue_87 : decode cX5_cue 87 = .ok (.iload_n 1, 1) := by decide +kernel
theorem dX5_cue_88 : decode cX5_cue 88 = .ok (.iload_n 2, 1) := by decide +kernel
theorem dX5_cue_89 : decode cX5_cue 89 = .ok (.iload_n 3, 1) := by decide +kernel
theorem dX5_cue_90 : decode cX5_cue 90 = .ok (.iload 4, 2) := by decide +kernel
theorem dX5_cue_92 : decode cX5_cue 92 = .ok (.invokevirtual 101, 3) := by decide +kernel
theorem dX5_cue_95 : decode cX5_cue 95 = .ok (.ireturn, 1) := by decide +kernel
theorem dX5_run_0 : decode cX5_run 0 = .ok (.aload_n 0, 1) := by decide +kernel
theorem dX5_run_1 : decode cX5_run 1 = .ok (.getfield 26, 3) := by decide +kernel
theorem dX5_run_4 : decode cX5_run 4 = .ok (.aload_n 0, 1) := by decide +kernel
theorem dX5_run_5 : decode cX5_run 5 = .ok (.getfield 26, 3) := by decide +kernel
theorem dX5_run_8 : decode cX5_run 8 = .ok (.getfield 104, 3) := by decide +kernel
theorem dX5_run_11 : decode cX5_run 11 = .ok (.ifCond .ne 7, 3) := by decide +kernel
theorem dX5_run_14 : decode cX5_run 14 = .ok (.iconst 1, 1) := by decide +kernel
theorem dX5_run_15 : decode cX5_run 15 = .ok (.goto 4, 3) := by decide +kernel
theorem dX5_run_18 : decode cX5_run 18 = .ok (.iconst 0, 1) := by decide +kernel
theorem dX5_run_19 : decode cX5_run 19 = .ok (.putfield 104, 3) := by decide +kernel
theorem dX5_run_22 : decode cX5_run 22 = .ok (.aload_n 0, 1) := by decide +kernel
theorem dX5_run_23 : decode cX5_run 23 = .ok (.getfield 26, 3) := by decide +kernel
theorem dX5_run_26 : decode cX5_run 26 = .ok (.getfield 104, 3) := by decide +kernel
theorem dX5_run_29 : decode cX5_run 29 = .ok (.ireturn, 1) := by decide +kernel
set_option maxRecDepth 20000 in
theorem ggX5_jump_X5_within : GoodIn wsX5_jump wsX5_within := goodIn_r _ [8] (by decide +kernel) (by decide +kernel)
set_option maxRecDepth 20000 in
theorem gX5_jump_X5_within : GoodIn wsX5_jump (va_wsS RX5 33 yX5_within wsX5_within) := goodIn_app (goodIn_of _ (by decide +kernel)) ggX5_jump_X5_within
theorem dX5_jump_0 : decode cX5_jump 0 = .ok (.iload_n 1, 1) := by decide +kernel
theorem dX5_jump_1 : decode cX5_jump 1 = .ok (.iconst 0, 1) := by decide +kernel
theorem dX5_jump_2 : decode cX5_jump 2 = .ok (.sipush 1000, 3) := by decide +kernel
theorem dX5_jump_5 : decode cX5_jump 5 = .ok (.invokestatic 33, 3) := by decide +kernel
theorem dX5_jump_8 : decode cX5_jump 8 = .ok (.ifCond .ne 13, 3) := by decide +kernel
theorem dX5_jump_11 : decode cX5_jump 11 = .ok (.new 37, 3) := by decide +kernel
theorem dX5_jump_14 : decode cX5_jump 14 = .ok (.dup, 1) := by decide +kernel
theorem dX5_jump_15 : decode cX5_jump 15 = .ok (.ldc 108, 2) := by decide +kernel
theorem dX5_jump_17 : decode cX5_jump 17 = .ok (.invokespecial 41, 3) := by decide +kernel
theorem dX5_jump_20 : decode cX5_jump 20 = .ok (.athrow, 1) := by decide +kernel
theorem dX5_jump_21 : decode cX5_jump 21 = .ok (.aload_n 0, 1) := by decide +kernel
theorem dX5_jump_22 : decode cX5_jump 22 = .ok (.getfield 26, 3) := by decide +kernel
theorem dX5_jump_25 : decode cX5_jump 25 = .ok (.getfield 110, 3) := by decide +kernel
theorem dX5_jump_28 : decode cX5_jump 28 = .ok (.istore_n 2, 1) := by decide +kernel
theorem dX5_jump_29 : decode cX5_jump 29 = .ok (.aload_n 0, 1) := by decide +kernel
theorem dX5_jump_30 : decode cX5_jump 30 = .ok (.getfield 26, 3) := by decide +kernel
theorem dX5_jump_33 : decode cX5_jump 33 = .ok (.iload_n 1, 1) := by decide +kernel
theorem dX5_jump_34 : decode cX5_jump 34 = .ok (.putfield 110, 3) := by decide +kernel
theorem dX5_jump_37 : decode cX5_jump 37 = .ok (.iload_n 2, 1) := by decide +kernel
theorem dX5_jump_38 : decode cX5_jump 38 = .ok (.ireturn, 1) := by decide +kernel
set_option maxRecDepth 20000 in
theorem ggX5_fade_X2_has : GoodIn wsX5_fade wsX2_has := goodIn_r _ [11, 12, 36, 37, 38, 39, 40, 41] (by decide +kernel) (by decide +kernel)
set_option maxRecDepth 20000 in
theorem gX5_fade_X2_has : GoodIn wsX5_fade (wsV RX5 67 RX2 yX2_has wsX2_has) := goodIn_app (goodIn_of _ (by decide +kernel)) ggX5_fade_X2_has
set_option maxRecDepth 20000 in
theorem ggX5_fade_X5_within : GoodIn wsX5_fade wsX5_within := goodIn_r _ [16] (by decide +kernel) (by decide +kernel)
set_option maxRecDepth 20000 in
theorem gX5_fade_X5_within : GoodIn wsX5_fade (va_wsS RX5 33 yX5_within wsX5_within) := goodIn_app (goodIn_of _ (by decide +kernel)) ggX5_fade_X5_within
set_option maxRecDepth 20000 in
theorem ggX5_fade_X2_changeAim : GoodIn wsX5_fade wsX2_changeAim := goodIn_r _ [20, 21, 22, 8, 9, 10, 11, 12, 36, 37, 38, 39, 40, 41] (by decide +kernel) (by decide +kernel)
set_option maxRecDepth 20000 in
theorem gX5_fade_X2_changeAim : GoodIn wsX5_fade (wsV RX5 115 RX2 yX2_changeAim wsX2_changeAim) := goodIn_app (goodIn_of _ (by decide +kernel)) ggX5_fade_X2_changeAim
theorem dX5_fade_0 : decode cX5_fade 0 = .ok (.aload_n 0, 1) := by decide +kernel
theorem dX5_fade_1 : decode cX5_fade 1 = .ok (.getfield 26, 3) := by decide +kernel
theorem dX5_fade_4 : decode cX5_fade 4 = .ok (.getfield 48, 3) := by decide +kernel
theorem dX5_fade_7 : decode cX5_fade 7 = .ok (.iload_n 1, 1) := by decide +kernel
theorem dX5_fade_8 : decode cX5_fade 8 = .ok (.invokevirtual 67, 3) := by decide +kernel
theorem dX5_fade_11 : decode cX5_fade 11 = .ok (.ifCond .ne 13, 3) := by decide +kernel
theorem dX5_fade_14 : decode cX5_fade 14 = .ok (.new 71, 3) := by decide +kernel
theorem dX5_fade_17 : decode cX5_fade 17 = .ok (.dup, 1) := by decide +kernel
theorem dX5_fade_18 : decode cX5_fade 18 = .ok (.ldc 73, 2) := by decide +kernel
theorem dX5_fade_20 : decode cX5_fade 20 = .ok (.invokespecial 75, 3) := by decide +kernel
theorem dX5_fade_23 : decode cX5_fade 23 = .ok (.athrow, 1) := by decide +kernel
theorem dX5_fade_24 : decode cX5_fade 24 = .ok (.iload_n 2, 1) := by decide +kernel
theorem dX5_fade_25 : decode cX5_fade 25 = .ok (.iconst 0, 1) := by decide +kernel
theorem dX5_fade_26 : decode cX5_fade 26 = .ok (.bipush 100, 2) := by decide +kernel
theorem dX5_fade_28 : decode cX5_fade 28 = .ok (.invokestatic 33, 3) := by decide +kernel
theorem dX5_fade_31 : decode cX5_fade 31 = .ok (.ifCond .ne 13, 3) := by decide +kernel
theorem dX5_fade_34 : decode cX5_fade 34 = .ok (.new 37, 3) := by decide +kernel
theorem dX5_fade_37 : decode cX5_fade 37 = .ok (.dup, 1) := by decide +kernel
theorem dX5_fade_38 : decode cX5_fade 38 = .ok (.ldc 113, 2) := by decide +kernel
theorem dX5_fade_40 : decode cX5_fade 40 = .ok (.invokespecial 41, 3) := by decide +kernel
theorem dX5_fade_43 : decode cX5_fade 43 = .ok (.athrow, 1) := by decide +kernel
theorem dX5_fade_44 : decode cX5_fade 44 = .ok (.aload_n 0, 1) := by decide +kernel
theorem dX5_fade_45 : decode cX5_fade 45 = .ok (.getfield 26, 3) := by decide +kernel
theorem dX5_fade_48 : decode cX5_fade 48 = .ok (.getfield 48, 3) := by decide +kernel
theorem dX5_fade_51 : decode cX5_fade 51 = .ok (.iload_n 1, 1) := by decide +kernel
theorem dX5_fade_52 : decode cX5_fade 52 = .ok (.iload_n 2, 1) := by decide +kernel
theorem dX5_fade_53 : decode cX5_fade 53 = .ok (.invokevirtual 115, 3) := by decide +kernel
theorem dX5_fade_56 : decode cX5_fade 56 = .ok (.ireturn, 1) := by decide +kernel
set_option maxRecDepth 20000 in
theorem ggX5_pass_X5_within : GoodIn wsX5_pass wsX5_within := goodIn_r _ [8] (by decide +kernel) (by decide +kernel)
set_option maxRecDepth 20000 in
theorem gX5_pass_X5_within : GoodIn wsX5_pass (va_wsS RX5 33 yX5_within wsX5_within) := goodIn_app (goodIn_of _ (by decide +kernel)) ggX5_pass_X5_within
set_option maxRecDepth 20000 in
theorem ggX5_pass_X3_goOnFor : GoodIn wsX5_pass wsX3_goOnFor := goodIn_r _ [13, 14, 15, 16, 12, 17, 18, 19, 20, 21, 22, 23, 24, 25, 26, 27, 28, 29, 30, 31, 32, 33, 34, 35, 36, 37, 38, 39, 40, 41, 42, 43, 44, 45, 46, 47, 48, 49, 50, 51, 52, 53, 54, 55, 56, 57, 58, 59, 60, 61, 62, 63, 64, 65, 66, 67, 68, 69, 70, 71, 72, 73, 74, 75, 76, 77, 78, 79, 80, 81, 7, 82, 83, 84, 85, 86, 87, 88, 89, 90, 91, 92, 93, 94, 99, 100, 101, 102, 103, 104, 105, 106, 107, 108, 109, 110, 111, 112, 113, 114, 115, 116, 117, 118, 119, 120, 121, 122] (by decide +kernel) (by decide +kernel)
set_option maxRecDepth 20000 in
theorem gX5_pass_X3_goOnFor : GoodIn wsX5_pass (wsV RX5 120 RX3 yX3_goOnFor wsX3_goOnFor) := goodIn_app (goodIn_of _ (by decide +kernel)) ggX5_pass_X3_goOnFor
theorem dX5_pass_0 : decode cX5_pass 0 = .ok (.iload_n 1, 1) := by decide +kernel
theorem dX5_pass_1 : decode cX5_pass 1 = .ok (.iconst 1, 1) := by decide +kernel
theorem dX5_pass_2 : decode cX5_pass 2 = .ok (.sipush 500, 3) := by decide +kernel
theorem dX5_pass_5 : decode cX5_pass 5 = .ok (.invokestatic 33, 3) := by decide +kernel
theorem dX5_pass_8 : decode cX5_pass 8 = .ok (.ifCond .ne 13, 3) := by decide +kernel
theorem dX5_pass_11 : decode cX5_pass 11 = .ok (.new 37, 3) := by decide +kernel
theorem dX5_pass_14 : decode cX5_pass 14 = .ok (.dup, 1) := by decide +kernel
theorem dX5_pass_15 : decode cX5_pass 15 = .ok (.ldc 118, 2) := by decide +kernel
theorem dX5_pass_17 : decode cX5_pass 17 = .ok (.invokespecial 41, 3) := by decide +kernel
theorem dX5_pass_20 : decode cX5_pass 20 = .ok (.athrow, 1) := by decide +kernel
theorem dX5_pass_21 : decode cX5_pass 21 = .ok (.aload_n 0, 1) := by decide +kernel
theorem dX5_pass_22 : decode cX5_pass 22 = .ok (.getfield 26, 3) := by decide +kernel
theorem dX5_pass_25 : decode cX5_pass 25 = .ok (.iload_n 1, 1) := by decide +kernel
theorem dX5_pass_26 : decode cX5_pass 26 = .ok (.aload_n 0, 1) := by decide +kernel
theorem dX5_pass_27 : decode cX5_pass 27 = .ok (.getfield 19, 3) := by decide +kernel
theorem dX5_pass_30 : decode cX5_pass 30 = .ok (.invokevirtual 120, 3) := by decide +kernel
theorem dX5_pass_33 : decode cX5_pass 33 = .ok (.ireturn, 1) := by decide +kernel
set_option maxRecDepth 20000 in
theorem ggX5_told_X2_has : GoodIn wsX5_told wsX2_has := goodIn_r _ [9, 10, 38, 39, 40, 41, 42, 43] (by decide +kernel) (by decide +kernel)
set_option maxRecDepth 20000 in
theorem gX5_told_X2_has : GoodIn wsX5_told (wsV RX5 67 RX2 yX2_has wsX2_has) := goodIn_app (goodIn_of _ (by decide +kernel)) ggX5_told_X2_has
set_option maxRecDepth 20000 in
theorem ggX5_told_X5_within : GoodIn wsX5_told wsX5_within := goodIn_r _ [14] (by decide +kernel) (by decide +kernel)
set_option maxRecDepth 20000 in
theorem gX5_told_X5_within : GoodIn wsX5_told (va_wsS RX5 33 yX5_within wsX5_within) := goodIn_app (goodIn_of _ (by decide +kernel)) ggX5_told_X5_within
set_option maxRecDepth 20000 in
theorem ggX5_told_X2_fact : GoodIn wsX5_told wsX2_fact := goodIn_r _ [18, 19, 20, 21, 22, 23, 24, 6, 7, 8, 9, 10, 38, 39, 40, 41, 42, 43] (by decide +kernel) (by decide +kernel)
set_option maxRecDepth 20000 in
theorem gX5_told_X2_fact : GoodIn wsX5_told (wsV RX5 126 RX2 yX2_fact wsX2_fact) := goodIn_app (goodIn_of _ (by decide +kernel)) ggX5_told_X2_fact
theorem dX5_told_0 : decode cX5_told 0 = .ok (.aload_n 0, 1) := by decide +kernel
theorem dX5_told_1 : decode cX5_told 1 = .ok (.getfield 26, 3) := by decide +kernel
theorem dX5_told_4 : decode cX5_told 4 = .ok (.getfield 48, 3) := by decide +kernel
theorem dX5_told_7 : decode cX5_told 7 = .ok (.iload_n 1, 1) := by decide +kernel
theorem dX5_told_8 : decode cX5_told 8 = .ok (.invokevirtual 67, 3) := by decide +kernel
theorem dX5_told_11 : decode cX5_told 11 = .ok (.ifCond .ne 13, 3) := by decide +kernel
theorem dX5_told_14 : decode cX5_told 14 = .ok (.new 71, 3) := by decide +kernel
theorem dX5_told_17 : decode cX5_told 17 = .ok (.dup, 1) := by decide +kernel
theorem dX5_told_18 : decode cX5_told 18 = .ok (.ldc 73, 2) := by decide +kernel
theorem dX5_told_20 : decode cX5_told 20 = .ok (.invokespecial 75, 3) := by decide +kernel
theorem dX5_told_23 : decode cX5_told 23 = .ok (.athrow, 1) := by decide +kernel
theorem dX5_told_24 : decode cX5_told 24 = .ok (.iload_n 2, 1) := by decide +kernel
theorem dX5_told_25 : decode cX5_told 25 = .ok (.iconst 0, 1) := by decide +kernel
theorem dX5_told_26 : decode cX5_told 26 = .ok (.iconst 4, 1) := by decide +kernel
theorem dX5_told_27 : decode cX5_told 27 = .ok (.invokestatic 33, 3) := by decide +kernel
theorem dX5_told_30 : decode cX5_told 30 = .ok (.ifCond .ne 13, 3) := by decide +kernel
theorem dX5_told_33 : decode cX5_told 33 = .ok (.new 71, 3) := by decide +kernel
theorem dX5_told_36 : decode cX5_told 36 = .ok (.dup, 1) := by decide +kernel
theorem dX5_told_37 : decode cX5_told 37 = .ok (.ldc 124, 2) := by decide +kernel
theorem dX5_told_39 : decode cX5_told 39 = .ok (.invokespecial 75, 3) := by decide +kernel
theorem dX5_told_42 : decode cX5_told 42 = .ok (.athrow, 1) := by decide +kernel
theorem dX5_told_43 : decode cX5_told 43 = .ok (.aload_n 0, 1) := by decide +kernel
theorem dX5_told_44 : decode cX5_told 44 = .ok (.getfield 26, 3) := by decide +kernel
theorem dX5_told_47 : decode cX5_told 47 = .ok (.getfield 48, 3) := by decide +kernel
theorem dX5_told_50 : decode cX5_told 50 = .ok (.iload_n 1, 1) := by decide +kernel
theorem dX5_told_51 : decode cX5_told 51 = .ok (.iload_n 2, 1) := by decide +kernel
theorem dX5_told_52 : decode cX5_told 52 = .ok (.invokevirtual 126, 3) := by decide +kernel
theorem dX5_told_55 : decode cX5_told 55 = .ok (.ireturn, 1) := by decide +kernel
set_option maxRecDepth 20000 in
theorem ggX5_glare_X5_within : GoodIn wsX5_glare wsX5_within := goodIn_r _ [8] (by decide +kernel) (by decide +kernel)
set_option maxRecDepth 20000 in
theorem gX5_glare_X5_within : GoodIn wsX5_glare (va_wsS RX5 33 yX5_within wsX5_within) := goodIn_app (goodIn_of _ (by decide +kernel)) ggX5_glare_X5_within
set_option maxRecDepth 20000 in
theorem ggX5_glare_X2_glareOn : GoodIn wsX5_glare wsX2_glareOn := goodIn_r _ [13, 14, 15, 16, 17, 18, 19, 20, 34, 35, 36, 37, 38, 39] (by decide +kernel) (by decide +kernel)
set_option maxRecDepth 20000 in
theorem gX5_glare_X2_glareOn : GoodIn wsX5_glare (wsV RX5 129 RX2 yX2_glareOn wsX2_glareOn) := goodIn_app (goodIn_of _ (by decide +kernel)) ggX5_glare_X2_glareOn
theorem dX5_glare_0 : decode cX5_glare 0 = .ok (.iload_n 1, 1) := by decide +kernel
theorem dX5_glare_1 : decode cX5_glare 1 = .ok (.iconst 0, 1) := by decide +kernel
theorem dX5_glare_2 : decode cX5_glare 2 = .ok (.bipush 11, 2) := by decide +kernel
theorem dX5_glare_4 : decode cX5_glare 4 = .ok (.invokestatic 33, 3) := by decide +kernel
theorem dX5_glare_7 : decode cX5_glare 7 = .ok (.ifCond .ne 13, 3) := by decide +kernel
theorem dX5_glare_10 : decode cX5_glare 10 = .ok (.new 71, 3) := by decide +kernel
theorem dX5_glare_13 : decode cX5_glare 13 = .ok (.dup, 1) := by decide +kernel
theorem dX5_glare_14 : decode cX5_glare 14 = .ok (.ldc 39, 2) := by decide +kernel
theorem dX5_glare_16 : decode cX5_glare 16 = .ok (.invokespecial 75, 3) := by decide +kernel
theorem dX5_glare_19 : decode cX5_glare 19 = .ok (.athrow, 1) := by decide +kernel
theorem dX5_glare_20 : decode cX5_glare 20 = .ok (.aload_n 0, 1) := by decide +kernel
theorem dX5_glare_21 : decode cX5_glare 21 = .ok (.getfield 26, 3) := by decide +kernel
theorem dX5_glare_24 : decode cX5_glare 24 = .ok (.getfield 48, 3) := by decide +kernel
theorem dX5_glare_27 : decode cX5_glare 27 = .ok (.iload_n 1, 1) := by decide +kernel
theorem dX5_glare_28 : decode cX5_glare 28 = .ok (.invokevirtual 129, 3) := by decide +kernel
theorem dX5_glare_31 : decode cX5_glare 31 = .ok (.ireturn, 1) := by decide +kernel
set_option maxRecDepth 20000 in
theorem ggX5_about_X4_has : GoodIn wsX5_about wsX4_has := goodIn_r _ [9, 10, 52, 53, 54] (by decide +kernel) (by decide +kernel)
set_option maxRecDepth 20000 in
theorem gX5_about_X4_has : GoodIn wsX5_about (wsV RX5 133 RX4 yX4_has wsX4_has) := goodIn_app (goodIn_of _ (by decide +kernel)) ggX5_about_X4_has
set_option maxRecDepth 20000 in
theorem ggX5_about_X5_within : GoodIn wsX5_about wsX5_within := goodIn_r _ [14] (by decide +kernel) (by decide +kernel)
set_option maxRecDepth 20000 in
theorem gX5_about_X5_within : GoodIn wsX5_about (va_wsS RX5 33 yX5_within wsX5_within) := goodIn_app (goodIn_of _ (by decide +kernel)) ggX5_about_X5_within
set_option maxRecDepth 20000 in
theorem ggX5_about_X3_factOfStar : GoodIn wsX5_about wsX3_factOfStar := goodIn_r _ [19, 20, 21, 22, 23, 6, 7, 8, 9, 10, 24, 13, 25, 26, 27, 28, 29, 30, 31, 32, 18, 33, 34, 35, 36, 37, 38, 39, 40, 41, 42, 43, 44, 45, 46, 47, 52, 53, 54, 55, 56, 57, 58, 59, 60, 61, 62, 63, 64, 65, 66, 67, 68, 69] (by decide +kernel) (by decide +kernel)
set_option maxRecDepth 20000 in
theorem gX5_about_X3_factOfStar : GoodIn wsX5_about (wsV RX5 138 RX3 yX3_factOfStar wsX3_factOfStar) := goodIn_app (goodIn_of _ (by decide +kernel)) ggX5_about_X3_factOfStar
theorem dX5_about_0 : decode cX5_about 0 = .ok (.aload_n 0, 1) := by decide +kernel
theorem dX5_about_1 : decode cX5_about 1 = .ok (.getfield 10, 3) := by decide +kernel
theorem dX5_about_4 : decode cX5_about 4 = .ok (.iload_n 1, 1) := by decide +kernel
theorem dX5_about_5 : decode cX5_about 5 = .ok (.invokevirtual 133, 3) := by decide +kernel
theorem dX5_about_8 : decode cX5_about 8 = .ok (.ifCond .ne 13, 3) := by decide +kernel
theorem dX5_about_11 : decode cX5_about 11 = .ok (.new 71, 3) := by decide +kernel
theorem dX5_about_14 : decode cX5_about 14 = .ok (.dup, 1) := by decide +kernel
theorem dX5_about_15 : decode cX5_about 15 = .ok (.ldc 134, 2) := by decide +kernel
theorem dX5_about_17 : decode cX5_about 17 = .ok (.invokespecial 75, 3) := by decide +kernel
theorem dX5_about_20 : decode cX5_about 20 = .ok (.athrow, 1) := by decide +kernel
theorem dX5_about_21 : decode cX5_about 21 = .ok (.iload_n 2, 1) := by decide +kernel
theorem dX5_about_22 : decode cX5_about 22 = .ok (.iconst 0, 1) := by decide +kernel
theorem dX5_about_23 : decode cX5_about 23 = .ok (.iconst 3, 1) := by decide +kernel
theorem dX5_about_24 : decode cX5_about 24 = .ok (.invokestatic 33, 3) := by decide +kernel
theorem dX5_about_27 : decode cX5_about 27 = .ok (.ifCond .ne 13, 3) := by decide +kernel
theorem dX5_about_30 : decode cX5_about 30 = .ok (.new 71, 3) := by decide +kernel
theorem dX5_about_33 : decode cX5_about 33 = .ok (.dup, 1) := by decide +kernel
theorem dX5_about_34 : decode cX5_about 34 = .ok (.ldc 136, 2) := by decide +kernel
theorem dX5_about_36 : decode cX5_about 36 = .ok (.invokespecial 75, 3) := by decide +kernel
theorem dX5_about_39 : decode cX5_about 39 = .ok (.athrow, 1) := by decide +kernel
theorem dX5_about_40 : decode cX5_about 40 = .ok (.aload_n 0, 1) := by decide +kernel
theorem dX5_about_41 : decode cX5_about 41 = .ok (.getfield 26, 3) := by decide +kernel
theorem dX5_about_44 : decode cX5_about 44 = .ok (.aload_n 0, 1) := by decide +kernel
theorem dX5_about_45 : decode cX5_about 45 = .ok (.getfield 10, 3) := by decide +kernel
theorem dX5_about_48 : decode cX5_about 48 = .ok (.iload_n 1, 1) := by decide +kernel
theorem dX5_about_49 : decode cX5_about 49 = .ok (.iload_n 2, 1) := by decide +kernel
theorem dX5_about_50 : decode cX5_about 50 = .ok (.invokevirtual 138, 3) := by decide +kernel
theorem dX5_about_53 : decode cX5_about 53 = .ok (.ireturn, 1) := by decide +kernel
set_option maxRecDepth 20000 in
theorem ggX5_comet_X0_has : GoodIn wsX5_comet wsX0_has := goodIn_r _ [9, 10, 59, 60, 61, 62] (by decide +kernel) (by decide +kernel)
set_option maxRecDepth 20000 in
theorem gX5_comet_X0_has : GoodIn wsX5_comet (wsV RX5 146 RX0 yX0_has wsX0_has) := goodIn_app (goodIn_of _ (by decide +kernel)) ggX5_comet_X0_has
set_option maxRecDepth 20000 in
theorem ggX5_comet_X5_within : GoodIn wsX5_comet wsX5_within := goodIn_r _ [14] (by decide +kernel) (by decide +kernel)
set_option maxRecDepth 20000 in
theorem gX5_comet_X5_within : GoodIn wsX5_comet (va_wsS RX5 33 yX5_within wsX5_within) := goodIn_app (goodIn_of _ (by decide +kernel)) ggX5_comet_X5_within
set_option maxRecDepth 20000 in
theorem ggX5_comet_X3_factOfComet : GoodIn wsX5_comet wsX3_factOfComet := goodIn_r _ [19, 20, 21, 22, 23, 24, 6, 7, 8, 9, 10, 25, 26, 27, 18, 28, 29, 30, 31, 32, 33, 34, 35, 36, 37, 38, 39, 40, 41, 42, 43, 44, 45, 50, 51, 52, 53, 54, 55, 56, 57, 58, 59, 60, 61, 62, 63, 64, 65, 66, 67, 68] (by decide +kernel) (by decide +kernel)
set_option maxRecDepth 20000 in
theorem gX5_comet_X3_factOfComet : GoodIn wsX5_comet (wsV RX5 151 RX3 yX3_factOfComet wsX3_factOfComet) := goodIn_app (goodIn_of _ (by decide +kernel)) ggX5_comet_X3_factOfComet
theorem dX5_comet_0 : decode cX5_comet 0 = .ok (.aload_n 0, 1) := by decide +kernel
theorem dX5_comet_1 : decode cX5_comet 1 = .ok (.getfield 26, 3) := by decide +kernel
theorem dX5_comet_4 : decode cX5_comet 4 = .ok (.getfield 142, 3) := by decide +kernel
theorem dX5_comet_7 : decode cX5_comet 7 = .ok (.iload_n 1, 1) := by decide +kernel
theorem dX5_comet_8 : decode cX5_comet 8 = .ok (.invokevirtual 146, 3) := by decide +kernel
theorem dX5_comet_11 : decode cX5_comet 11 = .ok (.ifCond .ne 13, 3) := by decide +kernel
theorem dX5_comet_14 : decode cX5_comet 14 = .ok (.new 71, 3) := by decide +kernel
theorem dX5_comet_17 : decode cX5_comet 17 = .ok (.dup, 1) := by decide +kernel
theorem dX5_comet_18 : decode cX5_comet 18 = .ok (.ldc 149, 2) := by decide +kernel
theorem dX5_comet_20 : decode cX5_comet 20 = .ok (.invokespecial 75, 3) := by decide +kernel
theorem dX5_comet_23 : decode cX5_comet 23 = .ok (.athrow, 1) := by decide +kernel
theorem dX5_comet_24 : decode cX5_comet 24 = .ok (.iload_n 2, 1) := by decide +kernel
theorem dX5_comet_25 : decode cX5_comet 25 = .ok (.iconst 0, 1) := by decide +kernel
theorem dX5_comet_26 : decode cX5_comet 26 = .ok (.iconst 3, 1) := by decide +kernel
theorem dX5_comet_27 : decode cX5_comet 27 = .ok (.invokestatic 33, 3) := by decide +kernel
theorem dX5_comet_30 : decode cX5_comet 30 = .ok (.ifCond .ne 13, 3) := by decide +kernel
theorem dX5_comet_33 : decode cX5_comet 33 = .ok (.new 71, 3) := by decide +kernel
theorem dX5_comet_36 : decode cX5_comet 36 = .ok (.dup, 1) := by decide +kernel
theorem dX5_comet_37 : decode cX5_comet 37 = .ok (.ldc 136, 2) := by decide +kernel
theorem dX5_comet_39 : decode cX5_comet 39 = .ok (.invokespecial 75, 3) := by decide +kernel
theorem dX5_comet_42 : decode cX5_comet 42 = .ok (.athrow, 1) := by decide +kernel
theorem dX5_comet_43 : decode cX5_comet 43 = .ok (.aload_n 0, 1) := by decide +kernel
theorem dX5_comet_44 : decode cX5_comet 44 = .ok (.getfield 26, 3) := by decide +kernel
theorem dX5_comet_47 : decode cX5_comet 47 = .ok (.iload_n 1, 1) := by decide +kernel
theorem dX5_comet_48 : decode cX5_comet 48 = .ok (.iload_n 2, 1) := by decide +kernel
theorem dX5_comet_49 : decode cX5_comet 49 = .ok (.invokevirtual 151, 3) := by decide +kernel
theorem dX5_comet_52 : decode cX5_comet 52 = .ok (.ireturn, 1) := by decide +kernel
set_option maxRecDepth 20000 in
theorem ggX5_count_X5_within : GoodIn wsX5_count wsX5_within := goodIn_r _ [9] (by decide +kernel) (by decide +kernel)
set_option maxRecDepth 20000 in
theorem gX5_count_X5_within : GoodIn wsX5_count (va_wsS RX5 33 yX5_within wsX5_within) := goodIn_app (goodIn_of _ (by decide +kernel)) ggX5_count_X5_within
set_option maxRecDepth 20000 in
theorem ggX5_count_X3_fact : GoodIn wsX5_count wsX3_fact := goodIn_r _ [14, 15, 16, 17, 18, 19, 20, 21, 22, 23, 24, 25, 26, 27, 28, 29, 30, 13, 31, 32, 33, 34, 35, 36, 37, 38, 39, 40, 41, 42, 43, 44, 8, 45, 46, 47, 48, 49, 50, 51, 52, 53, 54, 55, 56, 57, 58, 59, 60, 61, 62, 63, 64, 65, 66, 67, 68, 69, 70, 71, 72, 73, 74, 75, 76, 77, 78, 83, 84, 85, 86, 87, 88, 89, 90, 91, 92, 93, 94, 95, 96, 97, 98, 99, 100, 101, 102, 103, 104, 105, 106, 107, 108, 109] (by decide +kernel) (by decide +kernel)
set_option maxRecDepth 20000 in
theorem gX5_count_X3_fact : GoodIn wsX5_count (wsV RX5 156 RX3 yX3_fact wsX3_fact) := goodIn_app (goodIn_of _ (by decide +kernel)) ggX5_count_X3_fact
theorem dX5_count_0 : decode cX5_count 0 = .ok (.iload_n 1, 1) := by decide +kernel
theorem dX5_count_1 : decode cX5_count 1 = .ok (.iconst 0, 1) := by decide +kernel
theorem dX5_count_2 : decode cX5_count 2 = .ok (.bipush 12, 2) := by decide +kernel
theorem dX5_count_4 : decode cX5_count 4 = .ok (.invokestatic 33, 3) := by decide +kernel
theorem dX5_count_7 : decode cX5_count 7 = .ok (.ifCond .ne 13, 3) := by decide +kernel
theorem dX5_count_10 : decode cX5_count 10 = .ok (.new 71, 3) := by decide +kernel
theorem dX5_count_13 : decode cX5_count 13 = .ok (.dup, 1) := by decide +kernel
theorem dX5_count_14 : decode cX5_count 14 = .ok (.ldc 154, 2) := by decide +kernel
theorem dX5_count_16 : decode cX5_count 16 = .ok (.invokespecial 75, 3) := by decide +kernel
theorem dX5_count_19 : decode cX5_count 19 = .ok (.athrow, 1) := by decide +kernel
theorem dX5_count_20 : decode cX5_count 20 = .ok (.aload_n 0, 1) := by decide +kernel
theorem dX5_count_21 : decode cX5_count 21 = .ok (.getfield 26, 3) := by decide +kernel
theorem dX5_count_24 : decode cX5_count 24 = .ok (.iload_n 1, 1) := by decide +kernel
theorem dX5_count_25 : decode cX5_count 25 = .ok (.aload_n 0, 1) := by decide +kernel
theorem dX5_count_26 : decode cX5_count 26 = .ok (.getfield 10, 3) := by decide +kernel
theorem dX5_count_29 : decode cX5_count 29 = .ok (.aload_n 0, 1) := by decide +kernel
theorem dX5_count_30 : decode cX5_count 30 = .ok (.getfield 19, 3) := by decide +kernel
theorem dX5_count_33 : decode cX5_count 33 = .ok (.invokevirtual 156, 3) := by decide +kernel
theorem dX5_count_36 : decode cX5_count 36 = .ok (.ireturn, 1) := by decide +kernel
set_option maxRecDepth 20000 in
theorem ggX5_next_X1_firstFrom : GoodIn wsX5_next wsX1_firstFrom := goodIn_r _ [8, 9, 10, 11, 12, 13, 7, 14, 15, 16, 17, 18, 32, 33, 34, 35, 36] (by decide +kernel) (by decide +kernel)
set_option maxRecDepth 20000 in
theorem gX5_next_X1_firstFrom : GoodIn wsX5_next (wsV RX5 159 RX1 yX1_firstFrom wsX1_firstFrom) := goodIn_app (goodIn_of _ (by decide +kernel)) ggX5_next_X1_firstFrom
theorem dX5_next_0 : decode cX5_next 0 = .ok (.aload_n 0, 1) := by decide +kernel
theorem dX5_next_1 : decode cX5_next 1 = .ok (.getfield 19, 3) := by decide +kernel
theorem dX5_next_4 : decode cX5_next 4 = .ok (.aload_n 0, 1) := by decide +kernel
theorem dX5_next_5 : decode cX5_next 5 = .ok (.getfield 26, 3) := by decide +kernel
theorem dX5_next_8 : decode cX5_next 8 = .ok (.getfield 110, 3) := by decide +kernel
theorem dX5_next_11 : decode cX5_next 11 = .ok (.invokevirtual 159, 3) := by decide +kernel
theorem dX5_next_14 : decode cX5_next 14 = .ok (.ireturn, 1) := by decide +kernel
set_option maxRecDepth 20000 in
theorem ggX5_when_X1_has : GoodIn wsX5_when wsX1_has := goodIn_r _ [11, 12, 37, 38, 39, 40, 41] (by decide +kernel) (by decide +kernel)
set_option maxRecDepth 20000 in
theorem gX5_when_X1_has : GoodIn wsX5_when (wsV RX5 162 RX1 yX1_has wsX1_has) := goodIn_app (goodIn_of _ (by decide +kernel)) ggX5_when_X1_has
set_option maxRecDepth 20000 in
theorem ggX5_when_X1_timeOf : GoodIn wsX5_when wsX1_timeOf := goodIn_r _ [16, 17, 18, 8, 9, 10, 11, 12, 37, 38, 39, 40, 41] (by decide +kernel) (by decide +kernel)
set_option maxRecDepth 20000 in
theorem gX5_when_X1_timeOf : GoodIn wsX5_when (wsV RX5 165 RX1 yX1_timeOf wsX1_timeOf) := goodIn_app (goodIn_of _ (by decide +kernel)) ggX5_when_X1_timeOf
set_option maxRecDepth 20000 in
theorem ggX5_when_X1_holdWithin : GoodIn wsX5_when wsX1_holdWithin := goodIn_r _ [22, 12, 23, 17, 37, 38, 39, 40, 41] (by decide +kernel) (by decide +kernel)
set_option maxRecDepth 20000 in
theorem gX5_when_X1_holdWithin : GoodIn wsX5_when (wsV RX5 168 RX1 yX1_holdWithin wsX1_holdWithin) := goodIn_app (goodIn_of _ (by decide +kernel)) ggX5_when_X1_holdWithin
theorem dX5_when_0 : decode cX5_when 0 = .ok (.aload_n 0, 1) := by decide +kernel
theorem dX5_when_1 : decode cX5_when 1 = .ok (.getfield 19, 3) := by decide +kernel
theorem dX5_when_4 : decode cX5_when 4 = .ok (.iload_n 1, 1) := by decide +kernel
theorem dX5_when_5 : decode cX5_when 5 = .ok (.invokevirtual 162, 3) := by decide +kernel
theorem dX5_when_8 : decode cX5_when 8 = .ok (.ifCond .ne 13, 3) := by decide +kernel
theorem dX5_when_11 : decode cX5_when 11 = .ok (.new 71, 3) := by decide +kernel
theorem dX5_when_14 : decode cX5_when 14 = .ok (.dup, 1) := by decide +kernel
theorem dX5_when_15 : decode cX5_when 15 = .ok (.ldc 163, 2) := by decide +kernel
theorem dX5_when_17 : decode cX5_when 17 = .ok (.invokespecial 75, 3) := by decide +kernel
theorem dX5_when_20 : decode cX5_when 20 = .ok (.athrow, 1) := by decide +kernel
theorem dX5_when_21 : decode cX5_when 21 = .ok (.aload_n 0, 1) := by decide +kernel
theorem dX5_when_22 : decode cX5_when 22 = .ok (.getfield 19, 3) := by decide +kernel
theorem dX5_when_25 : decode cX5_when 25 = .ok (.iload_n 1, 1) := by decide +kernel
theorem dX5_when_26 : decode cX5_when 26 = .ok (.invokevirtual 165, 3) := by decide +kernel
theorem dX5_when_29 : decode cX5_when 29 = .ok (.istore_n 2, 1) := by decide +kernel
theorem dX5_when_30 : decode cX5_when 30 = .ok (.aload_n 0, 1) := by decide +kernel
theorem dX5_when_31 : decode cX5_when 31 = .ok (.getfield 26, 3) := by decide +kernel
theorem dX5_when_34 : decode cX5_when 34 = .ok (.getfield 104, 3) := by decide +kernel
theorem dX5_when_37 : decode cX5_when 37 = .ok (.ifCond .eq 32, 3) := by decide +kernel
theorem dX5_when_40 : decode cX5_when 40 = .ok (.iload_n 2, 1) := by decide +kernel
theorem dX5_when_41 : decode cX5_when 41 = .ok (.aload_n 0, 1) := by decide +kernel
theorem dX5_when_42 : decode cX5_when 42 = .ok (.getfield 26, 3) := by decide +kernel
theorem dX5_when_45 : decode cX5_when 45 = .ok (.getfield 110, 3) := by decide +kernel
theorem dX5_when_48 : decode cX5_when 48 = .ok (.if_icmp .lt 21, 3) := by decide +kernel
theorem dX5_when_51 : decode cX5_when 51 = .ok (.aload_n 0, 1) := by decide +kernel
theorem dX5_when_52 : decode cX5_when 52 = .ok (.getfield 19, 3) := by decide +kernel
theorem dX5_when_55 : decode cX5_when 55 = .ok (.aload_n 0, 1) := by decide +kernel
theorem dX5_when_56 : decode cX5_when 56 = .ok (.getfield 26, 3) := by decide +kernel
theorem dX5_when_59 : decode cX5_when 59 = .ok (.getfield 110, 3) := by decide +kernel
theorem dX5_when_62 : decode cX5_when 62 = .ok (.iload_n 2, 1) := by decide +kernel
theorem dX5_when_63 : decode cX5_when 63 = .ok (.invokevirtual 168, 3) := by decide +kernel
theorem dX5_when_66 : decode cX5_when 66 = .ok (.ifCond .eq 5, 3) := by decide +kernel
theorem dX5_when_69 : decode cX5_when 69 = .ok (.iconst (-1), 1) := by decide +kernel
theorem dX5_when_70 : decode cX5_when 70 = .ok (.ireturn, 1) := by decide +kernel
theorem dX5_when_71 : decode cX5_when 71 = .ok (.iload_n 2, 1) := by decide +kernel
theorem dX5_when_72 : decode cX5_when 72 = .ok (.aload_n 0, 1) := by decide +kernel
theorem dX5_when_73 : decode cX5_when 73 = .ok (.getfield 26, 3) := by decide +kernel
theorem dX5_when_76 : decode cX5_when 76 = .ok (.getfield 110, 3) := by decide +kernel
theorem dX5_when_79 : decode cX5_when 79 = .ok (.isub, 1) := by decide +kernel
theorem dX5_when_80 : decode cX5_when 80 = .ok (.iconst 1, 1) := by decide +kernel
theorem dX5_when_81 : decode cX5_when 81 = .ok (.iadd, 1) := by decide +kernel
theorem dX5_when_82 : decode cX5_when 82 = .ok (.ireturn, 1) := by decide +kernel
set_option maxRecDepth 20000 in
theorem ggX5_lasts_X2_has : GoodIn wsX5_lasts wsX2_has := goodIn_r _ [11, 12, 121, 122, 123, 124, 125, 126] (by decide +kernel) (by decide +kernel)
set_option maxRecDepth 20000 in
theorem gX5_lasts_X2_has : GoodIn wsX5_lasts (wsV RX5 67 RX2 yX2_has wsX2_has) := goodIn_app (goodIn_of _ (by decide +kernel)) ggX5_lasts_X2_has
set_option maxRecDepth 20000 in
theorem ggX5_lasts_X3_become : GoodIn wsX5_lasts wsX3_become := goodIn_r _ [17, 18, 19, 20, 21, 22, 23, 24, 25, 26, 27, 28, 29, 10, 30, 31, 32, 33, 34, 35, 12, 36, 37, 38, 39, 40, 41, 42, 43, 44, 112, 113, 114, 115, 116, 117, 118, 119, 120, 121, 122, 123, 124, 125, 126, 127, 128, 129, 130] (by decide +kernel) (by decide +kernel)
set_option maxRecDepth 20000 in
theorem gX5_lasts_X3_become : GoodIn wsX5_lasts (wsV RX5 172 RX3 yX3_become wsX3_become) := goodIn_app (goodIn_of _ (by decide +kernel)) ggX5_lasts_X3_become
set_option maxRecDepth 20000 in
theorem ggX5_lasts_X2_hasLife : GoodIn wsX5_lasts wsX2_hasLife := goodIn_r _ [48, 35, 49, 8, 9, 10, 11, 12, 121, 122, 123, 124, 125, 126] (by decide +kernel) (by decide +kernel)
set_option maxRecDepth 20000 in
theorem gX5_lasts_X2_hasLife : GoodIn wsX5_lasts (wsV RX5 176 RX2 yX2_hasLife wsX2_hasLife) := goodIn_app (goodIn_of _ (by decide +kernel)) ggX5_lasts_X2_hasLife
set_option maxRecDepth 20000 in
theorem ggX5_lasts_X3_goOn : GoodIn wsX5_lasts wsX3_goOn := goodIn_r _ [53, 20, 25, 21, 22, 26, 18, 54, 55, 56, 16, 57, 58, 59, 19, 60, 61, 62, 63, 64, 65, 66, 23, 24, 67, 68, 69, 10, 70, 33, 49, 8, 9, 11, 12, 71, 72, 73, 39, 74, 44, 41, 42, 43, 75, 76, 77, 78, 32, 34, 35, 79, 80, 81, 82, 83, 84, 85, 86, 87, 88, 89, 90, 91, 92, 93, 94, 95, 96, 97, 98, 99, 100, 101, 102, 103, 104, 105, 106, 107, 112, 113, 114, 115, 116, 117, 118, 119, 120, 131, 132, 133, 134, 135, 121, 122, 123, 124, 125, 126, 127, 128, 129, 130] (by decide +kernel) (by decide +kernel)
set_option maxRecDepth 20000 in
theorem gX5_lasts_X3_goOn : GoodIn wsX5_lasts (wsV RX5 179 RX3 yX3_goOn wsX3_goOn) := goodIn_app (goodIn_of _ (by decide +kernel)) ggX5_lasts_X3_goOn
theorem dX5_lasts_0 : decode cX5_lasts 0 = .ok (.aload_n 0, 1) := by decide +kernel
theorem dX5_lasts_1 : decode cX5_lasts 1 = .ok (.getfield 26, 3) := by decide +kernel
theorem dX5_lasts_4 : decode cX5_lasts 4 = .ok (.getfield 48, 3) := by decide +kernel
theorem dX5_lasts_7 : decode cX5_lasts 7 = .ok (.iload_n 1, 1) := by decide +kernel
theorem dX5_lasts_8 : decode cX5_lasts 8 = .ok (.invokevirtual 67, 3) := by decide +kernel
theorem dX5_lasts_11 : decode cX5_lasts 11 = .ok (.ifCond .ne 13, 3) := by decide +kernel
theorem dX5_lasts_14 : decode cX5_lasts 14 = .ok (.new 71, 3) := by decide +kernel
theorem dX5_lasts_17 : decode cX5_lasts 17 = .ok (.dup, 1) := by decide +kernel
theorem dX5_lasts_18 : decode cX5_lasts 18 = .ok (.ldc 73, 2) := by decide +kernel
theorem dX5_lasts_20 : decode cX5_lasts 20 = .ok (.invokespecial 75, 3) := by decide +kernel
theorem dX5_lasts_23 : decode cX5_lasts 23 = .ok (.athrow, 1) := by decide +kernel
theorem dX5_lasts_24 : decode cX5_lasts 24 = .ok (.aload_n 0, 1) := by decide +kernel
theorem dX5_lasts_25 : decode cX5_lasts 25 = .ok (.getfield 30, 3) := by decide +kernel
theorem dX5_lasts_28 : decode cX5_lasts 28 = .ok (.aload_n 0, 1) := by decide +kernel
theorem dX5_lasts_29 : decode cX5_lasts 29 = .ok (.getfield 26, 3) := by decide +kernel
theorem dX5_lasts_32 : decode cX5_lasts 32 = .ok (.invokevirtual 172, 3) := by decide +kernel
theorem dX5_lasts_35 : decode cX5_lasts 35 = .ok (.iconst 0, 1) := by decide +kernel
theorem dX5_lasts_36 : decode cX5_lasts 36 = .ok (.istore_n 2, 1) := by decide +kernel
theorem dX5_lasts_37 : decode cX5_lasts 37 = .ok (.iload_n 2, 1) := by decide +kernel
theorem dX5_lasts_38 : decode cX5_lasts 38 = .ok (.sipush 500, 3) := by decide +kernel
theorem dX5_lasts_41 : decode cX5_lasts 41 = .ok (.if_icmp .gt 37, 3) := by decide +kernel
theorem dX5_lasts_44 : decode cX5_lasts 44 = .ok (.aload_n 0, 1) := by decide +kernel
theorem dX5_lasts_45 : decode cX5_lasts 45 = .ok (.getfield 30, 3) := by decide +kernel
theorem dX5_lasts_48 : decode cX5_lasts 48 = .ok (.getfield 48, 3) := by decide +kernel
theorem dX5_lasts_51 : decode cX5_lasts 51 = .ok (.iload_n 1, 1) := by decide +kernel
theorem dX5_lasts_52 : decode cX5_lasts 52 = .ok (.invokevirtual 176, 3) := by decide +kernel
theorem dX5_lasts_55 : decode cX5_lasts 55 = .ok (.ifCond .ne 5, 3) := by decide +kernel
theorem dX5_lasts_58 : decode cX5_lasts 58 = .ok (.iload_n 2, 1) := by decide +kernel
theorem dX5_lasts_59 : decode cX5_lasts 59 = .ok (.ireturn, 1) := by decide +kernel
theorem dX5_lasts_60 : decode cX5_lasts 60 = .ok (.aload_n 0, 1) := by decide +kernel
theorem dX5_lasts_61 : decode cX5_lasts 61 = .ok (.getfield 30, 3) := by decide +kernel
theorem dX5_lasts_64 : decode cX5_lasts 64 = .ok (.aload_n 0, 1) := by decide +kernel
theorem dX5_lasts_65 : decode cX5_lasts 65 = .ok (.getfield 19, 3) := by decide +kernel
theorem dX5_lasts_68 : decode cX5_lasts 68 = .ok (.invokevirtual 179, 3) := by decide +kernel
theorem dX5_lasts_71 : decode cX5_lasts 71 = .ok (.pop, 1) := by decide +kernel
theorem dX5_lasts_72 : decode cX5_lasts 72 = .ok (.iinc 2 1, 3) := by decide +kernel
theorem dX5_lasts_75 : decode cX5_lasts 75 = .ok (.goto (-38), 3) := by decide +kernel
theorem dX5_lasts_78 : decode cX5_lasts 78 = .ok (.iconst (-1), 1) := by decide +kernel
theorem dX5_lasts_79 : decode cX5_lasts 79 = .ok (.ireturn, 1) := by decide +kernel
set_option maxRecDepth 20000 in
theorem ggX5_foresee_X5_within : GoodIn wsX5_foresee wsX5_within := goodIn_r _ [12] (by decide +kernel) (by decide +kernel)
set_option maxRecDepth 20000 in
theorem gX5_foresee_X5_within : GoodIn wsX5_foresee (va_wsS RX5 33 yX5_within wsX5_within) := goodIn_app (goodIn_of _ (by decide +kernel)) ggX5_foresee_X5_within
set_option maxRecDepth 20000 in
theorem ggX5_foresee_X5_foreseeable : GoodIn wsX5_foresee wsX5_foreseeable := goodIn_r _ [15] (by decide +kernel) (by decide +kernel)
set_option maxRecDepth 20000 in
theorem gX5_foresee_X5_foreseeable : GoodIn wsX5_foresee (va_wsS RX5 183 yX5_foreseeable wsX5_foreseeable) := goodIn_app (goodIn_of _ (by decide +kernel)) ggX5_foresee_X5_foreseeable
set_option maxRecDepth 20000 in
theorem ggX5_foresee_X3_become : GoodIn wsX5_foresee wsX3_become := goodIn_r _ [20, 21, 22, 23, 24, 25, 26, 27, 28, 29, 30, 31, 32, 33, 34, 35, 36, 37, 38, 39, 40, 41, 42, 43, 44, 45, 46, 47, 48, 49, 165, 166, 167, 168, 169, 170, 171, 172, 173, 174, 175, 176, 177, 178, 179, 180, 181, 182, 183] (by decide +kernel) (by decide +kernel)
set_option maxRecDepth 20000 in
theorem gX5_foresee_X3_become : GoodIn wsX5_foresee (wsV RX5 172 RX3 yX3_become wsX3_become) := goodIn_app (goodIn_of _ (by decide +kernel)) ggX5_foresee_X3_become
set_option maxRecDepth 20000 in
theorem ggX5_foresee_X3_goOnFor : GoodIn wsX5_foresee wsX3_goOnFor := goodIn_r _ [53, 54, 55, 56, 19, 57, 23, 28, 24, 25, 29, 21, 58, 59, 60, 61, 62, 63, 22, 64, 65, 66, 67, 68, 69, 70, 26, 27, 71, 72, 73, 33, 74, 37, 75, 76, 77, 78, 40, 79, 80, 81, 44, 82, 49, 46, 47, 48, 83, 84, 85, 86, 36, 38, 39, 87, 88, 89, 90, 91, 92, 93, 94, 95, 96, 97, 98, 99, 100, 101, 11, 102, 103, 104, 105, 106, 107, 108, 109, 110, 111, 112, 113, 114, 165, 166, 167, 168, 169, 170, 171, 172, 173, 184, 185, 186, 187, 188, 174, 175, 176, 177, 178, 179, 180, 181, 182, 183] (by decide +kernel) (by decide +kernel)
set_option maxRecDepth 20000 in
theorem gX5_foresee_X3_goOnFor : GoodIn wsX5_foresee (wsV RX5 120 RX3 yX3_goOnFor wsX3_goOnFor) := goodIn_app (goodIn_of _ (by decide +kernel)) ggX5_foresee_X3_goOnFor
set_option maxRecDepth 20000 in
theorem ggX5_foresee_X3_fact : GoodIn wsX5_foresee wsX3_fact := goodIn_r _ [118, 21, 22, 23, 28, 119, 120, 29, 121, 62, 26, 27, 24, 25, 122, 123, 124, 19, 125, 126, 127, 128, 129, 130, 131, 132, 133, 134, 135, 136, 137, 101, 11, 102, 103, 104, 105, 106, 138, 139, 140, 141, 142, 143, 144, 33, 145, 40, 35, 36, 146, 147, 148, 149, 150, 151, 152, 153, 154, 155, 156, 157, 158, 159, 44, 160, 49, 165, 166, 167, 168, 169, 170, 171, 172, 173, 174, 175, 176, 177, 178, 179, 189, 190, 191, 180, 181, 182, 183, 184, 185, 186, 187, 188] (by decide +kernel) (by decide +kernel)
set_option maxRecDepth 20000 in
theorem gX5_foresee_X3_fact : GoodIn wsX5_foresee (wsV RX5 156 RX3 yX3_fact wsX3_fact) := goodIn_app (goodIn_of _ (by decide +kernel)) ggX5_foresee_X3_fact
theorem dX5_foresee_0 : decode cX5_foresee 0 = .ok (.iload_n 1, 1) := by decide +kernel
theorem dX5_foresee_1 : decode cX5_foresee 1 = .ok (.iconst 1, 1) := by decide +kernel
theorem dX5_foresee_2 : decode cX5_foresee 2 = .ok (.sipush 500, 3) := by decide +kernel
theorem dX5_foresee_5 : decode cX5_foresee 5 = .ok (.invokestatic 33, 3) := by decide +kernel
theorem dX5_foresee_8 : decode cX5_foresee 8 = .ok (.ifCond .ne 13, 3) := by decide +kernel
theorem dX5_foresee_11 : decode cX5_foresee 11 = .ok (.new 37, 3) := by decide +kernel
theorem dX5_foresee_14 : decode cX5_foresee 14 = .ok (.dup, 1) := by decide +kernel
theorem dX5_foresee_15 : decode cX5_foresee 15 = .ok (.ldc 118, 2) := by decide +kernel
theorem dX5_foresee_17 : decode cX5_foresee 17 = .ok (.invokespecial 41, 3) := by decide +kernel
theorem dX5_foresee_20 : decode cX5_foresee 20 = .ok (.athrow, 1) := by decide +kernel
theorem dX5_foresee_21 : decode cX5_foresee 21 = .ok (.iload_n 2, 1) := by decide +kernel
theorem dX5_foresee_22 : decode cX5_foresee 22 = .ok (.invokestatic 183, 3) := by decide +kernel
theorem dX5_foresee_25 : decode cX5_foresee 25 = .ok (.ifCond .ne 13, 3) := by decide +kernel
theorem dX5_foresee_28 : decode cX5_foresee 28 = .ok (.new 71, 3) := by decide +kernel
theorem dX5_foresee_31 : decode cX5_foresee 31 = .ok (.dup, 1) := by decide +kernel
theorem dX5_foresee_32 : decode cX5_foresee 32 = .ok (.ldc 186, 2) := by decide +kernel
theorem dX5_foresee_34 : decode cX5_foresee 34 = .ok (.invokespecial 75, 3) := by decide +kernel
theorem dX5_foresee_37 : decode cX5_foresee 37 = .ok (.athrow, 1) := by decide +kernel
theorem dX5_foresee_38 : decode cX5_foresee 38 = .ok (.aload_n 0, 1) := by decide +kernel
theorem dX5_foresee_39 : decode cX5_foresee 39 = .ok (.getfield 30, 3) := by decide +kernel
theorem dX5_foresee_42 : decode cX5_foresee 42 = .ok (.aload_n 0, 1) := by decide +kernel
theorem dX5_foresee_43 : decode cX5_foresee 43 = .ok (.getfield 26, 3) := by decide +kernel
theorem dX5_foresee_46 : decode cX5_foresee 46 = .ok (.invokevirtual 172, 3) := by decide +kernel
theorem dX5_foresee_49 : decode cX5_foresee 49 = .ok (.aload_n 0, 1) := by decide +kernel
theorem dX5_foresee_50 : decode cX5_foresee 50 = .ok (.getfield 30, 3) := by decide +kernel
theorem dX5_foresee_53 : decode cX5_foresee 53 = .ok (.iload_n 1, 1) := by decide +kernel
theorem dX5_foresee_54 : decode cX5_foresee 54 = .ok (.aload_n 0, 1) := by decide +kernel
theorem dX5_foresee_55 : decode cX5_foresee 55 = .ok (.getfield 19, 3) := by decide +kernel
theorem dX5_foresee_58 : decode cX5_foresee 58 = .ok (.invokevirtual 120, 3) := by decide +kernel
theorem dX5_foresee_61 : decode cX5_foresee 61 = .ok (.pop, 1) := by decide +kernel
theorem dX5_foresee_62 : decode cX5_foresee 62 = .ok (.aload_n 0, 1) := by decide +kernel
theorem dX5_foresee_63 : decode cX5_foresee 63 = .ok (.getfield 30, 3) := by decide +kernel
theorem dX5_foresee_66 : decode cX5_foresee 66 = .ok (.iload_n 2, 1) := by decide +kernel
theorem dX5_foresee_67 : decode cX5_foresee 67 = .ok (.aload_n 0, 1) := by decide +kernel
theorem dX5_foresee_68 : decode cX5_foresee 68 = .ok (.getfield 10, 3) := by decide +kernel
theorem dX5_foresee_71 : decode cX5_foresee 71 = .ok (.aload_n 0, 1) := by decide +kernel
theorem dX5_foresee_72 : decode cX5_foresee 72 = .ok (.getfield 19, 3) := by decide +kernel
theorem dX5_foresee_75 : decode cX5_foresee 75 = .ok (.invokevirtual 156, 3) := by decide +kernel
theorem dX5_foresee_78 : decode cX5_foresee 78 = .ok (.ireturn, 1) := by decide +kernel
set_option maxRecDepth 20000 in
theorem ggX5_darkest_X2_glareOn : GoodIn wsX5_darkest wsX2_glareOn := goodIn_r _ [7, 8, 9, 10, 11, 12, 13, 14, 28, 29, 30, 31, 32, 33] (by decide +kernel) (by decide +kernel)
set_option maxRecDepth 20000 in
theorem gX5_darkest_X2_glareOn : GoodIn wsX5_darkest (wsV RX5 129 RX2 yX2_glareOn wsX2_glareOn) := goodIn_app (goodIn_of _ (by decide +kernel)) ggX5_darkest_X2_glareOn
theorem dX5_darkest_0 : decode cX5_darkest 0 = .ok (.iconst 0, 1) := by decide +kernel
theorem dX5_darkest_1 : decode cX5_darkest 1 = .ok (.istore_n 1, 1) := by decide +kernel
theorem dX5_darkest_2 : decode cX5_darkest 2 = .ok (.iconst 1, 1) := by decide +kernel
theorem dX5_darkest_3 : decode cX5_darkest 3 = .ok (.istore_n 2, 1) := by decide +kernel
theorem dX5_darkest_4 : decode cX5_darkest 4 = .ok (.iload_n 2, 1) := by decide +kernel
theorem dX5_darkest_5 : decode cX5_darkest 5 = .ok (.bipush 12, 2) := by decide +kernel
theorem dX5_darkest_7 : decode cX5_darkest 7 = .ok (.if_icmp .ge 36, 3) := by decide +kernel
theorem dX5_darkest_10 : decode cX5_darkest 10 = .ok (.aload_n 0, 1) := by decide +kernel
theorem dX5_darkest_11 : decode cX5_darkest 11 = .ok (.getfield 26, 3) := by decide +kernel
theorem dX5_darkest_14 : decode cX5_darkest 14 = .ok (.getfield 48, 3) := by decide +kernel
theorem dX5_darkest_17 : decode cX5_darkest 17 = .ok (.iload_n 2, 1) := by decide +kernel
theorem dX5_darkest_18 : decode cX5_darkest 18 = .ok (.invokevirtual 129, 3) := by decide +kernel
theorem dX5_darkest_21 : decode cX5_darkest 21 = .ok (.aload_n 0, 1) := by decide +kernel
theorem dX5_darkest_22 : decode cX5_darkest 22 = .ok (.getfield 26, 3) := by decide +kernel
theorem dX5_darkest_25 : decode cX5_darkest 25 = .ok (.getfield 48, 3) := by decide +kernel
theorem dX5_darkest_28 : decode cX5_darkest 28 = .ok (.iload_n 1, 1) := by decide +kernel
theorem dX5_darkest_29 : decode cX5_darkest 29 = .ok (.invokevirtual 129, 3) := by decide +kernel
theorem dX5_darkest_32 : decode cX5_darkest 32 = .ok (.if_icmp .ge 5, 3) := by decide +kernel
theorem dX5_darkest_35 : decode cX5_darkest 35 = .ok (.iload_n 2, 1) := by decide +kernel
theorem dX5_darkest_36 : decode cX5_darkest 36 = .ok (.istore_n 1, 1) := by decide +kernel
theorem dX5_darkest_37 : decode cX5_darkest 37 = .ok (.iinc 2 1, 3) := by decide +kernel
theorem dX5_darkest_40 : decode cX5_darkest 40 = .ok (.goto (-36), 3) := by decide +kernel
theorem dX5_darkest_43 : decode cX5_darkest 43 = .ok (.iload_n 1, 1) := by decide +kernel
theorem dX5_darkest_44 : decode cX5_darkest 44 = .ok (.ireturn, 1) := by decide +kernel
set_option maxRecDepth 20000 in
theorem ggX5_mean_X2_glareOn : GoodIn wsX5_mean wsX2_glareOn := goodIn_r _ [8, 9, 10, 11, 12, 13, 14, 15, 29, 30, 31, 32, 33, 34] (by decide +kernel) (by decide +kernel)
set_option maxRecDepth 20000 in
theorem gX5_mean_X2_glareOn : GoodIn wsX5_mean (wsV RX5 129 RX2 yX2_glareOn wsX2_glareOn) := goodIn_app (goodIn_of _ (by decide +kernel)) ggX5_mean_X2_glareOn
theorem dX5_mean_0 : decode cX5_mean 0 = .ok (.iconst 0, 1) := by decide +kernel
theorem dX5_mean_1 : decode cX5_mean 1 = .ok (.istore_n 1, 1) := by decide +kernel
theorem dX5_mean_2 : decode cX5_mean 2 = .ok (.iconst 0, 1) := by decide +kernel
theorem dX5_mean_3 : decode cX5_mean 3 = .ok (.istore_n 2, 1) := by decide +kernel
theorem dX5_mean_4 : decode cX5_mean 4 = .ok (.iload_n 2, 1) := by decide +kernel
theorem dX5_mean_5 : decode cX5_mean 5 = .ok (.bipush 12, 2) := by decide +kernel
theorem dX5_mean_7 : decode cX5_mean 7 = .ok (.if_icmp .ge 23, 3) := by decide +kernel
theorem dX5_mean_10 : decode cX5_mean 10 = .ok (.iload_n 1, 1) := by decide +kernel
theorem dX5_mean_11 : decode cX5_mean 11 = .ok (.aload_n 0, 1) := by decide +kernel
theorem dX5_mean_12 : decode cX5_mean 12 = .ok (.getfield 26, 3) := by decide +kernel
theorem dX5_mean_15 : decode cX5_mean 15 = .ok (.getfield 48, 3) := by decide +kernel
theorem dX5_mean_18 : decode cX5_mean 18 = .ok (.iload_n 2, 1) := by decide +kernel
theorem dX5_mean_19 : decode cX5_mean 19 = .ok (.invokevirtual 129, 3) := by decide +kernel
theorem dX5_mean_22 : decode cX5_mean 22 = .ok (.iadd, 1) := by decide +kernel
theorem dX5_mean_23 : decode cX5_mean 23 = .ok (.istore_n 1, 1) := by decide +kernel
theorem dX5_mean_24 : decode cX5_mean 24 = .ok (.iinc 2 1, 3) := by decide +kernel
theorem dX5_mean_27 : decode cX5_mean 27 = .ok (.goto (-23), 3) := by decide +kernel
theorem dX5_mean_30 : decode cX5_mean 30 = .ok (.iload_n 1, 1) := by decide +kernel
theorem dX5_mean_31 : decode cX5_mean 31 = .ok (.i2d, 1) := by decide +kernel
theorem dX5_mean_32 : decode cX5_mean 32 = .ok (.ldc2_w 188, 3) := by decide +kernel
theorem dX5_mean_35 : decode cX5_mean 35 = .ok (.ddiv, 1) := by decide +kernel
theorem dX5_mean_36 : decode cX5_mean 36 = .ok (.dreturn, 1) := by decide +kernel
set_option maxRecDepth 20000 in
theorem ggX5_suits_X2_has : GoodIn wsX5_suits wsX2_has := goodIn_r _ [7, 8, 26, 27, 28, 29, 30, 31] (by decide +kernel) (by decide +kernel)
set_option maxRecDepth 20000 in
theorem gX5_suits_X2_has : GoodIn wsX5_suits (wsV RX5 67 RX2 yX2_has wsX2_has) := goodIn_app (goodIn_of _ (by decide +kernel)) ggX5_suits_X2_has
set_option maxRecDepth 20000 in
theorem ggX5_suits_X5_within : GoodIn wsX5_suits wsX5_within := goodIn_r _ [12] (by decide +kernel) (by decide +kernel)
set_option maxRecDepth 20000 in
theorem gX5_suits_X5_within : GoodIn wsX5_suits (va_wsS RX5 33 yX5_within wsX5_within) := goodIn_app (goodIn_of _ (by decide +kernel)) ggX5_suits_X5_within
theorem dX5_suits_0 : decode cX5_suits 0 = .ok (.iload_n 1, 1) := by decide +kernel
theorem dX5_suits_1 : decode cX5_suits 1 = .ok (.tableswitch 154 0 4 #[35, 65, 86, 114, 140], 35) := by decide +kernel
theorem dX5_suits_36 : decode cX5_suits 36 = .ok (.aload_n 0, 1) := by decide +kernel
theorem dX5_suits_37 : decode cX5_suits 37 = .ok (.getfield 26, 3) := by decide +kernel
theorem dX5_suits_40 : decode cX5_suits 40 = .ok (.getfield 48, 3) := by decide +kernel
theorem dX5_suits_43 : decode cX5_suits 43 = .ok (.iload_n 2, 1) := by decide +kernel
theorem dX5_suits_44 : decode cX5_suits 44 = .ok (.invokevirtual 67, 3) := by decide +kernel
theorem dX5_suits_47 : decode cX5_suits 47 = .ok (.ifCond .eq 17, 3) := by decide +kernel
theorem dX5_suits_50 : decode cX5_suits 50 = .ok (.iload_n 3, 1) := by decide +kernel
theorem dX5_suits_51 : decode cX5_suits 51 = .ok (.iconst 0, 1) := by decide +kernel
theorem dX5_suits_52 : decode cX5_suits 52 = .ok (.bipush 100, 2) := by decide +kernel
theorem dX5_suits_54 : decode cX5_suits 54 = .ok (.invokestatic 33, 3) := by decide +kernel
theorem dX5_suits_57 : decode cX5_suits 57 = .ok (.ifCond .eq 7, 3) := by decide +kernel
theorem dX5_suits_60 : decode cX5_suits 60 = .ok (.iconst 1, 1) := by decide +kernel
theorem dX5_suits_61 : decode cX5_suits 61 = .ok (.goto 4, 3) := by decide +kernel
theorem dX5_suits_64 : decode cX5_suits 64 = .ok (.iconst 0, 1) := by decide +kernel
theorem dX5_suits_65 : decode cX5_suits 65 = .ok (.ireturn, 1) := by decide +kernel
theorem dX5_suits_66 : decode cX5_suits 66 = .ok (.iload_n 2, 1) := by decide +kernel
theorem dX5_suits_67 : decode cX5_suits 67 = .ok (.ifCond .ne 18, 3) := by decide +kernel
theorem dX5_suits_70 : decode cX5_suits 70 = .ok (.iload_n 3, 1) := by decide +kernel
theorem dX5_suits_71 : decode cX5_suits 71 = .ok (.bipush (-30), 2) := by decide +kernel
theorem dX5_suits_73 : decode cX5_suits 73 = .ok (.bipush 30, 2) := by decide +kernel
theorem dX5_suits_75 : decode cX5_suits 75 = .ok (.invokestatic 33, 3) := by decide +kernel
theorem dX5_suits_78 : decode cX5_suits 78 = .ok (.ifCond .eq 7, 3) := by decide +kernel
theorem dX5_suits_81 : decode cX5_suits 81 = .ok (.iconst 1, 1) := by decide +kernel
theorem dX5_suits_82 : decode cX5_suits 82 = .ok (.goto 4, 3) := by decide +kernel
theorem dX5_suits_85 : decode cX5_suits 85 = .ok (.iconst 0, 1) := by decide +kernel
theorem dX5_suits_86 : decode cX5_suits 86 = .ok (.ireturn, 1) := by decide +kernel
theorem dX5_suits_87 : decode cX5_suits 87 = .ok (.iload_n 2, 1) := by decide +kernel
theorem dX5_suits_88 : decode cX5_suits 88 = .ok (.iconst 0, 1) := by decide +kernel
theorem dX5_suits_89 : decode cX5_suits 89 = .ok (.sipush 359, 3) := by decide +kernel
theorem dX5_suits_92 : decode cX5_suits 92 = .ok (.invokestatic 33, 3) := by decide +kernel
theorem dX5_suits_95 : decode cX5_suits 95 = .ok (.ifCond .eq 18, 3) := by decide +kernel
theorem dX5_suits_98 : decode cX5_suits 98 = .ok (.iload_n 3, 1) := by decide +kernel
theorem dX5_suits_99 : decode cX5_suits 99 = .ok (.bipush (-20), 2) := by decide +kernel
theorem dX5_suits_101 : decode cX5_suits 101 = .ok (.bipush 20, 2) := by decide +kernel
theorem dX5_suits_103 : decode cX5_suits 103 = .ok (.invokestatic 33, 3) := by decide +kernel
theorem dX5_suits_106 : decode cX5_suits 106 = .ok (.ifCond .eq 7, 3) := by decide +kernel
theorem dX5_suits_109 : decode cX5_suits 109 = .ok (.iconst 1, 1) := by decide +kernel
theorem dX5_suits_110 : decode cX5_suits 110 = .ok (.goto 4, 3) := by decide +kernel
theorem dX5_suits_113 : decode cX5_suits 113 = .ok (.iconst 0, 1) := by decide +kernel
theorem dX5_suits_114 : decode cX5_suits 114 = .ok (.ireturn, 1) := by decide +kernel
theorem dX5_suits_115 : decode cX5_suits 115 = .ok (.iload_n 2, 1) := by decide +kernel
theorem dX5_suits_116 : decode cX5_suits 116 = .ok (.iconst 0, 1) := by decide +kernel
theorem dX5_suits_117 : decode cX5_suits 117 = .ok (.bipush 99, 2) := by decide +kernel
theorem dX5_suits_119 : decode cX5_suits 119 = .ok (.invokestatic 33, 3) := by decide +kernel
theorem dX5_suits_122 : decode cX5_suits 122 = .ok (.ifCond .eq 17, 3) := by decide +kernel
theorem dX5_suits_125 : decode cX5_suits 125 = .ok (.iload_n 3, 1) := by decide +kernel
theorem dX5_suits_126 : decode cX5_suits 126 = .ok (.iconst 1, 1) := by decide +kernel
theorem dX5_suits_127 : decode cX5_suits 127 = .ok (.bipush 60, 2) := by decide +kernel
theorem dX5_suits_129 : decode cX5_suits 129 = .ok (.invokestatic 33, 3) := by decide +kernel
theorem dX5_suits_132 : decode cX5_suits 132 = .ok (.ifCond .eq 7, 3) := by decide +kernel
theorem dX5_suits_135 : decode cX5_suits 135 = .ok (.iconst 1, 1) := by decide +kernel
theorem dX5_suits_136 : decode cX5_suits 136 = .ok (.goto 4, 3) := by decide +kernel
theorem dX5_suits_139 : decode cX5_suits 139 = .ok (.iconst 0, 1) := by decide +kernel
theorem dX5_suits_140 : decode cX5_suits 140 = .ok (.ireturn, 1) := by decide +kernel
theorem dX5_suits_141 : decode cX5_suits 141 = .ok (.iload_n 2, 1) := by decide +kernel
theorem dX5_suits_142 : decode cX5_suits 142 = .ok (.ifCond .ne 11, 3) := by decide +kernel
theorem dX5_suits_145 : decode cX5_suits 145 = .ok (.iload_n 3, 1) := by decide +kernel
theorem dX5_suits_146 : decode cX5_suits 146 = .ok (.ifCond .ne 7, 3) := by decide +kernel
theorem dX5_suits_149 : decode cX5_suits 149 = .ok (.iconst 1, 1) := by decide +kernel
theorem dX5_suits_150 : decode cX5_suits 150 = .ok (.goto 4, 3) := by decide +kernel
theorem dX5_suits_153 : decode cX5_suits 153 = .ok (.iconst 0, 1) := by decide +kernel
theorem dX5_suits_154 : decode cX5_suits 154 = .ok (.ireturn, 1) := by decide +kernel
theorem dX5_suits_155 : decode cX5_suits 155 = .ok (.iconst 0, 1) := by decide +kernel
theorem dX5_suits_156 : decode cX5_suits 156 = .ok (.ireturn, 1) := by decide +kernel
theorem dX5_foreseeable_0 : decode cX5_foreseeable 0 = .ok (.iload_n 0, 1) := by decide +kernel
theorem dX5_foreseeable_1 : decode cX5_foreseeable 1 = .ok (.iconst 1, 1) := by decide +kernel
theorem dX5_foreseeable_2 : decode cX5_foreseeable 2 = .ok (.if_icmp .eq 26, 3) := by decide +kernel
theorem dX5_foreseeable_5 : decode cX5_foreseeable 5 = .ok (.iload_n 0, 1) := by decide +kernel
theorem dX5_foreseeable_6 : decode cX5_foreseeable 6 = .ok (.iconst 5, 1) := by decide +kernel
theorem dX5_foreseeable_7 : decode cX5_foreseeable 7 = .ok (.if_icmp .eq 21, 3) := by decide +kernel
theorem dX5_foreseeable_10 : decode cX5_foreseeable 10 = .ok (.iload_n 0, 1) := by decide +kernel
theorem dX5_foreseeable_11 : decode cX5_foreseeable 11 = .ok (.bipush 7, 2) := by decide +kernel
theorem dX5_foreseeable_13 : decode cX5_foreseeable 13 = .ok (.if_icmp .eq 15, 3) := by decide +kernel
theorem dX5_foreseeable_16 : decode cX5_foreseeable 16 = .ok (.iload_n 0, 1) := by decide +kernel
theorem dX5_foreseeable_17 : decode cX5_foreseeable 17 = .ok (.bipush 8, 2) := by decide +kernel
theorem dX5_foreseeable_19 : decode cX5_foreseeable 19 = .ok (.if_icmp .eq 9, 3) := by decide +kernel
theorem dX5_foreseeable_22 : decode cX5_foreseeable 22 = .ok (.iload_n 0, 1) := by decide +kernel
theorem dX5_foreseeable_23 : decode cX5_foreseeable 23 = .ok (.bipush 11, 2) := by decide +kernel
theorem dX5_foreseeable_25 : decode cX5_foreseeable 25 = .ok (.if_icmp .ne 7, 3) := by decide +kernel
theorem dX5_foreseeable_28 : decode cX5_foreseeable 28 = .ok (.iconst 1, 1) := by decide +kernel
theorem dX5_foreseeable_29 : decode cX5_foreseeable 29 = .ok (.goto 4, 3) := by decide +kernel
theorem dX5_foreseeable_32 : decode cX5_foreseeable 32 = .ok (.iconst 0, 1) := by decide +kernel
theorem dX5_foreseeable_33 : decode cX5_foreseeable 33 = .ok (.ireturn, 1) := by decide +kernel
theorem dX5_within_0 : decode cX5_within 0 = .ok (.iload_n 0, 1) := by decide +kernel
theorem dX5_within_1 : decode cX5_within 1 = .ok (.iload_n 1, 1) := by decide +kernel
theorem dX5_within_2 : decode cX5_within 2 = .ok (.if_icmp .lt 12, 3) := by decide +kernel
theorem dX5_within_5 : decode cX5_within 5 = .ok (.iload_n 0, 1) := by decide +kernel
theorem dX5_within_6 : decode cX5_within 6 = .ok (.iload_n 2, 1) := by decide +kernel
theorem dX5_within_7 : decode cX5_within 7 = .ok (.if_icmp .gt 7, 3) := by decide +kernel
theorem dX5_within_10 : decode cX5_within 10 = .ok (.iconst 1, 1) := by decide +kernel
theorem dX5_within_11 : decode cX5_within 11 = .ok (.goto 4, 3) := by decide +kernel
theorem dX5_within_14 : decode cX5_within 14 = .ok (.iconst 0, 1) := by decide +kernel
theorem dX5_within_15 : decode cX5_within 15 = .ok (.ireturn, 1) := by decide +kernel
set_option maxRecDepth 20000 in
theorem ggX5_turned_J9_floorMod_7cf53 : GoodIn wsX5_turned wsJ9_floorMod_7cf53 := goodIn_r _ [4] (by decide +kernel) (by decide +kernel)
set_option maxRecDepth 20000 in
theorem gX5_turned_J9_floorMod_7cf53 : GoodIn wsX5_turned (va_wsS RX5 213 yJ9_floorMod_7cf53 wsJ9_floorMod_7cf53) := goodIn_app (goodIn_of _ (by decide +kernel)) ggX5_turned_J9_floorMod_7cf53
theorem dX5_turned_0 : decode cX5_turned 0 = .ok (.iload_n 0, 1) := by decide +kernel
theorem dX5_turned_1 : decode cX5_turned 1 = .ok (.iload_n 1, 1) := by decide +kernel
theorem dX5_turned_2 : decode cX5_turned 2 = .ok (.iadd, 1) := by decide +kernel
theorem dX5_turned_3 : decode cX5_turned 3 = .ok (.sipush 360, 3) := by decide +kernel
theorem dX5_turned_6 : decode cX5_turned 6 = .ok (.invokestatic 213, 3) := by decide +kernel
theorem dX5_turned_9 : decode cX5_turned 9 = .ok (.ireturn, 1) := by decide +kernel
theorem dJ9_floorMod_7cf53_0 : decode cJ9_floorMod_7cf53 0 = .ok (.iload_n 0, 1) := by decide +kernel
theorem dJ9_floorMod_7cf53_1 : decode cJ9_floorMod_7cf53 1 = .ok (.iload_n 1, 1) := by decide +kernel
theorem dJ9_floorMod_7cf53_2 : decode cJ9_floorMod_7cf53 2 = .ok (.irem, 1) := by decide +kernel
theorem dJ9_floorMod_7cf53_3 : decode cJ9_floorMod_7cf53 3 = .ok (.istore_n 2, 1) := by decide +kernel
theorem dJ9_floorMod_7cf53_4 : decode cJ9_floorMod_7cf53 4 = .ok (.iload_n 0, 1) := by decide +kernel
theorem dJ9_floorMod_7cf53_5 : decode cJ9_floorMod_7cf53 5 = .ok (.iload_n 1, 1) := by decide +kernel
theorem dJ9_floorMod_7cf53_6 : decode cJ9_floorMod_7cf53 6 = .ok (.ixor, 1) := by decide +kernel
theorem dJ9_floorMod_7cf53_7 : decode cJ9_floorMod_7cf53 7 = .ok (.ifCond .ge 11, 3) := by decide +kernel
theorem dJ9_floorMod_7cf53_10 : decode cJ9_floorMod_7cf53 10 = .ok (.iload_n 2, 1) := by decide +kernel
theorem dJ9_floorMod_7cf53_11 : decode cJ9_floorMod_7cf53 11 = .ok (.ifCond .eq 7, 3) := by decide +kernel
theorem dJ9_floorMod_7cf53_14 : decode cJ9_floorMod_7cf53 14 = .ok (.iload_n 2, 1) := by decide +kernel
theorem dJ9_floorMod_7cf53_15 : decode cJ9_floorMod_7cf53 15 = .ok (.iload_n 1, 1) := by decide +kernel
theorem dJ9_floorMod_7cf53_16 : decode cJ9_floorMod_7cf53 16 = .ok (.iadd, 1) := by decide +kernel
theorem dJ9_floorMod_7cf53_17 : decode cJ9_floorMod_7cf53 17 = .ok (.ireturn, 1) := by decide +kernel
theorem dJ9_floorMod_7cf53_18 : decode cJ9_floorMod_7cf53 18 = .ok (.iload_n 2, 1) := by decide +kernel
theorem dJ9_floorMod_7cf53_19 : decode cJ9_floorMod_7cf53 19 = .ok (.ireturn, 1) := by decide +kernel
theorem dJ9_max_7cf53_0 : decode cJ9_max_7cf53 0 = .ok (.iload_n 0, 1) := by decide +kernel
theorem dJ9_max_7cf53_1 : decode cJ9_max_7cf53 1 = .ok (.iload_n 1, 1) := by decide +kernel
theorem dJ9_max_7cf53_2 : decode cJ9_max_7cf53 2 = .ok (.if_icmp .lt 7, 3) := by decide +kernel
theorem dJ9_max_7cf53_5 : decode cJ9_max_7cf53 5 = .ok (.iload_n 0, 1) := by decide +kernel
theorem dJ9_max_7cf53_6 : decode cJ9_max_7cf53 6 = .ok (.goto 4, 3) := by decide +kernel
theorem dJ9_max_7cf53_9 : decode cJ9_max_7cf53 9 = .ok (.iload_n 1, 1) := by decide +kernel
theorem dJ9_max_7cf53_10 : decode cJ9_max_7cf53 10 = .ok (.ireturn, 1) := by decide +kernel
theorem dJ9_min_7cf53_0 : decode cJ9_min_7cf53 0 = .ok (.iload_n 0, 1) := by decide +kernel
theorem dJ9_min_7cf53_1 : decode cJ9_min_7cf53 1 = .ok (.iload_n 1, 1) := by decide +kernel
theorem dJ9_min_7cf53_2 : decode cJ9_min_7cf53 2 = .ok (.if_icmp .gt 7, 3) := by decide +kernel
theorem dJ9_min_7cf53_5 : decode cJ9_min_7cf53 5 = .ok (.iload_n 0, 1) := by decide +kernel
theorem dJ9_min_7cf53_6 : decode cJ9_min_7cf53 6 = .ok (.goto 4, 3) := by decide +kernel
theorem dJ9_min_7cf53_9 : decode cJ9_min_7cf53 9 = .ok (.iload_n 1, 1) := by decide +kernel
theorem dJ9_min_7cf53_10 : decode cJ9_min_7cf53 10 = .ok (.ireturn, 1) := by decide +kernel
