theorem dX8_site_109 : decode cX8_site 109 = .ok (.isub, 1) := by decide +kernel
theorem dX8_site_110 : decode cX8_site 110 = .ok (.ireturn, 1) := by decide +kernel
set_option maxRecDepth 20000 in
theorem ggX8_move_X8_isSite : GoodIn wsX8_move wsX8_isSite := goodIn_r _ [8, 9, 10, 11, 7, 12, 13, 14, 15, 16, 17, 18, 19, 20, 21, 22, 23, 24, 25, 26, 27, 28, 29] (by decide +kernel) (by decide +kernel)
set_option maxRecDepth 20000 in
theorem gX8_move_X8_isSite : GoodIn wsX8_move (wsV RX8 39 RX8 yX8_isSite wsX8_isSite) := goodIn_app (goodIn_of _ (by decide +kernel)) ggX8_move_X8_isSite
set_option maxRecDepth 20000 in
theorem ggX8_move_X8_in : GoodIn wsX8_move wsX8_in := goodIn_r _ [12] (by decide +kernel) (by decide +kernel)
set_option maxRecDepth 20000 in
theorem gX8_move_X8_in : GoodIn wsX8_move (va_wsS RX8 35 yX8_in wsX8_in) := goodIn_app (goodIn_of _ (by decide +kernel)) ggX8_move_X8_in
theorem dX8_move_0 : decode cX8_move 0 = .ok (.aload_n 0, 1) := by decide +kernel
theorem dX8_move_1 : decode cX8_move 1 = .ok (.aload_n 0, 1) := by decide +kernel
theorem dX8_move_2 : decode cX8_move 2 = .ok (.iload_n 1, 1) := by decide +kernel
theorem dX8_move_3 : decode cX8_move 3 = .ok (.invokevirtual 39, 3) := by decide +kernel
theorem dX8_move_6 : decode cX8_move 6 = .ok (.ifCond .ne 7, 3) := by decide +kernel
theorem dX8_move_9 : decode cX8_move 9 = .ok (.iconst 1, 1) := by decide +kernel
theorem dX8_move_10 : decode cX8_move 10 = .ok (.goto 28, 3) := by decide +kernel
theorem dX8_move_13 : decode cX8_move 13 = .ok (.iload_n 2, 1) := by decide +kernel
theorem dX8_move_14 : decode cX8_move 14 = .ok (.iconst 0, 1) := by decide +kernel
theorem dX8_move_15 : decode cX8_move 15 = .ok (.bipush 40, 2) := by decide +kernel
theorem dX8_move_17 : decode cX8_move 17 = .ok (.invokestatic 35, 3) := by decide +kernel
theorem dX8_move_20 : decode cX8_move 20 = .ok (.ifCond .eq 13, 3) := by decide +kernel
theorem dX8_move_23 : decode cX8_move 23 = .ok (.iload_n 3, 1) := by decide +kernel
theorem dX8_move_24 : decode cX8_move 24 = .ok (.iconst 0, 1) := by decide +kernel
theorem dX8_move_25 : decode cX8_move 25 = .ok (.bipush 40, 2) := by decide +kernel
theorem dX8_move_27 : decode cX8_move 27 = .ok (.invokestatic 35, 3) := by decide +kernel
theorem dX8_move_30 : decode cX8_move 30 = .ok (.ifCond .ne 7, 3) := by decide +kernel
theorem dX8_move_33 : decode cX8_move 33 = .ok (.iconst 2, 1) := by decide +kernel
theorem dX8_move_34 : decode cX8_move 34 = .ok (.goto 4, 3) := by decide +kernel
theorem dX8_move_37 : decode cX8_move 37 = .ok (.iconst 0, 1) := by decide +kernel
theorem dX8_move_38 : decode cX8_move 38 = .ok (.putfield 28, 3) := by decide +kernel
theorem dX8_move_41 : decode cX8_move 41 = .ok (.aload_n 0, 1) := by decide +kernel
theorem dX8_move_42 : decode cX8_move 42 = .ok (.getfield 28, 3) := by decide +kernel
theorem dX8_move_45 : decode cX8_move 45 = .ok (.ifCond .ne 17, 3) := by decide +kernel
theorem dX8_move_48 : decode cX8_move 48 = .ok (.aload_n 0, 1) := by decide +kernel
theorem dX8_move_49 : decode cX8_move 49 = .ok (.getfield 7, 3) := by decide +kernel
theorem dX8_move_52 : decode cX8_move 52 = .ok (.iload_n 1, 1) := by decide +kernel
theorem dX8_move_53 : decode cX8_move 53 = .ok (.iload_n 2, 1) := by decide +kernel
theorem dX8_move_54 : decode cX8_move 54 = .ok (.iastore, 1) := by decide +kernel
theorem dX8_move_55 : decode cX8_move 55 = .ok (.aload_n 0, 1) := by decide +kernel
theorem dX8_move_56 : decode cX8_move 56 = .ok (.getfield 13, 3) := by decide +kernel
theorem dX8_move_59 : decode cX8_move 59 = .ok (.iload_n 1, 1) := by decide +kernel
theorem dX8_move_60 : decode cX8_move 60 = .ok (.iload_n 3, 1) := by decide +kernel
theorem dX8_move_61 : decode cX8_move 61 = .ok (.iastore, 1) := by decide +kernel
theorem dX8_move_62 : decode cX8_move 62 = .ok (.return_, 1) := by decide +kernel
set_option maxRecDepth 20000 in
theorem ggX8_weight_X8_isSite : GoodIn wsX8_weight wsX8_isSite := goodIn_r _ [7, 8, 9, 10, 6, 11, 12, 13, 14, 15, 16, 17, 18, 19, 20, 21, 22, 23, 24, 25, 26, 27, 28] (by decide +kernel) (by decide +kernel)
set_option maxRecDepth 20000 in
theorem gX8_weight_X8_isSite : GoodIn wsX8_weight (wsV RX8 39 RX8 yX8_isSite wsX8_isSite) := goodIn_app (goodIn_of _ (by decide +kernel)) ggX8_weight_X8_isSite
set_option maxRecDepth 20000 in
theorem ggX8_weight_X8_in : GoodIn wsX8_weight wsX8_in := goodIn_r _ [11] (by decide +kernel) (by decide +kernel)
set_option maxRecDepth 20000 in
theorem gX8_weight_X8_in : GoodIn wsX8_weight (va_wsS RX8 35 yX8_in wsX8_in) := goodIn_app (goodIn_of _ (by decide +kernel)) ggX8_weight_X8_in
theorem dX8_weight_0 : decode cX8_weight 0 = .ok (.aload_n 0, 1) := by decide +kernel
theorem dX8_weight_1 : decode cX8_weight 1 = .ok (.aload_n 0, 1) := by decide +kernel
theorem dX8_weight_2 : decode cX8_weight 2 = .ok (.iload_n 1, 1) := by decide +kernel
theorem dX8_weight_3 : decode cX8_weight 3 = .ok (.invokevirtual 39, 3) := by decide +kernel
theorem dX8_weight_6 : decode cX8_weight 6 = .ok (.ifCond .ne 7, 3) := by decide +kernel
theorem dX8_weight_9 : decode cX8_weight 9 = .ok (.iconst 1, 1) := by decide +kernel
theorem dX8_weight_10 : decode cX8_weight 10 = .ok (.goto 21, 3) := by decide +kernel
theorem dX8_weight_13 : decode cX8_weight 13 = .ok (.iload_n 2, 1) := by decide +kernel
theorem dX8_weight_14 : decode cX8_weight 14 = .ok (.sipush (-999), 3) := by decide +kernel
theorem dX8_weight_17 : decode cX8_weight 17 = .ok (.sipush 999, 3) := by decide +kernel
theorem dX8_weight_20 : decode cX8_weight 20 = .ok (.invokestatic 35, 3) := by decide +kernel
theorem dX8_weight_23 : decode cX8_weight 23 = .ok (.ifCond .ne 7, 3) := by decide +kernel
theorem dX8_weight_26 : decode cX8_weight 26 = .ok (.iconst 2, 1) := by decide +kernel
theorem dX8_weight_27 : decode cX8_weight 27 = .ok (.goto 4, 3) := by decide +kernel
theorem dX8_weight_30 : decode cX8_weight 30 = .ok (.iconst 0, 1) := by decide +kernel
theorem dX8_weight_31 : decode cX8_weight 31 = .ok (.putfield 28, 3) := by decide +kernel
theorem dX8_weight_34 : decode cX8_weight 34 = .ok (.aload_n 0, 1) := by decide +kernel
theorem dX8_weight_35 : decode cX8_weight 35 = .ok (.getfield 28, 3) := by decide +kernel
theorem dX8_weight_38 : decode cX8_weight 38 = .ok (.ifCond .le 5, 3) := by decide +kernel
theorem dX8_weight_41 : decode cX8_weight 41 = .ok (.iconst 0, 1) := by decide +kernel
theorem dX8_weight_42 : decode cX8_weight 42 = .ok (.ireturn, 1) := by decide +kernel
theorem dX8_weight_43 : decode cX8_weight 43 = .ok (.aload_n 0, 1) := by decide +kernel
theorem dX8_weight_44 : decode cX8_weight 44 = .ok (.getfield 16, 3) := by decide +kernel
theorem dX8_weight_47 : decode cX8_weight 47 = .ok (.iload_n 1, 1) := by decide +kernel
theorem dX8_weight_48 : decode cX8_weight 48 = .ok (.iaload, 1) := by decide +kernel
theorem dX8_weight_49 : decode cX8_weight 49 = .ok (.istore_n 3, 1) := by decide +kernel
theorem dX8_weight_50 : decode cX8_weight 50 = .ok (.aload_n 0, 1) := by decide +kernel
theorem dX8_weight_51 : decode cX8_weight 51 = .ok (.getfield 16, 3) := by decide +kernel
theorem dX8_weight_54 : decode cX8_weight 54 = .ok (.iload_n 1, 1) := by decide +kernel
theorem dX8_weight_55 : decode cX8_weight 55 = .ok (.iload_n 2, 1) := by decide +kernel
theorem dX8_weight_56 : decode cX8_weight 56 = .ok (.iastore, 1) := by decide +kernel
theorem dX8_weight_57 : decode cX8_weight 57 = .ok (.iload_n 3, 1) := by decide +kernel
theorem dX8_weight_58 : decode cX8_weight 58 = .ok (.ireturn, 1) := by decide +kernel
set_option maxRecDepth 20000 in
theorem ggX8_capacity_X8_isSite : GoodIn wsX8_capacity wsX8_isSite := goodIn_r _ [7, 8, 9, 10, 6, 11, 12, 13, 14, 15, 16, 17, 18, 19, 20, 21, 22, 23, 24, 25, 26, 27, 28] (by decide +kernel) (by decide +kernel)
set_option maxRecDepth 20000 in
theorem gX8_capacity_X8_isSite : GoodIn wsX8_capacity (wsV RX8 39 RX8 yX8_isSite wsX8_isSite) := goodIn_app (goodIn_of _ (by decide +kernel)) ggX8_capacity_X8_isSite
set_option maxRecDepth 20000 in
theorem ggX8_capacity_X8_in : GoodIn wsX8_capacity wsX8_in := goodIn_r _ [11] (by decide +kernel) (by decide +kernel)
set_option maxRecDepth 20000 in
theorem gX8_capacity_X8_in : GoodIn wsX8_capacity (va_wsS RX8 35 yX8_in wsX8_in) := goodIn_app (goodIn_of _ (by decide +kernel)) ggX8_capacity_X8_in
theorem dX8_capacity_0 : decode cX8_capacity 0 = .ok (.aload_n 0, 1) := by decide +kernel
theorem dX8_capacity_1 : decode cX8_capacity 1 = .ok (.aload_n 0, 1) := by decide +kernel
theorem dX8_capacity_2 : decode cX8_capacity 2 = .ok (.iload_n 1, 1) := by decide +kernel
theorem dX8_capacity_3 : decode cX8_capacity 3 = .ok (.invokevirtual 39, 3) := by decide +kernel
theorem dX8_capacity_6 : decode cX8_capacity 6 = .ok (.ifCond .ne 7, 3) := by decide +kernel
theorem dX8_capacity_9 : decode cX8_capacity 9 = .ok (.iconst 1, 1) := by decide +kernel
theorem dX8_capacity_10 : decode cX8_capacity 10 = .ok (.goto 19, 3) := by decide +kernel
theorem dX8_capacity_13 : decode cX8_capacity 13 = .ok (.iload_n 2, 1) := by decide +kernel
theorem dX8_capacity_14 : decode cX8_capacity 14 = .ok (.iconst 0, 1) := by decide +kernel
theorem dX8_capacity_15 : decode cX8_capacity 15 = .ok (.sipush 1681, 3) := by decide +kernel
theorem dX8_capacity_18 : decode cX8_capacity 18 = .ok (.invokestatic 35, 3) := by decide +kernel
theorem dX8_capacity_21 : decode cX8_capacity 21 = .ok (.ifCond .ne 7, 3) := by decide +kernel
theorem dX8_capacity_24 : decode cX8_capacity 24 = .ok (.iconst 2, 1) := by decide +kernel
theorem dX8_capacity_25 : decode cX8_capacity 25 = .ok (.goto 4, 3) := by decide +kernel
theorem dX8_capacity_28 : decode cX8_capacity 28 = .ok (.iconst 0, 1) := by decide +kernel
theorem dX8_capacity_29 : decode cX8_capacity 29 = .ok (.putfield 28, 3) := by decide +kernel
theorem dX8_capacity_32 : decode cX8_capacity 32 = .ok (.aload_n 0, 1) := by decide +kernel
theorem dX8_capacity_33 : decode cX8_capacity 33 = .ok (.getfield 28, 3) := by decide +kernel
theorem dX8_capacity_36 : decode cX8_capacity 36 = .ok (.ifCond .le 5, 3) := by decide +kernel
theorem dX8_capacity_39 : decode cX8_capacity 39 = .ok (.iconst 0, 1) := by decide +kernel
theorem dX8_capacity_40 : decode cX8_capacity 40 = .ok (.ireturn, 1) := by decide +kernel
theorem dX8_capacity_41 : decode cX8_capacity 41 = .ok (.aload_n 0, 1) := by decide +kernel
theorem dX8_capacity_42 : decode cX8_capacity 42 = .ok (.getfield 19, 3) := by decide +kernel
theorem dX8_capacity_45 : decode cX8_capacity 45 = .ok (.iload_n 1, 1) := by decide +kernel
theorem dX8_capacity_46 : decode cX8_capacity 46 = .ok (.iaload, 1) := by decide +kernel
theorem dX8_capacity_47 : decode cX8_capacity 47 = .ok (.istore_n 3, 1) := by decide +kernel
theorem dX8_capacity_48 : decode cX8_capacity 48 = .ok (.aload_n 0, 1) := by decide +kernel
theorem dX8_capacity_49 : decode cX8_capacity 49 = .ok (.getfield 19, 3) := by decide +kernel
theorem dX8_capacity_52 : decode cX8_capacity 52 = .ok (.iload_n 1, 1) := by decide +kernel
theorem dX8_capacity_53 : decode cX8_capacity 53 = .ok (.iload_n 2, 1) := by decide +kernel
theorem dX8_capacity_54 : decode cX8_capacity 54 = .ok (.iastore, 1) := by decide +kernel
theorem dX8_capacity_55 : decode cX8_capacity 55 = .ok (.iload_n 3, 1) := by decide +kernel
theorem dX8_capacity_56 : decode cX8_capacity 56 = .ok (.ireturn, 1) := by decide +kernel
theorem dX8_powerOf_0 : decode cX8_powerOf 0 = .ok (.iload_n 2, 1) := by decide +kernel
theorem dX8_powerOf_1 : decode cX8_powerOf 1 = .ok (.aload_n 0, 1) := by decide +kernel
theorem dX8_powerOf_2 : decode cX8_powerOf 2 = .ok (.getfield 7, 3) := by decide +kernel
theorem dX8_powerOf_5 : decode cX8_powerOf 5 = .ok (.iload_n 1, 1) := by decide +kernel
theorem dX8_powerOf_6 : decode cX8_powerOf 6 = .ok (.iaload, 1) := by decide +kernel
theorem dX8_powerOf_7 : decode cX8_powerOf 7 = .ok (.isub, 1) := by decide +kernel
theorem dX8_powerOf_8 : decode cX8_powerOf 8 = .ok (.iload_n 2, 1) := by decide +kernel
theorem dX8_powerOf_9 : decode cX8_powerOf 9 = .ok (.aload_n 0, 1) := by decide +kernel
theorem dX8_powerOf_10 : decode cX8_powerOf 10 = .ok (.getfield 7, 3) := by decide +kernel
theorem dX8_powerOf_13 : decode cX8_powerOf 13 = .ok (.iload_n 1, 1) := by decide +kernel
theorem dX8_powerOf_14 : decode cX8_powerOf 14 = .ok (.iaload, 1) := by decide +kernel
theorem dX8_powerOf_15 : decode cX8_powerOf 15 = .ok (.isub, 1) := by decide +kernel
theorem dX8_powerOf_16 : decode cX8_powerOf 16 = .ok (.imul, 1) := by decide +kernel
theorem dX8_powerOf_17 : decode cX8_powerOf 17 = .ok (.iload_n 3, 1) := by decide +kernel
theorem dX8_powerOf_18 : decode cX8_powerOf 18 = .ok (.aload_n 0, 1) := by decide +kernel
theorem dX8_powerOf_19 : decode cX8_powerOf 19 = .ok (.getfield 13, 3) := by decide +kernel
theorem dX8_powerOf_22 : decode cX8_powerOf 22 = .ok (.iload_n 1, 1) := by decide +kernel
theorem dX8_powerOf_23 : decode cX8_powerOf 23 = .ok (.iaload, 1) := by decide +kernel
theorem dX8_powerOf_24 : decode cX8_powerOf 24 = .ok (.isub, 1) := by decide +kernel
theorem dX8_powerOf_25 : decode cX8_powerOf 25 = .ok (.iload_n 3, 1) := by decide +kernel
theorem dX8_powerOf_26 : decode cX8_powerOf 26 = .ok (.aload_n 0, 1) := by decide +kernel
theorem dX8_powerOf_27 : decode cX8_powerOf 27 = .ok (.getfield 13, 3) := by decide +kernel
theorem dX8_powerOf_30 : decode cX8_powerOf 30 = .ok (.iload_n 1, 1) := by decide +kernel
theorem dX8_powerOf_31 : decode cX8_powerOf 31 = .ok (.iaload, 1) := by decide +kernel
theorem dX8_powerOf_32 : decode cX8_powerOf 32 = .ok (.isub, 1) := by decide +kernel
theorem dX8_powerOf_33 : decode cX8_powerOf 33 = .ok (.imul, 1) := by decide +kernel
theorem dX8_powerOf_34 : decode cX8_powerOf 34 = .ok (.iadd, 1) := by decide +kernel
theorem dX8_powerOf_35 : decode cX8_powerOf 35 = .ok (.aload_n 0, 1) := by decide +kernel
theorem dX8_powerOf_36 : decode cX8_powerOf 36 = .ok (.getfield 16, 3) := by decide +kernel
theorem dX8_powerOf_39 : decode cX8_powerOf 39 = .ok (.iload_n 1, 1) := by decide +kernel
theorem dX8_powerOf_40 : decode cX8_powerOf 40 = .ok (.iaload, 1) := by decide +kernel
theorem dX8_powerOf_41 : decode cX8_powerOf 41 = .ok (.isub, 1) := by decide +kernel
theorem dX8_powerOf_42 : decode cX8_powerOf 42 = .ok (.ireturn, 1) := by decide +kernel
set_option maxRecDepth 20000 in
theorem ggX8_ownerOf_X8_powerOf : GoodIn wsX8_ownerOf wsX8_powerOf := goodIn_r _ [6, 7, 8, 9, 10, 11, 12, 13, 14, 15, 16, 17, 18, 19, 20, 21, 22, 23, 24, 25, 26] (by decide +kernel) (by decide +kernel)
set_option maxRecDepth 20000 in
theorem gX8_ownerOf_X8_powerOf : GoodIn wsX8_ownerOf (wsV RX8 43 RX8 yX8_powerOf wsX8_powerOf) := goodIn_app (goodIn_of _ (by decide +kernel)) ggX8_ownerOf_X8_powerOf
theorem dX8_ownerOf_0 : decode cX8_ownerOf 0 = .ok (.iconst (-1), 1) := by decide +kernel
theorem dX8_ownerOf_1 : decode cX8_ownerOf 1 = .ok (.istore_n 3, 1) := by decide +kernel
theorem dX8_ownerOf_2 : decode cX8_ownerOf 2 = .ok (.aload_n 0, 1) := by decide +kernel
theorem dX8_ownerOf_3 : decode cX8_ownerOf 3 = .ok (.getfield 32, 3) := by decide +kernel
theorem dX8_ownerOf_6 : decode cX8_ownerOf 6 = .ok (.iconst 1, 1) := by decide +kernel
theorem dX8_ownerOf_7 : decode cX8_ownerOf 7 = .ok (.isub, 1) := by decide +kernel
theorem dX8_ownerOf_8 : decode cX8_ownerOf 8 = .ok (.istore 4, 2) := by decide +kernel
theorem dX8_ownerOf_10 : decode cX8_ownerOf 10 = .ok (.iload 4, 2) := by decide +kernel
theorem dX8_ownerOf_12 : decode cX8_ownerOf 12 = .ok (.ifCond .lt 39, 3) := by decide +kernel
theorem dX8_ownerOf_15 : decode cX8_ownerOf 15 = .ok (.iload_n 3, 1) := by decide +kernel
theorem dX8_ownerOf_16 : decode cX8_ownerOf 16 = .ok (.iconst (-1), 1) := by decide +kernel
theorem dX8_ownerOf_17 : decode cX8_ownerOf 17 = .ok (.if_icmp .eq 21, 3) := by decide +kernel
theorem dX8_ownerOf_20 : decode cX8_ownerOf 20 = .ok (.aload_n 0, 1) := by decide +kernel
theorem dX8_ownerOf_21 : decode cX8_ownerOf 21 = .ok (.iload 4, 2) := by decide +kernel
theorem dX8_ownerOf_23 : decode cX8_ownerOf 23 = .ok (.iload_n 1, 1) := by decide +kernel
theorem dX8_ownerOf_24 : decode cX8_ownerOf 24 = .ok (.iload_n 2, 1) := by decide +kernel
theorem dX8_ownerOf_25 : decode cX8_ownerOf 25 = .ok (.invokevirtual 43, 3) := by decide +kernel
theorem dX8_ownerOf_28 : decode cX8_ownerOf 28 = .ok (.aload_n 0, 1) := by decide +kernel
theorem dX8_ownerOf_29 : decode cX8_ownerOf 29 = .ok (.iload_n 3, 1) := by decide +kernel
theorem dX8_ownerOf_30 : decode cX8_ownerOf 30 = .ok (.iload_n 1, 1) := by decide +kernel
theorem dX8_ownerOf_31 : decode cX8_ownerOf 31 = .ok (.iload_n 2, 1) := by decide +kernel
theorem dX8_ownerOf_32 : decode cX8_ownerOf 32 = .ok (.invokevirtual 43, 3) := by decide +kernel
theorem dX8_ownerOf_35 : decode cX8_ownerOf 35 = .ok (.if_icmp .gt 8, 3) := by decide +kernel
theorem dX8_ownerOf_38 : decode cX8_ownerOf 38 = .ok (.iload 4, 2) := by decide +kernel
theorem dX8_ownerOf_40 : decode cX8_ownerOf 40 = .ok (.goto 4, 3) := by decide +kernel
theorem dX8_ownerOf_43 : decode cX8_ownerOf 43 = .ok (.iload_n 3, 1) := by decide +kernel
theorem dX8_ownerOf_44 : decode cX8_ownerOf 44 = .ok (.istore_n 3, 1) := by decide +kernel
theorem dX8_ownerOf_45 : decode cX8_ownerOf 45 = .ok (.iinc 4 (-1), 3) := by decide +kernel
theorem dX8_ownerOf_48 : decode cX8_ownerOf 48 = .ok (.goto (-38), 3) := by decide +kernel
theorem dX8_ownerOf_51 : decode cX8_ownerOf 51 = .ok (.iload_n 3, 1) := by decide +kernel
theorem dX8_ownerOf_52 : decode cX8_ownerOf 52 = .ok (.ireturn, 1) := by decide +kernel
set_option maxRecDepth 20000 in
theorem ggX8_counts_X8_ownerOf : GoodIn wsX8_counts wsX8_ownerOf := goodIn_r _ [8, 1, 9, 10, 11, 7, 12, 13, 14, 15, 19, 20, 21, 22, 23, 24, 25, 26, 27, 28, 29, 30, 31, 32, 33, 34, 35] (by decide +kernel) (by decide +kernel)
set_option maxRecDepth 20000 in
theorem gX8_counts_X8_ownerOf : GoodIn wsX8_counts (wsV RX8 47 RX8 yX8_ownerOf wsX8_ownerOf) := goodIn_app (goodIn_of _ (by decide +kernel)) ggX8_counts_X8_ownerOf
set_option maxRecDepth 20000 in
theorem ggX8_counts_X8_size : GoodIn wsX8_counts wsX8_size := goodIn_r _ [18] (by decide +kernel) (by decide +kernel)
set_option maxRecDepth 20000 in
theorem gX8_counts_X8_size : GoodIn wsX8_counts (va_wsS RX8 51 yX8_size wsX8_size) := goodIn_app (goodIn_of _ (by decide +kernel)) ggX8_counts_X8_size
theorem dX8_counts_0 : decode cX8_counts 0 = .ok (.iconst 0, 1) := by decide +kernel
theorem dX8_counts_1 : decode cX8_counts 1 = .ok (.istore_n 1, 1) := by decide +kernel
theorem dX8_counts_2 : decode cX8_counts 2 = .ok (.iload_n 1, 1) := by decide +kernel
theorem dX8_counts_3 : decode cX8_counts 3 = .ok (.aload_n 0, 1) := by decide +kernel
theorem dX8_counts_4 : decode cX8_counts 4 = .ok (.getfield 32, 3) := by decide +kernel
theorem dX8_counts_7 : decode cX8_counts 7 = .ok (.if_icmp .ge 16, 3) := by decide +kernel
theorem dX8_counts_10 : decode cX8_counts 10 = .ok (.aload_n 0, 1) := by decide +kernel
theorem dX8_counts_11 : decode cX8_counts 11 = .ok (.getfield 22, 3) := by decide +kernel
theorem dX8_counts_14 : decode cX8_counts 14 = .ok (.iload_n 1, 1) := by decide +kernel
theorem dX8_counts_15 : decode cX8_counts 15 = .ok (.iconst 0, 1) := by decide +kernel
theorem dX8_counts_16 : decode cX8_counts 16 = .ok (.iastore, 1) := by decide +kernel
theorem dX8_counts_17 : decode cX8_counts 17 = .ok (.iinc 1 1, 3) := by decide +kernel
theorem dX8_counts_20 : decode cX8_counts 20 = .ok (.goto (-18), 3) := by decide +kernel
theorem dX8_counts_23 : decode cX8_counts 23 = .ok (.iconst 0, 1) := by decide +kernel
theorem dX8_counts_24 : decode cX8_counts 24 = .ok (.istore_n 1, 1) := by decide +kernel
theorem dX8_counts_25 : decode cX8_counts 25 = .ok (.iload_n 1, 1) := by decide +kernel
theorem dX8_counts_26 : decode cX8_counts 26 = .ok (.sipush 1681, 3) := by decide +kernel
theorem dX8_counts_29 : decode cX8_counts 29 = .ok (.if_icmp .ge 37, 3) := by decide +kernel
theorem dX8_counts_32 : decode cX8_counts 32 = .ok (.aload_n 0, 1) := by decide +kernel
theorem dX8_counts_33 : decode cX8_counts 33 = .ok (.getfield 32, 3) := by decide +kernel
theorem dX8_counts_36 : decode cX8_counts 36 = .ok (.ifCond .le 30, 3) := by decide +kernel
theorem dX8_counts_39 : decode cX8_counts 39 = .ok (.aload_n 0, 1) := by decide +kernel
theorem dX8_counts_40 : decode cX8_counts 40 = .ok (.getfield 22, 3) := by decide +kernel
theorem dX8_counts_43 : decode cX8_counts 43 = .ok (.aload_n 0, 1) := by decide +kernel
theorem dX8_counts_44 : decode cX8_counts 44 = .ok (.iload_n 1, 1) := by decide +kernel
theorem dX8_counts_45 : decode cX8_counts 45 = .ok (.bipush 41, 2) := by decide +kernel
theorem dX8_counts_47 : decode cX8_counts 47 = .ok (.irem, 1) := by decide +kernel
theorem dX8_counts_48 : decode cX8_counts 48 = .ok (.iload_n 1, 1) := by decide +kernel
theorem dX8_counts_49 : decode cX8_counts 49 = .ok (.bipush 41, 2) := by decide +kernel
theorem dX8_counts_51 : decode cX8_counts 51 = .ok (.idiv, 1) := by decide +kernel
theorem dX8_counts_52 : decode cX8_counts 52 = .ok (.invokevirtual 47, 3) := by decide +kernel
theorem dX8_counts_55 : decode cX8_counts 55 = .ok (.dup2, 1) := by decide +kernel
theorem dX8_counts_56 : decode cX8_counts 56 = .ok (.iaload, 1) := by decide +kernel
theorem dX8_counts_57 : decode cX8_counts 57 = .ok (.iconst 1, 1) := by decide +kernel
theorem dX8_counts_58 : decode cX8_counts 58 = .ok (.iadd, 1) := by decide +kernel
theorem dX8_counts_59 : decode cX8_counts 59 = .ok (.iastore, 1) := by decide +kernel
theorem dX8_counts_60 : decode cX8_counts 60 = .ok (.iinc 1 1, 3) := by decide +kernel
theorem dX8_counts_63 : decode cX8_counts 63 = .ok (.goto (-38), 3) := by decide +kernel
theorem dX8_counts_66 : decode cX8_counts 66 = .ok (.iconst 0, 1) := by decide +kernel
theorem dX8_counts_67 : decode cX8_counts 67 = .ok (.istore_n 1, 1) := by decide +kernel
theorem dX8_counts_68 : decode cX8_counts 68 = .ok (.iconst 0, 1) := by decide +kernel
theorem dX8_counts_69 : decode cX8_counts 69 = .ok (.istore_n 2, 1) := by decide +kernel
theorem dX8_counts_70 : decode cX8_counts 70 = .ok (.iload_n 2, 1) := by decide +kernel
theorem dX8_counts_71 : decode cX8_counts 71 = .ok (.aload_n 0, 1) := by decide +kernel
theorem dX8_counts_72 : decode cX8_counts 72 = .ok (.getfield 32, 3) := by decide +kernel
theorem dX8_counts_75 : decode cX8_counts 75 = .ok (.if_icmp .ge 28, 3) := by decide +kernel
theorem dX8_counts_78 : decode cX8_counts 78 = .ok (.iload_n 1, 1) := by decide +kernel
theorem dX8_counts_79 : decode cX8_counts 79 = .ok (.aload_n 0, 1) := by decide +kernel
theorem dX8_counts_80 : decode cX8_counts 80 = .ok (.getfield 22, 3) := by decide +kernel
theorem dX8_counts_83 : decode cX8_counts 83 = .ok (.iload_n 2, 1) := by decide +kernel
theorem dX8_counts_84 : decode cX8_counts 84 = .ok (.iaload, 1) := by decide +kernel
theorem dX8_counts_85 : decode cX8_counts 85 = .ok (.aload_n 0, 1) := by decide +kernel
theorem dX8_counts_86 : decode cX8_counts 86 = .ok (.getfield 19, 3) := by decide +kernel
theorem dX8_counts_89 : decode cX8_counts 89 = .ok (.iload_n 2, 1) := by decide +kernel
theorem dX8_counts_90 : decode cX8_counts 90 = .ok (.iaload, 1) := by decide +kernel
theorem dX8_counts_91 : decode cX8_counts 91 = .ok (.isub, 1) := by decide +kernel
theorem dX8_counts_92 : decode cX8_counts 92 = .ok (.invokestatic 51, 3) := by decide +kernel
theorem dX8_counts_95 : decode cX8_counts 95 = .ok (.iadd, 1) := by decide +kernel
theorem dX8_counts_96 : decode cX8_counts 96 = .ok (.istore_n 1, 1) := by decide +kernel
theorem dX8_counts_97 : decode cX8_counts 97 = .ok (.iinc 2 1, 3) := by decide +kernel
theorem dX8_counts_100 : decode cX8_counts 100 = .ok (.goto (-30), 3) := by decide +kernel
theorem dX8_counts_103 : decode cX8_counts 103 = .ok (.iload_n 1, 1) := by decide +kernel
theorem dX8_counts_104 : decode cX8_counts 104 = .ok (.ireturn, 1) := by decide +kernel
set_option maxRecDepth 20000 in
theorem ggX8_balances_X8_counts : GoodIn wsX8_balances wsX8_counts := goodIn_r _ [9, 1, 2, 3, 10, 11, 12, 8, 13, 14, 15, 16, 17, 18, 19, 4, 20, 21, 22, 23, 24, 25, 26, 27, 28, 29, 30, 31, 32, 33, 34, 35, 36, 37, 38, 39] (by decide +kernel) (by decide +kernel)
set_option maxRecDepth 20000 in
theorem gX8_balances_X8_counts : GoodIn wsX8_balances (wsV RX8 55 RX8 yX8_counts wsX8_counts) := goodIn_app (goodIn_of _ (by decide +kernel)) ggX8_balances_X8_counts
theorem dX8_balances_0 : decode cX8_balances 0 = .ok (.aload_n 0, 1) := by decide +kernel
theorem dX8_balances_1 : decode cX8_balances 1 = .ok (.invokevirtual 55, 3) := by decide +kernel
theorem dX8_balances_4 : decode cX8_balances 4 = .ok (.istore_n 3, 1) := by decide +kernel
theorem dX8_balances_5 : decode cX8_balances 5 = .ok (.iconst 0, 1) := by decide +kernel
theorem dX8_balances_6 : decode cX8_balances 6 = .ok (.istore 4, 2) := by decide +kernel
theorem dX8_balances_8 : decode cX8_balances 8 = .ok (.iload 4, 2) := by decide +kernel
theorem dX8_balances_10 : decode cX8_balances 10 = .ok (.iload_n 2, 1) := by decide +kernel
theorem dX8_balances_11 : decode cX8_balances 11 = .ok (.if_icmp .ge 232, 3) := by decide +kernel
theorem dX8_balances_14 : decode cX8_balances 14 = .ok (.iconst 0, 1) := by decide +kernel
theorem dX8_balances_15 : decode cX8_balances 15 = .ok (.istore 5, 2) := by decide +kernel
theorem dX8_balances_17 : decode cX8_balances 17 = .ok (.iconst 0, 1) := by decide +kernel
theorem dX8_balances_18 : decode cX8_balances 18 = .ok (.istore 6, 2) := by decide +kernel
theorem dX8_balances_20 : decode cX8_balances 20 = .ok (.iconst 1, 1) := by decide +kernel
theorem dX8_balances_21 : decode cX8_balances 21 = .ok (.istore 7, 2) := by decide +kernel
theorem dX8_balances_23 : decode cX8_balances 23 = .ok (.iload 7, 2) := by decide +kernel
theorem dX8_balances_25 : decode cX8_balances 25 = .ok (.aload_n 0, 1) := by decide +kernel
theorem dX8_balances_26 : decode cX8_balances 26 = .ok (.getfield 32, 3) := by decide +kernel
theorem dX8_balances_29 : decode cX8_balances 29 = .ok (.if_icmp .ge 93, 3) := by decide +kernel
theorem dX8_balances_32 : decode cX8_balances 32 = .ok (.aload_n 0, 1) := by decide +kernel
theorem dX8_balances_33 : decode cX8_balances 33 = .ok (.getfield 22, 3) := by decide +kernel
theorem dX8_balances_36 : decode cX8_balances 36 = .ok (.iload 7, 2) := by decide +kernel
theorem dX8_balances_38 : decode cX8_balances 38 = .ok (.iaload, 1) := by decide +kernel
theorem dX8_balances_39 : decode cX8_balances 39 = .ok (.aload_n 0, 1) := by decide +kernel
theorem dX8_balances_40 : decode cX8_balances 40 = .ok (.getfield 19, 3) := by decide +kernel
theorem dX8_balances_43 : decode cX8_balances 43 = .ok (.iload 7, 2) := by decide +kernel
theorem dX8_balances_45 : decode cX8_balances 45 = .ok (.iaload, 1) := by decide +kernel
theorem dX8_balances_46 : decode cX8_balances 46 = .ok (.isub, 1) := by decide +kernel
theorem dX8_balances_47 : decode cX8_balances 47 = .ok (.aload_n 0, 1) := by decide +kernel
theorem dX8_balances_48 : decode cX8_balances 48 = .ok (.getfield 22, 3) := by decide +kernel
theorem dX8_balances_51 : decode cX8_balances 51 = .ok (.iload 5, 2) := by decide +kernel
theorem dX8_balances_53 : decode cX8_balances 53 = .ok (.iaload, 1) := by decide +kernel
theorem dX8_balances_54 : decode cX8_balances 54 = .ok (.aload_n 0, 1) := by decide +kernel
theorem dX8_balances_55 : decode cX8_balances 55 = .ok (.getfield 19, 3) := by decide +kernel
theorem dX8_balances_58 : decode cX8_balances 58 = .ok (.iload 5, 2) := by decide +kernel
theorem dX8_balances_60 : decode cX8_balances 60 = .ok (.iaload, 1) := by decide +kernel
theorem dX8_balances_61 : decode cX8_balances 61 = .ok (.isub, 1) := by decide +kernel
theorem dX8_balances_62 : decode cX8_balances 62 = .ok (.if_icmp .le 8, 3) := by decide +kernel
theorem dX8_balances_65 : decode cX8_balances 65 = .ok (.iload 7, 2) := by decide +kernel
theorem dX8_balances_67 : decode cX8_balances 67 = .ok (.goto 5, 3) := by decide +kernel
theorem dX8_balances_70 : decode cX8_balances 70 = .ok (.iload 5, 2) := by decide +kernel
theorem dX8_balances_72 : decode cX8_balances 72 = .ok (.istore 5, 2) := by decide +kernel
theorem dX8_balances_74 : decode cX8_balances 74 = .ok (.aload_n 0, 1) := by decide +kernel
theorem dX8_balances_75 : decode cX8_balances 75 = .ok (.getfield 22, 3) := by decide +kernel
theorem dX8_balances_78 : decode cX8_balances 78 = .ok (.iload 7, 2) := by decide +kernel
theorem dX8_balances_80 : decode cX8_balances 80 = .ok (.iaload, 1) := by decide +kernel
theorem dX8_balances_81 : decode cX8_balances 81 = .ok (.aload_n 0, 1) := by decide +kernel
theorem dX8_balances_82 : decode cX8_balances 82 = .ok (.getfield 19, 3) := by decide +kernel
theorem dX8_balances_85 : decode cX8_balances 85 = .ok (.iload 7, 2) := by decide +kernel
theorem dX8_balances_87 : decode cX8_balances 87 = .ok (.iaload, 1) := by decide +kernel
theorem dX8_balances_88 : decode cX8_balances 88 = .ok (.isub, 1) := by decide +kernel
theorem dX8_balances_89 : decode cX8_balances 89 = .ok (.aload_n 0, 1) := by decide +kernel
theorem dX8_balances_90 : decode cX8_balances 90 = .ok (.getfield 22, 3) := by decide +kernel
theorem dX8_balances_93 : decode cX8_balances 93 = .ok (.iload 6, 2) := by decide +kernel
theorem dX8_balances_95 : decode cX8_balances 95 = .ok (.iaload, 1) := by decide +kernel
theorem dX8_balances_96 : decode cX8_balances 96 = .ok (.aload_n 0, 1) := by decide +kernel
theorem dX8_balances_97 : decode cX8_balances 97 = .ok (.getfield 19, 3) := by decide +kernel
theorem dX8_balances_100 : decode cX8_balances 100 = .ok (.iload 6, 2) := by decide +kernel
theorem dX8_balances_102 : decode cX8_balances 102 = .ok (.iaload, 1) := by decide +kernel
theorem dX8_balances_103 : decode cX8_balances 103 = .ok (.isub, 1) := by decide +kernel
theorem dX8_balances_104 : decode cX8_balances 104 = .ok (.if_icmp .ge 8, 3) := by decide +kernel
theorem dX8_balances_107 : decode cX8_balances 107 = .ok (.iload 7, 2) := by decide +kernel
theorem dX8_balances_109 : decode cX8_balances 109 = .ok (.goto 5, 3) := by decide +kernel
theorem dX8_balances_112 : decode cX8_balances 112 = .ok (.iload 6, 2) := by decide +kernel
theorem dX8_balances_114 : decode cX8_balances 114 = .ok (.istore 6, 2) := by decide +kernel
theorem dX8_balances_116 : decode cX8_balances 116 = .ok (.iinc 7 1, 3) := by decide +kernel
theorem dX8_balances_119 : decode cX8_balances 119 = .ok (.goto (-96), 3) := by decide +kernel
theorem dX8_balances_122 : decode cX8_balances 122 = .ok (.aload_n 0, 1) := by decide +kernel
theorem dX8_balances_123 : decode cX8_balances 123 = .ok (.getfield 16, 3) := by decide +kernel
theorem dX8_balances_126 : decode cX8_balances 126 = .ok (.iload 5, 2) := by decide +kernel
theorem dX8_balances_128 : decode cX8_balances 128 = .ok (.iaload, 1) := by decide +kernel
theorem dX8_balances_129 : decode cX8_balances 129 = .ok (.istore 7, 2) := by decide +kernel
theorem dX8_balances_131 : decode cX8_balances 131 = .ok (.aload_n 0, 1) := by decide +kernel
theorem dX8_balances_132 : decode cX8_balances 132 = .ok (.getfield 16, 3) := by decide +kernel
theorem dX8_balances_135 : decode cX8_balances 135 = .ok (.iload 6, 2) := by decide +kernel
theorem dX8_balances_137 : decode cX8_balances 137 = .ok (.iaload, 1) := by decide +kernel
theorem dX8_balances_138 : decode cX8_balances 138 = .ok (.istore 8, 2) := by decide +kernel
theorem dX8_balances_140 : decode cX8_balances 140 = .ok (.iload 5, 2) := by decide +kernel
theorem dX8_balances_142 : decode cX8_balances 142 = .ok (.iload 6, 2) := by decide +kernel
theorem dX8_balances_144 : decode cX8_balances 144 = .ok (.if_icmp .eq 57, 3) := by decide +kernel
theorem dX8_balances_147 : decode cX8_balances 147 = .ok (.aload_n 0, 1) := by decide +kernel
theorem dX8_balances_148 : decode cX8_balances 148 = .ok (.getfield 16, 3) := by decide +kernel
theorem dX8_balances_151 : decode cX8_balances 151 = .ok (.iload 5, 2) := by decide +kernel
theorem dX8_balances_153 : decode cX8_balances 153 = .ok (.iload 7, 2) := by decide +kernel
theorem dX8_balances_155 : decode cX8_balances 155 = .ok (.iload_n 1, 1) := by decide +kernel
theorem dX8_balances_156 : decode cX8_balances 156 = .ok (.isub, 1) := by decide +kernel
theorem dX8_balances_157 : decode cX8_balances 157 = .ok (.sipush (-999), 3) := by decide +kernel
theorem dX8_balances_160 : decode cX8_balances 160 = .ok (.if_icmp .ge 9, 3) := by decide +kernel
theorem dX8_balances_163 : decode cX8_balances 163 = .ok (.sipush (-999), 3) := by decide +kernel
theorem dX8_balances_166 : decode cX8_balances 166 = .ok (.goto 7, 3) := by decide +kernel
theorem dX8_balances_169 : decode cX8_balances 169 = .ok (.iload 7, 2) := by decide +kernel
theorem dX8_balances_171 : decode cX8_balances 171 = .ok (.iload_n 1, 1) := by decide +kernel
theorem dX8_balances_172 : decode cX8_balances 172 = .ok (.isub, 1) := by decide +kernel
theorem dX8_balances_173 : decode cX8_balances 173 = .ok (.iastore, 1) := by decide +kernel
theorem dX8_balances_174 : decode cX8_balances 174 = .ok (.aload_n 0, 1) := by decide +kernel
theorem dX8_balances_175 : decode cX8_balances 175 = .ok (.getfield 16, 3) := by decide +kernel
theorem dX8_balances_178 : decode cX8_balances 178 = .ok (.iload 6, 2) := by decide +kernel
theorem dX8_balances_180 : decode cX8_balances 180 = .ok (.iload 8, 2) := by decide +kernel
theorem dX8_balances_182 : decode cX8_balances 182 = .ok (.iload_n 1, 1) := by decide +kernel
theorem dX8_balances_183 : decode cX8_balances 183 = .ok (.iadd, 1) := by decide +kernel
theorem dX8_balances_184 : decode cX8_balances 184 = .ok (.sipush 999, 3) := by decide +kernel
theorem dX8_balances_187 : decode cX8_balances 187 = .ok (.if_icmp .le 9, 3) := by decide +kernel
theorem dX8_balances_190 : decode cX8_balances 190 = .ok (.sipush 999, 3) := by decide +kernel
theorem dX8_balances_193 : decode cX8_balances 193 = .ok (.goto 7, 3) := by decide +kernel
theorem dX8_balances_196 : decode cX8_balances 196 = .ok (.iload 8, 2) := by decide +kernel
theorem dX8_balances_198 : decode cX8_balances 198 = .ok (.iload_n 1, 1) := by decide +kernel
theorem dX8_balances_199 : decode cX8_balances 199 = .ok (.iadd, 1) := by decide +kernel
theorem dX8_balances_200 : decode cX8_balances 200 = .ok (.iastore, 1) := by decide +kernel
theorem dX8_balances_201 : decode cX8_balances 201 = .ok (.aload_n 0, 1) := by decide +kernel
theorem dX8_balances_202 : decode cX8_balances 202 = .ok (.invokevirtual 55, 3) := by decide +kernel
theorem dX8_balances_205 : decode cX8_balances 205 = .ok (.istore 9, 2) := by decide +kernel
theorem dX8_balances_207 : decode cX8_balances 207 = .ok (.iload 9, 2) := by decide +kernel
theorem dX8_balances_209 : decode cX8_balances 209 = .ok (.iload_n 3, 1) := by decide +kernel
theorem dX8_balances_210 : decode cX8_balances 210 = .ok (.if_icmp .lt 24, 3) := by decide +kernel
theorem dX8_balances_213 : decode cX8_balances 213 = .ok (.aload_n 0, 1) := by decide +kernel
theorem dX8_balances_214 : decode cX8_balances 214 = .ok (.getfield 16, 3) := by decide +kernel
theorem dX8_balances_217 : decode cX8_balances 217 = .ok (.iload 5, 2) := by decide +kernel
theorem dX8_balances_219 : decode cX8_balances 219 = .ok (.iload 7, 2) := by decide +kernel
theorem dX8_balances_221 : decode cX8_balances 221 = .ok (.iastore, 1) := by decide +kernel
theorem dX8_balances_222 : decode cX8_balances 222 = .ok (.aload_n 0, 1) := by decide +kernel
theorem dX8_balances_223 : decode cX8_balances 223 = .ok (.getfield 16, 3) := by decide +kernel
theorem dX8_balances_226 : decode cX8_balances 226 = .ok (.iload 6, 2) := by decide +kernel
theorem dX8_balances_228 : decode cX8_balances 228 = .ok (.iload 8, 2) := by decide +kernel
theorem dX8_balances_230 : decode cX8_balances 230 = .ok (.iastore, 1) := by decide +kernel
theorem dX8_balances_231 : decode cX8_balances 231 = .ok (.iload 4, 2) := by decide +kernel
theorem dX8_balances_233 : decode cX8_balances 233 = .ok (.ireturn, 1) := by decide +kernel
theorem dX8_balances_234 : decode cX8_balances 234 = .ok (.iload 9, 2) := by decide +kernel
theorem dX8_balances_236 : decode cX8_balances 236 = .ok (.istore_n 3, 1) := by decide +kernel
theorem dX8_balances_237 : decode cX8_balances 237 = .ok (.iinc 4 1, 3) := by decide +kernel
theorem dX8_balances_240 : decode cX8_balances 240 = .ok (.goto (-232), 3) := by decide +kernel
theorem dX8_balances_243 : decode cX8_balances 243 = .ok (.iload_n 2, 1) := by decide +kernel
theorem dX8_balances_244 : decode cX8_balances 244 = .ok (.ireturn, 1) := by decide +kernel
set_option maxRecDepth 20000 in
theorem ggX8_misses_X8_in : GoodIn wsX8_misses wsX8_in := goodIn_r _ [5] (by decide +kernel) (by decide +kernel)
set_option maxRecDepth 20000 in
theorem gX8_misses_X8_in : GoodIn wsX8_misses (va_wsS RX8 35 yX8_in wsX8_in) := goodIn_app (goodIn_of _ (by decide +kernel)) ggX8_misses_X8_in
theorem dX8_misses_0 : decode cX8_misses 0 = .ok (.iload_n 1, 1) := by decide +kernel
theorem dX8_misses_1 : decode cX8_misses 1 = .ok (.iconst 1, 1) := by decide +kernel
theorem dX8_misses_2 : decode cX8_misses 2 = .ok (.sipush 999, 3) := by decide +kernel
theorem dX8_misses_5 : decode cX8_misses 5 = .ok (.invokestatic 35, 3) := by decide +kernel
theorem dX8_misses_8 : decode cX8_misses 8 = .ok (.ifCond .eq 13, 3) := by decide +kernel
theorem dX8_misses_11 : decode cX8_misses 11 = .ok (.iload_n 2, 1) := by decide +kernel
theorem dX8_misses_12 : decode cX8_misses 12 = .ok (.iconst 1, 1) := by decide +kernel
theorem dX8_misses_13 : decode cX8_misses 13 = .ok (.bipush 20, 2) := by decide +kernel
theorem dX8_misses_15 : decode cX8_misses 15 = .ok (.invokestatic 35, 3) := by decide +kernel
theorem dX8_misses_18 : decode cX8_misses 18 = .ok (.ifCond .ne 7, 3) := by decide +kernel
theorem dX8_misses_21 : decode cX8_misses 21 = .ok (.iconst 1, 1) := by decide +kernel
theorem dX8_misses_22 : decode cX8_misses 22 = .ok (.goto 15, 3) := by decide +kernel
theorem dX8_misses_25 : decode cX8_misses 25 = .ok (.aload_n 0, 1) := by decide +kernel
theorem dX8_misses_26 : decode cX8_misses 26 = .ok (.getfield 32, 3) := by decide +kernel
theorem dX8_misses_29 : decode cX8_misses 29 = .ok (.ifCond .ne 7, 3) := by decide +kernel
theorem dX8_misses_32 : decode cX8_misses 32 = .ok (.iconst 2, 1) := by decide +kernel
theorem dX8_misses_33 : decode cX8_misses 33 = .ok (.goto 4, 3) := by decide +kernel
theorem dX8_misses_36 : decode cX8_misses 36 = .ok (.iconst 0, 1) := by decide +kernel
theorem dX8_misses_37 : decode cX8_misses 37 = .ok (.ireturn, 1) := by decide +kernel
set_option maxRecDepth 20000 in
theorem ggX8_balance_X8_misses : GoodIn wsX8_balance wsX8_misses := goodIn_r _ [6, 7, 8, 9, 5, 10, 35, 36, 37, 38, 39, 40, 41, 42, 43, 44, 45, 46, 47, 48, 49, 50, 51] (by decide +kernel) (by decide +kernel)
set_option maxRecDepth 20000 in
theorem gX8_balance_X8_misses : GoodIn wsX8_balance (wsV RX8 59 RX8 yX8_misses wsX8_misses) := goodIn_app (goodIn_of _ (by decide +kernel)) ggX8_balance_X8_misses
set_option maxRecDepth 20000 in
theorem ggX8_balance_X8_balances : GoodIn wsX8_balance wsX8_balances := goodIn_r _ [14, 7, 15, 16, 17, 18, 19, 20, 5, 21, 22, 23, 24, 25, 26, 27, 28, 29, 30, 31, 32, 33, 34, 35, 36, 37, 38, 39, 40, 41, 42, 43, 44, 45, 46, 47, 48, 49, 50, 51] (by decide +kernel) (by decide +kernel)
set_option maxRecDepth 20000 in
theorem gX8_balance_X8_balances : GoodIn wsX8_balance (wsV RX8 62 RX8 yX8_balances wsX8_balances) := goodIn_app (goodIn_of _ (by decide +kernel)) ggX8_balance_X8_balances
theorem dX8_balance_0 : decode cX8_balance 0 = .ok (.aload_n 0, 1) := by decide +kernel
theorem dX8_balance_1 : decode cX8_balance 1 = .ok (.aload_n 0, 1) := by decide +kernel
theorem dX8_balance_2 : decode cX8_balance 2 = .ok (.iload_n 1, 1) := by decide +kernel
theorem dX8_balance_3 : decode cX8_balance 3 = .ok (.iload_n 2, 1) := by decide +kernel
theorem dX8_balance_4 : decode cX8_balance 4 = .ok (.invokevirtual 59, 3) := by decide +kernel
theorem dX8_balance_7 : decode cX8_balance 7 = .ok (.putfield 28, 3) := by decide +kernel
theorem dX8_balance_10 : decode cX8_balance 10 = .ok (.aload_n 0, 1) := by decide +kernel
theorem dX8_balance_11 : decode cX8_balance 11 = .ok (.getfield 28, 3) := by decide +kernel
theorem dX8_balance_14 : decode cX8_balance 14 = .ok (.ifCond .le 7, 3) := by decide +kernel
theorem dX8_balance_17 : decode cX8_balance 17 = .ok (.iconst 0, 1) := by decide +kernel
theorem dX8_balance_18 : decode cX8_balance 18 = .ok (.goto 9, 3) := by decide +kernel
theorem dX8_balance_21 : decode cX8_balance 21 = .ok (.aload_n 0, 1) := by decide +kernel
theorem dX8_balance_22 : decode cX8_balance 22 = .ok (.iload_n 1, 1) := by decide +kernel
theorem dX8_balance_23 : decode cX8_balance 23 = .ok (.iload_n 2, 1) := by decide +kernel
theorem dX8_balance_24 : decode cX8_balance 24 = .ok (.invokevirtual 62, 3) := by decide +kernel
theorem dX8_balance_27 : decode cX8_balance 27 = .ok (.ireturn, 1) := by decide +kernel
theorem dX8_sites_0 : decode cX8_sites 0 = .ok (.aload_n 0, 1) := by decide +kernel
theorem dX8_sites_1 : decode cX8_sites 1 = .ok (.iconst 0, 1) := by decide +kernel
theorem dX8_sites_2 : decode cX8_sites 2 = .ok (.putfield 28, 3) := by decide +kernel
theorem dX8_sites_5 : decode cX8_sites 5 = .ok (.aload_n 0, 1) := by decide +kernel
theorem dX8_sites_6 : decode cX8_sites 6 = .ok (.getfield 32, 3) := by decide +kernel
theorem dX8_sites_9 : decode cX8_sites 9 = .ok (.ireturn, 1) := by decide +kernel
theorem dX8_height_0 : decode cX8_height 0 = .ok (.aload_n 0, 1) := by decide +kernel
theorem dX8_height_1 : decode cX8_height 1 = .ok (.getfield 7, 3) := by decide +kernel
theorem dX8_height_4 : decode cX8_height 4 = .ok (.iload_n 1, 1) := by decide +kernel
theorem dX8_height_5 : decode cX8_height 5 = .ok (.iaload, 1) := by decide +kernel
theorem dX8_height_6 : decode cX8_height 6 = .ok (.aload_n 0, 1) := by decide +kernel
theorem dX8_height_7 : decode cX8_height 7 = .ok (.getfield 7, 3) := by decide +kernel
theorem dX8_height_10 : decode cX8_height 10 = .ok (.iload_n 1, 1) := by decide +kernel
theorem dX8_height_11 : decode cX8_height 11 = .ok (.iaload, 1) := by decide +kernel
theorem dX8_height_12 : decode cX8_height 12 = .ok (.imul, 1) := by decide +kernel
theorem dX8_height_13 : decode cX8_height 13 = .ok (.aload_n 0, 1) := by decide +kernel
theorem dX8_height_14 : decode cX8_height 14 = .ok (.getfield 13, 3) := by decide +kernel
theorem dX8_height_17 : decode cX8_height 17 = .ok (.iload_n 1, 1) := by decide +kernel
theorem dX8_height_18 : decode cX8_height 18 = .ok (.iaload, 1) := by decide +kernel
theorem dX8_height_19 : decode cX8_height 19 = .ok (.aload_n 0, 1) := by decide +kernel
theorem dX8_height_20 : decode cX8_height 20 = .ok (.getfield 13, 3) := by decide +kernel
theorem dX8_height_23 : decode cX8_height 23 = .ok (.iload_n 1, 1) := by decide +kernel
theorem dX8_height_24 : decode cX8_height 24 = .ok (.iaload, 1) := by decide +kernel
theorem dX8_height_25 : decode cX8_height 25 = .ok (.imul, 1) := by decide +kernel
theorem dX8_height_26 : decode cX8_height 26 = .ok (.iadd, 1) := by decide +kernel
theorem dX8_height_27 : decode cX8_height 27 = .ok (.aload_n 0, 1) := by decide +kernel
theorem dX8_height_28 : decode cX8_height 28 = .ok (.getfield 16, 3) := by decide +kernel
theorem dX8_height_31 : decode cX8_height 31 = .ok (.iload_n 1, 1) := by decide +kernel
theorem dX8_height_32 : decode cX8_height 32 = .ok (.iaload, 1) := by decide +kernel
theorem dX8_height_33 : decode cX8_height 33 = .ok (.isub, 1) := by decide +kernel
theorem dX8_height_34 : decode cX8_height 34 = .ok (.ireturn, 1) := by decide +kernel
set_option maxRecDepth 20000 in
theorem ggX8_ofSite_X8_isSite : GoodIn wsX8_ofSite wsX8_isSite := goodIn_r _ [11, 12, 13, 14, 10, 15, 35, 36, 37, 38, 39, 40, 41, 42, 43, 44, 45, 46, 47, 48, 49, 50, 51] (by decide +kernel) (by decide +kernel)
set_option maxRecDepth 20000 in
theorem gX8_ofSite_X8_isSite : GoodIn wsX8_ofSite (wsV RX8 39 RX8 yX8_isSite wsX8_isSite) := goodIn_app (goodIn_of _ (by decide +kernel)) ggX8_ofSite_X8_isSite
set_option maxRecDepth 20000 in
theorem ggX8_ofSite_X8_in : GoodIn wsX8_ofSite wsX8_in := goodIn_r _ [15] (by decide +kernel) (by decide +kernel)
set_option maxRecDepth 20000 in
theorem gX8_ofSite_X8_in : GoodIn wsX8_ofSite (va_wsS RX8 35 yX8_in wsX8_in) := goodIn_app (goodIn_of _ (by decide +kernel)) ggX8_ofSite_X8_in
set_option maxRecDepth 20000 in
theorem ggX8_ofSite_X8_counts : GoodIn wsX8_ofSite wsX8_counts := goodIn_r _ [19, 12, 6, 5, 20, 21, 22, 10, 23, 24, 25, 26, 27, 2, 3, 4, 28, 29, 30, 35, 36, 37, 38, 39, 40, 41, 42, 43, 44, 45, 46, 47, 48, 49, 50, 51] (by decide +kernel) (by decide +kernel)
set_option maxRecDepth 20000 in
theorem gX8_ofSite_X8_counts : GoodIn wsX8_ofSite (wsV RX8 55 RX8 yX8_counts wsX8_counts) := goodIn_app (goodIn_of _ (by decide +kernel)) ggX8_ofSite_X8_counts
set_option maxRecDepth 20000 in
theorem ggX8_ofSite_X8_height : GoodIn wsX8_ofSite wsX8_height := goodIn_r _ [34, 2, 3, 4, 35, 36, 37, 38, 39, 40, 41, 42, 43, 44, 45, 46, 47, 48, 49, 50, 51] (by decide +kernel) (by decide +kernel)
set_option maxRecDepth 20000 in
theorem gX8_ofSite_X8_height : GoodIn wsX8_ofSite (wsV RX8 65 RX8 yX8_height wsX8_height) := goodIn_app (goodIn_of _ (by decide +kernel)) ggX8_ofSite_X8_height
theorem dX8_ofSite_0 : decode cX8_ofSite 0 = .ok (.aload_n 0, 1) := by decide +kernel
theorem dX8_ofSite_1 : decode cX8_ofSite 1 = .ok (.aload_n 0, 1) := by decide +kernel
theorem dX8_ofSite_2 : decode cX8_ofSite 2 = .ok (.iload_n 1, 1) := by decide +kernel
theorem dX8_ofSite_3 : decode cX8_ofSite 3 = .ok (.invokevirtual 39, 3) := by decide +kernel
theorem dX8_ofSite_6 : decode cX8_ofSite 6 = .ok (.ifCond .ne 7, 3) := by decide +kernel
theorem dX8_ofSite_9 : decode cX8_ofSite 9 = .ok (.iconst 1, 1) := by decide +kernel
theorem dX8_ofSite_10 : decode cX8_ofSite 10 = .ok (.goto 17, 3) := by decide +kernel
theorem dX8_ofSite_13 : decode cX8_ofSite 13 = .ok (.iload_n 2, 1) := by decide +kernel
theorem dX8_ofSite_14 : decode cX8_ofSite 14 = .ok (.iconst 0, 1) := by decide +kernel
theorem dX8_ofSite_15 : decode cX8_ofSite 15 = .ok (.iconst 5, 1) := by decide +kernel
theorem dX8_ofSite_16 : decode cX8_ofSite 16 = .ok (.invokestatic 35, 3) := by decide +kernel
theorem dX8_ofSite_19 : decode cX8_ofSite 19 = .ok (.ifCond .ne 7, 3) := by decide +kernel
theorem dX8_ofSite_22 : decode cX8_ofSite 22 = .ok (.iconst 2, 1) := by decide +kernel
theorem dX8_ofSite_23 : decode cX8_ofSite 23 = .ok (.goto 4, 3) := by decide +kernel
theorem dX8_ofSite_26 : decode cX8_ofSite 26 = .ok (.iconst 0, 1) := by decide +kernel
theorem dX8_ofSite_27 : decode cX8_ofSite 27 = .ok (.putfield 28, 3) := by decide +kernel
theorem dX8_ofSite_30 : decode cX8_ofSite 30 = .ok (.aload_n 0, 1) := by decide +kernel
theorem dX8_ofSite_31 : decode cX8_ofSite 31 = .ok (.getfield 28, 3) := by decide +kernel
theorem dX8_ofSite_34 : decode cX8_ofSite 34 = .ok (.ifCond .le 5, 3) := by decide +kernel
theorem dX8_ofSite_37 : decode cX8_ofSite 37 = .ok (.iconst 0, 1) := by decide +kernel
theorem dX8_ofSite_38 : decode cX8_ofSite 38 = .ok (.ireturn, 1) := by decide +kernel
theorem dX8_ofSite_39 : decode cX8_ofSite 39 = .ok (.aload_n 0, 1) := by decide +kernel
theorem dX8_ofSite_40 : decode cX8_ofSite 40 = .ok (.invokevirtual 55, 3) := by decide +kernel
theorem dX8_ofSite_43 : decode cX8_ofSite 43 = .ok (.pop, 1) := by decide +kernel
theorem dX8_ofSite_44 : decode cX8_ofSite 44 = .ok (.iload_n 2, 1) := by decide +kernel
theorem dX8_ofSite_45 : decode cX8_ofSite 45 = .ok (.tableswitch 69 0 4 #[35, 42, 49, 56, 63], 35) := by decide +kernel
theorem dX8_ofSite_80 : decode cX8_ofSite 80 = .ok (.aload_n 0, 1) := by decide +kernel
theorem dX8_ofSite_81 : decode cX8_ofSite 81 = .ok (.getfield 7, 3) := by decide +kernel
theorem dX8_ofSite_84 : decode cX8_ofSite 84 = .ok (.iload_n 1, 1) := by decide +kernel
theorem dX8_ofSite_85 : decode cX8_ofSite 85 = .ok (.iaload, 1) := by decide +kernel
theorem dX8_ofSite_86 : decode cX8_ofSite 86 = .ok (.ireturn, 1) := by decide +kernel
theorem dX8_ofSite_87 : decode cX8_ofSite 87 = .ok (.aload_n 0, 1) := by decide +kernel
theorem dX8_ofSite_88 : decode cX8_ofSite 88 = .ok (.getfield 13, 3) := by decide +kernel
theorem dX8_ofSite_91 : decode cX8_ofSite 91 = .ok (.iload_n 1, 1) := by decide +kernel
theorem dX8_ofSite_92 : decode cX8_ofSite 92 = .ok (.iaload, 1) := by decide +kernel
theorem dX8_ofSite_93 : decode cX8_ofSite 93 = .ok (.ireturn, 1) := by decide +kernel
theorem dX8_ofSite_94 : decode cX8_ofSite 94 = .ok (.aload_n 0, 1) := by decide +kernel
theorem dX8_ofSite_95 : decode cX8_ofSite 95 = .ok (.getfield 16, 3) := by decide +kernel
theorem dX8_ofSite_98 : decode cX8_ofSite 98 = .ok (.iload_n 1, 1) := by decide +kernel
theorem dX8_ofSite_99 : decode cX8_ofSite 99 = .ok (.iaload, 1) := by decide +kernel
theorem dX8_ofSite_100 : decode cX8_ofSite 100 = .ok (.ireturn, 1) := by decide +kernel
theorem dX8_ofSite_101 : decode cX8_ofSite 101 = .ok (.aload_n 0, 1) := by decide +kernel
theorem dX8_ofSite_102 : decode cX8_ofSite 102 = .ok (.getfield 19, 3) := by decide +kernel
theorem dX8_ofSite_105 : decode cX8_ofSite 105 = .ok (.iload_n 1, 1) := by decide +kernel
theorem dX8_ofSite_106 : decode cX8_ofSite 106 = .ok (.iaload, 1) := by decide +kernel
theorem dX8_ofSite_107 : decode cX8_ofSite 107 = .ok (.ireturn, 1) := by decide +kernel
theorem dX8_ofSite_108 : decode cX8_ofSite 108 = .ok (.aload_n 0, 1) := by decide +kernel
theorem dX8_ofSite_109 : decode cX8_ofSite 109 = .ok (.iload_n 1, 1) := by decide +kernel
theorem dX8_ofSite_110 : decode cX8_ofSite 110 = .ok (.invokevirtual 65, 3) := by decide +kernel
theorem dX8_ofSite_113 : decode cX8_ofSite 113 = .ok (.ireturn, 1) := by decide +kernel
theorem dX8_ofSite_114 : decode cX8_ofSite 114 = .ok (.aload_n 0, 1) := by decide +kernel
theorem dX8_ofSite_115 : decode cX8_ofSite 115 = .ok (.getfield 22, 3) := by decide +kernel
theorem dX8_ofSite_118 : decode cX8_ofSite 118 = .ok (.iload_n 1, 1) := by decide +kernel
theorem dX8_ofSite_119 : decode cX8_ofSite 119 = .ok (.iaload, 1) := by decide +kernel
theorem dX8_ofSite_120 : decode cX8_ofSite 120 = .ok (.aload_n 0, 1) := by decide +kernel
theorem dX8_ofSite_121 : decode cX8_ofSite 121 = .ok (.getfield 19, 3) := by decide +kernel
theorem dX8_ofSite_124 : decode cX8_ofSite 124 = .ok (.iload_n 1, 1) := by decide +kernel
theorem dX8_ofSite_125 : decode cX8_ofSite 125 = .ok (.iaload, 1) := by decide +kernel
theorem dX8_ofSite_126 : decode cX8_ofSite 126 = .ok (.isub, 1) := by decide +kernel
theorem dX8_ofSite_127 : decode cX8_ofSite 127 = .ok (.ireturn, 1) := by decide +kernel
set_option maxRecDepth 20000 in
theorem ggX8_power_X8_isSite : GoodIn wsX8_power wsX8_isSite := goodIn_r _ [6, 7, 8, 9, 5, 10, 18, 19, 20, 21, 22, 23, 24, 25, 26, 27, 28, 29, 30, 31, 32, 33, 34] (by decide +kernel) (by decide +kernel)
set_option maxRecDepth 20000 in
theorem gX8_power_X8_isSite : GoodIn wsX8_power (wsV RX8 39 RX8 yX8_isSite wsX8_isSite) := goodIn_app (goodIn_of _ (by decide +kernel)) ggX8_power_X8_isSite
set_option maxRecDepth 20000 in
theorem ggX8_power_X8_in : GoodIn wsX8_power wsX8_in := goodIn_r _ [10] (by decide +kernel) (by decide +kernel)
set_option maxRecDepth 20000 in
theorem gX8_power_X8_in : GoodIn wsX8_power (va_wsS RX8 35 yX8_in wsX8_in) := goodIn_app (goodIn_of _ (by decide +kernel)) ggX8_power_X8_in
set_option maxRecDepth 20000 in
theorem ggX8_power_X8_powerOf : GoodIn wsX8_power wsX8_powerOf := goodIn_r _ [14, 15, 16, 17, 18, 19, 20, 21, 22, 23, 24, 25, 26, 27, 28, 29, 30, 31, 32, 33, 34] (by decide +kernel) (by decide +kernel)
set_option maxRecDepth 20000 in
theorem gX8_power_X8_powerOf : GoodIn wsX8_power (wsV RX8 43 RX8 yX8_powerOf wsX8_powerOf) := goodIn_app (goodIn_of _ (by decide +kernel)) ggX8_power_X8_powerOf
theorem dX8_power_0 : decode cX8_power 0 = .ok (.aload_n 0, 1) := by decide +kernel
theorem dX8_power_1 : decode cX8_power 1 = .ok (.aload_n 0, 1) := by decide +kernel
theorem dX8_power_2 : decode cX8_power 2 = .ok (.iload_n 1, 1) := by decide +kernel
theorem dX8_power_3 : decode cX8_power 3 = .ok (.invokevirtual 39, 3) := by decide +kernel
theorem dX8_power_6 : decode cX8_power 6 = .ok (.ifCond .ne 7, 3) := by decide +kernel
theorem dX8_power_9 : decode cX8_power 9 = .ok (.iconst 1, 1) := by decide +kernel
theorem dX8_power_10 : decode cX8_power 10 = .ok (.goto 28, 3) := by decide +kernel
theorem dX8_power_13 : decode cX8_power 13 = .ok (.iload_n 2, 1) := by decide +kernel
theorem dX8_power_14 : decode cX8_power 14 = .ok (.iconst 0, 1) := by decide +kernel
theorem dX8_power_15 : decode cX8_power 15 = .ok (.bipush 40, 2) := by decide +kernel
theorem dX8_power_17 : decode cX8_power 17 = .ok (.invokestatic 35, 3) := by decide +kernel
theorem dX8_power_20 : decode cX8_power 20 = .ok (.ifCond .eq 13, 3) := by decide +kernel
theorem dX8_power_23 : decode cX8_power 23 = .ok (.iload_n 3, 1) := by decide +kernel
theorem dX8_power_24 : decode cX8_power 24 = .ok (.iconst 0, 1) := by decide +kernel
theorem dX8_power_25 : decode cX8_power 25 = .ok (.bipush 40, 2) := by decide +kernel
theorem dX8_power_27 : decode cX8_power 27 = .ok (.invokestatic 35, 3) := by decide +kernel
theorem dX8_power_30 : decode cX8_power 30 = .ok (.ifCond .ne 7, 3) := by decide +kernel
theorem dX8_power_33 : decode cX8_power 33 = .ok (.iconst 2, 1) := by decide +kernel
theorem dX8_power_34 : decode cX8_power 34 = .ok (.goto 4, 3) := by decide +kernel
theorem dX8_power_37 : decode cX8_power 37 = .ok (.iconst 0, 1) := by decide +kernel
theorem dX8_power_38 : decode cX8_power 38 = .ok (.putfield 28, 3) := by decide +kernel
theorem dX8_power_41 : decode cX8_power 41 = .ok (.aload_n 0, 1) := by decide +kernel
theorem dX8_power_42 : decode cX8_power 42 = .ok (.getfield 28, 3) := by decide +kernel
theorem dX8_power_45 : decode cX8_power 45 = .ok (.ifCond .le 7, 3) := by decide +kernel
theorem dX8_power_48 : decode cX8_power 48 = .ok (.iconst 0, 1) := by decide +kernel
theorem dX8_power_49 : decode cX8_power 49 = .ok (.goto 10, 3) := by decide +kernel
theorem dX8_power_52 : decode cX8_power 52 = .ok (.aload_n 0, 1) := by decide +kernel
theorem dX8_power_53 : decode cX8_power 53 = .ok (.iload_n 1, 1) := by decide +kernel
theorem dX8_power_54 : decode cX8_power 54 = .ok (.iload_n 2, 1) := by decide +kernel
theorem dX8_power_55 : decode cX8_power 55 = .ok (.iload_n 3, 1) := by decide +kernel
theorem dX8_power_56 : decode cX8_power 56 = .ok (.invokevirtual 43, 3) := by decide +kernel
theorem dX8_power_59 : decode cX8_power 59 = .ok (.ireturn, 1) := by decide +kernel
set_option maxRecDepth 20000 in
theorem ggX8_owner_X8_in : GoodIn wsX8_owner wsX8_in := goodIn_r _ [5] (by decide +kernel) (by decide +kernel)
set_option maxRecDepth 20000 in
theorem gX8_owner_X8_in : GoodIn wsX8_owner (va_wsS RX8 35 yX8_in wsX8_in) := goodIn_app (goodIn_of _ (by decide +kernel)) ggX8_owner_X8_in
set_option maxRecDepth 20000 in
theorem ggX8_owner_X8_ownerOf : GoodIn wsX8_owner wsX8_ownerOf := goodIn_r _ [9, 10, 11, 12, 13, 4, 14, 15, 16, 17, 18, 19, 20, 21, 22, 23, 24, 25, 26, 27, 28, 29, 30, 31, 32, 33, 34] (by decide +kernel) (by decide +kernel)
set_option maxRecDepth 20000 in
theorem gX8_owner_X8_ownerOf : GoodIn wsX8_owner (wsV RX8 47 RX8 yX8_ownerOf wsX8_ownerOf) := goodIn_app (goodIn_of _ (by decide +kernel)) ggX8_owner_X8_ownerOf
theorem dX8_owner_0 : decode cX8_owner 0 = .ok (.aload_n 0, 1) := by decide +kernel
theorem dX8_owner_1 : decode cX8_owner 1 = .ok (.iload_n 1, 1) := by decide +kernel
theorem dX8_owner_2 : decode cX8_owner 2 = .ok (.iconst 0, 1) := by decide +kernel
theorem dX8_owner_3 : decode cX8_owner 3 = .ok (.bipush 40, 2) := by decide +kernel
theorem dX8_owner_5 : decode cX8_owner 5 = .ok (.invokestatic 35, 3) := by decide +kernel
theorem dX8_owner_8 : decode cX8_owner 8 = .ok (.ifCond .eq 17, 3) := by decide +kernel
theorem dX8_owner_11 : decode cX8_owner 11 = .ok (.iload_n 2, 1) := by decide +kernel
theorem dX8_owner_12 : decode cX8_owner 12 = .ok (.iconst 0, 1) := by decide +kernel
theorem dX8_owner_13 : decode cX8_owner 13 = .ok (.bipush 40, 2) := by decide +kernel
theorem dX8_owner_15 : decode cX8_owner 15 = .ok (.invokestatic 35, 3) := by decide +kernel
theorem dX8_owner_18 : decode cX8_owner 18 = .ok (.ifCond .eq 7, 3) := by decide +kernel
theorem dX8_owner_21 : decode cX8_owner 21 = .ok (.iconst 0, 1) := by decide +kernel
theorem dX8_owner_22 : decode cX8_owner 22 = .ok (.goto 4, 3) := by decide +kernel
theorem dX8_owner_25 : decode cX8_owner 25 = .ok (.iconst 1, 1) := by decide +kernel
theorem dX8_owner_26 : decode cX8_owner 26 = .ok (.putfield 28, 3) := by decide +kernel
theorem dX8_owner_29 : decode cX8_owner 29 = .ok (.aload_n 0, 1) := by decide +kernel
theorem dX8_owner_30 : decode cX8_owner 30 = .ok (.getfield 28, 3) := by decide +kernel
theorem dX8_owner_33 : decode cX8_owner 33 = .ok (.ifCond .le 7, 3) := by decide +kernel
theorem dX8_owner_36 : decode cX8_owner 36 = .ok (.iconst 0, 1) := by decide +kernel
theorem dX8_owner_37 : decode cX8_owner 37 = .ok (.goto 9, 3) := by decide +kernel
theorem dX8_owner_40 : decode cX8_owner 40 = .ok (.aload_n 0, 1) := by decide +kernel
theorem dX8_owner_41 : decode cX8_owner 41 = .ok (.iload_n 1, 1) := by decide +kernel
theorem dX8_owner_42 : decode cX8_owner 42 = .ok (.iload_n 2, 1) := by decide +kernel
theorem dX8_owner_43 : decode cX8_owner 43 = .ok (.invokevirtual 47, 3) := by decide +kernel
theorem dX8_owner_46 : decode cX8_owner 46 = .ok (.ireturn, 1) := by decide +kernel
set_option maxRecDepth 20000 in
theorem ggX8_share_X8_isSite : GoodIn wsX8_share wsX8_isSite := goodIn_r _ [7, 8, 9, 10, 6, 11, 31, 32, 33, 34, 35, 36, 37, 38, 39, 40, 41, 42, 43, 44, 45, 46, 47] (by decide +kernel) (by decide +kernel)
set_option maxRecDepth 20000 in
theorem gX8_share_X8_isSite : GoodIn wsX8_share (wsV RX8 39 RX8 yX8_isSite wsX8_isSite) := goodIn_app (goodIn_of _ (by decide +kernel)) ggX8_share_X8_isSite
set_option maxRecDepth 20000 in
theorem ggX8_share_X8_counts : GoodIn wsX8_share wsX8_counts := goodIn_r _ [15, 8, 2, 16, 17, 18, 19, 6, 20, 21, 22, 23, 24, 25, 26, 27, 28, 29, 30, 31, 32, 33, 34, 35, 36, 37, 38, 39, 40, 41, 42, 43, 44, 45, 46, 47] (by decide +kernel) (by decide +kernel)
set_option maxRecDepth 20000 in
theorem gX8_share_X8_counts : GoodIn wsX8_share (wsV RX8 55 RX8 yX8_counts wsX8_counts) := goodIn_app (goodIn_of _ (by decide +kernel)) ggX8_share_X8_counts
theorem dX8_share_0 : decode cX8_share 0 = .ok (.aload_n 0, 1) := by decide +kernel
theorem dX8_share_1 : decode cX8_share 1 = .ok (.aload_n 0, 1) := by decide +kernel
theorem dX8_share_2 : decode cX8_share 2 = .ok (.iload_n 1, 1) := by decide +kernel
theorem dX8_share_3 : decode cX8_share 3 = .ok (.invokevirtual 39, 3) := by decide +kernel
theorem dX8_share_6 : decode cX8_share 6 = .ok (.ifCond .eq 7, 3) := by decide +kernel
theorem dX8_share_9 : decode cX8_share 9 = .ok (.iconst 0, 1) := by decide +kernel
theorem dX8_share_10 : decode cX8_share 10 = .ok (.goto 4, 3) := by decide +kernel
theorem dX8_share_13 : decode cX8_share 13 = .ok (.iconst 1, 1) := by decide +kernel
theorem dX8_share_14 : decode cX8_share 14 = .ok (.putfield 28, 3) := by decide +kernel
theorem dX8_share_17 : decode cX8_share 17 = .ok (.aload_n 0, 1) := by decide +kernel
theorem dX8_share_18 : decode cX8_share 18 = .ok (.getfield 28, 3) := by decide +kernel
theorem dX8_share_21 : decode cX8_share 21 = .ok (.ifCond .le 5, 3) := by decide +kernel
theorem dX8_share_24 : decode cX8_share 24 = .ok (.iconst 0, 1) := by decide +kernel
theorem dX8_share_25 : decode cX8_share 25 = .ok (.ireturn, 1) := by decide +kernel
theorem dX8_share_26 : decode cX8_share 26 = .ok (.aload_n 0, 1) := by decide +kernel
theorem dX8_share_27 : decode cX8_share 27 = .ok (.invokevirtual 55, 3) := by decide +kernel
theorem dX8_share_30 : decode cX8_share 30 = .ok (.pop, 1) := by decide +kernel
theorem dX8_share_31 : decode cX8_share 31 = .ok (.aload_n 0, 1) := by decide +kernel
theorem dX8_share_32 : decode cX8_share 32 = .ok (.getfield 22, 3) := by decide +kernel
theorem dX8_share_35 : decode cX8_share 35 = .ok (.iload_n 1, 1) := by decide +kernel
theorem dX8_share_36 : decode cX8_share 36 = .ok (.iaload, 1) := by decide +kernel
theorem dX8_share_37 : decode cX8_share 37 = .ok (.ireturn, 1) := by decide +kernel
set_option maxRecDepth 20000 in
theorem ggX8_shareAnew_X8_share : GoodIn wsX8_shareAnew wsX8_share := goodIn_r _ [5, 6, 7, 8, 9, 10, 4, 11, 12, 13, 14, 15, 16, 17, 18, 19, 20, 21, 22, 23, 24, 25, 26, 27, 28, 29, 30, 31, 32, 33, 34, 35, 36, 37, 38, 39, 40, 41, 42, 43, 44, 45, 46, 47, 48, 49, 50, 51] (by decide +kernel) (by decide +kernel)
set_option maxRecDepth 20000 in
theorem gX8_shareAnew_X8_share : GoodIn wsX8_shareAnew (wsV RX8 68 RX8 yX8_share wsX8_share) := goodIn_app (goodIn_of _ (by decide +kernel)) ggX8_shareAnew_X8_share
theorem dX8_shareAnew_0 : decode cX8_shareAnew 0 = .ok (.aload_n 0, 1) := by decide +kernel
theorem dX8_shareAnew_1 : decode cX8_shareAnew 1 = .ok (.iload_n 1, 1) := by decide +kernel
theorem dX8_shareAnew_2 : decode cX8_shareAnew 2 = .ok (.invokevirtual 68, 3) := by decide +kernel
theorem dX8_shareAnew_5 : decode cX8_shareAnew 5 = .ok (.ireturn, 1) := by decide +kernel
set_option maxRecDepth 20000 in
theorem ggX8_inRow_X8_isSite : GoodIn wsX8_inRow wsX8_isSite := goodIn_r _ [6, 7, 8, 9, 5, 10, 22, 23, 24, 25, 26, 27, 28, 29, 30, 31, 32, 33, 34, 35, 36, 37, 38] (by decide +kernel) (by decide +kernel)
set_option maxRecDepth 20000 in
theorem gX8_inRow_X8_isSite : GoodIn wsX8_inRow (wsV RX8 39 RX8 yX8_isSite wsX8_isSite) := goodIn_app (goodIn_of _ (by decide +kernel)) ggX8_inRow_X8_isSite
set_option maxRecDepth 20000 in
theorem ggX8_inRow_X8_in : GoodIn wsX8_inRow wsX8_in := goodIn_r _ [10] (by decide +kernel) (by decide +kernel)
set_option maxRecDepth 20000 in
theorem gX8_inRow_X8_in : GoodIn wsX8_inRow (va_wsS RX8 35 yX8_in wsX8_in) := goodIn_app (goodIn_of _ (by decide +kernel)) ggX8_inRow_X8_in
set_option maxRecDepth 20000 in
theorem ggX8_inRow_X8_ownerOf : GoodIn wsX8_inRow wsX8_ownerOf := goodIn_r _ [14, 7, 15, 16, 17, 5, 18, 19, 20, 21, 22, 23, 24, 25, 26, 27, 28, 29, 30, 31, 32, 33, 34, 35, 36, 37, 38] (by decide +kernel) (by decide +kernel)
set_option maxRecDepth 20000 in
theorem gX8_inRow_X8_ownerOf : GoodIn wsX8_inRow (wsV RX8 47 RX8 yX8_ownerOf wsX8_ownerOf) := goodIn_app (goodIn_of _ (by decide +kernel)) ggX8_inRow_X8_ownerOf
theorem dX8_inRow_0 : decode cX8_inRow 0 = .ok (.aload_n 0, 1) := by decide +kernel
theorem dX8_inRow_1 : decode cX8_inRow 1 = .ok (.aload_n 0, 1) := by decide +kernel
theorem dX8_inRow_2 : decode cX8_inRow 2 = .ok (.iload_n 1, 1) := by decide +kernel
theorem dX8_inRow_3 : decode cX8_inRow 3 = .ok (.invokevirtual 39, 3) := by decide +kernel
theorem dX8_inRow_6 : decode cX8_inRow 6 = .ok (.ifCond .ne 7, 3) := by decide +kernel
theorem dX8_inRow_9 : decode cX8_inRow 9 = .ok (.iconst 1, 1) := by decide +kernel
theorem dX8_inRow_10 : decode cX8_inRow 10 = .ok (.goto 18, 3) := by decide +kernel
theorem dX8_inRow_13 : decode cX8_inRow 13 = .ok (.iload_n 2, 1) := by decide +kernel
theorem dX8_inRow_14 : decode cX8_inRow 14 = .ok (.iconst 0, 1) := by decide +kernel
theorem dX8_inRow_15 : decode cX8_inRow 15 = .ok (.bipush 40, 2) := by decide +kernel
theorem dX8_inRow_17 : decode cX8_inRow 17 = .ok (.invokestatic 35, 3) := by decide +kernel
theorem dX8_inRow_20 : decode cX8_inRow 20 = .ok (.ifCond .ne 7, 3) := by decide +kernel
theorem dX8_inRow_23 : decode cX8_inRow 23 = .ok (.iconst 2, 1) := by decide +kernel
theorem dX8_inRow_24 : decode cX8_inRow 24 = .ok (.goto 4, 3) := by decide +kernel
theorem dX8_inRow_27 : decode cX8_inRow 27 = .ok (.iconst 0, 1) := by decide +kernel
theorem dX8_inRow_28 : decode cX8_inRow 28 = .ok (.putfield 28, 3) := by decide +kernel
theorem dX8_inRow_31 : decode cX8_inRow 31 = .ok (.iconst (-1), 1) := by decide +kernel
theorem dX8_inRow_32 : decode cX8_inRow 32 = .ok (.istore 4, 2) := by decide +kernel
theorem dX8_inRow_34 : decode cX8_inRow 34 = .ok (.iconst 0, 1) := by decide +kernel
theorem dX8_inRow_35 : decode cX8_inRow 35 = .ok (.istore 5, 2) := by decide +kernel
theorem dX8_inRow_37 : decode cX8_inRow 37 = .ok (.iload 5, 2) := by decide +kernel
theorem dX8_inRow_39 : decode cX8_inRow 39 = .ok (.bipush 40, 2) := by decide +kernel
theorem dX8_inRow_41 : decode cX8_inRow 41 = .ok (.if_icmp .gt 46, 3) := by decide +kernel
theorem dX8_inRow_44 : decode cX8_inRow 44 = .ok (.aload_n 0, 1) := by decide +kernel
theorem dX8_inRow_45 : decode cX8_inRow 45 = .ok (.getfield 28, 3) := by decide +kernel
theorem dX8_inRow_48 : decode cX8_inRow 48 = .ok (.ifCond .ne 39, 3) := by decide +kernel
theorem dX8_inRow_51 : decode cX8_inRow 51 = .ok (.aload_n 0, 1) := by decide +kernel
theorem dX8_inRow_52 : decode cX8_inRow 52 = .ok (.iload 5, 2) := by decide +kernel
theorem dX8_inRow_54 : decode cX8_inRow 54 = .ok (.iload_n 2, 1) := by decide +kernel
theorem dX8_inRow_55 : decode cX8_inRow 55 = .ok (.invokevirtual 47, 3) := by decide +kernel
theorem dX8_inRow_58 : decode cX8_inRow 58 = .ok (.iload_n 1, 1) := by decide +kernel
theorem dX8_inRow_59 : decode cX8_inRow 59 = .ok (.if_icmp .ne 18, 3) := by decide +kernel
theorem dX8_inRow_62 : decode cX8_inRow 62 = .ok (.iload_n 3, 1) := by decide +kernel
theorem dX8_inRow_63 : decode cX8_inRow 63 = .ok (.ifCond .ne 9, 3) := by decide +kernel
theorem dX8_inRow_66 : decode cX8_inRow 66 = .ok (.iload 4, 2) := by decide +kernel
theorem dX8_inRow_68 : decode cX8_inRow 68 = .ok (.iconst (-1), 1) := by decide +kernel
theorem dX8_inRow_69 : decode cX8_inRow 69 = .ok (.if_icmp .ne 8, 3) := by decide +kernel
theorem dX8_inRow_72 : decode cX8_inRow 72 = .ok (.iload 5, 2) := by decide +kernel
theorem dX8_inRow_74 : decode cX8_inRow 74 = .ok (.goto 5, 3) := by decide +kernel
theorem dX8_inRow_77 : decode cX8_inRow 77 = .ok (.iload 4, 2) := by decide +kernel
theorem dX8_inRow_79 : decode cX8_inRow 79 = .ok (.istore 4, 2) := by decide +kernel
theorem dX8_inRow_81 : decode cX8_inRow 81 = .ok (.iinc 5 1, 3) := by decide +kernel
theorem dX8_inRow_84 : decode cX8_inRow 84 = .ok (.goto (-47), 3) := by decide +kernel
theorem dX8_inRow_87 : decode cX8_inRow 87 = .ok (.aload_n 0, 1) := by decide +kernel
theorem dX8_inRow_88 : decode cX8_inRow 88 = .ok (.getfield 28, 3) := by decide +kernel
theorem dX8_inRow_91 : decode cX8_inRow 91 = .ok (.ifCond .le 7, 3) := by decide +kernel
theorem dX8_inRow_94 : decode cX8_inRow 94 = .ok (.iconst 0, 1) := by decide +kernel
theorem dX8_inRow_95 : decode cX8_inRow 95 = .ok (.goto 5, 3) := by decide +kernel
theorem dX8_inRow_98 : decode cX8_inRow 98 = .ok (.iload 4, 2) := by decide +kernel
theorem dX8_inRow_100 : decode cX8_inRow 100 = .ok (.ireturn, 1) := by decide +kernel
theorem dX8_cross_0 : decode cX8_cross 0 = .ok (.aload_n 0, 1) := by decide +kernel
theorem dX8_cross_1 : decode cX8_cross 1 = .ok (.getfield 7, 3) := by decide +kernel
theorem dX8_cross_4 : decode cX8_cross 4 = .ok (.iload_n 2, 1) := by decide +kernel
theorem dX8_cross_5 : decode cX8_cross 5 = .ok (.iaload, 1) := by decide +kernel
theorem dX8_cross_6 : decode cX8_cross 6 = .ok (.aload_n 0, 1) := by decide +kernel
theorem dX8_cross_7 : decode cX8_cross 7 = .ok (.getfield 7, 3) := by decide +kernel
theorem dX8_cross_10 : decode cX8_cross 10 = .ok (.iload_n 1, 1) := by decide +kernel
theorem dX8_cross_11 : decode cX8_cross 11 = .ok (.iaload, 1) := by decide +kernel
theorem dX8_cross_12 : decode cX8_cross 12 = .ok (.isub, 1) := by decide +kernel
theorem dX8_cross_13 : decode cX8_cross 13 = .ok (.aload_n 0, 1) := by decide +kernel
theorem dX8_cross_14 : decode cX8_cross 14 = .ok (.getfield 13, 3) := by decide +kernel
theorem dX8_cross_17 : decode cX8_cross 17 = .ok (.iload_n 3, 1) := by decide +kernel
theorem dX8_cross_18 : decode cX8_cross 18 = .ok (.iaload, 1) := by decide +kernel
theorem dX8_cross_19 : decode cX8_cross 19 = .ok (.aload_n 0, 1) := by decide +kernel
theorem dX8_cross_20 : decode cX8_cross 20 = .ok (.getfield 13, 3) := by decide +kernel
theorem dX8_cross_23 : decode cX8_cross 23 = .ok (.iload_n 1, 1) := by decide +kernel
theorem dX8_cross_24 : decode cX8_cross 24 = .ok (.iaload, 1) := by decide +kernel
theorem dX8_cross_25 : decode cX8_cross 25 = .ok (.isub, 1) := by decide +kernel
theorem dX8_cross_26 : decode cX8_cross 26 = .ok (.imul, 1) := by decide +kernel
theorem dX8_cross_27 : decode cX8_cross 27 = .ok (.aload_n 0, 1) := by decide +kernel
theorem dX8_cross_28 : decode cX8_cross 28 = .ok (.getfield 13, 3) := by decide +kernel
theorem dX8_cross_31 : decode cX8_cross 31 = .ok (.iload_n 2, 1) := by decide +kernel
theorem dX8_cross_32 : decode cX8_cross 32 = .ok (.iaload, 1) := by decide +kernel
theorem dX8_cross_33 : decode cX8_cross 33 = .ok (.aload_n 0, 1) := by decide +kernel
theorem dX8_cross_34 : decode cX8_cross 34 = .ok (.getfield 13, 3) := by decide +kernel
theorem dX8_cross_37 : decode cX8_cross 37 = .ok (.iload_n 1, 1) := by decide +kernel
theorem dX8_cross_38 : decode cX8_cross 38 = .ok (.iaload, 1) := by decide +kernel
theorem dX8_cross_39 : decode cX8_cross 39 = .ok (.isub, 1) := by decide +kernel
theorem dX8_cross_40 : decode cX8_cross 40 = .ok (.aload_n 0, 1) := by decide +kernel
theorem dX8_cross_41 : decode cX8_cross 41 = .ok (.getfield 7, 3) := by decide +kernel
theorem dX8_cross_44 : decode cX8_cross 44 = .ok (.iload_n 3, 1) := by decide +kernel
theorem dX8_cross_45 : decode cX8_cross 45 = .ok (.iaload, 1) := by decide +kernel
theorem dX8_cross_46 : decode cX8_cross 46 = .ok (.aload_n 0, 1) := by decide +kernel
theorem dX8_cross_47 : decode cX8_cross 47 = .ok (.getfield 7, 3) := by decide +kernel
theorem dX8_cross_50 : decode cX8_cross 50 = .ok (.iload_n 1, 1) := by decide +kernel
theorem dX8_cross_51 : decode cX8_cross 51 = .ok (.iaload, 1) := by decide +kernel
theorem dX8_cross_52 : decode cX8_cross 52 = .ok (.isub, 1) := by decide +kernel
theorem dX8_cross_53 : decode cX8_cross 53 = .ok (.imul, 1) := by decide +kernel
theorem dX8_cross_54 : decode cX8_cross 54 = .ok (.isub, 1) := by decide +kernel
theorem dX8_cross_55 : decode cX8_cross 55 = .ok (.ireturn, 1) := by decide +kernel
set_option maxRecDepth 20000 in
theorem ggX8_isOverPair_X8_height : GoodIn wsX8_isOverPair wsX8_height := goodIn_r _ [7, 1, 2, 8, 13, 14, 15, 16, 17, 18, 19, 20, 21, 22, 23, 24, 25, 26, 27, 28, 29] (by decide +kernel) (by decide +kernel)
set_option maxRecDepth 20000 in
theorem gX8_isOverPair_X8_height : GoodIn wsX8_isOverPair (wsV RX8 65 RX8 yX8_height wsX8_height) := goodIn_app (goodIn_of _ (by decide +kernel)) ggX8_isOverPair_X8_height
set_option maxRecDepth 20000 in
theorem ggX8_isOverPair_X8_cross : GoodIn wsX8_isOverPair wsX8_cross := goodIn_r _ [12, 1, 2, 13, 14, 15, 16, 17, 18, 19, 20, 21, 22, 23, 24, 25, 26, 27, 28, 29] (by decide +kernel) (by decide +kernel)
set_option maxRecDepth 20000 in
theorem gX8_isOverPair_X8_cross : GoodIn wsX8_isOverPair (wsV RX8 70 RX8 yX8_cross wsX8_cross) := goodIn_app (goodIn_of _ (by decide +kernel)) ggX8_isOverPair_X8_cross
theorem dX8_isOverPair_0 : decode cX8_isOverPair 0 = .ok (.aload_n 0, 1) := by decide +kernel
theorem dX8_isOverPair_1 : decode cX8_isOverPair 1 = .ok (.getfield 7, 3) := by decide +kernel
theorem dX8_isOverPair_4 : decode cX8_isOverPair 4 = .ok (.iload_n 3, 1) := by decide +kernel
theorem dX8_isOverPair_5 : decode cX8_isOverPair 5 = .ok (.iaload, 1) := by decide +kernel
theorem dX8_isOverPair_6 : decode cX8_isOverPair 6 = .ok (.aload_n 0, 1) := by decide +kernel
theorem dX8_isOverPair_7 : decode cX8_isOverPair 7 = .ok (.getfield 7, 3) := by decide +kernel
theorem dX8_isOverPair_10 : decode cX8_isOverPair 10 = .ok (.iload_n 2, 1) := by decide +kernel
theorem dX8_isOverPair_11 : decode cX8_isOverPair 11 = .ok (.iaload, 1) := by decide +kernel
theorem dX8_isOverPair_12 : decode cX8_isOverPair 12 = .ok (.isub, 1) := by decide +kernel
theorem dX8_isOverPair_13 : decode cX8_isOverPair 13 = .ok (.istore 4, 2) := by decide +kernel
theorem dX8_isOverPair_15 : decode cX8_isOverPair 15 = .ok (.aload_n 0, 1) := by decide +kernel
theorem dX8_isOverPair_16 : decode cX8_isOverPair 16 = .ok (.getfield 13, 3) := by decide +kernel
theorem dX8_isOverPair_19 : decode cX8_isOverPair 19 = .ok (.iload_n 3, 1) := by decide +kernel
theorem dX8_isOverPair_20 : decode cX8_isOverPair 20 = .ok (.iaload, 1) := by decide +kernel
theorem dX8_isOverPair_21 : decode cX8_isOverPair 21 = .ok (.aload_n 0, 1) := by decide +kernel
theorem dX8_isOverPair_22 : decode cX8_isOverPair 22 = .ok (.getfield 13, 3) := by decide +kernel
theorem dX8_isOverPair_25 : decode cX8_isOverPair 25 = .ok (.iload_n 2, 1) := by decide +kernel
theorem dX8_isOverPair_26 : decode cX8_isOverPair 26 = .ok (.iaload, 1) := by decide +kernel
theorem dX8_isOverPair_27 : decode cX8_isOverPair 27 = .ok (.isub, 1) := by decide +kernel
theorem dX8_isOverPair_28 : decode cX8_isOverPair 28 = .ok (.istore 5, 2) := by decide +kernel
theorem dX8_isOverPair_30 : decode cX8_isOverPair 30 = .ok (.iload 4, 2) := by decide +kernel
theorem dX8_isOverPair_32 : decode cX8_isOverPair 32 = .ok (.iload 4, 2) := by decide +kernel
theorem dX8_isOverPair_34 : decode cX8_isOverPair 34 = .ok (.imul, 1) := by decide +kernel
theorem dX8_isOverPair_35 : decode cX8_isOverPair 35 = .ok (.iload 5, 2) := by decide +kernel
theorem dX8_isOverPair_37 : decode cX8_isOverPair 37 = .ok (.iload 5, 2) := by decide +kernel
theorem dX8_isOverPair_39 : decode cX8_isOverPair 39 = .ok (.imul, 1) := by decide +kernel
theorem dX8_isOverPair_40 : decode cX8_isOverPair 40 = .ok (.iadd, 1) := by decide +kernel
theorem dX8_isOverPair_41 : decode cX8_isOverPair 41 = .ok (.i2l, 1) := by decide +kernel
theorem dX8_isOverPair_42 : decode cX8_isOverPair 42 = .ok (.lstore 6, 2) := by decide +kernel
theorem dX8_isOverPair_44 : decode cX8_isOverPair 44 = .ok (.aload_n 0, 1) := by decide +kernel
theorem dX8_isOverPair_45 : decode cX8_isOverPair 45 = .ok (.getfield 7, 3) := by decide +kernel
theorem dX8_isOverPair_48 : decode cX8_isOverPair 48 = .ok (.iload_n 1, 1) := by decide +kernel
theorem dX8_isOverPair_49 : decode cX8_isOverPair 49 = .ok (.iaload, 1) := by decide +kernel
theorem dX8_isOverPair_50 : decode cX8_isOverPair 50 = .ok (.aload_n 0, 1) := by decide +kernel
theorem dX8_isOverPair_51 : decode cX8_isOverPair 51 = .ok (.getfield 7, 3) := by decide +kernel
theorem dX8_isOverPair_54 : decode cX8_isOverPair 54 = .ok (.iload_n 2, 1) := by decide +kernel
theorem dX8_isOverPair_55 : decode cX8_isOverPair 55 = .ok (.iaload, 1) := by decide +kernel
theorem dX8_isOverPair_56 : decode cX8_isOverPair 56 = .ok (.isub, 1) := by decide +kernel
theorem dX8_isOverPair_57 : decode cX8_isOverPair 57 = .ok (.iload 4, 2) := by decide +kernel
theorem dX8_isOverPair_59 : decode cX8_isOverPair 59 = .ok (.imul, 1) := by decide +kernel
theorem dX8_isOverPair_60 : decode cX8_isOverPair 60 = .ok (.aload_n 0, 1) := by decide +kernel
theorem dX8_isOverPair_61 : decode cX8_isOverPair 61 = .ok (.getfield 13, 3) := by decide +kernel
theorem dX8_isOverPair_64 : decode cX8_isOverPair 64 = .ok (.iload_n 1, 1) := by decide +kernel
theorem dX8_isOverPair_65 : decode cX8_isOverPair 65 = .ok (.iaload, 1) := by decide +kernel
theorem dX8_isOverPair_66 : decode cX8_isOverPair 66 = .ok (.aload_n 0, 1) := by decide +kernel
theorem dX8_isOverPair_67 : decode cX8_isOverPair 67 = .ok (.getfield 13, 3) := by decide +kernel
theorem dX8_isOverPair_70 : decode cX8_isOverPair 70 = .ok (.iload_n 2, 1) := by decide +kernel
theorem dX8_isOverPair_71 : decode cX8_isOverPair 71 = .ok (.iaload, 1) := by decide +kernel
theorem dX8_isOverPair_72 : decode cX8_isOverPair 72 = .ok (.isub, 1) := by decide +kernel
theorem dX8_isOverPair_73 : decode cX8_isOverPair 73 = .ok (.iload 5, 2) := by decide +kernel
theorem dX8_isOverPair_75 : decode cX8_isOverPair 75 = .ok (.imul, 1) := by decide +kernel
theorem dX8_isOverPair_76 : decode cX8_isOverPair 76 = .ok (.iadd, 1) := by decide +kernel
theorem dX8_isOverPair_77 : decode cX8_isOverPair 77 = .ok (.i2l, 1) := by decide +kernel
theorem dX8_isOverPair_78 : decode cX8_isOverPair 78 = .ok (.lstore 8, 2) := by decide +kernel
theorem dX8_isOverPair_80 : decode cX8_isOverPair 80 = .ok (.lload 6, 2) := by decide +kernel
theorem dX8_isOverPair_82 : decode cX8_isOverPair 82 = .ok (.lconst 0, 1) := by decide +kernel
theorem dX8_isOverPair_83 : decode cX8_isOverPair 83 = .ok (.lcmp, 1) := by decide +kernel
theorem dX8_isOverPair_84 : decode cX8_isOverPair 84 = .ok (.ifCond .ne 65, 3) := by decide +kernel
theorem dX8_isOverPair_87 : decode cX8_isOverPair 87 = .ok (.aload_n 0, 1) := by decide +kernel
theorem dX8_isOverPair_88 : decode cX8_isOverPair 88 = .ok (.getfield 7, 3) := by decide +kernel
theorem dX8_isOverPair_91 : decode cX8_isOverPair 91 = .ok (.iload_n 1, 1) := by decide +kernel
theorem dX8_isOverPair_92 : decode cX8_isOverPair 92 = .ok (.iaload, 1) := by decide +kernel
theorem dX8_isOverPair_93 : decode cX8_isOverPair 93 = .ok (.aload_n 0, 1) := by decide +kernel
theorem dX8_isOverPair_94 : decode cX8_isOverPair 94 = .ok (.getfield 7, 3) := by decide +kernel
theorem dX8_isOverPair_97 : decode cX8_isOverPair 97 = .ok (.iload_n 2, 1) := by decide +kernel
theorem dX8_isOverPair_98 : decode cX8_isOverPair 98 = .ok (.iaload, 1) := by decide +kernel
theorem dX8_isOverPair_99 : decode cX8_isOverPair 99 = .ok (.if_icmp .ne 48, 3) := by decide +kernel
theorem dX8_isOverPair_102 : decode cX8_isOverPair 102 = .ok (.aload_n 0, 1) := by decide +kernel
theorem dX8_isOverPair_103 : decode cX8_isOverPair 103 = .ok (.getfield 13, 3) := by decide +kernel
theorem dX8_isOverPair_106 : decode cX8_isOverPair 106 = .ok (.iload_n 1, 1) := by decide +kernel
theorem dX8_isOverPair_107 : decode cX8_isOverPair 107 = .ok (.iaload, 1) := by decide +kernel
theorem dX8_isOverPair_108 : decode cX8_isOverPair 108 = .ok (.aload_n 0, 1) := by decide +kernel
theorem dX8_isOverPair_109 : decode cX8_isOverPair 109 = .ok (.getfield 13, 3) := by decide +kernel
theorem dX8_isOverPair_112 : decode cX8_isOverPair 112 = .ok (.iload_n 2, 1) := by decide +kernel
theorem dX8_isOverPair_113 : decode cX8_isOverPair 113 = .ok (.iaload, 1) := by decide +kernel
theorem dX8_isOverPair_114 : decode cX8_isOverPair 114 = .ok (.if_icmp .ne 33, 3) := by decide +kernel
theorem dX8_isOverPair_117 : decode cX8_isOverPair 117 = .ok (.aload_n 0, 1) := by decide +kernel
theorem dX8_isOverPair_118 : decode cX8_isOverPair 118 = .ok (.iload_n 1, 1) := by decide +kernel
theorem dX8_isOverPair_119 : decode cX8_isOverPair 119 = .ok (.invokevirtual 65, 3) := by decide +kernel
theorem dX8_isOverPair_122 : decode cX8_isOverPair 122 = .ok (.aload_n 0, 1) := by decide +kernel
theorem dX8_isOverPair_123 : decode cX8_isOverPair 123 = .ok (.iload_n 2, 1) := by decide +kernel
theorem dX8_isOverPair_124 : decode cX8_isOverPair 124 = .ok (.invokevirtual 65, 3) := by decide +kernel
theorem dX8_isOverPair_127 : decode cX8_isOverPair 127 = .ok (.if_icmp .ge 16, 3) := by decide +kernel
theorem dX8_isOverPair_130 : decode cX8_isOverPair 130 = .ok (.aload_n 0, 1) := by decide +kernel
theorem dX8_isOverPair_131 : decode cX8_isOverPair 131 = .ok (.iload_n 1, 1) := by decide +kernel
theorem dX8_isOverPair_132 : decode cX8_isOverPair 132 = .ok (.invokevirtual 65, 3) := by decide +kernel
theorem dX8_isOverPair_135 : decode cX8_isOverPair 135 = .ok (.aload_n 0, 1) := by decide +kernel
theorem dX8_isOverPair_136 : decode cX8_isOverPair 136 = .ok (.iload_n 3, 1) := by decide +kernel
theorem dX8_isOverPair_137 : decode cX8_isOverPair 137 = .ok (.invokevirtual 65, 3) := by decide +kernel
theorem dX8_isOverPair_140 : decode cX8_isOverPair 140 = .ok (.if_icmp .lt 7, 3) := by decide +kernel
theorem dX8_isOverPair_143 : decode cX8_isOverPair 143 = .ok (.iconst 1, 1) := by decide +kernel
theorem dX8_isOverPair_144 : decode cX8_isOverPair 144 = .ok (.goto 4, 3) := by decide +kernel
theorem dX8_isOverPair_147 : decode cX8_isOverPair 147 = .ok (.iconst 0, 1) := by decide +kernel
theorem dX8_isOverPair_148 : decode cX8_isOverPair 148 = .ok (.ireturn, 1) := by decide +kernel
theorem dX8_isOverPair_149 : decode cX8_isOverPair 149 = .ok (.aload_n 0, 1) := by decide +kernel
theorem dX8_isOverPair_150 : decode cX8_isOverPair 150 = .ok (.iload_n 2, 1) := by decide +kernel
theorem dX8_isOverPair_151 : decode cX8_isOverPair 151 = .ok (.iload_n 3, 1) := by decide +kernel
theorem dX8_isOverPair_152 : decode cX8_isOverPair 152 = .ok (.iload_n 1, 1) := by decide +kernel
theorem dX8_isOverPair_153 : decode cX8_isOverPair 153 = .ok (.invokevirtual 70, 3) := by decide +kernel
theorem dX8_isOverPair_156 : decode cX8_isOverPair 156 = .ok (.ifCond .ne 57, 3) := by decide +kernel
theorem dX8_isOverPair_159 : decode cX8_isOverPair 159 = .ok (.lload 8, 2) := by decide +kernel
theorem dX8_isOverPair_161 : decode cX8_isOverPair 161 = .ok (.lconst 0, 1) := by decide +kernel
theorem dX8_isOverPair_162 : decode cX8_isOverPair 162 = .ok (.lcmp, 1) := by decide +kernel
theorem dX8_isOverPair_163 : decode cX8_isOverPair 163 = .ok (.ifCond .lt 50, 3) := by decide +kernel
theorem dX8_isOverPair_166 : decode cX8_isOverPair 166 = .ok (.lload 8, 2) := by decide +kernel
theorem dX8_isOverPair_168 : decode cX8_isOverPair 168 = .ok (.lload 6, 2) := by decide +kernel
theorem dX8_isOverPair_170 : decode cX8_isOverPair 170 = .ok (.lcmp, 1) := by decide +kernel
theorem dX8_isOverPair_171 : decode cX8_isOverPair 171 = .ok (.ifCond .gt 42, 3) := by decide +kernel
theorem dX8_isOverPair_174 : decode cX8_isOverPair 174 = .ok (.aload_n 0, 1) := by decide +kernel
theorem dX8_isOverPair_175 : decode cX8_isOverPair 175 = .ok (.iload_n 1, 1) := by decide +kernel
theorem dX8_isOverPair_176 : decode cX8_isOverPair 176 = .ok (.invokevirtual 65, 3) := by decide +kernel
theorem dX8_isOverPair_179 : decode cX8_isOverPair 179 = .ok (.i2l, 1) := by decide +kernel
theorem dX8_isOverPair_180 : decode cX8_isOverPair 180 = .ok (.lload 6, 2) := by decide +kernel
theorem dX8_isOverPair_182 : decode cX8_isOverPair 182 = .ok (.lmul, 1) := by decide +kernel
theorem dX8_isOverPair_183 : decode cX8_isOverPair 183 = .ok (.aload_n 0, 1) := by decide +kernel
theorem dX8_isOverPair_184 : decode cX8_isOverPair 184 = .ok (.iload_n 2, 1) := by decide +kernel
theorem dX8_isOverPair_185 : decode cX8_isOverPair 185 = .ok (.invokevirtual 65, 3) := by decide +kernel
theorem dX8_isOverPair_188 : decode cX8_isOverPair 188 = .ok (.i2l, 1) := by decide +kernel
theorem dX8_isOverPair_189 : decode cX8_isOverPair 189 = .ok (.lload 6, 2) := by decide +kernel
theorem dX8_isOverPair_191 : decode cX8_isOverPair 191 = .ok (.lload 8, 2) := by decide +kernel
theorem dX8_isOverPair_193 : decode cX8_isOverPair 193 = .ok (.lsub, 1) := by decide +kernel
theorem dX8_isOverPair_194 : decode cX8_isOverPair 194 = .ok (.lmul, 1) := by decide +kernel
theorem dX8_isOverPair_195 : decode cX8_isOverPair 195 = .ok (.aload_n 0, 1) := by decide +kernel
theorem dX8_isOverPair_196 : decode cX8_isOverPair 196 = .ok (.iload_n 3, 1) := by decide +kernel
theorem dX8_isOverPair_197 : decode cX8_isOverPair 197 = .ok (.invokevirtual 65, 3) := by decide +kernel
theorem dX8_isOverPair_200 : decode cX8_isOverPair 200 = .ok (.i2l, 1) := by decide +kernel
theorem dX8_isOverPair_201 : decode cX8_isOverPair 201 = .ok (.lload 8, 2) := by decide +kernel
theorem dX8_isOverPair_203 : decode cX8_isOverPair 203 = .ok (.lmul, 1) := by decide +kernel
theorem dX8_isOverPair_204 : decode cX8_isOverPair 204 = .ok (.ladd, 1) := by decide +kernel
theorem dX8_isOverPair_205 : decode cX8_isOverPair 205 = .ok (.lcmp, 1) := by decide +kernel
theorem dX8_isOverPair_206 : decode cX8_isOverPair 206 = .ok (.ifCond .lt 7, 3) := by decide +kernel
theorem dX8_isOverPair_209 : decode cX8_isOverPair 209 = .ok (.iconst 1, 1) := by decide +kernel
theorem dX8_isOverPair_210 : decode cX8_isOverPair 210 = .ok (.goto 4, 3) := by decide +kernel
theorem dX8_isOverPair_213 : decode cX8_isOverPair 213 = .ok (.iconst 0, 1) := by decide +kernel
theorem dX8_isOverPair_214 : decode cX8_isOverPair 214 = .ok (.ireturn, 1) := by decide +kernel
set_option maxRecDepth 20000 in
theorem ggX8_isOverTriangle_X8_cross : GoodIn wsX8_isOverTriangle wsX8_cross := goodIn_r _ [6, 7, 8, 14, 15, 16, 17, 18, 19, 20, 21, 22, 23, 24, 25, 26, 27, 28, 29, 30] (by decide +kernel) (by decide +kernel)
set_option maxRecDepth 20000 in
theorem gX8_isOverTriangle_X8_cross : GoodIn wsX8_isOverTriangle (wsV RX8 70 RX8 yX8_cross wsX8_cross) := goodIn_app (goodIn_of _ (by decide +kernel)) ggX8_isOverTriangle_X8_cross
set_option maxRecDepth 20000 in
theorem ggX8_isOverTriangle_X8_height : GoodIn wsX8_isOverTriangle wsX8_height := goodIn_r _ [12, 7, 8, 13, 14, 15, 16, 17, 18, 19, 20, 21, 22, 23, 24, 25, 26, 27, 28, 29, 30] (by decide +kernel) (by decide +kernel)
set_option maxRecDepth 20000 in
theorem gX8_isOverTriangle_X8_height : GoodIn wsX8_isOverTriangle (wsV RX8 65 RX8 yX8_height wsX8_height) := goodIn_app (goodIn_of _ (by decide +kernel)) ggX8_isOverTriangle_X8_height
theorem dX8_isOverTriangle_0 : decode cX8_isOverTriangle 0 = .ok (.aload_n 0, 1) := by decide +kernel
theorem dX8_isOverTriangle_1 : decode cX8_isOverTriangle 1 = .ok (.iload_n 2, 1) := by decide +kernel
theorem dX8_isOverTriangle_2 : decode cX8_isOverTriangle 2 = .ok (.iload_n 3, 1) := by decide +kernel
theorem dX8_isOverTriangle_3 : decode cX8_isOverTriangle 3 = .ok (.iload 4, 2) := by decide +kernel
theorem dX8_isOverTriangle_5 : decode cX8_isOverTriangle 5 = .ok (.invokevirtual 70, 3) := by decide +kernel
theorem dX8_isOverTriangle_8 : decode cX8_isOverTriangle 8 = .ok (.i2l, 1) := by decide +kernel
theorem dX8_isOverTriangle_9 : decode cX8_isOverTriangle 9 = .ok (.lstore 5, 2) := by decide +kernel
theorem dX8_isOverTriangle_11 : decode cX8_isOverTriangle 11 = .ok (.aload_n 0, 1) := by decide +kernel
theorem dX8_isOverTriangle_12 : decode cX8_isOverTriangle 12 = .ok (.iload_n 1, 1) := by decide +kernel
theorem dX8_isOverTriangle_13 : decode cX8_isOverTriangle 13 = .ok (.iload_n 3, 1) := by decide +kernel
theorem dX8_isOverTriangle_14 : decode cX8_isOverTriangle 14 = .ok (.iload 4, 2) := by decide +kernel
theorem dX8_isOverTriangle_16 : decode cX8_isOverTriangle 16 = .ok (.invokevirtual 70, 3) := by decide +kernel
theorem dX8_isOverTriangle_19 : decode cX8_isOverTriangle 19 = .ok (.i2l, 1) := by decide +kernel
theorem dX8_isOverTriangle_20 : decode cX8_isOverTriangle 20 = .ok (.lstore 7, 2) := by decide +kernel
theorem dX8_isOverTriangle_22 : decode cX8_isOverTriangle 22 = .ok (.aload_n 0, 1) := by decide +kernel
theorem dX8_isOverTriangle_23 : decode cX8_isOverTriangle 23 = .ok (.iload_n 1, 1) := by decide +kernel
theorem dX8_isOverTriangle_24 : decode cX8_isOverTriangle 24 = .ok (.iload 4, 2) := by decide +kernel
theorem dX8_isOverTriangle_26 : decode cX8_isOverTriangle 26 = .ok (.iload_n 2, 1) := by decide +kernel
theorem dX8_isOverTriangle_27 : decode cX8_isOverTriangle 27 = .ok (.invokevirtual 70, 3) := by decide +kernel
theorem dX8_isOverTriangle_30 : decode cX8_isOverTriangle 30 = .ok (.i2l, 1) := by decide +kernel
theorem dX8_isOverTriangle_31 : decode cX8_isOverTriangle 31 = .ok (.lstore 9, 2) := by decide +kernel
theorem dX8_isOverTriangle_33 : decode cX8_isOverTriangle 33 = .ok (.aload_n 0, 1) := by decide +kernel
theorem dX8_isOverTriangle_34 : decode cX8_isOverTriangle 34 = .ok (.iload_n 1, 1) := by decide +kernel
theorem dX8_isOverTriangle_35 : decode cX8_isOverTriangle 35 = .ok (.iload_n 2, 1) := by decide +kernel
theorem dX8_isOverTriangle_36 : decode cX8_isOverTriangle 36 = .ok (.iload_n 3, 1) := by decide +kernel
theorem dX8_isOverTriangle_37 : decode cX8_isOverTriangle 37 = .ok (.invokevirtual 70, 3) := by decide +kernel
theorem dX8_isOverTriangle_40 : decode cX8_isOverTriangle 40 = .ok (.i2l, 1) := by decide +kernel
theorem dX8_isOverTriangle_41 : decode cX8_isOverTriangle 41 = .ok (.lstore 11, 2) := by decide +kernel
theorem dX8_isOverTriangle_43 : decode cX8_isOverTriangle 43 = .ok (.lload 5, 2) := by decide +kernel
theorem dX8_isOverTriangle_45 : decode cX8_isOverTriangle 45 = .ok (.lconst 0, 1) := by decide +kernel
theorem dX8_isOverTriangle_46 : decode cX8_isOverTriangle 46 = .ok (.lcmp, 1) := by decide +kernel
theorem dX8_isOverTriangle_47 : decode cX8_isOverTriangle 47 = .ok (.ifCond .ne 5, 3) := by decide +kernel
theorem dX8_isOverTriangle_50 : decode cX8_isOverTriangle 50 = .ok (.iconst 0, 1) := by decide +kernel
theorem dX8_isOverTriangle_51 : decode cX8_isOverTriangle 51 = .ok (.ireturn, 1) := by decide +kernel
theorem dX8_isOverTriangle_52 : decode cX8_isOverTriangle 52 = .ok (.lload 5, 2) := by decide +kernel
theorem dX8_isOverTriangle_54 : decode cX8_isOverTriangle 54 = .ok (.lconst 0, 1) := by decide +kernel
theorem dX8_isOverTriangle_55 : decode cX8_isOverTriangle 55 = .ok (.lcmp, 1) := by decide +kernel
theorem dX8_isOverTriangle_56 : decode cX8_isOverTriangle 56 = .ok (.ifCond .ge 9, 3) := by decide +kernel
theorem dX8_isOverTriangle_59 : decode cX8_isOverTriangle 59 = .ok (.ldc2_w 73, 3) := by decide +kernel
theorem dX8_isOverTriangle_62 : decode cX8_isOverTriangle 62 = .ok (.goto 4, 3) := by decide +kernel
theorem dX8_isOverTriangle_65 : decode cX8_isOverTriangle 65 = .ok (.lconst 1, 1) := by decide +kernel
theorem dX8_isOverTriangle_66 : decode cX8_isOverTriangle 66 = .ok (.lstore 13, 2) := by decide +kernel
theorem dX8_isOverTriangle_68 : decode cX8_isOverTriangle 68 = .ok (.lload 7, 2) := by decide +kernel
theorem dX8_isOverTriangle_70 : decode cX8_isOverTriangle 70 = .ok (.lload 13, 2) := by decide +kernel
theorem dX8_isOverTriangle_72 : decode cX8_isOverTriangle 72 = .ok (.lmul, 1) := by decide +kernel
theorem dX8_isOverTriangle_73 : decode cX8_isOverTriangle 73 = .ok (.lconst 0, 1) := by decide +kernel
theorem dX8_isOverTriangle_74 : decode cX8_isOverTriangle 74 = .ok (.lcmp, 1) := by decide +kernel
theorem dX8_isOverTriangle_75 : decode cX8_isOverTriangle 75 = .ok (.ifCond .lt 27, 3) := by decide +kernel
theorem dX8_isOverTriangle_78 : decode cX8_isOverTriangle 78 = .ok (.lload 9, 2) := by decide +kernel
theorem dX8_isOverTriangle_80 : decode cX8_isOverTriangle 80 = .ok (.lload 13, 2) := by decide +kernel
theorem dX8_isOverTriangle_82 : decode cX8_isOverTriangle 82 = .ok (.lmul, 1) := by decide +kernel
theorem dX8_isOverTriangle_83 : decode cX8_isOverTriangle 83 = .ok (.lconst 0, 1) := by decide +kernel
theorem dX8_isOverTriangle_84 : decode cX8_isOverTriangle 84 = .ok (.lcmp, 1) := by decide +kernel
theorem dX8_isOverTriangle_85 : decode cX8_isOverTriangle 85 = .ok (.ifCond .lt 17, 3) := by decide +kernel
theorem dX8_isOverTriangle_88 : decode cX8_isOverTriangle 88 = .ok (.lload 11, 2) := by decide +kernel
theorem dX8_isOverTriangle_90 : decode cX8_isOverTriangle 90 = .ok (.lload 13, 2) := by decide +kernel
theorem dX8_isOverTriangle_92 : decode cX8_isOverTriangle 92 = .ok (.lmul, 1) := by decide +kernel
theorem dX8_isOverTriangle_93 : decode cX8_isOverTriangle 93 = .ok (.lconst 0, 1) := by decide +kernel
theorem dX8_isOverTriangle_94 : decode cX8_isOverTriangle 94 = .ok (.lcmp, 1) := by decide +kernel
theorem dX8_isOverTriangle_95 : decode cX8_isOverTriangle 95 = .ok (.ifCond .lt 7, 3) := by decide +kernel
theorem dX8_isOverTriangle_98 : decode cX8_isOverTriangle 98 = .ok (.iconst 1, 1) := by decide +kernel
theorem dX8_isOverTriangle_99 : decode cX8_isOverTriangle 99 = .ok (.goto 4, 3) := by decide +kernel
theorem dX8_isOverTriangle_102 : decode cX8_isOverTriangle 102 = .ok (.iconst 0, 1) := by decide +kernel
theorem dX8_isOverTriangle_103 : decode cX8_isOverTriangle 103 = .ok (.istore 15, 2) := by decide +kernel
theorem dX8_isOverTriangle_105 : decode cX8_isOverTriangle 105 = .ok (.iload 15, 2) := by decide +kernel
theorem dX8_isOverTriangle_107 : decode cX8_isOverTriangle 107 = .ok (.ifCond .eq 56, 3) := by decide +kernel
theorem dX8_isOverTriangle_110 : decode cX8_isOverTriangle 110 = .ok (.aload_n 0, 1) := by decide +kernel
theorem dX8_isOverTriangle_111 : decode cX8_isOverTriangle 111 = .ok (.iload_n 1, 1) := by decide +kernel
theorem dX8_isOverTriangle_112 : decode cX8_isOverTriangle 112 = .ok (.invokevirtual 65, 3) := by decide +kernel
theorem dX8_isOverTriangle_115 : decode cX8_isOverTriangle 115 = .ok (.i2l, 1) := by decide +kernel
theorem dX8_isOverTriangle_116 : decode cX8_isOverTriangle 116 = .ok (.lload 5, 2) := by decide +kernel
theorem dX8_isOverTriangle_118 : decode cX8_isOverTriangle 118 = .ok (.lmul, 1) := by decide +kernel
theorem dX8_isOverTriangle_119 : decode cX8_isOverTriangle 119 = .ok (.lload 13, 2) := by decide +kernel
theorem dX8_isOverTriangle_121 : decode cX8_isOverTriangle 121 = .ok (.lmul, 1) := by decide +kernel
theorem dX8_isOverTriangle_122 : decode cX8_isOverTriangle 122 = .ok (.lload 7, 2) := by decide +kernel
theorem dX8_isOverTriangle_124 : decode cX8_isOverTriangle 124 = .ok (.aload_n 0, 1) := by decide +kernel
theorem dX8_isOverTriangle_125 : decode cX8_isOverTriangle 125 = .ok (.iload_n 2, 1) := by decide +kernel
theorem dX8_isOverTriangle_126 : decode cX8_isOverTriangle 126 = .ok (.invokevirtual 65, 3) := by decide +kernel
theorem dX8_isOverTriangle_129 : decode cX8_isOverTriangle 129 = .ok (.i2l, 1) := by decide +kernel
theorem dX8_isOverTriangle_130 : decode cX8_isOverTriangle 130 = .ok (.lmul, 1) := by decide +kernel
theorem dX8_isOverTriangle_131 : decode cX8_isOverTriangle 131 = .ok (.lload 9, 2) := by decide +kernel
theorem dX8_isOverTriangle_133 : decode cX8_isOverTriangle 133 = .ok (.aload_n 0, 1) := by decide +kernel
theorem dX8_isOverTriangle_134 : decode cX8_isOverTriangle 134 = .ok (.iload_n 3, 1) := by decide +kernel
theorem dX8_isOverTriangle_135 : decode cX8_isOverTriangle 135 = .ok (.invokevirtual 65, 3) := by decide +kernel
theorem dX8_isOverTriangle_138 : decode cX8_isOverTriangle 138 = .ok (.i2l, 1) := by decide +kernel
theorem dX8_isOverTriangle_139 : decode cX8_isOverTriangle 139 = .ok (.lmul, 1) := by decide +kernel
theorem dX8_isOverTriangle_140 : decode cX8_isOverTriangle 140 = .ok (.ladd, 1) := by decide +kernel
theorem dX8_isOverTriangle_141 : decode cX8_isOverTriangle 141 = .ok (.lload 11, 2) := by decide +kernel
theorem dX8_isOverTriangle_143 : decode cX8_isOverTriangle 143 = .ok (.aload_n 0, 1) := by decide +kernel
theorem dX8_isOverTriangle_144 : decode cX8_isOverTriangle 144 = .ok (.iload 4, 2) := by decide +kernel
theorem dX8_isOverTriangle_146 : decode cX8_isOverTriangle 146 = .ok (.invokevirtual 65, 3) := by decide +kernel
theorem dX8_isOverTriangle_149 : decode cX8_isOverTriangle 149 = .ok (.i2l, 1) := by decide +kernel
theorem dX8_isOverTriangle_150 : decode cX8_isOverTriangle 150 = .ok (.lmul, 1) := by decide +kernel
theorem dX8_isOverTriangle_151 : decode cX8_isOverTriangle 151 = .ok (.ladd, 1) := by decide +kernel
theorem dX8_isOverTriangle_152 : decode cX8_isOverTriangle 152 = .ok (.lload 13, 2) := by decide +kernel
theorem dX8_isOverTriangle_154 : decode cX8_isOverTriangle 154 = .ok (.lmul, 1) := by decide +kernel
theorem dX8_isOverTriangle_155 : decode cX8_isOverTriangle 155 = .ok (.lcmp, 1) := by decide +kernel
theorem dX8_isOverTriangle_156 : decode cX8_isOverTriangle 156 = .ok (.ifCond .lt 7, 3) := by decide +kernel
theorem dX8_isOverTriangle_159 : decode cX8_isOverTriangle 159 = .ok (.iconst 1, 1) := by decide +kernel
theorem dX8_isOverTriangle_160 : decode cX8_isOverTriangle 160 = .ok (.goto 4, 3) := by decide +kernel
theorem dX8_isOverTriangle_163 : decode cX8_isOverTriangle 163 = .ok (.iconst 0, 1) := by decide +kernel
theorem dX8_isOverTriangle_164 : decode cX8_isOverTriangle 164 = .ok (.ireturn, 1) := by decide +kernel
set_option maxRecDepth 20000 in
theorem ggX8_isHidden_X8_isSite : GoodIn wsX8_isHidden wsX8_isSite := goodIn_r _ [7, 2, 8, 9, 6, 10, 31, 32, 33, 34, 35, 36, 37, 38, 39, 40, 41, 42, 43, 44, 45, 46, 47] (by decide +kernel) (by decide +kernel)
set_option maxRecDepth 20000 in
theorem gX8_isHidden_X8_isSite : GoodIn wsX8_isHidden (wsV RX8 39 RX8 yX8_isSite wsX8_isSite) := goodIn_app (goodIn_of _ (by decide +kernel)) ggX8_isHidden_X8_isSite
set_option maxRecDepth 20000 in
theorem ggX8_isHidden_X8_isOverPair : GoodIn wsX8_isHidden wsX8_isOverPair := goodIn_r _ [14, 15, 16, 17, 18, 19, 6, 20, 21, 22, 23, 24, 25, 31, 32, 33, 34, 35, 36, 37, 38, 39, 40, 41, 42, 43, 44, 45, 46, 47] (by decide +kernel) (by decide +kernel)
set_option maxRecDepth 20000 in
theorem gX8_isHidden_X8_isOverPair : GoodIn wsX8_isHidden (wsV RX8 75 RX8 yX8_isOverPair wsX8_isOverPair) := goodIn_app (goodIn_of _ (by decide +kernel)) ggX8_isHidden_X8_isOverPair
set_option maxRecDepth 20000 in
theorem ggX8_isHidden_X8_isOverTriangle : GoodIn wsX8_isHidden wsX8_isOverTriangle := goodIn_r _ [29, 30, 22, 23, 24, 6, 25, 15, 16, 17, 18, 19, 20, 21, 31, 32, 33, 34, 35, 36, 37, 38, 39, 40, 41, 42, 43, 44, 45, 46, 47] (by decide +kernel) (by decide +kernel)
set_option maxRecDepth 20000 in
theorem gX8_isHidden_X8_isOverTriangle : GoodIn wsX8_isHidden (wsV RX8 78 RX8 yX8_isOverTriangle wsX8_isOverTriangle) := goodIn_app (goodIn_of _ (by decide +kernel)) ggX8_isHidden_X8_isOverTriangle
theorem dX8_isHidden_0 : decode cX8_isHidden 0 = .ok (.aload_n 0, 1) := by decide +kernel
theorem dX8_isHidden_1 : decode cX8_isHidden 1 = .ok (.aload_n 0, 1) := by decide +kernel
theorem dX8_isHidden_2 : decode cX8_isHidden 2 = .ok (.iload_n 1, 1) := by decide +kernel
theorem dX8_isHidden_3 : decode cX8_isHidden 3 = .ok (.invokevirtual 39, 3) := by decide +kernel
theorem dX8_isHidden_6 : decode cX8_isHidden 6 = .ok (.ifCond .eq 7, 3) := by decide +kernel
theorem dX8_isHidden_9 : decode cX8_isHidden 9 = .ok (.iconst 0, 1) := by decide +kernel
theorem dX8_isHidden_10 : decode cX8_isHidden 10 = .ok (.goto 4, 3) := by decide +kernel
theorem dX8_isHidden_13 : decode cX8_isHidden 13 = .ok (.iconst 1, 1) := by decide +kernel
theorem dX8_isHidden_14 : decode cX8_isHidden 14 = .ok (.putfield 28, 3) := by decide +kernel
theorem dX8_isHidden_17 : decode cX8_isHidden 17 = .ok (.iconst 0, 1) := by decide +kernel
theorem dX8_isHidden_18 : decode cX8_isHidden 18 = .ok (.istore_n 2, 1) := by decide +kernel
theorem dX8_isHidden_19 : decode cX8_isHidden 19 = .ok (.iconst 0, 1) := by decide +kernel
theorem dX8_isHidden_20 : decode cX8_isHidden 20 = .ok (.istore_n 3, 1) := by decide +kernel
theorem dX8_isHidden_21 : decode cX8_isHidden 21 = .ok (.iload_n 3, 1) := by decide +kernel
theorem dX8_isHidden_22 : decode cX8_isHidden 22 = .ok (.aload_n 0, 1) := by decide +kernel
theorem dX8_isHidden_23 : decode cX8_isHidden 23 = .ok (.getfield 32, 3) := by decide +kernel
theorem dX8_isHidden_26 : decode cX8_isHidden 26 = .ok (.if_icmp .ge 133, 3) := by decide +kernel
theorem dX8_isHidden_29 : decode cX8_isHidden 29 = .ok (.aload_n 0, 1) := by decide +kernel
theorem dX8_isHidden_30 : decode cX8_isHidden 30 = .ok (.getfield 28, 3) := by decide +kernel
theorem dX8_isHidden_33 : decode cX8_isHidden 33 = .ok (.ifCond .ne 126, 3) := by decide +kernel
theorem dX8_isHidden_36 : decode cX8_isHidden 36 = .ok (.iload_n 3, 1) := by decide +kernel
theorem dX8_isHidden_37 : decode cX8_isHidden 37 = .ok (.istore 4, 2) := by decide +kernel
theorem dX8_isHidden_39 : decode cX8_isHidden 39 = .ok (.iload 4, 2) := by decide +kernel
theorem dX8_isHidden_41 : decode cX8_isHidden 41 = .ok (.aload_n 0, 1) := by decide +kernel
theorem dX8_isHidden_42 : decode cX8_isHidden 42 = .ok (.getfield 32, 3) := by decide +kernel
theorem dX8_isHidden_45 : decode cX8_isHidden 45 = .ok (.if_icmp .ge 108, 3) := by decide +kernel
theorem dX8_isHidden_48 : decode cX8_isHidden 48 = .ok (.iload_n 2, 1) := by decide +kernel
theorem dX8_isHidden_49 : decode cX8_isHidden 49 = .ok (.ifCond .ne 25, 3) := by decide +kernel
theorem dX8_isHidden_52 : decode cX8_isHidden 52 = .ok (.iload_n 3, 1) := by decide +kernel
theorem dX8_isHidden_53 : decode cX8_isHidden 53 = .ok (.iload_n 1, 1) := by decide +kernel
theorem dX8_isHidden_54 : decode cX8_isHidden 54 = .ok (.if_icmp .eq 24, 3) := by decide +kernel
theorem dX8_isHidden_57 : decode cX8_isHidden 57 = .ok (.iload 4, 2) := by decide +kernel
theorem dX8_isHidden_59 : decode cX8_isHidden 59 = .ok (.iload_n 1, 1) := by decide +kernel
theorem dX8_isHidden_60 : decode cX8_isHidden 60 = .ok (.if_icmp .eq 18, 3) := by decide +kernel
theorem dX8_isHidden_63 : decode cX8_isHidden 63 = .ok (.aload_n 0, 1) := by decide +kernel
theorem dX8_isHidden_64 : decode cX8_isHidden 64 = .ok (.iload_n 1, 1) := by decide +kernel
theorem dX8_isHidden_65 : decode cX8_isHidden 65 = .ok (.iload_n 3, 1) := by decide +kernel
theorem dX8_isHidden_66 : decode cX8_isHidden 66 = .ok (.iload 4, 2) := by decide +kernel
theorem dX8_isHidden_68 : decode cX8_isHidden 68 = .ok (.invokevirtual 75, 3) := by decide +kernel
theorem dX8_isHidden_71 : decode cX8_isHidden 71 = .ok (.ifCond .eq 7, 3) := by decide +kernel
theorem dX8_isHidden_74 : decode cX8_isHidden 74 = .ok (.iconst 1, 1) := by decide +kernel
theorem dX8_isHidden_75 : decode cX8_isHidden 75 = .ok (.goto 4, 3) := by decide +kernel
theorem dX8_isHidden_78 : decode cX8_isHidden 78 = .ok (.iconst 0, 1) := by decide +kernel
theorem dX8_isHidden_79 : decode cX8_isHidden 79 = .ok (.istore_n 2, 1) := by decide +kernel
theorem dX8_isHidden_80 : decode cX8_isHidden 80 = .ok (.iload 4, 2) := by decide +kernel
theorem dX8_isHidden_82 : decode cX8_isHidden 82 = .ok (.iconst 1, 1) := by decide +kernel
theorem dX8_isHidden_83 : decode cX8_isHidden 83 = .ok (.iadd, 1) := by decide +kernel
theorem dX8_isHidden_84 : decode cX8_isHidden 84 = .ok (.istore 5, 2) := by decide +kernel
theorem dX8_isHidden_86 : decode cX8_isHidden 86 = .ok (.iload 5, 2) := by decide +kernel
theorem dX8_isHidden_88 : decode cX8_isHidden 88 = .ok (.aload_n 0, 1) := by decide +kernel
theorem dX8_isHidden_89 : decode cX8_isHidden 89 = .ok (.getfield 32, 3) := by decide +kernel
theorem dX8_isHidden_92 : decode cX8_isHidden 92 = .ok (.if_icmp .ge 55, 3) := by decide +kernel
theorem dX8_isHidden_95 : decode cX8_isHidden 95 = .ok (.iload_n 2, 1) := by decide +kernel
theorem dX8_isHidden_96 : decode cX8_isHidden 96 = .ok (.ifCond .ne 39, 3) := by decide +kernel
theorem dX8_isHidden_99 : decode cX8_isHidden 99 = .ok (.iload_n 3, 1) := by decide +kernel
theorem dX8_isHidden_100 : decode cX8_isHidden 100 = .ok (.iload_n 1, 1) := by decide +kernel
theorem dX8_isHidden_101 : decode cX8_isHidden 101 = .ok (.if_icmp .eq 38, 3) := by decide +kernel
theorem dX8_isHidden_104 : decode cX8_isHidden 104 = .ok (.iload 4, 2) := by decide +kernel
theorem dX8_isHidden_106 : decode cX8_isHidden 106 = .ok (.iload_n 1, 1) := by decide +kernel
theorem dX8_isHidden_107 : decode cX8_isHidden 107 = .ok (.if_icmp .eq 32, 3) := by decide +kernel
theorem dX8_isHidden_110 : decode cX8_isHidden 110 = .ok (.iload 5, 2) := by decide +kernel
theorem dX8_isHidden_112 : decode cX8_isHidden 112 = .ok (.iload_n 1, 1) := by decide +kernel
theorem dX8_isHidden_113 : decode cX8_isHidden 113 = .ok (.if_icmp .eq 26, 3) := by decide +kernel
theorem dX8_isHidden_116 : decode cX8_isHidden 116 = .ok (.iload_n 3, 1) := by decide +kernel
theorem dX8_isHidden_117 : decode cX8_isHidden 117 = .ok (.iload 4, 2) := by decide +kernel
theorem dX8_isHidden_119 : decode cX8_isHidden 119 = .ok (.if_icmp .eq 20, 3) := by decide +kernel
theorem dX8_isHidden_122 : decode cX8_isHidden 122 = .ok (.aload_n 0, 1) := by decide +kernel
theorem dX8_isHidden_123 : decode cX8_isHidden 123 = .ok (.iload_n 1, 1) := by decide +kernel
theorem dX8_isHidden_124 : decode cX8_isHidden 124 = .ok (.iload_n 3, 1) := by decide +kernel
theorem dX8_isHidden_125 : decode cX8_isHidden 125 = .ok (.iload 4, 2) := by decide +kernel
theorem dX8_isHidden_127 : decode cX8_isHidden 127 = .ok (.iload 5, 2) := by decide +kernel
theorem dX8_isHidden_129 : decode cX8_isHidden 129 = .ok (.invokevirtual 78, 3) := by decide +kernel
theorem dX8_isHidden_132 : decode cX8_isHidden 132 = .ok (.ifCond .eq 7, 3) := by decide +kernel
theorem dX8_isHidden_135 : decode cX8_isHidden 135 = .ok (.iconst 1, 1) := by decide +kernel
theorem dX8_isHidden_136 : decode cX8_isHidden 136 = .ok (.goto 4, 3) := by decide +kernel
theorem dX8_isHidden_139 : decode cX8_isHidden 139 = .ok (.iconst 0, 1) := by decide +kernel
theorem dX8_isHidden_140 : decode cX8_isHidden 140 = .ok (.istore_n 2, 1) := by decide +kernel
theorem dX8_isHidden_141 : decode cX8_isHidden 141 = .ok (.iinc 5 1, 3) := by decide +kernel
theorem dX8_isHidden_144 : decode cX8_isHidden 144 = .ok (.goto (-58), 3) := by decide +kernel
theorem dX8_isHidden_147 : decode cX8_isHidden 147 = .ok (.iinc 4 1, 3) := by decide +kernel
theorem dX8_isHidden_150 : decode cX8_isHidden 150 = .ok (.goto (-111), 3) := by decide +kernel
theorem dX8_isHidden_153 : decode cX8_isHidden 153 = .ok (.iinc 3 1, 3) := by decide +kernel
theorem dX8_isHidden_156 : decode cX8_isHidden 156 = .ok (.goto (-135), 3) := by decide +kernel
theorem dX8_isHidden_159 : decode cX8_isHidden 159 = .ok (.iload_n 2, 1) := by decide +kernel
theorem dX8_isHidden_160 : decode cX8_isHidden 160 = .ok (.ireturn, 1) := by decide +kernel
theorem dX8_cuts_0 : decode cX8_cuts 0 = .ok (.lload_n 1, 1) := by decide +kernel
theorem dX8_cuts_1 : decode cX8_cuts 1 = .ok (.lconst 0, 1) := by decide +kernel
theorem dX8_cuts_2 : decode cX8_cuts 2 = .ok (.lcmp, 1) := by decide +kernel
theorem dX8_cuts_3 : decode cX8_cuts 3 = .ok (.ifCond .ne 28, 3) := by decide +kernel
theorem dX8_cuts_6 : decode cX8_cuts 6 = .ok (.aload_n 0, 1) := by decide +kernel
theorem dX8_cuts_7 : decode cX8_cuts 7 = .ok (.aload_n 0, 1) := by decide +kernel
theorem dX8_cuts_8 : decode cX8_cuts 8 = .ok (.getfield 82, 3) := by decide +kernel
theorem dX8_cuts_11 : decode cX8_cuts 11 = .ok (.ifCond .ne 9, 3) := by decide +kernel
theorem dX8_cuts_14 : decode cX8_cuts 14 = .ok (.lload_n 3, 1) := by decide +kernel
theorem dX8_cuts_15 : decode cX8_cuts 15 = .ok (.lconst 0, 1) := by decide +kernel
theorem dX8_cuts_16 : decode cX8_cuts 16 = .ok (.lcmp, 1) := by decide +kernel
theorem dX8_cuts_17 : decode cX8_cuts 17 = .ok (.ifCond .ge 7, 3) := by decide +kernel
theorem dX8_cuts_20 : decode cX8_cuts 20 = .ok (.iconst 1, 1) := by decide +kernel
theorem dX8_cuts_21 : decode cX8_cuts 21 = .ok (.goto 4, 3) := by decide +kernel
theorem dX8_cuts_24 : decode cX8_cuts 24 = .ok (.iconst 0, 1) := by decide +kernel
theorem dX8_cuts_25 : decode cX8_cuts 25 = .ok (.putfield 82, 3) := by decide +kernel
theorem dX8_cuts_28 : decode cX8_cuts 28 = .ok (.goto 130, 3) := by decide +kernel
theorem dX8_cuts_31 : decode cX8_cuts 31 = .ok (.lload_n 1, 1) := by decide +kernel
theorem dX8_cuts_32 : decode cX8_cuts 32 = .ok (.lconst 0, 1) := by decide +kernel
theorem dX8_cuts_33 : decode cX8_cuts 33 = .ok (.lcmp, 1) := by decide +kernel
theorem dX8_cuts_34 : decode cX8_cuts 34 = .ok (.ifCond .le 63, 3) := by decide +kernel
theorem dX8_cuts_37 : decode cX8_cuts 37 = .ok (.lload_n 3, 1) := by decide +kernel
theorem dX8_cuts_38 : decode cX8_cuts 38 = .ok (.aload_n 0, 1) := by decide +kernel
theorem dX8_cuts_39 : decode cX8_cuts 39 = .ok (.getfield 86, 3) := by decide +kernel
theorem dX8_cuts_42 : decode cX8_cuts 42 = .ok (.lmul, 1) := by decide +kernel
theorem dX8_cuts_43 : decode cX8_cuts 43 = .ok (.aload_n 0, 1) := by decide +kernel
theorem dX8_cuts_44 : decode cX8_cuts 44 = .ok (.getfield 90, 3) := by decide +kernel
theorem dX8_cuts_47 : decode cX8_cuts 47 = .ok (.lload_n 1, 1) := by decide +kernel
theorem dX8_cuts_48 : decode cX8_cuts 48 = .ok (.lmul, 1) := by decide +kernel
theorem dX8_cuts_49 : decode cX8_cuts 49 = .ok (.lcmp, 1) := by decide +kernel
theorem dX8_cuts_50 : decode cX8_cuts 50 = .ok (.ifCond .ge 7, 3) := by decide +kernel
theorem dX8_cuts_53 : decode cX8_cuts 53 = .ok (.iconst 1, 1) := by decide +kernel
theorem dX8_cuts_54 : decode cX8_cuts 54 = .ok (.goto 4, 3) := by decide +kernel
theorem dX8_cuts_57 : decode cX8_cuts 57 = .ok (.iconst 0, 1) := by decide +kernel
theorem dX8_cuts_58 : decode cX8_cuts 58 = .ok (.istore 5, 2) := by decide +kernel
theorem dX8_cuts_60 : decode cX8_cuts 60 = .ok (.aload_n 0, 1) := by decide +kernel
theorem dX8_cuts_61 : decode cX8_cuts 61 = .ok (.iload 5, 2) := by decide +kernel
theorem dX8_cuts_63 : decode cX8_cuts 63 = .ok (.ifCond .eq 7, 3) := by decide +kernel
theorem dX8_cuts_66 : decode cX8_cuts 66 = .ok (.lload_n 3, 1) := by decide +kernel
theorem dX8_cuts_67 : decode cX8_cuts 67 = .ok (.goto 7, 3) := by decide +kernel
theorem dX8_cuts_70 : decode cX8_cuts 70 = .ok (.aload_n 0, 1) := by decide +kernel
theorem dX8_cuts_71 : decode cX8_cuts 71 = .ok (.getfield 90, 3) := by decide +kernel
theorem dX8_cuts_74 : decode cX8_cuts 74 = .ok (.putfield 90, 3) := by decide +kernel
theorem dX8_cuts_77 : decode cX8_cuts 77 = .ok (.aload_n 0, 1) := by decide +kernel
theorem dX8_cuts_78 : decode cX8_cuts 78 = .ok (.iload 5, 2) := by decide +kernel
theorem dX8_cuts_80 : decode cX8_cuts 80 = .ok (.ifCond .eq 7, 3) := by decide +kernel
theorem dX8_cuts_83 : decode cX8_cuts 83 = .ok (.lload_n 1, 1) := by decide +kernel
theorem dX8_cuts_84 : decode cX8_cuts 84 = .ok (.goto 7, 3) := by decide +kernel
theorem dX8_cuts_87 : decode cX8_cuts 87 = .ok (.aload_n 0, 1) := by decide +kernel
theorem dX8_cuts_88 : decode cX8_cuts 88 = .ok (.getfield 86, 3) := by decide +kernel
theorem dX8_cuts_91 : decode cX8_cuts 91 = .ok (.putfield 86, 3) := by decide +kernel
theorem dX8_cuts_94 : decode cX8_cuts 94 = .ok (.goto 64, 3) := by decide +kernel
theorem dX8_cuts_97 : decode cX8_cuts 97 = .ok (.lload_n 3, 1) := by decide +kernel
theorem dX8_cuts_98 : decode cX8_cuts 98 = .ok (.lneg, 1) := by decide +kernel
theorem dX8_cuts_99 : decode cX8_cuts 99 = .ok (.aload_n 0, 1) := by decide +kernel
theorem dX8_cuts_100 : decode cX8_cuts 100 = .ok (.getfield 93, 3) := by decide +kernel
theorem dX8_cuts_103 : decode cX8_cuts 103 = .ok (.lmul, 1) := by decide +kernel
theorem dX8_cuts_104 : decode cX8_cuts 104 = .ok (.aload_n 0, 1) := by decide +kernel
theorem dX8_cuts_105 : decode cX8_cuts 105 = .ok (.getfield 96, 3) := by decide +kernel
theorem dX8_cuts_108 : decode cX8_cuts 108 = .ok (.lload_n 1, 1) := by decide +kernel
theorem dX8_cuts_109 : decode cX8_cuts 109 = .ok (.lneg, 1) := by decide +kernel
theorem dX8_cuts_110 : decode cX8_cuts 110 = .ok (.lmul, 1) := by decide +kernel
theorem dX8_cuts_111 : decode cX8_cuts 111 = .ok (.lcmp, 1) := by decide +kernel
theorem dX8_cuts_112 : decode cX8_cuts 112 = .ok (.ifCond .le 7, 3) := by decide +kernel
theorem dX8_cuts_115 : decode cX8_cuts 115 = .ok (.iconst 1, 1) := by decide +kernel
theorem dX8_cuts_116 : decode cX8_cuts 116 = .ok (.goto 4, 3) := by decide +kernel
theorem dX8_cuts_119 : decode cX8_cuts 119 = .ok (.iconst 0, 1) := by decide +kernel
theorem dX8_cuts_120 : decode cX8_cuts 120 = .ok (.istore 5, 2) := by decide +kernel
theorem dX8_cuts_122 : decode cX8_cuts 122 = .ok (.aload_n 0, 1) := by decide +kernel
theorem dX8_cuts_123 : decode cX8_cuts 123 = .ok (.iload 5, 2) := by decide +kernel
theorem dX8_cuts_125 : decode cX8_cuts 125 = .ok (.ifCond .eq 8, 3) := by decide +kernel
theorem dX8_cuts_128 : decode cX8_cuts 128 = .ok (.lload_n 3, 1) := by decide +kernel
theorem dX8_cuts_129 : decode cX8_cuts 129 = .ok (.lneg, 1) := by decide +kernel
theorem dX8_cuts_130 : decode cX8_cuts 130 = .ok (.goto 7, 3) := by decide +kernel
theorem dX8_cuts_133 : decode cX8_cuts 133 = .ok (.aload_n 0, 1) := by decide +kernel
theorem dX8_cuts_134 : decode cX8_cuts 134 = .ok (.getfield 96, 3) := by decide +kernel
theorem dX8_cuts_137 : decode cX8_cuts 137 = .ok (.putfield 96, 3) := by decide +kernel
theorem dX8_cuts_140 : decode cX8_cuts 140 = .ok (.aload_n 0, 1) := by decide +kernel
theorem dX8_cuts_141 : decode cX8_cuts 141 = .ok (.iload 5, 2) := by decide +kernel
theorem dX8_cuts_143 : decode cX8_cuts 143 = .ok (.ifCond .eq 8, 3) := by decide +kernel
theorem dX8_cuts_146 : decode cX8_cuts 146 = .ok (.lload_n 1, 1) := by decide +kernel
theorem dX8_cuts_147 : decode cX8_cuts 147 = .ok (.lneg, 1) := by decide +kernel
theorem dX8_cuts_148 : decode cX8_cuts 148 = .ok (.goto 7, 3) := by decide +kernel
theorem dX8_cuts_151 : decode cX8_cuts 151 = .ok (.aload_n 0, 1) := by decide +kernel
theorem dX8_cuts_152 : decode cX8_cuts 152 = .ok (.getfield 93, 3) := by decide +kernel
theorem dX8_cuts_155 : decode cX8_cuts 155 = .ok (.putfield 93, 3) := by decide +kernel
theorem dX8_cuts_158 : decode cX8_cuts 158 = .ok (.return_, 1) := by decide +kernel
set_option maxRecDepth 20000 in
theorem ggX8_keeps_X8_cuts : GoodIn wsX8_keeps wsX8_cuts := goodIn_r _ [10, 11, 12, 13, 14, 15, 16, 17, 18, 19, 20, 21, 22, 23, 24, 25, 26, 27, 28, 29, 30, 31, 32] (by decide +kernel) (by decide +kernel)
set_option maxRecDepth 20000 in
theorem gX8_keeps_X8_cuts : GoodIn wsX8_keeps (wsV RX8 108 RX8 yX8_cuts wsX8_cuts) := goodIn_app (goodIn_of _ (by decide +kernel)) ggX8_keeps_X8_cuts
theorem dX8_keeps_0 : decode cX8_keeps 0 = .ok (.aload_n 0, 1) := by decide +kernel
theorem dX8_keeps_1 : decode cX8_keeps 1 = .ok (.getfield 99, 3) := by decide +kernel
theorem dX8_keeps_4 : decode cX8_keeps 4 = .ok (.ifCond .eq 56, 3) := by decide +kernel
theorem dX8_keeps_7 : decode cX8_keeps 7 = .ok (.aload_n 0, 1) := by decide +kernel
theorem dX8_keeps_8 : decode cX8_keeps 8 = .ok (.getfield 102, 3) := by decide +kernel
theorem dX8_keeps_11 : decode cX8_keeps 11 = .ok (.ifCond .ge 9, 3) := by decide +kernel
theorem dX8_keeps_14 : decode cX8_keeps 14 = .ok (.ldc2_w 73, 3) := by decide +kernel
theorem dX8_keeps_17 : decode cX8_keeps 17 = .ok (.goto 4, 3) := by decide +kernel
theorem dX8_keeps_20 : decode cX8_keeps 20 = .ok (.lconst 1, 1) := by decide +kernel
theorem dX8_keeps_21 : decode cX8_keeps 21 = .ok (.lstore 4, 2) := by decide +kernel
theorem dX8_keeps_23 : decode cX8_keeps 23 = .ok (.aload_n 0, 1) := by decide +kernel
theorem dX8_keeps_24 : decode cX8_keeps 24 = .ok (.iload_n 2, 1) := by decide +kernel
theorem dX8_keeps_25 : decode cX8_keeps 25 = .ok (.aload_n 0, 1) := by decide +kernel
theorem dX8_keeps_26 : decode cX8_keeps 26 = .ok (.getfield 102, 3) := by decide +kernel
theorem dX8_keeps_29 : decode cX8_keeps 29 = .ok (.imul, 1) := by decide +kernel
theorem dX8_keeps_30 : decode cX8_keeps 30 = .ok (.i2l, 1) := by decide +kernel
theorem dX8_keeps_31 : decode cX8_keeps 31 = .ok (.lload 4, 2) := by decide +kernel
theorem dX8_keeps_33 : decode cX8_keeps 33 = .ok (.lmul, 1) := by decide +kernel
theorem dX8_keeps_34 : decode cX8_keeps 34 = .ok (.iload_n 3, 1) := by decide +kernel
theorem dX8_keeps_35 : decode cX8_keeps 35 = .ok (.i2l, 1) := by decide +kernel
theorem dX8_keeps_36 : decode cX8_keeps 36 = .ok (.aload_n 0, 1) := by decide +kernel
theorem dX8_keeps_37 : decode cX8_keeps 37 = .ok (.getfield 102, 3) := by decide +kernel
theorem dX8_keeps_40 : decode cX8_keeps 40 = .ok (.i2l, 1) := by decide +kernel
theorem dX8_keeps_41 : decode cX8_keeps 41 = .ok (.lmul, 1) := by decide +kernel
theorem dX8_keeps_42 : decode cX8_keeps 42 = .ok (.iload_n 1, 1) := by decide +kernel
theorem dX8_keeps_43 : decode cX8_keeps 43 = .ok (.i2l, 1) := by decide +kernel
theorem dX8_keeps_44 : decode cX8_keeps 44 = .ok (.aload_n 0, 1) := by decide +kernel
theorem dX8_keeps_45 : decode cX8_keeps 45 = .ok (.getfield 105, 3) := by decide +kernel
theorem dX8_keeps_48 : decode cX8_keeps 48 = .ok (.i2l, 1) := by decide +kernel
theorem dX8_keeps_49 : decode cX8_keeps 49 = .ok (.lmul, 1) := by decide +kernel
theorem dX8_keeps_50 : decode cX8_keeps 50 = .ok (.lsub, 1) := by decide +kernel
theorem dX8_keeps_51 : decode cX8_keeps 51 = .ok (.lload 4, 2) := by decide +kernel
theorem dX8_keeps_53 : decode cX8_keeps 53 = .ok (.lmul, 1) := by decide +kernel
theorem dX8_keeps_54 : decode cX8_keeps 54 = .ok (.invokevirtual 108, 3) := by decide +kernel
theorem dX8_keeps_57 : decode cX8_keeps 57 = .ok (.goto 60, 3) := by decide +kernel
theorem dX8_keeps_60 : decode cX8_keeps 60 = .ok (.aload_n 0, 1) := by decide +kernel
theorem dX8_keeps_61 : decode cX8_keeps 61 = .ok (.getfield 112, 3) := by decide +kernel
