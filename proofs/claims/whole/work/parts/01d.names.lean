theorem dX4_add_27 : decode cX4_add 27 = .ok (.getfield 19, 3) := by decide +kernel
theorem dX4_add_30 : decode cX4_add 30 = .ok (.iload 4, 2) := by decide +kernel
theorem dX4_add_32 : decode cX4_add 32 = .ok (.iload_n 3, 1) := by decide +kernel
theorem dX4_add_33 : decode cX4_add 33 = .ok (.invokevirtual 29, 3) := by decide +kernel
theorem dX4_add_36 : decode cX4_add 36 = .ok (.aload_n 0, 1) := by decide +kernel
theorem dX4_add_37 : decode cX4_add 37 = .ok (.iload 4, 2) := by decide +kernel
theorem dX4_add_39 : decode cX4_add 39 = .ok (.iconst 1, 1) := by decide +kernel
theorem dX4_add_40 : decode cX4_add 40 = .ok (.iadd, 1) := by decide +kernel
theorem dX4_add_41 : decode cX4_add 41 = .ok (.putfield 25, 3) := by decide +kernel
theorem dX4_add_44 : decode cX4_add 44 = .ok (.iload 4, 2) := by decide +kernel
theorem dX4_add_46 : decode cX4_add 46 = .ok (.ireturn, 1) := by decide +kernel
set_option maxRecDepth 20000 in
theorem ggX4_powerAt_X5_at : GoodIn wsX4_powerAt wsX5_at := goodIn_r _ [8, 9, 15] (by decide +kernel) (by decide +kernel)
set_option maxRecDepth 20000 in
theorem gX4_powerAt_X5_at : GoodIn wsX4_powerAt (wsV RX4 33 RX5 yX5_at wsX5_at) := goodIn_app (goodIn_of _ (by decide +kernel)) ggX4_powerAt_X5_at
theorem dX4_powerAt_0 : decode cX4_powerAt 0 = .ok (.iload_n 2, 1) := by decide +kernel
theorem dX4_powerAt_1 : decode cX4_powerAt 1 = .ok (.aload_n 0, 1) := by decide +kernel
theorem dX4_powerAt_2 : decode cX4_powerAt 2 = .ok (.getfield 10, 3) := by decide +kernel
theorem dX4_powerAt_5 : decode cX4_powerAt 5 = .ok (.iload_n 1, 1) := by decide +kernel
theorem dX4_powerAt_6 : decode cX4_powerAt 6 = .ok (.invokevirtual 33, 3) := by decide +kernel
theorem dX4_powerAt_9 : decode cX4_powerAt 9 = .ok (.isub, 1) := by decide +kernel
theorem dX4_powerAt_10 : decode cX4_powerAt 10 = .ok (.istore 4, 2) := by decide +kernel
theorem dX4_powerAt_12 : decode cX4_powerAt 12 = .ok (.iload_n 3, 1) := by decide +kernel
theorem dX4_powerAt_13 : decode cX4_powerAt 13 = .ok (.aload_n 0, 1) := by decide +kernel
theorem dX4_powerAt_14 : decode cX4_powerAt 14 = .ok (.getfield 16, 3) := by decide +kernel
theorem dX4_powerAt_17 : decode cX4_powerAt 17 = .ok (.iload_n 1, 1) := by decide +kernel
theorem dX4_powerAt_18 : decode cX4_powerAt 18 = .ok (.invokevirtual 33, 3) := by decide +kernel
theorem dX4_powerAt_21 : decode cX4_powerAt 21 = .ok (.isub, 1) := by decide +kernel
theorem dX4_powerAt_22 : decode cX4_powerAt 22 = .ok (.istore 5, 2) := by decide +kernel
theorem dX4_powerAt_24 : decode cX4_powerAt 24 = .ok (.iload 4, 2) := by decide +kernel
theorem dX4_powerAt_26 : decode cX4_powerAt 26 = .ok (.iload 4, 2) := by decide +kernel
theorem dX4_powerAt_28 : decode cX4_powerAt 28 = .ok (.imul, 1) := by decide +kernel
theorem dX4_powerAt_29 : decode cX4_powerAt 29 = .ok (.iload 5, 2) := by decide +kernel
theorem dX4_powerAt_31 : decode cX4_powerAt 31 = .ok (.iload 5, 2) := by decide +kernel
theorem dX4_powerAt_33 : decode cX4_powerAt 33 = .ok (.imul, 1) := by decide +kernel
theorem dX4_powerAt_34 : decode cX4_powerAt 34 = .ok (.iadd, 1) := by decide +kernel
theorem dX4_powerAt_35 : decode cX4_powerAt 35 = .ok (.aload_n 0, 1) := by decide +kernel
theorem dX4_powerAt_36 : decode cX4_powerAt 36 = .ok (.getfield 19, 3) := by decide +kernel
theorem dX4_powerAt_39 : decode cX4_powerAt 39 = .ok (.iload_n 1, 1) := by decide +kernel
theorem dX4_powerAt_40 : decode cX4_powerAt 40 = .ok (.invokevirtual 33, 3) := by decide +kernel
theorem dX4_powerAt_43 : decode cX4_powerAt 43 = .ok (.isub, 1) := by decide +kernel
theorem dX4_powerAt_44 : decode cX4_powerAt 44 = .ok (.ireturn, 1) := by decide +kernel
set_option maxRecDepth 20000 in
theorem ggX4_heightOf_X4_powerAt : GoodIn wsX4_heightOf wsX4_powerAt := goodIn_r _ [5, 6, 7, 8, 9, 10, 11, 12, 13, 14, 15, 16, 17, 18, 19, 20] (by decide +kernel) (by decide +kernel)
set_option maxRecDepth 20000 in
theorem gX4_heightOf_X4_powerAt : GoodIn wsX4_heightOf (wsV RX4 37 RX4 yX4_powerAt wsX4_powerAt) := goodIn_app (goodIn_of _ (by decide +kernel)) ggX4_heightOf_X4_powerAt
theorem dX4_heightOf_0 : decode cX4_heightOf 0 = .ok (.aload_n 0, 1) := by decide +kernel
theorem dX4_heightOf_1 : decode cX4_heightOf 1 = .ok (.iload_n 1, 1) := by decide +kernel
theorem dX4_heightOf_2 : decode cX4_heightOf 2 = .ok (.iconst 0, 1) := by decide +kernel
theorem dX4_heightOf_3 : decode cX4_heightOf 3 = .ok (.iconst 0, 1) := by decide +kernel
theorem dX4_heightOf_4 : decode cX4_heightOf 4 = .ok (.invokevirtual 37, 3) := by decide +kernel
theorem dX4_heightOf_7 : decode cX4_heightOf 7 = .ok (.ireturn, 1) := by decide +kernel
set_option maxRecDepth 20000 in
theorem ggX4_write_X5_at : GoodIn wsX4_write wsX5_at := goodIn_r _ [12, 13, 169] (by decide +kernel) (by decide +kernel)
set_option maxRecDepth 20000 in
theorem gX4_write_X5_at : GoodIn wsX4_write (wsV RX4 33 RX5 yX5_at wsX5_at) := goodIn_app (goodIn_of _ (by decide +kernel)) ggX4_write_X5_at
set_option maxRecDepth 20000 in
theorem ggX4_write_J4_append_bf812 : GoodIn wsX4_write wsJ4_append_bf812 := goodIn_r _ [18, 19, 20, 21, 22, 23, 24, 25, 26, 27, 28, 29, 30, 31, 32, 33, 34, 35, 36, 37, 38, 39, 40, 41, 42, 43, 44, 45, 46, 47, 48, 6, 49, 50, 51, 52, 53, 54, 55, 56, 57, 58, 59, 60, 61, 62, 63, 64, 65, 66, 67, 68, 69, 70, 71, 72, 73, 74, 75, 76, 77, 78, 79, 80, 81, 82, 83, 84, 85, 86, 87, 88, 89, 90, 91, 92, 93, 94, 95, 96, 97, 98, 99, 100, 101, 102, 103, 104, 105, 106, 107, 108, 109, 110, 111, 112, 170, 171, 172, 173] (by decide +kernel) (by decide +kernel)
set_option maxRecDepth 20000 in
theorem gX4_write_J4_append_bf812 : GoodIn wsX4_write (wsV RX4 41 RJ4 yJ4_append_bf812 wsJ4_append_bf812) := goodIn_app (goodIn_of _ (by decide +kernel)) ggX4_write_J4_append_bf812
set_option maxRecDepth 20000 in
theorem ggX4_write_J4_append_cf468 : GoodIn wsX4_write wsJ4_append_cf468 := goodIn_r _ [116, 117, 118, 21, 119, 23, 120, 25, 26, 31, 32, 33, 34, 35, 36, 37, 38, 39, 40, 41, 42, 43, 44, 45, 46, 47, 48, 6, 49, 50, 51, 52, 53, 54, 55, 56, 57, 58, 59, 60, 61, 62, 63, 64, 65, 66, 67, 68, 69, 70, 71, 72, 73, 74, 75, 76, 77, 121, 122, 123, 124, 125, 126, 127, 128, 129, 130, 131, 85, 132, 133, 134, 135, 136, 137, 138, 139, 140, 141, 142, 143, 144, 145, 91, 92, 93, 146, 147, 96, 148, 98, 149, 150, 101, 151, 108, 109, 110, 87, 111, 112, 152, 153, 154, 155, 156, 157, 158, 159, 160, 161, 162, 163, 170, 171, 172, 173] (by decide +kernel) (by decide +kernel)
set_option maxRecDepth 20000 in
theorem gX4_write_J4_append_cf468 : GoodIn wsX4_write (wsV RX4 47 RJ4 yJ4_append_cf468 wsJ4_append_cf468) := goodIn_app (goodIn_of _ (by decide +kernel)) ggX4_write_J4_append_cf468
theorem dX4_write_0 : decode cX4_write 0 = .ok (.aload_n 0, 1) := by decide +kernel
theorem dX4_write_1 : decode cX4_write 1 = .ok (.getfield 19, 3) := by decide +kernel
theorem dX4_write_4 : decode cX4_write 4 = .ok (.iload_n 1, 1) := by decide +kernel
theorem dX4_write_5 : decode cX4_write 5 = .ok (.invokevirtual 33, 3) := by decide +kernel
theorem dX4_write_8 : decode cX4_write 8 = .ok (.istore_n 3, 1) := by decide +kernel
theorem dX4_write_9 : decode cX4_write 9 = .ok (.aload_n 2, 1) := by decide +kernel
theorem dX4_write_10 : decode cX4_write 10 = .ok (.aload_n 0, 1) := by decide +kernel
theorem dX4_write_11 : decode cX4_write 11 = .ok (.getfield 10, 3) := by decide +kernel
theorem dX4_write_14 : decode cX4_write 14 = .ok (.iload_n 1, 1) := by decide +kernel
theorem dX4_write_15 : decode cX4_write 15 = .ok (.invokevirtual 33, 3) := by decide +kernel
theorem dX4_write_18 : decode cX4_write 18 = .ok (.invokevirtual 41, 3) := by decide +kernel
theorem dX4_write_21 : decode cX4_write 21 = .ok (.pop, 1) := by decide +kernel
theorem dX4_write_22 : decode cX4_write 22 = .ok (.aload_n 2, 1) := by decide +kernel
theorem dX4_write_23 : decode cX4_write 23 = .ok (.bipush 44, 2) := by decide +kernel
theorem dX4_write_25 : decode cX4_write 25 = .ok (.invokevirtual 47, 3) := by decide +kernel
theorem dX4_write_28 : decode cX4_write 28 = .ok (.pop, 1) := by decide +kernel
theorem dX4_write_29 : decode cX4_write 29 = .ok (.aload_n 2, 1) := by decide +kernel
theorem dX4_write_30 : decode cX4_write 30 = .ok (.aload_n 0, 1) := by decide +kernel
theorem dX4_write_31 : decode cX4_write 31 = .ok (.getfield 16, 3) := by decide +kernel
theorem dX4_write_34 : decode cX4_write 34 = .ok (.iload_n 1, 1) := by decide +kernel
theorem dX4_write_35 : decode cX4_write 35 = .ok (.invokevirtual 33, 3) := by decide +kernel
theorem dX4_write_38 : decode cX4_write 38 = .ok (.invokevirtual 41, 3) := by decide +kernel
theorem dX4_write_41 : decode cX4_write 41 = .ok (.pop, 1) := by decide +kernel
theorem dX4_write_42 : decode cX4_write 42 = .ok (.aload_n 2, 1) := by decide +kernel
theorem dX4_write_43 : decode cX4_write 43 = .ok (.iload_n 3, 1) := by decide +kernel
theorem dX4_write_44 : decode cX4_write 44 = .ok (.ifCond .ge 8, 3) := by decide +kernel
theorem dX4_write_47 : decode cX4_write 47 = .ok (.bipush 45, 2) := by decide +kernel
theorem dX4_write_49 : decode cX4_write 49 = .ok (.goto 5, 3) := by decide +kernel
theorem dX4_write_52 : decode cX4_write 52 = .ok (.bipush 43, 2) := by decide +kernel
theorem dX4_write_54 : decode cX4_write 54 = .ok (.invokevirtual 47, 3) := by decide +kernel
theorem dX4_write_57 : decode cX4_write 57 = .ok (.pop, 1) := by decide +kernel
theorem dX4_write_58 : decode cX4_write 58 = .ok (.aload_n 2, 1) := by decide +kernel
theorem dX4_write_59 : decode cX4_write 59 = .ok (.iload_n 3, 1) := by decide +kernel
theorem dX4_write_60 : decode cX4_write 60 = .ok (.invokestatic 50, 3) := by decide +kernel
theorem dX4_write_63 : decode cX4_write 63 = .ok (.invokevirtual 41, 3) := by decide +kernel
theorem dX4_write_66 : decode cX4_write 66 = .ok (.pop, 1) := by decide +kernel
theorem dX4_write_67 : decode cX4_write 67 = .ok (.return_, 1) := by decide +kernel
theorem dX5_init_0 : decode cX5_init 0 = .ok (.aload_n 0, 1) := by decide +kernel
theorem dX5_init_1 : decode cX5_init 1 = .ok (.invokespecial 3, 3) := by decide +kernel
theorem dX5_init_4 : decode cX5_init 4 = .ok (.aload_n 0, 1) := by decide +kernel
theorem dX5_init_5 : decode cX5_init 5 = .ok (.bipush 12, 2) := by decide +kernel
theorem dX5_init_7 : decode cX5_init 7 = .ok (.newarray .int, 2) := by decide +kernel
theorem dX5_init_9 : decode cX5_init 9 = .ok (.putfield 9, 3) := by decide +kernel
theorem dX5_init_12 : decode cX5_init 12 = .ok (.return_, 1) := by decide +kernel
theorem dX5_at_0 : decode cX5_at 0 = .ok (.iload_n 1, 1) := by decide +kernel
theorem dX5_at_1 : decode cX5_at 1 = .ok (.ifCond .lt 21, 3) := by decide +kernel
theorem dX5_at_4 : decode cX5_at 4 = .ok (.iload_n 1, 1) := by decide +kernel
theorem dX5_at_5 : decode cX5_at 5 = .ok (.aload_n 0, 1) := by decide +kernel
theorem dX5_at_6 : decode cX5_at 6 = .ok (.getfield 9, 3) := by decide +kernel
theorem dX5_at_9 : decode cX5_at 9 = .ok (.arraylength, 1) := by decide +kernel
theorem dX5_at_10 : decode cX5_at 10 = .ok (.if_icmp .ge 12, 3) := by decide +kernel
theorem dX5_at_13 : decode cX5_at 13 = .ok (.aload_n 0, 1) := by decide +kernel
theorem dX5_at_14 : decode cX5_at 14 = .ok (.getfield 9, 3) := by decide +kernel
theorem dX5_at_17 : decode cX5_at 17 = .ok (.iload_n 1, 1) := by decide +kernel
theorem dX5_at_18 : decode cX5_at 18 = .ok (.iaload, 1) := by decide +kernel
theorem dX5_at_19 : decode cX5_at 19 = .ok (.goto 4, 3) := by decide +kernel
theorem dX5_at_22 : decode cX5_at 22 = .ok (.iconst 0, 1) := by decide +kernel
theorem dX5_at_23 : decode cX5_at 23 = .ok (.ireturn, 1) := by decide +kernel
theorem dX5_put_0 : decode cX5_put 0 = .ok (.iload_n 1, 1) := by decide +kernel
theorem dX5_put_1 : decode cX5_put 1 = .ok (.ifCond .lt 19, 3) := by decide +kernel
theorem dX5_put_4 : decode cX5_put 4 = .ok (.iload_n 1, 1) := by decide +kernel
theorem dX5_put_5 : decode cX5_put 5 = .ok (.aload_n 0, 1) := by decide +kernel
theorem dX5_put_6 : decode cX5_put 6 = .ok (.getfield 9, 3) := by decide +kernel
theorem dX5_put_9 : decode cX5_put 9 = .ok (.arraylength, 1) := by decide +kernel
theorem dX5_put_10 : decode cX5_put 10 = .ok (.if_icmp .ge 10, 3) := by decide +kernel
theorem dX5_put_13 : decode cX5_put 13 = .ok (.aload_n 0, 1) := by decide +kernel
theorem dX5_put_14 : decode cX5_put 14 = .ok (.getfield 9, 3) := by decide +kernel
theorem dX5_put_17 : decode cX5_put 17 = .ok (.iload_n 1, 1) := by decide +kernel
theorem dX5_put_18 : decode cX5_put 18 = .ok (.iload_n 2, 1) := by decide +kernel
theorem dX5_put_19 : decode cX5_put 19 = .ok (.iastore, 1) := by decide +kernel
theorem dX5_put_20 : decode cX5_put 20 = .ok (.return_, 1) := by decide +kernel
set_option maxRecDepth 20000 in
theorem ggX6_init_X5_init : GoodIn wsX6_init wsX5_init := goodIn_r _ [12, 13, 2, 3, 14, 15, 16] (by decide +kernel) (by decide +kernel)
set_option maxRecDepth 20000 in
theorem gX6_init_X5_init_n11 : GoodIn wsX6_init (wsX5_init) := ggX6_init_X5_init
theorem dX6_init_0 : decode cX6_init 0 = .ok (.aload_n 0, 1) := by decide +kernel
theorem dX6_init_1 : decode cX6_init 1 = .ok (.invokespecial 3, 3) := by decide +kernel
theorem dX6_init_4 : decode cX6_init 4 = .ok (.aload_n 0, 1) := by decide +kernel
theorem dX6_init_5 : decode cX6_init 5 = .ok (.new 9, 3) := by decide +kernel
theorem dX6_init_8 : decode cX6_init 8 = .ok (.dup, 1) := by decide +kernel
theorem dX6_init_9 : decode cX6_init 9 = .ok (.invokespecial 11, 3) := by decide +kernel
theorem dX6_init_12 : decode cX6_init 12 = .ok (.putfield 12, 3) := by decide +kernel
theorem dX6_init_15 : decode cX6_init 15 = .ok (.aload_n 0, 1) := by decide +kernel
theorem dX6_init_16 : decode cX6_init 16 = .ok (.new 9, 3) := by decide +kernel
theorem dX6_init_19 : decode cX6_init 19 = .ok (.dup, 1) := by decide +kernel
theorem dX6_init_20 : decode cX6_init 20 = .ok (.invokespecial 11, 3) := by decide +kernel
theorem dX6_init_23 : decode cX6_init 23 = .ok (.putfield 18, 3) := by decide +kernel
theorem dX6_init_26 : decode cX6_init 26 = .ok (.aload_n 0, 1) := by decide +kernel
theorem dX6_init_27 : decode cX6_init 27 = .ok (.aload_n 1, 1) := by decide +kernel
theorem dX6_init_28 : decode cX6_init 28 = .ok (.putfield 21, 3) := by decide +kernel
theorem dX6_init_31 : decode cX6_init 31 = .ok (.aload_n 0, 1) := by decide +kernel
theorem dX6_init_32 : decode cX6_init 32 = .ok (.aload_n 2, 1) := by decide +kernel
theorem dX6_init_33 : decode cX6_init 33 = .ok (.putfield 25, 3) := by decide +kernel
theorem dX6_init_36 : decode cX6_init 36 = .ok (.return_, 1) := by decide +kernel
set_option maxRecDepth 20000 in
theorem ggX6_weighAll_X1_countByRows : GoodIn wsX6_weighAll wsX1_countByRows := goodIn_r _ [14, 15, 16, 17, 13, 18, 19, 20, 21, 22, 23, 24, 25, 8, 26, 27, 28, 29, 30, 31, 32, 33, 34, 35, 36, 37, 38, 39, 40, 41, 42, 43, 44, 45, 46, 47, 48, 49, 50, 51, 52, 67, 68, 69, 62, 63, 64, 65, 66, 70] (by decide +kernel) (by decide +kernel)
set_option maxRecDepth 20000 in
theorem gX6_weighAll_X1_countByRows : GoodIn wsX6_weighAll (wsV RX6 35 RX1 yX1_countByRows wsX1_countByRows) := goodIn_app (goodIn_of _ (by decide +kernel)) ggX6_weighAll_X1_countByRows
set_option maxRecDepth 20000 in
theorem ggX6_weighAll_X5_at : GoodIn wsX6_weighAll wsX5_at := goodIn_r _ [42, 43, 70] (by decide +kernel) (by decide +kernel)
set_option maxRecDepth 20000 in
theorem gX6_weighAll_X5_at : GoodIn wsX6_weighAll (wsV RX6 44 RX5 yX5_at wsX5_at) := goodIn_app (goodIn_of _ (by decide +kernel)) ggX6_weighAll_X5_at
set_option maxRecDepth 20000 in
theorem ggX6_weighAll_X5_put : GoodIn wsX6_weighAll wsX5_put := goodIn_r _ [57, 43, 70] (by decide +kernel) (by decide +kernel)
set_option maxRecDepth 20000 in
theorem gX6_weighAll_X5_put : GoodIn wsX6_weighAll (wsV RX6 47 RX5 yX5_put wsX5_put) := goodIn_app (goodIn_of _ (by decide +kernel)) ggX6_weighAll_X5_put
theorem dX6_weighAll_0 : decode cX6_weighAll 0 = .ok (.iconst 0, 1) := by decide +kernel
theorem dX6_weighAll_1 : decode cX6_weighAll 1 = .ok (.istore_n 1, 1) := by decide +kernel
theorem dX6_weighAll_2 : decode cX6_weighAll 2 = .ok (.iconst 0, 1) := by decide +kernel
theorem dX6_weighAll_3 : decode cX6_weighAll 3 = .ok (.istore_n 2, 1) := by decide +kernel
theorem dX6_weighAll_4 : decode cX6_weighAll 4 = .ok (.iload_n 2, 1) := by decide +kernel
theorem dX6_weighAll_5 : decode cX6_weighAll 5 = .ok (.aload_n 0, 1) := by decide +kernel
theorem dX6_weighAll_6 : decode cX6_weighAll 6 = .ok (.getfield 21, 3) := by decide +kernel
theorem dX6_weighAll_9 : decode cX6_weighAll 9 = .ok (.getfield 29, 3) := by decide +kernel
theorem dX6_weighAll_12 : decode cX6_weighAll 12 = .ok (.if_icmp .ge 46, 3) := by decide +kernel
theorem dX6_weighAll_15 : decode cX6_weighAll 15 = .ok (.aload_n 0, 1) := by decide +kernel
theorem dX6_weighAll_16 : decode cX6_weighAll 16 = .ok (.getfield 25, 3) := by decide +kernel
theorem dX6_weighAll_19 : decode cX6_weighAll 19 = .ok (.iload_n 2, 1) := by decide +kernel
theorem dX6_weighAll_20 : decode cX6_weighAll 20 = .ok (.invokevirtual 35, 3) := by decide +kernel
theorem dX6_weighAll_23 : decode cX6_weighAll 23 = .ok (.aload_n 0, 1) := by decide +kernel
theorem dX6_weighAll_24 : decode cX6_weighAll 24 = .ok (.getfield 21, 3) := by decide +kernel
theorem dX6_weighAll_27 : decode cX6_weighAll 27 = .ok (.getfield 41, 3) := by decide +kernel
theorem dX6_weighAll_30 : decode cX6_weighAll 30 = .ok (.iload_n 2, 1) := by decide +kernel
theorem dX6_weighAll_31 : decode cX6_weighAll 31 = .ok (.invokevirtual 44, 3) := by decide +kernel
theorem dX6_weighAll_34 : decode cX6_weighAll 34 = .ok (.isub, 1) := by decide +kernel
theorem dX6_weighAll_35 : decode cX6_weighAll 35 = .ok (.istore_n 3, 1) := by decide +kernel
theorem dX6_weighAll_36 : decode cX6_weighAll 36 = .ok (.aload_n 0, 1) := by decide +kernel
theorem dX6_weighAll_37 : decode cX6_weighAll 37 = .ok (.getfield 12, 3) := by decide +kernel
theorem dX6_weighAll_40 : decode cX6_weighAll 40 = .ok (.iload_n 2, 1) := by decide +kernel
theorem dX6_weighAll_41 : decode cX6_weighAll 41 = .ok (.iload_n 3, 1) := by decide +kernel
theorem dX6_weighAll_42 : decode cX6_weighAll 42 = .ok (.invokevirtual 47, 3) := by decide +kernel
theorem dX6_weighAll_45 : decode cX6_weighAll 45 = .ok (.iload_n 1, 1) := by decide +kernel
theorem dX6_weighAll_46 : decode cX6_weighAll 46 = .ok (.iload_n 3, 1) := by decide +kernel
theorem dX6_weighAll_47 : decode cX6_weighAll 47 = .ok (.invokestatic 51, 3) := by decide +kernel
theorem dX6_weighAll_50 : decode cX6_weighAll 50 = .ok (.iadd, 1) := by decide +kernel
theorem dX6_weighAll_51 : decode cX6_weighAll 51 = .ok (.istore_n 1, 1) := by decide +kernel
theorem dX6_weighAll_52 : decode cX6_weighAll 52 = .ok (.iinc 2 1, 3) := by decide +kernel
theorem dX6_weighAll_55 : decode cX6_weighAll 55 = .ok (.goto (-51), 3) := by decide +kernel
theorem dX6_weighAll_58 : decode cX6_weighAll 58 = .ok (.iload_n 1, 1) := by decide +kernel
theorem dX6_weighAll_59 : decode cX6_weighAll 59 = .ok (.ireturn, 1) := by decide +kernel
set_option maxRecDepth 20000 in
theorem ggX6_excessOf_X6_weighAll : GoodIn wsX6_excessOf wsX6_weighAll := goodIn_r _ [6, 7, 8, 9, 10, 1, 11, 12, 13, 14, 15, 16, 17, 18, 19, 20, 21, 22, 23, 24, 25, 26, 27, 28, 29, 30, 31, 32, 33, 34, 35, 36, 37, 38, 39, 40, 41, 42, 43, 44, 45, 46, 47, 48, 49, 50, 51, 52, 53, 54, 55, 56, 57, 58, 59, 60, 61, 62, 63, 64, 65, 66, 67, 68, 69, 70, 71, 72, 73, 74, 75] (by decide +kernel) (by decide +kernel)
set_option maxRecDepth 20000 in
theorem gX6_excessOf_X6_weighAll : GoodIn wsX6_excessOf (wsV RX6 56 RX6 yX6_weighAll wsX6_weighAll) := goodIn_app (goodIn_of _ (by decide +kernel)) ggX6_excessOf_X6_weighAll
set_option maxRecDepth 20000 in
theorem ggX6_excessOf_X5_at : GoodIn wsX6_excessOf wsX5_at := goodIn_r _ [47, 48, 75] (by decide +kernel) (by decide +kernel)
set_option maxRecDepth 20000 in
theorem gX6_excessOf_X5_at : GoodIn wsX6_excessOf (wsV RX6 44 RX5 yX5_at wsX5_at) := goodIn_app (goodIn_of _ (by decide +kernel)) ggX6_excessOf_X5_at
theorem dX6_excessOf_0 : decode cX6_excessOf 0 = .ok (.aload_n 0, 1) := by decide +kernel
theorem dX6_excessOf_1 : decode cX6_excessOf 1 = .ok (.invokevirtual 56, 3) := by decide +kernel
theorem dX6_excessOf_4 : decode cX6_excessOf 4 = .ok (.pop, 1) := by decide +kernel
theorem dX6_excessOf_5 : decode cX6_excessOf 5 = .ok (.aload_n 0, 1) := by decide +kernel
theorem dX6_excessOf_6 : decode cX6_excessOf 6 = .ok (.getfield 12, 3) := by decide +kernel
theorem dX6_excessOf_9 : decode cX6_excessOf 9 = .ok (.iload_n 1, 1) := by decide +kernel
theorem dX6_excessOf_10 : decode cX6_excessOf 10 = .ok (.invokevirtual 44, 3) := by decide +kernel
theorem dX6_excessOf_13 : decode cX6_excessOf 13 = .ok (.ireturn, 1) := by decide +kernel
set_option maxRecDepth 20000 in
theorem ggX6_repeat_X6_weighAll : GoodIn wsX6_repeat wsX6_weighAll := goodIn_r _ [14, 1, 15, 16, 17, 18, 19, 20, 5, 21, 22, 23, 24, 25, 26, 27, 28, 29, 30, 31, 32, 33, 34, 35, 36, 8, 9, 37, 4, 6, 38, 39, 40, 41, 42, 43, 44, 45, 46, 47, 48, 49, 50, 51, 52, 53, 54, 55, 56, 57, 58, 59, 60, 61, 62, 63, 64, 65, 74, 75, 76, 77, 78, 79, 80, 81, 82, 83, 84, 85, 86] (by decide +kernel) (by decide +kernel)
set_option maxRecDepth 20000 in
theorem gX6_repeat_X6_weighAll : GoodIn wsX6_repeat (wsV RX6 56 RX6 yX6_weighAll wsX6_weighAll) := goodIn_app (goodIn_of _ (by decide +kernel)) ggX6_repeat_X6_weighAll
set_option maxRecDepth 20000 in
theorem ggX6_repeat_X6_siteOfGreatest : GoodIn wsX6_repeat wsX6_siteOfGreatest := goodIn_r _ [69, 1, 15, 18, 61, 47, 48, 49, 50, 51, 74, 75, 76, 77, 78, 79, 80, 81, 82, 86] (by decide +kernel) (by decide +kernel)
set_option maxRecDepth 20000 in
theorem gX6_repeat_X6_siteOfGreatest : GoodIn wsX6_repeat (wsV RX6 60 RX6 yX6_siteOfGreatest wsX6_siteOfGreatest) := goodIn_app (goodIn_of _ (by decide +kernel)) ggX6_repeat_X6_siteOfGreatest
set_option maxRecDepth 20000 in
theorem ggX6_repeat_X6_siteOfLeast : GoodIn wsX6_repeat wsX6_siteOfLeast := goodIn_r _ [73, 1, 15, 18, 61, 47, 48, 49, 50, 51, 74, 75, 76, 77, 78, 79, 80, 81, 82, 86] (by decide +kernel) (by decide +kernel)
set_option maxRecDepth 20000 in
theorem gX6_repeat_X6_siteOfLeast : GoodIn wsX6_repeat (wsV RX6 63 RX6 yX6_siteOfLeast wsX6_siteOfLeast) := goodIn_app (goodIn_of _ (by decide +kernel)) ggX6_repeat_X6_siteOfLeast
set_option maxRecDepth 20000 in
theorem ggX6_repeat_X5_at : GoodIn wsX6_repeat wsX5_at := goodIn_r _ [50, 51, 86] (by decide +kernel) (by decide +kernel)
set_option maxRecDepth 20000 in
theorem gX6_repeat_X5_at : GoodIn wsX6_repeat (wsV RX6 44 RX5 yX5_at wsX5_at) := goodIn_app (goodIn_of _ (by decide +kernel)) ggX6_repeat_X5_at
set_option maxRecDepth 20000 in
theorem ggX6_repeat_X5_put : GoodIn wsX6_repeat wsX5_put := goodIn_r _ [65, 51, 86] (by decide +kernel) (by decide +kernel)
set_option maxRecDepth 20000 in
theorem gX6_repeat_X5_put : GoodIn wsX6_repeat (wsV RX6 47 RX5 yX5_put wsX5_put) := goodIn_app (goodIn_of _ (by decide +kernel)) ggX6_repeat_X5_put
theorem dX6_repeat_0 : decode cX6_repeat 0 = .ok (.aload_n 0, 1) := by decide +kernel
theorem dX6_repeat_1 : decode cX6_repeat 1 = .ok (.invokevirtual 56, 3) := by decide +kernel
theorem dX6_repeat_4 : decode cX6_repeat 4 = .ok (.istore_n 3, 1) := by decide +kernel
theorem dX6_repeat_5 : decode cX6_repeat 5 = .ok (.iconst 0, 1) := by decide +kernel
theorem dX6_repeat_6 : decode cX6_repeat 6 = .ok (.istore 4, 2) := by decide +kernel
theorem dX6_repeat_8 : decode cX6_repeat 8 = .ok (.iload 4, 2) := by decide +kernel
theorem dX6_repeat_10 : decode cX6_repeat 10 = .ok (.iload_n 2, 1) := by decide +kernel
theorem dX6_repeat_11 : decode cX6_repeat 11 = .ok (.if_icmp .ge 149, 3) := by decide +kernel
theorem dX6_repeat_14 : decode cX6_repeat 14 = .ok (.aload_n 0, 1) := by decide +kernel
theorem dX6_repeat_15 : decode cX6_repeat 15 = .ok (.invokevirtual 60, 3) := by decide +kernel
theorem dX6_repeat_18 : decode cX6_repeat 18 = .ok (.istore 5, 2) := by decide +kernel
theorem dX6_repeat_20 : decode cX6_repeat 20 = .ok (.aload_n 0, 1) := by decide +kernel
theorem dX6_repeat_21 : decode cX6_repeat 21 = .ok (.invokevirtual 63, 3) := by decide +kernel
theorem dX6_repeat_24 : decode cX6_repeat 24 = .ok (.istore 6, 2) := by decide +kernel
theorem dX6_repeat_26 : decode cX6_repeat 26 = .ok (.iload 5, 2) := by decide +kernel
theorem dX6_repeat_28 : decode cX6_repeat 28 = .ok (.iload 6, 2) := by decide +kernel
theorem dX6_repeat_30 : decode cX6_repeat 30 = .ok (.if_icmp .ne 6, 3) := by decide +kernel
theorem dX6_repeat_33 : decode cX6_repeat 33 = .ok (.iload 4, 2) := by decide +kernel
theorem dX6_repeat_35 : decode cX6_repeat 35 = .ok (.ireturn, 1) := by decide +kernel
theorem dX6_repeat_36 : decode cX6_repeat 36 = .ok (.aload_n 0, 1) := by decide +kernel
theorem dX6_repeat_37 : decode cX6_repeat 37 = .ok (.getfield 21, 3) := by decide +kernel
theorem dX6_repeat_40 : decode cX6_repeat 40 = .ok (.getfield 66, 3) := by decide +kernel
theorem dX6_repeat_43 : decode cX6_repeat 43 = .ok (.iload 5, 2) := by decide +kernel
theorem dX6_repeat_45 : decode cX6_repeat 45 = .ok (.invokevirtual 44, 3) := by decide +kernel
theorem dX6_repeat_48 : decode cX6_repeat 48 = .ok (.istore 7, 2) := by decide +kernel
theorem dX6_repeat_50 : decode cX6_repeat 50 = .ok (.aload_n 0, 1) := by decide +kernel
theorem dX6_repeat_51 : decode cX6_repeat 51 = .ok (.getfield 21, 3) := by decide +kernel
theorem dX6_repeat_54 : decode cX6_repeat 54 = .ok (.getfield 66, 3) := by decide +kernel
theorem dX6_repeat_57 : decode cX6_repeat 57 = .ok (.iload 6, 2) := by decide +kernel
theorem dX6_repeat_59 : decode cX6_repeat 59 = .ok (.invokevirtual 44, 3) := by decide +kernel
theorem dX6_repeat_62 : decode cX6_repeat 62 = .ok (.istore 8, 2) := by decide +kernel
theorem dX6_repeat_64 : decode cX6_repeat 64 = .ok (.aload_n 0, 1) := by decide +kernel
theorem dX6_repeat_65 : decode cX6_repeat 65 = .ok (.getfield 21, 3) := by decide +kernel
theorem dX6_repeat_68 : decode cX6_repeat 68 = .ok (.getfield 66, 3) := by decide +kernel
theorem dX6_repeat_71 : decode cX6_repeat 71 = .ok (.iload 5, 2) := by decide +kernel
theorem dX6_repeat_73 : decode cX6_repeat 73 = .ok (.sipush (-999), 3) := by decide +kernel
theorem dX6_repeat_76 : decode cX6_repeat 76 = .ok (.iload 7, 2) := by decide +kernel
theorem dX6_repeat_78 : decode cX6_repeat 78 = .ok (.iload_n 1, 1) := by decide +kernel
theorem dX6_repeat_79 : decode cX6_repeat 79 = .ok (.isub, 1) := by decide +kernel
theorem dX6_repeat_80 : decode cX6_repeat 80 = .ok (.invokestatic 69, 3) := by decide +kernel
theorem dX6_repeat_83 : decode cX6_repeat 83 = .ok (.invokevirtual 47, 3) := by decide +kernel
theorem dX6_repeat_86 : decode cX6_repeat 86 = .ok (.aload_n 0, 1) := by decide +kernel
theorem dX6_repeat_87 : decode cX6_repeat 87 = .ok (.getfield 21, 3) := by decide +kernel
theorem dX6_repeat_90 : decode cX6_repeat 90 = .ok (.getfield 66, 3) := by decide +kernel
theorem dX6_repeat_93 : decode cX6_repeat 93 = .ok (.iload 6, 2) := by decide +kernel
theorem dX6_repeat_95 : decode cX6_repeat 95 = .ok (.sipush 999, 3) := by decide +kernel
theorem dX6_repeat_98 : decode cX6_repeat 98 = .ok (.iload 8, 2) := by decide +kernel
theorem dX6_repeat_100 : decode cX6_repeat 100 = .ok (.iload_n 1, 1) := by decide +kernel
theorem dX6_repeat_101 : decode cX6_repeat 101 = .ok (.iadd, 1) := by decide +kernel
theorem dX6_repeat_102 : decode cX6_repeat 102 = .ok (.invokestatic 73, 3) := by decide +kernel
theorem dX6_repeat_105 : decode cX6_repeat 105 = .ok (.invokevirtual 47, 3) := by decide +kernel
theorem dX6_repeat_108 : decode cX6_repeat 108 = .ok (.aload_n 0, 1) := by decide +kernel
theorem dX6_repeat_109 : decode cX6_repeat 109 = .ok (.invokevirtual 56, 3) := by decide +kernel
theorem dX6_repeat_112 : decode cX6_repeat 112 = .ok (.istore 9, 2) := by decide +kernel
theorem dX6_repeat_114 : decode cX6_repeat 114 = .ok (.iload 9, 2) := by decide +kernel
theorem dX6_repeat_116 : decode cX6_repeat 116 = .ok (.iload_n 3, 1) := by decide +kernel
theorem dX6_repeat_117 : decode cX6_repeat 117 = .ok (.if_icmp .lt 34, 3) := by decide +kernel
theorem dX6_repeat_120 : decode cX6_repeat 120 = .ok (.aload_n 0, 1) := by decide +kernel
theorem dX6_repeat_121 : decode cX6_repeat 121 = .ok (.getfield 21, 3) := by decide +kernel
theorem dX6_repeat_124 : decode cX6_repeat 124 = .ok (.getfield 66, 3) := by decide +kernel
theorem dX6_repeat_127 : decode cX6_repeat 127 = .ok (.iload 5, 2) := by decide +kernel
theorem dX6_repeat_129 : decode cX6_repeat 129 = .ok (.iload 7, 2) := by decide +kernel
theorem dX6_repeat_131 : decode cX6_repeat 131 = .ok (.invokevirtual 47, 3) := by decide +kernel
theorem dX6_repeat_134 : decode cX6_repeat 134 = .ok (.aload_n 0, 1) := by decide +kernel
theorem dX6_repeat_135 : decode cX6_repeat 135 = .ok (.getfield 21, 3) := by decide +kernel
theorem dX6_repeat_138 : decode cX6_repeat 138 = .ok (.getfield 66, 3) := by decide +kernel
theorem dX6_repeat_141 : decode cX6_repeat 141 = .ok (.iload 6, 2) := by decide +kernel
theorem dX6_repeat_143 : decode cX6_repeat 143 = .ok (.iload 8, 2) := by decide +kernel
theorem dX6_repeat_145 : decode cX6_repeat 145 = .ok (.invokevirtual 47, 3) := by decide +kernel
theorem dX6_repeat_148 : decode cX6_repeat 148 = .ok (.iload 4, 2) := by decide +kernel
theorem dX6_repeat_150 : decode cX6_repeat 150 = .ok (.ireturn, 1) := by decide +kernel
theorem dX6_repeat_151 : decode cX6_repeat 151 = .ok (.iload 9, 2) := by decide +kernel
theorem dX6_repeat_153 : decode cX6_repeat 153 = .ok (.istore_n 3, 1) := by decide +kernel
theorem dX6_repeat_154 : decode cX6_repeat 154 = .ok (.iinc 4 1, 3) := by decide +kernel
theorem dX6_repeat_157 : decode cX6_repeat 157 = .ok (.goto (-149), 3) := by decide +kernel
theorem dX6_repeat_160 : decode cX6_repeat 160 = .ok (.iload_n 2, 1) := by decide +kernel
theorem dX6_repeat_161 : decode cX6_repeat 161 = .ok (.ireturn, 1) := by decide +kernel
set_option maxRecDepth 20000 in
theorem ggX6_keepWeights_X5_at : GoodIn wsX6_keepWeights wsX5_at := goodIn_r _ [9, 10, 24] (by decide +kernel) (by decide +kernel)
set_option maxRecDepth 20000 in
theorem gX6_keepWeights_X5_at : GoodIn wsX6_keepWeights (wsV RX6 44 RX5 yX5_at wsX5_at) := goodIn_app (goodIn_of _ (by decide +kernel)) ggX6_keepWeights_X5_at
set_option maxRecDepth 20000 in
theorem ggX6_keepWeights_X5_put : GoodIn wsX6_keepWeights wsX5_put := goodIn_r _ [14, 10, 24] (by decide +kernel) (by decide +kernel)
set_option maxRecDepth 20000 in
theorem gX6_keepWeights_X5_put : GoodIn wsX6_keepWeights (wsV RX6 47 RX5 yX5_put wsX5_put) := goodIn_app (goodIn_of _ (by decide +kernel)) ggX6_keepWeights_X5_put
theorem dX6_keepWeights_0 : decode cX6_keepWeights 0 = .ok (.iconst 0, 1) := by decide +kernel
theorem dX6_keepWeights_1 : decode cX6_keepWeights 1 = .ok (.istore_n 1, 1) := by decide +kernel
theorem dX6_keepWeights_2 : decode cX6_keepWeights 2 = .ok (.iload_n 1, 1) := by decide +kernel
theorem dX6_keepWeights_3 : decode cX6_keepWeights 3 = .ok (.aload_n 0, 1) := by decide +kernel
theorem dX6_keepWeights_4 : decode cX6_keepWeights 4 = .ok (.getfield 21, 3) := by decide +kernel
theorem dX6_keepWeights_7 : decode cX6_keepWeights 7 = .ok (.getfield 29, 3) := by decide +kernel
theorem dX6_keepWeights_10 : decode cX6_keepWeights 10 = .ok (.if_icmp .ge 28, 3) := by decide +kernel
theorem dX6_keepWeights_13 : decode cX6_keepWeights 13 = .ok (.aload_n 0, 1) := by decide +kernel
theorem dX6_keepWeights_14 : decode cX6_keepWeights 14 = .ok (.getfield 18, 3) := by decide +kernel
theorem dX6_keepWeights_17 : decode cX6_keepWeights 17 = .ok (.iload_n 1, 1) := by decide +kernel
theorem dX6_keepWeights_18 : decode cX6_keepWeights 18 = .ok (.aload_n 0, 1) := by decide +kernel
theorem dX6_keepWeights_19 : decode cX6_keepWeights 19 = .ok (.getfield 21, 3) := by decide +kernel
theorem dX6_keepWeights_22 : decode cX6_keepWeights 22 = .ok (.getfield 66, 3) := by decide +kernel
theorem dX6_keepWeights_25 : decode cX6_keepWeights 25 = .ok (.iload_n 1, 1) := by decide +kernel
theorem dX6_keepWeights_26 : decode cX6_keepWeights 26 = .ok (.invokevirtual 44, 3) := by decide +kernel
theorem dX6_keepWeights_29 : decode cX6_keepWeights 29 = .ok (.invokevirtual 47, 3) := by decide +kernel
theorem dX6_keepWeights_32 : decode cX6_keepWeights 32 = .ok (.iinc 1 1, 3) := by decide +kernel
theorem dX6_keepWeights_35 : decode cX6_keepWeights 35 = .ok (.goto (-33), 3) := by decide +kernel
theorem dX6_keepWeights_38 : decode cX6_keepWeights 38 = .ok (.return_, 1) := by decide +kernel
set_option maxRecDepth 20000 in
theorem ggX6_putWeightsBack_X5_at : GoodIn wsX6_putWeightsBack wsX5_at := goodIn_r _ [9, 10, 24] (by decide +kernel) (by decide +kernel)
set_option maxRecDepth 20000 in
theorem gX6_putWeightsBack_X5_at : GoodIn wsX6_putWeightsBack (wsV RX6 44 RX5 yX5_at wsX5_at) := goodIn_app (goodIn_of _ (by decide +kernel)) ggX6_putWeightsBack_X5_at
set_option maxRecDepth 20000 in
theorem ggX6_putWeightsBack_X5_put : GoodIn wsX6_putWeightsBack wsX5_put := goodIn_r _ [14, 10, 24] (by decide +kernel) (by decide +kernel)
set_option maxRecDepth 20000 in
theorem gX6_putWeightsBack_X5_put : GoodIn wsX6_putWeightsBack (wsV RX6 47 RX5 yX5_put wsX5_put) := goodIn_app (goodIn_of _ (by decide +kernel)) ggX6_putWeightsBack_X5_put
theorem dX6_putWeightsBack_0 : decode cX6_putWeightsBack 0 = .ok (.iconst 0, 1) := by decide +kernel
theorem dX6_putWeightsBack_1 : decode cX6_putWeightsBack 1 = .ok (.istore_n 1, 1) := by decide +kernel
theorem dX6_putWeightsBack_2 : decode cX6_putWeightsBack 2 = .ok (.iload_n 1, 1) := by decide +kernel
theorem dX6_putWeightsBack_3 : decode cX6_putWeightsBack 3 = .ok (.aload_n 0, 1) := by decide +kernel
theorem dX6_putWeightsBack_4 : decode cX6_putWeightsBack 4 = .ok (.getfield 21, 3) := by decide +kernel
theorem dX6_putWeightsBack_7 : decode cX6_putWeightsBack 7 = .ok (.getfield 29, 3) := by decide +kernel
theorem dX6_putWeightsBack_10 : decode cX6_putWeightsBack 10 = .ok (.if_icmp .ge 28, 3) := by decide +kernel
theorem dX6_putWeightsBack_13 : decode cX6_putWeightsBack 13 = .ok (.aload_n 0, 1) := by decide +kernel
theorem dX6_putWeightsBack_14 : decode cX6_putWeightsBack 14 = .ok (.getfield 21, 3) := by decide +kernel
theorem dX6_putWeightsBack_17 : decode cX6_putWeightsBack 17 = .ok (.getfield 66, 3) := by decide +kernel
theorem dX6_putWeightsBack_20 : decode cX6_putWeightsBack 20 = .ok (.iload_n 1, 1) := by decide +kernel
theorem dX6_putWeightsBack_21 : decode cX6_putWeightsBack 21 = .ok (.aload_n 0, 1) := by decide +kernel
theorem dX6_putWeightsBack_22 : decode cX6_putWeightsBack 22 = .ok (.getfield 18, 3) := by decide +kernel
theorem dX6_putWeightsBack_25 : decode cX6_putWeightsBack 25 = .ok (.iload_n 1, 1) := by decide +kernel
theorem dX6_putWeightsBack_26 : decode cX6_putWeightsBack 26 = .ok (.invokevirtual 44, 3) := by decide +kernel
theorem dX6_putWeightsBack_29 : decode cX6_putWeightsBack 29 = .ok (.invokevirtual 47, 3) := by decide +kernel
theorem dX6_putWeightsBack_32 : decode cX6_putWeightsBack 32 = .ok (.iinc 1 1, 3) := by decide +kernel
theorem dX6_putWeightsBack_35 : decode cX6_putWeightsBack 35 = .ok (.goto (-33), 3) := by decide +kernel
theorem dX6_putWeightsBack_38 : decode cX6_putWeightsBack 38 = .ok (.return_, 1) := by decide +kernel
set_option maxRecDepth 20000 in
theorem ggX6_siteOfGreatest_X5_at : GoodIn wsX6_siteOfGreatest wsX5_at := goodIn_r _ [8, 9, 19] (by decide +kernel) (by decide +kernel)
set_option maxRecDepth 20000 in
theorem gX6_siteOfGreatest_X5_at : GoodIn wsX6_siteOfGreatest (wsV RX6 44 RX5 yX5_at wsX5_at) := goodIn_app (goodIn_of _ (by decide +kernel)) ggX6_siteOfGreatest_X5_at
theorem dX6_siteOfGreatest_0 : decode cX6_siteOfGreatest 0 = .ok (.iconst 0, 1) := by decide +kernel
theorem dX6_siteOfGreatest_1 : decode cX6_siteOfGreatest 1 = .ok (.istore_n 1, 1) := by decide +kernel
theorem dX6_siteOfGreatest_2 : decode cX6_siteOfGreatest 2 = .ok (.iconst 1, 1) := by decide +kernel
theorem dX6_siteOfGreatest_3 : decode cX6_siteOfGreatest 3 = .ok (.istore_n 2, 1) := by decide +kernel
theorem dX6_siteOfGreatest_4 : decode cX6_siteOfGreatest 4 = .ok (.iload_n 2, 1) := by decide +kernel
theorem dX6_siteOfGreatest_5 : decode cX6_siteOfGreatest 5 = .ok (.aload_n 0, 1) := by decide +kernel
theorem dX6_siteOfGreatest_6 : decode cX6_siteOfGreatest 6 = .ok (.getfield 21, 3) := by decide +kernel
theorem dX6_siteOfGreatest_9 : decode cX6_siteOfGreatest 9 = .ok (.getfield 29, 3) := by decide +kernel
theorem dX6_siteOfGreatest_12 : decode cX6_siteOfGreatest 12 = .ok (.if_icmp .ge 30, 3) := by decide +kernel
theorem dX6_siteOfGreatest_15 : decode cX6_siteOfGreatest 15 = .ok (.aload_n 0, 1) := by decide +kernel
theorem dX6_siteOfGreatest_16 : decode cX6_siteOfGreatest 16 = .ok (.getfield 12, 3) := by decide +kernel
theorem dX6_siteOfGreatest_19 : decode cX6_siteOfGreatest 19 = .ok (.iload_n 2, 1) := by decide +kernel
theorem dX6_siteOfGreatest_20 : decode cX6_siteOfGreatest 20 = .ok (.invokevirtual 44, 3) := by decide +kernel
theorem dX6_siteOfGreatest_23 : decode cX6_siteOfGreatest 23 = .ok (.aload_n 0, 1) := by decide +kernel
theorem dX6_siteOfGreatest_24 : decode cX6_siteOfGreatest 24 = .ok (.getfield 12, 3) := by decide +kernel
theorem dX6_siteOfGreatest_27 : decode cX6_siteOfGreatest 27 = .ok (.iload_n 1, 1) := by decide +kernel
theorem dX6_siteOfGreatest_28 : decode cX6_siteOfGreatest 28 = .ok (.invokevirtual 44, 3) := by decide +kernel
theorem dX6_siteOfGreatest_31 : decode cX6_siteOfGreatest 31 = .ok (.if_icmp .le 5, 3) := by decide +kernel
theorem dX6_siteOfGreatest_34 : decode cX6_siteOfGreatest 34 = .ok (.iload_n 2, 1) := by decide +kernel
theorem dX6_siteOfGreatest_35 : decode cX6_siteOfGreatest 35 = .ok (.istore_n 1, 1) := by decide +kernel
theorem dX6_siteOfGreatest_36 : decode cX6_siteOfGreatest 36 = .ok (.iinc 2 1, 3) := by decide +kernel
theorem dX6_siteOfGreatest_39 : decode cX6_siteOfGreatest 39 = .ok (.goto (-35), 3) := by decide +kernel
theorem dX6_siteOfGreatest_42 : decode cX6_siteOfGreatest 42 = .ok (.iload_n 1, 1) := by decide +kernel
theorem dX6_siteOfGreatest_43 : decode cX6_siteOfGreatest 43 = .ok (.ireturn, 1) := by decide +kernel
set_option maxRecDepth 20000 in
theorem ggX6_siteOfLeast_X5_at : GoodIn wsX6_siteOfLeast wsX5_at := goodIn_r _ [8, 9, 19] (by decide +kernel) (by decide +kernel)
set_option maxRecDepth 20000 in
theorem gX6_siteOfLeast_X5_at : GoodIn wsX6_siteOfLeast (wsV RX6 44 RX5 yX5_at wsX5_at) := goodIn_app (goodIn_of _ (by decide +kernel)) ggX6_siteOfLeast_X5_at
theorem dX6_siteOfLeast_0 : decode cX6_siteOfLeast 0 = .ok (.iconst 0, 1) := by decide +kernel
theorem dX6_siteOfLeast_1 : decode cX6_siteOfLeast 1 = .ok (.istore_n 1, 1) := by decide +kernel
theorem dX6_siteOfLeast_2 : decode cX6_siteOfLeast 2 = .ok (.iconst 1, 1) := by decide +kernel
theorem dX6_siteOfLeast_3 : decode cX6_siteOfLeast 3 = .ok (.istore_n 2, 1) := by decide +kernel
theorem dX6_siteOfLeast_4 : decode cX6_siteOfLeast 4 = .ok (.iload_n 2, 1) := by decide +kernel
theorem dX6_siteOfLeast_5 : decode cX6_siteOfLeast 5 = .ok (.aload_n 0, 1) := by decide +kernel
theorem dX6_siteOfLeast_6 : decode cX6_siteOfLeast 6 = .ok (.getfield 21, 3) := by decide +kernel
theorem dX6_siteOfLeast_9 : decode cX6_siteOfLeast 9 = .ok (.getfield 29, 3) := by decide +kernel
theorem dX6_siteOfLeast_12 : decode cX6_siteOfLeast 12 = .ok (.if_icmp .ge 30, 3) := by decide +kernel
theorem dX6_siteOfLeast_15 : decode cX6_siteOfLeast 15 = .ok (.aload_n 0, 1) := by decide +kernel
theorem dX6_siteOfLeast_16 : decode cX6_siteOfLeast 16 = .ok (.getfield 12, 3) := by decide +kernel
theorem dX6_siteOfLeast_19 : decode cX6_siteOfLeast 19 = .ok (.iload_n 2, 1) := by decide +kernel
theorem dX6_siteOfLeast_20 : decode cX6_siteOfLeast 20 = .ok (.invokevirtual 44, 3) := by decide +kernel
theorem dX6_siteOfLeast_23 : decode cX6_siteOfLeast 23 = .ok (.aload_n 0, 1) := by decide +kernel
theorem dX6_siteOfLeast_24 : decode cX6_siteOfLeast 24 = .ok (.getfield 12, 3) := by decide +kernel
theorem dX6_siteOfLeast_27 : decode cX6_siteOfLeast 27 = .ok (.iload_n 1, 1) := by decide +kernel
theorem dX6_siteOfLeast_28 : decode cX6_siteOfLeast 28 = .ok (.invokevirtual 44, 3) := by decide +kernel
theorem dX6_siteOfLeast_31 : decode cX6_siteOfLeast 31 = .ok (.if_icmp .ge 5, 3) := by decide +kernel
theorem dX6_siteOfLeast_34 : decode cX6_siteOfLeast 34 = .ok (.iload_n 2, 1) := by decide +kernel
theorem dX6_siteOfLeast_35 : decode cX6_siteOfLeast 35 = .ok (.istore_n 1, 1) := by decide +kernel
theorem dX6_siteOfLeast_36 : decode cX6_siteOfLeast 36 = .ok (.iinc 2 1, 3) := by decide +kernel
theorem dX6_siteOfLeast_39 : decode cX6_siteOfLeast 39 = .ok (.goto (-35), 3) := by decide +kernel
theorem dX6_siteOfLeast_42 : decode cX6_siteOfLeast 42 = .ok (.iload_n 1, 1) := by decide +kernel
theorem dX6_siteOfLeast_43 : decode cX6_siteOfLeast 43 = .ok (.ireturn, 1) := by decide +kernel
set_option maxRecDepth 20000 in
theorem ggX7_init_X4_init : GoodIn wsX7_init wsX4_init := goodIn_r _ [25, 26, 2, 3, 27, 28, 29, 30, 31, 32, 33, 34, 35, 36, 37, 38, 107, 77, 78, 79, 80, 81] (by decide +kernel) (by decide +kernel)
set_option maxRecDepth 20000 in
theorem gX7_init_X4_init_n9 : GoodIn wsX7_init (wsX4_init) := ggX7_init_X4_init
set_option maxRecDepth 20000 in
theorem ggX7_init_X1_init : GoodIn wsX7_init wsX1_init := goodIn_r _ [41, 42, 2, 3, 43, 87, 88, 89] (by decide +kernel) (by decide +kernel)
set_option maxRecDepth 20000 in
theorem gX7_init_X1_init : GoodIn wsX7_init (wsX1_init) := ggX7_init_X1_init
set_option maxRecDepth 20000 in
theorem ggX7_init_X3_init : GoodIn wsX7_init wsX3_init := goodIn_r _ [46, 47, 2, 3, 48, 28, 29, 49, 50, 51, 52, 34, 35, 36, 37, 38, 107, 90, 91, 92, 93] (by decide +kernel) (by decide +kernel)
set_option maxRecDepth 20000 in
theorem gX7_init_X3_init : GoodIn wsX7_init (wsX3_init) := ggX7_init_X3_init
set_option maxRecDepth 20000 in
theorem ggX7_init_X0_init : GoodIn wsX7_init wsX0_init := goodIn_r _ [55, 56, 2, 3, 57, 58, 59, 60, 61, 62, 63, 64, 65, 66, 67, 108, 109, 94, 95, 96, 97, 98, 99, 100, 101, 102] (by decide +kernel) (by decide +kernel)
set_option maxRecDepth 20000 in
theorem gX7_init_X0_init : GoodIn wsX7_init (wsX0_init) := ggX7_init_X0_init
set_option maxRecDepth 20000 in
theorem ggX7_init_X6_init : GoodIn wsX7_init wsX6_init := goodIn_r _ [70, 71, 2, 3, 72, 28, 29, 73, 74, 75, 76, 34, 35, 36, 37, 38, 107, 103, 104, 105, 106] (by decide +kernel) (by decide +kernel)
set_option maxRecDepth 20000 in
theorem gX7_init_X6_init : GoodIn wsX7_init (wsX6_init) := ggX7_init_X6_init
theorem dX7_init_0 : decode cX7_init 0 = .ok (.aload_n 0, 1) := by decide +kernel
theorem dX7_init_1 : decode cX7_init 1 = .ok (.invokespecial 1, 3) := by decide +kernel
theorem dX7_init_4 : decode cX7_init 4 = .ok (.aload_n 0, 1) := by decide +kernel
theorem dX7_init_5 : decode cX7_init 5 = .ok (.new 7, 3) := by decide +kernel
theorem dX7_init_8 : decode cX7_init 8 = .ok (.dup, 1) := by decide +kernel
theorem dX7_init_9 : decode cX7_init 9 = .ok (.invokespecial 9, 3) := by decide +kernel
theorem dX7_init_12 : decode cX7_init 12 = .ok (.putfield 10, 3) := by decide +kernel
theorem dX7_init_15 : decode cX7_init 15 = .ok (.aload_n 0, 1) := by decide +kernel
theorem dX7_init_16 : decode cX7_init 16 = .ok (.new 16, 3) := by decide +kernel
theorem dX7_init_19 : decode cX7_init 19 = .ok (.dup, 1) := by decide +kernel
theorem dX7_init_20 : decode cX7_init 20 = .ok (.aload_n 0, 1) := by decide +kernel
theorem dX7_init_21 : decode cX7_init 21 = .ok (.getfield 10, 3) := by decide +kernel
theorem dX7_init_24 : decode cX7_init 24 = .ok (.invokespecial 18, 3) := by decide +kernel
theorem dX7_init_27 : decode cX7_init 27 = .ok (.putfield 21, 3) := by decide +kernel
theorem dX7_init_30 : decode cX7_init 30 = .ok (.aload_n 0, 1) := by decide +kernel
theorem dX7_init_31 : decode cX7_init 31 = .ok (.new 25, 3) := by decide +kernel
theorem dX7_init_34 : decode cX7_init 34 = .ok (.dup, 1) := by decide +kernel
theorem dX7_init_35 : decode cX7_init 35 = .ok (.aload_n 0, 1) := by decide +kernel
theorem dX7_init_36 : decode cX7_init 36 = .ok (.getfield 10, 3) := by decide +kernel
theorem dX7_init_39 : decode cX7_init 39 = .ok (.invokespecial 27, 3) := by decide +kernel
theorem dX7_init_42 : decode cX7_init 42 = .ok (.putfield 28, 3) := by decide +kernel
theorem dX7_init_45 : decode cX7_init 45 = .ok (.aload_n 0, 1) := by decide +kernel
theorem dX7_init_46 : decode cX7_init 46 = .ok (.new 32, 3) := by decide +kernel
theorem dX7_init_49 : decode cX7_init 49 = .ok (.dup, 1) := by decide +kernel
theorem dX7_init_50 : decode cX7_init 50 = .ok (.aload_n 0, 1) := by decide +kernel
theorem dX7_init_51 : decode cX7_init 51 = .ok (.getfield 10, 3) := by decide +kernel
theorem dX7_init_54 : decode cX7_init 54 = .ok (.invokespecial 34, 3) := by decide +kernel
theorem dX7_init_57 : decode cX7_init 57 = .ok (.putfield 35, 3) := by decide +kernel
theorem dX7_init_60 : decode cX7_init 60 = .ok (.aload_n 0, 1) := by decide +kernel
theorem dX7_init_61 : decode cX7_init 61 = .ok (.new 39, 3) := by decide +kernel
theorem dX7_init_64 : decode cX7_init 64 = .ok (.dup, 1) := by decide +kernel
theorem dX7_init_65 : decode cX7_init 65 = .ok (.aload_n 0, 1) := by decide +kernel
theorem dX7_init_66 : decode cX7_init 66 = .ok (.getfield 10, 3) := by decide +kernel
theorem dX7_init_69 : decode cX7_init 69 = .ok (.aload_n 0, 1) := by decide +kernel
theorem dX7_init_70 : decode cX7_init 70 = .ok (.getfield 21, 3) := by decide +kernel
theorem dX7_init_73 : decode cX7_init 73 = .ok (.invokespecial 41, 3) := by decide +kernel
theorem dX7_init_76 : decode cX7_init 76 = .ok (.putfield 44, 3) := by decide +kernel
theorem dX7_init_79 : decode cX7_init 79 = .ok (.return_, 1) := by decide +kernel
set_option maxRecDepth 20000 in
theorem ggX7_site_X7_needPoint : GoodIn wsX7_site wsX7_needPoint := goodIn_ca (goodIn_r _ [8, 9, 10, 7, 11, 12, 13] (by decide +kernel) (by decide +kernel)) (goodIn_sub (fun _ h => List.mem_cons_of_mem _ (List.mem_append_right _ h)) (by decide +kernel))
set_option maxRecDepth 20000 in
theorem gX7_site_X7_needPoint : GoodIn wsX7_site (va_wsS RX7 48 yX7_needPoint wsX7_needPoint) := goodIn_app (goodIn_of _ (by decide +kernel)) ggX7_site_X7_needPoint
set_option maxRecDepth 20000 in
theorem ggX7_site_X7_needWithin : GoodIn wsX7_site wsX7_needWithin := goodIn_ca (goodIn_r _ [11, 12, 13] (by decide +kernel) (by decide +kernel)) (goodIn_sub (fun _ h => List.mem_cons_of_mem _ (List.mem_append_right _ h)) (by decide +kernel))
set_option maxRecDepth 20000 in
theorem gX7_site_X7_needWithin : GoodIn wsX7_site (va_wsS RX7 52 yX7_needWithin wsX7_needWithin) := goodIn_app (goodIn_of _ (by decide +kernel)) ggX7_site_X7_needWithin
set_option maxRecDepth 20000 in
theorem ggX7_site_X4_add : GoodIn wsX7_site wsX4_add := goodIn_r _ [18, 19, 20, 21, 22, 23, 24, 25, 26, 27, 28, 34, 35, 36, 37, 38, 39] (by decide +kernel) (by decide +kernel)
set_option maxRecDepth 20000 in
theorem gX7_site_X4_add : GoodIn wsX7_site (wsV RX7 67 RX4 yX4_add wsX4_add) := goodIn_app (goodIn_of _ (by decide +kernel)) ggX7_site_X4_add
theorem dX7_site_0 : decode cX7_site 0 = .ok (.iload_n 1, 1) := by decide +kernel
theorem dX7_site_1 : decode cX7_site 1 = .ok (.iload_n 2, 1) := by decide +kernel
theorem dX7_site_2 : decode cX7_site 2 = .ok (.invokestatic 48, 3) := by decide +kernel
theorem dX7_site_5 : decode cX7_site 5 = .ok (.iload_n 3, 1) := by decide +kernel
theorem dX7_site_6 : decode cX7_site 6 = .ok (.sipush (-999), 3) := by decide +kernel
theorem dX7_site_9 : decode cX7_site 9 = .ok (.sipush 999, 3) := by decide +kernel
theorem dX7_site_12 : decode cX7_site 12 = .ok (.invokestatic 52, 3) := by decide +kernel
theorem dX7_site_15 : decode cX7_site 15 = .ok (.aload_n 0, 1) := by decide +kernel
theorem dX7_site_16 : decode cX7_site 16 = .ok (.getfield 10, 3) := by decide +kernel
theorem dX7_site_19 : decode cX7_site 19 = .ok (.getfield 56, 3) := by decide +kernel
theorem dX7_site_22 : decode cX7_site 22 = .ok (.bipush 12, 2) := by decide +kernel
theorem dX7_site_24 : decode cX7_site 24 = .ok (.if_icmp .lt 13, 3) := by decide +kernel
theorem dX7_site_27 : decode cX7_site 27 = .ok (.new 60, 3) := by decide +kernel
theorem dX7_site_30 : decode cX7_site 30 = .ok (.dup, 1) := by decide +kernel
theorem dX7_site_31 : decode cX7_site 31 = .ok (.ldc 62, 2) := by decide +kernel
theorem dX7_site_33 : decode cX7_site 33 = .ok (.invokespecial 64, 3) := by decide +kernel
theorem dX7_site_36 : decode cX7_site 36 = .ok (.athrow, 1) := by decide +kernel
theorem dX7_site_37 : decode cX7_site 37 = .ok (.aload_n 0, 1) := by decide +kernel
theorem dX7_site_38 : decode cX7_site 38 = .ok (.getfield 10, 3) := by decide +kernel
theorem dX7_site_41 : decode cX7_site 41 = .ok (.iload_n 1, 1) := by decide +kernel
theorem dX7_site_42 : decode cX7_site 42 = .ok (.iload_n 2, 1) := by decide +kernel
theorem dX7_site_43 : decode cX7_site 43 = .ok (.iload_n 3, 1) := by decide +kernel
theorem dX7_site_44 : decode cX7_site 44 = .ok (.invokevirtual 67, 3) := by decide +kernel
theorem dX7_site_47 : decode cX7_site 47 = .ok (.ireturn, 1) := by decide +kernel
set_option maxRecDepth 20000 in
theorem ggX7_move_X7_needSite : GoodIn wsX7_move wsX7_needSite := goodIn_ca (goodIn_r _ [8, 9, 10, 1, 11, 26, 27, 28, 29, 30, 31, 32, 33, 34, 35] (by decide +kernel) (by decide +kernel)) (goodIn_sub (fun _ h => List.mem_cons_of_mem _ (List.mem_append_left _ (List.mem_append_right _ h))) (by decide +kernel))
set_option maxRecDepth 20000 in
theorem gX7_move_X7_needSite : GoodIn wsX7_move (wsV RX7 71 RX7 yX7_needSite wsX7_needSite) := goodIn_app (goodIn_of _ (by decide +kernel)) ggX7_move_X7_needSite
set_option maxRecDepth 20000 in
theorem ggX7_move_X7_needPoint : GoodIn wsX7_move wsX7_needPoint := goodIn_ca (goodIn_r _ [14, 15, 16, 7, 17, 18, 19] (by decide +kernel) (by decide +kernel)) (goodIn_sub (fun _ h => List.mem_cons_of_mem _ (List.mem_append_right _ h)) (by decide +kernel))
set_option maxRecDepth 20000 in
theorem gX7_move_X7_needPoint : GoodIn wsX7_move (va_wsS RX7 48 yX7_needPoint wsX7_needPoint) := goodIn_app (goodIn_of _ (by decide +kernel)) ggX7_move_X7_needPoint
set_option maxRecDepth 20000 in
theorem ggX7_move_X5_put : GoodIn wsX7_move wsX5_put := goodIn_r _ [24, 25, 36] (by decide +kernel) (by decide +kernel)
set_option maxRecDepth 20000 in
theorem gX7_move_X5_put : GoodIn wsX7_move (wsV RX7 79 RX5 yX5_put wsX5_put) := goodIn_app (goodIn_of _ (by decide +kernel)) ggX7_move_X5_put
theorem dX7_move_0 : decode cX7_move 0 = .ok (.aload_n 0, 1) := by decide +kernel
theorem dX7_move_1 : decode cX7_move 1 = .ok (.iload_n 1, 1) := by decide +kernel
theorem dX7_move_2 : decode cX7_move 2 = .ok (.invokevirtual 71, 3) := by decide +kernel
theorem dX7_move_5 : decode cX7_move 5 = .ok (.iload_n 2, 1) := by decide +kernel
theorem dX7_move_6 : decode cX7_move 6 = .ok (.iload_n 3, 1) := by decide +kernel
theorem dX7_move_7 : decode cX7_move 7 = .ok (.invokestatic 48, 3) := by decide +kernel
theorem dX7_move_10 : decode cX7_move 10 = .ok (.aload_n 0, 1) := by decide +kernel
theorem dX7_move_11 : decode cX7_move 11 = .ok (.getfield 10, 3) := by decide +kernel
theorem dX7_move_14 : decode cX7_move 14 = .ok (.getfield 75, 3) := by decide +kernel
theorem dX7_move_17 : decode cX7_move 17 = .ok (.iload_n 1, 1) := by decide +kernel
theorem dX7_move_18 : decode cX7_move 18 = .ok (.iload_n 2, 1) := by decide +kernel
theorem dX7_move_19 : decode cX7_move 19 = .ok (.invokevirtual 79, 3) := by decide +kernel
theorem dX7_move_22 : decode cX7_move 22 = .ok (.aload_n 0, 1) := by decide +kernel
theorem dX7_move_23 : decode cX7_move 23 = .ok (.getfield 10, 3) := by decide +kernel
theorem dX7_move_26 : decode cX7_move 26 = .ok (.getfield 84, 3) := by decide +kernel
theorem dX7_move_29 : decode cX7_move 29 = .ok (.iload_n 1, 1) := by decide +kernel
theorem dX7_move_30 : decode cX7_move 30 = .ok (.iload_n 3, 1) := by decide +kernel
theorem dX7_move_31 : decode cX7_move 31 = .ok (.invokevirtual 79, 3) := by decide +kernel
theorem dX7_move_34 : decode cX7_move 34 = .ok (.return_, 1) := by decide +kernel
set_option maxRecDepth 20000 in
theorem ggX7_weight_X7_needSite : GoodIn wsX7_weight wsX7_needSite := goodIn_ca (goodIn_r _ [7, 8, 9, 1, 10, 26, 27, 28, 29, 30, 31, 32, 33, 34, 35] (by decide +kernel) (by decide +kernel)) (goodIn_sub (fun _ h => List.mem_cons_of_mem _ (List.mem_append_left _ (List.mem_append_right _ h))) (by decide +kernel))
set_option maxRecDepth 20000 in
theorem gX7_weight_X7_needSite : GoodIn wsX7_weight (wsV RX7 71 RX7 yX7_needSite wsX7_needSite) := goodIn_app (goodIn_of _ (by decide +kernel)) ggX7_weight_X7_needSite
set_option maxRecDepth 20000 in
theorem ggX7_weight_X7_needWithin : GoodIn wsX7_weight wsX7_needWithin := goodIn_ca (goodIn_r _ [13, 14, 15] (by decide +kernel) (by decide +kernel)) (goodIn_sub (fun _ h => List.mem_cons_of_mem _ (List.mem_append_right _ h)) (by decide +kernel))
set_option maxRecDepth 20000 in
theorem gX7_weight_X7_needWithin : GoodIn wsX7_weight (va_wsS RX7 52 yX7_needWithin wsX7_needWithin) := goodIn_app (goodIn_of _ (by decide +kernel)) ggX7_weight_X7_needWithin
set_option maxRecDepth 20000 in
theorem ggX7_weight_X5_at : GoodIn wsX7_weight wsX5_at := goodIn_r _ [20, 21, 36] (by decide +kernel) (by decide +kernel)
set_option maxRecDepth 20000 in
theorem gX7_weight_X5_at : GoodIn wsX7_weight (wsV RX7 90 RX5 yX5_at wsX5_at) := goodIn_app (goodIn_of _ (by decide +kernel)) ggX7_weight_X5_at
set_option maxRecDepth 20000 in
theorem ggX7_weight_X5_put : GoodIn wsX7_weight wsX5_put := goodIn_r _ [25, 21, 36] (by decide +kernel) (by decide +kernel)
set_option maxRecDepth 20000 in
theorem gX7_weight_X5_put : GoodIn wsX7_weight (wsV RX7 79 RX5 yX5_put wsX5_put) := goodIn_app (goodIn_of _ (by decide +kernel)) ggX7_weight_X5_put
theorem dX7_weight_0 : decode cX7_weight 0 = .ok (.aload_n 0, 1) := by decide +kernel
theorem dX7_weight_1 : decode cX7_weight 1 = .ok (.iload_n 1, 1) := by decide +kernel
theorem dX7_weight_2 : decode cX7_weight 2 = .ok (.invokevirtual 71, 3) := by decide +kernel
theorem dX7_weight_5 : decode cX7_weight 5 = .ok (.iload_n 2, 1) := by decide +kernel
theorem dX7_weight_6 : decode cX7_weight 6 = .ok (.sipush (-999), 3) := by decide +kernel
theorem dX7_weight_9 : decode cX7_weight 9 = .ok (.sipush 999, 3) := by decide +kernel
theorem dX7_weight_12 : decode cX7_weight 12 = .ok (.invokestatic 52, 3) := by decide +kernel
theorem dX7_weight_15 : decode cX7_weight 15 = .ok (.aload_n 0, 1) := by decide +kernel
theorem dX7_weight_16 : decode cX7_weight 16 = .ok (.getfield 10, 3) := by decide +kernel
theorem dX7_weight_19 : decode cX7_weight 19 = .ok (.getfield 87, 3) := by decide +kernel
theorem dX7_weight_22 : decode cX7_weight 22 = .ok (.iload_n 1, 1) := by decide +kernel
theorem dX7_weight_23 : decode cX7_weight 23 = .ok (.invokevirtual 90, 3) := by decide +kernel
theorem dX7_weight_26 : decode cX7_weight 26 = .ok (.istore_n 3, 1) := by decide +kernel
theorem dX7_weight_27 : decode cX7_weight 27 = .ok (.aload_n 0, 1) := by decide +kernel
theorem dX7_weight_28 : decode cX7_weight 28 = .ok (.getfield 10, 3) := by decide +kernel
theorem dX7_weight_31 : decode cX7_weight 31 = .ok (.getfield 87, 3) := by decide +kernel
theorem dX7_weight_34 : decode cX7_weight 34 = .ok (.iload_n 1, 1) := by decide +kernel
theorem dX7_weight_35 : decode cX7_weight 35 = .ok (.iload_n 2, 1) := by decide +kernel
theorem dX7_weight_36 : decode cX7_weight 36 = .ok (.invokevirtual 79, 3) := by decide +kernel
theorem dX7_weight_39 : decode cX7_weight 39 = .ok (.iload_n 3, 1) := by decide +kernel
theorem dX7_weight_40 : decode cX7_weight 40 = .ok (.ireturn, 1) := by decide +kernel
set_option maxRecDepth 20000 in
theorem ggX7_capacity_X7_needSite : GoodIn wsX7_capacity wsX7_needSite := goodIn_ca (goodIn_r _ [7, 8, 9, 1, 10, 26, 27, 28, 29, 30, 31, 32, 33, 34, 35] (by decide +kernel) (by decide +kernel)) (goodIn_sub (fun _ h => List.mem_cons_of_mem _ (List.mem_append_left _ (List.mem_append_right _ h))) (by decide +kernel))
set_option maxRecDepth 20000 in
theorem gX7_capacity_X7_needSite : GoodIn wsX7_capacity (wsV RX7 71 RX7 yX7_needSite wsX7_needSite) := goodIn_app (goodIn_of _ (by decide +kernel)) ggX7_capacity_X7_needSite
set_option maxRecDepth 20000 in
theorem ggX7_capacity_X7_needWithin : GoodIn wsX7_capacity wsX7_needWithin := goodIn_ca (goodIn_r _ [13, 14, 15] (by decide +kernel) (by decide +kernel)) (goodIn_sub (fun _ h => List.mem_cons_of_mem _ (List.mem_append_right _ h)) (by decide +kernel))
set_option maxRecDepth 20000 in
theorem gX7_capacity_X7_needWithin : GoodIn wsX7_capacity (va_wsS RX7 52 yX7_needWithin wsX7_needWithin) := goodIn_app (goodIn_of _ (by decide +kernel)) ggX7_capacity_X7_needWithin
set_option maxRecDepth 20000 in
theorem ggX7_capacity_X5_at : GoodIn wsX7_capacity wsX5_at := goodIn_r _ [20, 21, 36] (by decide +kernel) (by decide +kernel)
set_option maxRecDepth 20000 in
theorem gX7_capacity_X5_at : GoodIn wsX7_capacity (wsV RX7 90 RX5 yX5_at wsX5_at) := goodIn_app (goodIn_of _ (by decide +kernel)) ggX7_capacity_X5_at
set_option maxRecDepth 20000 in
theorem ggX7_capacity_X5_put : GoodIn wsX7_capacity wsX5_put := goodIn_r _ [25, 21, 36] (by decide +kernel) (by decide +kernel)
set_option maxRecDepth 20000 in
theorem gX7_capacity_X5_put : GoodIn wsX7_capacity (wsV RX7 79 RX5 yX5_put wsX5_put) := goodIn_app (goodIn_of _ (by decide +kernel)) ggX7_capacity_X5_put
theorem dX7_capacity_0 : decode cX7_capacity 0 = .ok (.aload_n 0, 1) := by decide +kernel
theorem dX7_capacity_1 : decode cX7_capacity 1 = .ok (.iload_n 1, 1) := by decide +kernel
theorem dX7_capacity_2 : decode cX7_capacity 2 = .ok (.invokevirtual 71, 3) := by decide +kernel
theorem dX7_capacity_5 : decode cX7_capacity 5 = .ok (.iload_n 2, 1) := by decide +kernel
theorem dX7_capacity_6 : decode cX7_capacity 6 = .ok (.iconst 0, 1) := by decide +kernel
theorem dX7_capacity_7 : decode cX7_capacity 7 = .ok (.sipush 1681, 3) := by decide +kernel
theorem dX7_capacity_10 : decode cX7_capacity 10 = .ok (.invokestatic 52, 3) := by decide +kernel
theorem dX7_capacity_13 : decode cX7_capacity 13 = .ok (.aload_n 0, 1) := by decide +kernel
theorem dX7_capacity_14 : decode cX7_capacity 14 = .ok (.getfield 10, 3) := by decide +kernel
theorem dX7_capacity_17 : decode cX7_capacity 17 = .ok (.getfield 94, 3) := by decide +kernel
theorem dX7_capacity_20 : decode cX7_capacity 20 = .ok (.iload_n 1, 1) := by decide +kernel
theorem dX7_capacity_21 : decode cX7_capacity 21 = .ok (.invokevirtual 90, 3) := by decide +kernel
theorem dX7_capacity_24 : decode cX7_capacity 24 = .ok (.istore_n 3, 1) := by decide +kernel
theorem dX7_capacity_25 : decode cX7_capacity 25 = .ok (.aload_n 0, 1) := by decide +kernel
theorem dX7_capacity_26 : decode cX7_capacity 26 = .ok (.getfield 10, 3) := by decide +kernel
theorem dX7_capacity_29 : decode cX7_capacity 29 = .ok (.getfield 94, 3) := by decide +kernel
theorem dX7_capacity_32 : decode cX7_capacity 32 = .ok (.iload_n 1, 1) := by decide +kernel
theorem dX7_capacity_33 : decode cX7_capacity 33 = .ok (.iload_n 2, 1) := by decide +kernel
theorem dX7_capacity_34 : decode cX7_capacity 34 = .ok (.invokevirtual 79, 3) := by decide +kernel
theorem dX7_capacity_37 : decode cX7_capacity 37 = .ok (.iload_n 3, 1) := by decide +kernel
theorem dX7_capacity_38 : decode cX7_capacity 38 = .ok (.ireturn, 1) := by decide +kernel
set_option maxRecDepth 20000 in
theorem ggX7_balance_X7_needBalance : GoodIn wsX7_balance wsX7_needBalance := goodIn_ca (goodIn_ca (goodIn_r _ [6, 7, 8, 9, 10, 11, 12, 5, 13, 14, 15, 93, 94, 95, 96, 97, 98, 99, 100, 101, 102] (by decide +kernel) (by decide +kernel)) (goodIn_sub (fun _ h => List.mem_cons_of_mem _ (List.mem_append_left _ (List.mem_append_right _ h))) (by decide +kernel))) (goodIn_sub (fun _ h => List.mem_cons_of_mem _ (List.mem_append_right _ h)) (by decide +kernel))
set_option maxRecDepth 20000 in
theorem gX7_balance_X7_needBalance : GoodIn wsX7_balance (wsV RX7 97 RX7 yX7_needBalance wsX7_needBalance) := goodIn_app (goodIn_of _ (by decide +kernel)) ggX7_balance_X7_needBalance
set_option maxRecDepth 20000 in
theorem ggX7_balance_X6_repeat : GoodIn wsX7_balance wsX6_repeat := goodIn_r _ [20, 21, 22, 23, 24, 25, 26, 27, 28, 29, 30, 31, 32, 19, 33, 34, 35, 36, 37, 38, 39, 40, 41, 42, 43, 44, 45, 46, 47, 48, 49, 50, 51, 52, 53, 54, 55, 56, 57, 58, 59, 60, 61, 62, 63, 64, 65, 66, 67, 68, 69, 70, 71, 72, 73, 74, 75, 76, 77, 78, 79, 80, 81, 82, 83, 84, 85, 86, 87, 88, 89, 90, 91, 92, 103, 104, 105, 106, 98, 99, 100, 101, 102, 107, 108, 109, 110] (by decide +kernel) (by decide +kernel)
set_option maxRecDepth 20000 in
theorem gX7_balance_X6_repeat : GoodIn wsX7_balance (wsV RX7 100 RX6 yX6_repeat wsX6_repeat) := goodIn_app (goodIn_of _ (by decide +kernel)) ggX7_balance_X6_repeat
theorem dX7_balance_0 : decode cX7_balance 0 = .ok (.aload_n 0, 1) := by decide +kernel
theorem dX7_balance_1 : decode cX7_balance 1 = .ok (.iload_n 1, 1) := by decide +kernel
theorem dX7_balance_2 : decode cX7_balance 2 = .ok (.iload_n 2, 1) := by decide +kernel
theorem dX7_balance_3 : decode cX7_balance 3 = .ok (.invokevirtual 97, 3) := by decide +kernel
theorem dX7_balance_6 : decode cX7_balance 6 = .ok (.aload_n 0, 1) := by decide +kernel
theorem dX7_balance_7 : decode cX7_balance 7 = .ok (.getfield 44, 3) := by decide +kernel
theorem dX7_balance_10 : decode cX7_balance 10 = .ok (.iload_n 1, 1) := by decide +kernel
theorem dX7_balance_11 : decode cX7_balance 11 = .ok (.iload_n 2, 1) := by decide +kernel
theorem dX7_balance_12 : decode cX7_balance 12 = .ok (.invokevirtual 100, 3) := by decide +kernel
theorem dX7_balance_15 : decode cX7_balance 15 = .ok (.ireturn, 1) := by decide +kernel
theorem dX7_sites_0 : decode cX7_sites 0 = .ok (.aload_n 0, 1) := by decide +kernel
theorem dX7_sites_1 : decode cX7_sites 1 = .ok (.getfield 10, 3) := by decide +kernel
theorem dX7_sites_4 : decode cX7_sites 4 = .ok (.getfield 56, 3) := by decide +kernel
theorem dX7_sites_7 : decode cX7_sites 7 = .ok (.ireturn, 1) := by decide +kernel
set_option maxRecDepth 20000 in
theorem ggX7_ofSite_X7_needSite : GoodIn wsX7_ofSite wsX7_needSite := goodIn_ca (goodIn_r _ [11, 12, 13, 1, 14, 92, 93, 94, 95, 96, 97, 98, 99, 100, 101] (by decide +kernel) (by decide +kernel)) (goodIn_sub (fun _ h => List.mem_cons_of_mem _ (List.mem_append_left _ (List.mem_append_right _ h))) (by decide +kernel))
set_option maxRecDepth 20000 in
theorem gX7_ofSite_X7_needSite : GoodIn wsX7_ofSite (wsV RX7 71 RX7 yX7_needSite wsX7_needSite) := goodIn_app (goodIn_of _ (by decide +kernel)) ggX7_ofSite_X7_needSite
set_option maxRecDepth 20000 in
theorem ggX7_ofSite_X7_needWithin : GoodIn wsX7_ofSite wsX7_needWithin := goodIn_ca (goodIn_r _ [17, 18, 19] (by decide +kernel) (by decide +kernel)) (goodIn_sub (fun _ h => List.mem_cons_of_mem _ (List.mem_append_right _ h)) (by decide +kernel))
set_option maxRecDepth 20000 in
theorem gX7_ofSite_X7_needWithin : GoodIn wsX7_ofSite (va_wsS RX7 52 yX7_needWithin wsX7_needWithin) := goodIn_app (goodIn_of _ (by decide +kernel)) ggX7_ofSite_X7_needWithin
set_option maxRecDepth 20000 in
theorem ggX7_ofSite_X5_at : GoodIn wsX7_ofSite wsX5_at := goodIn_r _ [24, 25, 102] (by decide +kernel) (by decide +kernel)
set_option maxRecDepth 20000 in
theorem gX7_ofSite_X5_at : GoodIn wsX7_ofSite (wsV RX7 90 RX5 yX5_at wsX5_at) := goodIn_app (goodIn_of _ (by decide +kernel)) ggX7_ofSite_X5_at
set_option maxRecDepth 20000 in
theorem ggX7_ofSite_X4_heightOf : GoodIn wsX7_ofSite wsX4_heightOf := goodIn_r _ [30, 31, 32, 33, 29, 34, 35, 36, 37, 38, 21, 22, 23, 24, 25, 97, 98, 99, 100, 101, 102] (by decide +kernel) (by decide +kernel)
set_option maxRecDepth 20000 in
theorem gX7_ofSite_X4_heightOf : GoodIn wsX7_ofSite (wsV RX7 104 RX4 yX4_heightOf wsX4_heightOf) := goodIn_app (goodIn_of _ (by decide +kernel)) ggX7_ofSite_X4_heightOf
set_option maxRecDepth 20000 in
theorem ggX7_ofSite_X6_excessOf : GoodIn wsX7_ofSite wsX6_excessOf := goodIn_r _ [43, 44, 45, 46, 47, 42, 48, 49, 50, 51, 52, 53, 54, 55, 56, 57, 58, 59, 60, 61, 62, 63, 64, 65, 66, 67, 68, 69, 70, 71, 72, 73, 74, 75, 76, 77, 32, 33, 29, 34, 35, 36, 37, 38, 21, 22, 23, 24, 25, 78, 79, 80, 81, 82, 83, 84, 85, 86, 87, 88, 89, 90, 91, 103, 104, 105, 106, 97, 98, 99, 100, 101, 107, 108, 109, 102] (by decide +kernel) (by decide +kernel)
set_option maxRecDepth 20000 in
theorem gX7_ofSite_X6_excessOf : GoodIn wsX7_ofSite (wsV RX7 107 RX6 yX6_excessOf wsX6_excessOf) := goodIn_app (goodIn_of _ (by decide +kernel)) ggX7_ofSite_X6_excessOf
theorem dX7_ofSite_0 : decode cX7_ofSite 0 = .ok (.aload_n 0, 1) := by decide +kernel
theorem dX7_ofSite_1 : decode cX7_ofSite 1 = .ok (.iload_n 1, 1) := by decide +kernel
theorem dX7_ofSite_2 : decode cX7_ofSite 2 = .ok (.invokevirtual 71, 3) := by decide +kernel
theorem dX7_ofSite_5 : decode cX7_ofSite 5 = .ok (.iload_n 2, 1) := by decide +kernel
theorem dX7_ofSite_6 : decode cX7_ofSite 6 = .ok (.iconst 0, 1) := by decide +kernel
theorem dX7_ofSite_7 : decode cX7_ofSite 7 = .ok (.iconst 5, 1) := by decide +kernel
theorem dX7_ofSite_8 : decode cX7_ofSite 8 = .ok (.invokestatic 52, 3) := by decide +kernel
theorem dX7_ofSite_11 : decode cX7_ofSite 11 = .ok (.iload_n 2, 1) := by decide +kernel
theorem dX7_ofSite_12 : decode cX7_ofSite 12 = .ok (.tableswitch 93 0 4 #[36, 48, 60, 72, 84], 36) := by decide +kernel
theorem dX7_ofSite_48 : decode cX7_ofSite 48 = .ok (.aload_n 0, 1) := by decide +kernel
theorem dX7_ofSite_49 : decode cX7_ofSite 49 = .ok (.getfield 10, 3) := by decide +kernel
theorem dX7_ofSite_52 : decode cX7_ofSite 52 = .ok (.getfield 75, 3) := by decide +kernel
theorem dX7_ofSite_55 : decode cX7_ofSite 55 = .ok (.iload_n 1, 1) := by decide +kernel
theorem dX7_ofSite_56 : decode cX7_ofSite 56 = .ok (.invokevirtual 90, 3) := by decide +kernel
theorem dX7_ofSite_59 : decode cX7_ofSite 59 = .ok (.ireturn, 1) := by decide +kernel
theorem dX7_ofSite_60 : decode cX7_ofSite 60 = .ok (.aload_n 0, 1) := by decide +kernel
theorem dX7_ofSite_61 : decode cX7_ofSite 61 = .ok (.getfield 10, 3) := by decide +kernel
theorem dX7_ofSite_64 : decode cX7_ofSite 64 = .ok (.getfield 84, 3) := by decide +kernel
theorem dX7_ofSite_67 : decode cX7_ofSite 67 = .ok (.iload_n 1, 1) := by decide +kernel
theorem dX7_ofSite_68 : decode cX7_ofSite 68 = .ok (.invokevirtual 90, 3) := by decide +kernel
theorem dX7_ofSite_71 : decode cX7_ofSite 71 = .ok (.ireturn, 1) := by decide +kernel
theorem dX7_ofSite_72 : decode cX7_ofSite 72 = .ok (.aload_n 0, 1) := by decide +kernel
theorem dX7_ofSite_73 : decode cX7_ofSite 73 = .ok (.getfield 10, 3) := by decide +kernel
theorem dX7_ofSite_76 : decode cX7_ofSite 76 = .ok (.getfield 87, 3) := by decide +kernel
theorem dX7_ofSite_79 : decode cX7_ofSite 79 = .ok (.iload_n 1, 1) := by decide +kernel
theorem dX7_ofSite_80 : decode cX7_ofSite 80 = .ok (.invokevirtual 90, 3) := by decide +kernel
theorem dX7_ofSite_83 : decode cX7_ofSite 83 = .ok (.ireturn, 1) := by decide +kernel
theorem dX7_ofSite_84 : decode cX7_ofSite 84 = .ok (.aload_n 0, 1) := by decide +kernel
theorem dX7_ofSite_85 : decode cX7_ofSite 85 = .ok (.getfield 10, 3) := by decide +kernel
theorem dX7_ofSite_88 : decode cX7_ofSite 88 = .ok (.getfield 94, 3) := by decide +kernel
theorem dX7_ofSite_91 : decode cX7_ofSite 91 = .ok (.iload_n 1, 1) := by decide +kernel
theorem dX7_ofSite_92 : decode cX7_ofSite 92 = .ok (.invokevirtual 90, 3) := by decide +kernel
theorem dX7_ofSite_95 : decode cX7_ofSite 95 = .ok (.ireturn, 1) := by decide +kernel
theorem dX7_ofSite_96 : decode cX7_ofSite 96 = .ok (.aload_n 0, 1) := by decide +kernel
theorem dX7_ofSite_97 : decode cX7_ofSite 97 = .ok (.getfield 10, 3) := by decide +kernel
theorem dX7_ofSite_100 : decode cX7_ofSite 100 = .ok (.iload_n 1, 1) := by decide +kernel
theorem dX7_ofSite_101 : decode cX7_ofSite 101 = .ok (.invokevirtual 104, 3) := by decide +kernel
theorem dX7_ofSite_104 : decode cX7_ofSite 104 = .ok (.ireturn, 1) := by decide +kernel
theorem dX7_ofSite_105 : decode cX7_ofSite 105 = .ok (.aload_n 0, 1) := by decide +kernel
theorem dX7_ofSite_106 : decode cX7_ofSite 106 = .ok (.getfield 44, 3) := by decide +kernel
theorem dX7_ofSite_109 : decode cX7_ofSite 109 = .ok (.iload_n 1, 1) := by decide +kernel
theorem dX7_ofSite_110 : decode cX7_ofSite 110 = .ok (.invokevirtual 107, 3) := by decide +kernel
theorem dX7_ofSite_113 : decode cX7_ofSite 113 = .ok (.ireturn, 1) := by decide +kernel
set_option maxRecDepth 20000 in
theorem ggX7_power_X7_needSite : GoodIn wsX7_power wsX7_needSite := goodIn_ca (goodIn_r _ [6, 7, 8, 1, 9, 32, 33, 34, 35, 36, 37, 38, 39, 40, 41] (by decide +kernel) (by decide +kernel)) (goodIn_sub (fun _ h => List.mem_cons_of_mem _ (List.mem_append_left _ (List.mem_append_right _ h))) (by decide +kernel))
set_option maxRecDepth 20000 in
theorem gX7_power_X7_needSite : GoodIn wsX7_power (wsV RX7 71 RX7 yX7_needSite wsX7_needSite) := goodIn_app (goodIn_of _ (by decide +kernel)) ggX7_power_X7_needSite
set_option maxRecDepth 20000 in
theorem ggX7_power_X7_needPoint : GoodIn wsX7_power wsX7_needPoint := goodIn_ca (goodIn_r _ [12, 13, 14, 5, 15, 16, 17] (by decide +kernel) (by decide +kernel)) (goodIn_sub (fun _ h => List.mem_cons_of_mem _ (List.mem_append_right _ h)) (by decide +kernel))
set_option maxRecDepth 20000 in
theorem gX7_power_X7_needPoint : GoodIn wsX7_power (va_wsS RX7 48 yX7_needPoint wsX7_needPoint) := goodIn_app (goodIn_of _ (by decide +kernel)) ggX7_power_X7_needPoint
set_option maxRecDepth 20000 in
theorem ggX7_power_X4_powerAt : GoodIn wsX7_power wsX4_powerAt := goodIn_r _ [22, 23, 24, 25, 26, 27, 28, 29, 30, 31, 37, 38, 39, 40, 41, 42] (by decide +kernel) (by decide +kernel)
set_option maxRecDepth 20000 in
theorem gX7_power_X4_powerAt : GoodIn wsX7_power (wsV RX7 110 RX4 yX4_powerAt wsX4_powerAt) := goodIn_app (goodIn_of _ (by decide +kernel)) ggX7_power_X4_powerAt
theorem dX7_power_0 : decode cX7_power 0 = .ok (.aload_n 0, 1) := by decide +kernel
theorem dX7_power_1 : decode cX7_power 1 = .ok (.iload_n 1, 1) := by decide +kernel
theorem dX7_power_2 : decode cX7_power 2 = .ok (.invokevirtual 71, 3) := by decide +kernel
theorem dX7_power_5 : decode cX7_power 5 = .ok (.iload_n 2, 1) := by decide +kernel
theorem dX7_power_6 : decode cX7_power 6 = .ok (.iload_n 3, 1) := by decide +kernel
theorem dX7_power_7 : decode cX7_power 7 = .ok (.invokestatic 48, 3) := by decide +kernel
theorem dX7_power_10 : decode cX7_power 10 = .ok (.aload_n 0, 1) := by decide +kernel
theorem dX7_power_11 : decode cX7_power 11 = .ok (.getfield 10, 3) := by decide +kernel
theorem dX7_power_14 : decode cX7_power 14 = .ok (.iload_n 1, 1) := by decide +kernel
theorem dX7_power_15 : decode cX7_power 15 = .ok (.iload_n 2, 1) := by decide +kernel
theorem dX7_power_16 : decode cX7_power 16 = .ok (.iload_n 3, 1) := by decide +kernel
theorem dX7_power_17 : decode cX7_power 17 = .ok (.invokevirtual 110, 3) := by decide +kernel
theorem dX7_power_20 : decode cX7_power 20 = .ok (.ireturn, 1) := by decide +kernel
set_option maxRecDepth 20000 in
theorem ggX7_owner_X7_needPoint : GoodIn wsX7_owner wsX7_needPoint := goodIn_ca (goodIn_r _ [5, 6, 7, 4, 8, 9, 10] (by decide +kernel) (by decide +kernel)) (goodIn_sub (fun _ h => List.mem_cons_of_mem _ (List.mem_append_right _ h)) (by decide +kernel))
set_option maxRecDepth 20000 in
theorem gX7_owner_X7_needPoint : GoodIn wsX7_owner (va_wsS RX7 48 yX7_needPoint wsX7_needPoint) := goodIn_app (goodIn_of _ (by decide +kernel)) ggX7_owner_X7_needPoint
set_option maxRecDepth 20000 in
theorem ggX7_owner_X1_ownerAt : GoodIn wsX7_owner wsX1_ownerAt := goodIn_r _ [15, 16, 17, 18, 19, 20, 21, 22, 23, 24, 25, 26, 27, 28, 29, 30, 31, 37, 38, 39, 40, 41, 42, 43, 44, 45] (by decide +kernel) (by decide +kernel)
set_option maxRecDepth 20000 in
theorem gX7_owner_X1_ownerAt : GoodIn wsX7_owner (wsV RX7 113 RX1 yX1_ownerAt wsX1_ownerAt) := goodIn_app (goodIn_of _ (by decide +kernel)) ggX7_owner_X1_ownerAt
theorem dX7_owner_0 : decode cX7_owner 0 = .ok (.iload_n 1, 1) := by decide +kernel
theorem dX7_owner_1 : decode cX7_owner 1 = .ok (.iload_n 2, 1) := by decide +kernel
theorem dX7_owner_2 : decode cX7_owner 2 = .ok (.invokestatic 48, 3) := by decide +kernel
theorem dX7_owner_5 : decode cX7_owner 5 = .ok (.aload_n 0, 1) := by decide +kernel
theorem dX7_owner_6 : decode cX7_owner 6 = .ok (.getfield 21, 3) := by decide +kernel
theorem dX7_owner_9 : decode cX7_owner 9 = .ok (.iload_n 1, 1) := by decide +kernel
theorem dX7_owner_10 : decode cX7_owner 10 = .ok (.iload_n 2, 1) := by decide +kernel
theorem dX7_owner_11 : decode cX7_owner 11 = .ok (.invokevirtual 113, 3) := by decide +kernel
theorem dX7_owner_14 : decode cX7_owner 14 = .ok (.ireturn, 1) := by decide +kernel
set_option maxRecDepth 20000 in
theorem ggX7_share_X7_needSite : GoodIn wsX7_share wsX7_needSite := goodIn_ca (goodIn_r _ [6, 7, 8, 9, 10, 55, 56, 57, 58, 59, 60, 61, 62, 63, 64] (by decide +kernel) (by decide +kernel)) (goodIn_sub (fun _ h => List.mem_cons_of_mem _ (List.mem_append_right _ h)) (by decide +kernel))
set_option maxRecDepth 20000 in
theorem gX7_share_X7_needSite : GoodIn wsX7_share (wsV RX7 71 RX7 yX7_needSite wsX7_needSite) := goodIn_app (goodIn_of _ (by decide +kernel)) ggX7_share_X7_needSite
set_option maxRecDepth 20000 in
theorem ggX7_share_X1_countByRows : GoodIn wsX7_share wsX1_countByRows := goodIn_r _ [15, 16, 17, 18, 14, 19, 20, 21, 22, 23, 24, 25, 26, 27, 28, 29, 30, 31, 32, 33, 34, 35, 36, 37, 38, 39, 40, 41, 42, 43, 44, 45, 46, 47, 48, 49, 50, 51, 52, 53, 54, 65, 66, 67, 60, 61, 62, 63, 64, 68] (by decide +kernel) (by decide +kernel)
set_option maxRecDepth 20000 in
theorem gX7_share_X1_countByRows : GoodIn wsX7_share (wsV RX7 116 RX1 yX1_countByRows wsX1_countByRows) := goodIn_app (goodIn_of _ (by decide +kernel)) ggX7_share_X1_countByRows
theorem dX7_share_0 : decode cX7_share 0 = .ok (.aload_n 0, 1) := by decide +kernel
theorem dX7_share_1 : decode cX7_share 1 = .ok (.iload_n 1, 1) := by decide +kernel
theorem dX7_share_2 : decode cX7_share 2 = .ok (.invokevirtual 71, 3) := by decide +kernel
theorem dX7_share_5 : decode cX7_share 5 = .ok (.aload_n 0, 1) := by decide +kernel
theorem dX7_share_6 : decode cX7_share 6 = .ok (.getfield 21, 3) := by decide +kernel
theorem dX7_share_9 : decode cX7_share 9 = .ok (.iload_n 1, 1) := by decide +kernel
theorem dX7_share_10 : decode cX7_share 10 = .ok (.invokevirtual 116, 3) := by decide +kernel
theorem dX7_share_13 : decode cX7_share 13 = .ok (.ireturn, 1) := by decide +kernel
set_option maxRecDepth 20000 in
theorem ggX7_shareAnew_X7_needSite : GoodIn wsX7_shareAnew wsX7_needSite := goodIn_ca (goodIn_r _ [6, 7, 8, 9, 10, 36, 37, 38, 39, 40, 41, 42, 43, 44, 45] (by decide +kernel) (by decide +kernel)) (goodIn_sub (fun _ h => List.mem_cons_of_mem _ (List.mem_append_right _ h)) (by decide +kernel))
set_option maxRecDepth 20000 in
theorem gX7_shareAnew_X7_needSite : GoodIn wsX7_shareAnew (wsV RX7 71 RX7 yX7_needSite wsX7_needSite) := goodIn_app (goodIn_of _ (by decide +kernel)) ggX7_shareAnew_X7_needSite
set_option maxRecDepth 20000 in
theorem ggX7_shareAnew_X1_countByPoints : GoodIn wsX7_shareAnew wsX1_countByPoints := goodIn_r _ [15, 16, 17, 18, 14, 19, 20, 21, 22, 23, 24, 25, 26, 27, 28, 29, 30, 31, 32, 33, 34, 35, 46, 47, 48, 41, 42, 43, 44, 45, 49] (by decide +kernel) (by decide +kernel)
set_option maxRecDepth 20000 in
theorem gX7_shareAnew_X1_countByPoints : GoodIn wsX7_shareAnew (wsV RX7 119 RX1 yX1_countByPoints wsX1_countByPoints) := goodIn_app (goodIn_of _ (by decide +kernel)) ggX7_shareAnew_X1_countByPoints
theorem dX7_shareAnew_0 : decode cX7_shareAnew 0 = .ok (.aload_n 0, 1) := by decide +kernel
theorem dX7_shareAnew_1 : decode cX7_shareAnew 1 = .ok (.iload_n 1, 1) := by decide +kernel
theorem dX7_shareAnew_2 : decode cX7_shareAnew 2 = .ok (.invokevirtual 71, 3) := by decide +kernel
theorem dX7_shareAnew_5 : decode cX7_shareAnew 5 = .ok (.aload_n 0, 1) := by decide +kernel
theorem dX7_shareAnew_6 : decode cX7_shareAnew 6 = .ok (.getfield 21, 3) := by decide +kernel
theorem dX7_shareAnew_9 : decode cX7_shareAnew 9 = .ok (.iload_n 1, 1) := by decide +kernel
theorem dX7_shareAnew_10 : decode cX7_shareAnew 10 = .ok (.invokevirtual 119, 3) := by decide +kernel
theorem dX7_shareAnew_13 : decode cX7_shareAnew 13 = .ok (.ireturn, 1) := by decide +kernel
set_option maxRecDepth 20000 in
theorem ggX7_inRow_X7_needSite : GoodIn wsX7_inRow wsX7_needSite := goodIn_ca (goodIn_r _ [8, 9, 10, 11, 12, 58, 59, 60, 61, 62, 66, 67, 68, 69, 70] (by decide +kernel) (by decide +kernel)) (goodIn_sub (fun _ h => List.mem_cons_of_mem _ (List.mem_append_left _ (List.mem_append_right _ h))) (by decide +kernel))
set_option maxRecDepth 20000 in
theorem gX7_inRow_X7_needSite : GoodIn wsX7_inRow (wsV RX7 71 RX7 yX7_needSite wsX7_needSite) := goodIn_app (goodIn_of _ (by decide +kernel)) ggX7_inRow_X7_needSite
set_option maxRecDepth 20000 in
theorem ggX7_inRow_X7_needWithin : GoodIn wsX7_inRow wsX7_needWithin := goodIn_ca (goodIn_r _ [15, 16, 17] (by decide +kernel) (by decide +kernel)) (goodIn_sub (fun _ h => List.mem_cons_of_mem _ (List.mem_append_right _ h)) (by decide +kernel))
set_option maxRecDepth 20000 in
theorem gX7_inRow_X7_needWithin : GoodIn wsX7_inRow (va_wsS RX7 52 yX7_needWithin wsX7_needWithin) := goodIn_app (goodIn_of _ (by decide +kernel)) ggX7_inRow_X7_needWithin
set_option maxRecDepth 20000 in
theorem ggX7_inRow_X1_findSpan : GoodIn wsX7_inRow wsX1_findSpan := goodIn_r _ [22, 23, 24, 25, 26, 27, 28, 29, 30, 31, 32, 33, 34, 35, 36, 37, 38, 39, 40, 41, 42, 43, 44, 45, 46, 47, 48, 49, 50, 51, 52, 53, 63, 64, 65, 66, 67, 68, 69, 70, 71] (by decide +kernel) (by decide +kernel)
set_option maxRecDepth 20000 in
theorem gX7_inRow_X1_findSpan : GoodIn wsX7_inRow (wsV RX7 122 RX1 yX1_findSpan wsX1_findSpan) := goodIn_app (goodIn_of _ (by decide +kernel)) ggX7_inRow_X1_findSpan
set_option maxRecDepth 20000 in
theorem ggX7_inRow_X1_width : GoodIn wsX7_inRow wsX1_width := goodIn_r _ [57, 24, 23, 32, 33, 30, 34, 63, 64, 65] (by decide +kernel) (by decide +kernel)
set_option maxRecDepth 20000 in
theorem gX7_inRow_X1_width : GoodIn wsX7_inRow (wsV RX7 125 RX1 yX1_width wsX1_width) := goodIn_app (goodIn_of _ (by decide +kernel)) ggX7_inRow_X1_width
theorem dX7_inRow_0 : decode cX7_inRow 0 = .ok (.aload_n 0, 1) := by decide +kernel
theorem dX7_inRow_1 : decode cX7_inRow 1 = .ok (.iload_n 1, 1) := by decide +kernel
theorem dX7_inRow_2 : decode cX7_inRow 2 = .ok (.invokevirtual 71, 3) := by decide +kernel
theorem dX7_inRow_5 : decode cX7_inRow 5 = .ok (.iload_n 2, 1) := by decide +kernel
theorem dX7_inRow_6 : decode cX7_inRow 6 = .ok (.iconst 0, 1) := by decide +kernel
theorem dX7_inRow_7 : decode cX7_inRow 7 = .ok (.bipush 40, 2) := by decide +kernel
theorem dX7_inRow_9 : decode cX7_inRow 9 = .ok (.invokestatic 52, 3) := by decide +kernel
theorem dX7_inRow_12 : decode cX7_inRow 12 = .ok (.aload_n 0, 1) := by decide +kernel
theorem dX7_inRow_13 : decode cX7_inRow 13 = .ok (.getfield 21, 3) := by decide +kernel
theorem dX7_inRow_16 : decode cX7_inRow 16 = .ok (.iload_n 1, 1) := by decide +kernel
theorem dX7_inRow_17 : decode cX7_inRow 17 = .ok (.iload_n 2, 1) := by decide +kernel
theorem dX7_inRow_18 : decode cX7_inRow 18 = .ok (.invokevirtual 122, 3) := by decide +kernel
theorem dX7_inRow_21 : decode cX7_inRow 21 = .ok (.aload_n 0, 1) := by decide +kernel
theorem dX7_inRow_22 : decode cX7_inRow 22 = .ok (.getfield 21, 3) := by decide +kernel
theorem dX7_inRow_25 : decode cX7_inRow 25 = .ok (.invokevirtual 125, 3) := by decide +kernel
theorem dX7_inRow_28 : decode cX7_inRow 28 = .ok (.ifCond .ne 5, 3) := by decide +kernel
theorem dX7_inRow_31 : decode cX7_inRow 31 = .ok (.iconst (-1), 1) := by decide +kernel
theorem dX7_inRow_32 : decode cX7_inRow 32 = .ok (.ireturn, 1) := by decide +kernel
theorem dX7_inRow_33 : decode cX7_inRow 33 = .ok (.iload_n 3, 1) := by decide +kernel
theorem dX7_inRow_34 : decode cX7_inRow 34 = .ok (.ifCond .eq 13, 3) := by decide +kernel
theorem dX7_inRow_37 : decode cX7_inRow 37 = .ok (.aload_n 0, 1) := by decide +kernel
theorem dX7_inRow_38 : decode cX7_inRow 38 = .ok (.getfield 21, 3) := by decide +kernel
theorem dX7_inRow_41 : decode cX7_inRow 41 = .ok (.getfield 129, 3) := by decide +kernel
theorem dX7_inRow_44 : decode cX7_inRow 44 = .ok (.goto 10, 3) := by decide +kernel
theorem dX7_inRow_47 : decode cX7_inRow 47 = .ok (.aload_n 0, 1) := by decide +kernel
theorem dX7_inRow_48 : decode cX7_inRow 48 = .ok (.getfield 21, 3) := by decide +kernel
theorem dX7_inRow_51 : decode cX7_inRow 51 = .ok (.getfield 132, 3) := by decide +kernel
theorem dX7_inRow_54 : decode cX7_inRow 54 = .ok (.ireturn, 1) := by decide +kernel
set_option maxRecDepth 20000 in
theorem ggX7_isHidden_X7_needSite : GoodIn wsX7_isHidden wsX7_needSite := goodIn_ca (goodIn_r _ [6, 7, 8, 9, 10, 78, 79, 80, 81, 82, 83, 84, 85, 86, 87] (by decide +kernel) (by decide +kernel)) (goodIn_sub (fun _ h => List.mem_cons_of_mem _ (List.mem_append_right _ h)) (by decide +kernel))
set_option maxRecDepth 20000 in
theorem gX7_isHidden_X7_needSite : GoodIn wsX7_isHidden (wsV RX7 71 RX7 yX7_needSite wsX7_needSite) := goodIn_app (goodIn_of _ (by decide +kernel)) ggX7_isHidden_X7_needSite
set_option maxRecDepth 20000 in
theorem ggX7_isHidden_X3_isAbove : GoodIn wsX7_isHidden wsX3_isAbove := goodIn_r _ [15, 16, 17, 18, 19, 20, 14, 21, 22, 23, 24, 25, 26, 27, 28, 29, 30, 31, 32, 33, 34, 35, 36, 37, 38, 39, 40, 41, 42, 43, 44, 45, 46, 47, 48, 49, 50, 51, 52, 53, 54, 55, 56, 57, 58, 59, 60, 61, 62, 63, 64, 65, 66, 67, 68, 69, 70, 71, 72, 73, 74, 75, 76, 77, 88, 89, 90, 91, 83, 84, 85, 86, 87, 92] (by decide +kernel) (by decide +kernel)
set_option maxRecDepth 20000 in
theorem gX7_isHidden_X3_isAbove : GoodIn wsX7_isHidden (wsV RX7 135 RX3 yX3_isAbove wsX3_isAbove) := goodIn_app (goodIn_of _ (by decide +kernel)) ggX7_isHidden_X3_isAbove
theorem dX7_isHidden_0 : decode cX7_isHidden 0 = .ok (.aload_n 0, 1) := by decide +kernel
theorem dX7_isHidden_1 : decode cX7_isHidden 1 = .ok (.iload_n 1, 1) := by decide +kernel
theorem dX7_isHidden_2 : decode cX7_isHidden 2 = .ok (.invokevirtual 71, 3) := by decide +kernel
theorem dX7_isHidden_5 : decode cX7_isHidden 5 = .ok (.aload_n 0, 1) := by decide +kernel
theorem dX7_isHidden_6 : decode cX7_isHidden 6 = .ok (.getfield 28, 3) := by decide +kernel
theorem dX7_isHidden_9 : decode cX7_isHidden 9 = .ok (.iload_n 1, 1) := by decide +kernel
theorem dX7_isHidden_10 : decode cX7_isHidden 10 = .ok (.invokevirtual 135, 3) := by decide +kernel
theorem dX7_isHidden_13 : decode cX7_isHidden 13 = .ok (.ireturn, 1) := by decide +kernel
set_option maxRecDepth 20000 in
theorem ggX7_hasBorder_X7_needSite : GoodIn wsX7_hasBorder wsX7_needSite := goodIn_ca (goodIn_r _ [6, 7, 8, 9, 10, 91, 92, 93, 94, 95, 96, 97, 98, 99, 100] (by decide +kernel) (by decide +kernel)) (goodIn_sub (fun _ h => List.mem_cons_of_mem _ (List.mem_append_right _ h)) (by decide +kernel))
set_option maxRecDepth 20000 in
theorem gX7_hasBorder_X7_needSite : GoodIn wsX7_hasBorder (wsV RX7 71 RX7 yX7_needSite wsX7_needSite) := goodIn_app (goodIn_of _ (by decide +kernel)) ggX7_hasBorder_X7_needSite
set_option maxRecDepth 20000 in
theorem ggX7_hasBorder_X0_trace : GoodIn wsX7_hasBorder wsX0_trace := goodIn_r _ [15, 16, 17, 18, 19, 20, 14, 21, 22, 23, 24, 25, 26, 27, 28, 29, 30, 31, 32, 33, 34, 35, 36, 37, 38, 39, 40, 41, 42, 43, 44, 45, 46, 47, 48, 49, 50, 51, 52, 53, 54, 55, 56, 57, 58, 59, 60, 61, 62, 63, 64, 65, 66, 67, 68, 69, 70, 71, 72, 73, 74, 75, 76, 77, 78, 79, 80, 81, 82, 83, 84, 85, 86, 87, 88, 89, 90, 101, 102, 103, 104, 105, 106, 107, 108, 109, 96, 97, 98, 99, 100, 110, 111, 112] (by decide +kernel) (by decide +kernel)
set_option maxRecDepth 20000 in
theorem gX7_hasBorder_X0_trace : GoodIn wsX7_hasBorder (wsV RX7 139 RX0 yX0_trace wsX0_trace) := goodIn_app (goodIn_of _ (by decide +kernel)) ggX7_hasBorder_X0_trace
theorem dX7_hasBorder_0 : decode cX7_hasBorder 0 = .ok (.aload_n 0, 1) := by decide +kernel
theorem dX7_hasBorder_1 : decode cX7_hasBorder 1 = .ok (.iload_n 1, 1) := by decide +kernel
theorem dX7_hasBorder_2 : decode cX7_hasBorder 2 = .ok (.invokevirtual 71, 3) := by decide +kernel
theorem dX7_hasBorder_5 : decode cX7_hasBorder 5 = .ok (.aload_n 0, 1) := by decide +kernel
theorem dX7_hasBorder_6 : decode cX7_hasBorder 6 = .ok (.iload_n 2, 1) := by decide +kernel
theorem dX7_hasBorder_7 : decode cX7_hasBorder 7 = .ok (.invokevirtual 71, 3) := by decide +kernel
theorem dX7_hasBorder_10 : decode cX7_hasBorder 10 = .ok (.aload_n 0, 1) := by decide +kernel
theorem dX7_hasBorder_11 : decode cX7_hasBorder 11 = .ok (.getfield 35, 3) := by decide +kernel
theorem dX7_hasBorder_14 : decode cX7_hasBorder 14 = .ok (.iload_n 1, 1) := by decide +kernel
theorem dX7_hasBorder_15 : decode cX7_hasBorder 15 = .ok (.iload_n 2, 1) := by decide +kernel
theorem dX7_hasBorder_16 : decode cX7_hasBorder 16 = .ok (.invokevirtual 139, 3) := by decide +kernel
theorem dX7_hasBorder_19 : decode cX7_hasBorder 19 = .ok (.iconst (-1), 1) := by decide +kernel
theorem dX7_hasBorder_20 : decode cX7_hasBorder 20 = .ok (.if_icmp .ne 7, 3) := by decide +kernel
theorem dX7_hasBorder_23 : decode cX7_hasBorder 23 = .ok (.iconst 1, 1) := by decide +kernel
theorem dX7_hasBorder_24 : decode cX7_hasBorder 24 = .ok (.goto 4, 3) := by decide +kernel
theorem dX7_hasBorder_27 : decode cX7_hasBorder 27 = .ok (.iconst 0, 1) := by decide +kernel
theorem dX7_hasBorder_28 : decode cX7_hasBorder 28 = .ok (.ireturn, 1) := by decide +kernel
set_option maxRecDepth 20000 in
theorem ggX7_why_X7_needSite : GoodIn wsX7_why wsX7_needSite := goodIn_ca (goodIn_r _ [6, 7, 8, 9, 10, 91, 92, 93, 94, 95, 96, 97, 98, 99, 100] (by decide +kernel) (by decide +kernel)) (goodIn_sub (fun _ h => List.mem_cons_of_mem _ (List.mem_append_right _ h)) (by decide +kernel))
set_option maxRecDepth 20000 in
theorem gX7_why_X7_needSite : GoodIn wsX7_why (wsV RX7 71 RX7 yX7_needSite wsX7_needSite) := goodIn_app (goodIn_of _ (by decide +kernel)) ggX7_why_X7_needSite
set_option maxRecDepth 20000 in
theorem ggX7_why_X0_trace : GoodIn wsX7_why wsX0_trace := goodIn_r _ [15, 16, 17, 18, 19, 20, 14, 21, 22, 23, 24, 25, 26, 27, 28, 29, 30, 31, 32, 33, 34, 35, 36, 37, 38, 39, 40, 41, 42, 43, 44, 45, 46, 47, 48, 49, 50, 51, 52, 53, 54, 55, 56, 57, 58, 59, 60, 61, 62, 63, 64, 65, 66, 67, 68, 69, 70, 71, 72, 73, 74, 75, 76, 77, 78, 79, 80, 81, 82, 83, 84, 85, 86, 87, 88, 89, 90, 101, 102, 103, 104, 105, 106, 107, 108, 109, 96, 97, 98, 99, 100, 110, 111, 112] (by decide +kernel) (by decide +kernel)
set_option maxRecDepth 20000 in
theorem gX7_why_X0_trace : GoodIn wsX7_why (wsV RX7 139 RX0 yX0_trace wsX0_trace) := goodIn_app (goodIn_of _ (by decide +kernel)) ggX7_why_X0_trace
theorem dX7_why_0 : decode cX7_why 0 = .ok (.aload_n 0, 1) := by decide +kernel
theorem dX7_why_1 : decode cX7_why 1 = .ok (.iload_n 1, 1) := by decide +kernel
theorem dX7_why_2 : decode cX7_why 2 = .ok (.invokevirtual 71, 3) := by decide +kernel
theorem dX7_why_5 : decode cX7_why 5 = .ok (.aload_n 0, 1) := by decide +kernel
theorem dX7_why_6 : decode cX7_why 6 = .ok (.iload_n 2, 1) := by decide +kernel
theorem dX7_why_7 : decode cX7_why 7 = .ok (.invokevirtual 71, 3) := by decide +kernel
theorem dX7_why_10 : decode cX7_why 10 = .ok (.aload_n 0, 1) := by decide +kernel
theorem dX7_why_11 : decode cX7_why 11 = .ok (.getfield 35, 3) := by decide +kernel
theorem dX7_why_14 : decode cX7_why 14 = .ok (.iload_n 1, 1) := by decide +kernel
theorem dX7_why_15 : decode cX7_why 15 = .ok (.iload_n 2, 1) := by decide +kernel
theorem dX7_why_16 : decode cX7_why 16 = .ok (.invokevirtual 139, 3) := by decide +kernel
theorem dX7_why_19 : decode cX7_why 19 = .ok (.ireturn, 1) := by decide +kernel
set_option maxRecDepth 20000 in
theorem ggX7_ofEnd_X7_needSite : GoodIn wsX7_ofEnd wsX7_needSite := goodIn_ca (goodIn_r _ [8, 9, 10, 11, 12, 111, 112, 113, 114, 115, 116, 117, 118, 119, 120] (by decide +kernel) (by decide +kernel)) (goodIn_sub (fun _ h => List.mem_cons_of_mem _ (List.mem_append_left _ (List.mem_append_right _ h))) (by decide +kernel))
set_option maxRecDepth 20000 in
theorem gX7_ofEnd_X7_needSite : GoodIn wsX7_ofEnd (wsV RX7 71 RX7 yX7_needSite wsX7_needSite) := goodIn_app (goodIn_of _ (by decide +kernel)) ggX7_ofEnd_X7_needSite
set_option maxRecDepth 20000 in
theorem ggX7_ofEnd_X7_needWithin : GoodIn wsX7_ofEnd wsX7_needWithin := goodIn_ca (goodIn_r _ [15, 16, 17] (by decide +kernel) (by decide +kernel)) (goodIn_sub (fun _ h => List.mem_cons_of_mem _ (List.mem_append_right _ h)) (by decide +kernel))
set_option maxRecDepth 20000 in
theorem gX7_ofEnd_X7_needWithin : GoodIn wsX7_ofEnd (va_wsS RX7 52 yX7_needWithin wsX7_needWithin) := goodIn_app (goodIn_of _ (by decide +kernel)) ggX7_ofEnd_X7_needWithin
set_option maxRecDepth 20000 in
theorem ggX7_ofEnd_X0_trace : GoodIn wsX7_ofEnd wsX0_trace := goodIn_r _ [22, 23, 24, 25, 26, 27, 21, 28, 29, 30, 31, 32, 33, 34, 35, 36, 37, 38, 39, 40, 41, 42, 43, 44, 45, 46, 47, 48, 49, 50, 51, 52, 53, 54, 55, 56, 57, 58, 59, 60, 61, 62, 63, 64, 65, 66, 67, 68, 69, 70, 71, 72, 73, 74, 75, 76, 77, 78, 79, 80, 81, 82, 83, 84, 85, 86, 87, 88, 89, 90, 91, 92, 93, 94, 95, 96, 97, 121, 122, 123, 124, 125, 126, 127, 128, 129, 116, 117, 118, 119, 120, 130, 131, 132] (by decide +kernel) (by decide +kernel)
set_option maxRecDepth 20000 in
theorem gX7_ofEnd_X0_trace : GoodIn wsX7_ofEnd (wsV RX7 139 RX0 yX0_trace wsX0_trace) := goodIn_app (goodIn_of _ (by decide +kernel)) ggX7_ofEnd_X0_trace
set_option maxRecDepth 20000 in
theorem ggX7_ofEnd_X0_partOfEnd : GoodIn wsX7_ofEnd wsX0_partOfEnd := goodIn_r _ [101, 63, 64, 41, 102, 92, 93, 44, 79, 42, 43, 68, 69, 70, 71, 72, 73, 74, 103, 104, 105, 106, 107, 108, 109, 110, 121, 122, 123, 124, 125, 126, 127, 128, 129, 131, 132] (by decide +kernel) (by decide +kernel)
set_option maxRecDepth 20000 in
theorem gX7_ofEnd_X0_partOfEnd : GoodIn wsX7_ofEnd (wsV RX7 144 RX0 yX0_partOfEnd wsX0_partOfEnd) := goodIn_app (goodIn_of _ (by decide +kernel)) ggX7_ofEnd_X0_partOfEnd
theorem dX7_ofEnd_0 : decode cX7_ofEnd 0 = .ok (.aload_n 0, 1) := by decide +kernel
theorem dX7_ofEnd_1 : decode cX7_ofEnd 1 = .ok (.iload_n 1, 1) := by decide +kernel
theorem dX7_ofEnd_2 : decode cX7_ofEnd 2 = .ok (.invokevirtual 71, 3) := by decide +kernel
theorem dX7_ofEnd_5 : decode cX7_ofEnd 5 = .ok (.aload_n 0, 1) := by decide +kernel
theorem dX7_ofEnd_6 : decode cX7_ofEnd 6 = .ok (.iload_n 2, 1) := by decide +kernel
theorem dX7_ofEnd_7 : decode cX7_ofEnd 7 = .ok (.invokevirtual 71, 3) := by decide +kernel
theorem dX7_ofEnd_10 : decode cX7_ofEnd 10 = .ok (.iload_n 3, 1) := by decide +kernel
theorem dX7_ofEnd_11 : decode cX7_ofEnd 11 = .ok (.iconst 0, 1) := by decide +kernel
theorem dX7_ofEnd_12 : decode cX7_ofEnd 12 = .ok (.iconst 1, 1) := by decide +kernel
theorem dX7_ofEnd_13 : decode cX7_ofEnd 13 = .ok (.invokestatic 52, 3) := by decide +kernel
theorem dX7_ofEnd_16 : decode cX7_ofEnd 16 = .ok (.iload 4, 2) := by decide +kernel
theorem dX7_ofEnd_18 : decode cX7_ofEnd 18 = .ok (.iconst 0, 1) := by decide +kernel
theorem dX7_ofEnd_19 : decode cX7_ofEnd 19 = .ok (.iconst 3, 1) := by decide +kernel
theorem dX7_ofEnd_20 : decode cX7_ofEnd 20 = .ok (.invokestatic 52, 3) := by decide +kernel
theorem dX7_ofEnd_23 : decode cX7_ofEnd 23 = .ok (.aload_n 0, 1) := by decide +kernel
theorem dX7_ofEnd_24 : decode cX7_ofEnd 24 = .ok (.getfield 35, 3) := by decide +kernel
theorem dX7_ofEnd_27 : decode cX7_ofEnd 27 = .ok (.iload_n 1, 1) := by decide +kernel
theorem dX7_ofEnd_28 : decode cX7_ofEnd 28 = .ok (.iload_n 2, 1) := by decide +kernel
theorem dX7_ofEnd_29 : decode cX7_ofEnd 29 = .ok (.invokevirtual 139, 3) := by decide +kernel
theorem dX7_ofEnd_32 : decode cX7_ofEnd 32 = .ok (.iconst (-1), 1) := by decide +kernel
theorem dX7_ofEnd_33 : decode cX7_ofEnd 33 = .ok (.if_icmp .eq 13, 3) := by decide +kernel
theorem dX7_ofEnd_36 : decode cX7_ofEnd 36 = .ok (.new 60, 3) := by decide +kernel
theorem dX7_ofEnd_39 : decode cX7_ofEnd 39 = .ok (.dup, 1) := by decide +kernel
theorem dX7_ofEnd_40 : decode cX7_ofEnd 40 = .ok (.ldc 142, 2) := by decide +kernel
theorem dX7_ofEnd_42 : decode cX7_ofEnd 42 = .ok (.invokespecial 64, 3) := by decide +kernel
theorem dX7_ofEnd_45 : decode cX7_ofEnd 45 = .ok (.athrow, 1) := by decide +kernel
theorem dX7_ofEnd_46 : decode cX7_ofEnd 46 = .ok (.aload_n 0, 1) := by decide +kernel
theorem dX7_ofEnd_47 : decode cX7_ofEnd 47 = .ok (.getfield 35, 3) := by decide +kernel
theorem dX7_ofEnd_50 : decode cX7_ofEnd 50 = .ok (.iload_n 3, 1) := by decide +kernel
theorem dX7_ofEnd_51 : decode cX7_ofEnd 51 = .ok (.iload 4, 2) := by decide +kernel
theorem dX7_ofEnd_53 : decode cX7_ofEnd 53 = .ok (.invokevirtual 144, 3) := by decide +kernel
theorem dX7_ofEnd_56 : decode cX7_ofEnd 56 = .ok (.lreturn, 1) := by decide +kernel
set_option maxRecDepth 20000 in
theorem ggX7_beside_X7_needSite : GoodIn wsX7_beside wsX7_needSite := goodIn_ca (goodIn_r _ [8, 9, 10, 1, 2, 91, 92, 93, 94, 95, 96, 97, 98, 99, 100] (by decide +kernel) (by decide +kernel)) (goodIn_sub (fun _ h => List.mem_cons_of_mem _ (List.mem_append_right _ h)) (by decide +kernel))
set_option maxRecDepth 20000 in
theorem gX7_beside_X7_needSite : GoodIn wsX7_beside (wsV RX7 71 RX7 yX7_needSite wsX7_needSite) := goodIn_app (goodIn_of _ (by decide +kernel)) ggX7_beside_X7_needSite
set_option maxRecDepth 20000 in
theorem ggX7_beside_X0_trace : GoodIn wsX7_beside wsX0_trace := goodIn_r _ [15, 16, 17, 18, 19, 20, 14, 21, 22, 23, 24, 25, 26, 27, 28, 29, 30, 31, 32, 33, 34, 35, 36, 37, 38, 39, 40, 41, 42, 43, 44, 45, 46, 47, 48, 49, 50, 51, 52, 53, 54, 55, 56, 57, 58, 59, 60, 61, 62, 63, 64, 65, 66, 67, 68, 69, 70, 71, 72, 73, 74, 75, 76, 77, 78, 79, 80, 81, 82, 83, 84, 85, 86, 87, 88, 89, 90, 101, 102, 103, 104, 105, 106, 107, 108, 109, 96, 97, 98, 99, 100, 110, 111, 112] (by decide +kernel) (by decide +kernel)
set_option maxRecDepth 20000 in
theorem gX7_beside_X0_trace : GoodIn wsX7_beside (wsV RX7 139 RX0 yX0_trace wsX0_trace) := goodIn_app (goodIn_of _ (by decide +kernel)) ggX7_beside_X0_trace
theorem dX7_beside_0 : decode cX7_beside 0 = .ok (.aload_n 0, 1) := by decide +kernel
theorem dX7_beside_1 : decode cX7_beside 1 = .ok (.iload_n 1, 1) := by decide +kernel
theorem dX7_beside_2 : decode cX7_beside 2 = .ok (.invokevirtual 71, 3) := by decide +kernel
theorem dX7_beside_5 : decode cX7_beside 5 = .ok (.iconst 0, 1) := by decide +kernel
theorem dX7_beside_6 : decode cX7_beside 6 = .ok (.istore_n 2, 1) := by decide +kernel
theorem dX7_beside_7 : decode cX7_beside 7 = .ok (.iconst 0, 1) := by decide +kernel
theorem dX7_beside_8 : decode cX7_beside 8 = .ok (.istore_n 3, 1) := by decide +kernel
theorem dX7_beside_9 : decode cX7_beside 9 = .ok (.iload_n 3, 1) := by decide +kernel
theorem dX7_beside_10 : decode cX7_beside 10 = .ok (.aload_n 0, 1) := by decide +kernel
theorem dX7_beside_11 : decode cX7_beside 11 = .ok (.getfield 10, 3) := by decide +kernel
theorem dX7_beside_14 : decode cX7_beside 14 = .ok (.getfield 56, 3) := by decide +kernel
theorem dX7_beside_17 : decode cX7_beside 17 = .ok (.if_icmp .ge 25, 3) := by decide +kernel
theorem dX7_beside_20 : decode cX7_beside 20 = .ok (.aload_n 0, 1) := by decide +kernel
theorem dX7_beside_21 : decode cX7_beside 21 = .ok (.getfield 35, 3) := by decide +kernel
theorem dX7_beside_24 : decode cX7_beside 24 = .ok (.iload_n 1, 1) := by decide +kernel
theorem dX7_beside_25 : decode cX7_beside 25 = .ok (.iload_n 3, 1) := by decide +kernel
theorem dX7_beside_26 : decode cX7_beside 26 = .ok (.invokevirtual 139, 3) := by decide +kernel
theorem dX7_beside_29 : decode cX7_beside 29 = .ok (.iconst (-1), 1) := by decide +kernel
theorem dX7_beside_30 : decode cX7_beside 30 = .ok (.if_icmp .ne 6, 3) := by decide +kernel
theorem dX7_beside_33 : decode cX7_beside 33 = .ok (.iinc 2 1, 3) := by decide +kernel
theorem dX7_beside_36 : decode cX7_beside 36 = .ok (.iinc 3 1, 3) := by decide +kernel
theorem dX7_beside_39 : decode cX7_beside 39 = .ok (.goto (-30), 3) := by decide +kernel
theorem dX7_beside_42 : decode cX7_beside 42 = .ok (.iload_n 2, 1) := by decide +kernel
theorem dX7_beside_43 : decode cX7_beside 43 = .ok (.ireturn, 1) := by decide +kernel
set_option maxRecDepth 20000 in
theorem ggX7_disorder_X6_weighAll : GoodIn wsX7_disorder wsX6_weighAll := goodIn_r _ [6, 7, 8, 9, 10, 11, 12, 13, 14, 15, 16, 17, 18, 19, 20, 21, 22, 23, 24, 25, 26, 27, 28, 29, 30, 31, 32, 33, 34, 35, 36, 37, 38, 39, 40, 41, 42, 43, 44, 45, 46, 47, 48, 49, 50, 51, 52, 53, 54, 55, 56, 57, 58, 59, 60, 61, 62, 63, 69, 70, 71, 72, 73, 74, 75, 76, 77, 78, 79, 80, 81] (by decide +kernel) (by decide +kernel)
set_option maxRecDepth 20000 in
theorem gX7_disorder_X6_weighAll : GoodIn wsX7_disorder (wsV RX7 148 RX6 yX6_weighAll wsX6_weighAll) := goodIn_app (goodIn_of _ (by decide +kernel)) ggX7_disorder_X6_weighAll
theorem dX7_disorder_0 : decode cX7_disorder 0 = .ok (.aload_n 0, 1) := by decide +kernel
theorem dX7_disorder_1 : decode cX7_disorder 1 = .ok (.getfield 44, 3) := by decide +kernel
theorem dX7_disorder_4 : decode cX7_disorder 4 = .ok (.invokevirtual 148, 3) := by decide +kernel
theorem dX7_disorder_7 : decode cX7_disorder 7 = .ok (.ireturn, 1) := by decide +kernel
set_option maxRecDepth 20000 in
theorem ggX7_would_X7_needBalance : GoodIn wsX7_would wsX7_needBalance := goodIn_ca (goodIn_ca (goodIn_r _ [6, 7, 8, 9, 10, 11, 12, 5, 13, 14, 15, 103, 104, 105, 106, 107, 108, 109, 110, 111, 112] (by decide +kernel) (by decide +kernel)) (goodIn_sub (fun _ h => List.mem_cons_of_mem _ (List.mem_append_left _ (List.mem_append_right _ h))) (by decide +kernel))) (goodIn_sub (fun _ h => List.mem_cons_of_mem _ (List.mem_append_right _ h)) (by decide +kernel))
set_option maxRecDepth 20000 in
theorem gX7_would_X7_needBalance : GoodIn wsX7_would (wsV RX7 97 RX7 yX7_needBalance wsX7_needBalance) := goodIn_app (goodIn_of _ (by decide +kernel)) ggX7_would_X7_needBalance
set_option maxRecDepth 20000 in
theorem ggX7_would_X6_keepWeights : GoodIn wsX7_would wsX6_keepWeights := goodIn_r _ [20, 21, 22, 23, 24, 25, 26, 27, 28, 29, 30, 31, 32, 33, 34, 113, 114, 115, 116, 108, 109, 110, 111, 112, 117] (by decide +kernel) (by decide +kernel)
set_option maxRecDepth 20000 in
theorem gX7_would_X6_keepWeights : GoodIn wsX7_would (wsV RX7 151 RX6 yX6_keepWeights wsX6_keepWeights) := goodIn_app (goodIn_of _ (by decide +kernel)) ggX7_would_X6_keepWeights
set_option maxRecDepth 20000 in
theorem ggX7_would_X6_repeat : GoodIn wsX7_would wsX6_repeat := goodIn_r _ [38, 21, 24, 39, 40, 41, 42, 43, 44, 45, 46, 47, 48, 19, 49, 22, 50, 51, 52, 53, 54, 55, 56, 57, 58, 59, 60, 61, 62, 63, 64, 65, 66, 67, 68, 69, 70, 71, 72, 73, 74, 75, 76, 77, 78, 79, 80, 26, 27, 28, 29, 30, 81, 82, 83, 84, 85, 86, 87, 88, 89, 25, 31, 32, 33, 34, 90, 91, 92, 93, 94, 95, 96, 97, 113, 114, 115, 116, 108, 109, 110, 111, 112, 118, 119, 120, 117] (by decide +kernel) (by decide +kernel)
set_option maxRecDepth 20000 in
theorem gX7_would_X6_repeat : GoodIn wsX7_would (wsV RX7 100 RX6 yX6_repeat wsX6_repeat) := goodIn_app (goodIn_of _ (by decide +kernel)) ggX7_would_X6_repeat
set_option maxRecDepth 20000 in
theorem ggX7_would_X6_weighAll : GoodIn wsX7_would wsX6_weighAll := goodIn_r _ [49, 21, 22, 50, 51, 52, 53, 54, 41, 55, 56, 57, 58, 59, 60, 61, 62, 63, 64, 65, 66, 67, 68, 69, 70, 44, 45, 71, 40, 42, 72, 73, 74, 75, 76, 77, 78, 79, 80, 26, 27, 28, 29, 30, 81, 82, 83, 84, 85, 86, 87, 88, 89, 25, 31, 32, 33, 34, 113, 114, 115, 116, 108, 109, 110, 111, 112, 118, 119, 120, 117] (by decide +kernel) (by decide +kernel)
set_option maxRecDepth 20000 in
theorem gX7_would_X6_weighAll : GoodIn wsX7_would (wsV RX7 148 RX6 yX6_weighAll wsX6_weighAll) := goodIn_app (goodIn_of _ (by decide +kernel)) ggX7_would_X6_weighAll
set_option maxRecDepth 20000 in
theorem ggX7_would_X6_putWeightsBack : GoodIn wsX7_would wsX6_putWeightsBack := goodIn_r _ [102, 21, 22, 24, 23, 25, 26, 27, 28, 29, 30, 31, 32, 33, 34, 113, 114, 115, 116, 108, 109, 110, 111, 112, 117] (by decide +kernel) (by decide +kernel)
set_option maxRecDepth 20000 in
theorem gX7_would_X6_putWeightsBack : GoodIn wsX7_would (wsV RX7 154 RX6 yX6_putWeightsBack wsX6_putWeightsBack) := goodIn_app (goodIn_of _ (by decide +kernel)) ggX7_would_X6_putWeightsBack
theorem dX7_would_0 : decode cX7_would 0 = .ok (.aload_n 0, 1) := by decide +kernel
theorem dX7_would_1 : decode cX7_would 1 = .ok (.iload_n 1, 1) := by decide +kernel
theorem dX7_would_2 : decode cX7_would 2 = .ok (.iload_n 2, 1) := by decide +kernel
theorem dX7_would_3 : decode cX7_would 3 = .ok (.invokevirtual 97, 3) := by decide +kernel
theorem dX7_would_6 : decode cX7_would 6 = .ok (.aload_n 0, 1) := by decide +kernel
theorem dX7_would_7 : decode cX7_would 7 = .ok (.getfield 44, 3) := by decide +kernel
theorem dX7_would_10 : decode cX7_would 10 = .ok (.invokevirtual 151, 3) := by decide +kernel
theorem dX7_would_13 : decode cX7_would 13 = .ok (.aload_n 0, 1) := by decide +kernel
theorem dX7_would_14 : decode cX7_would 14 = .ok (.getfield 44, 3) := by decide +kernel
theorem dX7_would_17 : decode cX7_would 17 = .ok (.iload_n 1, 1) := by decide +kernel
theorem dX7_would_18 : decode cX7_would 18 = .ok (.iload_n 2, 1) := by decide +kernel
theorem dX7_would_19 : decode cX7_would 19 = .ok (.invokevirtual 100, 3) := by decide +kernel
theorem dX7_would_22 : decode cX7_would 22 = .ok (.pop, 1) := by decide +kernel
theorem dX7_would_23 : decode cX7_would 23 = .ok (.aload_n 0, 1) := by decide +kernel
theorem dX7_would_24 : decode cX7_would 24 = .ok (.getfield 44, 3) := by decide +kernel
theorem dX7_would_27 : decode cX7_would 27 = .ok (.invokevirtual 148, 3) := by decide +kernel
theorem dX7_would_30 : decode cX7_would 30 = .ok (.istore_n 3, 1) := by decide +kernel
theorem dX7_would_31 : decode cX7_would 31 = .ok (.aload_n 0, 1) := by decide +kernel
theorem dX7_would_32 : decode cX7_would 32 = .ok (.getfield 44, 3) := by decide +kernel
theorem dX7_would_35 : decode cX7_would 35 = .ok (.invokevirtual 154, 3) := by decide +kernel
theorem dX7_would_38 : decode cX7_would 38 = .ok (.iload_n 3, 1) := by decide +kernel
theorem dX7_would_39 : decode cX7_would 39 = .ok (.ireturn, 1) := by decide +kernel
set_option maxRecDepth 20000 in
theorem ggX7_sign_X7_needSite : GoodIn wsX7_sign wsX7_needSite := goodIn_ca (goodIn_r _ [11, 1, 2, 6, 12, 214, 215, 216, 217, 218, 219, 220, 221, 222, 223] (by decide +kernel) (by decide +kernel)) (goodIn_sub (fun _ h => List.mem_cons_of_mem _ (List.mem_append_right _ h)) (by decide +kernel))
set_option maxRecDepth 20000 in
theorem gX7_sign_X7_needSite : GoodIn wsX7_sign (wsV RX7 71 RX7 yX7_needSite wsX7_needSite) := goodIn_app (goodIn_of _ (by decide +kernel)) ggX7_sign_X7_needSite
set_option maxRecDepth 20000 in
theorem ggX7_sign_J4_init_da8c8 : GoodIn wsX7_sign wsJ4_init_da8c8 := goodIn_r _ [15, 16, 17, 18, 19, 20, 21, 22, 23, 24, 25, 26, 27, 28, 29, 30, 31, 32, 33, 34, 210, 211, 212, 213] (by decide +kernel) (by decide +kernel)
set_option maxRecDepth 20000 in
theorem gX7_sign_J4_init_da8c8 : GoodIn wsX7_sign (wsJ4_init_da8c8) := ggX7_sign_J4_init_da8c8
set_option maxRecDepth 20000 in
theorem ggX7_sign_X4_write : GoodIn wsX7_sign wsX4_write := goodIn_r _ [39, 40, 41, 42, 43, 44, 45, 46, 47, 48, 49, 50, 51, 52, 53, 54, 55, 5, 56, 57, 58, 59, 60, 18, 61, 62, 25, 63, 64, 65, 66, 67, 68, 69, 70, 71, 26, 72, 73, 74, 75, 76, 77, 78, 79, 80, 81, 82, 83, 84, 85, 86, 87, 88, 89, 90, 91, 92, 93, 94, 95, 96, 97, 98, 24, 99, 100, 101, 102, 103, 104, 105, 106, 107, 108, 109, 110, 23, 111, 112, 113, 114, 115, 116, 117, 29, 118, 119, 120, 121, 122, 123, 124, 125, 126, 127, 128, 129, 130, 131, 132, 133, 134, 135, 136, 137, 138, 139, 140, 141, 142, 143, 144, 145, 146, 147, 148, 149, 150, 151, 152, 153, 154, 155, 156, 157, 158, 159, 160, 161, 27, 28, 30, 31, 32, 33, 34, 162, 163, 164, 165, 166, 167, 168, 169, 170, 171, 172, 173, 174, 175, 176, 177, 178, 179, 180, 181, 182, 183, 184, 185, 186, 187, 188, 219, 220, 221, 222, 223, 224, 210, 211, 212, 213] (by decide +kernel) (by decide +kernel)
set_option maxRecDepth 20000 in
theorem gX7_sign_X4_write : GoodIn wsX7_sign (wsV RX7 165 RX4 yX4_write wsX4_write) := goodIn_app (goodIn_of _ (by decide +kernel)) ggX7_sign_X4_write
set_option maxRecDepth 20000 in
theorem ggX7_sign_J4_length_8abf5 : GoodIn wsX7_sign wsJ4_length_8abf5 := goodIn_r _ [192, 193, 194, 59, 195, 18, 196, 62, 210, 211, 212, 213] (by decide +kernel) (by decide +kernel)
set_option maxRecDepth 20000 in
theorem gX7_sign_J4_length_8abf5 : GoodIn wsX7_sign (wsV RX7 169 RJ4 yJ4_length_8abf5 wsJ4_length_8abf5) := goodIn_app (goodIn_of _ (by decide +kernel)) ggX7_sign_J4_length_8abf5
set_option maxRecDepth 20000 in
theorem ggX7_sign_J4_charAt_5068e : GoodIn wsX7_sign wsJ4_charAt_5068e := goodIn_r _ [200, 201, 202, 59, 203, 18, 204, 26, 25, 62, 205, 100, 45, 101, 206, 184, 128, 185, 130, 186, 187, 133, 188, 207, 208, 29, 209, 119, 143, 144, 123, 124, 125, 210, 211, 212, 213] (by decide +kernel) (by decide +kernel)
set_option maxRecDepth 20000 in
theorem gX7_sign_J4_charAt_5068e : GoodIn wsX7_sign (wsV RX7 172 RJ4 yJ4_charAt_5068e wsJ4_charAt_5068e) := goodIn_app (goodIn_of _ (by decide +kernel)) ggX7_sign_J4_charAt_5068e
theorem dX7_sign_0 : decode cX7_sign 0 = .ok (.aload_n 0, 1) := by decide +kernel
theorem dX7_sign_1 : decode cX7_sign 1 = .ok (.iload_n 1, 1) := by decide +kernel
theorem dX7_sign_2 : decode cX7_sign 2 = .ok (.invokevirtual 71, 3) := by decide +kernel
theorem dX7_sign_5 : decode cX7_sign 5 = .ok (.iload_n 2, 1) := by decide +kernel
theorem dX7_sign_6 : decode cX7_sign 6 = .ok (.ifCond .ge 13, 3) := by decide +kernel
theorem dX7_sign_9 : decode cX7_sign 9 = .ok (.new 157, 3) := by decide +kernel
theorem dX7_sign_12 : decode cX7_sign 12 = .ok (.dup, 1) := by decide +kernel
theorem dX7_sign_13 : decode cX7_sign 13 = .ok (.ldc 159, 2) := by decide +kernel
theorem dX7_sign_15 : decode cX7_sign 15 = .ok (.invokespecial 161, 3) := by decide +kernel
theorem dX7_sign_18 : decode cX7_sign 18 = .ok (.athrow, 1) := by decide +kernel
theorem dX7_sign_19 : decode cX7_sign 19 = .ok (.new 162, 3) := by decide +kernel
theorem dX7_sign_22 : decode cX7_sign 22 = .ok (.dup, 1) := by decide +kernel
theorem dX7_sign_23 : decode cX7_sign 23 = .ok (.invokespecial 164, 3) := by decide +kernel
theorem dX7_sign_26 : decode cX7_sign 26 = .ok (.astore_n 3, 1) := by decide +kernel
theorem dX7_sign_27 : decode cX7_sign 27 = .ok (.aload_n 0, 1) := by decide +kernel
theorem dX7_sign_28 : decode cX7_sign 28 = .ok (.getfield 10, 3) := by decide +kernel
theorem dX7_sign_31 : decode cX7_sign 31 = .ok (.iload_n 1, 1) := by decide +kernel
theorem dX7_sign_32 : decode cX7_sign 32 = .ok (.aload_n 3, 1) := by decide +kernel
theorem dX7_sign_33 : decode cX7_sign 33 = .ok (.invokevirtual 165, 3) := by decide +kernel
theorem dX7_sign_36 : decode cX7_sign 36 = .ok (.iload_n 2, 1) := by decide +kernel
theorem dX7_sign_37 : decode cX7_sign 37 = .ok (.aload_n 3, 1) := by decide +kernel
theorem dX7_sign_38 : decode cX7_sign 38 = .ok (.invokevirtual 169, 3) := by decide +kernel
theorem dX7_sign_41 : decode cX7_sign 41 = .ok (.if_icmp .ge 11, 3) := by decide +kernel
theorem dX7_sign_44 : decode cX7_sign 44 = .ok (.aload_n 3, 1) := by decide +kernel
theorem dX7_sign_45 : decode cX7_sign 45 = .ok (.iload_n 2, 1) := by decide +kernel
theorem dX7_sign_46 : decode cX7_sign 46 = .ok (.invokevirtual 172, 3) := by decide +kernel
theorem dX7_sign_49 : decode cX7_sign 49 = .ok (.goto 5, 3) := by decide +kernel
theorem dX7_sign_52 : decode cX7_sign 52 = .ok (.bipush 32, 2) := by decide +kernel
theorem dX7_sign_54 : decode cX7_sign 54 = .ok (.ireturn, 1) := by decide +kernel
theorem dX7_needSite_0 : decode cX7_needSite 0 = .ok (.iload_n 1, 1) := by decide +kernel
theorem dX7_needSite_1 : decode cX7_needSite 1 = .ok (.ifCond .lt 14, 3) := by decide +kernel
theorem dX7_needSite_4 : decode cX7_needSite 4 = .ok (.iload_n 1, 1) := by decide +kernel
theorem dX7_needSite_5 : decode cX7_needSite 5 = .ok (.aload_n 0, 1) := by decide +kernel
theorem dX7_needSite_6 : decode cX7_needSite 6 = .ok (.getfield 10, 3) := by decide +kernel
theorem dX7_needSite_9 : decode cX7_needSite 9 = .ok (.getfield 56, 3) := by decide +kernel
theorem dX7_needSite_12 : decode cX7_needSite 12 = .ok (.if_icmp .lt 13, 3) := by decide +kernel
theorem dX7_needSite_15 : decode cX7_needSite 15 = .ok (.new 157, 3) := by decide +kernel
theorem dX7_needSite_18 : decode cX7_needSite 18 = .ok (.dup, 1) := by decide +kernel
theorem dX7_needSite_19 : decode cX7_needSite 19 = .ok (.ldc 176, 2) := by decide +kernel
theorem dX7_needSite_21 : decode cX7_needSite 21 = .ok (.invokespecial 161, 3) := by decide +kernel
theorem dX7_needSite_24 : decode cX7_needSite 24 = .ok (.athrow, 1) := by decide +kernel
theorem dX7_needSite_25 : decode cX7_needSite 25 = .ok (.return_, 1) := by decide +kernel
theorem dX7_needWithin_0 : decode cX7_needWithin 0 = .ok (.iload_n 0, 1) := by decide +kernel
theorem dX7_needWithin_1 : decode cX7_needWithin 1 = .ok (.iload_n 1, 1) := by decide +kernel
theorem dX7_needWithin_2 : decode cX7_needWithin 2 = .ok (.if_icmp .lt 8, 3) := by decide +kernel
theorem dX7_needWithin_5 : decode cX7_needWithin 5 = .ok (.iload_n 0, 1) := by decide +kernel
theorem dX7_needWithin_6 : decode cX7_needWithin 6 = .ok (.iload_n 2, 1) := by decide +kernel
theorem dX7_needWithin_7 : decode cX7_needWithin 7 = .ok (.if_icmp .le 13, 3) := by decide +kernel
theorem dX7_needWithin_10 : decode cX7_needWithin 10 = .ok (.new 178, 3) := by decide +kernel
theorem dX7_needWithin_13 : decode cX7_needWithin 13 = .ok (.dup, 1) := by decide +kernel
theorem dX7_needWithin_14 : decode cX7_needWithin 14 = .ok (.ldc 180, 2) := by decide +kernel
theorem dX7_needWithin_16 : decode cX7_needWithin 16 = .ok (.invokespecial 182, 3) := by decide +kernel
theorem dX7_needWithin_19 : decode cX7_needWithin 19 = .ok (.athrow, 1) := by decide +kernel
theorem dX7_needWithin_20 : decode cX7_needWithin 20 = .ok (.return_, 1) := by decide +kernel
set_option maxRecDepth 20000 in
theorem ggX7_needPoint_X7_needWithin : GoodIn wsX7_needPoint wsX7_needWithin := goodIn_ca (goodIn_r _ [4, 5, 6] (by decide +kernel) (by decide +kernel)) (goodIn_sub (fun _ h => List.mem_cons_of_mem _ (List.mem_append_right _ h)) (by decide +kernel))
set_option maxRecDepth 20000 in
theorem gX7_needPoint_X7_needWithin : GoodIn wsX7_needPoint (va_wsS RX7 52 yX7_needWithin wsX7_needWithin) := goodIn_app (goodIn_of _ (by decide +kernel)) ggX7_needPoint_X7_needWithin
theorem dX7_needPoint_0 : decode cX7_needPoint 0 = .ok (.iload_n 0, 1) := by decide +kernel
theorem dX7_needPoint_1 : decode cX7_needPoint 1 = .ok (.iconst 0, 1) := by decide +kernel
theorem dX7_needPoint_2 : decode cX7_needPoint 2 = .ok (.bipush 40, 2) := by decide +kernel
theorem dX7_needPoint_4 : decode cX7_needPoint 4 = .ok (.invokestatic 52, 3) := by decide +kernel
theorem dX7_needPoint_7 : decode cX7_needPoint 7 = .ok (.iload_n 1, 1) := by decide +kernel
theorem dX7_needPoint_8 : decode cX7_needPoint 8 = .ok (.iconst 0, 1) := by decide +kernel
theorem dX7_needPoint_9 : decode cX7_needPoint 9 = .ok (.bipush 40, 2) := by decide +kernel
theorem dX7_needPoint_11 : decode cX7_needPoint 11 = .ok (.invokestatic 52, 3) := by decide +kernel
theorem dX7_needPoint_14 : decode cX7_needPoint 14 = .ok (.return_, 1) := by decide +kernel
set_option maxRecDepth 20000 in
theorem ggX7_needBalance_X7_needWithin : GoodIn wsX7_needBalance wsX7_needWithin := goodIn_ca (goodIn_r _ [8, 9, 10] (by decide +kernel) (by decide +kernel)) (goodIn_sub (fun _ h => List.mem_cons_of_mem _ (List.mem_append_right _ h)) (by decide +kernel))
set_option maxRecDepth 20000 in
theorem gX7_needBalance_X7_needWithin : GoodIn wsX7_needBalance (va_wsS RX7 52 yX7_needWithin wsX7_needWithin) := goodIn_app (goodIn_of _ (by decide +kernel)) ggX7_needBalance_X7_needWithin
theorem dX7_needBalance_0 : decode cX7_needBalance 0 = .ok (.iload_n 1, 1) := by decide +kernel
theorem dX7_needBalance_1 : decode cX7_needBalance 1 = .ok (.iconst 1, 1) := by decide +kernel
theorem dX7_needBalance_2 : decode cX7_needBalance 2 = .ok (.sipush 999, 3) := by decide +kernel
theorem dX7_needBalance_5 : decode cX7_needBalance 5 = .ok (.invokestatic 52, 3) := by decide +kernel
theorem dX7_needBalance_8 : decode cX7_needBalance 8 = .ok (.iload_n 2, 1) := by decide +kernel
theorem dX7_needBalance_9 : decode cX7_needBalance 9 = .ok (.iconst 1, 1) := by decide +kernel
theorem dX7_needBalance_10 : decode cX7_needBalance 10 = .ok (.bipush 20, 2) := by decide +kernel
theorem dX7_needBalance_12 : decode cX7_needBalance 12 = .ok (.invokestatic 52, 3) := by decide +kernel
theorem dX7_needBalance_15 : decode cX7_needBalance 15 = .ok (.aload_n 0, 1) := by decide +kernel
theorem dX7_needBalance_16 : decode cX7_needBalance 16 = .ok (.getfield 10, 3) := by decide +kernel
theorem dX7_needBalance_19 : decode cX7_needBalance 19 = .ok (.getfield 56, 3) := by decide +kernel
theorem dX7_needBalance_22 : decode cX7_needBalance 22 = .ok (.ifCond .ne 13, 3) := by decide +kernel
theorem dX7_needBalance_25 : decode cX7_needBalance 25 = .ok (.new 60, 3) := by decide +kernel
theorem dX7_needBalance_28 : decode cX7_needBalance 28 = .ok (.dup, 1) := by decide +kernel
theorem dX7_needBalance_29 : decode cX7_needBalance 29 = .ok (.ldc 183, 2) := by decide +kernel
theorem dX7_needBalance_31 : decode cX7_needBalance 31 = .ok (.invokespecial 64, 3) := by decide +kernel
theorem dX7_needBalance_34 : decode cX7_needBalance 34 = .ok (.athrow, 1) := by decide +kernel
theorem dX7_needBalance_35 : decode cX7_needBalance 35 = .ok (.return_, 1) := by decide +kernel
theorem dX8_init_0 : decode cX8_init 0 = .ok (.aload_n 0, 1) := by decide +kernel
theorem dX8_init_1 : decode cX8_init 1 = .ok (.invokespecial 1, 3) := by decide +kernel
theorem dX8_init_4 : decode cX8_init 4 = .ok (.aload_n 0, 1) := by decide +kernel
theorem dX8_init_5 : decode cX8_init 5 = .ok (.bipush 12, 2) := by decide +kernel
theorem dX8_init_7 : decode cX8_init 7 = .ok (.newarray .int, 2) := by decide +kernel
theorem dX8_init_9 : decode cX8_init 9 = .ok (.putfield 7, 3) := by decide +kernel
theorem dX8_init_12 : decode cX8_init 12 = .ok (.aload_n 0, 1) := by decide +kernel
theorem dX8_init_13 : decode cX8_init 13 = .ok (.bipush 12, 2) := by decide +kernel
theorem dX8_init_15 : decode cX8_init 15 = .ok (.newarray .int, 2) := by decide +kernel
theorem dX8_init_17 : decode cX8_init 17 = .ok (.putfield 13, 3) := by decide +kernel
theorem dX8_init_20 : decode cX8_init 20 = .ok (.aload_n 0, 1) := by decide +kernel
theorem dX8_init_21 : decode cX8_init 21 = .ok (.bipush 12, 2) := by decide +kernel
theorem dX8_init_23 : decode cX8_init 23 = .ok (.newarray .int, 2) := by decide +kernel
theorem dX8_init_25 : decode cX8_init 25 = .ok (.putfield 16, 3) := by decide +kernel
theorem dX8_init_28 : decode cX8_init 28 = .ok (.aload_n 0, 1) := by decide +kernel
theorem dX8_init_29 : decode cX8_init 29 = .ok (.bipush 12, 2) := by decide +kernel
theorem dX8_init_31 : decode cX8_init 31 = .ok (.newarray .int, 2) := by decide +kernel
theorem dX8_init_33 : decode cX8_init 33 = .ok (.putfield 19, 3) := by decide +kernel
theorem dX8_init_36 : decode cX8_init 36 = .ok (.aload_n 0, 1) := by decide +kernel
theorem dX8_init_37 : decode cX8_init 37 = .ok (.bipush 12, 2) := by decide +kernel
theorem dX8_init_39 : decode cX8_init 39 = .ok (.newarray .int, 2) := by decide +kernel
theorem dX8_init_41 : decode cX8_init 41 = .ok (.putfield 22, 3) := by decide +kernel
theorem dX8_init_44 : decode cX8_init 44 = .ok (.aload_n 0, 1) := by decide +kernel
theorem dX8_init_45 : decode cX8_init 45 = .ok (.bipush 12, 2) := by decide +kernel
theorem dX8_init_47 : decode cX8_init 47 = .ok (.newarray .int, 2) := by decide +kernel
theorem dX8_init_49 : decode cX8_init 49 = .ok (.putfield 25, 3) := by decide +kernel
theorem dX8_init_52 : decode cX8_init 52 = .ok (.return_, 1) := by decide +kernel
theorem dX8_thrown_0 : decode cX8_thrown 0 = .ok (.aload_n 0, 1) := by decide +kernel
theorem dX8_thrown_1 : decode cX8_thrown 1 = .ok (.getfield 28, 3) := by decide +kernel
theorem dX8_thrown_4 : decode cX8_thrown 4 = .ok (.ireturn, 1) := by decide +kernel
theorem dX8_in_0 : decode cX8_in 0 = .ok (.iload_n 0, 1) := by decide +kernel
theorem dX8_in_1 : decode cX8_in 1 = .ok (.iload_n 1, 1) := by decide +kernel
theorem dX8_in_2 : decode cX8_in 2 = .ok (.if_icmp .lt 12, 3) := by decide +kernel
theorem dX8_in_5 : decode cX8_in 5 = .ok (.iload_n 0, 1) := by decide +kernel
theorem dX8_in_6 : decode cX8_in 6 = .ok (.iload_n 2, 1) := by decide +kernel
theorem dX8_in_7 : decode cX8_in 7 = .ok (.if_icmp .gt 7, 3) := by decide +kernel
theorem dX8_in_10 : decode cX8_in 10 = .ok (.iconst 1, 1) := by decide +kernel
theorem dX8_in_11 : decode cX8_in 11 = .ok (.goto 4, 3) := by decide +kernel
theorem dX8_in_14 : decode cX8_in 14 = .ok (.iconst 0, 1) := by decide +kernel
theorem dX8_in_15 : decode cX8_in 15 = .ok (.ireturn, 1) := by decide +kernel
set_option maxRecDepth 20000 in
theorem ggX8_isSite_X8_in : GoodIn wsX8_isSite wsX8_in := goodIn_r _ [5] (by decide +kernel) (by decide +kernel)
set_option maxRecDepth 20000 in
theorem gX8_isSite_X8_in : GoodIn wsX8_isSite (va_wsS RX8 35 yX8_in wsX8_in) := goodIn_app (goodIn_of _ (by decide +kernel)) ggX8_isSite_X8_in
theorem dX8_isSite_0 : decode cX8_isSite 0 = .ok (.iload_n 1, 1) := by decide +kernel
theorem dX8_isSite_1 : decode cX8_isSite 1 = .ok (.iconst 0, 1) := by decide +kernel
theorem dX8_isSite_2 : decode cX8_isSite 2 = .ok (.aload_n 0, 1) := by decide +kernel
theorem dX8_isSite_3 : decode cX8_isSite 3 = .ok (.getfield 32, 3) := by decide +kernel
theorem dX8_isSite_6 : decode cX8_isSite 6 = .ok (.iconst 1, 1) := by decide +kernel
theorem dX8_isSite_7 : decode cX8_isSite 7 = .ok (.isub, 1) := by decide +kernel
theorem dX8_isSite_8 : decode cX8_isSite 8 = .ok (.invokestatic 35, 3) := by decide +kernel
theorem dX8_isSite_11 : decode cX8_isSite 11 = .ok (.ireturn, 1) := by decide +kernel
theorem dX8_size_0 : decode cX8_size 0 = .ok (.iload_n 0, 1) := by decide +kernel
theorem dX8_size_1 : decode cX8_size 1 = .ok (.ifCond .ge 8, 3) := by decide +kernel
theorem dX8_size_4 : decode cX8_size 4 = .ok (.iload_n 0, 1) := by decide +kernel
theorem dX8_size_5 : decode cX8_size 5 = .ok (.ineg, 1) := by decide +kernel
theorem dX8_size_6 : decode cX8_size 6 = .ok (.goto 4, 3) := by decide +kernel
theorem dX8_size_9 : decode cX8_size 9 = .ok (.iload_n 0, 1) := by decide +kernel
theorem dX8_size_10 : decode cX8_size 10 = .ok (.ireturn, 1) := by decide +kernel
set_option maxRecDepth 20000 in
theorem ggX8_site_X8_in : GoodIn wsX8_site wsX8_in := goodIn_r _ [9] (by decide +kernel) (by decide +kernel)
set_option maxRecDepth 20000 in
theorem gX8_site_X8_in : GoodIn wsX8_site (va_wsS RX8 35 yX8_in wsX8_in) := goodIn_app (goodIn_of _ (by decide +kernel)) ggX8_site_X8_in
theorem dX8_site_0 : decode cX8_site 0 = .ok (.aload_n 0, 1) := by decide +kernel
theorem dX8_site_1 : decode cX8_site 1 = .ok (.iload_n 1, 1) := by decide +kernel
theorem dX8_site_2 : decode cX8_site 2 = .ok (.iconst 0, 1) := by decide +kernel
theorem dX8_site_3 : decode cX8_site 3 = .ok (.bipush 40, 2) := by decide +kernel
theorem dX8_site_5 : decode cX8_site 5 = .ok (.invokestatic 35, 3) := by decide +kernel
theorem dX8_site_8 : decode cX8_site 8 = .ok (.ifCond .eq 26, 3) := by decide +kernel
theorem dX8_site_11 : decode cX8_site 11 = .ok (.iload_n 2, 1) := by decide +kernel
theorem dX8_site_12 : decode cX8_site 12 = .ok (.iconst 0, 1) := by decide +kernel
theorem dX8_site_13 : decode cX8_site 13 = .ok (.bipush 40, 2) := by decide +kernel
theorem dX8_site_15 : decode cX8_site 15 = .ok (.invokestatic 35, 3) := by decide +kernel
theorem dX8_site_18 : decode cX8_site 18 = .ok (.ifCond .eq 16, 3) := by decide +kernel
theorem dX8_site_21 : decode cX8_site 21 = .ok (.iload_n 3, 1) := by decide +kernel
theorem dX8_site_22 : decode cX8_site 22 = .ok (.sipush (-999), 3) := by decide +kernel
theorem dX8_site_25 : decode cX8_site 25 = .ok (.sipush 999, 3) := by decide +kernel
theorem dX8_site_28 : decode cX8_site 28 = .ok (.invokestatic 35, 3) := by decide +kernel
theorem dX8_site_31 : decode cX8_site 31 = .ok (.ifCond .ne 7, 3) := by decide +kernel
theorem dX8_site_34 : decode cX8_site 34 = .ok (.iconst 1, 1) := by decide +kernel
theorem dX8_site_35 : decode cX8_site 35 = .ok (.goto 17, 3) := by decide +kernel
theorem dX8_site_38 : decode cX8_site 38 = .ok (.aload_n 0, 1) := by decide +kernel
theorem dX8_site_39 : decode cX8_site 39 = .ok (.getfield 32, 3) := by decide +kernel
theorem dX8_site_42 : decode cX8_site 42 = .ok (.bipush 12, 2) := by decide +kernel
theorem dX8_site_44 : decode cX8_site 44 = .ok (.if_icmp .ne 7, 3) := by decide +kernel
theorem dX8_site_47 : decode cX8_site 47 = .ok (.iconst 2, 1) := by decide +kernel
theorem dX8_site_48 : decode cX8_site 48 = .ok (.goto 4, 3) := by decide +kernel
theorem dX8_site_51 : decode cX8_site 51 = .ok (.iconst 0, 1) := by decide +kernel
theorem dX8_site_52 : decode cX8_site 52 = .ok (.putfield 28, 3) := by decide +kernel
theorem dX8_site_55 : decode cX8_site 55 = .ok (.aload_n 0, 1) := by decide +kernel
theorem dX8_site_56 : decode cX8_site 56 = .ok (.getfield 28, 3) := by decide +kernel
theorem dX8_site_59 : decode cX8_site 59 = .ok (.ifCond .le 5, 3) := by decide +kernel
theorem dX8_site_62 : decode cX8_site 62 = .ok (.iconst 0, 1) := by decide +kernel
theorem dX8_site_63 : decode cX8_site 63 = .ok (.ireturn, 1) := by decide +kernel
theorem dX8_site_64 : decode cX8_site 64 = .ok (.aload_n 0, 1) := by decide +kernel
theorem dX8_site_65 : decode cX8_site 65 = .ok (.getfield 7, 3) := by decide +kernel
theorem dX8_site_68 : decode cX8_site 68 = .ok (.aload_n 0, 1) := by decide +kernel
theorem dX8_site_69 : decode cX8_site 69 = .ok (.getfield 32, 3) := by decide +kernel
theorem dX8_site_72 : decode cX8_site 72 = .ok (.iload_n 1, 1) := by decide +kernel
theorem dX8_site_73 : decode cX8_site 73 = .ok (.iastore, 1) := by decide +kernel
theorem dX8_site_74 : decode cX8_site 74 = .ok (.aload_n 0, 1) := by decide +kernel
theorem dX8_site_75 : decode cX8_site 75 = .ok (.getfield 13, 3) := by decide +kernel
theorem dX8_site_78 : decode cX8_site 78 = .ok (.aload_n 0, 1) := by decide +kernel
theorem dX8_site_79 : decode cX8_site 79 = .ok (.getfield 32, 3) := by decide +kernel
theorem dX8_site_82 : decode cX8_site 82 = .ok (.iload_n 2, 1) := by decide +kernel
theorem dX8_site_83 : decode cX8_site 83 = .ok (.iastore, 1) := by decide +kernel
theorem dX8_site_84 : decode cX8_site 84 = .ok (.aload_n 0, 1) := by decide +kernel
theorem dX8_site_85 : decode cX8_site 85 = .ok (.getfield 16, 3) := by decide +kernel
theorem dX8_site_88 : decode cX8_site 88 = .ok (.aload_n 0, 1) := by decide +kernel
theorem dX8_site_89 : decode cX8_site 89 = .ok (.getfield 32, 3) := by decide +kernel
theorem dX8_site_92 : decode cX8_site 92 = .ok (.iload_n 3, 1) := by decide +kernel
theorem dX8_site_93 : decode cX8_site 93 = .ok (.iastore, 1) := by decide +kernel
theorem dX8_site_94 : decode cX8_site 94 = .ok (.aload_n 0, 1) := by decide +kernel
theorem dX8_site_95 : decode cX8_site 95 = .ok (.dup, 1) := by decide +kernel
theorem dX8_site_96 : decode cX8_site 96 = .ok (.getfield 32, 3) := by decide +kernel
theorem dX8_site_99 : decode cX8_site 99 = .ok (.iconst 1, 1) := by decide +kernel
theorem dX8_site_100 : decode cX8_site 100 = .ok (.iadd, 1) := by decide +kernel
theorem dX8_site_101 : decode cX8_site 101 = .ok (.putfield 32, 3) := by decide +kernel
theorem dX8_site_104 : decode cX8_site 104 = .ok (.aload_n 0, 1) := by decide +kernel
theorem dX8_site_105 : decode cX8_site 105 = .ok (.getfield 32, 3) := by decide +kernel
theorem dX8_site_108 : decode cX8_site 108 = .ok (.iconst 1, 1) := by decide +kernel
