set_option maxRecDepth 20000 in
theorem ggX0_init_X2_init : GoodIn wsX0_init wsX2_init := goodIn_r _ [12, 13, 2, 3, 14, 15, 16] (by decide +kernel) (by decide +kernel)
set_option maxRecDepth 20000 in
theorem gX0_init_X2_init_n11 : GoodIn wsX0_init (wsX2_init) := ggX0_init_X2_init
theorem dX0_init_0 : decode cX0_init 0 = .ok (.aload_n 0, 1) := by decide +kernel
theorem dX0_init_1 : decode cX0_init 1 = .ok (.invokespecial 3, 3) := by decide +kernel
theorem dX0_init_4 : decode cX0_init 4 = .ok (.aload_n 0, 1) := by decide +kernel
theorem dX0_init_5 : decode cX0_init 5 = .ok (.new 9, 3) := by decide +kernel
theorem dX0_init_8 : decode cX0_init 8 = .ok (.dup, 1) := by decide +kernel
theorem dX0_init_9 : decode cX0_init 9 = .ok (.invokespecial 11, 3) := by decide +kernel
theorem dX0_init_12 : decode cX0_init 12 = .ok (.putfield 12, 3) := by decide +kernel
theorem dX0_init_15 : decode cX0_init 15 = .ok (.aload_n 0, 1) := by decide +kernel
theorem dX0_init_16 : decode cX0_init 16 = .ok (.new 9, 3) := by decide +kernel
theorem dX0_init_19 : decode cX0_init 19 = .ok (.dup, 1) := by decide +kernel
theorem dX0_init_20 : decode cX0_init 20 = .ok (.invokespecial 11, 3) := by decide +kernel
theorem dX0_init_23 : decode cX0_init 23 = .ok (.putfield 18, 3) := by decide +kernel
theorem dX0_init_26 : decode cX0_init 26 = .ok (.aload_n 0, 1) := by decide +kernel
theorem dX0_init_27 : decode cX0_init 27 = .ok (.new 9, 3) := by decide +kernel
theorem dX0_init_30 : decode cX0_init 30 = .ok (.dup, 1) := by decide +kernel
theorem dX0_init_31 : decode cX0_init 31 = .ok (.invokespecial 11, 3) := by decide +kernel
theorem dX0_init_34 : decode cX0_init 34 = .ok (.putfield 21, 3) := by decide +kernel
theorem dX0_init_37 : decode cX0_init 37 = .ok (.aload_n 0, 1) := by decide +kernel
theorem dX0_init_38 : decode cX0_init 38 = .ok (.aload_n 1, 1) := by decide +kernel
theorem dX0_init_39 : decode cX0_init 39 = .ok (.putfield 24, 3) := by decide +kernel
theorem dX0_init_42 : decode cX0_init 42 = .ok (.return_, 1) := by decide +kernel
set_option maxRecDepth 20000 in
theorem ggX0_trace_X0_isSamePlace : GoodIn wsX0_trace wsX0_isSamePlace := goodIn_r _ [7, 1, 8, 9, 10, 11, 12, 13, 14, 15, 77, 78, 79, 80, 81, 82, 83, 84, 85, 86, 87, 88, 89, 90, 91] (by decide +kernel) (by decide +kernel)
set_option maxRecDepth 20000 in
theorem gX0_trace_X0_isSamePlace : GoodIn wsX0_trace (wsV RX0 28 RX0 yX0_isSamePlace wsX0_isSamePlace) := goodIn_app (goodIn_of _ (by decide +kernel)) ggX0_trace_X0_isSamePlace
set_option maxRecDepth 20000 in
theorem ggX0_trace_X0_layLine : GoodIn wsX0_trace wsX0_layLine := goodIn_r _ [19, 1, 8, 9, 20, 21, 22, 23, 10, 11, 12, 13, 14, 15, 24, 25, 26, 27, 28, 29, 30, 31, 32, 33, 34, 35, 36, 77, 78, 79, 80, 81, 82, 83, 84, 85, 86, 87, 88, 89, 90, 91] (by decide +kernel) (by decide +kernel)
set_option maxRecDepth 20000 in
theorem gX0_trace_X0_layLine : GoodIn wsX0_trace (wsV RX0 32 RX0 yX0_layLine wsX0_layLine) := goodIn_app (goodIn_of _ (by decide +kernel)) ggX0_trace_X0_layLine
set_option maxRecDepth 20000 in
theorem ggX0_trace_X0_cutByBox : GoodIn wsX0_trace wsX0_cutByBox := goodIn_r _ [40, 41, 42, 43, 44, 45, 46, 47, 48, 49, 50, 51, 52, 53, 54, 55, 56, 6, 57, 58, 22, 21, 23, 59, 60, 61, 62, 63, 64, 65, 66, 77, 78, 79, 80, 81, 82, 83, 84, 85, 92, 93] (by decide +kernel) (by decide +kernel)
set_option maxRecDepth 20000 in
theorem gX0_trace_X0_cutByBox : GoodIn wsX0_trace (wsV RX0 36 RX0 yX0_cutByBox wsX0_cutByBox) := goodIn_app (goodIn_of _ (by decide +kernel)) ggX0_trace_X0_cutByBox
set_option maxRecDepth 20000 in
theorem ggX0_trace_X0_isGone : GoodIn wsX0_trace wsX0_isGone := goodIn_r _ [70, 41, 42, 43, 71, 72, 63, 64, 65, 50, 66, 52, 53, 77, 78, 79, 80, 81, 82, 83, 84, 85, 92, 93] (by decide +kernel) (by decide +kernel)
set_option maxRecDepth 20000 in
theorem gX0_trace_X0_isGone : GoodIn wsX0_trace (wsV RX0 39 RX0 yX0_isGone wsX0_isGone) := goodIn_app (goodIn_of _ (by decide +kernel)) ggX0_trace_X0_isGone
set_option maxRecDepth 20000 in
theorem ggX0_trace_X0_cutBySite : GoodIn wsX0_trace wsX0_cutBySite := goodIn_r _ [76, 1, 8, 9, 20, 10, 11, 12, 13, 14, 15, 24, 25, 26, 27, 28, 29, 30, 31, 32, 33, 34, 35, 36, 54, 55, 56, 6, 57, 58, 22, 21, 23, 43, 42, 41, 59, 60, 61, 50, 62, 52, 53, 47, 48, 49, 51, 63, 64, 65, 66, 77, 78, 79, 80, 81, 82, 83, 84, 85, 86, 87, 88, 89, 90, 91, 92, 93] (by decide +kernel) (by decide +kernel)
set_option maxRecDepth 20000 in
theorem gX0_trace_X0_cutBySite : GoodIn wsX0_trace (wsV RX0 49 RX0 yX0_cutBySite wsX0_cutBySite) := goodIn_app (goodIn_of _ (by decide +kernel)) ggX0_trace_X0_cutBySite
theorem dX0_trace_0 : decode cX0_trace 0 = .ok (.aload_n 0, 1) := by decide +kernel
theorem dX0_trace_1 : decode cX0_trace 1 = .ok (.iload_n 1, 1) := by decide +kernel
theorem dX0_trace_2 : decode cX0_trace 2 = .ok (.iload_n 2, 1) := by decide +kernel
theorem dX0_trace_3 : decode cX0_trace 3 = .ok (.invokevirtual 28, 3) := by decide +kernel
theorem dX0_trace_6 : decode cX0_trace 6 = .ok (.ifCond .eq 6, 3) := by decide +kernel
theorem dX0_trace_9 : decode cX0_trace 9 = .ok (.bipush (-3), 2) := by decide +kernel
theorem dX0_trace_11 : decode cX0_trace 11 = .ok (.ireturn, 1) := by decide +kernel
theorem dX0_trace_12 : decode cX0_trace 12 = .ok (.aload_n 0, 1) := by decide +kernel
theorem dX0_trace_13 : decode cX0_trace 13 = .ok (.iload_n 1, 1) := by decide +kernel
theorem dX0_trace_14 : decode cX0_trace 14 = .ok (.iload_n 2, 1) := by decide +kernel
theorem dX0_trace_15 : decode cX0_trace 15 = .ok (.invokevirtual 32, 3) := by decide +kernel
theorem dX0_trace_18 : decode cX0_trace 18 = .ok (.aload_n 0, 1) := by decide +kernel
theorem dX0_trace_19 : decode cX0_trace 19 = .ok (.invokevirtual 36, 3) := by decide +kernel
theorem dX0_trace_22 : decode cX0_trace 22 = .ok (.aload_n 0, 1) := by decide +kernel
theorem dX0_trace_23 : decode cX0_trace 23 = .ok (.invokevirtual 39, 3) := by decide +kernel
theorem dX0_trace_26 : decode cX0_trace 26 = .ok (.ifCond .eq 6, 3) := by decide +kernel
theorem dX0_trace_29 : decode cX0_trace 29 = .ok (.bipush (-2), 2) := by decide +kernel
theorem dX0_trace_31 : decode cX0_trace 31 = .ok (.ireturn, 1) := by decide +kernel
theorem dX0_trace_32 : decode cX0_trace 32 = .ok (.iconst 0, 1) := by decide +kernel
theorem dX0_trace_33 : decode cX0_trace 33 = .ok (.istore_n 3, 1) := by decide +kernel
theorem dX0_trace_34 : decode cX0_trace 34 = .ok (.iload_n 3, 1) := by decide +kernel
theorem dX0_trace_35 : decode cX0_trace 35 = .ok (.aload_n 0, 1) := by decide +kernel
theorem dX0_trace_36 : decode cX0_trace 36 = .ok (.getfield 24, 3) := by decide +kernel
theorem dX0_trace_39 : decode cX0_trace 39 = .ok (.getfield 43, 3) := by decide +kernel
theorem dX0_trace_42 : decode cX0_trace 42 = .ok (.if_icmp .ge 34, 3) := by decide +kernel
theorem dX0_trace_45 : decode cX0_trace 45 = .ok (.iload_n 3, 1) := by decide +kernel
theorem dX0_trace_46 : decode cX0_trace 46 = .ok (.iload_n 1, 1) := by decide +kernel
theorem dX0_trace_47 : decode cX0_trace 47 = .ok (.if_icmp .eq 23, 3) := by decide +kernel
theorem dX0_trace_50 : decode cX0_trace 50 = .ok (.iload_n 3, 1) := by decide +kernel
theorem dX0_trace_51 : decode cX0_trace 51 = .ok (.iload_n 2, 1) := by decide +kernel
theorem dX0_trace_52 : decode cX0_trace 52 = .ok (.if_icmp .eq 18, 3) := by decide +kernel
theorem dX0_trace_55 : decode cX0_trace 55 = .ok (.aload_n 0, 1) := by decide +kernel
theorem dX0_trace_56 : decode cX0_trace 56 = .ok (.iload_n 1, 1) := by decide +kernel
theorem dX0_trace_57 : decode cX0_trace 57 = .ok (.iload_n 3, 1) := by decide +kernel
theorem dX0_trace_58 : decode cX0_trace 58 = .ok (.invokevirtual 49, 3) := by decide +kernel
theorem dX0_trace_61 : decode cX0_trace 61 = .ok (.aload_n 0, 1) := by decide +kernel
theorem dX0_trace_62 : decode cX0_trace 62 = .ok (.invokevirtual 39, 3) := by decide +kernel
theorem dX0_trace_65 : decode cX0_trace 65 = .ok (.ifCond .eq 5, 3) := by decide +kernel
theorem dX0_trace_68 : decode cX0_trace 68 = .ok (.iload_n 3, 1) := by decide +kernel
theorem dX0_trace_69 : decode cX0_trace 69 = .ok (.ireturn, 1) := by decide +kernel
theorem dX0_trace_70 : decode cX0_trace 70 = .ok (.iinc 3 1, 3) := by decide +kernel
theorem dX0_trace_73 : decode cX0_trace 73 = .ok (.goto (-39), 3) := by decide +kernel
theorem dX0_trace_76 : decode cX0_trace 76 = .ok (.iconst (-1), 1) := by decide +kernel
theorem dX0_trace_77 : decode cX0_trace 77 = .ok (.ireturn, 1) := by decide +kernel
set_option maxRecDepth 20000 in
theorem ggX0_partOfEnd_X2_set : GoodIn wsX0_partOfEnd wsX2_set := goodIn_r _ [15, 16, 17, 35, 36] (by decide +kernel) (by decide +kernel)
set_option maxRecDepth 20000 in
theorem gX0_partOfEnd_X2_set : GoodIn wsX0_partOfEnd (wsV RX0 63 RX2 yX2_set wsX2_set) := goodIn_app (goodIn_of _ (by decide +kernel)) ggX0_partOfEnd_X2_set
set_option maxRecDepth 20000 in
theorem ggX0_partOfEnd_X2_shorten : GoodIn wsX0_partOfEnd wsX2_shorten := goodIn_r _ [21, 16, 22, 23, 24, 25, 17, 35, 36] (by decide +kernel) (by decide +kernel)
set_option maxRecDepth 20000 in
theorem gX0_partOfEnd_X2_shorten : GoodIn wsX0_partOfEnd (wsV RX0 78 RX2 yX2_shorten wsX2_shorten) := goodIn_app (goodIn_of _ (by decide +kernel)) ggX0_partOfEnd_X2_shorten
theorem dX0_partOfEnd_0 : decode cX0_partOfEnd 0 = .ok (.iload_n 1, 1) := by decide +kernel
theorem dX0_partOfEnd_1 : decode cX0_partOfEnd 1 = .ok (.ifCond .ne 10, 3) := by decide +kernel
theorem dX0_partOfEnd_4 : decode cX0_partOfEnd 4 = .ok (.aload_n 0, 1) := by decide +kernel
theorem dX0_partOfEnd_5 : decode cX0_partOfEnd 5 = .ok (.getfield 12, 3) := by decide +kernel
theorem dX0_partOfEnd_8 : decode cX0_partOfEnd 8 = .ok (.goto 7, 3) := by decide +kernel
theorem dX0_partOfEnd_11 : decode cX0_partOfEnd 11 = .ok (.aload_n 0, 1) := by decide +kernel
theorem dX0_partOfEnd_12 : decode cX0_partOfEnd 12 = .ok (.getfield 18, 3) := by decide +kernel
theorem dX0_partOfEnd_15 : decode cX0_partOfEnd 15 = .ok (.astore_n 3, 1) := by decide +kernel
theorem dX0_partOfEnd_16 : decode cX0_partOfEnd 16 = .ok (.iload_n 2, 1) := by decide +kernel
theorem dX0_partOfEnd_17 : decode cX0_partOfEnd 17 = .ok (.iconst 2, 1) := by decide +kernel
theorem dX0_partOfEnd_18 : decode cX0_partOfEnd 18 = .ok (.if_icmp .ge 7, 3) := by decide +kernel
theorem dX0_partOfEnd_21 : decode cX0_partOfEnd 21 = .ok (.iconst 1, 1) := by decide +kernel
theorem dX0_partOfEnd_22 : decode cX0_partOfEnd 22 = .ok (.goto 4, 3) := by decide +kernel
theorem dX0_partOfEnd_25 : decode cX0_partOfEnd 25 = .ok (.iconst 0, 1) := by decide +kernel
theorem dX0_partOfEnd_26 : decode cX0_partOfEnd 26 = .ok (.istore 4, 2) := by decide +kernel
theorem dX0_partOfEnd_28 : decode cX0_partOfEnd 28 = .ok (.iload 4, 2) := by decide +kernel
theorem dX0_partOfEnd_30 : decode cX0_partOfEnd 30 = .ok (.aload_n 0, 1) := by decide +kernel
theorem dX0_partOfEnd_31 : decode cX0_partOfEnd 31 = .ok (.getfield 52, 3) := by decide +kernel
theorem dX0_partOfEnd_34 : decode cX0_partOfEnd 34 = .ok (.if_icmp .eq 21, 3) := by decide +kernel
theorem dX0_partOfEnd_37 : decode cX0_partOfEnd 37 = .ok (.aload_n 0, 1) := by decide +kernel
theorem dX0_partOfEnd_38 : decode cX0_partOfEnd 38 = .ok (.getfield 21, 3) := by decide +kernel
theorem dX0_partOfEnd_41 : decode cX0_partOfEnd 41 = .ok (.aload_n 3, 1) := by decide +kernel
theorem dX0_partOfEnd_42 : decode cX0_partOfEnd 42 = .ok (.getfield 56, 3) := by decide +kernel
theorem dX0_partOfEnd_45 : decode cX0_partOfEnd 45 = .ok (.aload_n 3, 1) := by decide +kernel
theorem dX0_partOfEnd_46 : decode cX0_partOfEnd 46 = .ok (.getfield 60, 3) := by decide +kernel
theorem dX0_partOfEnd_49 : decode cX0_partOfEnd 49 = .ok (.invokevirtual 63, 3) := by decide +kernel
theorem dX0_partOfEnd_52 : decode cX0_partOfEnd 52 = .ok (.goto 46, 3) := by decide +kernel
theorem dX0_partOfEnd_55 : decode cX0_partOfEnd 55 = .ok (.aload_n 0, 1) := by decide +kernel
theorem dX0_partOfEnd_56 : decode cX0_partOfEnd 56 = .ok (.getfield 21, 3) := by decide +kernel
theorem dX0_partOfEnd_59 : decode cX0_partOfEnd 59 = .ok (.aload_n 0, 1) := by decide +kernel
theorem dX0_partOfEnd_60 : decode cX0_partOfEnd 60 = .ok (.getfield 67, 3) := by decide +kernel
theorem dX0_partOfEnd_63 : decode cX0_partOfEnd 63 = .ok (.aload_n 3, 1) := by decide +kernel
theorem dX0_partOfEnd_64 : decode cX0_partOfEnd 64 = .ok (.getfield 60, 3) := by decide +kernel
theorem dX0_partOfEnd_67 : decode cX0_partOfEnd 67 = .ok (.lmul, 1) := by decide +kernel
theorem dX0_partOfEnd_68 : decode cX0_partOfEnd 68 = .ok (.ldc2_w 70, 3) := by decide +kernel
theorem dX0_partOfEnd_71 : decode cX0_partOfEnd 71 = .ok (.aload_n 0, 1) := by decide +kernel
theorem dX0_partOfEnd_72 : decode cX0_partOfEnd 72 = .ok (.getfield 72, 3) := by decide +kernel
theorem dX0_partOfEnd_75 : decode cX0_partOfEnd 75 = .ok (.lmul, 1) := by decide +kernel
theorem dX0_partOfEnd_76 : decode cX0_partOfEnd 76 = .ok (.aload_n 3, 1) := by decide +kernel
theorem dX0_partOfEnd_77 : decode cX0_partOfEnd 77 = .ok (.getfield 56, 3) := by decide +kernel
theorem dX0_partOfEnd_80 : decode cX0_partOfEnd 80 = .ok (.lmul, 1) := by decide +kernel
theorem dX0_partOfEnd_81 : decode cX0_partOfEnd 81 = .ok (.lsub, 1) := by decide +kernel
theorem dX0_partOfEnd_82 : decode cX0_partOfEnd 82 = .ok (.ldc2_w 70, 3) := by decide +kernel
theorem dX0_partOfEnd_85 : decode cX0_partOfEnd 85 = .ok (.aload_n 0, 1) := by decide +kernel
theorem dX0_partOfEnd_86 : decode cX0_partOfEnd 86 = .ok (.getfield 75, 3) := by decide +kernel
theorem dX0_partOfEnd_89 : decode cX0_partOfEnd 89 = .ok (.lmul, 1) := by decide +kernel
theorem dX0_partOfEnd_90 : decode cX0_partOfEnd 90 = .ok (.aload_n 3, 1) := by decide +kernel
theorem dX0_partOfEnd_91 : decode cX0_partOfEnd 91 = .ok (.getfield 60, 3) := by decide +kernel
theorem dX0_partOfEnd_94 : decode cX0_partOfEnd 94 = .ok (.lmul, 1) := by decide +kernel
theorem dX0_partOfEnd_95 : decode cX0_partOfEnd 95 = .ok (.invokevirtual 63, 3) := by decide +kernel
theorem dX0_partOfEnd_98 : decode cX0_partOfEnd 98 = .ok (.aload_n 0, 1) := by decide +kernel
theorem dX0_partOfEnd_99 : decode cX0_partOfEnd 99 = .ok (.getfield 21, 3) := by decide +kernel
theorem dX0_partOfEnd_102 : decode cX0_partOfEnd 102 = .ok (.invokevirtual 78, 3) := by decide +kernel
theorem dX0_partOfEnd_105 : decode cX0_partOfEnd 105 = .ok (.iload_n 2, 1) := by decide +kernel
theorem dX0_partOfEnd_106 : decode cX0_partOfEnd 106 = .ok (.ifCond .eq 8, 3) := by decide +kernel
theorem dX0_partOfEnd_109 : decode cX0_partOfEnd 109 = .ok (.iload_n 2, 1) := by decide +kernel
theorem dX0_partOfEnd_110 : decode cX0_partOfEnd 110 = .ok (.iconst 2, 1) := by decide +kernel
theorem dX0_partOfEnd_111 : decode cX0_partOfEnd 111 = .ok (.if_icmp .ne 13, 3) := by decide +kernel
theorem dX0_partOfEnd_114 : decode cX0_partOfEnd 114 = .ok (.aload_n 0, 1) := by decide +kernel
theorem dX0_partOfEnd_115 : decode cX0_partOfEnd 115 = .ok (.getfield 21, 3) := by decide +kernel
theorem dX0_partOfEnd_118 : decode cX0_partOfEnd 118 = .ok (.getfield 56, 3) := by decide +kernel
theorem dX0_partOfEnd_121 : decode cX0_partOfEnd 121 = .ok (.goto 10, 3) := by decide +kernel
theorem dX0_partOfEnd_124 : decode cX0_partOfEnd 124 = .ok (.aload_n 0, 1) := by decide +kernel
theorem dX0_partOfEnd_125 : decode cX0_partOfEnd 125 = .ok (.getfield 21, 3) := by decide +kernel
theorem dX0_partOfEnd_128 : decode cX0_partOfEnd 128 = .ok (.getfield 60, 3) := by decide +kernel
theorem dX0_partOfEnd_131 : decode cX0_partOfEnd 131 = .ok (.lreturn, 1) := by decide +kernel
set_option maxRecDepth 20000 in
theorem ggX0_isSamePlace_X5_at : GoodIn wsX0_isSamePlace wsX5_at := goodIn_r _ [8, 9, 24] (by decide +kernel) (by decide +kernel)
set_option maxRecDepth 20000 in
theorem gX0_isSamePlace_X5_at : GoodIn wsX0_isSamePlace (wsV RX0 85 RX5 yX5_at wsX5_at) := goodIn_app (goodIn_of _ (by decide +kernel)) ggX0_isSamePlace_X5_at
theorem dX0_isSamePlace_0 : decode cX0_isSamePlace 0 = .ok (.aload_n 0, 1) := by decide +kernel
theorem dX0_isSamePlace_1 : decode cX0_isSamePlace 1 = .ok (.getfield 24, 3) := by decide +kernel
theorem dX0_isSamePlace_4 : decode cX0_isSamePlace 4 = .ok (.getfield 81, 3) := by decide +kernel
theorem dX0_isSamePlace_7 : decode cX0_isSamePlace 7 = .ok (.iload_n 1, 1) := by decide +kernel
theorem dX0_isSamePlace_8 : decode cX0_isSamePlace 8 = .ok (.invokevirtual 85, 3) := by decide +kernel
theorem dX0_isSamePlace_11 : decode cX0_isSamePlace 11 = .ok (.aload_n 0, 1) := by decide +kernel
theorem dX0_isSamePlace_12 : decode cX0_isSamePlace 12 = .ok (.getfield 24, 3) := by decide +kernel
theorem dX0_isSamePlace_15 : decode cX0_isSamePlace 15 = .ok (.getfield 81, 3) := by decide +kernel
theorem dX0_isSamePlace_18 : decode cX0_isSamePlace 18 = .ok (.iload_n 2, 1) := by decide +kernel
theorem dX0_isSamePlace_19 : decode cX0_isSamePlace 19 = .ok (.invokevirtual 85, 3) := by decide +kernel
theorem dX0_isSamePlace_22 : decode cX0_isSamePlace 22 = .ok (.if_icmp .ne 32, 3) := by decide +kernel
theorem dX0_isSamePlace_25 : decode cX0_isSamePlace 25 = .ok (.aload_n 0, 1) := by decide +kernel
theorem dX0_isSamePlace_26 : decode cX0_isSamePlace 26 = .ok (.getfield 24, 3) := by decide +kernel
theorem dX0_isSamePlace_29 : decode cX0_isSamePlace 29 = .ok (.getfield 91, 3) := by decide +kernel
theorem dX0_isSamePlace_32 : decode cX0_isSamePlace 32 = .ok (.iload_n 1, 1) := by decide +kernel
theorem dX0_isSamePlace_33 : decode cX0_isSamePlace 33 = .ok (.invokevirtual 85, 3) := by decide +kernel
theorem dX0_isSamePlace_36 : decode cX0_isSamePlace 36 = .ok (.aload_n 0, 1) := by decide +kernel
theorem dX0_isSamePlace_37 : decode cX0_isSamePlace 37 = .ok (.getfield 24, 3) := by decide +kernel
theorem dX0_isSamePlace_40 : decode cX0_isSamePlace 40 = .ok (.getfield 91, 3) := by decide +kernel
theorem dX0_isSamePlace_43 : decode cX0_isSamePlace 43 = .ok (.iload_n 2, 1) := by decide +kernel
theorem dX0_isSamePlace_44 : decode cX0_isSamePlace 44 = .ok (.invokevirtual 85, 3) := by decide +kernel
theorem dX0_isSamePlace_47 : decode cX0_isSamePlace 47 = .ok (.if_icmp .ne 7, 3) := by decide +kernel
theorem dX0_isSamePlace_50 : decode cX0_isSamePlace 50 = .ok (.iconst 1, 1) := by decide +kernel
theorem dX0_isSamePlace_51 : decode cX0_isSamePlace 51 = .ok (.goto 4, 3) := by decide +kernel
theorem dX0_isSamePlace_54 : decode cX0_isSamePlace 54 = .ok (.iconst 0, 1) := by decide +kernel
theorem dX0_isSamePlace_55 : decode cX0_isSamePlace 55 = .ok (.ireturn, 1) := by decide +kernel
set_option maxRecDepth 20000 in
theorem ggX0_layLine_X5_at : GoodIn wsX0_layLine wsX5_at := goodIn_r _ [12, 13, 41] (by decide +kernel) (by decide +kernel)
set_option maxRecDepth 20000 in
theorem gX0_layLine_X5_at : GoodIn wsX0_layLine (wsV RX0 85 RX5 yX5_at wsX5_at) := goodIn_app (goodIn_of _ (by decide +kernel)) ggX0_layLine_X5_at
set_option maxRecDepth 20000 in
theorem ggX0_layLine_X4_heightOf : GoodIn wsX0_layLine wsX4_heightOf := goodIn_r _ [18, 19, 20, 21, 17, 22, 23, 24, 25, 26, 9, 10, 11, 12, 13, 36, 37, 38, 39, 40, 41] (by decide +kernel) (by decide +kernel)
set_option maxRecDepth 20000 in
theorem gX0_layLine_X4_heightOf : GoodIn wsX0_layLine (wsV RX0 94 RX4 yX4_heightOf wsX4_heightOf) := goodIn_app (goodIn_of _ (by decide +kernel)) ggX0_layLine_X4_heightOf
theorem dX0_layLine_0 : decode cX0_layLine 0 = .ok (.aload_n 0, 1) := by decide +kernel
theorem dX0_layLine_1 : decode cX0_layLine 1 = .ok (.getfield 24, 3) := by decide +kernel
theorem dX0_layLine_4 : decode cX0_layLine 4 = .ok (.getfield 81, 3) := by decide +kernel
theorem dX0_layLine_7 : decode cX0_layLine 7 = .ok (.iload_n 2, 1) := by decide +kernel
theorem dX0_layLine_8 : decode cX0_layLine 8 = .ok (.invokevirtual 85, 3) := by decide +kernel
theorem dX0_layLine_11 : decode cX0_layLine 11 = .ok (.aload_n 0, 1) := by decide +kernel
theorem dX0_layLine_12 : decode cX0_layLine 12 = .ok (.getfield 24, 3) := by decide +kernel
theorem dX0_layLine_15 : decode cX0_layLine 15 = .ok (.getfield 81, 3) := by decide +kernel
theorem dX0_layLine_18 : decode cX0_layLine 18 = .ok (.iload_n 1, 1) := by decide +kernel
theorem dX0_layLine_19 : decode cX0_layLine 19 = .ok (.invokevirtual 85, 3) := by decide +kernel
theorem dX0_layLine_22 : decode cX0_layLine 22 = .ok (.isub, 1) := by decide +kernel
theorem dX0_layLine_23 : decode cX0_layLine 23 = .ok (.istore_n 3, 1) := by decide +kernel
theorem dX0_layLine_24 : decode cX0_layLine 24 = .ok (.aload_n 0, 1) := by decide +kernel
theorem dX0_layLine_25 : decode cX0_layLine 25 = .ok (.getfield 24, 3) := by decide +kernel
theorem dX0_layLine_28 : decode cX0_layLine 28 = .ok (.getfield 91, 3) := by decide +kernel
theorem dX0_layLine_31 : decode cX0_layLine 31 = .ok (.iload_n 2, 1) := by decide +kernel
theorem dX0_layLine_32 : decode cX0_layLine 32 = .ok (.invokevirtual 85, 3) := by decide +kernel
theorem dX0_layLine_35 : decode cX0_layLine 35 = .ok (.aload_n 0, 1) := by decide +kernel
theorem dX0_layLine_36 : decode cX0_layLine 36 = .ok (.getfield 24, 3) := by decide +kernel
theorem dX0_layLine_39 : decode cX0_layLine 39 = .ok (.getfield 91, 3) := by decide +kernel
theorem dX0_layLine_42 : decode cX0_layLine 42 = .ok (.iload_n 1, 1) := by decide +kernel
theorem dX0_layLine_43 : decode cX0_layLine 43 = .ok (.invokevirtual 85, 3) := by decide +kernel
theorem dX0_layLine_46 : decode cX0_layLine 46 = .ok (.isub, 1) := by decide +kernel
theorem dX0_layLine_47 : decode cX0_layLine 47 = .ok (.istore 4, 2) := by decide +kernel
theorem dX0_layLine_49 : decode cX0_layLine 49 = .ok (.aload_n 0, 1) := by decide +kernel
theorem dX0_layLine_50 : decode cX0_layLine 50 = .ok (.iload 4, 2) := by decide +kernel
theorem dX0_layLine_52 : decode cX0_layLine 52 = .ok (.ifCond .ne 7, 3) := by decide +kernel
theorem dX0_layLine_55 : decode cX0_layLine 55 = .ok (.iconst 1, 1) := by decide +kernel
theorem dX0_layLine_56 : decode cX0_layLine 56 = .ok (.goto 4, 3) := by decide +kernel
theorem dX0_layLine_59 : decode cX0_layLine 59 = .ok (.iconst 0, 1) := by decide +kernel
theorem dX0_layLine_60 : decode cX0_layLine 60 = .ok (.putfield 52, 3) := by decide +kernel
theorem dX0_layLine_63 : decode cX0_layLine 63 = .ok (.aload_n 0, 1) := by decide +kernel
theorem dX0_layLine_64 : decode cX0_layLine 64 = .ok (.getfield 52, 3) := by decide +kernel
theorem dX0_layLine_67 : decode cX0_layLine 67 = .ok (.ifCond .eq 7, 3) := by decide +kernel
theorem dX0_layLine_70 : decode cX0_layLine 70 = .ok (.iload_n 3, 1) := by decide +kernel
theorem dX0_layLine_71 : decode cX0_layLine 71 = .ok (.goto 5, 3) := by decide +kernel
theorem dX0_layLine_74 : decode cX0_layLine 74 = .ok (.iload 4, 2) := by decide +kernel
theorem dX0_layLine_76 : decode cX0_layLine 76 = .ok (.istore 5, 2) := by decide +kernel
theorem dX0_layLine_78 : decode cX0_layLine 78 = .ok (.iload 5, 2) := by decide +kernel
theorem dX0_layLine_80 : decode cX0_layLine 80 = .ok (.ifCond .ge 7, 3) := by decide +kernel
theorem dX0_layLine_83 : decode cX0_layLine 83 = .ok (.iconst (-1), 1) := by decide +kernel
theorem dX0_layLine_84 : decode cX0_layLine 84 = .ok (.goto 4, 3) := by decide +kernel
theorem dX0_layLine_87 : decode cX0_layLine 87 = .ok (.iconst 1, 1) := by decide +kernel
theorem dX0_layLine_88 : decode cX0_layLine 88 = .ok (.istore 6, 2) := by decide +kernel
theorem dX0_layLine_90 : decode cX0_layLine 90 = .ok (.aload_n 0, 1) := by decide +kernel
theorem dX0_layLine_91 : decode cX0_layLine 91 = .ok (.iload 6, 2) := by decide +kernel
theorem dX0_layLine_93 : decode cX0_layLine 93 = .ok (.aload_n 0, 1) := by decide +kernel
theorem dX0_layLine_94 : decode cX0_layLine 94 = .ok (.getfield 52, 3) := by decide +kernel
theorem dX0_layLine_97 : decode cX0_layLine 97 = .ok (.ifCond .eq 8, 3) := by decide +kernel
theorem dX0_layLine_100 : decode cX0_layLine 100 = .ok (.iload 4, 2) := by decide +kernel
theorem dX0_layLine_102 : decode cX0_layLine 102 = .ok (.goto 4, 3) := by decide +kernel
theorem dX0_layLine_105 : decode cX0_layLine 105 = .ok (.iload_n 3, 1) := by decide +kernel
theorem dX0_layLine_106 : decode cX0_layLine 106 = .ok (.imul, 1) := by decide +kernel
theorem dX0_layLine_107 : decode cX0_layLine 107 = .ok (.i2l, 1) := by decide +kernel
theorem dX0_layLine_108 : decode cX0_layLine 108 = .ok (.putfield 72, 3) := by decide +kernel
theorem dX0_layLine_111 : decode cX0_layLine 111 = .ok (.aload_n 0, 1) := by decide +kernel
theorem dX0_layLine_112 : decode cX0_layLine 112 = .ok (.iload 6, 2) := by decide +kernel
theorem dX0_layLine_114 : decode cX0_layLine 114 = .ok (.iload 5, 2) := by decide +kernel
theorem dX0_layLine_116 : decode cX0_layLine 116 = .ok (.imul, 1) := by decide +kernel
theorem dX0_layLine_117 : decode cX0_layLine 117 = .ok (.i2l, 1) := by decide +kernel
theorem dX0_layLine_118 : decode cX0_layLine 118 = .ok (.putfield 75, 3) := by decide +kernel
theorem dX0_layLine_121 : decode cX0_layLine 121 = .ok (.aload_n 0, 1) := by decide +kernel
theorem dX0_layLine_122 : decode cX0_layLine 122 = .ok (.iload 6, 2) := by decide +kernel
theorem dX0_layLine_124 : decode cX0_layLine 124 = .ok (.aload_n 0, 1) := by decide +kernel
theorem dX0_layLine_125 : decode cX0_layLine 125 = .ok (.getfield 24, 3) := by decide +kernel
theorem dX0_layLine_128 : decode cX0_layLine 128 = .ok (.iload_n 2, 1) := by decide +kernel
theorem dX0_layLine_129 : decode cX0_layLine 129 = .ok (.invokevirtual 94, 3) := by decide +kernel
theorem dX0_layLine_132 : decode cX0_layLine 132 = .ok (.aload_n 0, 1) := by decide +kernel
theorem dX0_layLine_133 : decode cX0_layLine 133 = .ok (.getfield 24, 3) := by decide +kernel
theorem dX0_layLine_136 : decode cX0_layLine 136 = .ok (.iload_n 1, 1) := by decide +kernel
theorem dX0_layLine_137 : decode cX0_layLine 137 = .ok (.invokevirtual 94, 3) := by decide +kernel
theorem dX0_layLine_140 : decode cX0_layLine 140 = .ok (.isub, 1) := by decide +kernel
theorem dX0_layLine_141 : decode cX0_layLine 141 = .ok (.imul, 1) := by decide +kernel
theorem dX0_layLine_142 : decode cX0_layLine 142 = .ok (.i2l, 1) := by decide +kernel
theorem dX0_layLine_143 : decode cX0_layLine 143 = .ok (.putfield 67, 3) := by decide +kernel
theorem dX0_layLine_146 : decode cX0_layLine 146 = .ok (.return_, 1) := by decide +kernel
set_option maxRecDepth 20000 in
theorem ggX0_cutByBox_X2_set : GoodIn wsX0_cutByBox wsX2_set := goodIn_r _ [11, 12, 13, 40, 41] (by decide +kernel) (by decide +kernel)
set_option maxRecDepth 20000 in
theorem gX0_cutByBox_X2_set : GoodIn wsX0_cutByBox (wsV RX0 63 RX2 yX2_set wsX2_set) := goodIn_app (goodIn_of _ (by decide +kernel)) ggX0_cutByBox_X2_set
set_option maxRecDepth 20000 in
theorem ggX0_cutByBox_X0_cut : GoodIn wsX0_cutByBox wsX0_cut := goodIn_r _ [18, 19, 20, 21, 22, 3, 2, 1, 23, 24, 25, 10, 26, 12, 13, 7, 8, 9, 11, 27, 28, 29, 30, 31, 32, 33, 34, 35, 36, 37, 38, 39, 40, 41] (by decide +kernel) (by decide +kernel)
set_option maxRecDepth 20000 in
theorem gX0_cutByBox_X0_cut : GoodIn wsX0_cutByBox (wsV RX0 104 RX0 yX0_cut wsX0_cut) := goodIn_app (goodIn_of _ (by decide +kernel)) ggX0_cutByBox_X0_cut
theorem dX0_cutByBox_0 : decode cX0_cutByBox 0 = .ok (.aload_n 0, 1) := by decide +kernel
theorem dX0_cutByBox_1 : decode cX0_cutByBox 1 = .ok (.iconst 0, 1) := by decide +kernel
theorem dX0_cutByBox_2 : decode cX0_cutByBox 2 = .ok (.putfield 97, 3) := by decide +kernel
theorem dX0_cutByBox_5 : decode cX0_cutByBox 5 = .ok (.aload_n 0, 1) := by decide +kernel
theorem dX0_cutByBox_6 : decode cX0_cutByBox 6 = .ok (.getfield 12, 3) := by decide +kernel
theorem dX0_cutByBox_9 : decode cX0_cutByBox 9 = .ok (.lconst 0, 1) := by decide +kernel
theorem dX0_cutByBox_10 : decode cX0_cutByBox 10 = .ok (.lconst 1, 1) := by decide +kernel
theorem dX0_cutByBox_11 : decode cX0_cutByBox 11 = .ok (.invokevirtual 63, 3) := by decide +kernel
theorem dX0_cutByBox_14 : decode cX0_cutByBox 14 = .ok (.aload_n 0, 1) := by decide +kernel
theorem dX0_cutByBox_15 : decode cX0_cutByBox 15 = .ok (.getfield 18, 3) := by decide +kernel
theorem dX0_cutByBox_18 : decode cX0_cutByBox 18 = .ok (.ldc2_w 100, 3) := by decide +kernel
theorem dX0_cutByBox_21 : decode cX0_cutByBox 21 = .ok (.lconst 1, 1) := by decide +kernel
theorem dX0_cutByBox_22 : decode cX0_cutByBox 22 = .ok (.invokevirtual 63, 3) := by decide +kernel
theorem dX0_cutByBox_25 : decode cX0_cutByBox 25 = .ok (.aload_n 0, 1) := by decide +kernel
theorem dX0_cutByBox_26 : decode cX0_cutByBox 26 = .ok (.lconst 0, 1) := by decide +kernel
theorem dX0_cutByBox_27 : decode cX0_cutByBox 27 = .ok (.ldc2_w 102, 3) := by decide +kernel
theorem dX0_cutByBox_30 : decode cX0_cutByBox 30 = .ok (.lconst 0, 1) := by decide +kernel
theorem dX0_cutByBox_31 : decode cX0_cutByBox 31 = .ok (.invokevirtual 104, 3) := by decide +kernel
theorem dX0_cutByBox_34 : decode cX0_cutByBox 34 = .ok (.aload_n 0, 1) := by decide +kernel
theorem dX0_cutByBox_35 : decode cX0_cutByBox 35 = .ok (.lconst 0, 1) := by decide +kernel
theorem dX0_cutByBox_36 : decode cX0_cutByBox 36 = .ok (.lconst 1, 1) := by decide +kernel
theorem dX0_cutByBox_37 : decode cX0_cutByBox 37 = .ok (.ldc2_w 108, 3) := by decide +kernel
theorem dX0_cutByBox_40 : decode cX0_cutByBox 40 = .ok (.invokevirtual 104, 3) := by decide +kernel
theorem dX0_cutByBox_43 : decode cX0_cutByBox 43 = .ok (.return_, 1) := by decide +kernel
set_option maxRecDepth 20000 in
theorem ggX0_cutBySite_X5_at : GoodIn wsX0_cutBySite wsX5_at := goodIn_r _ [9, 10, 65] (by decide +kernel) (by decide +kernel)
set_option maxRecDepth 20000 in
theorem gX0_cutBySite_X5_at : GoodIn wsX0_cutBySite (wsV RX0 85 RX5 yX5_at wsX5_at) := goodIn_app (goodIn_of _ (by decide +kernel)) ggX0_cutBySite_X5_at
set_option maxRecDepth 20000 in
theorem ggX0_cutBySite_X4_heightOf : GoodIn wsX0_cutBySite wsX4_heightOf := goodIn_r _ [15, 16, 17, 18, 14, 19, 20, 21, 22, 23, 6, 7, 8, 9, 10, 60, 61, 62, 63, 64, 65] (by decide +kernel) (by decide +kernel)
set_option maxRecDepth 20000 in
theorem gX0_cutBySite_X4_heightOf : GoodIn wsX0_cutBySite (wsV RX0 94 RX4 yX4_heightOf wsX4_heightOf) := goodIn_app (goodIn_of _ (by decide +kernel)) ggX0_cutBySite_X4_heightOf
set_option maxRecDepth 20000 in
theorem ggX0_cutBySite_X0_cut : GoodIn wsX0_cutBySite wsX0_cut := goodIn_r _ [28, 29, 30, 31, 32, 33, 34, 35, 36, 37, 38, 39, 40, 41, 42, 43, 44, 45, 46, 47, 48, 49, 50, 51, 52, 53, 54, 55, 56, 57, 58, 59, 66, 67] (by decide +kernel) (by decide +kernel)
set_option maxRecDepth 20000 in
theorem gX0_cutBySite_X0_cut : GoodIn wsX0_cutBySite (wsV RX0 104 RX0 yX0_cut wsX0_cut) := goodIn_app (goodIn_of _ (by decide +kernel)) ggX0_cutBySite_X0_cut
theorem dX0_cutBySite_0 : decode cX0_cutBySite 0 = .ok (.aload_n 0, 1) := by decide +kernel
theorem dX0_cutBySite_1 : decode cX0_cutBySite 1 = .ok (.getfield 24, 3) := by decide +kernel
theorem dX0_cutBySite_4 : decode cX0_cutBySite 4 = .ok (.getfield 81, 3) := by decide +kernel
theorem dX0_cutBySite_7 : decode cX0_cutBySite 7 = .ok (.iload_n 2, 1) := by decide +kernel
theorem dX0_cutBySite_8 : decode cX0_cutBySite 8 = .ok (.invokevirtual 85, 3) := by decide +kernel
theorem dX0_cutBySite_11 : decode cX0_cutBySite 11 = .ok (.aload_n 0, 1) := by decide +kernel
theorem dX0_cutBySite_12 : decode cX0_cutBySite 12 = .ok (.getfield 24, 3) := by decide +kernel
theorem dX0_cutBySite_15 : decode cX0_cutBySite 15 = .ok (.getfield 81, 3) := by decide +kernel
theorem dX0_cutBySite_18 : decode cX0_cutBySite 18 = .ok (.iload_n 1, 1) := by decide +kernel
theorem dX0_cutBySite_19 : decode cX0_cutBySite 19 = .ok (.invokevirtual 85, 3) := by decide +kernel
theorem dX0_cutBySite_22 : decode cX0_cutBySite 22 = .ok (.isub, 1) := by decide +kernel
theorem dX0_cutBySite_23 : decode cX0_cutBySite 23 = .ok (.istore_n 3, 1) := by decide +kernel
theorem dX0_cutBySite_24 : decode cX0_cutBySite 24 = .ok (.aload_n 0, 1) := by decide +kernel
theorem dX0_cutBySite_25 : decode cX0_cutBySite 25 = .ok (.getfield 24, 3) := by decide +kernel
theorem dX0_cutBySite_28 : decode cX0_cutBySite 28 = .ok (.getfield 91, 3) := by decide +kernel
theorem dX0_cutBySite_31 : decode cX0_cutBySite 31 = .ok (.iload_n 2, 1) := by decide +kernel
theorem dX0_cutBySite_32 : decode cX0_cutBySite 32 = .ok (.invokevirtual 85, 3) := by decide +kernel
theorem dX0_cutBySite_35 : decode cX0_cutBySite 35 = .ok (.aload_n 0, 1) := by decide +kernel
theorem dX0_cutBySite_36 : decode cX0_cutBySite 36 = .ok (.getfield 24, 3) := by decide +kernel
theorem dX0_cutBySite_39 : decode cX0_cutBySite 39 = .ok (.getfield 91, 3) := by decide +kernel
theorem dX0_cutBySite_42 : decode cX0_cutBySite 42 = .ok (.iload_n 1, 1) := by decide +kernel
theorem dX0_cutBySite_43 : decode cX0_cutBySite 43 = .ok (.invokevirtual 85, 3) := by decide +kernel
theorem dX0_cutBySite_46 : decode cX0_cutBySite 46 = .ok (.isub, 1) := by decide +kernel
theorem dX0_cutBySite_47 : decode cX0_cutBySite 47 = .ok (.istore 4, 2) := by decide +kernel
theorem dX0_cutBySite_49 : decode cX0_cutBySite 49 = .ok (.aload_n 0, 1) := by decide +kernel
theorem dX0_cutBySite_50 : decode cX0_cutBySite 50 = .ok (.getfield 24, 3) := by decide +kernel
theorem dX0_cutBySite_53 : decode cX0_cutBySite 53 = .ok (.iload_n 2, 1) := by decide +kernel
theorem dX0_cutBySite_54 : decode cX0_cutBySite 54 = .ok (.invokevirtual 94, 3) := by decide +kernel
theorem dX0_cutBySite_57 : decode cX0_cutBySite 57 = .ok (.aload_n 0, 1) := by decide +kernel
theorem dX0_cutBySite_58 : decode cX0_cutBySite 58 = .ok (.getfield 24, 3) := by decide +kernel
theorem dX0_cutBySite_61 : decode cX0_cutBySite 61 = .ok (.iload_n 1, 1) := by decide +kernel
theorem dX0_cutBySite_62 : decode cX0_cutBySite 62 = .ok (.invokevirtual 94, 3) := by decide +kernel
theorem dX0_cutBySite_65 : decode cX0_cutBySite 65 = .ok (.isub, 1) := by decide +kernel
theorem dX0_cutBySite_66 : decode cX0_cutBySite 66 = .ok (.istore 5, 2) := by decide +kernel
theorem dX0_cutBySite_68 : decode cX0_cutBySite 68 = .ok (.aload_n 0, 1) := by decide +kernel
theorem dX0_cutBySite_69 : decode cX0_cutBySite 69 = .ok (.aload_n 0, 1) := by decide +kernel
theorem dX0_cutBySite_70 : decode cX0_cutBySite 70 = .ok (.getfield 52, 3) := by decide +kernel
theorem dX0_cutBySite_73 : decode cX0_cutBySite 73 = .ok (.ifCond .eq 9, 3) := by decide +kernel
theorem dX0_cutBySite_76 : decode cX0_cutBySite 76 = .ok (.iload 4, 2) := by decide +kernel
theorem dX0_cutBySite_78 : decode cX0_cutBySite 78 = .ok (.i2l, 1) := by decide +kernel
theorem dX0_cutBySite_79 : decode cX0_cutBySite 79 = .ok (.goto 5, 3) := by decide +kernel
theorem dX0_cutBySite_82 : decode cX0_cutBySite 82 = .ok (.iload_n 3, 1) := by decide +kernel
theorem dX0_cutBySite_83 : decode cX0_cutBySite 83 = .ok (.i2l, 1) := by decide +kernel
theorem dX0_cutBySite_84 : decode cX0_cutBySite 84 = .ok (.aload_n 0, 1) := by decide +kernel
theorem dX0_cutBySite_85 : decode cX0_cutBySite 85 = .ok (.getfield 52, 3) := by decide +kernel
theorem dX0_cutBySite_88 : decode cX0_cutBySite 88 = .ok (.ifCond .eq 8, 3) := by decide +kernel
theorem dX0_cutBySite_91 : decode cX0_cutBySite 91 = .ok (.iload_n 3, 1) := by decide +kernel
theorem dX0_cutBySite_92 : decode cX0_cutBySite 92 = .ok (.i2l, 1) := by decide +kernel
theorem dX0_cutBySite_93 : decode cX0_cutBySite 93 = .ok (.goto 6, 3) := by decide +kernel
theorem dX0_cutBySite_96 : decode cX0_cutBySite 96 = .ok (.iload 4, 2) := by decide +kernel
theorem dX0_cutBySite_98 : decode cX0_cutBySite 98 = .ok (.i2l, 1) := by decide +kernel
theorem dX0_cutBySite_99 : decode cX0_cutBySite 99 = .ok (.iload 5, 2) := by decide +kernel
theorem dX0_cutBySite_101 : decode cX0_cutBySite 101 = .ok (.i2l, 1) := by decide +kernel
theorem dX0_cutBySite_102 : decode cX0_cutBySite 102 = .ok (.invokevirtual 104, 3) := by decide +kernel
theorem dX0_cutBySite_105 : decode cX0_cutBySite 105 = .ok (.return_, 1) := by decide +kernel
set_option maxRecDepth 20000 in
theorem ggX0_cut_X2_isMore : GoodIn wsX0_cut wsX2_isMore := goodIn_r _ [12, 13, 14, 32, 33] (by decide +kernel) (by decide +kernel)
set_option maxRecDepth 20000 in
theorem gX0_cut_X2_isMore : GoodIn wsX0_cut (wsV RX0 110 RX2 yX2_isMore wsX2_isMore) := goodIn_app (goodIn_of _ (by decide +kernel)) ggX0_cut_X2_isMore
set_option maxRecDepth 20000 in
theorem ggX0_cut_X2_set : GoodIn wsX0_cut wsX2_set := goodIn_r _ [18, 13, 14, 32, 33] (by decide +kernel) (by decide +kernel)
set_option maxRecDepth 20000 in
theorem gX0_cut_X2_set : GoodIn wsX0_cut (wsV RX0 63 RX2 yX2_set wsX2_set) := goodIn_app (goodIn_of _ (by decide +kernel)) ggX0_cut_X2_set
set_option maxRecDepth 20000 in
theorem ggX0_cut_X2_isLess : GoodIn wsX0_cut wsX2_isLess := goodIn_r _ [22, 13, 14, 32, 33] (by decide +kernel) (by decide +kernel)
set_option maxRecDepth 20000 in
theorem gX0_cut_X2_isLess : GoodIn wsX0_cut (wsV RX0 114 RX2 yX2_isLess wsX2_isLess) := goodIn_app (goodIn_of _ (by decide +kernel)) ggX0_cut_X2_isLess
theorem dX0_cut_0 : decode cX0_cut 0 = .ok (.ldc2_w 70, 3) := by decide +kernel
theorem dX0_cut_3 : decode cX0_cut 3 = .ok (.lload_n 1, 1) := by decide +kernel
theorem dX0_cut_4 : decode cX0_cut 4 = .ok (.aload_n 0, 1) := by decide +kernel
theorem dX0_cut_5 : decode cX0_cut 5 = .ok (.getfield 75, 3) := by decide +kernel
theorem dX0_cut_8 : decode cX0_cut 8 = .ok (.lmul, 1) := by decide +kernel
theorem dX0_cut_9 : decode cX0_cut 9 = .ok (.lload_n 3, 1) := by decide +kernel
theorem dX0_cut_10 : decode cX0_cut 10 = .ok (.aload_n 0, 1) := by decide +kernel
theorem dX0_cut_11 : decode cX0_cut 11 = .ok (.getfield 72, 3) := by decide +kernel
theorem dX0_cut_14 : decode cX0_cut 14 = .ok (.lmul, 1) := by decide +kernel
theorem dX0_cut_15 : decode cX0_cut 15 = .ok (.lsub, 1) := by decide +kernel
theorem dX0_cut_16 : decode cX0_cut 16 = .ok (.lmul, 1) := by decide +kernel
theorem dX0_cut_17 : decode cX0_cut 17 = .ok (.lstore 7, 2) := by decide +kernel
theorem dX0_cut_19 : decode cX0_cut 19 = .ok (.lload 5, 2) := by decide +kernel
theorem dX0_cut_21 : decode cX0_cut 21 = .ok (.aload_n 0, 1) := by decide +kernel
theorem dX0_cut_22 : decode cX0_cut 22 = .ok (.getfield 75, 3) := by decide +kernel
theorem dX0_cut_25 : decode cX0_cut 25 = .ok (.lmul, 1) := by decide +kernel
theorem dX0_cut_26 : decode cX0_cut 26 = .ok (.lload_n 3, 1) := by decide +kernel
theorem dX0_cut_27 : decode cX0_cut 27 = .ok (.aload_n 0, 1) := by decide +kernel
theorem dX0_cut_28 : decode cX0_cut 28 = .ok (.getfield 67, 3) := by decide +kernel
theorem dX0_cut_31 : decode cX0_cut 31 = .ok (.lmul, 1) := by decide +kernel
theorem dX0_cut_32 : decode cX0_cut 32 = .ok (.lsub, 1) := by decide +kernel
theorem dX0_cut_33 : decode cX0_cut 33 = .ok (.lstore 9, 2) := by decide +kernel
theorem dX0_cut_35 : decode cX0_cut 35 = .ok (.lload 7, 2) := by decide +kernel
theorem dX0_cut_37 : decode cX0_cut 37 = .ok (.lconst 0, 1) := by decide +kernel
theorem dX0_cut_38 : decode cX0_cut 38 = .ok (.lcmp, 1) := by decide +kernel
theorem dX0_cut_39 : decode cX0_cut 39 = .ok (.ifCond .le 31, 3) := by decide +kernel
theorem dX0_cut_42 : decode cX0_cut 42 = .ok (.aload_n 0, 1) := by decide +kernel
theorem dX0_cut_43 : decode cX0_cut 43 = .ok (.getfield 18, 3) := by decide +kernel
theorem dX0_cut_46 : decode cX0_cut 46 = .ok (.lload 9, 2) := by decide +kernel
theorem dX0_cut_48 : decode cX0_cut 48 = .ok (.lload 7, 2) := by decide +kernel
theorem dX0_cut_50 : decode cX0_cut 50 = .ok (.invokevirtual 110, 3) := by decide +kernel
theorem dX0_cut_53 : decode cX0_cut 53 = .ok (.ifCond .eq 68, 3) := by decide +kernel
theorem dX0_cut_56 : decode cX0_cut 56 = .ok (.aload_n 0, 1) := by decide +kernel
theorem dX0_cut_57 : decode cX0_cut 57 = .ok (.getfield 18, 3) := by decide +kernel
theorem dX0_cut_60 : decode cX0_cut 60 = .ok (.lload 9, 2) := by decide +kernel
theorem dX0_cut_62 : decode cX0_cut 62 = .ok (.lload 7, 2) := by decide +kernel
theorem dX0_cut_64 : decode cX0_cut 64 = .ok (.invokevirtual 63, 3) := by decide +kernel
theorem dX0_cut_67 : decode cX0_cut 67 = .ok (.goto 54, 3) := by decide +kernel
theorem dX0_cut_70 : decode cX0_cut 70 = .ok (.lload 7, 2) := by decide +kernel
theorem dX0_cut_72 : decode cX0_cut 72 = .ok (.lconst 0, 1) := by decide +kernel
theorem dX0_cut_73 : decode cX0_cut 73 = .ok (.lcmp, 1) := by decide +kernel
theorem dX0_cut_74 : decode cX0_cut 74 = .ok (.ifCond .ge 35, 3) := by decide +kernel
theorem dX0_cut_77 : decode cX0_cut 77 = .ok (.aload_n 0, 1) := by decide +kernel
theorem dX0_cut_78 : decode cX0_cut 78 = .ok (.getfield 12, 3) := by decide +kernel
theorem dX0_cut_81 : decode cX0_cut 81 = .ok (.lload 9, 2) := by decide +kernel
theorem dX0_cut_83 : decode cX0_cut 83 = .ok (.lneg, 1) := by decide +kernel
theorem dX0_cut_84 : decode cX0_cut 84 = .ok (.lload 7, 2) := by decide +kernel
theorem dX0_cut_86 : decode cX0_cut 86 = .ok (.lneg, 1) := by decide +kernel
theorem dX0_cut_87 : decode cX0_cut 87 = .ok (.invokevirtual 114, 3) := by decide +kernel
theorem dX0_cut_90 : decode cX0_cut 90 = .ok (.ifCond .eq 31, 3) := by decide +kernel
theorem dX0_cut_93 : decode cX0_cut 93 = .ok (.aload_n 0, 1) := by decide +kernel
theorem dX0_cut_94 : decode cX0_cut 94 = .ok (.getfield 12, 3) := by decide +kernel
theorem dX0_cut_97 : decode cX0_cut 97 = .ok (.lload 9, 2) := by decide +kernel
theorem dX0_cut_99 : decode cX0_cut 99 = .ok (.lneg, 1) := by decide +kernel
theorem dX0_cut_100 : decode cX0_cut 100 = .ok (.lload 7, 2) := by decide +kernel
theorem dX0_cut_102 : decode cX0_cut 102 = .ok (.lneg, 1) := by decide +kernel
theorem dX0_cut_103 : decode cX0_cut 103 = .ok (.invokevirtual 63, 3) := by decide +kernel
theorem dX0_cut_106 : decode cX0_cut 106 = .ok (.goto 15, 3) := by decide +kernel
theorem dX0_cut_109 : decode cX0_cut 109 = .ok (.lload 9, 2) := by decide +kernel
theorem dX0_cut_111 : decode cX0_cut 111 = .ok (.lconst 0, 1) := by decide +kernel
theorem dX0_cut_112 : decode cX0_cut 112 = .ok (.lcmp, 1) := by decide +kernel
theorem dX0_cut_113 : decode cX0_cut 113 = .ok (.ifCond .ge 8, 3) := by decide +kernel
theorem dX0_cut_116 : decode cX0_cut 116 = .ok (.aload_n 0, 1) := by decide +kernel
theorem dX0_cut_117 : decode cX0_cut 117 = .ok (.iconst 1, 1) := by decide +kernel
theorem dX0_cut_118 : decode cX0_cut 118 = .ok (.putfield 97, 3) := by decide +kernel
theorem dX0_cut_121 : decode cX0_cut 121 = .ok (.return_, 1) := by decide +kernel
set_option maxRecDepth 20000 in
theorem ggX0_isGone_X2_isLess : GoodIn wsX0_isGone wsX2_isLess := goodIn_r _ [10, 11, 12, 22, 23] (by decide +kernel) (by decide +kernel)
set_option maxRecDepth 20000 in
theorem gX0_isGone_X2_isLess : GoodIn wsX0_isGone (wsV RX0 114 RX2 yX2_isLess wsX2_isLess) := goodIn_app (goodIn_of _ (by decide +kernel)) ggX0_isGone_X2_isLess
theorem dX0_isGone_0 : decode cX0_isGone 0 = .ok (.aload_n 0, 1) := by decide +kernel
theorem dX0_isGone_1 : decode cX0_isGone 1 = .ok (.getfield 97, 3) := by decide +kernel
theorem dX0_isGone_4 : decode cX0_isGone 4 = .ok (.ifCond .ne 27, 3) := by decide +kernel
theorem dX0_isGone_7 : decode cX0_isGone 7 = .ok (.aload_n 0, 1) := by decide +kernel
theorem dX0_isGone_8 : decode cX0_isGone 8 = .ok (.getfield 12, 3) := by decide +kernel
theorem dX0_isGone_11 : decode cX0_isGone 11 = .ok (.aload_n 0, 1) := by decide +kernel
theorem dX0_isGone_12 : decode cX0_isGone 12 = .ok (.getfield 18, 3) := by decide +kernel
theorem dX0_isGone_15 : decode cX0_isGone 15 = .ok (.getfield 56, 3) := by decide +kernel
theorem dX0_isGone_18 : decode cX0_isGone 18 = .ok (.aload_n 0, 1) := by decide +kernel
theorem dX0_isGone_19 : decode cX0_isGone 19 = .ok (.getfield 18, 3) := by decide +kernel
theorem dX0_isGone_22 : decode cX0_isGone 22 = .ok (.getfield 60, 3) := by decide +kernel
theorem dX0_isGone_25 : decode cX0_isGone 25 = .ok (.invokevirtual 114, 3) := by decide +kernel
theorem dX0_isGone_28 : decode cX0_isGone 28 = .ok (.ifCond .ne 7, 3) := by decide +kernel
theorem dX0_isGone_31 : decode cX0_isGone 31 = .ok (.iconst 1, 1) := by decide +kernel
theorem dX0_isGone_32 : decode cX0_isGone 32 = .ok (.goto 4, 3) := by decide +kernel
theorem dX0_isGone_35 : decode cX0_isGone 35 = .ok (.iconst 0, 1) := by decide +kernel
theorem dX0_isGone_36 : decode cX0_isGone 36 = .ok (.ireturn, 1) := by decide +kernel
theorem dX1_init_0 : decode cX1_init 0 = .ok (.aload_n 0, 1) := by decide +kernel
theorem dX1_init_1 : decode cX1_init 1 = .ok (.invokespecial 3, 3) := by decide +kernel
theorem dX1_init_4 : decode cX1_init 4 = .ok (.aload_n 0, 1) := by decide +kernel
theorem dX1_init_5 : decode cX1_init 5 = .ok (.aload_n 1, 1) := by decide +kernel
theorem dX1_init_6 : decode cX1_init 6 = .ok (.putfield 9, 3) := by decide +kernel
theorem dX1_init_9 : decode cX1_init 9 = .ok (.return_, 1) := by decide +kernel
set_option maxRecDepth 20000 in
theorem ggX1_ownerAt_X4_powerAt : GoodIn wsX1_ownerAt wsX4_powerAt := goodIn_r _ [7, 8, 9, 10, 11, 12, 13, 14, 15, 16, 20, 21, 22, 23, 24, 25] (by decide +kernel) (by decide +kernel)
set_option maxRecDepth 20000 in
theorem gX1_ownerAt_X4_powerAt : GoodIn wsX1_ownerAt (wsV RX1 21 RX4 yX4_powerAt wsX4_powerAt) := goodIn_app (goodIn_of _ (by decide +kernel)) ggX1_ownerAt_X4_powerAt
theorem dX1_ownerAt_0 : decode cX1_ownerAt 0 = .ok (.iconst (-1), 1) := by decide +kernel
theorem dX1_ownerAt_1 : decode cX1_ownerAt 1 = .ok (.istore_n 3, 1) := by decide +kernel
theorem dX1_ownerAt_2 : decode cX1_ownerAt 2 = .ok (.iconst 0, 1) := by decide +kernel
theorem dX1_ownerAt_3 : decode cX1_ownerAt 3 = .ok (.istore 4, 2) := by decide +kernel
theorem dX1_ownerAt_5 : decode cX1_ownerAt 5 = .ok (.iconst 0, 1) := by decide +kernel
theorem dX1_ownerAt_6 : decode cX1_ownerAt 6 = .ok (.istore 5, 2) := by decide +kernel
theorem dX1_ownerAt_8 : decode cX1_ownerAt 8 = .ok (.iload 5, 2) := by decide +kernel
theorem dX1_ownerAt_10 : decode cX1_ownerAt 10 = .ok (.aload_n 0, 1) := by decide +kernel
theorem dX1_ownerAt_11 : decode cX1_ownerAt 11 = .ok (.getfield 9, 3) := by decide +kernel
theorem dX1_ownerAt_14 : decode cX1_ownerAt 14 = .ok (.getfield 15, 3) := by decide +kernel
theorem dX1_ownerAt_17 : decode cX1_ownerAt 17 = .ok (.if_icmp .ge 41, 3) := by decide +kernel
theorem dX1_ownerAt_20 : decode cX1_ownerAt 20 = .ok (.aload_n 0, 1) := by decide +kernel
theorem dX1_ownerAt_21 : decode cX1_ownerAt 21 = .ok (.getfield 9, 3) := by decide +kernel
theorem dX1_ownerAt_24 : decode cX1_ownerAt 24 = .ok (.iload 5, 2) := by decide +kernel
theorem dX1_ownerAt_26 : decode cX1_ownerAt 26 = .ok (.iload_n 1, 1) := by decide +kernel
theorem dX1_ownerAt_27 : decode cX1_ownerAt 27 = .ok (.iload_n 2, 1) := by decide +kernel
theorem dX1_ownerAt_28 : decode cX1_ownerAt 28 = .ok (.invokevirtual 21, 3) := by decide +kernel
theorem dX1_ownerAt_31 : decode cX1_ownerAt 31 = .ok (.istore 6, 2) := by decide +kernel
theorem dX1_ownerAt_33 : decode cX1_ownerAt 33 = .ok (.iload_n 3, 1) := by decide +kernel
theorem dX1_ownerAt_34 : decode cX1_ownerAt 34 = .ok (.iconst (-1), 1) := by decide +kernel
theorem dX1_ownerAt_35 : decode cX1_ownerAt 35 = .ok (.if_icmp .eq 10, 3) := by decide +kernel
theorem dX1_ownerAt_38 : decode cX1_ownerAt 38 = .ok (.iload 6, 2) := by decide +kernel
theorem dX1_ownerAt_40 : decode cX1_ownerAt 40 = .ok (.iload 4, 2) := by decide +kernel
theorem dX1_ownerAt_42 : decode cX1_ownerAt 42 = .ok (.if_icmp .ge 10, 3) := by decide +kernel
theorem dX1_ownerAt_45 : decode cX1_ownerAt 45 = .ok (.iload 5, 2) := by decide +kernel
theorem dX1_ownerAt_47 : decode cX1_ownerAt 47 = .ok (.istore_n 3, 1) := by decide +kernel
theorem dX1_ownerAt_48 : decode cX1_ownerAt 48 = .ok (.iload 6, 2) := by decide +kernel
theorem dX1_ownerAt_50 : decode cX1_ownerAt 50 = .ok (.istore 4, 2) := by decide +kernel
theorem dX1_ownerAt_52 : decode cX1_ownerAt 52 = .ok (.iinc 5 1, 3) := by decide +kernel
theorem dX1_ownerAt_55 : decode cX1_ownerAt 55 = .ok (.goto (-47), 3) := by decide +kernel
theorem dX1_ownerAt_58 : decode cX1_ownerAt 58 = .ok (.iload_n 3, 1) := by decide +kernel
theorem dX1_ownerAt_59 : decode cX1_ownerAt 59 = .ok (.ireturn, 1) := by decide +kernel
set_option maxRecDepth 20000 in
theorem ggX1_countByPoints_X1_ownerAt : GoodIn wsX1_countByPoints wsX1_ownerAt := goodIn_r _ [5, 6, 7, 8, 9, 10, 11, 12, 13, 14, 15, 16, 17, 18, 19, 20, 21, 22, 23, 24, 25, 26, 27, 28, 29, 30] (by decide +kernel) (by decide +kernel)
set_option maxRecDepth 20000 in
theorem gX1_countByPoints_X1_ownerAt : GoodIn wsX1_countByPoints (wsV RX1 25 RX1 yX1_ownerAt wsX1_ownerAt) := goodIn_app (goodIn_of _ (by decide +kernel)) ggX1_countByPoints_X1_ownerAt
theorem dX1_countByPoints_0 : decode cX1_countByPoints 0 = .ok (.iconst 0, 1) := by decide +kernel
theorem dX1_countByPoints_1 : decode cX1_countByPoints 1 = .ok (.istore_n 2, 1) := by decide +kernel
theorem dX1_countByPoints_2 : decode cX1_countByPoints 2 = .ok (.iconst 0, 1) := by decide +kernel
theorem dX1_countByPoints_3 : decode cX1_countByPoints 3 = .ok (.istore_n 3, 1) := by decide +kernel
theorem dX1_countByPoints_4 : decode cX1_countByPoints 4 = .ok (.iload_n 3, 1) := by decide +kernel
theorem dX1_countByPoints_5 : decode cX1_countByPoints 5 = .ok (.bipush 40, 2) := by decide +kernel
theorem dX1_countByPoints_7 : decode cX1_countByPoints 7 = .ok (.if_icmp .gt 39, 3) := by decide +kernel
theorem dX1_countByPoints_10 : decode cX1_countByPoints 10 = .ok (.iconst 0, 1) := by decide +kernel
theorem dX1_countByPoints_11 : decode cX1_countByPoints 11 = .ok (.istore 4, 2) := by decide +kernel
theorem dX1_countByPoints_13 : decode cX1_countByPoints 13 = .ok (.iload 4, 2) := by decide +kernel
theorem dX1_countByPoints_15 : decode cX1_countByPoints 15 = .ok (.bipush 40, 2) := by decide +kernel
theorem dX1_countByPoints_17 : decode cX1_countByPoints 17 = .ok (.if_icmp .gt 23, 3) := by decide +kernel
theorem dX1_countByPoints_20 : decode cX1_countByPoints 20 = .ok (.aload_n 0, 1) := by decide +kernel
theorem dX1_countByPoints_21 : decode cX1_countByPoints 21 = .ok (.iload 4, 2) := by decide +kernel
theorem dX1_countByPoints_23 : decode cX1_countByPoints 23 = .ok (.iload_n 3, 1) := by decide +kernel
theorem dX1_countByPoints_24 : decode cX1_countByPoints 24 = .ok (.invokevirtual 25, 3) := by decide +kernel
theorem dX1_countByPoints_27 : decode cX1_countByPoints 27 = .ok (.iload_n 1, 1) := by decide +kernel
theorem dX1_countByPoints_28 : decode cX1_countByPoints 28 = .ok (.if_icmp .ne 6, 3) := by decide +kernel
theorem dX1_countByPoints_31 : decode cX1_countByPoints 31 = .ok (.iinc 2 1, 3) := by decide +kernel
theorem dX1_countByPoints_34 : decode cX1_countByPoints 34 = .ok (.iinc 4 1, 3) := by decide +kernel
theorem dX1_countByPoints_37 : decode cX1_countByPoints 37 = .ok (.goto (-24), 3) := by decide +kernel
theorem dX1_countByPoints_40 : decode cX1_countByPoints 40 = .ok (.iinc 3 1, 3) := by decide +kernel
theorem dX1_countByPoints_43 : decode cX1_countByPoints 43 = .ok (.goto (-39), 3) := by decide +kernel
theorem dX1_countByPoints_46 : decode cX1_countByPoints 46 = .ok (.iload_n 2, 1) := by decide +kernel
theorem dX1_countByPoints_47 : decode cX1_countByPoints 47 = .ok (.ireturn, 1) := by decide +kernel
set_option maxRecDepth 20000 in
theorem ggX1_countByRows_X1_findSpan : GoodIn wsX1_countByRows wsX1_findSpan := goodIn_r _ [5, 6, 7, 8, 9, 10, 11, 12, 13, 14, 15, 16, 17, 18, 19, 20, 21, 22, 23, 24, 25, 26, 27, 28, 29, 30, 31, 32, 33, 34, 35, 36, 41, 42, 43, 44, 45, 46, 47, 48, 49] (by decide +kernel) (by decide +kernel)
set_option maxRecDepth 20000 in
theorem gX1_countByRows_X1_findSpan : GoodIn wsX1_countByRows (wsV RX1 29 RX1 yX1_findSpan wsX1_findSpan) := goodIn_app (goodIn_of _ (by decide +kernel)) ggX1_countByRows_X1_findSpan
set_option maxRecDepth 20000 in
theorem ggX1_countByRows_X1_width : GoodIn wsX1_countByRows wsX1_width := goodIn_r _ [40, 7, 6, 15, 16, 13, 17, 41, 42, 43] (by decide +kernel) (by decide +kernel)
set_option maxRecDepth 20000 in
theorem gX1_countByRows_X1_width : GoodIn wsX1_countByRows (wsV RX1 33 RX1 yX1_width wsX1_width) := goodIn_app (goodIn_of _ (by decide +kernel)) ggX1_countByRows_X1_width
theorem dX1_countByRows_0 : decode cX1_countByRows 0 = .ok (.iconst 0, 1) := by decide +kernel
theorem dX1_countByRows_1 : decode cX1_countByRows 1 = .ok (.istore_n 2, 1) := by decide +kernel
theorem dX1_countByRows_2 : decode cX1_countByRows 2 = .ok (.iconst 0, 1) := by decide +kernel
theorem dX1_countByRows_3 : decode cX1_countByRows 3 = .ok (.istore_n 3, 1) := by decide +kernel
theorem dX1_countByRows_4 : decode cX1_countByRows 4 = .ok (.iload_n 3, 1) := by decide +kernel
theorem dX1_countByRows_5 : decode cX1_countByRows 5 = .ok (.bipush 40, 2) := by decide +kernel
theorem dX1_countByRows_7 : decode cX1_countByRows 7 = .ok (.if_icmp .gt 22, 3) := by decide +kernel
theorem dX1_countByRows_10 : decode cX1_countByRows 10 = .ok (.aload_n 0, 1) := by decide +kernel
theorem dX1_countByRows_11 : decode cX1_countByRows 11 = .ok (.iload_n 1, 1) := by decide +kernel
theorem dX1_countByRows_12 : decode cX1_countByRows 12 = .ok (.iload_n 3, 1) := by decide +kernel
theorem dX1_countByRows_13 : decode cX1_countByRows 13 = .ok (.invokevirtual 29, 3) := by decide +kernel
theorem dX1_countByRows_16 : decode cX1_countByRows 16 = .ok (.iload_n 2, 1) := by decide +kernel
theorem dX1_countByRows_17 : decode cX1_countByRows 17 = .ok (.aload_n 0, 1) := by decide +kernel
theorem dX1_countByRows_18 : decode cX1_countByRows 18 = .ok (.invokevirtual 33, 3) := by decide +kernel
theorem dX1_countByRows_21 : decode cX1_countByRows 21 = .ok (.iadd, 1) := by decide +kernel
theorem dX1_countByRows_22 : decode cX1_countByRows 22 = .ok (.istore_n 2, 1) := by decide +kernel
theorem dX1_countByRows_23 : decode cX1_countByRows 23 = .ok (.iinc 3 1, 3) := by decide +kernel
theorem dX1_countByRows_26 : decode cX1_countByRows 26 = .ok (.goto (-22), 3) := by decide +kernel
theorem dX1_countByRows_29 : decode cX1_countByRows 29 = .ok (.iload_n 2, 1) := by decide +kernel
theorem dX1_countByRows_30 : decode cX1_countByRows 30 = .ok (.ireturn, 1) := by decide +kernel
set_option maxRecDepth 20000 in
theorem ggX1_findSpan_X4_powerAt : GoodIn wsX1_findSpan wsX4_powerAt := goodIn_r _ [17, 18, 19, 20, 21, 22, 23, 24, 25, 26, 35, 36, 37, 38, 39, 40] (by decide +kernel) (by decide +kernel)
set_option maxRecDepth 20000 in
theorem gX1_findSpan_X4_powerAt : GoodIn wsX1_findSpan (wsV RX1 21 RX4 yX4_powerAt wsX4_powerAt) := goodIn_app (goodIn_of _ (by decide +kernel)) ggX1_findSpan_X4_powerAt
set_option maxRecDepth 20000 in
theorem ggX1_findSpan_X5_at : GoodIn wsX1_findSpan wsX5_at := goodIn_r _ [25, 26, 40] (by decide +kernel) (by decide +kernel)
set_option maxRecDepth 20000 in
theorem gX1_findSpan_X5_at : GoodIn wsX1_findSpan (wsV RX1 47 RX5 yX5_at wsX5_at) := goodIn_app (goodIn_of _ (by decide +kernel)) ggX1_findSpan_X5_at
set_option maxRecDepth 20000 in
theorem ggX1_findSpan_J9_floorDiv_7cf53 : GoodIn wsX1_findSpan wsJ9_floorDiv_7cf53 := goodIn_r _ [31] (by decide +kernel) (by decide +kernel)
set_option maxRecDepth 20000 in
theorem gX1_findSpan_J9_floorDiv_7cf53 : GoodIn wsX1_findSpan (va_wsS RX1 53 yJ9_floorDiv_7cf53 wsJ9_floorDiv_7cf53) := goodIn_app (goodIn_of _ (by decide +kernel)) ggX1_findSpan_J9_floorDiv_7cf53
theorem dX1_findSpan_0 : decode cX1_findSpan 0 = .ok (.aload_n 0, 1) := by decide +kernel
theorem dX1_findSpan_1 : decode cX1_findSpan 1 = .ok (.iconst 0, 1) := by decide +kernel
theorem dX1_findSpan_2 : decode cX1_findSpan 2 = .ok (.putfield 37, 3) := by decide +kernel
theorem dX1_findSpan_5 : decode cX1_findSpan 5 = .ok (.aload_n 0, 1) := by decide +kernel
theorem dX1_findSpan_6 : decode cX1_findSpan 6 = .ok (.bipush 40, 2) := by decide +kernel
theorem dX1_findSpan_8 : decode cX1_findSpan 8 = .ok (.putfield 40, 3) := by decide +kernel
theorem dX1_findSpan_11 : decode cX1_findSpan 11 = .ok (.aload_n 0, 1) := by decide +kernel
theorem dX1_findSpan_12 : decode cX1_findSpan 12 = .ok (.getfield 9, 3) := by decide +kernel
theorem dX1_findSpan_15 : decode cX1_findSpan 15 = .ok (.iload_n 1, 1) := by decide +kernel
theorem dX1_findSpan_16 : decode cX1_findSpan 16 = .ok (.iconst 0, 1) := by decide +kernel
theorem dX1_findSpan_17 : decode cX1_findSpan 17 = .ok (.iload_n 2, 1) := by decide +kernel
theorem dX1_findSpan_18 : decode cX1_findSpan 18 = .ok (.invokevirtual 21, 3) := by decide +kernel
theorem dX1_findSpan_21 : decode cX1_findSpan 21 = .ok (.istore_n 3, 1) := by decide +kernel
theorem dX1_findSpan_22 : decode cX1_findSpan 22 = .ok (.iconst 0, 1) := by decide +kernel
theorem dX1_findSpan_23 : decode cX1_findSpan 23 = .ok (.istore 4, 2) := by decide +kernel
theorem dX1_findSpan_25 : decode cX1_findSpan 25 = .ok (.iload 4, 2) := by decide +kernel
theorem dX1_findSpan_27 : decode cX1_findSpan 27 = .ok (.aload_n 0, 1) := by decide +kernel
theorem dX1_findSpan_28 : decode cX1_findSpan 28 = .ok (.getfield 9, 3) := by decide +kernel
theorem dX1_findSpan_31 : decode cX1_findSpan 31 = .ok (.getfield 15, 3) := by decide +kernel
theorem dX1_findSpan_34 : decode cX1_findSpan 34 = .ok (.if_icmp .ge 128, 3) := by decide +kernel
theorem dX1_findSpan_37 : decode cX1_findSpan 37 = .ok (.aload_n 0, 1) := by decide +kernel
theorem dX1_findSpan_38 : decode cX1_findSpan 38 = .ok (.getfield 9, 3) := by decide +kernel
theorem dX1_findSpan_41 : decode cX1_findSpan 41 = .ok (.iload 4, 2) := by decide +kernel
theorem dX1_findSpan_43 : decode cX1_findSpan 43 = .ok (.iconst 0, 1) := by decide +kernel
theorem dX1_findSpan_44 : decode cX1_findSpan 44 = .ok (.iload_n 2, 1) := by decide +kernel
theorem dX1_findSpan_45 : decode cX1_findSpan 45 = .ok (.invokevirtual 21, 3) := by decide +kernel
theorem dX1_findSpan_48 : decode cX1_findSpan 48 = .ok (.iload_n 3, 1) := by decide +kernel
theorem dX1_findSpan_49 : decode cX1_findSpan 49 = .ok (.isub, 1) := by decide +kernel
theorem dX1_findSpan_50 : decode cX1_findSpan 50 = .ok (.iload 4, 2) := by decide +kernel
theorem dX1_findSpan_52 : decode cX1_findSpan 52 = .ok (.iload_n 1, 1) := by decide +kernel
theorem dX1_findSpan_53 : decode cX1_findSpan 53 = .ok (.if_icmp .ge 7, 3) := by decide +kernel
theorem dX1_findSpan_56 : decode cX1_findSpan 56 = .ok (.iconst 1, 1) := by decide +kernel
theorem dX1_findSpan_57 : decode cX1_findSpan 57 = .ok (.goto 4, 3) := by decide +kernel
theorem dX1_findSpan_60 : decode cX1_findSpan 60 = .ok (.iconst 0, 1) := by decide +kernel
theorem dX1_findSpan_61 : decode cX1_findSpan 61 = .ok (.isub, 1) := by decide +kernel
theorem dX1_findSpan_62 : decode cX1_findSpan 62 = .ok (.istore 5, 2) := by decide +kernel
theorem dX1_findSpan_64 : decode cX1_findSpan 64 = .ok (.iconst 2, 1) := by decide +kernel
theorem dX1_findSpan_65 : decode cX1_findSpan 65 = .ok (.aload_n 0, 1) := by decide +kernel
theorem dX1_findSpan_66 : decode cX1_findSpan 66 = .ok (.getfield 9, 3) := by decide +kernel
theorem dX1_findSpan_69 : decode cX1_findSpan 69 = .ok (.getfield 43, 3) := by decide +kernel
theorem dX1_findSpan_72 : decode cX1_findSpan 72 = .ok (.iload 4, 2) := by decide +kernel
theorem dX1_findSpan_74 : decode cX1_findSpan 74 = .ok (.invokevirtual 47, 3) := by decide +kernel
theorem dX1_findSpan_77 : decode cX1_findSpan 77 = .ok (.aload_n 0, 1) := by decide +kernel
theorem dX1_findSpan_78 : decode cX1_findSpan 78 = .ok (.getfield 9, 3) := by decide +kernel
theorem dX1_findSpan_81 : decode cX1_findSpan 81 = .ok (.getfield 43, 3) := by decide +kernel
theorem dX1_findSpan_84 : decode cX1_findSpan 84 = .ok (.iload_n 1, 1) := by decide +kernel
theorem dX1_findSpan_85 : decode cX1_findSpan 85 = .ok (.invokevirtual 47, 3) := by decide +kernel
theorem dX1_findSpan_88 : decode cX1_findSpan 88 = .ok (.isub, 1) := by decide +kernel
theorem dX1_findSpan_89 : decode cX1_findSpan 89 = .ok (.imul, 1) := by decide +kernel
theorem dX1_findSpan_90 : decode cX1_findSpan 90 = .ok (.istore 6, 2) := by decide +kernel
theorem dX1_findSpan_92 : decode cX1_findSpan 92 = .ok (.iload 6, 2) := by decide +kernel
theorem dX1_findSpan_94 : decode cX1_findSpan 94 = .ok (.ifCond .le 24, 3) := by decide +kernel
theorem dX1_findSpan_97 : decode cX1_findSpan 97 = .ok (.aload_n 0, 1) := by decide +kernel
theorem dX1_findSpan_98 : decode cX1_findSpan 98 = .ok (.aload_n 0, 1) := by decide +kernel
theorem dX1_findSpan_99 : decode cX1_findSpan 99 = .ok (.getfield 40, 3) := by decide +kernel
theorem dX1_findSpan_102 : decode cX1_findSpan 102 = .ok (.iload 5, 2) := by decide +kernel
theorem dX1_findSpan_104 : decode cX1_findSpan 104 = .ok (.iload 6, 2) := by decide +kernel
theorem dX1_findSpan_106 : decode cX1_findSpan 106 = .ok (.invokestatic 53, 3) := by decide +kernel
theorem dX1_findSpan_109 : decode cX1_findSpan 109 = .ok (.invokestatic 58, 3) := by decide +kernel
theorem dX1_findSpan_112 : decode cX1_findSpan 112 = .ok (.putfield 40, 3) := by decide +kernel
theorem dX1_findSpan_115 : decode cX1_findSpan 115 = .ok (.goto 41, 3) := by decide +kernel
theorem dX1_findSpan_118 : decode cX1_findSpan 118 = .ok (.iload 6, 2) := by decide +kernel
theorem dX1_findSpan_120 : decode cX1_findSpan 120 = .ok (.ifCond .ge 26, 3) := by decide +kernel
theorem dX1_findSpan_123 : decode cX1_findSpan 123 = .ok (.aload_n 0, 1) := by decide +kernel
theorem dX1_findSpan_124 : decode cX1_findSpan 124 = .ok (.aload_n 0, 1) := by decide +kernel
theorem dX1_findSpan_125 : decode cX1_findSpan 125 = .ok (.getfield 37, 3) := by decide +kernel
theorem dX1_findSpan_128 : decode cX1_findSpan 128 = .ok (.iload 5, 2) := by decide +kernel
theorem dX1_findSpan_130 : decode cX1_findSpan 130 = .ok (.iload 6, 2) := by decide +kernel
theorem dX1_findSpan_132 : decode cX1_findSpan 132 = .ok (.ineg, 1) := by decide +kernel
theorem dX1_findSpan_133 : decode cX1_findSpan 133 = .ok (.invokestatic 53, 3) := by decide +kernel
theorem dX1_findSpan_136 : decode cX1_findSpan 136 = .ok (.ineg, 1) := by decide +kernel
theorem dX1_findSpan_137 : decode cX1_findSpan 137 = .ok (.invokestatic 61, 3) := by decide +kernel
theorem dX1_findSpan_140 : decode cX1_findSpan 140 = .ok (.putfield 37, 3) := by decide +kernel
theorem dX1_findSpan_143 : decode cX1_findSpan 143 = .ok (.goto 13, 3) := by decide +kernel
theorem dX1_findSpan_146 : decode cX1_findSpan 146 = .ok (.iload 5, 2) := by decide +kernel
theorem dX1_findSpan_148 : decode cX1_findSpan 148 = .ok (.ifCond .ge 8, 3) := by decide +kernel
theorem dX1_findSpan_151 : decode cX1_findSpan 151 = .ok (.aload_n 0, 1) := by decide +kernel
theorem dX1_findSpan_152 : decode cX1_findSpan 152 = .ok (.iconst (-1), 1) := by decide +kernel
theorem dX1_findSpan_153 : decode cX1_findSpan 153 = .ok (.putfield 40, 3) := by decide +kernel
theorem dX1_findSpan_156 : decode cX1_findSpan 156 = .ok (.iinc 4 1, 3) := by decide +kernel
theorem dX1_findSpan_159 : decode cX1_findSpan 159 = .ok (.goto (-134), 3) := by decide +kernel
theorem dX1_findSpan_162 : decode cX1_findSpan 162 = .ok (.return_, 1) := by decide +kernel
theorem dX1_width_0 : decode cX1_width 0 = .ok (.iconst 0, 1) := by decide +kernel
theorem dX1_width_1 : decode cX1_width 1 = .ok (.aload_n 0, 1) := by decide +kernel
theorem dX1_width_2 : decode cX1_width 2 = .ok (.getfield 40, 3) := by decide +kernel
theorem dX1_width_5 : decode cX1_width 5 = .ok (.aload_n 0, 1) := by decide +kernel
theorem dX1_width_6 : decode cX1_width 6 = .ok (.getfield 37, 3) := by decide +kernel
theorem dX1_width_9 : decode cX1_width 9 = .ok (.isub, 1) := by decide +kernel
theorem dX1_width_10 : decode cX1_width 10 = .ok (.iconst 1, 1) := by decide +kernel
theorem dX1_width_11 : decode cX1_width 11 = .ok (.iadd, 1) := by decide +kernel
theorem dX1_width_12 : decode cX1_width 12 = .ok (.invokestatic 61, 3) := by decide +kernel
theorem dX1_width_15 : decode cX1_width 15 = .ok (.ireturn, 1) := by decide +kernel
theorem dX2_init_0 : decode cX2_init 0 = .ok (.aload_n 0, 1) := by decide +kernel
theorem dX2_init_1 : decode cX2_init 1 = .ok (.invokespecial 1, 3) := by decide +kernel
theorem dX2_init_4 : decode cX2_init 4 = .ok (.aload_n 0, 1) := by decide +kernel
theorem dX2_init_5 : decode cX2_init 5 = .ok (.lconst 1, 1) := by decide +kernel
theorem dX2_init_6 : decode cX2_init 6 = .ok (.putfield 7, 3) := by decide +kernel
theorem dX2_init_9 : decode cX2_init 9 = .ok (.return_, 1) := by decide +kernel
theorem dX2_set_0 : decode cX2_set 0 = .ok (.aload_n 0, 1) := by decide +kernel
theorem dX2_set_1 : decode cX2_set 1 = .ok (.lload_n 1, 1) := by decide +kernel
theorem dX2_set_2 : decode cX2_set 2 = .ok (.putfield 13, 3) := by decide +kernel
theorem dX2_set_5 : decode cX2_set 5 = .ok (.aload_n 0, 1) := by decide +kernel
theorem dX2_set_6 : decode cX2_set 6 = .ok (.lload_n 3, 1) := by decide +kernel
theorem dX2_set_7 : decode cX2_set 7 = .ok (.putfield 7, 3) := by decide +kernel
theorem dX2_set_10 : decode cX2_set 10 = .ok (.return_, 1) := by decide +kernel
theorem dX2_isLess_0 : decode cX2_isLess 0 = .ok (.aload_n 0, 1) := by decide +kernel
theorem dX2_isLess_1 : decode cX2_isLess 1 = .ok (.getfield 13, 3) := by decide +kernel
theorem dX2_isLess_4 : decode cX2_isLess 4 = .ok (.lload_n 3, 1) := by decide +kernel
theorem dX2_isLess_5 : decode cX2_isLess 5 = .ok (.lmul, 1) := by decide +kernel
theorem dX2_isLess_6 : decode cX2_isLess 6 = .ok (.lload_n 1, 1) := by decide +kernel
theorem dX2_isLess_7 : decode cX2_isLess 7 = .ok (.aload_n 0, 1) := by decide +kernel
theorem dX2_isLess_8 : decode cX2_isLess 8 = .ok (.getfield 7, 3) := by decide +kernel
theorem dX2_isLess_11 : decode cX2_isLess 11 = .ok (.lmul, 1) := by decide +kernel
theorem dX2_isLess_12 : decode cX2_isLess 12 = .ok (.lcmp, 1) := by decide +kernel
theorem dX2_isLess_13 : decode cX2_isLess 13 = .ok (.ifCond .ge 7, 3) := by decide +kernel
theorem dX2_isLess_16 : decode cX2_isLess 16 = .ok (.iconst 1, 1) := by decide +kernel
theorem dX2_isLess_17 : decode cX2_isLess 17 = .ok (.goto 4, 3) := by decide +kernel
theorem dX2_isLess_20 : decode cX2_isLess 20 = .ok (.iconst 0, 1) := by decide +kernel
theorem dX2_isLess_21 : decode cX2_isLess 21 = .ok (.ireturn, 1) := by decide +kernel
theorem dX2_isMore_0 : decode cX2_isMore 0 = .ok (.aload_n 0, 1) := by decide +kernel
theorem dX2_isMore_1 : decode cX2_isMore 1 = .ok (.getfield 13, 3) := by decide +kernel
theorem dX2_isMore_4 : decode cX2_isMore 4 = .ok (.lload_n 3, 1) := by decide +kernel
theorem dX2_isMore_5 : decode cX2_isMore 5 = .ok (.lmul, 1) := by decide +kernel
theorem dX2_isMore_6 : decode cX2_isMore 6 = .ok (.lload_n 1, 1) := by decide +kernel
theorem dX2_isMore_7 : decode cX2_isMore 7 = .ok (.aload_n 0, 1) := by decide +kernel
theorem dX2_isMore_8 : decode cX2_isMore 8 = .ok (.getfield 7, 3) := by decide +kernel
theorem dX2_isMore_11 : decode cX2_isMore 11 = .ok (.lmul, 1) := by decide +kernel
theorem dX2_isMore_12 : decode cX2_isMore 12 = .ok (.lcmp, 1) := by decide +kernel
theorem dX2_isMore_13 : decode cX2_isMore 13 = .ok (.ifCond .le 7, 3) := by decide +kernel
theorem dX2_isMore_16 : decode cX2_isMore 16 = .ok (.iconst 1, 1) := by decide +kernel
theorem dX2_isMore_17 : decode cX2_isMore 17 = .ok (.goto 4, 3) := by decide +kernel
theorem dX2_isMore_20 : decode cX2_isMore 20 = .ok (.iconst 0, 1) := by decide +kernel
theorem dX2_isMore_21 : decode cX2_isMore 21 = .ok (.ireturn, 1) := by decide +kernel
theorem dX2_shorten_0 : decode cX2_shorten 0 = .ok (.aload_n 0, 1) := by decide +kernel
theorem dX2_shorten_1 : decode cX2_shorten 1 = .ok (.getfield 13, 3) := by decide +kernel
theorem dX2_shorten_4 : decode cX2_shorten 4 = .ok (.invokestatic 16, 3) := by decide +kernel
theorem dX2_shorten_7 : decode cX2_shorten 7 = .ok (.lstore_n 1, 1) := by decide +kernel
theorem dX2_shorten_8 : decode cX2_shorten 8 = .ok (.aload_n 0, 1) := by decide +kernel
theorem dX2_shorten_9 : decode cX2_shorten 9 = .ok (.getfield 7, 3) := by decide +kernel
theorem dX2_shorten_12 : decode cX2_shorten 12 = .ok (.lstore_n 3, 1) := by decide +kernel
theorem dX2_shorten_13 : decode cX2_shorten 13 = .ok (.iconst 0, 1) := by decide +kernel
theorem dX2_shorten_14 : decode cX2_shorten 14 = .ok (.istore 5, 2) := by decide +kernel
theorem dX2_shorten_16 : decode cX2_shorten 16 = .ok (.iload 5, 2) := by decide +kernel
theorem dX2_shorten_18 : decode cX2_shorten 18 = .ok (.bipush 100, 2) := by decide +kernel
theorem dX2_shorten_20 : decode cX2_shorten 20 = .ok (.if_icmp .ge 25, 3) := by decide +kernel
theorem dX2_shorten_23 : decode cX2_shorten 23 = .ok (.lload_n 3, 1) := by decide +kernel
theorem dX2_shorten_24 : decode cX2_shorten 24 = .ok (.lconst 0, 1) := by decide +kernel
theorem dX2_shorten_25 : decode cX2_shorten 25 = .ok (.lcmp, 1) := by decide +kernel
theorem dX2_shorten_26 : decode cX2_shorten 26 = .ok (.ifCond .eq 19, 3) := by decide +kernel
theorem dX2_shorten_29 : decode cX2_shorten 29 = .ok (.lload_n 1, 1) := by decide +kernel
theorem dX2_shorten_30 : decode cX2_shorten 30 = .ok (.lload_n 3, 1) := by decide +kernel
theorem dX2_shorten_31 : decode cX2_shorten 31 = .ok (.lrem, 1) := by decide +kernel
theorem dX2_shorten_32 : decode cX2_shorten 32 = .ok (.lstore 6, 2) := by decide +kernel
theorem dX2_shorten_34 : decode cX2_shorten 34 = .ok (.lload_n 3, 1) := by decide +kernel
theorem dX2_shorten_35 : decode cX2_shorten 35 = .ok (.lstore_n 1, 1) := by decide +kernel
theorem dX2_shorten_36 : decode cX2_shorten 36 = .ok (.lload 6, 2) := by decide +kernel
theorem dX2_shorten_38 : decode cX2_shorten 38 = .ok (.lstore_n 3, 1) := by decide +kernel
theorem dX2_shorten_39 : decode cX2_shorten 39 = .ok (.iinc 5 1, 3) := by decide +kernel
theorem dX2_shorten_42 : decode cX2_shorten 42 = .ok (.goto (-26), 3) := by decide +kernel
theorem dX2_shorten_45 : decode cX2_shorten 45 = .ok (.lload_n 1, 1) := by decide +kernel
theorem dX2_shorten_46 : decode cX2_shorten 46 = .ok (.lconst 0, 1) := by decide +kernel
theorem dX2_shorten_47 : decode cX2_shorten 47 = .ok (.lcmp, 1) := by decide +kernel
theorem dX2_shorten_48 : decode cX2_shorten 48 = .ok (.ifCond .le 23, 3) := by decide +kernel
theorem dX2_shorten_51 : decode cX2_shorten 51 = .ok (.aload_n 0, 1) := by decide +kernel
theorem dX2_shorten_52 : decode cX2_shorten 52 = .ok (.aload_n 0, 1) := by decide +kernel
theorem dX2_shorten_53 : decode cX2_shorten 53 = .ok (.getfield 13, 3) := by decide +kernel
theorem dX2_shorten_56 : decode cX2_shorten 56 = .ok (.lload_n 1, 1) := by decide +kernel
theorem dX2_shorten_57 : decode cX2_shorten 57 = .ok (.ldiv, 1) := by decide +kernel
theorem dX2_shorten_58 : decode cX2_shorten 58 = .ok (.putfield 13, 3) := by decide +kernel
theorem dX2_shorten_61 : decode cX2_shorten 61 = .ok (.aload_n 0, 1) := by decide +kernel
theorem dX2_shorten_62 : decode cX2_shorten 62 = .ok (.aload_n 0, 1) := by decide +kernel
theorem dX2_shorten_63 : decode cX2_shorten 63 = .ok (.getfield 7, 3) := by decide +kernel
theorem dX2_shorten_66 : decode cX2_shorten 66 = .ok (.lload_n 1, 1) := by decide +kernel
theorem dX2_shorten_67 : decode cX2_shorten 67 = .ok (.ldiv, 1) := by decide +kernel
theorem dX2_shorten_68 : decode cX2_shorten 68 = .ok (.putfield 7, 3) := by decide +kernel
theorem dX2_shorten_71 : decode cX2_shorten 71 = .ok (.return_, 1) := by decide +kernel
set_option maxRecDepth 20000 in
theorem ggX3_init_X5_init : GoodIn wsX3_init wsX5_init := goodIn_r _ [12, 13, 2, 3, 14, 15, 16] (by decide +kernel) (by decide +kernel)
set_option maxRecDepth 20000 in
theorem gX3_init_X5_init_n9 : GoodIn wsX3_init (wsX5_init) := ggX3_init_X5_init
theorem dX3_init_0 : decode cX3_init 0 = .ok (.aload_n 0, 1) := by decide +kernel
theorem dX3_init_1 : decode cX3_init 1 = .ok (.invokespecial 1, 3) := by decide +kernel
theorem dX3_init_4 : decode cX3_init 4 = .ok (.aload_n 0, 1) := by decide +kernel
theorem dX3_init_5 : decode cX3_init 5 = .ok (.new 7, 3) := by decide +kernel
theorem dX3_init_8 : decode cX3_init 8 = .ok (.dup, 1) := by decide +kernel
theorem dX3_init_9 : decode cX3_init 9 = .ok (.invokespecial 9, 3) := by decide +kernel
theorem dX3_init_12 : decode cX3_init 12 = .ok (.putfield 10, 3) := by decide +kernel
theorem dX3_init_15 : decode cX3_init 15 = .ok (.aload_n 0, 1) := by decide +kernel
theorem dX3_init_16 : decode cX3_init 16 = .ok (.new 7, 3) := by decide +kernel
theorem dX3_init_19 : decode cX3_init 19 = .ok (.dup, 1) := by decide +kernel
theorem dX3_init_20 : decode cX3_init 20 = .ok (.invokespecial 9, 3) := by decide +kernel
theorem dX3_init_23 : decode cX3_init 23 = .ok (.putfield 16, 3) := by decide +kernel
theorem dX3_init_26 : decode cX3_init 26 = .ok (.aload_n 0, 1) := by decide +kernel
theorem dX3_init_27 : decode cX3_init 27 = .ok (.new 7, 3) := by decide +kernel
theorem dX3_init_30 : decode cX3_init 30 = .ok (.dup, 1) := by decide +kernel
theorem dX3_init_31 : decode cX3_init 31 = .ok (.invokespecial 9, 3) := by decide +kernel
theorem dX3_init_34 : decode cX3_init 34 = .ok (.putfield 19, 3) := by decide +kernel
theorem dX3_init_37 : decode cX3_init 37 = .ok (.aload_n 0, 1) := by decide +kernel
theorem dX3_init_38 : decode cX3_init 38 = .ok (.aload_n 1, 1) := by decide +kernel
theorem dX3_init_39 : decode cX3_init 39 = .ok (.putfield 22, 3) := by decide +kernel
theorem dX3_init_42 : decode cX3_init 42 = .ok (.return_, 1) := by decide +kernel
set_option maxRecDepth 20000 in
theorem ggX3_isAbove_X3_lookFrom : GoodIn wsX3_isAbove wsX3_lookFrom := goodIn_r _ [7, 1, 2, 8, 9, 10, 11, 12, 13, 14, 15, 16, 17, 18, 19, 20, 21, 22, 23, 24, 25, 26, 27, 28, 29, 30, 31, 32, 33, 34, 35, 64, 65, 66, 67, 68, 69, 70, 71, 72, 73] (by decide +kernel) (by decide +kernel)
set_option maxRecDepth 20000 in
theorem gX3_isAbove_X3_lookFrom : GoodIn wsX3_isAbove (wsV RX3 26 RX3 yX3_lookFrom wsX3_lookFrom) := goodIn_app (goodIn_of _ (by decide +kernel)) ggX3_isAbove_X3_lookFrom
set_option maxRecDepth 20000 in
theorem ggX3_isAbove_X3_isOnPoint : GoodIn wsX3_isAbove wsX3_isOnPoint := goodIn_r _ [39, 8, 10, 12, 13, 14, 15, 16, 17, 18, 64, 65, 66, 67, 73] (by decide +kernel) (by decide +kernel)
set_option maxRecDepth 20000 in
theorem gX3_isAbove_X3_isOnPoint : GoodIn wsX3_isAbove (wsV RX3 36 RX3 yX3_isOnPoint wsX3_isOnPoint) := goodIn_app (goodIn_of _ (by decide +kernel)) ggX3_isAbove_X3_isOnPoint
set_option maxRecDepth 20000 in
theorem ggX3_isAbove_X3_isAboveAny : GoodIn wsX3_isAbove wsX3_isAboveAny := goodIn_r _ [43, 1, 2, 44, 45, 46, 6, 47, 12, 48, 49, 50, 51, 8, 10, 13, 14, 15, 16, 17, 18, 52, 53, 54, 55, 56, 57, 58, 59, 60, 61, 62, 63, 64, 65, 66, 67, 68, 69, 70, 71, 72, 73] (by decide +kernel) (by decide +kernel)
set_option maxRecDepth 20000 in
theorem gX3_isAbove_X3_isAboveAny : GoodIn wsX3_isAbove (wsV RX3 40 RX3 yX3_isAboveAny wsX3_isAboveAny) := goodIn_app (goodIn_of _ (by decide +kernel)) ggX3_isAbove_X3_isAboveAny
theorem dX3_isAbove_0 : decode cX3_isAbove 0 = .ok (.aload_n 0, 1) := by decide +kernel
theorem dX3_isAbove_1 : decode cX3_isAbove 1 = .ok (.iload_n 1, 1) := by decide +kernel
theorem dX3_isAbove_2 : decode cX3_isAbove 2 = .ok (.invokevirtual 26, 3) := by decide +kernel
theorem dX3_isAbove_5 : decode cX3_isAbove 5 = .ok (.iconst 0, 1) := by decide +kernel
theorem dX3_isAbove_6 : decode cX3_isAbove 6 = .ok (.istore_n 2, 1) := by decide +kernel
theorem dX3_isAbove_7 : decode cX3_isAbove 7 = .ok (.iload_n 2, 1) := by decide +kernel
theorem dX3_isAbove_8 : decode cX3_isAbove 8 = .ok (.aload_n 0, 1) := by decide +kernel
theorem dX3_isAbove_9 : decode cX3_isAbove 9 = .ok (.getfield 22, 3) := by decide +kernel
theorem dX3_isAbove_12 : decode cX3_isAbove 12 = .ok (.getfield 30, 3) := by decide +kernel
theorem dX3_isAbove_15 : decode cX3_isAbove 15 = .ok (.if_icmp .ge 33, 3) := by decide +kernel
theorem dX3_isAbove_18 : decode cX3_isAbove 18 = .ok (.iload_n 2, 1) := by decide +kernel
theorem dX3_isAbove_19 : decode cX3_isAbove 19 = .ok (.iload_n 1, 1) := by decide +kernel
theorem dX3_isAbove_20 : decode cX3_isAbove 20 = .ok (.if_icmp .eq 22, 3) := by decide +kernel
theorem dX3_isAbove_23 : decode cX3_isAbove 23 = .ok (.aload_n 0, 1) := by decide +kernel
theorem dX3_isAbove_24 : decode cX3_isAbove 24 = .ok (.iload_n 2, 1) := by decide +kernel
theorem dX3_isAbove_25 : decode cX3_isAbove 25 = .ok (.invokevirtual 36, 3) := by decide +kernel
theorem dX3_isAbove_28 : decode cX3_isAbove 28 = .ok (.ifCond .ne 12, 3) := by decide +kernel
theorem dX3_isAbove_31 : decode cX3_isAbove 31 = .ok (.aload_n 0, 1) := by decide +kernel
theorem dX3_isAbove_32 : decode cX3_isAbove 32 = .ok (.iload_n 1, 1) := by decide +kernel
theorem dX3_isAbove_33 : decode cX3_isAbove 33 = .ok (.iload_n 2, 1) := by decide +kernel
theorem dX3_isAbove_34 : decode cX3_isAbove 34 = .ok (.invokevirtual 40, 3) := by decide +kernel
theorem dX3_isAbove_37 : decode cX3_isAbove 37 = .ok (.ifCond .eq 5, 3) := by decide +kernel
theorem dX3_isAbove_40 : decode cX3_isAbove 40 = .ok (.iconst 1, 1) := by decide +kernel
theorem dX3_isAbove_41 : decode cX3_isAbove 41 = .ok (.ireturn, 1) := by decide +kernel
theorem dX3_isAbove_42 : decode cX3_isAbove 42 = .ok (.iinc 2 1, 3) := by decide +kernel
theorem dX3_isAbove_45 : decode cX3_isAbove 45 = .ok (.goto (-38), 3) := by decide +kernel
theorem dX3_isAbove_48 : decode cX3_isAbove 48 = .ok (.iconst 0, 1) := by decide +kernel
theorem dX3_isAbove_49 : decode cX3_isAbove 49 = .ok (.ireturn, 1) := by decide +kernel
set_option maxRecDepth 20000 in
theorem ggX3_lookFrom_X5_at : GoodIn wsX3_lookFrom wsX5_at := goodIn_r _ [12, 13, 40] (by decide +kernel) (by decide +kernel)
set_option maxRecDepth 20000 in
theorem gX3_lookFrom_X5_at : GoodIn wsX3_lookFrom (wsV RX3 47 RX5 yX5_at wsX5_at) := goodIn_app (goodIn_of _ (by decide +kernel)) ggX3_lookFrom_X5_at
set_option maxRecDepth 20000 in
theorem ggX3_lookFrom_X5_put : GoodIn wsX3_lookFrom wsX5_put := goodIn_r _ [17, 13, 40] (by decide +kernel) (by decide +kernel)
set_option maxRecDepth 20000 in
theorem gX3_lookFrom_X5_put : GoodIn wsX3_lookFrom (wsV RX3 51 RX5 yX5_put wsX5_put) := goodIn_app (goodIn_of _ (by decide +kernel)) ggX3_lookFrom_X5_put
set_option maxRecDepth 20000 in
theorem ggX3_lookFrom_X4_heightOf : GoodIn wsX3_lookFrom wsX4_heightOf := goodIn_r _ [22, 23, 24, 25, 21, 26, 27, 28, 29, 30, 9, 10, 11, 12, 13, 35, 36, 37, 38, 39, 40] (by decide +kernel) (by decide +kernel)
set_option maxRecDepth 20000 in
theorem gX3_lookFrom_X4_heightOf : GoodIn wsX3_lookFrom (wsV RX3 58 RX4 yX4_heightOf wsX4_heightOf) := goodIn_app (goodIn_of _ (by decide +kernel)) ggX3_lookFrom_X4_heightOf
theorem dX3_lookFrom_0 : decode cX3_lookFrom 0 = .ok (.iconst 0, 1) := by decide +kernel
theorem dX3_lookFrom_1 : decode cX3_lookFrom 1 = .ok (.istore_n 2, 1) := by decide +kernel
theorem dX3_lookFrom_2 : decode cX3_lookFrom 2 = .ok (.iload_n 2, 1) := by decide +kernel
theorem dX3_lookFrom_3 : decode cX3_lookFrom 3 = .ok (.aload_n 0, 1) := by decide +kernel
theorem dX3_lookFrom_4 : decode cX3_lookFrom 4 = .ok (.getfield 22, 3) := by decide +kernel
theorem dX3_lookFrom_7 : decode cX3_lookFrom 7 = .ok (.getfield 30, 3) := by decide +kernel
theorem dX3_lookFrom_10 : decode cX3_lookFrom 10 = .ok (.if_icmp .ge 96, 3) := by decide +kernel
theorem dX3_lookFrom_13 : decode cX3_lookFrom 13 = .ok (.aload_n 0, 1) := by decide +kernel
theorem dX3_lookFrom_14 : decode cX3_lookFrom 14 = .ok (.getfield 10, 3) := by decide +kernel
theorem dX3_lookFrom_17 : decode cX3_lookFrom 17 = .ok (.iload_n 2, 1) := by decide +kernel
theorem dX3_lookFrom_18 : decode cX3_lookFrom 18 = .ok (.aload_n 0, 1) := by decide +kernel
theorem dX3_lookFrom_19 : decode cX3_lookFrom 19 = .ok (.getfield 22, 3) := by decide +kernel
theorem dX3_lookFrom_22 : decode cX3_lookFrom 22 = .ok (.getfield 44, 3) := by decide +kernel
theorem dX3_lookFrom_25 : decode cX3_lookFrom 25 = .ok (.iload_n 2, 1) := by decide +kernel
theorem dX3_lookFrom_26 : decode cX3_lookFrom 26 = .ok (.invokevirtual 47, 3) := by decide +kernel
theorem dX3_lookFrom_29 : decode cX3_lookFrom 29 = .ok (.aload_n 0, 1) := by decide +kernel
theorem dX3_lookFrom_30 : decode cX3_lookFrom 30 = .ok (.getfield 22, 3) := by decide +kernel
theorem dX3_lookFrom_33 : decode cX3_lookFrom 33 = .ok (.getfield 44, 3) := by decide +kernel
theorem dX3_lookFrom_36 : decode cX3_lookFrom 36 = .ok (.iload_n 1, 1) := by decide +kernel
theorem dX3_lookFrom_37 : decode cX3_lookFrom 37 = .ok (.invokevirtual 47, 3) := by decide +kernel
theorem dX3_lookFrom_40 : decode cX3_lookFrom 40 = .ok (.isub, 1) := by decide +kernel
theorem dX3_lookFrom_41 : decode cX3_lookFrom 41 = .ok (.invokevirtual 51, 3) := by decide +kernel
theorem dX3_lookFrom_44 : decode cX3_lookFrom 44 = .ok (.aload_n 0, 1) := by decide +kernel
theorem dX3_lookFrom_45 : decode cX3_lookFrom 45 = .ok (.getfield 16, 3) := by decide +kernel
theorem dX3_lookFrom_48 : decode cX3_lookFrom 48 = .ok (.iload_n 2, 1) := by decide +kernel
theorem dX3_lookFrom_49 : decode cX3_lookFrom 49 = .ok (.aload_n 0, 1) := by decide +kernel
theorem dX3_lookFrom_50 : decode cX3_lookFrom 50 = .ok (.getfield 22, 3) := by decide +kernel
theorem dX3_lookFrom_53 : decode cX3_lookFrom 53 = .ok (.getfield 55, 3) := by decide +kernel
theorem dX3_lookFrom_56 : decode cX3_lookFrom 56 = .ok (.iload_n 2, 1) := by decide +kernel
theorem dX3_lookFrom_57 : decode cX3_lookFrom 57 = .ok (.invokevirtual 47, 3) := by decide +kernel
theorem dX3_lookFrom_60 : decode cX3_lookFrom 60 = .ok (.aload_n 0, 1) := by decide +kernel
theorem dX3_lookFrom_61 : decode cX3_lookFrom 61 = .ok (.getfield 22, 3) := by decide +kernel
theorem dX3_lookFrom_64 : decode cX3_lookFrom 64 = .ok (.getfield 55, 3) := by decide +kernel
theorem dX3_lookFrom_67 : decode cX3_lookFrom 67 = .ok (.iload_n 1, 1) := by decide +kernel
theorem dX3_lookFrom_68 : decode cX3_lookFrom 68 = .ok (.invokevirtual 47, 3) := by decide +kernel
theorem dX3_lookFrom_71 : decode cX3_lookFrom 71 = .ok (.isub, 1) := by decide +kernel
theorem dX3_lookFrom_72 : decode cX3_lookFrom 72 = .ok (.invokevirtual 51, 3) := by decide +kernel
theorem dX3_lookFrom_75 : decode cX3_lookFrom 75 = .ok (.aload_n 0, 1) := by decide +kernel
theorem dX3_lookFrom_76 : decode cX3_lookFrom 76 = .ok (.getfield 19, 3) := by decide +kernel
theorem dX3_lookFrom_79 : decode cX3_lookFrom 79 = .ok (.iload_n 2, 1) := by decide +kernel
theorem dX3_lookFrom_80 : decode cX3_lookFrom 80 = .ok (.aload_n 0, 1) := by decide +kernel
theorem dX3_lookFrom_81 : decode cX3_lookFrom 81 = .ok (.getfield 22, 3) := by decide +kernel
theorem dX3_lookFrom_84 : decode cX3_lookFrom 84 = .ok (.iload_n 2, 1) := by decide +kernel
theorem dX3_lookFrom_85 : decode cX3_lookFrom 85 = .ok (.invokevirtual 58, 3) := by decide +kernel
theorem dX3_lookFrom_88 : decode cX3_lookFrom 88 = .ok (.aload_n 0, 1) := by decide +kernel
theorem dX3_lookFrom_89 : decode cX3_lookFrom 89 = .ok (.getfield 22, 3) := by decide +kernel
theorem dX3_lookFrom_92 : decode cX3_lookFrom 92 = .ok (.iload_n 1, 1) := by decide +kernel
theorem dX3_lookFrom_93 : decode cX3_lookFrom 93 = .ok (.invokevirtual 58, 3) := by decide +kernel
theorem dX3_lookFrom_96 : decode cX3_lookFrom 96 = .ok (.isub, 1) := by decide +kernel
theorem dX3_lookFrom_97 : decode cX3_lookFrom 97 = .ok (.invokevirtual 51, 3) := by decide +kernel
theorem dX3_lookFrom_100 : decode cX3_lookFrom 100 = .ok (.iinc 2 1, 3) := by decide +kernel
theorem dX3_lookFrom_103 : decode cX3_lookFrom 103 = .ok (.goto (-101), 3) := by decide +kernel
theorem dX3_lookFrom_106 : decode cX3_lookFrom 106 = .ok (.return_, 1) := by decide +kernel
set_option maxRecDepth 20000 in
theorem ggX3_isAboveAny_X3_isOnSegment : GoodIn wsX3_isAboveAny wsX3_isOnSegment := goodIn_r _ [7, 8, 9, 10, 11, 6, 12, 13, 14, 15, 16, 17, 18, 19, 20, 21, 22, 23, 24, 33, 34, 35, 36, 42] (by decide +kernel) (by decide +kernel)
set_option maxRecDepth 20000 in
theorem gX3_isAboveAny_X3_isOnSegment : GoodIn wsX3_isAboveAny (wsV RX3 61 RX3 yX3_isOnSegment wsX3_isOnSegment) := goodIn_app (goodIn_of _ (by decide +kernel)) ggX3_isAboveAny_X3_isOnSegment
set_option maxRecDepth 20000 in
theorem ggX3_isAboveAny_X3_isAboveAnyTriangle : GoodIn wsX3_isAboveAny wsX3_isAboveAnyTriangle := goodIn_r _ [28, 1, 2, 29, 30, 31, 6, 32, 8, 21, 22, 23, 24, 13, 14, 15, 16, 17, 18, 19, 20, 33, 34, 35, 36, 37, 38, 39, 40, 41, 42] (by decide +kernel) (by decide +kernel)
set_option maxRecDepth 20000 in
theorem gX3_isAboveAny_X3_isAboveAnyTriangle : GoodIn wsX3_isAboveAny (wsV RX3 64 RX3 yX3_isAboveAnyTriangle wsX3_isAboveAnyTriangle) := goodIn_app (goodIn_of _ (by decide +kernel)) ggX3_isAboveAny_X3_isAboveAnyTriangle
theorem dX3_isAboveAny_0 : decode cX3_isAboveAny 0 = .ok (.iload_n 2, 1) := by decide +kernel
theorem dX3_isAboveAny_1 : decode cX3_isAboveAny 1 = .ok (.iconst 1, 1) := by decide +kernel
theorem dX3_isAboveAny_2 : decode cX3_isAboveAny 2 = .ok (.iadd, 1) := by decide +kernel
theorem dX3_isAboveAny_3 : decode cX3_isAboveAny 3 = .ok (.istore_n 3, 1) := by decide +kernel
theorem dX3_isAboveAny_4 : decode cX3_isAboveAny 4 = .ok (.iload_n 3, 1) := by decide +kernel
theorem dX3_isAboveAny_5 : decode cX3_isAboveAny 5 = .ok (.aload_n 0, 1) := by decide +kernel
theorem dX3_isAboveAny_6 : decode cX3_isAboveAny 6 = .ok (.getfield 22, 3) := by decide +kernel
theorem dX3_isAboveAny_9 : decode cX3_isAboveAny 9 = .ok (.getfield 30, 3) := by decide +kernel
theorem dX3_isAboveAny_12 : decode cX3_isAboveAny 12 = .ok (.if_icmp .ge 35, 3) := by decide +kernel
theorem dX3_isAboveAny_15 : decode cX3_isAboveAny 15 = .ok (.iload_n 3, 1) := by decide +kernel
theorem dX3_isAboveAny_16 : decode cX3_isAboveAny 16 = .ok (.iload_n 1, 1) := by decide +kernel
theorem dX3_isAboveAny_17 : decode cX3_isAboveAny 17 = .ok (.if_icmp .eq 24, 3) := by decide +kernel
theorem dX3_isAboveAny_20 : decode cX3_isAboveAny 20 = .ok (.aload_n 0, 1) := by decide +kernel
theorem dX3_isAboveAny_21 : decode cX3_isAboveAny 21 = .ok (.iload_n 2, 1) := by decide +kernel
theorem dX3_isAboveAny_22 : decode cX3_isAboveAny 22 = .ok (.iload_n 3, 1) := by decide +kernel
theorem dX3_isAboveAny_23 : decode cX3_isAboveAny 23 = .ok (.invokevirtual 61, 3) := by decide +kernel
theorem dX3_isAboveAny_26 : decode cX3_isAboveAny 26 = .ok (.ifCond .ne 13, 3) := by decide +kernel
theorem dX3_isAboveAny_29 : decode cX3_isAboveAny 29 = .ok (.aload_n 0, 1) := by decide +kernel
theorem dX3_isAboveAny_30 : decode cX3_isAboveAny 30 = .ok (.iload_n 1, 1) := by decide +kernel
theorem dX3_isAboveAny_31 : decode cX3_isAboveAny 31 = .ok (.iload_n 2, 1) := by decide +kernel
theorem dX3_isAboveAny_32 : decode cX3_isAboveAny 32 = .ok (.iload_n 3, 1) := by decide +kernel
theorem dX3_isAboveAny_33 : decode cX3_isAboveAny 33 = .ok (.invokevirtual 64, 3) := by decide +kernel
theorem dX3_isAboveAny_36 : decode cX3_isAboveAny 36 = .ok (.ifCond .eq 5, 3) := by decide +kernel
theorem dX3_isAboveAny_39 : decode cX3_isAboveAny 39 = .ok (.iconst 1, 1) := by decide +kernel
theorem dX3_isAboveAny_40 : decode cX3_isAboveAny 40 = .ok (.ireturn, 1) := by decide +kernel
theorem dX3_isAboveAny_41 : decode cX3_isAboveAny 41 = .ok (.iinc 3 1, 3) := by decide +kernel
theorem dX3_isAboveAny_44 : decode cX3_isAboveAny 44 = .ok (.goto (-40), 3) := by decide +kernel
theorem dX3_isAboveAny_47 : decode cX3_isAboveAny 47 = .ok (.iconst 0, 1) := by decide +kernel
theorem dX3_isAboveAny_48 : decode cX3_isAboveAny 48 = .ok (.ireturn, 1) := by decide +kernel
set_option maxRecDepth 20000 in
theorem ggX3_isAboveAnyTriangle_X3_isOnTriangle : GoodIn wsX3_isAboveAnyTriangle wsX3_isOnTriangle := goodIn_r _ [7, 8, 9, 10, 11, 6, 12, 13, 14, 15, 16, 17, 18, 19, 20, 21, 22, 23, 24, 30] (by decide +kernel) (by decide +kernel)
set_option maxRecDepth 20000 in
theorem gX3_isAboveAnyTriangle_X3_isOnTriangle : GoodIn wsX3_isAboveAnyTriangle (wsV RX3 68 RX3 yX3_isOnTriangle wsX3_isOnTriangle) := goodIn_app (goodIn_of _ (by decide +kernel)) ggX3_isAboveAnyTriangle_X3_isOnTriangle
theorem dX3_isAboveAnyTriangle_0 : decode cX3_isAboveAnyTriangle 0 = .ok (.iload_n 3, 1) := by decide +kernel
theorem dX3_isAboveAnyTriangle_1 : decode cX3_isAboveAnyTriangle 1 = .ok (.iconst 1, 1) := by decide +kernel
theorem dX3_isAboveAnyTriangle_2 : decode cX3_isAboveAnyTriangle 2 = .ok (.iadd, 1) := by decide +kernel
theorem dX3_isAboveAnyTriangle_3 : decode cX3_isAboveAnyTriangle 3 = .ok (.istore 4, 2) := by decide +kernel
theorem dX3_isAboveAnyTriangle_5 : decode cX3_isAboveAnyTriangle 5 = .ok (.iload 4, 2) := by decide +kernel
theorem dX3_isAboveAnyTriangle_7 : decode cX3_isAboveAnyTriangle 7 = .ok (.aload_n 0, 1) := by decide +kernel
theorem dX3_isAboveAnyTriangle_8 : decode cX3_isAboveAnyTriangle 8 = .ok (.getfield 22, 3) := by decide +kernel
theorem dX3_isAboveAnyTriangle_11 : decode cX3_isAboveAnyTriangle 11 = .ok (.getfield 30, 3) := by decide +kernel
theorem dX3_isAboveAnyTriangle_14 : decode cX3_isAboveAnyTriangle 14 = .ok (.if_icmp .ge 28, 3) := by decide +kernel
theorem dX3_isAboveAnyTriangle_17 : decode cX3_isAboveAnyTriangle 17 = .ok (.iload 4, 2) := by decide +kernel
theorem dX3_isAboveAnyTriangle_19 : decode cX3_isAboveAnyTriangle 19 = .ok (.iload_n 1, 1) := by decide +kernel
theorem dX3_isAboveAnyTriangle_20 : decode cX3_isAboveAnyTriangle 20 = .ok (.if_icmp .eq 16, 3) := by decide +kernel
theorem dX3_isAboveAnyTriangle_23 : decode cX3_isAboveAnyTriangle 23 = .ok (.aload_n 0, 1) := by decide +kernel
theorem dX3_isAboveAnyTriangle_24 : decode cX3_isAboveAnyTriangle 24 = .ok (.iload_n 2, 1) := by decide +kernel
theorem dX3_isAboveAnyTriangle_25 : decode cX3_isAboveAnyTriangle 25 = .ok (.iload_n 3, 1) := by decide +kernel
theorem dX3_isAboveAnyTriangle_26 : decode cX3_isAboveAnyTriangle 26 = .ok (.iload 4, 2) := by decide +kernel
theorem dX3_isAboveAnyTriangle_28 : decode cX3_isAboveAnyTriangle 28 = .ok (.invokevirtual 68, 3) := by decide +kernel
theorem dX3_isAboveAnyTriangle_31 : decode cX3_isAboveAnyTriangle 31 = .ok (.ifCond .eq 5, 3) := by decide +kernel
theorem dX3_isAboveAnyTriangle_34 : decode cX3_isAboveAnyTriangle 34 = .ok (.iconst 1, 1) := by decide +kernel
theorem dX3_isAboveAnyTriangle_35 : decode cX3_isAboveAnyTriangle 35 = .ok (.ireturn, 1) := by decide +kernel
theorem dX3_isAboveAnyTriangle_36 : decode cX3_isAboveAnyTriangle 36 = .ok (.iinc 4 1, 3) := by decide +kernel
theorem dX3_isAboveAnyTriangle_39 : decode cX3_isAboveAnyTriangle 39 = .ok (.goto (-34), 3) := by decide +kernel
theorem dX3_isAboveAnyTriangle_42 : decode cX3_isAboveAnyTriangle 42 = .ok (.iconst 0, 1) := by decide +kernel
theorem dX3_isAboveAnyTriangle_43 : decode cX3_isAboveAnyTriangle 43 = .ok (.ireturn, 1) := by decide +kernel
set_option maxRecDepth 20000 in
theorem ggX3_isOnPoint_X5_at : GoodIn wsX3_isOnPoint wsX5_at := goodIn_r _ [8, 9, 14] (by decide +kernel) (by decide +kernel)
set_option maxRecDepth 20000 in
theorem gX3_isOnPoint_X5_at : GoodIn wsX3_isOnPoint (wsV RX3 47 RX5 yX5_at wsX5_at) := goodIn_app (goodIn_of _ (by decide +kernel)) ggX3_isOnPoint_X5_at
theorem dX3_isOnPoint_0 : decode cX3_isOnPoint 0 = .ok (.aload_n 0, 1) := by decide +kernel
theorem dX3_isOnPoint_1 : decode cX3_isOnPoint 1 = .ok (.getfield 10, 3) := by decide +kernel
theorem dX3_isOnPoint_4 : decode cX3_isOnPoint 4 = .ok (.iload_n 1, 1) := by decide +kernel
theorem dX3_isOnPoint_5 : decode cX3_isOnPoint 5 = .ok (.invokevirtual 47, 3) := by decide +kernel
theorem dX3_isOnPoint_8 : decode cX3_isOnPoint 8 = .ok (.ifCond .ne 29, 3) := by decide +kernel
theorem dX3_isOnPoint_11 : decode cX3_isOnPoint 11 = .ok (.aload_n 0, 1) := by decide +kernel
theorem dX3_isOnPoint_12 : decode cX3_isOnPoint 12 = .ok (.getfield 16, 3) := by decide +kernel
theorem dX3_isOnPoint_15 : decode cX3_isOnPoint 15 = .ok (.iload_n 1, 1) := by decide +kernel
theorem dX3_isOnPoint_16 : decode cX3_isOnPoint 16 = .ok (.invokevirtual 47, 3) := by decide +kernel
theorem dX3_isOnPoint_19 : decode cX3_isOnPoint 19 = .ok (.ifCond .ne 18, 3) := by decide +kernel
theorem dX3_isOnPoint_22 : decode cX3_isOnPoint 22 = .ok (.aload_n 0, 1) := by decide +kernel
theorem dX3_isOnPoint_23 : decode cX3_isOnPoint 23 = .ok (.getfield 19, 3) := by decide +kernel
theorem dX3_isOnPoint_26 : decode cX3_isOnPoint 26 = .ok (.iload_n 1, 1) := by decide +kernel
theorem dX3_isOnPoint_27 : decode cX3_isOnPoint 27 = .ok (.invokevirtual 47, 3) := by decide +kernel
theorem dX3_isOnPoint_30 : decode cX3_isOnPoint 30 = .ok (.ifCond .gt 7, 3) := by decide +kernel
theorem dX3_isOnPoint_33 : decode cX3_isOnPoint 33 = .ok (.iconst 1, 1) := by decide +kernel
theorem dX3_isOnPoint_34 : decode cX3_isOnPoint 34 = .ok (.goto 4, 3) := by decide +kernel
theorem dX3_isOnPoint_37 : decode cX3_isOnPoint 37 = .ok (.iconst 0, 1) := by decide +kernel
theorem dX3_isOnPoint_38 : decode cX3_isOnPoint 38 = .ok (.ireturn, 1) := by decide +kernel
set_option maxRecDepth 20000 in
theorem ggX3_isOnSegment_X3_dot : GoodIn wsX3_isOnSegment wsX3_dot := goodIn_r _ [6, 7, 8, 9, 10, 11, 12, 13, 14, 19, 20, 21, 22, 23] (by decide +kernel) (by decide +kernel)
set_option maxRecDepth 20000 in
theorem gX3_isOnSegment_X3_dot : GoodIn wsX3_isOnSegment (wsV RX3 71 RX3 yX3_dot wsX3_dot) := goodIn_app (goodIn_of _ (by decide +kernel)) ggX3_isOnSegment_X3_dot
set_option maxRecDepth 20000 in
theorem ggX3_isOnSegment_X3_cross : GoodIn wsX3_isOnSegment wsX3_cross := goodIn_r _ [18, 7, 8, 9, 10, 11, 12, 13, 14, 19, 20, 21, 22, 23] (by decide +kernel) (by decide +kernel)
set_option maxRecDepth 20000 in
theorem gX3_isOnSegment_X3_cross : GoodIn wsX3_isOnSegment (wsV RX3 75 RX3 yX3_cross wsX3_cross) := goodIn_app (goodIn_of _ (by decide +kernel)) ggX3_isOnSegment_X3_cross
set_option maxRecDepth 20000 in
theorem ggX3_isOnSegment_X5_at : GoodIn wsX3_isOnSegment wsX5_at := goodIn_r _ [13, 14, 23] (by decide +kernel) (by decide +kernel)
set_option maxRecDepth 20000 in
theorem gX3_isOnSegment_X5_at : GoodIn wsX3_isOnSegment (wsV RX3 47 RX5 yX5_at wsX5_at) := goodIn_app (goodIn_of _ (by decide +kernel)) ggX3_isOnSegment_X5_at
theorem dX3_isOnSegment_0 : decode cX3_isOnSegment 0 = .ok (.aload_n 0, 1) := by decide +kernel
theorem dX3_isOnSegment_1 : decode cX3_isOnSegment 1 = .ok (.iload_n 1, 1) := by decide +kernel
theorem dX3_isOnSegment_2 : decode cX3_isOnSegment 2 = .ok (.iload_n 2, 1) := by decide +kernel
theorem dX3_isOnSegment_3 : decode cX3_isOnSegment 3 = .ok (.invokevirtual 71, 3) := by decide +kernel
theorem dX3_isOnSegment_6 : decode cX3_isOnSegment 6 = .ok (.istore_n 3, 1) := by decide +kernel
theorem dX3_isOnSegment_7 : decode cX3_isOnSegment 7 = .ok (.aload_n 0, 1) := by decide +kernel
theorem dX3_isOnSegment_8 : decode cX3_isOnSegment 8 = .ok (.iload_n 1, 1) := by decide +kernel
theorem dX3_isOnSegment_9 : decode cX3_isOnSegment 9 = .ok (.iload_n 2, 1) := by decide +kernel
theorem dX3_isOnSegment_10 : decode cX3_isOnSegment 10 = .ok (.invokevirtual 75, 3) := by decide +kernel
theorem dX3_isOnSegment_13 : decode cX3_isOnSegment 13 = .ok (.ifCond .ne 7, 3) := by decide +kernel
theorem dX3_isOnSegment_16 : decode cX3_isOnSegment 16 = .ok (.iload_n 3, 1) := by decide +kernel
theorem dX3_isOnSegment_17 : decode cX3_isOnSegment 17 = .ok (.ifCond .le 5, 3) := by decide +kernel
theorem dX3_isOnSegment_20 : decode cX3_isOnSegment 20 = .ok (.iconst 0, 1) := by decide +kernel
theorem dX3_isOnSegment_21 : decode cX3_isOnSegment 21 = .ok (.ireturn, 1) := by decide +kernel
theorem dX3_isOnSegment_22 : decode cX3_isOnSegment 22 = .ok (.aload_n 0, 1) := by decide +kernel
theorem dX3_isOnSegment_23 : decode cX3_isOnSegment 23 = .ok (.iload_n 2, 1) := by decide +kernel
theorem dX3_isOnSegment_24 : decode cX3_isOnSegment 24 = .ok (.iload_n 2, 1) := by decide +kernel
theorem dX3_isOnSegment_25 : decode cX3_isOnSegment 25 = .ok (.invokevirtual 71, 3) := by decide +kernel
theorem dX3_isOnSegment_28 : decode cX3_isOnSegment 28 = .ok (.iload_n 3, 1) := by decide +kernel
theorem dX3_isOnSegment_29 : decode cX3_isOnSegment 29 = .ok (.isub, 1) := by decide +kernel
theorem dX3_isOnSegment_30 : decode cX3_isOnSegment 30 = .ok (.istore 4, 2) := by decide +kernel
theorem dX3_isOnSegment_32 : decode cX3_isOnSegment 32 = .ok (.aload_n 0, 1) := by decide +kernel
theorem dX3_isOnSegment_33 : decode cX3_isOnSegment 33 = .ok (.iload_n 1, 1) := by decide +kernel
theorem dX3_isOnSegment_34 : decode cX3_isOnSegment 34 = .ok (.iload_n 1, 1) := by decide +kernel
theorem dX3_isOnSegment_35 : decode cX3_isOnSegment 35 = .ok (.invokevirtual 71, 3) := by decide +kernel
theorem dX3_isOnSegment_38 : decode cX3_isOnSegment 38 = .ok (.iload_n 3, 1) := by decide +kernel
theorem dX3_isOnSegment_39 : decode cX3_isOnSegment 39 = .ok (.isub, 1) := by decide +kernel
theorem dX3_isOnSegment_40 : decode cX3_isOnSegment 40 = .ok (.istore 5, 2) := by decide +kernel
theorem dX3_isOnSegment_42 : decode cX3_isOnSegment 42 = .ok (.iload 4, 2) := by decide +kernel
theorem dX3_isOnSegment_44 : decode cX3_isOnSegment 44 = .ok (.iload 5, 2) := by decide +kernel
theorem dX3_isOnSegment_46 : decode cX3_isOnSegment 46 = .ok (.iadd, 1) := by decide +kernel
theorem dX3_isOnSegment_47 : decode cX3_isOnSegment 47 = .ok (.ifCond .le 33, 3) := by decide +kernel
theorem dX3_isOnSegment_50 : decode cX3_isOnSegment 50 = .ok (.iload 4, 2) := by decide +kernel
theorem dX3_isOnSegment_52 : decode cX3_isOnSegment 52 = .ok (.aload_n 0, 1) := by decide +kernel
theorem dX3_isOnSegment_53 : decode cX3_isOnSegment 53 = .ok (.getfield 19, 3) := by decide +kernel
theorem dX3_isOnSegment_56 : decode cX3_isOnSegment 56 = .ok (.iload_n 1, 1) := by decide +kernel
theorem dX3_isOnSegment_57 : decode cX3_isOnSegment 57 = .ok (.invokevirtual 47, 3) := by decide +kernel
theorem dX3_isOnSegment_60 : decode cX3_isOnSegment 60 = .ok (.imul, 1) := by decide +kernel
theorem dX3_isOnSegment_61 : decode cX3_isOnSegment 61 = .ok (.iload 5, 2) := by decide +kernel
theorem dX3_isOnSegment_63 : decode cX3_isOnSegment 63 = .ok (.aload_n 0, 1) := by decide +kernel
theorem dX3_isOnSegment_64 : decode cX3_isOnSegment 64 = .ok (.getfield 19, 3) := by decide +kernel
theorem dX3_isOnSegment_67 : decode cX3_isOnSegment 67 = .ok (.iload_n 2, 1) := by decide +kernel
theorem dX3_isOnSegment_68 : decode cX3_isOnSegment 68 = .ok (.invokevirtual 47, 3) := by decide +kernel
theorem dX3_isOnSegment_71 : decode cX3_isOnSegment 71 = .ok (.imul, 1) := by decide +kernel
theorem dX3_isOnSegment_72 : decode cX3_isOnSegment 72 = .ok (.iadd, 1) := by decide +kernel
theorem dX3_isOnSegment_73 : decode cX3_isOnSegment 73 = .ok (.ifCond .gt 7, 3) := by decide +kernel
theorem dX3_isOnSegment_76 : decode cX3_isOnSegment 76 = .ok (.iconst 1, 1) := by decide +kernel
theorem dX3_isOnSegment_77 : decode cX3_isOnSegment 77 = .ok (.goto 4, 3) := by decide +kernel
theorem dX3_isOnSegment_80 : decode cX3_isOnSegment 80 = .ok (.iconst 0, 1) := by decide +kernel
theorem dX3_isOnSegment_81 : decode cX3_isOnSegment 81 = .ok (.ireturn, 1) := by decide +kernel
set_option maxRecDepth 20000 in
theorem ggX3_isOnTriangle_X3_cross : GoodIn wsX3_isOnTriangle wsX3_cross := goodIn_r _ [6, 7, 8, 9, 10, 11, 12, 13, 14, 15, 16, 17, 18, 19] (by decide +kernel) (by decide +kernel)
set_option maxRecDepth 20000 in
theorem gX3_isOnTriangle_X3_cross : GoodIn wsX3_isOnTriangle (wsV RX3 75 RX3 yX3_cross wsX3_cross) := goodIn_app (goodIn_of _ (by decide +kernel)) ggX3_isOnTriangle_X3_cross
set_option maxRecDepth 20000 in
theorem ggX3_isOnTriangle_X5_at : GoodIn wsX3_isOnTriangle wsX5_at := goodIn_r _ [13, 14, 19] (by decide +kernel) (by decide +kernel)
set_option maxRecDepth 20000 in
theorem gX3_isOnTriangle_X5_at : GoodIn wsX3_isOnTriangle (wsV RX3 47 RX5 yX5_at wsX5_at) := goodIn_app (goodIn_of _ (by decide +kernel)) ggX3_isOnTriangle_X5_at
theorem dX3_isOnTriangle_0 : decode cX3_isOnTriangle 0 = .ok (.aload_n 0, 1) := by decide +kernel
theorem dX3_isOnTriangle_1 : decode cX3_isOnTriangle 1 = .ok (.iload_n 2, 1) := by decide +kernel
theorem dX3_isOnTriangle_2 : decode cX3_isOnTriangle 2 = .ok (.iload_n 3, 1) := by decide +kernel
theorem dX3_isOnTriangle_3 : decode cX3_isOnTriangle 3 = .ok (.invokevirtual 75, 3) := by decide +kernel
theorem dX3_isOnTriangle_6 : decode cX3_isOnTriangle 6 = .ok (.istore 4, 2) := by decide +kernel
theorem dX3_isOnTriangle_8 : decode cX3_isOnTriangle 8 = .ok (.aload_n 0, 1) := by decide +kernel
theorem dX3_isOnTriangle_9 : decode cX3_isOnTriangle 9 = .ok (.iload_n 3, 1) := by decide +kernel
theorem dX3_isOnTriangle_10 : decode cX3_isOnTriangle 10 = .ok (.iload_n 1, 1) := by decide +kernel
theorem dX3_isOnTriangle_11 : decode cX3_isOnTriangle 11 = .ok (.invokevirtual 75, 3) := by decide +kernel
theorem dX3_isOnTriangle_14 : decode cX3_isOnTriangle 14 = .ok (.istore 5, 2) := by decide +kernel
theorem dX3_isOnTriangle_16 : decode cX3_isOnTriangle 16 = .ok (.aload_n 0, 1) := by decide +kernel
theorem dX3_isOnTriangle_17 : decode cX3_isOnTriangle 17 = .ok (.iload_n 1, 1) := by decide +kernel
theorem dX3_isOnTriangle_18 : decode cX3_isOnTriangle 18 = .ok (.iload_n 2, 1) := by decide +kernel
theorem dX3_isOnTriangle_19 : decode cX3_isOnTriangle 19 = .ok (.invokevirtual 75, 3) := by decide +kernel
theorem dX3_isOnTriangle_22 : decode cX3_isOnTriangle 22 = .ok (.istore 6, 2) := by decide +kernel
theorem dX3_isOnTriangle_24 : decode cX3_isOnTriangle 24 = .ok (.iload 4, 2) := by decide +kernel
theorem dX3_isOnTriangle_26 : decode cX3_isOnTriangle 26 = .ok (.iload 5, 2) := by decide +kernel
theorem dX3_isOnTriangle_28 : decode cX3_isOnTriangle 28 = .ok (.iadd, 1) := by decide +kernel
theorem dX3_isOnTriangle_29 : decode cX3_isOnTriangle 29 = .ok (.iload 6, 2) := by decide +kernel
theorem dX3_isOnTriangle_31 : decode cX3_isOnTriangle 31 = .ok (.iadd, 1) := by decide +kernel
theorem dX3_isOnTriangle_32 : decode cX3_isOnTriangle 32 = .ok (.istore 7, 2) := by decide +kernel
theorem dX3_isOnTriangle_34 : decode cX3_isOnTriangle 34 = .ok (.iload 7, 2) := by decide +kernel
theorem dX3_isOnTriangle_36 : decode cX3_isOnTriangle 36 = .ok (.ifCond .ge 7, 3) := by decide +kernel
theorem dX3_isOnTriangle_39 : decode cX3_isOnTriangle 39 = .ok (.iconst (-1), 1) := by decide +kernel
theorem dX3_isOnTriangle_40 : decode cX3_isOnTriangle 40 = .ok (.goto 4, 3) := by decide +kernel
theorem dX3_isOnTriangle_43 : decode cX3_isOnTriangle 43 = .ok (.iconst 1, 1) := by decide +kernel
theorem dX3_isOnTriangle_44 : decode cX3_isOnTriangle 44 = .ok (.istore 8, 2) := by decide +kernel
theorem dX3_isOnTriangle_46 : decode cX3_isOnTriangle 46 = .ok (.iload 7, 2) := by decide +kernel
theorem dX3_isOnTriangle_48 : decode cX3_isOnTriangle 48 = .ok (.ifCond .eq 27, 3) := by decide +kernel
theorem dX3_isOnTriangle_51 : decode cX3_isOnTriangle 51 = .ok (.iload 8, 2) := by decide +kernel
theorem dX3_isOnTriangle_53 : decode cX3_isOnTriangle 53 = .ok (.iload 4, 2) := by decide +kernel
theorem dX3_isOnTriangle_55 : decode cX3_isOnTriangle 55 = .ok (.imul, 1) := by decide +kernel
theorem dX3_isOnTriangle_56 : decode cX3_isOnTriangle 56 = .ok (.ifCond .lt 19, 3) := by decide +kernel
theorem dX3_isOnTriangle_59 : decode cX3_isOnTriangle 59 = .ok (.iload 8, 2) := by decide +kernel
theorem dX3_isOnTriangle_61 : decode cX3_isOnTriangle 61 = .ok (.iload 5, 2) := by decide +kernel
theorem dX3_isOnTriangle_63 : decode cX3_isOnTriangle 63 = .ok (.imul, 1) := by decide +kernel
theorem dX3_isOnTriangle_64 : decode cX3_isOnTriangle 64 = .ok (.ifCond .lt 11, 3) := by decide +kernel
theorem dX3_isOnTriangle_67 : decode cX3_isOnTriangle 67 = .ok (.iload 8, 2) := by decide +kernel
theorem dX3_isOnTriangle_69 : decode cX3_isOnTriangle 69 = .ok (.iload 6, 2) := by decide +kernel
theorem dX3_isOnTriangle_71 : decode cX3_isOnTriangle 71 = .ok (.imul, 1) := by decide +kernel
theorem dX3_isOnTriangle_72 : decode cX3_isOnTriangle 72 = .ok (.ifCond .ge 5, 3) := by decide +kernel
theorem dX3_isOnTriangle_75 : decode cX3_isOnTriangle 75 = .ok (.iconst 0, 1) := by decide +kernel
theorem dX3_isOnTriangle_76 : decode cX3_isOnTriangle 76 = .ok (.ireturn, 1) := by decide +kernel
theorem dX3_isOnTriangle_77 : decode cX3_isOnTriangle 77 = .ok (.iload 8, 2) := by decide +kernel
theorem dX3_isOnTriangle_79 : decode cX3_isOnTriangle 79 = .ok (.iload 4, 2) := by decide +kernel
theorem dX3_isOnTriangle_81 : decode cX3_isOnTriangle 81 = .ok (.aload_n 0, 1) := by decide +kernel
theorem dX3_isOnTriangle_82 : decode cX3_isOnTriangle 82 = .ok (.getfield 19, 3) := by decide +kernel
theorem dX3_isOnTriangle_85 : decode cX3_isOnTriangle 85 = .ok (.iload_n 1, 1) := by decide +kernel
theorem dX3_isOnTriangle_86 : decode cX3_isOnTriangle 86 = .ok (.invokevirtual 47, 3) := by decide +kernel
theorem dX3_isOnTriangle_89 : decode cX3_isOnTriangle 89 = .ok (.imul, 1) := by decide +kernel
theorem dX3_isOnTriangle_90 : decode cX3_isOnTriangle 90 = .ok (.iload 5, 2) := by decide +kernel
theorem dX3_isOnTriangle_92 : decode cX3_isOnTriangle 92 = .ok (.aload_n 0, 1) := by decide +kernel
theorem dX3_isOnTriangle_93 : decode cX3_isOnTriangle 93 = .ok (.getfield 19, 3) := by decide +kernel
theorem dX3_isOnTriangle_96 : decode cX3_isOnTriangle 96 = .ok (.iload_n 2, 1) := by decide +kernel
theorem dX3_isOnTriangle_97 : decode cX3_isOnTriangle 97 = .ok (.invokevirtual 47, 3) := by decide +kernel
theorem dX3_isOnTriangle_100 : decode cX3_isOnTriangle 100 = .ok (.imul, 1) := by decide +kernel
theorem dX3_isOnTriangle_101 : decode cX3_isOnTriangle 101 = .ok (.iadd, 1) := by decide +kernel
theorem dX3_isOnTriangle_102 : decode cX3_isOnTriangle 102 = .ok (.iload 6, 2) := by decide +kernel
theorem dX3_isOnTriangle_104 : decode cX3_isOnTriangle 104 = .ok (.aload_n 0, 1) := by decide +kernel
theorem dX3_isOnTriangle_105 : decode cX3_isOnTriangle 105 = .ok (.getfield 19, 3) := by decide +kernel
theorem dX3_isOnTriangle_108 : decode cX3_isOnTriangle 108 = .ok (.iload_n 3, 1) := by decide +kernel
theorem dX3_isOnTriangle_109 : decode cX3_isOnTriangle 109 = .ok (.invokevirtual 47, 3) := by decide +kernel
theorem dX3_isOnTriangle_112 : decode cX3_isOnTriangle 112 = .ok (.imul, 1) := by decide +kernel
theorem dX3_isOnTriangle_113 : decode cX3_isOnTriangle 113 = .ok (.iadd, 1) := by decide +kernel
theorem dX3_isOnTriangle_114 : decode cX3_isOnTriangle 114 = .ok (.imul, 1) := by decide +kernel
theorem dX3_isOnTriangle_115 : decode cX3_isOnTriangle 115 = .ok (.ifCond .gt 7, 3) := by decide +kernel
theorem dX3_isOnTriangle_118 : decode cX3_isOnTriangle 118 = .ok (.iconst 1, 1) := by decide +kernel
theorem dX3_isOnTriangle_119 : decode cX3_isOnTriangle 119 = .ok (.goto 4, 3) := by decide +kernel
theorem dX3_isOnTriangle_122 : decode cX3_isOnTriangle 122 = .ok (.iconst 0, 1) := by decide +kernel
theorem dX3_isOnTriangle_123 : decode cX3_isOnTriangle 123 = .ok (.ireturn, 1) := by decide +kernel
set_option maxRecDepth 20000 in
theorem ggX3_cross_X5_at : GoodIn wsX3_cross wsX5_at := goodIn_r _ [7, 8, 13] (by decide +kernel) (by decide +kernel)
set_option maxRecDepth 20000 in
theorem gX3_cross_X5_at : GoodIn wsX3_cross (wsV RX3 47 RX5 yX5_at wsX5_at) := goodIn_app (goodIn_of _ (by decide +kernel)) ggX3_cross_X5_at
theorem dX3_cross_0 : decode cX3_cross 0 = .ok (.aload_n 0, 1) := by decide +kernel
theorem dX3_cross_1 : decode cX3_cross 1 = .ok (.getfield 10, 3) := by decide +kernel
theorem dX3_cross_4 : decode cX3_cross 4 = .ok (.iload_n 1, 1) := by decide +kernel
theorem dX3_cross_5 : decode cX3_cross 5 = .ok (.invokevirtual 47, 3) := by decide +kernel
theorem dX3_cross_8 : decode cX3_cross 8 = .ok (.aload_n 0, 1) := by decide +kernel
theorem dX3_cross_9 : decode cX3_cross 9 = .ok (.getfield 16, 3) := by decide +kernel
theorem dX3_cross_12 : decode cX3_cross 12 = .ok (.iload_n 2, 1) := by decide +kernel
theorem dX3_cross_13 : decode cX3_cross 13 = .ok (.invokevirtual 47, 3) := by decide +kernel
theorem dX3_cross_16 : decode cX3_cross 16 = .ok (.imul, 1) := by decide +kernel
theorem dX3_cross_17 : decode cX3_cross 17 = .ok (.aload_n 0, 1) := by decide +kernel
theorem dX3_cross_18 : decode cX3_cross 18 = .ok (.getfield 10, 3) := by decide +kernel
theorem dX3_cross_21 : decode cX3_cross 21 = .ok (.iload_n 2, 1) := by decide +kernel
theorem dX3_cross_22 : decode cX3_cross 22 = .ok (.invokevirtual 47, 3) := by decide +kernel
theorem dX3_cross_25 : decode cX3_cross 25 = .ok (.aload_n 0, 1) := by decide +kernel
theorem dX3_cross_26 : decode cX3_cross 26 = .ok (.getfield 16, 3) := by decide +kernel
theorem dX3_cross_29 : decode cX3_cross 29 = .ok (.iload_n 1, 1) := by decide +kernel
theorem dX3_cross_30 : decode cX3_cross 30 = .ok (.invokevirtual 47, 3) := by decide +kernel
theorem dX3_cross_33 : decode cX3_cross 33 = .ok (.imul, 1) := by decide +kernel
theorem dX3_cross_34 : decode cX3_cross 34 = .ok (.isub, 1) := by decide +kernel
theorem dX3_cross_35 : decode cX3_cross 35 = .ok (.ireturn, 1) := by decide +kernel
set_option maxRecDepth 20000 in
theorem ggX3_dot_X5_at : GoodIn wsX3_dot wsX5_at := goodIn_r _ [7, 8, 13] (by decide +kernel) (by decide +kernel)
set_option maxRecDepth 20000 in
theorem gX3_dot_X5_at : GoodIn wsX3_dot (wsV RX3 47 RX5 yX5_at wsX5_at) := goodIn_app (goodIn_of _ (by decide +kernel)) ggX3_dot_X5_at
theorem dX3_dot_0 : decode cX3_dot 0 = .ok (.aload_n 0, 1) := by decide +kernel
theorem dX3_dot_1 : decode cX3_dot 1 = .ok (.getfield 10, 3) := by decide +kernel
theorem dX3_dot_4 : decode cX3_dot 4 = .ok (.iload_n 1, 1) := by decide +kernel
theorem dX3_dot_5 : decode cX3_dot 5 = .ok (.invokevirtual 47, 3) := by decide +kernel
theorem dX3_dot_8 : decode cX3_dot 8 = .ok (.aload_n 0, 1) := by decide +kernel
theorem dX3_dot_9 : decode cX3_dot 9 = .ok (.getfield 10, 3) := by decide +kernel
theorem dX3_dot_12 : decode cX3_dot 12 = .ok (.iload_n 2, 1) := by decide +kernel
theorem dX3_dot_13 : decode cX3_dot 13 = .ok (.invokevirtual 47, 3) := by decide +kernel
theorem dX3_dot_16 : decode cX3_dot 16 = .ok (.imul, 1) := by decide +kernel
theorem dX3_dot_17 : decode cX3_dot 17 = .ok (.aload_n 0, 1) := by decide +kernel
theorem dX3_dot_18 : decode cX3_dot 18 = .ok (.getfield 16, 3) := by decide +kernel
theorem dX3_dot_21 : decode cX3_dot 21 = .ok (.iload_n 1, 1) := by decide +kernel
theorem dX3_dot_22 : decode cX3_dot 22 = .ok (.invokevirtual 47, 3) := by decide +kernel
theorem dX3_dot_25 : decode cX3_dot 25 = .ok (.aload_n 0, 1) := by decide +kernel
theorem dX3_dot_26 : decode cX3_dot 26 = .ok (.getfield 16, 3) := by decide +kernel
theorem dX3_dot_29 : decode cX3_dot 29 = .ok (.iload_n 2, 1) := by decide +kernel
theorem dX3_dot_30 : decode cX3_dot 30 = .ok (.invokevirtual 47, 3) := by decide +kernel
theorem dX3_dot_33 : decode cX3_dot 33 = .ok (.imul, 1) := by decide +kernel
theorem dX3_dot_34 : decode cX3_dot 34 = .ok (.iadd, 1) := by decide +kernel
theorem dX3_dot_35 : decode cX3_dot 35 = .ok (.ireturn, 1) := by decide +kernel
set_option maxRecDepth 20000 in
theorem ggX4_init_X5_init : GoodIn wsX4_init wsX5_init := goodIn_r _ [12, 13, 2, 3, 14, 15, 16] (by decide +kernel) (by decide +kernel)
set_option maxRecDepth 20000 in
theorem gX4_init_X5_init_n9 : GoodIn wsX4_init (wsX5_init) := ggX4_init_X5_init
theorem dX4_init_0 : decode cX4_init 0 = .ok (.aload_n 0, 1) := by decide +kernel
theorem dX4_init_1 : decode cX4_init 1 = .ok (.invokespecial 1, 3) := by decide +kernel
theorem dX4_init_4 : decode cX4_init 4 = .ok (.aload_n 0, 1) := by decide +kernel
theorem dX4_init_5 : decode cX4_init 5 = .ok (.new 7, 3) := by decide +kernel
theorem dX4_init_8 : decode cX4_init 8 = .ok (.dup, 1) := by decide +kernel
theorem dX4_init_9 : decode cX4_init 9 = .ok (.invokespecial 9, 3) := by decide +kernel
theorem dX4_init_12 : decode cX4_init 12 = .ok (.putfield 10, 3) := by decide +kernel
theorem dX4_init_15 : decode cX4_init 15 = .ok (.aload_n 0, 1) := by decide +kernel
theorem dX4_init_16 : decode cX4_init 16 = .ok (.new 7, 3) := by decide +kernel
theorem dX4_init_19 : decode cX4_init 19 = .ok (.dup, 1) := by decide +kernel
theorem dX4_init_20 : decode cX4_init 20 = .ok (.invokespecial 9, 3) := by decide +kernel
theorem dX4_init_23 : decode cX4_init 23 = .ok (.putfield 16, 3) := by decide +kernel
theorem dX4_init_26 : decode cX4_init 26 = .ok (.aload_n 0, 1) := by decide +kernel
theorem dX4_init_27 : decode cX4_init 27 = .ok (.new 7, 3) := by decide +kernel
theorem dX4_init_30 : decode cX4_init 30 = .ok (.dup, 1) := by decide +kernel
theorem dX4_init_31 : decode cX4_init 31 = .ok (.invokespecial 9, 3) := by decide +kernel
theorem dX4_init_34 : decode cX4_init 34 = .ok (.putfield 19, 3) := by decide +kernel
theorem dX4_init_37 : decode cX4_init 37 = .ok (.aload_n 0, 1) := by decide +kernel
theorem dX4_init_38 : decode cX4_init 38 = .ok (.new 7, 3) := by decide +kernel
theorem dX4_init_41 : decode cX4_init 41 = .ok (.dup, 1) := by decide +kernel
theorem dX4_init_42 : decode cX4_init 42 = .ok (.invokespecial 9, 3) := by decide +kernel
theorem dX4_init_45 : decode cX4_init 45 = .ok (.putfield 22, 3) := by decide +kernel
theorem dX4_init_48 : decode cX4_init 48 = .ok (.return_, 1) := by decide +kernel
set_option maxRecDepth 20000 in
theorem ggX4_add_X5_put : GoodIn wsX4_add wsX5_put := goodIn_r _ [9, 10, 16] (by decide +kernel) (by decide +kernel)
set_option maxRecDepth 20000 in
theorem gX4_add_X5_put : GoodIn wsX4_add (wsV RX4 29 RX5 yX5_put wsX5_put) := goodIn_app (goodIn_of _ (by decide +kernel)) ggX4_add_X5_put
theorem dX4_add_0 : decode cX4_add 0 = .ok (.aload_n 0, 1) := by decide +kernel
theorem dX4_add_1 : decode cX4_add 1 = .ok (.getfield 25, 3) := by decide +kernel
theorem dX4_add_4 : decode cX4_add 4 = .ok (.istore 4, 2) := by decide +kernel
theorem dX4_add_6 : decode cX4_add 6 = .ok (.aload_n 0, 1) := by decide +kernel
theorem dX4_add_7 : decode cX4_add 7 = .ok (.getfield 10, 3) := by decide +kernel
theorem dX4_add_10 : decode cX4_add 10 = .ok (.iload 4, 2) := by decide +kernel
theorem dX4_add_12 : decode cX4_add 12 = .ok (.iload_n 1, 1) := by decide +kernel
theorem dX4_add_13 : decode cX4_add 13 = .ok (.invokevirtual 29, 3) := by decide +kernel
theorem dX4_add_16 : decode cX4_add 16 = .ok (.aload_n 0, 1) := by decide +kernel
theorem dX4_add_17 : decode cX4_add 17 = .ok (.getfield 16, 3) := by decide +kernel
theorem dX4_add_20 : decode cX4_add 20 = .ok (.iload 4, 2) := by decide +kernel
theorem dX4_add_22 : decode cX4_add 22 = .ok (.iload_n 2, 1) := by decide +kernel
theorem dX4_add_23 : decode cX4_add 23 = .ok (.invokevirtual 29, 3) := by decide +kernel
theorem dX4_add_26 : decode cX4_add 26 = .ok (.aload_n 0, 1) := by decide +kernel
