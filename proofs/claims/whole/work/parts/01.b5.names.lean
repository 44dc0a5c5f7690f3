theorem dX7_least_6 : decode cX7_least 6 = .ok (.goto 22, 3) := by decide +kernel
theorem dX7_least_9 : decode cX7_least 9 = .ok (.iload_n 0, 1) := by decide +kernel
theorem dX7_least_10 : decode cX7_least 10 = .ok (.iconst 1, 1) := by decide +kernel
theorem dX7_least_11 : decode cX7_least 11 = .ok (.if_icmp .ne 7, 3) := by decide +kernel
theorem dX7_least_14 : decode cX7_least 14 = .ok (.iconst 2, 1) := by decide +kernel
theorem dX7_least_15 : decode cX7_least 15 = .ok (.goto 13, 3) := by decide +kernel
theorem dX7_least_18 : decode cX7_least 18 = .ok (.iload_n 0, 1) := by decide +kernel
theorem dX7_least_19 : decode cX7_least 19 = .ok (.iconst 2, 1) := by decide +kernel
theorem dX7_least_20 : decode cX7_least 20 = .ok (.if_icmp .ne 7, 3) := by decide +kernel
theorem dX7_least_23 : decode cX7_least 23 = .ok (.iconst 1, 1) := by decide +kernel
theorem dX7_least_24 : decode cX7_least 24 = .ok (.goto 4, 3) := by decide +kernel
theorem dX7_least_27 : decode cX7_least 27 = .ok (.iconst 0, 1) := by decide +kernel
theorem dX7_least_28 : decode cX7_least 28 = .ok (.ireturn, 1) := by decide +kernel
theorem dX7_most_0 : decode cX7_most 0 = .ok (.iload_n 0, 1) := by decide +kernel
theorem dX7_most_1 : decode cX7_most 1 = .ok (.ifCond .ne 9, 3) := by decide +kernel
theorem dX7_most_4 : decode cX7_most 4 = .ok (.sipush 200, 3) := by decide +kernel
theorem dX7_most_7 : decode cX7_most 7 = .ok (.goto 25, 3) := by decide +kernel
theorem dX7_most_10 : decode cX7_most 10 = .ok (.iload_n 0, 1) := by decide +kernel
theorem dX7_most_11 : decode cX7_most 11 = .ok (.iconst 1, 1) := by decide +kernel
theorem dX7_most_12 : decode cX7_most 12 = .ok (.if_icmp .ne 8, 3) := by decide +kernel
theorem dX7_most_15 : decode cX7_most 15 = .ok (.bipush 50, 2) := by decide +kernel
theorem dX7_most_17 : decode cX7_most 17 = .ok (.goto 15, 3) := by decide +kernel
theorem dX7_most_20 : decode cX7_most 20 = .ok (.iload_n 0, 1) := by decide +kernel
theorem dX7_most_21 : decode cX7_most 21 = .ok (.iconst 4, 1) := by decide +kernel
theorem dX7_most_22 : decode cX7_most 22 = .ok (.if_icmp .ne 8, 3) := by decide +kernel
theorem dX7_most_25 : decode cX7_most 25 = .ok (.bipush 20, 2) := by decide +kernel
theorem dX7_most_27 : decode cX7_most 27 = .ok (.goto 5, 3) := by decide +kernel
theorem dX7_most_30 : decode cX7_most 30 = .ok (.bipush 40, 2) := by decide +kernel
theorem dX7_most_32 : decode cX7_most 32 = .ok (.ireturn, 1) := by decide +kernel
set_option maxRecDepth 20000 in
theorem ggX7_addsShaft_X7_at : GoodIn wsX7_addsShaft wsX7_at := goodIn_r _ [5] (by decide +kernel) (by decide +kernel)
set_option maxRecDepth 20000 in
theorem gX7_addsShaft_X7_at : GoodIn wsX7_addsShaft (va_wsS RX7 37 yX7_at wsX7_at) := goodIn_app (goodIn_of _ (by decide +kernel)) ggX7_addsShaft_X7_at
theorem dX7_addsShaft_0 : decode cX7_addsShaft 0 = .ok (.iload_n 1, 1) := by decide +kernel
theorem dX7_addsShaft_1 : decode cX7_addsShaft 1 = .ok (.iconst 1, 1) := by decide +kernel
theorem dX7_addsShaft_2 : decode cX7_addsShaft 2 = .ok (.if_icmp .eq 16, 3) := by decide +kernel
theorem dX7_addsShaft_5 : decode cX7_addsShaft 5 = .ok (.iload_n 1, 1) := by decide +kernel
theorem dX7_addsShaft_6 : decode cX7_addsShaft 6 = .ok (.iconst 2, 1) := by decide +kernel
theorem dX7_addsShaft_7 : decode cX7_addsShaft 7 = .ok (.if_icmp .eq 11, 3) := by decide +kernel
theorem dX7_addsShaft_10 : decode cX7_addsShaft 10 = .ok (.iload_n 1, 1) := by decide +kernel
theorem dX7_addsShaft_11 : decode cX7_addsShaft 11 = .ok (.iconst 4, 1) := by decide +kernel
theorem dX7_addsShaft_12 : decode cX7_addsShaft 12 = .ok (.if_icmp .eq 6, 3) := by decide +kernel
theorem dX7_addsShaft_15 : decode cX7_addsShaft 15 = .ok (.bipush (-2), 2) := by decide +kernel
theorem dX7_addsShaft_17 : decode cX7_addsShaft 17 = .ok (.ireturn, 1) := by decide +kernel
theorem dX7_addsShaft_18 : decode cX7_addsShaft 18 = .ok (.aload_n 0, 1) := by decide +kernel
theorem dX7_addsShaft_19 : decode cX7_addsShaft 19 = .ok (.getfield 7, 3) := by decide +kernel
theorem dX7_addsShaft_22 : decode cX7_addsShaft 22 = .ok (.bipush 6, 2) := by decide +kernel
theorem dX7_addsShaft_24 : decode cX7_addsShaft 24 = .ok (.iaload, 1) := by decide +kernel
theorem dX7_addsShaft_25 : decode cX7_addsShaft 25 = .ok (.iconst 4, 1) := by decide +kernel
theorem dX7_addsShaft_26 : decode cX7_addsShaft 26 = .ok (.if_icmp .ne 6, 3) := by decide +kernel
theorem dX7_addsShaft_29 : decode cX7_addsShaft 29 = .ok (.bipush (-4), 2) := by decide +kernel
theorem dX7_addsShaft_31 : decode cX7_addsShaft 31 = .ok (.ireturn, 1) := by decide +kernel
theorem dX7_addsShaft_32 : decode cX7_addsShaft 32 = .ok (.iconst 0, 1) := by decide +kernel
theorem dX7_addsShaft_33 : decode cX7_addsShaft 33 = .ok (.istore_n 2, 1) := by decide +kernel
theorem dX7_addsShaft_34 : decode cX7_addsShaft 34 = .ok (.iload_n 2, 1) := by decide +kernel
theorem dX7_addsShaft_35 : decode cX7_addsShaft 35 = .ok (.bipush 14, 2) := by decide +kernel
theorem dX7_addsShaft_37 : decode cX7_addsShaft 37 = .ok (.if_icmp .ge 26, 3) := by decide +kernel
theorem dX7_addsShaft_40 : decode cX7_addsShaft 40 = .ok (.aload_n 0, 1) := by decide +kernel
theorem dX7_addsShaft_41 : decode cX7_addsShaft 41 = .ok (.getfield 7, 3) := by decide +kernel
theorem dX7_addsShaft_44 : decode cX7_addsShaft 44 = .ok (.aload_n 0, 1) := by decide +kernel
theorem dX7_addsShaft_45 : decode cX7_addsShaft 45 = .ok (.getfield 7, 3) := by decide +kernel
theorem dX7_addsShaft_48 : decode cX7_addsShaft 48 = .ok (.bipush 6, 2) := by decide +kernel
theorem dX7_addsShaft_50 : decode cX7_addsShaft 50 = .ok (.iaload, 1) := by decide +kernel
theorem dX7_addsShaft_51 : decode cX7_addsShaft 51 = .ok (.iload_n 2, 1) := by decide +kernel
theorem dX7_addsShaft_52 : decode cX7_addsShaft 52 = .ok (.invokestatic 37, 3) := by decide +kernel
theorem dX7_addsShaft_55 : decode cX7_addsShaft 55 = .ok (.iconst 0, 1) := by decide +kernel
theorem dX7_addsShaft_56 : decode cX7_addsShaft 56 = .ok (.iastore, 1) := by decide +kernel
theorem dX7_addsShaft_57 : decode cX7_addsShaft 57 = .ok (.iinc 2 1, 3) := by decide +kernel
theorem dX7_addsShaft_60 : decode cX7_addsShaft 60 = .ok (.goto (-26), 3) := by decide +kernel
theorem dX7_addsShaft_63 : decode cX7_addsShaft 63 = .ok (.aload_n 0, 1) := by decide +kernel
theorem dX7_addsShaft_64 : decode cX7_addsShaft 64 = .ok (.getfield 7, 3) := by decide +kernel
theorem dX7_addsShaft_67 : decode cX7_addsShaft 67 = .ok (.aload_n 0, 1) := by decide +kernel
theorem dX7_addsShaft_68 : decode cX7_addsShaft 68 = .ok (.getfield 7, 3) := by decide +kernel
theorem dX7_addsShaft_71 : decode cX7_addsShaft 71 = .ok (.bipush 6, 2) := by decide +kernel
theorem dX7_addsShaft_73 : decode cX7_addsShaft 73 = .ok (.iaload, 1) := by decide +kernel
theorem dX7_addsShaft_74 : decode cX7_addsShaft 74 = .ok (.iconst 0, 1) := by decide +kernel
theorem dX7_addsShaft_75 : decode cX7_addsShaft 75 = .ok (.invokestatic 37, 3) := by decide +kernel
theorem dX7_addsShaft_78 : decode cX7_addsShaft 78 = .ok (.iload_n 1, 1) := by decide +kernel
theorem dX7_addsShaft_79 : decode cX7_addsShaft 79 = .ok (.iastore, 1) := by decide +kernel
theorem dX7_addsShaft_80 : decode cX7_addsShaft 80 = .ok (.aload_n 0, 1) := by decide +kernel
theorem dX7_addsShaft_81 : decode cX7_addsShaft 81 = .ok (.getfield 7, 3) := by decide +kernel
theorem dX7_addsShaft_84 : decode cX7_addsShaft 84 = .ok (.bipush 6, 2) := by decide +kernel
theorem dX7_addsShaft_86 : decode cX7_addsShaft 86 = .ok (.dup2, 1) := by decide +kernel
theorem dX7_addsShaft_87 : decode cX7_addsShaft 87 = .ok (.iaload, 1) := by decide +kernel
theorem dX7_addsShaft_88 : decode cX7_addsShaft 88 = .ok (.iconst 1, 1) := by decide +kernel
theorem dX7_addsShaft_89 : decode cX7_addsShaft 89 = .ok (.iadd, 1) := by decide +kernel
theorem dX7_addsShaft_90 : decode cX7_addsShaft 90 = .ok (.iastore, 1) := by decide +kernel
theorem dX7_addsShaft_91 : decode cX7_addsShaft 91 = .ok (.aload_n 0, 1) := by decide +kernel
theorem dX7_addsShaft_92 : decode cX7_addsShaft 92 = .ok (.getfield 7, 3) := by decide +kernel
theorem dX7_addsShaft_95 : decode cX7_addsShaft 95 = .ok (.bipush 6, 2) := by decide +kernel
theorem dX7_addsShaft_97 : decode cX7_addsShaft 97 = .ok (.iaload, 1) := by decide +kernel
theorem dX7_addsShaft_98 : decode cX7_addsShaft 98 = .ok (.iconst 1, 1) := by decide +kernel
theorem dX7_addsShaft_99 : decode cX7_addsShaft 99 = .ok (.isub, 1) := by decide +kernel
theorem dX7_addsShaft_100 : decode cX7_addsShaft 100 = .ok (.ireturn, 1) := by decide +kernel
set_option maxRecDepth 20000 in
theorem ggX7_loads_X7_isShaft : GoodIn wsX7_loads wsX7_isShaft := goodIn_r _ [6, 1, 7, 8, 5, 9, 13, 14, 15, 16, 17, 18, 19, 20, 21, 22, 23, 24, 25, 26, 27, 28, 29] (by decide +kernel) (by decide +kernel)
set_option maxRecDepth 20000 in
theorem gX7_loads_X7_isShaft : GoodIn wsX7_loads (wsV RX7 89 RX7 yX7_isShaft wsX7_isShaft) := goodIn_app (goodIn_of _ (by decide +kernel)) ggX7_loads_X7_isShaft
set_option maxRecDepth 20000 in
theorem ggX7_loads_X7_in : GoodIn wsX7_loads wsX7_in := goodIn_r _ [9] (by decide +kernel) (by decide +kernel)
set_option maxRecDepth 20000 in
theorem gX7_loads_X7_in : GoodIn wsX7_loads (va_wsS RX7 33 yX7_in wsX7_in) := goodIn_app (goodIn_of _ (by decide +kernel)) ggX7_loads_X7_in
set_option maxRecDepth 20000 in
theorem ggX7_loads_X7_at : GoodIn wsX7_loads wsX7_at := goodIn_r _ [12] (by decide +kernel) (by decide +kernel)
set_option maxRecDepth 20000 in
theorem gX7_loads_X7_at : GoodIn wsX7_loads (va_wsS RX7 37 yX7_at wsX7_at) := goodIn_app (goodIn_of _ (by decide +kernel)) ggX7_loads_X7_at
theorem dX7_loads_0 : decode cX7_loads 0 = .ok (.aload_n 0, 1) := by decide +kernel
theorem dX7_loads_1 : decode cX7_loads 1 = .ok (.iload_n 1, 1) := by decide +kernel
theorem dX7_loads_2 : decode cX7_loads 2 = .ok (.invokevirtual 89, 3) := by decide +kernel
theorem dX7_loads_5 : decode cX7_loads 5 = .ok (.ifCond .ne 5, 3) := by decide +kernel
theorem dX7_loads_8 : decode cX7_loads 8 = .ok (.iconst (-1), 1) := by decide +kernel
theorem dX7_loads_9 : decode cX7_loads 9 = .ok (.ireturn, 1) := by decide +kernel
theorem dX7_loads_10 : decode cX7_loads 10 = .ok (.iload_n 2, 1) := by decide +kernel
theorem dX7_loads_11 : decode cX7_loads 11 = .ok (.iconst 0, 1) := by decide +kernel
theorem dX7_loads_12 : decode cX7_loads 12 = .ok (.bipush 9, 2) := by decide +kernel
theorem dX7_loads_14 : decode cX7_loads 14 = .ok (.invokestatic 33, 3) := by decide +kernel
theorem dX7_loads_17 : decode cX7_loads 17 = .ok (.ifCond .ne 6, 3) := by decide +kernel
theorem dX7_loads_20 : decode cX7_loads 20 = .ok (.bipush (-2), 2) := by decide +kernel
theorem dX7_loads_22 : decode cX7_loads 22 = .ok (.ireturn, 1) := by decide +kernel
theorem dX7_loads_23 : decode cX7_loads 23 = .ok (.aload_n 0, 1) := by decide +kernel
theorem dX7_loads_24 : decode cX7_loads 24 = .ok (.getfield 7, 3) := by decide +kernel
theorem dX7_loads_27 : decode cX7_loads 27 = .ok (.iload_n 1, 1) := by decide +kernel
theorem dX7_loads_28 : decode cX7_loads 28 = .ok (.iconst 1, 1) := by decide +kernel
theorem dX7_loads_29 : decode cX7_loads 29 = .ok (.invokestatic 37, 3) := by decide +kernel
theorem dX7_loads_32 : decode cX7_loads 32 = .ok (.iaload, 1) := by decide +kernel
theorem dX7_loads_33 : decode cX7_loads 33 = .ok (.istore_n 3, 1) := by decide +kernel
theorem dX7_loads_34 : decode cX7_loads 34 = .ok (.aload_n 0, 1) := by decide +kernel
theorem dX7_loads_35 : decode cX7_loads 35 = .ok (.getfield 7, 3) := by decide +kernel
theorem dX7_loads_38 : decode cX7_loads 38 = .ok (.iload_n 1, 1) := by decide +kernel
theorem dX7_loads_39 : decode cX7_loads 39 = .ok (.iconst 1, 1) := by decide +kernel
theorem dX7_loads_40 : decode cX7_loads 40 = .ok (.invokestatic 37, 3) := by decide +kernel
theorem dX7_loads_43 : decode cX7_loads 43 = .ok (.iload_n 2, 1) := by decide +kernel
theorem dX7_loads_44 : decode cX7_loads 44 = .ok (.iastore, 1) := by decide +kernel
theorem dX7_loads_45 : decode cX7_loads 45 = .ok (.iload_n 3, 1) := by decide +kernel
theorem dX7_loads_46 : decode cX7_loads 46 = .ok (.ireturn, 1) := by decide +kernel
set_option maxRecDepth 20000 in
theorem ggX7_moves_X7_isShaft : GoodIn wsX7_moves wsX7_isShaft := goodIn_r _ [6, 1, 7, 8, 5, 9, 35, 36, 37, 38, 39, 40, 41, 42, 43, 44, 45, 46, 47, 48, 49, 50, 51] (by decide +kernel) (by decide +kernel)
set_option maxRecDepth 20000 in
theorem gX7_moves_X7_isShaft : GoodIn wsX7_moves (wsV RX7 89 RX7 yX7_isShaft wsX7_isShaft) := goodIn_app (goodIn_of _ (by decide +kernel)) ggX7_moves_X7_isShaft
set_option maxRecDepth 20000 in
theorem ggX7_moves_X7_isPlace : GoodIn wsX7_moves wsX7_isPlace := goodIn_r _ [12, 7, 8, 5, 9] (by decide +kernel) (by decide +kernel)
set_option maxRecDepth 20000 in
theorem gX7_moves_X7_isPlace : GoodIn wsX7_moves (va_wsS RX7 92 yX7_isPlace wsX7_isPlace) := goodIn_app (goodIn_of _ (by decide +kernel)) ggX7_moves_X7_isPlace
set_option maxRecDepth 20000 in
theorem ggX7_moves_X7_rests : GoodIn wsX7_moves wsX7_rests := goodIn_r _ [16, 1, 17, 18, 5, 19, 35, 36, 37, 38, 39, 40, 41, 42, 43, 44, 45, 46, 47, 48, 49, 50, 51] (by decide +kernel) (by decide +kernel)
set_option maxRecDepth 20000 in
theorem gX7_moves_X7_rests : GoodIn wsX7_moves (wsV RX7 51 RX7 yX7_rests wsX7_rests) := goodIn_app (goodIn_of _ (by decide +kernel)) ggX7_moves_X7_rests
set_option maxRecDepth 20000 in
theorem ggX7_moves_X7_at : GoodIn wsX7_moves wsX7_at := goodIn_r _ [19] (by decide +kernel) (by decide +kernel)
set_option maxRecDepth 20000 in
theorem gX7_moves_X7_at : GoodIn wsX7_moves (va_wsS RX7 37 yX7_at wsX7_at) := goodIn_app (goodIn_of _ (by decide +kernel)) ggX7_moves_X7_at
set_option maxRecDepth 20000 in
theorem ggX7_moves_X7_comes : GoodIn wsX7_moves wsX7_comes := goodIn_r _ [23, 1, 13, 14, 15, 5, 16, 17, 18, 19, 24, 25, 26, 27, 28, 29, 30, 31, 32, 33, 34, 35, 36, 37, 38, 39, 40, 41, 42, 43, 44, 45, 46, 47, 48, 49, 50, 51] (by decide +kernel) (by decide +kernel)
set_option maxRecDepth 20000 in
theorem gX7_moves_X7_comes : GoodIn wsX7_moves (wsV RX7 79 RX7 yX7_comes wsX7_comes) := goodIn_app (goodIn_of _ (by decide +kernel)) ggX7_moves_X7_comes
theorem dX7_moves_0 : decode cX7_moves 0 = .ok (.aload_n 0, 1) := by decide +kernel
theorem dX7_moves_1 : decode cX7_moves 1 = .ok (.iload_n 1, 1) := by decide +kernel
theorem dX7_moves_2 : decode cX7_moves 2 = .ok (.invokevirtual 89, 3) := by decide +kernel
theorem dX7_moves_5 : decode cX7_moves 5 = .ok (.ifCond .ne 5, 3) := by decide +kernel
theorem dX7_moves_8 : decode cX7_moves 8 = .ok (.iconst (-1), 1) := by decide +kernel
theorem dX7_moves_9 : decode cX7_moves 9 = .ok (.ireturn, 1) := by decide +kernel
theorem dX7_moves_10 : decode cX7_moves 10 = .ok (.iload_n 2, 1) := by decide +kernel
theorem dX7_moves_11 : decode cX7_moves 11 = .ok (.invokestatic 92, 3) := by decide +kernel
theorem dX7_moves_14 : decode cX7_moves 14 = .ok (.ifCond .ne 6, 3) := by decide +kernel
theorem dX7_moves_17 : decode cX7_moves 17 = .ok (.bipush (-2), 2) := by decide +kernel
theorem dX7_moves_19 : decode cX7_moves 19 = .ok (.ireturn, 1) := by decide +kernel
theorem dX7_moves_20 : decode cX7_moves 20 = .ok (.aload_n 0, 1) := by decide +kernel
theorem dX7_moves_21 : decode cX7_moves 21 = .ok (.iload_n 1, 1) := by decide +kernel
theorem dX7_moves_22 : decode cX7_moves 22 = .ok (.invokevirtual 51, 3) := by decide +kernel
theorem dX7_moves_25 : decode cX7_moves 25 = .ok (.ifCond .ne 21, 3) := by decide +kernel
theorem dX7_moves_28 : decode cX7_moves 28 = .ok (.aload_n 0, 1) := by decide +kernel
theorem dX7_moves_29 : decode cX7_moves 29 = .ok (.getfield 7, 3) := by decide +kernel
theorem dX7_moves_32 : decode cX7_moves 32 = .ok (.iload_n 1, 1) := by decide +kernel
theorem dX7_moves_33 : decode cX7_moves 33 = .ok (.bipush 8, 2) := by decide +kernel
theorem dX7_moves_35 : decode cX7_moves 35 = .ok (.invokestatic 37, 3) := by decide +kernel
theorem dX7_moves_38 : decode cX7_moves 38 = .ok (.iaload, 1) := by decide +kernel
theorem dX7_moves_39 : decode cX7_moves 39 = .ok (.iconst 3, 1) := by decide +kernel
theorem dX7_moves_40 : decode cX7_moves 40 = .ok (.if_icmp .ne 6, 3) := by decide +kernel
theorem dX7_moves_43 : decode cX7_moves 43 = .ok (.bipush (-4), 2) := by decide +kernel
theorem dX7_moves_45 : decode cX7_moves 45 = .ok (.ireturn, 1) := by decide +kernel
theorem dX7_moves_46 : decode cX7_moves 46 = .ok (.aload_n 0, 1) := by decide +kernel
theorem dX7_moves_47 : decode cX7_moves 47 = .ok (.iload_n 1, 1) := by decide +kernel
theorem dX7_moves_48 : decode cX7_moves 48 = .ok (.iload_n 2, 1) := by decide +kernel
theorem dX7_moves_49 : decode cX7_moves 49 = .ok (.invokevirtual 79, 3) := by decide +kernel
theorem dX7_moves_52 : decode cX7_moves 52 = .ok (.aload_n 0, 1) := by decide +kernel
theorem dX7_moves_53 : decode cX7_moves 53 = .ok (.getfield 7, 3) := by decide +kernel
theorem dX7_moves_56 : decode cX7_moves 56 = .ok (.iload_n 1, 1) := by decide +kernel
theorem dX7_moves_57 : decode cX7_moves 57 = .ok (.bipush 8, 2) := by decide +kernel
theorem dX7_moves_59 : decode cX7_moves 59 = .ok (.invokestatic 37, 3) := by decide +kernel
theorem dX7_moves_62 : decode cX7_moves 62 = .ok (.iaload, 1) := by decide +kernel
theorem dX7_moves_63 : decode cX7_moves 63 = .ok (.ireturn, 1) := by decide +kernel
set_option maxRecDepth 20000 in
theorem ggX7_plans_X7_isShaft : GoodIn wsX7_plans wsX7_isShaft := goodIn_r _ [6, 1, 7, 8, 5, 9, 13, 14, 15, 16, 17, 18, 19, 20, 21, 22, 23, 24, 25, 26, 27, 28, 29] (by decide +kernel) (by decide +kernel)
set_option maxRecDepth 20000 in
theorem gX7_plans_X7_isShaft : GoodIn wsX7_plans (wsV RX7 89 RX7 yX7_isShaft wsX7_isShaft) := goodIn_app (goodIn_of _ (by decide +kernel)) ggX7_plans_X7_isShaft
set_option maxRecDepth 20000 in
theorem ggX7_plans_X7_in : GoodIn wsX7_plans wsX7_in := goodIn_r _ [9] (by decide +kernel) (by decide +kernel)
set_option maxRecDepth 20000 in
theorem gX7_plans_X7_in : GoodIn wsX7_plans (va_wsS RX7 33 yX7_in wsX7_in) := goodIn_app (goodIn_of _ (by decide +kernel)) ggX7_plans_X7_in
set_option maxRecDepth 20000 in
theorem ggX7_plans_X7_isPlace : GoodIn wsX7_plans wsX7_isPlace := goodIn_r _ [12, 7, 8, 5, 9] (by decide +kernel) (by decide +kernel)
set_option maxRecDepth 20000 in
theorem gX7_plans_X7_isPlace : GoodIn wsX7_plans (va_wsS RX7 92 yX7_isPlace wsX7_isPlace) := goodIn_app (goodIn_of _ (by decide +kernel)) ggX7_plans_X7_isPlace
theorem dX7_plans_0 : decode cX7_plans 0 = .ok (.aload_n 0, 1) := by decide +kernel
theorem dX7_plans_1 : decode cX7_plans 1 = .ok (.iload_n 2, 1) := by decide +kernel
theorem dX7_plans_2 : decode cX7_plans 2 = .ok (.invokevirtual 89, 3) := by decide +kernel
theorem dX7_plans_5 : decode cX7_plans 5 = .ok (.ifCond .ne 5, 3) := by decide +kernel
theorem dX7_plans_8 : decode cX7_plans 8 = .ok (.iconst (-1), 1) := by decide +kernel
theorem dX7_plans_9 : decode cX7_plans 9 = .ok (.ireturn, 1) := by decide +kernel
theorem dX7_plans_10 : decode cX7_plans 10 = .ok (.iload_n 1, 1) := by decide +kernel
theorem dX7_plans_11 : decode cX7_plans 11 = .ok (.iconst 1, 1) := by decide +kernel
theorem dX7_plans_12 : decode cX7_plans 12 = .ok (.sipush 9999, 3) := by decide +kernel
theorem dX7_plans_15 : decode cX7_plans 15 = .ok (.invokestatic 33, 3) := by decide +kernel
theorem dX7_plans_18 : decode cX7_plans 18 = .ok (.ifCond .eq 10, 3) := by decide +kernel
theorem dX7_plans_21 : decode cX7_plans 21 = .ok (.iload_n 3, 1) := by decide +kernel
theorem dX7_plans_22 : decode cX7_plans 22 = .ok (.invokestatic 92, 3) := by decide +kernel
theorem dX7_plans_25 : decode cX7_plans 25 = .ok (.ifCond .ne 6, 3) := by decide +kernel
theorem dX7_plans_28 : decode cX7_plans 28 = .ok (.bipush (-2), 2) := by decide +kernel
theorem dX7_plans_30 : decode cX7_plans 30 = .ok (.ireturn, 1) := by decide +kernel
theorem dX7_plans_31 : decode cX7_plans 31 = .ok (.aload_n 0, 1) := by decide +kernel
theorem dX7_plans_32 : decode cX7_plans 32 = .ok (.getfield 7, 3) := by decide +kernel
theorem dX7_plans_35 : decode cX7_plans 35 = .ok (.bipush 63, 2) := by decide +kernel
theorem dX7_plans_37 : decode cX7_plans 37 = .ok (.iaload, 1) := by decide +kernel
theorem dX7_plans_38 : decode cX7_plans 38 = .ok (.bipush 12, 2) := by decide +kernel
theorem dX7_plans_40 : decode cX7_plans 40 = .ok (.if_icmp .ne 6, 3) := by decide +kernel
theorem dX7_plans_43 : decode cX7_plans 43 = .ok (.bipush (-4), 2) := by decide +kernel
theorem dX7_plans_45 : decode cX7_plans 45 = .ok (.ireturn, 1) := by decide +kernel
theorem dX7_plans_46 : decode cX7_plans 46 = .ok (.bipush 64, 2) := by decide +kernel
theorem dX7_plans_48 : decode cX7_plans 48 = .ok (.iconst 3, 1) := by decide +kernel
theorem dX7_plans_49 : decode cX7_plans 49 = .ok (.aload_n 0, 1) := by decide +kernel
theorem dX7_plans_50 : decode cX7_plans 50 = .ok (.getfield 7, 3) := by decide +kernel
theorem dX7_plans_53 : decode cX7_plans 53 = .ok (.bipush 63, 2) := by decide +kernel
theorem dX7_plans_55 : decode cX7_plans 55 = .ok (.iaload, 1) := by decide +kernel
theorem dX7_plans_56 : decode cX7_plans 56 = .ok (.imul, 1) := by decide +kernel
theorem dX7_plans_57 : decode cX7_plans 57 = .ok (.iadd, 1) := by decide +kernel
theorem dX7_plans_58 : decode cX7_plans 58 = .ok (.istore 4, 2) := by decide +kernel
theorem dX7_plans_60 : decode cX7_plans 60 = .ok (.aload_n 0, 1) := by decide +kernel
theorem dX7_plans_61 : decode cX7_plans 61 = .ok (.getfield 7, 3) := by decide +kernel
theorem dX7_plans_64 : decode cX7_plans 64 = .ok (.iload 4, 2) := by decide +kernel
theorem dX7_plans_66 : decode cX7_plans 66 = .ok (.aload_n 0, 1) := by decide +kernel
theorem dX7_plans_67 : decode cX7_plans 67 = .ok (.getfield 7, 3) := by decide +kernel
theorem dX7_plans_70 : decode cX7_plans 70 = .ok (.iconst 5, 1) := by decide +kernel
theorem dX7_plans_71 : decode cX7_plans 71 = .ok (.iaload, 1) := by decide +kernel
theorem dX7_plans_72 : decode cX7_plans 72 = .ok (.iload_n 1, 1) := by decide +kernel
theorem dX7_plans_73 : decode cX7_plans 73 = .ok (.iadd, 1) := by decide +kernel
theorem dX7_plans_74 : decode cX7_plans 74 = .ok (.iastore, 1) := by decide +kernel
theorem dX7_plans_75 : decode cX7_plans 75 = .ok (.aload_n 0, 1) := by decide +kernel
theorem dX7_plans_76 : decode cX7_plans 76 = .ok (.getfield 7, 3) := by decide +kernel
theorem dX7_plans_79 : decode cX7_plans 79 = .ok (.iload 4, 2) := by decide +kernel
theorem dX7_plans_81 : decode cX7_plans 81 = .ok (.iconst 1, 1) := by decide +kernel
theorem dX7_plans_82 : decode cX7_plans 82 = .ok (.iadd, 1) := by decide +kernel
theorem dX7_plans_83 : decode cX7_plans 83 = .ok (.iload_n 2, 1) := by decide +kernel
theorem dX7_plans_84 : decode cX7_plans 84 = .ok (.iastore, 1) := by decide +kernel
theorem dX7_plans_85 : decode cX7_plans 85 = .ok (.aload_n 0, 1) := by decide +kernel
theorem dX7_plans_86 : decode cX7_plans 86 = .ok (.getfield 7, 3) := by decide +kernel
theorem dX7_plans_89 : decode cX7_plans 89 = .ok (.iload 4, 2) := by decide +kernel
theorem dX7_plans_91 : decode cX7_plans 91 = .ok (.iconst 2, 1) := by decide +kernel
theorem dX7_plans_92 : decode cX7_plans 92 = .ok (.iadd, 1) := by decide +kernel
theorem dX7_plans_93 : decode cX7_plans 93 = .ok (.iload_n 3, 1) := by decide +kernel
theorem dX7_plans_94 : decode cX7_plans 94 = .ok (.iastore, 1) := by decide +kernel
theorem dX7_plans_95 : decode cX7_plans 95 = .ok (.aload_n 0, 1) := by decide +kernel
theorem dX7_plans_96 : decode cX7_plans 96 = .ok (.getfield 7, 3) := by decide +kernel
theorem dX7_plans_99 : decode cX7_plans 99 = .ok (.bipush 63, 2) := by decide +kernel
theorem dX7_plans_101 : decode cX7_plans 101 = .ok (.dup2, 1) := by decide +kernel
theorem dX7_plans_102 : decode cX7_plans 102 = .ok (.iaload, 1) := by decide +kernel
theorem dX7_plans_103 : decode cX7_plans 103 = .ok (.iconst 1, 1) := by decide +kernel
theorem dX7_plans_104 : decode cX7_plans 104 = .ok (.iadd, 1) := by decide +kernel
theorem dX7_plans_105 : decode cX7_plans 105 = .ok (.iastore, 1) := by decide +kernel
theorem dX7_plans_106 : decode cX7_plans 106 = .ok (.aload_n 0, 1) := by decide +kernel
theorem dX7_plans_107 : decode cX7_plans 107 = .ok (.getfield 7, 3) := by decide +kernel
theorem dX7_plans_110 : decode cX7_plans 110 = .ok (.bipush 63, 2) := by decide +kernel
theorem dX7_plans_112 : decode cX7_plans 112 = .ok (.iaload, 1) := by decide +kernel
theorem dX7_plans_113 : decode cX7_plans 113 = .ok (.ireturn, 1) := by decide +kernel
set_option maxRecDepth 20000 in
theorem ggX7_stops_X7_isShaft : GoodIn wsX7_stops wsX7_isShaft := goodIn_r _ [6, 1, 7, 8, 5, 9, 17, 18, 19, 20, 21, 22, 23, 24, 25, 26, 27, 28, 29, 30, 31, 32, 33] (by decide +kernel) (by decide +kernel)
set_option maxRecDepth 20000 in
theorem gX7_stops_X7_isShaft : GoodIn wsX7_stops (wsV RX7 89 RX7 yX7_isShaft wsX7_isShaft) := goodIn_app (goodIn_of _ (by decide +kernel)) ggX7_stops_X7_isShaft
set_option maxRecDepth 20000 in
theorem ggX7_stops_X7_rests : GoodIn wsX7_stops wsX7_rests := goodIn_r _ [13, 1, 14, 15, 5, 16, 17, 18, 19, 20, 21, 22, 23, 24, 25, 26, 27, 28, 29, 30, 31, 32, 33] (by decide +kernel) (by decide +kernel)
set_option maxRecDepth 20000 in
theorem gX7_stops_X7_rests : GoodIn wsX7_stops (wsV RX7 51 RX7 yX7_rests wsX7_rests) := goodIn_app (goodIn_of _ (by decide +kernel)) ggX7_stops_X7_rests
set_option maxRecDepth 20000 in
theorem ggX7_stops_X7_at : GoodIn wsX7_stops wsX7_at := goodIn_r _ [16] (by decide +kernel) (by decide +kernel)
set_option maxRecDepth 20000 in
theorem gX7_stops_X7_at : GoodIn wsX7_stops (va_wsS RX7 37 yX7_at wsX7_at) := goodIn_app (goodIn_of _ (by decide +kernel)) ggX7_stops_X7_at
theorem dX7_stops_0 : decode cX7_stops 0 = .ok (.aload_n 0, 1) := by decide +kernel
theorem dX7_stops_1 : decode cX7_stops 1 = .ok (.iload_n 1, 1) := by decide +kernel
theorem dX7_stops_2 : decode cX7_stops 2 = .ok (.invokevirtual 89, 3) := by decide +kernel
theorem dX7_stops_5 : decode cX7_stops 5 = .ok (.ifCond .ne 5, 3) := by decide +kernel
theorem dX7_stops_8 : decode cX7_stops 8 = .ok (.iconst (-1), 1) := by decide +kernel
theorem dX7_stops_9 : decode cX7_stops 9 = .ok (.ireturn, 1) := by decide +kernel
theorem dX7_stops_10 : decode cX7_stops 10 = .ok (.aload_n 0, 1) := by decide +kernel
theorem dX7_stops_11 : decode cX7_stops 11 = .ok (.iload_n 1, 1) := by decide +kernel
theorem dX7_stops_12 : decode cX7_stops 12 = .ok (.invokevirtual 51, 3) := by decide +kernel
theorem dX7_stops_15 : decode cX7_stops 15 = .ok (.ifCond .eq 6, 3) := by decide +kernel
theorem dX7_stops_18 : decode cX7_stops 18 = .ok (.bipush (-5), 2) := by decide +kernel
theorem dX7_stops_20 : decode cX7_stops 20 = .ok (.ireturn, 1) := by decide +kernel
theorem dX7_stops_21 : decode cX7_stops 21 = .ok (.iconst 0, 1) := by decide +kernel
theorem dX7_stops_22 : decode cX7_stops 22 = .ok (.istore_n 2, 1) := by decide +kernel
theorem dX7_stops_23 : decode cX7_stops 23 = .ok (.iload_n 2, 1) := by decide +kernel
theorem dX7_stops_24 : decode cX7_stops 24 = .ok (.iconst 3, 1) := by decide +kernel
theorem dX7_stops_25 : decode cX7_stops 25 = .ok (.if_icmp .ge 23, 3) := by decide +kernel
theorem dX7_stops_28 : decode cX7_stops 28 = .ok (.aload_n 0, 1) := by decide +kernel
theorem dX7_stops_29 : decode cX7_stops 29 = .ok (.getfield 7, 3) := by decide +kernel
theorem dX7_stops_32 : decode cX7_stops 32 = .ok (.iload_n 1, 1) := by decide +kernel
theorem dX7_stops_33 : decode cX7_stops 33 = .ok (.bipush 9, 2) := by decide +kernel
theorem dX7_stops_35 : decode cX7_stops 35 = .ok (.iload_n 2, 1) := by decide +kernel
theorem dX7_stops_36 : decode cX7_stops 36 = .ok (.iadd, 1) := by decide +kernel
theorem dX7_stops_37 : decode cX7_stops 37 = .ok (.invokestatic 37, 3) := by decide +kernel
theorem dX7_stops_40 : decode cX7_stops 40 = .ok (.iconst 0, 1) := by decide +kernel
theorem dX7_stops_41 : decode cX7_stops 41 = .ok (.iastore, 1) := by decide +kernel
theorem dX7_stops_42 : decode cX7_stops 42 = .ok (.iinc 2 1, 3) := by decide +kernel
theorem dX7_stops_45 : decode cX7_stops 45 = .ok (.goto (-22), 3) := by decide +kernel
theorem dX7_stops_48 : decode cX7_stops 48 = .ok (.aload_n 0, 1) := by decide +kernel
theorem dX7_stops_49 : decode cX7_stops 49 = .ok (.getfield 7, 3) := by decide +kernel
theorem dX7_stops_52 : decode cX7_stops 52 = .ok (.iload_n 1, 1) := by decide +kernel
theorem dX7_stops_53 : decode cX7_stops 53 = .ok (.bipush 8, 2) := by decide +kernel
theorem dX7_stops_55 : decode cX7_stops 55 = .ok (.invokestatic 37, 3) := by decide +kernel
theorem dX7_stops_58 : decode cX7_stops 58 = .ok (.iconst 0, 1) := by decide +kernel
theorem dX7_stops_59 : decode cX7_stops 59 = .ok (.iastore, 1) := by decide +kernel
theorem dX7_stops_60 : decode cX7_stops 60 = .ok (.aload_n 0, 1) := by decide +kernel
theorem dX7_stops_61 : decode cX7_stops 61 = .ok (.getfield 7, 3) := by decide +kernel
theorem dX7_stops_64 : decode cX7_stops 64 = .ok (.iload_n 1, 1) := by decide +kernel
theorem dX7_stops_65 : decode cX7_stops 65 = .ok (.iconst 5, 1) := by decide +kernel
theorem dX7_stops_66 : decode cX7_stops 66 = .ok (.invokestatic 37, 3) := by decide +kernel
theorem dX7_stops_69 : decode cX7_stops 69 = .ok (.iaload, 1) := by decide +kernel
theorem dX7_stops_70 : decode cX7_stops 70 = .ok (.aload_n 0, 1) := by decide +kernel
theorem dX7_stops_71 : decode cX7_stops 71 = .ok (.getfield 7, 3) := by decide +kernel
theorem dX7_stops_74 : decode cX7_stops 74 = .ok (.iload_n 1, 1) := by decide +kernel
theorem dX7_stops_75 : decode cX7_stops 75 = .ok (.bipush 6, 2) := by decide +kernel
theorem dX7_stops_77 : decode cX7_stops 77 = .ok (.invokestatic 37, 3) := by decide +kernel
theorem dX7_stops_80 : decode cX7_stops 80 = .ok (.iaload, 1) := by decide +kernel
theorem dX7_stops_81 : decode cX7_stops 81 = .ok (.if_icmp .le 24, 3) := by decide +kernel
theorem dX7_stops_84 : decode cX7_stops 84 = .ok (.aload_n 0, 1) := by decide +kernel
theorem dX7_stops_85 : decode cX7_stops 85 = .ok (.getfield 7, 3) := by decide +kernel
theorem dX7_stops_88 : decode cX7_stops 88 = .ok (.iload_n 1, 1) := by decide +kernel
theorem dX7_stops_89 : decode cX7_stops 89 = .ok (.iconst 5, 1) := by decide +kernel
theorem dX7_stops_90 : decode cX7_stops 90 = .ok (.invokestatic 37, 3) := by decide +kernel
theorem dX7_stops_93 : decode cX7_stops 93 = .ok (.aload_n 0, 1) := by decide +kernel
theorem dX7_stops_94 : decode cX7_stops 94 = .ok (.getfield 7, 3) := by decide +kernel
theorem dX7_stops_97 : decode cX7_stops 97 = .ok (.iload_n 1, 1) := by decide +kernel
theorem dX7_stops_98 : decode cX7_stops 98 = .ok (.bipush 6, 2) := by decide +kernel
theorem dX7_stops_100 : decode cX7_stops 100 = .ok (.invokestatic 37, 3) := by decide +kernel
theorem dX7_stops_103 : decode cX7_stops 103 = .ok (.iaload, 1) := by decide +kernel
theorem dX7_stops_104 : decode cX7_stops 104 = .ok (.iastore, 1) := by decide +kernel
theorem dX7_stops_105 : decode cX7_stops 105 = .ok (.aload_n 0, 1) := by decide +kernel
theorem dX7_stops_106 : decode cX7_stops 106 = .ok (.getfield 7, 3) := by decide +kernel
theorem dX7_stops_109 : decode cX7_stops 109 = .ok (.iload_n 1, 1) := by decide +kernel
theorem dX7_stops_110 : decode cX7_stops 110 = .ok (.iconst 5, 1) := by decide +kernel
theorem dX7_stops_111 : decode cX7_stops 111 = .ok (.invokestatic 37, 3) := by decide +kernel
theorem dX7_stops_114 : decode cX7_stops 114 = .ok (.iaload, 1) := by decide +kernel
theorem dX7_stops_115 : decode cX7_stops 115 = .ok (.ireturn, 1) := by decide +kernel
set_option maxRecDepth 20000 in
theorem ggX7_homes_X7_isShaft : GoodIn wsX7_homes wsX7_isShaft := goodIn_r _ [7, 1, 8, 9, 6, 10, 18, 19, 20, 21, 22, 23, 24, 25, 26, 27, 28, 29, 30, 31, 32, 33, 34] (by decide +kernel) (by decide +kernel)
set_option maxRecDepth 20000 in
theorem gX7_homes_X7_isShaft : GoodIn wsX7_homes (wsV RX7 89 RX7 yX7_isShaft wsX7_isShaft) := goodIn_app (goodIn_of _ (by decide +kernel)) ggX7_homes_X7_isShaft
set_option maxRecDepth 20000 in
theorem ggX7_homes_X7_rests : GoodIn wsX7_homes wsX7_rests := goodIn_r _ [14, 1, 15, 16, 6, 17, 18, 19, 20, 21, 22, 23, 24, 25, 26, 27, 28, 29, 30, 31, 32, 33, 34] (by decide +kernel) (by decide +kernel)
set_option maxRecDepth 20000 in
theorem gX7_homes_X7_rests : GoodIn wsX7_homes (wsV RX7 51 RX7 yX7_rests wsX7_rests) := goodIn_app (goodIn_of _ (by decide +kernel)) ggX7_homes_X7_rests
set_option maxRecDepth 20000 in
theorem ggX7_homes_X7_at : GoodIn wsX7_homes wsX7_at := goodIn_r _ [17] (by decide +kernel) (by decide +kernel)
set_option maxRecDepth 20000 in
theorem gX7_homes_X7_at : GoodIn wsX7_homes (va_wsS RX7 37 yX7_at wsX7_at) := goodIn_app (goodIn_of _ (by decide +kernel)) ggX7_homes_X7_at
theorem dX7_homes_0 : decode cX7_homes 0 = .ok (.aload_n 0, 1) := by decide +kernel
theorem dX7_homes_1 : decode cX7_homes 1 = .ok (.iload_n 1, 1) := by decide +kernel
theorem dX7_homes_2 : decode cX7_homes 2 = .ok (.invokevirtual 89, 3) := by decide +kernel
theorem dX7_homes_5 : decode cX7_homes 5 = .ok (.ifCond .ne 5, 3) := by decide +kernel
theorem dX7_homes_8 : decode cX7_homes 8 = .ok (.iconst (-1), 1) := by decide +kernel
theorem dX7_homes_9 : decode cX7_homes 9 = .ok (.ireturn, 1) := by decide +kernel
theorem dX7_homes_10 : decode cX7_homes 10 = .ok (.aload_n 0, 1) := by decide +kernel
theorem dX7_homes_11 : decode cX7_homes 11 = .ok (.iload_n 1, 1) := by decide +kernel
theorem dX7_homes_12 : decode cX7_homes 12 = .ok (.invokevirtual 51, 3) := by decide +kernel
theorem dX7_homes_15 : decode cX7_homes 15 = .ok (.ifCond .ne 6, 3) := by decide +kernel
theorem dX7_homes_18 : decode cX7_homes 18 = .ok (.bipush (-5), 2) := by decide +kernel
theorem dX7_homes_20 : decode cX7_homes 20 = .ok (.ireturn, 1) := by decide +kernel
theorem dX7_homes_21 : decode cX7_homes 21 = .ok (.aload_n 0, 1) := by decide +kernel
theorem dX7_homes_22 : decode cX7_homes 22 = .ok (.getfield 7, 3) := by decide +kernel
theorem dX7_homes_25 : decode cX7_homes 25 = .ok (.iload_n 1, 1) := by decide +kernel
theorem dX7_homes_26 : decode cX7_homes 26 = .ok (.iconst 2, 1) := by decide +kernel
theorem dX7_homes_27 : decode cX7_homes 27 = .ok (.invokestatic 37, 3) := by decide +kernel
theorem dX7_homes_30 : decode cX7_homes 30 = .ok (.iaload, 1) := by decide +kernel
theorem dX7_homes_31 : decode cX7_homes 31 = .ok (.aload_n 0, 1) := by decide +kernel
theorem dX7_homes_32 : decode cX7_homes 32 = .ok (.getfield 7, 3) := by decide +kernel
theorem dX7_homes_35 : decode cX7_homes 35 = .ok (.iload_n 1, 1) := by decide +kernel
theorem dX7_homes_36 : decode cX7_homes 36 = .ok (.iconst 3, 1) := by decide +kernel
theorem dX7_homes_37 : decode cX7_homes 37 = .ok (.invokestatic 37, 3) := by decide +kernel
theorem dX7_homes_40 : decode cX7_homes 40 = .ok (.iaload, 1) := by decide +kernel
theorem dX7_homes_41 : decode cX7_homes 41 = .ok (.isub, 1) := by decide +kernel
theorem dX7_homes_42 : decode cX7_homes 42 = .ok (.istore_n 2, 1) := by decide +kernel
theorem dX7_homes_43 : decode cX7_homes 43 = .ok (.aload_n 0, 1) := by decide +kernel
theorem dX7_homes_44 : decode cX7_homes 44 = .ok (.getfield 7, 3) := by decide +kernel
theorem dX7_homes_47 : decode cX7_homes 47 = .ok (.iload_n 1, 1) := by decide +kernel
theorem dX7_homes_48 : decode cX7_homes 48 = .ok (.iconst 2, 1) := by decide +kernel
theorem dX7_homes_49 : decode cX7_homes 49 = .ok (.invokestatic 37, 3) := by decide +kernel
theorem dX7_homes_52 : decode cX7_homes 52 = .ok (.aload_n 0, 1) := by decide +kernel
theorem dX7_homes_53 : decode cX7_homes 53 = .ok (.getfield 7, 3) := by decide +kernel
theorem dX7_homes_56 : decode cX7_homes 56 = .ok (.iload_n 1, 1) := by decide +kernel
theorem dX7_homes_57 : decode cX7_homes 57 = .ok (.iconst 3, 1) := by decide +kernel
theorem dX7_homes_58 : decode cX7_homes 58 = .ok (.invokestatic 37, 3) := by decide +kernel
theorem dX7_homes_61 : decode cX7_homes 61 = .ok (.iaload, 1) := by decide +kernel
theorem dX7_homes_62 : decode cX7_homes 62 = .ok (.iastore, 1) := by decide +kernel
theorem dX7_homes_63 : decode cX7_homes 63 = .ok (.iload_n 2, 1) := by decide +kernel
theorem dX7_homes_64 : decode cX7_homes 64 = .ok (.ldc 95, 2) := by decide +kernel
theorem dX7_homes_66 : decode cX7_homes 66 = .ok (.iadd, 1) := by decide +kernel
theorem dX7_homes_67 : decode cX7_homes 67 = .ok (.ireturn, 1) := by decide +kernel
set_option maxRecDepth 20000 in
theorem ggX7_passes_X7_in : GoodIn wsX7_passes wsX7_in := goodIn_r _ [6] (by decide +kernel) (by decide +kernel)
set_option maxRecDepth 20000 in
theorem gX7_passes_X7_in : GoodIn wsX7_passes (va_wsS RX7 33 yX7_in wsX7_in) := goodIn_app (goodIn_of _ (by decide +kernel)) ggX7_passes_X7_in
set_option maxRecDepth 20000 in
theorem ggX7_passes_X7_ticks : GoodIn wsX7_passes wsX7_ticks := goodIn_r _ [10, 1, 11, 12, 13, 5, 14, 15, 16, 17, 18, 19, 20, 21, 22, 23, 24, 25, 26, 27, 28, 29, 30, 31, 32, 33, 34, 35, 36, 37, 38, 39, 40, 41, 42, 43, 44, 45, 46, 47, 48, 49, 50, 51, 52, 53, 54, 55, 56, 57, 58, 59, 60, 61, 62, 63, 64, 65, 66, 67, 68, 69, 70, 71, 72, 73, 74, 75] (by decide +kernel) (by decide +kernel)
set_option maxRecDepth 20000 in
theorem gX7_passes_X7_ticks : GoodIn wsX7_passes (wsV RX7 97 RX7 yX7_ticks wsX7_ticks) := goodIn_app (goodIn_of _ (by decide +kernel)) ggX7_passes_X7_ticks
theorem dX7_passes_0 : decode cX7_passes 0 = .ok (.iload_n 1, 1) := by decide +kernel
theorem dX7_passes_1 : decode cX7_passes 1 = .ok (.iconst 1, 1) := by decide +kernel
theorem dX7_passes_2 : decode cX7_passes 2 = .ok (.sipush 999, 3) := by decide +kernel
theorem dX7_passes_5 : decode cX7_passes 5 = .ok (.invokestatic 33, 3) := by decide +kernel
theorem dX7_passes_8 : decode cX7_passes 8 = .ok (.ifCond .ne 6, 3) := by decide +kernel
theorem dX7_passes_11 : decode cX7_passes 11 = .ok (.bipush (-2), 2) := by decide +kernel
theorem dX7_passes_13 : decode cX7_passes 13 = .ok (.ireturn, 1) := by decide +kernel
theorem dX7_passes_14 : decode cX7_passes 14 = .ok (.aload_n 0, 1) := by decide +kernel
theorem dX7_passes_15 : decode cX7_passes 15 = .ok (.getfield 7, 3) := by decide +kernel
theorem dX7_passes_18 : decode cX7_passes 18 = .ok (.iconst 5, 1) := by decide +kernel
theorem dX7_passes_19 : decode cX7_passes 19 = .ok (.iaload, 1) := by decide +kernel
theorem dX7_passes_20 : decode cX7_passes 20 = .ok (.iload_n 1, 1) := by decide +kernel
theorem dX7_passes_21 : decode cX7_passes 21 = .ok (.iadd, 1) := by decide +kernel
theorem dX7_passes_22 : decode cX7_passes 22 = .ok (.ldc 96, 2) := by decide +kernel
theorem dX7_passes_24 : decode cX7_passes 24 = .ok (.if_icmp .le 6, 3) := by decide +kernel
theorem dX7_passes_27 : decode cX7_passes 27 = .ok (.bipush (-5), 2) := by decide +kernel
theorem dX7_passes_29 : decode cX7_passes 29 = .ok (.ireturn, 1) := by decide +kernel
theorem dX7_passes_30 : decode cX7_passes 30 = .ok (.iconst 0, 1) := by decide +kernel
theorem dX7_passes_31 : decode cX7_passes 31 = .ok (.istore_n 2, 1) := by decide +kernel
theorem dX7_passes_32 : decode cX7_passes 32 = .ok (.iconst 0, 1) := by decide +kernel
theorem dX7_passes_33 : decode cX7_passes 33 = .ok (.istore_n 3, 1) := by decide +kernel
theorem dX7_passes_34 : decode cX7_passes 34 = .ok (.iload_n 3, 1) := by decide +kernel
theorem dX7_passes_35 : decode cX7_passes 35 = .ok (.iload_n 1, 1) := by decide +kernel
theorem dX7_passes_36 : decode cX7_passes 36 = .ok (.if_icmp .ge 16, 3) := by decide +kernel
theorem dX7_passes_39 : decode cX7_passes 39 = .ok (.iload_n 2, 1) := by decide +kernel
theorem dX7_passes_40 : decode cX7_passes 40 = .ok (.aload_n 0, 1) := by decide +kernel
theorem dX7_passes_41 : decode cX7_passes 41 = .ok (.invokevirtual 97, 3) := by decide +kernel
theorem dX7_passes_44 : decode cX7_passes 44 = .ok (.iadd, 1) := by decide +kernel
theorem dX7_passes_45 : decode cX7_passes 45 = .ok (.istore_n 2, 1) := by decide +kernel
theorem dX7_passes_46 : decode cX7_passes 46 = .ok (.iinc 3 1, 3) := by decide +kernel
theorem dX7_passes_49 : decode cX7_passes 49 = .ok (.goto (-15), 3) := by decide +kernel
theorem dX7_passes_52 : decode cX7_passes 52 = .ok (.iload_n 2, 1) := by decide +kernel
theorem dX7_passes_53 : decode cX7_passes 53 = .ok (.ireturn, 1) := by decide +kernel
set_option maxRecDepth 20000 in
theorem ggX7_change_X7_records : GoodIn wsX7_change wsX7_records := goodIn_r _ [7, 8, 9, 1, 14, 15, 16, 17, 18, 19, 20, 21, 22, 23, 24, 25, 26, 27, 28, 29, 30] (by decide +kernel) (by decide +kernel)
set_option maxRecDepth 20000 in
theorem gX7_change_X7_records : GoodIn wsX7_change (wsV RX7 101 RX7 yX7_records wsX7_records) := goodIn_app (goodIn_of _ (by decide +kernel)) ggX7_change_X7_records
set_option maxRecDepth 20000 in
theorem ggX7_change_X7_putBack : GoodIn wsX7_change wsX7_putBack := goodIn_r _ [13, 1, 2, 14, 15, 16, 17, 18, 19, 20, 21, 22, 23, 24, 25, 26, 27, 28, 29, 30] (by decide +kernel) (by decide +kernel)
set_option maxRecDepth 20000 in
theorem gX7_change_X7_putBack : GoodIn wsX7_change (wsV RX7 104 RX7 yX7_putBack wsX7_putBack) := goodIn_app (goodIn_of _ (by decide +kernel)) ggX7_change_X7_putBack
theorem dX7_change_0 : decode cX7_change 0 = .ok (.iload_n 1, 1) := by decide +kernel
theorem dX7_change_1 : decode cX7_change 1 = .ok (.ifCond .ge 5, 3) := by decide +kernel
theorem dX7_change_4 : decode cX7_change 4 = .ok (.iload_n 1, 1) := by decide +kernel
theorem dX7_change_5 : decode cX7_change 5 = .ok (.ireturn, 1) := by decide +kernel
theorem dX7_change_6 : decode cX7_change 6 = .ok (.iconst 0, 1) := by decide +kernel
theorem dX7_change_7 : decode cX7_change 7 = .ok (.istore_n 2, 1) := by decide +kernel
theorem dX7_change_8 : decode cX7_change 8 = .ok (.iload_n 2, 1) := by decide +kernel
theorem dX7_change_9 : decode cX7_change 9 = .ok (.bipush 100, 2) := by decide +kernel
theorem dX7_change_11 : decode cX7_change 11 = .ok (.if_icmp .ge 35, 3) := by decide +kernel
theorem dX7_change_14 : decode cX7_change 14 = .ok (.aload_n 0, 1) := by decide +kernel
theorem dX7_change_15 : decode cX7_change 15 = .ok (.getfield 7, 3) := by decide +kernel
theorem dX7_change_18 : decode cX7_change 18 = .ok (.iload_n 2, 1) := by decide +kernel
theorem dX7_change_19 : decode cX7_change 19 = .ok (.iaload, 1) := by decide +kernel
theorem dX7_change_20 : decode cX7_change 20 = .ok (.istore_n 3, 1) := by decide +kernel
theorem dX7_change_21 : decode cX7_change 21 = .ok (.aload_n 0, 1) := by decide +kernel
theorem dX7_change_22 : decode cX7_change 22 = .ok (.getfield 7, 3) := by decide +kernel
theorem dX7_change_25 : decode cX7_change 25 = .ok (.iload_n 2, 1) := by decide +kernel
theorem dX7_change_26 : decode cX7_change 26 = .ok (.aload_n 0, 1) := by decide +kernel
theorem dX7_change_27 : decode cX7_change 27 = .ok (.getfield 13, 3) := by decide +kernel
theorem dX7_change_30 : decode cX7_change 30 = .ok (.iload_n 2, 1) := by decide +kernel
theorem dX7_change_31 : decode cX7_change 31 = .ok (.iaload, 1) := by decide +kernel
theorem dX7_change_32 : decode cX7_change 32 = .ok (.iastore, 1) := by decide +kernel
theorem dX7_change_33 : decode cX7_change 33 = .ok (.aload_n 0, 1) := by decide +kernel
theorem dX7_change_34 : decode cX7_change 34 = .ok (.getfield 13, 3) := by decide +kernel
theorem dX7_change_37 : decode cX7_change 37 = .ok (.iload_n 2, 1) := by decide +kernel
theorem dX7_change_38 : decode cX7_change 38 = .ok (.iload_n 3, 1) := by decide +kernel
theorem dX7_change_39 : decode cX7_change 39 = .ok (.iastore, 1) := by decide +kernel
theorem dX7_change_40 : decode cX7_change 40 = .ok (.iinc 2 1, 3) := by decide +kernel
theorem dX7_change_43 : decode cX7_change 43 = .ok (.goto (-35), 3) := by decide +kernel
theorem dX7_change_46 : decode cX7_change 46 = .ok (.aload_n 0, 1) := by decide +kernel
theorem dX7_change_47 : decode cX7_change 47 = .ok (.invokevirtual 101, 3) := by decide +kernel
theorem dX7_change_50 : decode cX7_change 50 = .ok (.aload_n 0, 1) := by decide +kernel
theorem dX7_change_51 : decode cX7_change 51 = .ok (.invokevirtual 104, 3) := by decide +kernel
theorem dX7_change_54 : decode cX7_change 54 = .ok (.iload_n 1, 1) := by decide +kernel
theorem dX7_change_55 : decode cX7_change 55 = .ok (.ireturn, 1) := by decide +kernel
set_option maxRecDepth 20000 in
theorem ggX7_set_X7_in : GoodIn wsX7_set wsX7_in := goodIn_r _ [5] (by decide +kernel) (by decide +kernel)
set_option maxRecDepth 20000 in
theorem gX7_set_X7_in : GoodIn wsX7_set (va_wsS RX7 33 yX7_in wsX7_in) := goodIn_app (goodIn_of _ (by decide +kernel)) ggX7_set_X7_in
set_option maxRecDepth 20000 in
theorem ggX7_set_X7_least : GoodIn wsX7_set wsX7_least := goodIn_r _ [8] (by decide +kernel) (by decide +kernel)
set_option maxRecDepth 20000 in
theorem gX7_set_X7_least : GoodIn wsX7_set (va_wsS RX7 107 yX7_least wsX7_least) := goodIn_app (goodIn_of _ (by decide +kernel)) ggX7_set_X7_least
set_option maxRecDepth 20000 in
theorem ggX7_set_X7_most : GoodIn wsX7_set wsX7_most := goodIn_r _ [11] (by decide +kernel) (by decide +kernel)
set_option maxRecDepth 20000 in
theorem gX7_set_X7_most : GoodIn wsX7_set (va_wsS RX7 110 yX7_most wsX7_most) := goodIn_app (goodIn_of _ (by decide +kernel)) ggX7_set_X7_most
set_option maxRecDepth 20000 in
theorem ggX7_set_X7_records : GoodIn wsX7_set wsX7_records := goodIn_r _ [15, 16, 17, 1, 18, 19, 20, 21, 22, 23, 24, 25, 26, 27, 28, 29, 30, 31, 32, 33, 34] (by decide +kernel) (by decide +kernel)
set_option maxRecDepth 20000 in
theorem gX7_set_X7_records : GoodIn wsX7_set (wsV RX7 101 RX7 yX7_records wsX7_records) := goodIn_app (goodIn_of _ (by decide +kernel)) ggX7_set_X7_records
theorem dX7_set_0 : decode cX7_set 0 = .ok (.iload_n 1, 1) := by decide +kernel
theorem dX7_set_1 : decode cX7_set 1 = .ok (.iconst 0, 1) := by decide +kernel
theorem dX7_set_2 : decode cX7_set 2 = .ok (.iconst 4, 1) := by decide +kernel
theorem dX7_set_3 : decode cX7_set 3 = .ok (.invokestatic 33, 3) := by decide +kernel
theorem dX7_set_6 : decode cX7_set 6 = .ok (.ifCond .eq 18, 3) := by decide +kernel
theorem dX7_set_9 : decode cX7_set 9 = .ok (.iload_n 2, 1) := by decide +kernel
theorem dX7_set_10 : decode cX7_set 10 = .ok (.iload_n 1, 1) := by decide +kernel
theorem dX7_set_11 : decode cX7_set 11 = .ok (.invokestatic 107, 3) := by decide +kernel
theorem dX7_set_14 : decode cX7_set 14 = .ok (.iload_n 1, 1) := by decide +kernel
theorem dX7_set_15 : decode cX7_set 15 = .ok (.invokestatic 110, 3) := by decide +kernel
theorem dX7_set_18 : decode cX7_set 18 = .ok (.invokestatic 33, 3) := by decide +kernel
theorem dX7_set_21 : decode cX7_set 21 = .ok (.ifCond .ne 6, 3) := by decide +kernel
theorem dX7_set_24 : decode cX7_set 24 = .ok (.bipush (-2), 2) := by decide +kernel
theorem dX7_set_26 : decode cX7_set 26 = .ok (.ireturn, 1) := by decide +kernel
theorem dX7_set_27 : decode cX7_set 27 = .ok (.aload_n 0, 1) := by decide +kernel
theorem dX7_set_28 : decode cX7_set 28 = .ok (.invokevirtual 101, 3) := by decide +kernel
theorem dX7_set_31 : decode cX7_set 31 = .ok (.aload_n 0, 1) := by decide +kernel
theorem dX7_set_32 : decode cX7_set 32 = .ok (.getfield 7, 3) := by decide +kernel
theorem dX7_set_35 : decode cX7_set 35 = .ok (.iload_n 1, 1) := by decide +kernel
theorem dX7_set_36 : decode cX7_set 36 = .ok (.iaload, 1) := by decide +kernel
theorem dX7_set_37 : decode cX7_set 37 = .ok (.istore_n 3, 1) := by decide +kernel
theorem dX7_set_38 : decode cX7_set 38 = .ok (.aload_n 0, 1) := by decide +kernel
theorem dX7_set_39 : decode cX7_set 39 = .ok (.getfield 7, 3) := by decide +kernel
theorem dX7_set_42 : decode cX7_set 42 = .ok (.iload_n 1, 1) := by decide +kernel
theorem dX7_set_43 : decode cX7_set 43 = .ok (.iload_n 2, 1) := by decide +kernel
theorem dX7_set_44 : decode cX7_set 44 = .ok (.iastore, 1) := by decide +kernel
theorem dX7_set_45 : decode cX7_set 45 = .ok (.iload_n 3, 1) := by decide +kernel
theorem dX7_set_46 : decode cX7_set 46 = .ok (.ireturn, 1) := by decide +kernel
set_option maxRecDepth 20000 in
theorem ggX7_shaft_X7_putAside : GoodIn wsX7_shaft wsX7_putAside := goodIn_r _ [5, 6, 7, 29, 30, 31, 32, 33, 34, 35, 36, 37, 38, 39, 40, 41, 42, 43, 44, 45] (by decide +kernel) (by decide +kernel)
set_option maxRecDepth 20000 in
theorem gX7_shaft_X7_putAside : GoodIn wsX7_shaft (wsV RX7 113 RX7 yX7_putAside wsX7_putAside) := goodIn_app (goodIn_of _ (by decide +kernel)) ggX7_shaft_X7_putAside
set_option maxRecDepth 20000 in
theorem ggX7_shaft_X7_addsShaft : GoodIn wsX7_shaft wsX7_addsShaft := goodIn_r _ [11, 7, 12, 13, 4, 14, 29, 30, 31, 32, 33, 34, 35, 36, 37, 38, 39, 40, 41, 42, 43, 44, 45] (by decide +kernel) (by decide +kernel)
set_option maxRecDepth 20000 in
theorem gX7_shaft_X7_addsShaft : GoodIn wsX7_shaft (wsV RX7 116 RX7 yX7_addsShaft wsX7_addsShaft) := goodIn_app (goodIn_of _ (by decide +kernel)) ggX7_shaft_X7_addsShaft
set_option maxRecDepth 20000 in
theorem ggX7_shaft_X7_change : GoodIn wsX7_shaft wsX7_change := goodIn_r _ [18, 7, 6, 19, 20, 21, 4, 22, 23, 24, 25, 26, 27, 28, 29, 30, 31, 32, 33, 34, 35, 36, 37, 38, 39, 40, 41, 42, 43, 44, 45] (by decide +kernel) (by decide +kernel)
set_option maxRecDepth 20000 in
theorem gX7_shaft_X7_change : GoodIn wsX7_shaft (wsV RX7 119 RX7 yX7_change wsX7_change) := goodIn_app (goodIn_of _ (by decide +kernel)) ggX7_shaft_X7_change
theorem dX7_shaft_0 : decode cX7_shaft 0 = .ok (.aload_n 0, 1) := by decide +kernel
theorem dX7_shaft_1 : decode cX7_shaft 1 = .ok (.invokevirtual 113, 3) := by decide +kernel
theorem dX7_shaft_4 : decode cX7_shaft 4 = .ok (.aload_n 0, 1) := by decide +kernel
theorem dX7_shaft_5 : decode cX7_shaft 5 = .ok (.aload_n 0, 1) := by decide +kernel
theorem dX7_shaft_6 : decode cX7_shaft 6 = .ok (.iload_n 1, 1) := by decide +kernel
theorem dX7_shaft_7 : decode cX7_shaft 7 = .ok (.invokevirtual 116, 3) := by decide +kernel
theorem dX7_shaft_10 : decode cX7_shaft 10 = .ok (.invokevirtual 119, 3) := by decide +kernel
theorem dX7_shaft_13 : decode cX7_shaft 13 = .ok (.ireturn, 1) := by decide +kernel
set_option maxRecDepth 20000 in
theorem ggX7_load_X7_putAside : GoodIn wsX7_load wsX7_putAside := goodIn_r _ [5, 6, 7, 36, 37, 38, 39, 40, 41, 42, 43, 44, 45, 46, 47, 48, 49, 50, 51, 52] (by decide +kernel) (by decide +kernel)
set_option maxRecDepth 20000 in
theorem gX7_load_X7_putAside : GoodIn wsX7_load (wsV RX7 113 RX7 yX7_putAside wsX7_putAside) := goodIn_app (goodIn_of _ (by decide +kernel)) ggX7_load_X7_putAside
set_option maxRecDepth 20000 in
theorem ggX7_load_X7_loads : GoodIn wsX7_load wsX7_loads := goodIn_r _ [11, 7, 12, 13, 14, 4, 15, 16, 17, 18, 19, 20, 21, 36, 37, 38, 39, 40, 41, 42, 43, 44, 45, 46, 47, 48, 49, 50, 51, 52] (by decide +kernel) (by decide +kernel)
set_option maxRecDepth 20000 in
theorem gX7_load_X7_loads : GoodIn wsX7_load (wsV RX7 122 RX7 yX7_loads wsX7_loads) := goodIn_app (goodIn_of _ (by decide +kernel)) ggX7_load_X7_loads
set_option maxRecDepth 20000 in
theorem ggX7_load_X7_change : GoodIn wsX7_load wsX7_change := goodIn_r _ [25, 7, 6, 26, 27, 28, 4, 29, 30, 31, 32, 33, 34, 35, 36, 37, 38, 39, 40, 41, 42, 43, 44, 45, 46, 47, 48, 49, 50, 51, 52] (by decide +kernel) (by decide +kernel)
set_option maxRecDepth 20000 in
theorem gX7_load_X7_change : GoodIn wsX7_load (wsV RX7 119 RX7 yX7_change wsX7_change) := goodIn_app (goodIn_of _ (by decide +kernel)) ggX7_load_X7_change
theorem dX7_load_0 : decode cX7_load 0 = .ok (.aload_n 0, 1) := by decide +kernel
theorem dX7_load_1 : decode cX7_load 1 = .ok (.invokevirtual 113, 3) := by decide +kernel
theorem dX7_load_4 : decode cX7_load 4 = .ok (.aload_n 0, 1) := by decide +kernel
theorem dX7_load_5 : decode cX7_load 5 = .ok (.aload_n 0, 1) := by decide +kernel
theorem dX7_load_6 : decode cX7_load 6 = .ok (.iload_n 1, 1) := by decide +kernel
theorem dX7_load_7 : decode cX7_load 7 = .ok (.iload_n 2, 1) := by decide +kernel
theorem dX7_load_8 : decode cX7_load 8 = .ok (.invokevirtual 122, 3) := by decide +kernel
theorem dX7_load_11 : decode cX7_load 11 = .ok (.invokevirtual 119, 3) := by decide +kernel
theorem dX7_load_14 : decode cX7_load 14 = .ok (.ireturn, 1) := by decide +kernel
set_option maxRecDepth 20000 in
theorem ggX7_move_X7_putAside : GoodIn wsX7_move wsX7_putAside := goodIn_r _ [5, 6, 7, 58, 59, 60, 61, 62, 63, 64, 65, 66, 67, 68, 69, 70, 71, 72, 73, 74] (by decide +kernel) (by decide +kernel)
set_option maxRecDepth 20000 in
theorem gX7_move_X7_putAside : GoodIn wsX7_move (wsV RX7 113 RX7 yX7_putAside wsX7_putAside) := goodIn_app (goodIn_of _ (by decide +kernel)) ggX7_move_X7_putAside
set_option maxRecDepth 20000 in
theorem ggX7_move_X7_moves : GoodIn wsX7_move wsX7_moves := goodIn_r _ [11, 7, 12, 13, 14, 4, 15, 16, 17, 18, 19, 20, 21, 22, 23, 24, 25, 26, 27, 28, 29, 30, 31, 32, 33, 34, 35, 36, 37, 38, 39, 40, 41, 42, 43, 58, 59, 60, 61, 62, 63, 64, 65, 66, 67, 68, 69, 70, 71, 72, 73, 74] (by decide +kernel) (by decide +kernel)
set_option maxRecDepth 20000 in
theorem gX7_move_X7_moves : GoodIn wsX7_move (wsV RX7 125 RX7 yX7_moves wsX7_moves) := goodIn_app (goodIn_of _ (by decide +kernel)) ggX7_move_X7_moves
set_option maxRecDepth 20000 in
theorem ggX7_move_X7_change : GoodIn wsX7_move wsX7_change := goodIn_r _ [47, 7, 6, 48, 49, 50, 4, 51, 52, 53, 54, 55, 56, 57, 58, 59, 60, 61, 62, 63, 64, 65, 66, 67, 68, 69, 70, 71, 72, 73, 74] (by decide +kernel) (by decide +kernel)
set_option maxRecDepth 20000 in
theorem gX7_move_X7_change : GoodIn wsX7_move (wsV RX7 119 RX7 yX7_change wsX7_change) := goodIn_app (goodIn_of _ (by decide +kernel)) ggX7_move_X7_change
theorem dX7_move_0 : decode cX7_move 0 = .ok (.aload_n 0, 1) := by decide +kernel
theorem dX7_move_1 : decode cX7_move 1 = .ok (.invokevirtual 113, 3) := by decide +kernel
theorem dX7_move_4 : decode cX7_move 4 = .ok (.aload_n 0, 1) := by decide +kernel
theorem dX7_move_5 : decode cX7_move 5 = .ok (.aload_n 0, 1) := by decide +kernel
theorem dX7_move_6 : decode cX7_move 6 = .ok (.iload_n 1, 1) := by decide +kernel
theorem dX7_move_7 : decode cX7_move 7 = .ok (.iload_n 2, 1) := by decide +kernel
theorem dX7_move_8 : decode cX7_move 8 = .ok (.invokevirtual 125, 3) := by decide +kernel
theorem dX7_move_11 : decode cX7_move 11 = .ok (.invokevirtual 119, 3) := by decide +kernel
theorem dX7_move_14 : decode cX7_move 14 = .ok (.ireturn, 1) := by decide +kernel
set_option maxRecDepth 20000 in
theorem ggX7_plan_X7_putAside : GoodIn wsX7_plan wsX7_putAside := goodIn_r _ [5, 6, 7, 36, 37, 38, 39, 40, 41, 42, 43, 44, 45, 46, 47, 48, 49, 50, 51, 52] (by decide +kernel) (by decide +kernel)
set_option maxRecDepth 20000 in
theorem gX7_plan_X7_putAside : GoodIn wsX7_plan (wsV RX7 113 RX7 yX7_putAside wsX7_putAside) := goodIn_app (goodIn_of _ (by decide +kernel)) ggX7_plan_X7_putAside
set_option maxRecDepth 20000 in
theorem ggX7_plan_X7_plans : GoodIn wsX7_plan wsX7_plans := goodIn_r _ [11, 7, 12, 13, 14, 4, 15, 16, 17, 18, 19, 20, 21, 36, 37, 38, 39, 40, 41, 42, 43, 44, 45, 46, 47, 48, 49, 50, 51, 52] (by decide +kernel) (by decide +kernel)
set_option maxRecDepth 20000 in
theorem gX7_plan_X7_plans : GoodIn wsX7_plan (wsV RX7 128 RX7 yX7_plans wsX7_plans) := goodIn_app (goodIn_of _ (by decide +kernel)) ggX7_plan_X7_plans
set_option maxRecDepth 20000 in
theorem ggX7_plan_X7_change : GoodIn wsX7_plan wsX7_change := goodIn_r _ [25, 7, 6, 26, 27, 28, 4, 29, 30, 31, 32, 33, 34, 35, 36, 37, 38, 39, 40, 41, 42, 43, 44, 45, 46, 47, 48, 49, 50, 51, 52] (by decide +kernel) (by decide +kernel)
set_option maxRecDepth 20000 in
theorem gX7_plan_X7_change : GoodIn wsX7_plan (wsV RX7 119 RX7 yX7_change wsX7_change) := goodIn_app (goodIn_of _ (by decide +kernel)) ggX7_plan_X7_change
theorem dX7_plan_0 : decode cX7_plan 0 = .ok (.aload_n 0, 1) := by decide +kernel
theorem dX7_plan_1 : decode cX7_plan 1 = .ok (.invokevirtual 113, 3) := by decide +kernel
theorem dX7_plan_4 : decode cX7_plan 4 = .ok (.aload_n 0, 1) := by decide +kernel
theorem dX7_plan_5 : decode cX7_plan 5 = .ok (.aload_n 0, 1) := by decide +kernel
theorem dX7_plan_6 : decode cX7_plan 6 = .ok (.iload_n 1, 1) := by decide +kernel
theorem dX7_plan_7 : decode cX7_plan 7 = .ok (.iload_n 2, 1) := by decide +kernel
theorem dX7_plan_8 : decode cX7_plan 8 = .ok (.iload_n 3, 1) := by decide +kernel
theorem dX7_plan_9 : decode cX7_plan 9 = .ok (.invokevirtual 128, 3) := by decide +kernel
theorem dX7_plan_12 : decode cX7_plan 12 = .ok (.invokevirtual 119, 3) := by decide +kernel
theorem dX7_plan_15 : decode cX7_plan 15 = .ok (.ireturn, 1) := by decide +kernel
set_option maxRecDepth 20000 in
theorem ggX7_stop_X7_putAside : GoodIn wsX7_stop wsX7_putAside := goodIn_r _ [5, 6, 7, 40, 41, 42, 43, 44, 45, 46, 47, 48, 49, 50, 51, 52, 53, 54, 55, 56] (by decide +kernel) (by decide +kernel)
set_option maxRecDepth 20000 in
theorem gX7_stop_X7_putAside : GoodIn wsX7_stop (wsV RX7 113 RX7 yX7_putAside wsX7_putAside) := goodIn_app (goodIn_of _ (by decide +kernel)) ggX7_stop_X7_putAside
set_option maxRecDepth 20000 in
theorem ggX7_stop_X7_stops : GoodIn wsX7_stop wsX7_stops := goodIn_r _ [11, 7, 12, 13, 14, 4, 15, 16, 17, 18, 19, 20, 21, 22, 23, 24, 25, 40, 41, 42, 43, 44, 45, 46, 47, 48, 49, 50, 51, 52, 53, 54, 55, 56] (by decide +kernel) (by decide +kernel)
set_option maxRecDepth 20000 in
theorem gX7_stop_X7_stops : GoodIn wsX7_stop (wsV RX7 131 RX7 yX7_stops wsX7_stops) := goodIn_app (goodIn_of _ (by decide +kernel)) ggX7_stop_X7_stops
set_option maxRecDepth 20000 in
theorem ggX7_stop_X7_change : GoodIn wsX7_stop wsX7_change := goodIn_r _ [29, 7, 6, 30, 31, 32, 4, 33, 34, 35, 36, 37, 38, 39, 40, 41, 42, 43, 44, 45, 46, 47, 48, 49, 50, 51, 52, 53, 54, 55, 56] (by decide +kernel) (by decide +kernel)
set_option maxRecDepth 20000 in
theorem gX7_stop_X7_change : GoodIn wsX7_stop (wsV RX7 119 RX7 yX7_change wsX7_change) := goodIn_app (goodIn_of _ (by decide +kernel)) ggX7_stop_X7_change
theorem dX7_stop_0 : decode cX7_stop 0 = .ok (.aload_n 0, 1) := by decide +kernel
theorem dX7_stop_1 : decode cX7_stop 1 = .ok (.invokevirtual 113, 3) := by decide +kernel
theorem dX7_stop_4 : decode cX7_stop 4 = .ok (.aload_n 0, 1) := by decide +kernel
theorem dX7_stop_5 : decode cX7_stop 5 = .ok (.aload_n 0, 1) := by decide +kernel
theorem dX7_stop_6 : decode cX7_stop 6 = .ok (.iload_n 1, 1) := by decide +kernel
theorem dX7_stop_7 : decode cX7_stop 7 = .ok (.invokevirtual 131, 3) := by decide +kernel
theorem dX7_stop_10 : decode cX7_stop 10 = .ok (.invokevirtual 119, 3) := by decide +kernel
theorem dX7_stop_13 : decode cX7_stop 13 = .ok (.ireturn, 1) := by decide +kernel
set_option maxRecDepth 20000 in
theorem ggX7_home_X7_putAside : GoodIn wsX7_home wsX7_putAside := goodIn_r _ [5, 6, 7, 41, 42, 43, 44, 45, 46, 47, 48, 49, 50, 51, 52, 53, 54, 55, 56, 57] (by decide +kernel) (by decide +kernel)
set_option maxRecDepth 20000 in
theorem gX7_home_X7_putAside : GoodIn wsX7_home (wsV RX7 113 RX7 yX7_putAside wsX7_putAside) := goodIn_app (goodIn_of _ (by decide +kernel)) ggX7_home_X7_putAside
set_option maxRecDepth 20000 in
theorem ggX7_home_X7_homes : GoodIn wsX7_home wsX7_homes := goodIn_r _ [11, 7, 12, 13, 14, 15, 4, 16, 17, 18, 19, 20, 21, 22, 23, 24, 25, 26, 41, 42, 43, 44, 45, 46, 47, 48, 49, 50, 51, 52, 53, 54, 55, 56, 57] (by decide +kernel) (by decide +kernel)
set_option maxRecDepth 20000 in
theorem gX7_home_X7_homes : GoodIn wsX7_home (wsV RX7 134 RX7 yX7_homes wsX7_homes) := goodIn_app (goodIn_of _ (by decide +kernel)) ggX7_home_X7_homes
set_option maxRecDepth 20000 in
theorem ggX7_home_X7_change : GoodIn wsX7_home wsX7_change := goodIn_r _ [30, 7, 6, 31, 32, 33, 4, 34, 35, 36, 37, 38, 39, 40, 41, 42, 43, 44, 45, 46, 47, 48, 49, 50, 51, 52, 53, 54, 55, 56, 57] (by decide +kernel) (by decide +kernel)
set_option maxRecDepth 20000 in
theorem gX7_home_X7_change : GoodIn wsX7_home (wsV RX7 119 RX7 yX7_change wsX7_change) := goodIn_app (goodIn_of _ (by decide +kernel)) ggX7_home_X7_change
theorem dX7_home_0 : decode cX7_home 0 = .ok (.aload_n 0, 1) := by decide +kernel
theorem dX7_home_1 : decode cX7_home 1 = .ok (.invokevirtual 113, 3) := by decide +kernel
theorem dX7_home_4 : decode cX7_home 4 = .ok (.aload_n 0, 1) := by decide +kernel
theorem dX7_home_5 : decode cX7_home 5 = .ok (.aload_n 0, 1) := by decide +kernel
theorem dX7_home_6 : decode cX7_home 6 = .ok (.iload_n 1, 1) := by decide +kernel
theorem dX7_home_7 : decode cX7_home 7 = .ok (.invokevirtual 134, 3) := by decide +kernel
theorem dX7_home_10 : decode cX7_home 10 = .ok (.invokevirtual 119, 3) := by decide +kernel
theorem dX7_home_13 : decode cX7_home 13 = .ok (.ireturn, 1) := by decide +kernel
set_option maxRecDepth 20000 in
theorem ggX7_pass_X7_putAside : GoodIn wsX7_pass wsX7_putAside := goodIn_r _ [5, 6, 7, 82, 83, 84, 85, 86, 87, 88, 89, 90, 91, 92, 93, 94, 95, 96, 97, 98] (by decide +kernel) (by decide +kernel)
set_option maxRecDepth 20000 in
theorem gX7_pass_X7_putAside : GoodIn wsX7_pass (wsV RX7 113 RX7 yX7_putAside wsX7_putAside) := goodIn_app (goodIn_of _ (by decide +kernel)) ggX7_pass_X7_putAside
set_option maxRecDepth 20000 in
theorem ggX7_pass_X7_passes : GoodIn wsX7_pass wsX7_passes := goodIn_r _ [11, 7, 12, 13, 14, 4, 15, 16, 17, 18, 19, 20, 21, 22, 23, 24, 25, 26, 27, 28, 29, 30, 31, 32, 33, 34, 35, 36, 37, 38, 39, 40, 41, 42, 43, 44, 45, 46, 47, 48, 49, 50, 51, 52, 53, 54, 55, 56, 57, 58, 59, 60, 61, 62, 63, 64, 65, 66, 67, 82, 83, 84, 85, 86, 87, 88, 89, 90, 91, 92, 93, 94, 95, 96, 97, 98] (by decide +kernel) (by decide +kernel)
set_option maxRecDepth 20000 in
theorem gX7_pass_X7_passes : GoodIn wsX7_pass (wsV RX7 137 RX7 yX7_passes wsX7_passes) := goodIn_app (goodIn_of _ (by decide +kernel)) ggX7_pass_X7_passes
set_option maxRecDepth 20000 in
theorem ggX7_pass_X7_change : GoodIn wsX7_pass wsX7_change := goodIn_r _ [71, 7, 6, 72, 73, 74, 4, 75, 76, 77, 78, 79, 80, 81, 82, 83, 84, 85, 86, 87, 88, 89, 90, 91, 92, 93, 94, 95, 96, 97, 98] (by decide +kernel) (by decide +kernel)
set_option maxRecDepth 20000 in
theorem gX7_pass_X7_change : GoodIn wsX7_pass (wsV RX7 119 RX7 yX7_change wsX7_change) := goodIn_app (goodIn_of _ (by decide +kernel)) ggX7_pass_X7_change
theorem dX7_pass_0 : decode cX7_pass 0 = .ok (.aload_n 0, 1) := by decide +kernel
theorem dX7_pass_1 : decode cX7_pass 1 = .ok (.invokevirtual 113, 3) := by decide +kernel
theorem dX7_pass_4 : decode cX7_pass 4 = .ok (.aload_n 0, 1) := by decide +kernel
theorem dX7_pass_5 : decode cX7_pass 5 = .ok (.aload_n 0, 1) := by decide +kernel
theorem dX7_pass_6 : decode cX7_pass 6 = .ok (.iload_n 1, 1) := by decide +kernel
theorem dX7_pass_7 : decode cX7_pass 7 = .ok (.invokevirtual 137, 3) := by decide +kernel
theorem dX7_pass_10 : decode cX7_pass 10 = .ok (.invokevirtual 119, 3) := by decide +kernel
theorem dX7_pass_13 : decode cX7_pass 13 = .ok (.ireturn, 1) := by decide +kernel
set_option maxRecDepth 20000 in
theorem ggX7_of_X7_isShaft : GoodIn wsX7_of wsX7_isShaft := goodIn_r _ [7, 1, 8, 9, 6, 10, 22, 23, 24, 25, 26, 27, 28, 29, 30, 31, 32, 33, 34, 35, 36, 37, 38] (by decide +kernel) (by decide +kernel)
set_option maxRecDepth 20000 in
theorem gX7_of_X7_isShaft : GoodIn wsX7_of (wsV RX7 89 RX7 yX7_isShaft wsX7_isShaft) := goodIn_app (goodIn_of _ (by decide +kernel)) ggX7_of_X7_isShaft
set_option maxRecDepth 20000 in
theorem ggX7_of_X7_at : GoodIn wsX7_of wsX7_at := goodIn_r _ [13] (by decide +kernel) (by decide +kernel)
set_option maxRecDepth 20000 in
theorem gX7_of_X7_at : GoodIn wsX7_of (va_wsS RX7 37 yX7_at wsX7_at) := goodIn_app (goodIn_of _ (by decide +kernel)) ggX7_of_X7_at
set_option maxRecDepth 20000 in
theorem ggX7_of_X7_rests : GoodIn wsX7_of wsX7_rests := goodIn_r _ [17, 1, 11, 12, 6, 13, 22, 23, 24, 25, 26, 27, 28, 29, 30, 31, 32, 33, 34, 35, 36, 37, 38] (by decide +kernel) (by decide +kernel)
set_option maxRecDepth 20000 in
theorem gX7_of_X7_rests : GoodIn wsX7_of (wsV RX7 51 RX7 yX7_rests wsX7_rests) := goodIn_app (goodIn_of _ (by decide +kernel)) ggX7_of_X7_rests
set_option maxRecDepth 20000 in
theorem ggX7_of_X7_says : GoodIn wsX7_of wsX7_says := goodIn_r _ [21, 1, 2, 11, 12, 6, 13, 22, 23, 24, 25, 26, 27, 28, 29, 30, 31, 32, 33, 34, 35, 36, 37, 38] (by decide +kernel) (by decide +kernel)
set_option maxRecDepth 20000 in
theorem gX7_of_X7_says : GoodIn wsX7_of (wsV RX7 140 RX7 yX7_says wsX7_says) := goodIn_app (goodIn_of _ (by decide +kernel)) ggX7_of_X7_says
theorem dX7_of_0 : decode cX7_of 0 = .ok (.aload_n 0, 1) := by decide +kernel
theorem dX7_of_1 : decode cX7_of 1 = .ok (.iload_n 1, 1) := by decide +kernel
theorem dX7_of_2 : decode cX7_of 2 = .ok (.invokevirtual 89, 3) := by decide +kernel
theorem dX7_of_5 : decode cX7_of 5 = .ok (.ifCond .ne 5, 3) := by decide +kernel
theorem dX7_of_8 : decode cX7_of 8 = .ok (.iconst (-1), 1) := by decide +kernel
theorem dX7_of_9 : decode cX7_of 9 = .ok (.ireturn, 1) := by decide +kernel
theorem dX7_of_10 : decode cX7_of 10 = .ok (.iload_n 2, 1) := by decide +kernel
theorem dX7_of_11 : decode cX7_of 11 = .ok (.tableswitch 244 0 11 #[61, 75, 89, 100, 111, 125, 136, 160, 192, 204, 216, 228], 61) := by decide +kernel
theorem dX7_of_72 : decode cX7_of 72 = .ok (.aload_n 0, 1) := by decide +kernel
theorem dX7_of_73 : decode cX7_of 73 = .ok (.getfield 7, 3) := by decide +kernel
theorem dX7_of_76 : decode cX7_of 76 = .ok (.iload_n 1, 1) := by decide +kernel
theorem dX7_of_77 : decode cX7_of 77 = .ok (.iconst 2, 1) := by decide +kernel
theorem dX7_of_78 : decode cX7_of 78 = .ok (.invokestatic 37, 3) := by decide +kernel
theorem dX7_of_81 : decode cX7_of 81 = .ok (.iaload, 1) := by decide +kernel
theorem dX7_of_82 : decode cX7_of 82 = .ok (.ldc 95, 2) := by decide +kernel
theorem dX7_of_84 : decode cX7_of 84 = .ok (.iadd, 1) := by decide +kernel
theorem dX7_of_85 : decode cX7_of 85 = .ok (.ireturn, 1) := by decide +kernel
theorem dX7_of_86 : decode cX7_of 86 = .ok (.aload_n 0, 1) := by decide +kernel
theorem dX7_of_87 : decode cX7_of 87 = .ok (.getfield 7, 3) := by decide +kernel
theorem dX7_of_90 : decode cX7_of 90 = .ok (.iload_n 1, 1) := by decide +kernel
theorem dX7_of_91 : decode cX7_of 91 = .ok (.iconst 3, 1) := by decide +kernel
theorem dX7_of_92 : decode cX7_of 92 = .ok (.invokestatic 37, 3) := by decide +kernel
theorem dX7_of_95 : decode cX7_of 95 = .ok (.iaload, 1) := by decide +kernel
theorem dX7_of_96 : decode cX7_of 96 = .ok (.ldc 95, 2) := by decide +kernel
theorem dX7_of_98 : decode cX7_of 98 = .ok (.iadd, 1) := by decide +kernel
theorem dX7_of_99 : decode cX7_of 99 = .ok (.ireturn, 1) := by decide +kernel
theorem dX7_of_100 : decode cX7_of 100 = .ok (.aload_n 0, 1) := by decide +kernel
theorem dX7_of_101 : decode cX7_of 101 = .ok (.getfield 7, 3) := by decide +kernel
theorem dX7_of_104 : decode cX7_of 104 = .ok (.iload_n 1, 1) := by decide +kernel
theorem dX7_of_105 : decode cX7_of 105 = .ok (.iconst 0, 1) := by decide +kernel
theorem dX7_of_106 : decode cX7_of 106 = .ok (.invokestatic 37, 3) := by decide +kernel
theorem dX7_of_109 : decode cX7_of 109 = .ok (.iaload, 1) := by decide +kernel
theorem dX7_of_110 : decode cX7_of 110 = .ok (.ireturn, 1) := by decide +kernel
theorem dX7_of_111 : decode cX7_of 111 = .ok (.aload_n 0, 1) := by decide +kernel
theorem dX7_of_112 : decode cX7_of 112 = .ok (.getfield 7, 3) := by decide +kernel
theorem dX7_of_115 : decode cX7_of 115 = .ok (.iload_n 1, 1) := by decide +kernel
theorem dX7_of_116 : decode cX7_of 116 = .ok (.iconst 1, 1) := by decide +kernel
theorem dX7_of_117 : decode cX7_of 117 = .ok (.invokestatic 37, 3) := by decide +kernel
theorem dX7_of_120 : decode cX7_of 120 = .ok (.iaload, 1) := by decide +kernel
theorem dX7_of_121 : decode cX7_of 121 = .ok (.ireturn, 1) := by decide +kernel
theorem dX7_of_122 : decode cX7_of 122 = .ok (.aload_n 0, 1) := by decide +kernel
theorem dX7_of_123 : decode cX7_of 123 = .ok (.iload_n 1, 1) := by decide +kernel
theorem dX7_of_124 : decode cX7_of 124 = .ok (.invokevirtual 51, 3) := by decide +kernel
theorem dX7_of_127 : decode cX7_of 127 = .ok (.ifCond .eq 7, 3) := by decide +kernel
theorem dX7_of_130 : decode cX7_of 130 = .ok (.iconst 0, 1) := by decide +kernel
theorem dX7_of_131 : decode cX7_of 131 = .ok (.goto 4, 3) := by decide +kernel
theorem dX7_of_134 : decode cX7_of 134 = .ok (.iconst 1, 1) := by decide +kernel
theorem dX7_of_135 : decode cX7_of 135 = .ok (.ireturn, 1) := by decide +kernel
theorem dX7_of_136 : decode cX7_of 136 = .ok (.aload_n 0, 1) := by decide +kernel
theorem dX7_of_137 : decode cX7_of 137 = .ok (.getfield 7, 3) := by decide +kernel
theorem dX7_of_140 : decode cX7_of 140 = .ok (.iload_n 1, 1) := by decide +kernel
theorem dX7_of_141 : decode cX7_of 141 = .ok (.iconst 5, 1) := by decide +kernel
theorem dX7_of_142 : decode cX7_of 142 = .ok (.invokestatic 37, 3) := by decide +kernel
theorem dX7_of_145 : decode cX7_of 145 = .ok (.iaload, 1) := by decide +kernel
theorem dX7_of_146 : decode cX7_of 146 = .ok (.ireturn, 1) := by decide +kernel
theorem dX7_of_147 : decode cX7_of 147 = .ok (.aload_n 0, 1) := by decide +kernel
theorem dX7_of_148 : decode cX7_of 148 = .ok (.iload_n 1, 1) := by decide +kernel
theorem dX7_of_149 : decode cX7_of 149 = .ok (.invokevirtual 51, 3) := by decide +kernel
theorem dX7_of_152 : decode cX7_of 152 = .ok (.ifCond .eq 7, 3) := by decide +kernel
theorem dX7_of_155 : decode cX7_of 155 = .ok (.iconst 0, 1) := by decide +kernel
theorem dX7_of_156 : decode cX7_of 156 = .ok (.goto 14, 3) := by decide +kernel
theorem dX7_of_159 : decode cX7_of 159 = .ok (.aload_n 0, 1) := by decide +kernel
theorem dX7_of_160 : decode cX7_of 160 = .ok (.getfield 7, 3) := by decide +kernel
theorem dX7_of_163 : decode cX7_of 163 = .ok (.iload_n 1, 1) := by decide +kernel
theorem dX7_of_164 : decode cX7_of 164 = .ok (.bipush 6, 2) := by decide +kernel
theorem dX7_of_166 : decode cX7_of 166 = .ok (.invokestatic 37, 3) := by decide +kernel
theorem dX7_of_169 : decode cX7_of 169 = .ok (.iaload, 1) := by decide +kernel
theorem dX7_of_170 : decode cX7_of 170 = .ok (.ireturn, 1) := by decide +kernel
theorem dX7_of_171 : decode cX7_of 171 = .ok (.aload_n 0, 1) := by decide +kernel
theorem dX7_of_172 : decode cX7_of 172 = .ok (.iload_n 1, 1) := by decide +kernel
theorem dX7_of_173 : decode cX7_of 173 = .ok (.invokevirtual 51, 3) := by decide +kernel
theorem dX7_of_176 : decode cX7_of 176 = .ok (.ifCond .eq 8, 3) := by decide +kernel
theorem dX7_of_179 : decode cX7_of 179 = .ok (.bipush (-6), 2) := by decide +kernel
theorem dX7_of_181 : decode cX7_of 181 = .ok (.goto 21, 3) := by decide +kernel
theorem dX7_of_184 : decode cX7_of 184 = .ok (.aload_n 0, 1) := by decide +kernel
theorem dX7_of_185 : decode cX7_of 185 = .ok (.getfield 7, 3) := by decide +kernel
theorem dX7_of_188 : decode cX7_of 188 = .ok (.iload_n 1, 1) := by decide +kernel
theorem dX7_of_189 : decode cX7_of 189 = .ok (.bipush 7, 2) := by decide +kernel
theorem dX7_of_191 : decode cX7_of 191 = .ok (.invokestatic 37, 3) := by decide +kernel
theorem dX7_of_194 : decode cX7_of 194 = .ok (.iaload, 1) := by decide +kernel
theorem dX7_of_195 : decode cX7_of 195 = .ok (.aload_n 0, 1) := by decide +kernel
theorem dX7_of_196 : decode cX7_of 196 = .ok (.getfield 7, 3) := by decide +kernel
theorem dX7_of_199 : decode cX7_of 199 = .ok (.iconst 5, 1) := by decide +kernel
theorem dX7_of_200 : decode cX7_of 200 = .ok (.iaload, 1) := by decide +kernel
theorem dX7_of_201 : decode cX7_of 201 = .ok (.isub, 1) := by decide +kernel
theorem dX7_of_202 : decode cX7_of 202 = .ok (.ireturn, 1) := by decide +kernel
theorem dX7_of_203 : decode cX7_of 203 = .ok (.aload_n 0, 1) := by decide +kernel
theorem dX7_of_204 : decode cX7_of 204 = .ok (.getfield 7, 3) := by decide +kernel
theorem dX7_of_207 : decode cX7_of 207 = .ok (.iload_n 1, 1) := by decide +kernel
theorem dX7_of_208 : decode cX7_of 208 = .ok (.bipush 8, 2) := by decide +kernel
theorem dX7_of_210 : decode cX7_of 210 = .ok (.invokestatic 37, 3) := by decide +kernel
theorem dX7_of_213 : decode cX7_of 213 = .ok (.iaload, 1) := by decide +kernel
theorem dX7_of_214 : decode cX7_of 214 = .ok (.ireturn, 1) := by decide +kernel
theorem dX7_of_215 : decode cX7_of 215 = .ok (.aload_n 0, 1) := by decide +kernel
theorem dX7_of_216 : decode cX7_of 216 = .ok (.getfield 7, 3) := by decide +kernel
theorem dX7_of_219 : decode cX7_of 219 = .ok (.iload_n 1, 1) := by decide +kernel
theorem dX7_of_220 : decode cX7_of 220 = .ok (.bipush 12, 2) := by decide +kernel
theorem dX7_of_222 : decode cX7_of 222 = .ok (.invokestatic 37, 3) := by decide +kernel
theorem dX7_of_225 : decode cX7_of 225 = .ok (.iaload, 1) := by decide +kernel
theorem dX7_of_226 : decode cX7_of 226 = .ok (.ireturn, 1) := by decide +kernel
theorem dX7_of_227 : decode cX7_of 227 = .ok (.aload_n 0, 1) := by decide +kernel
theorem dX7_of_228 : decode cX7_of 228 = .ok (.getfield 7, 3) := by decide +kernel
theorem dX7_of_231 : decode cX7_of 231 = .ok (.iload_n 1, 1) := by decide +kernel
theorem dX7_of_232 : decode cX7_of 232 = .ok (.bipush 13, 2) := by decide +kernel
theorem dX7_of_234 : decode cX7_of 234 = .ok (.invokestatic 37, 3) := by decide +kernel
theorem dX7_of_237 : decode cX7_of 237 = .ok (.iaload, 1) := by decide +kernel
theorem dX7_of_238 : decode cX7_of 238 = .ok (.ireturn, 1) := by decide +kernel
theorem dX7_of_239 : decode cX7_of 239 = .ok (.aload_n 0, 1) := by decide +kernel
theorem dX7_of_240 : decode cX7_of 240 = .ok (.iload_n 1, 1) := by decide +kernel
theorem dX7_of_241 : decode cX7_of 241 = .ok (.aload_n 0, 1) := by decide +kernel
theorem dX7_of_242 : decode cX7_of 242 = .ok (.getfield 7, 3) := by decide +kernel
theorem dX7_of_245 : decode cX7_of 245 = .ok (.iload_n 1, 1) := by decide +kernel
theorem dX7_of_246 : decode cX7_of 246 = .ok (.iconst 5, 1) := by decide +kernel
theorem dX7_of_247 : decode cX7_of 247 = .ok (.invokestatic 37, 3) := by decide +kernel
theorem dX7_of_250 : decode cX7_of 250 = .ok (.iaload, 1) := by decide +kernel
theorem dX7_of_251 : decode cX7_of 251 = .ok (.invokevirtual 140, 3) := by decide +kernel
theorem dX7_of_254 : decode cX7_of 254 = .ok (.ireturn, 1) := by decide +kernel
theorem dX7_of_255 : decode cX7_of 255 = .ok (.bipush (-2), 2) := by decide +kernel
theorem dX7_of_257 : decode cX7_of 257 = .ok (.ireturn, 1) := by decide +kernel
set_option maxRecDepth 20000 in
theorem ggX7_says_X7_at : GoodIn wsX7_says wsX7_at := goodIn_r _ [6] (by decide +kernel) (by decide +kernel)
set_option maxRecDepth 20000 in
theorem gX7_says_X7_at : GoodIn wsX7_says (va_wsS RX7 37 yX7_at wsX7_at) := goodIn_app (goodIn_of _ (by decide +kernel)) ggX7_says_X7_at
theorem dX7_says_0 : decode cX7_says 0 = .ok (.aload_n 0, 1) := by decide +kernel
theorem dX7_says_1 : decode cX7_says 1 = .ok (.getfield 7, 3) := by decide +kernel
theorem dX7_says_4 : decode cX7_says 4 = .ok (.iload_n 1, 1) := by decide +kernel
theorem dX7_says_5 : decode cX7_says 5 = .ok (.iconst 2, 1) := by decide +kernel
theorem dX7_says_6 : decode cX7_says 6 = .ok (.invokestatic 37, 3) := by decide +kernel
theorem dX7_says_9 : decode cX7_says 9 = .ok (.iaload, 1) := by decide +kernel
theorem dX7_says_10 : decode cX7_says 10 = .ok (.aload_n 0, 1) := by decide +kernel
theorem dX7_says_11 : decode cX7_says 11 = .ok (.getfield 7, 3) := by decide +kernel
theorem dX7_says_14 : decode cX7_says 14 = .ok (.iload_n 1, 1) := by decide +kernel
theorem dX7_says_15 : decode cX7_says 15 = .ok (.iconst 4, 1) := by decide +kernel
theorem dX7_says_16 : decode cX7_says 16 = .ok (.invokestatic 37, 3) := by decide +kernel
theorem dX7_says_19 : decode cX7_says 19 = .ok (.iaload, 1) := by decide +kernel
theorem dX7_says_20 : decode cX7_says 20 = .ok (.aload_n 0, 1) := by decide +kernel
theorem dX7_says_21 : decode cX7_says 21 = .ok (.getfield 7, 3) := by decide +kernel
theorem dX7_says_24 : decode cX7_says 24 = .ok (.iload_n 1, 1) := by decide +kernel
theorem dX7_says_25 : decode cX7_says 25 = .ok (.iconst 0, 1) := by decide +kernel
theorem dX7_says_26 : decode cX7_says 26 = .ok (.invokestatic 37, 3) := by decide +kernel
theorem dX7_says_29 : decode cX7_says 29 = .ok (.iaload, 1) := by decide +kernel
theorem dX7_says_30 : decode cX7_says 30 = .ok (.imul, 1) := by decide +kernel
theorem dX7_says_31 : decode cX7_says 31 = .ok (.iload_n 2, 1) := by decide +kernel
theorem dX7_says_32 : decode cX7_says 32 = .ok (.imul, 1) := by decide +kernel
theorem dX7_says_33 : decode cX7_says 33 = .ok (.iadd, 1) := by decide +kernel
theorem dX7_says_34 : decode cX7_says 34 = .ok (.ldc 95, 2) := by decide +kernel
theorem dX7_says_36 : decode cX7_says 36 = .ok (.iadd, 1) := by decide +kernel
theorem dX7_says_37 : decode cX7_says 37 = .ok (.ireturn, 1) := by decide +kernel
set_option maxRecDepth 20000 in
theorem ggX7_waiting_X7_isShaft : GoodIn wsX7_waiting wsX7_isShaft := goodIn_r _ [7, 1, 8, 9, 6, 10, 14, 15, 16, 17, 18, 19, 20, 21, 22, 23, 24, 25, 26, 27, 28, 29, 30] (by decide +kernel) (by decide +kernel)
set_option maxRecDepth 20000 in
theorem gX7_waiting_X7_isShaft : GoodIn wsX7_waiting (wsV RX7 89 RX7 yX7_isShaft wsX7_isShaft) := goodIn_app (goodIn_of _ (by decide +kernel)) ggX7_waiting_X7_isShaft
set_option maxRecDepth 20000 in
theorem ggX7_waiting_X7_at : GoodIn wsX7_waiting wsX7_at := goodIn_r _ [13] (by decide +kernel) (by decide +kernel)
set_option maxRecDepth 20000 in
theorem gX7_waiting_X7_at : GoodIn wsX7_waiting (va_wsS RX7 37 yX7_at wsX7_at) := goodIn_app (goodIn_of _ (by decide +kernel)) ggX7_waiting_X7_at
set_option maxRecDepth 20000 in
theorem ggX7_waiting_X7_in : GoodIn wsX7_waiting wsX7_in := goodIn_r _ [10] (by decide +kernel) (by decide +kernel)
set_option maxRecDepth 20000 in
theorem gX7_waiting_X7_in : GoodIn wsX7_waiting (va_wsS RX7 33 yX7_in wsX7_in) := goodIn_app (goodIn_of _ (by decide +kernel)) ggX7_waiting_X7_in
theorem dX7_waiting_0 : decode cX7_waiting 0 = .ok (.aload_n 0, 1) := by decide +kernel
theorem dX7_waiting_1 : decode cX7_waiting 1 = .ok (.iload_n 1, 1) := by decide +kernel
theorem dX7_waiting_2 : decode cX7_waiting 2 = .ok (.invokevirtual 89, 3) := by decide +kernel
theorem dX7_waiting_5 : decode cX7_waiting 5 = .ok (.ifCond .eq 24, 3) := by decide +kernel
theorem dX7_waiting_8 : decode cX7_waiting 8 = .ok (.iload_n 2, 1) := by decide +kernel
theorem dX7_waiting_9 : decode cX7_waiting 9 = .ok (.iconst 0, 1) := by decide +kernel
theorem dX7_waiting_10 : decode cX7_waiting 10 = .ok (.aload_n 0, 1) := by decide +kernel
theorem dX7_waiting_11 : decode cX7_waiting 11 = .ok (.getfield 7, 3) := by decide +kernel
theorem dX7_waiting_14 : decode cX7_waiting 14 = .ok (.iload_n 1, 1) := by decide +kernel
theorem dX7_waiting_15 : decode cX7_waiting 15 = .ok (.bipush 8, 2) := by decide +kernel
theorem dX7_waiting_17 : decode cX7_waiting 17 = .ok (.invokestatic 37, 3) := by decide +kernel
theorem dX7_waiting_20 : decode cX7_waiting 20 = .ok (.iaload, 1) := by decide +kernel
theorem dX7_waiting_21 : decode cX7_waiting 21 = .ok (.iconst 1, 1) := by decide +kernel
theorem dX7_waiting_22 : decode cX7_waiting 22 = .ok (.isub, 1) := by decide +kernel
theorem dX7_waiting_23 : decode cX7_waiting 23 = .ok (.invokestatic 33, 3) := by decide +kernel
theorem dX7_waiting_26 : decode cX7_waiting 26 = .ok (.ifCond .ne 5, 3) := by decide +kernel
theorem dX7_waiting_29 : decode cX7_waiting 29 = .ok (.iconst (-1), 1) := by decide +kernel
theorem dX7_waiting_30 : decode cX7_waiting 30 = .ok (.ireturn, 1) := by decide +kernel
theorem dX7_waiting_31 : decode cX7_waiting 31 = .ok (.aload_n 0, 1) := by decide +kernel
theorem dX7_waiting_32 : decode cX7_waiting 32 = .ok (.getfield 7, 3) := by decide +kernel
theorem dX7_waiting_35 : decode cX7_waiting 35 = .ok (.iload_n 1, 1) := by decide +kernel
theorem dX7_waiting_36 : decode cX7_waiting 36 = .ok (.bipush 9, 2) := by decide +kernel
theorem dX7_waiting_38 : decode cX7_waiting 38 = .ok (.iload_n 2, 1) := by decide +kernel
theorem dX7_waiting_39 : decode cX7_waiting 39 = .ok (.iadd, 1) := by decide +kernel
theorem dX7_waiting_40 : decode cX7_waiting 40 = .ok (.invokestatic 37, 3) := by decide +kernel
theorem dX7_waiting_43 : decode cX7_waiting 43 = .ok (.iaload, 1) := by decide +kernel
theorem dX7_waiting_44 : decode cX7_waiting 44 = .ok (.ldc 95, 2) := by decide +kernel
theorem dX7_waiting_46 : decode cX7_waiting 46 = .ok (.iadd, 1) := by decide +kernel
theorem dX7_waiting_47 : decode cX7_waiting 47 = .ok (.ireturn, 1) := by decide +kernel
theorem dX7_ahead_0 : decode cX7_ahead 0 = .ok (.iconst 0, 1) := by decide +kernel
theorem dX7_ahead_1 : decode cX7_ahead 1 = .ok (.istore_n 2, 1) := by decide +kernel
theorem dX7_ahead_2 : decode cX7_ahead 2 = .ok (.iconst 0, 1) := by decide +kernel
theorem dX7_ahead_3 : decode cX7_ahead 3 = .ok (.istore_n 3, 1) := by decide +kernel
theorem dX7_ahead_4 : decode cX7_ahead 4 = .ok (.iload_n 3, 1) := by decide +kernel
theorem dX7_ahead_5 : decode cX7_ahead 5 = .ok (.aload_n 0, 1) := by decide +kernel
theorem dX7_ahead_6 : decode cX7_ahead 6 = .ok (.getfield 7, 3) := by decide +kernel
theorem dX7_ahead_9 : decode cX7_ahead 9 = .ok (.bipush 63, 2) := by decide +kernel
theorem dX7_ahead_11 : decode cX7_ahead 11 = .ok (.iaload, 1) := by decide +kernel
theorem dX7_ahead_12 : decode cX7_ahead 12 = .ok (.if_icmp .ge 57, 3) := by decide +kernel
theorem dX7_ahead_15 : decode cX7_ahead 15 = .ok (.aload_n 0, 1) := by decide +kernel
theorem dX7_ahead_16 : decode cX7_ahead 16 = .ok (.getfield 7, 3) := by decide +kernel
theorem dX7_ahead_19 : decode cX7_ahead 19 = .ok (.bipush 64, 2) := by decide +kernel
theorem dX7_ahead_21 : decode cX7_ahead 21 = .ok (.iconst 3, 1) := by decide +kernel
theorem dX7_ahead_22 : decode cX7_ahead 22 = .ok (.iload_n 3, 1) := by decide +kernel
theorem dX7_ahead_23 : decode cX7_ahead 23 = .ok (.imul, 1) := by decide +kernel
theorem dX7_ahead_24 : decode cX7_ahead 24 = .ok (.iadd, 1) := by decide +kernel
theorem dX7_ahead_25 : decode cX7_ahead 25 = .ok (.iaload, 1) := by decide +kernel
theorem dX7_ahead_26 : decode cX7_ahead 26 = .ok (.aload_n 0, 1) := by decide +kernel
theorem dX7_ahead_27 : decode cX7_ahead 27 = .ok (.getfield 7, 3) := by decide +kernel
theorem dX7_ahead_30 : decode cX7_ahead 30 = .ok (.bipush 64, 2) := by decide +kernel
theorem dX7_ahead_32 : decode cX7_ahead 32 = .ok (.iconst 3, 1) := by decide +kernel
theorem dX7_ahead_33 : decode cX7_ahead 33 = .ok (.iload_n 1, 1) := by decide +kernel
theorem dX7_ahead_34 : decode cX7_ahead 34 = .ok (.imul, 1) := by decide +kernel
theorem dX7_ahead_35 : decode cX7_ahead 35 = .ok (.iadd, 1) := by decide +kernel
theorem dX7_ahead_36 : decode cX7_ahead 36 = .ok (.iaload, 1) := by decide +kernel
theorem dX7_ahead_37 : decode cX7_ahead 37 = .ok (.isub, 1) := by decide +kernel
theorem dX7_ahead_38 : decode cX7_ahead 38 = .ok (.istore 4, 2) := by decide +kernel
theorem dX7_ahead_40 : decode cX7_ahead 40 = .ok (.iload_n 2, 1) := by decide +kernel
theorem dX7_ahead_41 : decode cX7_ahead 41 = .ok (.iload 4, 2) := by decide +kernel
theorem dX7_ahead_43 : decode cX7_ahead 43 = .ok (.ifCond .lt 13, 3) := by decide +kernel
theorem dX7_ahead_46 : decode cX7_ahead 46 = .ok (.iload 4, 2) := by decide +kernel
theorem dX7_ahead_48 : decode cX7_ahead 48 = .ok (.ifCond .ne 12, 3) := by decide +kernel
theorem dX7_ahead_51 : decode cX7_ahead 51 = .ok (.iload_n 3, 1) := by decide +kernel
theorem dX7_ahead_52 : decode cX7_ahead 52 = .ok (.iload_n 1, 1) := by decide +kernel
theorem dX7_ahead_53 : decode cX7_ahead 53 = .ok (.if_icmp .ge 7, 3) := by decide +kernel
theorem dX7_ahead_56 : decode cX7_ahead 56 = .ok (.iconst 1, 1) := by decide +kernel
theorem dX7_ahead_57 : decode cX7_ahead 57 = .ok (.goto 4, 3) := by decide +kernel
theorem dX7_ahead_60 : decode cX7_ahead 60 = .ok (.iconst 0, 1) := by decide +kernel
theorem dX7_ahead_61 : decode cX7_ahead 61 = .ok (.iadd, 1) := by decide +kernel
theorem dX7_ahead_62 : decode cX7_ahead 62 = .ok (.istore_n 2, 1) := by decide +kernel
theorem dX7_ahead_63 : decode cX7_ahead 63 = .ok (.iinc 3 1, 3) := by decide +kernel
theorem dX7_ahead_66 : decode cX7_ahead 66 = .ok (.goto (-62), 3) := by decide +kernel
theorem dX7_ahead_69 : decode cX7_ahead 69 = .ok (.iload_n 2, 1) := by decide +kernel
theorem dX7_ahead_70 : decode cX7_ahead 70 = .ok (.ireturn, 1) := by decide +kernel
set_option maxRecDepth 20000 in
theorem ggX7_planned_X7_in : GoodIn wsX7_planned wsX7_in := goodIn_r _ [6] (by decide +kernel) (by decide +kernel)
set_option maxRecDepth 20000 in
theorem gX7_planned_X7_in : GoodIn wsX7_planned (va_wsS RX7 33 yX7_in wsX7_in) := goodIn_app (goodIn_of _ (by decide +kernel)) ggX7_planned_X7_in
set_option maxRecDepth 20000 in
theorem ggX7_planned_X7_ahead : GoodIn wsX7_planned wsX7_ahead := goodIn_r _ [10, 1, 11, 12, 13, 14, 15, 16, 17, 18, 19, 20, 21, 22, 23, 24, 25, 26, 27] (by decide +kernel) (by decide +kernel)
set_option maxRecDepth 20000 in
theorem gX7_planned_X7_ahead : GoodIn wsX7_planned (wsV RX7 143 RX7 yX7_ahead wsX7_ahead) := goodIn_app (goodIn_of _ (by decide +kernel)) ggX7_planned_X7_ahead
theorem dX7_planned_0 : decode cX7_planned 0 = .ok (.iload_n 1, 1) := by decide +kernel
theorem dX7_planned_1 : decode cX7_planned 1 = .ok (.iconst 0, 1) := by decide +kernel
theorem dX7_planned_2 : decode cX7_planned 2 = .ok (.aload_n 0, 1) := by decide +kernel
theorem dX7_planned_3 : decode cX7_planned 3 = .ok (.getfield 7, 3) := by decide +kernel
theorem dX7_planned_6 : decode cX7_planned 6 = .ok (.bipush 63, 2) := by decide +kernel
theorem dX7_planned_8 : decode cX7_planned 8 = .ok (.iaload, 1) := by decide +kernel
theorem dX7_planned_9 : decode cX7_planned 9 = .ok (.iconst 1, 1) := by decide +kernel
theorem dX7_planned_10 : decode cX7_planned 10 = .ok (.isub, 1) := by decide +kernel
theorem dX7_planned_11 : decode cX7_planned 11 = .ok (.invokestatic 33, 3) := by decide +kernel
theorem dX7_planned_14 : decode cX7_planned 14 = .ok (.ifCond .ne 5, 3) := by decide +kernel
theorem dX7_planned_17 : decode cX7_planned 17 = .ok (.iconst (-1), 1) := by decide +kernel
theorem dX7_planned_18 : decode cX7_planned 18 = .ok (.ireturn, 1) := by decide +kernel
theorem dX7_planned_19 : decode cX7_planned 19 = .ok (.iload_n 2, 1) := by decide +kernel
theorem dX7_planned_20 : decode cX7_planned 20 = .ok (.iconst 0, 1) := by decide +kernel
theorem dX7_planned_21 : decode cX7_planned 21 = .ok (.iconst 2, 1) := by decide +kernel
theorem dX7_planned_22 : decode cX7_planned 22 = .ok (.invokestatic 33, 3) := by decide +kernel
theorem dX7_planned_25 : decode cX7_planned 25 = .ok (.ifCond .ne 6, 3) := by decide +kernel
theorem dX7_planned_28 : decode cX7_planned 28 = .ok (.bipush (-2), 2) := by decide +kernel
theorem dX7_planned_30 : decode cX7_planned 30 = .ok (.ireturn, 1) := by decide +kernel
theorem dX7_planned_31 : decode cX7_planned 31 = .ok (.iconst 0, 1) := by decide +kernel
theorem dX7_planned_32 : decode cX7_planned 32 = .ok (.istore_n 3, 1) := by decide +kernel
theorem dX7_planned_33 : decode cX7_planned 33 = .ok (.iconst 0, 1) := by decide +kernel
theorem dX7_planned_34 : decode cX7_planned 34 = .ok (.istore 4, 2) := by decide +kernel
theorem dX7_planned_36 : decode cX7_planned 36 = .ok (.iload 4, 2) := by decide +kernel
theorem dX7_planned_38 : decode cX7_planned 38 = .ok (.aload_n 0, 1) := by decide +kernel
theorem dX7_planned_39 : decode cX7_planned 39 = .ok (.getfield 7, 3) := by decide +kernel
theorem dX7_planned_42 : decode cX7_planned 42 = .ok (.bipush 63, 2) := by decide +kernel
theorem dX7_planned_44 : decode cX7_planned 44 = .ok (.iaload, 1) := by decide +kernel
theorem dX7_planned_45 : decode cX7_planned 45 = .ok (.if_icmp .ge 26, 3) := by decide +kernel
theorem dX7_planned_48 : decode cX7_planned 48 = .ok (.aload_n 0, 1) := by decide +kernel
theorem dX7_planned_49 : decode cX7_planned 49 = .ok (.iload 4, 2) := by decide +kernel
theorem dX7_planned_51 : decode cX7_planned 51 = .ok (.invokevirtual 143, 3) := by decide +kernel
theorem dX7_planned_54 : decode cX7_planned 54 = .ok (.iload_n 1, 1) := by decide +kernel
theorem dX7_planned_55 : decode cX7_planned 55 = .ok (.if_icmp .ne 8, 3) := by decide +kernel
theorem dX7_planned_58 : decode cX7_planned 58 = .ok (.iload 4, 2) := by decide +kernel
theorem dX7_planned_60 : decode cX7_planned 60 = .ok (.goto 4, 3) := by decide +kernel
theorem dX7_planned_63 : decode cX7_planned 63 = .ok (.iload_n 3, 1) := by decide +kernel
theorem dX7_planned_64 : decode cX7_planned 64 = .ok (.istore_n 3, 1) := by decide +kernel
theorem dX7_planned_65 : decode cX7_planned 65 = .ok (.iinc 4 1, 3) := by decide +kernel
theorem dX7_planned_68 : decode cX7_planned 68 = .ok (.goto (-32), 3) := by decide +kernel
theorem dX7_planned_71 : decode cX7_planned 71 = .ok (.aload_n 0, 1) := by decide +kernel
theorem dX7_planned_72 : decode cX7_planned 72 = .ok (.getfield 7, 3) := by decide +kernel
theorem dX7_planned_75 : decode cX7_planned 75 = .ok (.bipush 64, 2) := by decide +kernel
theorem dX7_planned_77 : decode cX7_planned 77 = .ok (.iconst 3, 1) := by decide +kernel
theorem dX7_planned_78 : decode cX7_planned 78 = .ok (.iload_n 3, 1) := by decide +kernel
theorem dX7_planned_79 : decode cX7_planned 79 = .ok (.imul, 1) := by decide +kernel
theorem dX7_planned_80 : decode cX7_planned 80 = .ok (.iadd, 1) := by decide +kernel
theorem dX7_planned_81 : decode cX7_planned 81 = .ok (.iload_n 2, 1) := by decide +kernel
theorem dX7_planned_82 : decode cX7_planned 82 = .ok (.iadd, 1) := by decide +kernel
theorem dX7_planned_83 : decode cX7_planned 83 = .ok (.iaload, 1) := by decide +kernel
theorem dX7_planned_84 : decode cX7_planned 84 = .ok (.iload_n 2, 1) := by decide +kernel
theorem dX7_planned_85 : decode cX7_planned 85 = .ok (.iconst 2, 1) := by decide +kernel
theorem dX7_planned_86 : decode cX7_planned 86 = .ok (.if_icmp .ne 8, 3) := by decide +kernel
theorem dX7_planned_89 : decode cX7_planned 89 = .ok (.ldc 95, 2) := by decide +kernel
theorem dX7_planned_91 : decode cX7_planned 91 = .ok (.goto 4, 3) := by decide +kernel
theorem dX7_planned_94 : decode cX7_planned 94 = .ok (.iconst 0, 1) := by decide +kernel
theorem dX7_planned_95 : decode cX7_planned 95 = .ok (.iadd, 1) := by decide +kernel
theorem dX7_planned_96 : decode cX7_planned 96 = .ok (.ireturn, 1) := by decide +kernel
set_option maxRecDepth 20000 in
theorem ggX7_overAll_X7_rests : GoodIn wsX7_overAll wsX7_rests := goodIn_r _ [6, 1, 7, 8, 5, 9, 10, 11, 12, 13, 14, 15, 16, 17, 18, 19, 20, 21, 22, 23, 24, 25, 26] (by decide +kernel) (by decide +kernel)
set_option maxRecDepth 20000 in
theorem gX7_overAll_X7_rests : GoodIn wsX7_overAll (wsV RX7 51 RX7 yX7_rests wsX7_rests) := goodIn_app (goodIn_of _ (by decide +kernel)) ggX7_overAll_X7_rests
set_option maxRecDepth 20000 in
theorem ggX7_overAll_X7_at : GoodIn wsX7_overAll wsX7_at := goodIn_r _ [9] (by decide +kernel) (by decide +kernel)
