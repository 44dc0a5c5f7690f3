theorem dX0_take_42 : decode cX0_take 42 = .ok (.bipush 12, 2) := by decide +kernel
theorem dX0_take_44 : decode cX0_take 44 = .ok (.if_icmp .ge 45, 3) := by decide +kernel
theorem dX0_take_47 : decode cX0_take 47 = .ok (.aload_n 0, 1) := by decide +kernel
theorem dX0_take_48 : decode cX0_take 48 = .ok (.getfield 25, 3) := by decide +kernel
theorem dX0_take_51 : decode cX0_take 51 = .ok (.iload_n 2, 1) := by decide +kernel
theorem dX0_take_52 : decode cX0_take 52 = .ok (.aload_n 1, 1) := by decide +kernel
theorem dX0_take_53 : decode cX0_take 53 = .ok (.getfield 25, 3) := by decide +kernel
theorem dX0_take_56 : decode cX0_take 56 = .ok (.iload_n 2, 1) := by decide +kernel
theorem dX0_take_57 : decode cX0_take 57 = .ok (.iaload, 1) := by decide +kernel
theorem dX0_take_58 : decode cX0_take 58 = .ok (.iastore, 1) := by decide +kernel
theorem dX0_take_59 : decode cX0_take 59 = .ok (.aload_n 0, 1) := by decide +kernel
theorem dX0_take_60 : decode cX0_take 60 = .ok (.getfield 29, 3) := by decide +kernel
theorem dX0_take_63 : decode cX0_take 63 = .ok (.iload_n 2, 1) := by decide +kernel
theorem dX0_take_64 : decode cX0_take 64 = .ok (.aload_n 1, 1) := by decide +kernel
theorem dX0_take_65 : decode cX0_take 65 = .ok (.getfield 29, 3) := by decide +kernel
theorem dX0_take_68 : decode cX0_take 68 = .ok (.iload_n 2, 1) := by decide +kernel
theorem dX0_take_69 : decode cX0_take 69 = .ok (.iaload, 1) := by decide +kernel
theorem dX0_take_70 : decode cX0_take 70 = .ok (.iastore, 1) := by decide +kernel
theorem dX0_take_71 : decode cX0_take 71 = .ok (.aload_n 0, 1) := by decide +kernel
theorem dX0_take_72 : decode cX0_take 72 = .ok (.getfield 32, 3) := by decide +kernel
theorem dX0_take_75 : decode cX0_take 75 = .ok (.iload_n 2, 1) := by decide +kernel
theorem dX0_take_76 : decode cX0_take 76 = .ok (.aload_n 1, 1) := by decide +kernel
theorem dX0_take_77 : decode cX0_take 77 = .ok (.getfield 32, 3) := by decide +kernel
theorem dX0_take_80 : decode cX0_take 80 = .ok (.iload_n 2, 1) := by decide +kernel
theorem dX0_take_81 : decode cX0_take 81 = .ok (.iaload, 1) := by decide +kernel
theorem dX0_take_82 : decode cX0_take 82 = .ok (.iastore, 1) := by decide +kernel
theorem dX0_take_83 : decode cX0_take 83 = .ok (.iinc 2 1, 3) := by decide +kernel
theorem dX0_take_86 : decode cX0_take 86 = .ok (.goto (-45), 3) := by decide +kernel
theorem dX0_take_89 : decode cX0_take 89 = .ok (.aload_n 0, 1) := by decide +kernel
theorem dX0_take_90 : decode cX0_take 90 = .ok (.aload_n 1, 1) := by decide +kernel
theorem dX0_take_91 : decode cX0_take 91 = .ok (.getfield 42, 3) := by decide +kernel
theorem dX0_take_94 : decode cX0_take 94 = .ok (.putfield 42, 3) := by decide +kernel
theorem dX0_take_97 : decode cX0_take 97 = .ok (.aload_n 0, 1) := by decide +kernel
theorem dX0_take_98 : decode cX0_take 98 = .ok (.aload_n 1, 1) := by decide +kernel
theorem dX0_take_99 : decode cX0_take 99 = .ok (.getfield 46, 3) := by decide +kernel
theorem dX0_take_102 : decode cX0_take 102 = .ok (.putfield 46, 3) := by decide +kernel
theorem dX0_take_105 : decode cX0_take 105 = .ok (.aload_n 0, 1) := by decide +kernel
theorem dX0_take_106 : decode cX0_take 106 = .ok (.aload_n 1, 1) := by decide +kernel
theorem dX0_take_107 : decode cX0_take 107 = .ok (.getfield 49, 3) := by decide +kernel
theorem dX0_take_110 : decode cX0_take 110 = .ok (.putfield 49, 3) := by decide +kernel
theorem dX0_take_113 : decode cX0_take 113 = .ok (.return_, 1) := by decide +kernel
theorem dX0_find_0 : decode cX0_find 0 = .ok (.iload_n 1, 1) := by decide +kernel
theorem dX0_find_1 : decode cX0_find 1 = .ok (.ifCond .lt 20, 3) := by decide +kernel
theorem dX0_find_4 : decode cX0_find 4 = .ok (.iload_n 1, 1) := by decide +kernel
theorem dX0_find_5 : decode cX0_find 5 = .ok (.aload_n 0, 1) := by decide +kernel
theorem dX0_find_6 : decode cX0_find 6 = .ok (.getfield 42, 3) := by decide +kernel
theorem dX0_find_9 : decode cX0_find 9 = .ok (.if_icmp .ge 12, 3) := by decide +kernel
theorem dX0_find_12 : decode cX0_find 12 = .ok (.iload_n 1, 1) := by decide +kernel
theorem dX0_find_13 : decode cX0_find 13 = .ok (.aload_n 0, 1) := by decide +kernel
theorem dX0_find_14 : decode cX0_find 14 = .ok (.getfield 20, 3) := by decide +kernel
theorem dX0_find_17 : decode cX0_find 17 = .ok (.arraylength, 1) := by decide +kernel
theorem dX0_find_18 : decode cX0_find 18 = .ok (.if_icmp .lt 5, 3) := by decide +kernel
theorem dX0_find_21 : decode cX0_find 21 = .ok (.aconst_null, 1) := by decide +kernel
theorem dX0_find_22 : decode cX0_find 22 = .ok (.areturn, 1) := by decide +kernel
theorem dX0_find_23 : decode cX0_find 23 = .ok (.aload_n 0, 1) := by decide +kernel
theorem dX0_find_24 : decode cX0_find 24 = .ok (.getfield 20, 3) := by decide +kernel
theorem dX0_find_27 : decode cX0_find 27 = .ok (.iload_n 1, 1) := by decide +kernel
theorem dX0_find_28 : decode cX0_find 28 = .ok (.aaload, 1) := by decide +kernel
theorem dX0_find_29 : decode cX0_find 29 = .ok (.areturn, 1) := by decide +kernel
theorem dX0_isPlace_0 : decode cX0_isPlace 0 = .ok (.iload_n 0, 1) := by decide +kernel
theorem dX0_isPlace_1 : decode cX0_isPlace 1 = .ok (.sipush (-9999), 3) := by decide +kernel
theorem dX0_isPlace_4 : decode cX0_isPlace 4 = .ok (.if_icmp .lt 14, 3) := by decide +kernel
theorem dX0_isPlace_7 : decode cX0_isPlace 7 = .ok (.iload_n 0, 1) := by decide +kernel
theorem dX0_isPlace_8 : decode cX0_isPlace 8 = .ok (.sipush 9999, 3) := by decide +kernel
theorem dX0_isPlace_11 : decode cX0_isPlace 11 = .ok (.if_icmp .gt 7, 3) := by decide +kernel
theorem dX0_isPlace_14 : decode cX0_isPlace 14 = .ok (.iconst 1, 1) := by decide +kernel
theorem dX0_isPlace_15 : decode cX0_isPlace 15 = .ok (.goto 4, 3) := by decide +kernel
theorem dX0_isPlace_18 : decode cX0_isPlace 18 = .ok (.iconst 0, 1) := by decide +kernel
theorem dX0_isPlace_19 : decode cX0_isPlace 19 = .ok (.ireturn, 1) := by decide +kernel
theorem dX0_addShaft_0 : decode cX0_addShaft 0 = .ok (.iload_n 1, 1) := by decide +kernel
theorem dX0_addShaft_1 : decode cX0_addShaft 1 = .ok (.iconst 1, 1) := by decide +kernel
theorem dX0_addShaft_2 : decode cX0_addShaft 2 = .ok (.if_icmp .eq 16, 3) := by decide +kernel
theorem dX0_addShaft_5 : decode cX0_addShaft 5 = .ok (.iload_n 1, 1) := by decide +kernel
theorem dX0_addShaft_6 : decode cX0_addShaft 6 = .ok (.iconst 2, 1) := by decide +kernel
theorem dX0_addShaft_7 : decode cX0_addShaft 7 = .ok (.if_icmp .eq 11, 3) := by decide +kernel
theorem dX0_addShaft_10 : decode cX0_addShaft 10 = .ok (.iload_n 1, 1) := by decide +kernel
theorem dX0_addShaft_11 : decode cX0_addShaft 11 = .ok (.iconst 4, 1) := by decide +kernel
theorem dX0_addShaft_12 : decode cX0_addShaft 12 = .ok (.if_icmp .eq 6, 3) := by decide +kernel
theorem dX0_addShaft_15 : decode cX0_addShaft 15 = .ok (.bipush (-2), 2) := by decide +kernel
theorem dX0_addShaft_17 : decode cX0_addShaft 17 = .ok (.ireturn, 1) := by decide +kernel
theorem dX0_addShaft_18 : decode cX0_addShaft 18 = .ok (.aload_n 0, 1) := by decide +kernel
theorem dX0_addShaft_19 : decode cX0_addShaft 19 = .ok (.getfield 42, 3) := by decide +kernel
theorem dX0_addShaft_22 : decode cX0_addShaft 22 = .ok (.ifCond .lt 15, 3) := by decide +kernel
theorem dX0_addShaft_25 : decode cX0_addShaft 25 = .ok (.aload_n 0, 1) := by decide +kernel
theorem dX0_addShaft_26 : decode cX0_addShaft 26 = .ok (.getfield 42, 3) := by decide +kernel
theorem dX0_addShaft_29 : decode cX0_addShaft 29 = .ok (.aload_n 0, 1) := by decide +kernel
theorem dX0_addShaft_30 : decode cX0_addShaft 30 = .ok (.getfield 20, 3) := by decide +kernel
theorem dX0_addShaft_33 : decode cX0_addShaft 33 = .ok (.arraylength, 1) := by decide +kernel
theorem dX0_addShaft_34 : decode cX0_addShaft 34 = .ok (.if_icmp .lt 6, 3) := by decide +kernel
theorem dX0_addShaft_37 : decode cX0_addShaft 37 = .ok (.bipush (-4), 2) := by decide +kernel
theorem dX0_addShaft_39 : decode cX0_addShaft 39 = .ok (.ireturn, 1) := by decide +kernel
theorem dX0_addShaft_40 : decode cX0_addShaft 40 = .ok (.aload_n 0, 1) := by decide +kernel
theorem dX0_addShaft_41 : decode cX0_addShaft 41 = .ok (.getfield 20, 3) := by decide +kernel
theorem dX0_addShaft_44 : decode cX0_addShaft 44 = .ok (.aload_n 0, 1) := by decide +kernel
theorem dX0_addShaft_45 : decode cX0_addShaft 45 = .ok (.getfield 42, 3) := by decide +kernel
theorem dX0_addShaft_48 : decode cX0_addShaft 48 = .ok (.aaload, 1) := by decide +kernel
theorem dX0_addShaft_49 : decode cX0_addShaft 49 = .ok (.iload_n 1, 1) := by decide +kernel
theorem dX0_addShaft_50 : decode cX0_addShaft 50 = .ok (.putfield 52, 3) := by decide +kernel
theorem dX0_addShaft_53 : decode cX0_addShaft 53 = .ok (.aload_n 0, 1) := by decide +kernel
theorem dX0_addShaft_54 : decode cX0_addShaft 54 = .ok (.dup, 1) := by decide +kernel
theorem dX0_addShaft_55 : decode cX0_addShaft 55 = .ok (.getfield 42, 3) := by decide +kernel
theorem dX0_addShaft_58 : decode cX0_addShaft 58 = .ok (.iconst 1, 1) := by decide +kernel
theorem dX0_addShaft_59 : decode cX0_addShaft 59 = .ok (.iadd, 1) := by decide +kernel
theorem dX0_addShaft_60 : decode cX0_addShaft 60 = .ok (.putfield 42, 3) := by decide +kernel
theorem dX0_addShaft_63 : decode cX0_addShaft 63 = .ok (.aload_n 0, 1) := by decide +kernel
theorem dX0_addShaft_64 : decode cX0_addShaft 64 = .ok (.getfield 42, 3) := by decide +kernel
theorem dX0_addShaft_67 : decode cX0_addShaft 67 = .ok (.iconst 1, 1) := by decide +kernel
theorem dX0_addShaft_68 : decode cX0_addShaft 68 = .ok (.isub, 1) := by decide +kernel
theorem dX0_addShaft_69 : decode cX0_addShaft 69 = .ok (.ireturn, 1) := by decide +kernel
set_option maxRecDepth 20000 in
theorem ggX0_changeLoad_X0_find : GoodIn wsX0_changeLoad wsX0_find := goodIn_r _ [6, 7, 8, 21, 22, 23, 24, 25, 26, 27, 28] (by decide +kernel) (by decide +kernel)
set_option maxRecDepth 20000 in
theorem gX0_changeLoad_X0_find : GoodIn wsX0_changeLoad (wsV RX0 55 RX0 yX0_find wsX0_find) := goodIn_app (goodIn_of _ (by decide +kernel)) ggX0_changeLoad_X0_find
theorem dX0_changeLoad_0 : decode cX0_changeLoad 0 = .ok (.aload_n 0, 1) := by decide +kernel
theorem dX0_changeLoad_1 : decode cX0_changeLoad 1 = .ok (.iload_n 1, 1) := by decide +kernel
theorem dX0_changeLoad_2 : decode cX0_changeLoad 2 = .ok (.invokevirtual 55, 3) := by decide +kernel
theorem dX0_changeLoad_5 : decode cX0_changeLoad 5 = .ok (.astore_n 3, 1) := by decide +kernel
theorem dX0_changeLoad_6 : decode cX0_changeLoad 6 = .ok (.aload_n 3, 1) := by decide +kernel
theorem dX0_changeLoad_7 : decode cX0_changeLoad 7 = .ok (.ifnonnull 5, 3) := by decide +kernel
theorem dX0_changeLoad_10 : decode cX0_changeLoad 10 = .ok (.iconst (-1), 1) := by decide +kernel
theorem dX0_changeLoad_11 : decode cX0_changeLoad 11 = .ok (.ireturn, 1) := by decide +kernel
theorem dX0_changeLoad_12 : decode cX0_changeLoad 12 = .ok (.iload_n 2, 1) := by decide +kernel
theorem dX0_changeLoad_13 : decode cX0_changeLoad 13 = .ok (.ifCond .lt 9, 3) := by decide +kernel
theorem dX0_changeLoad_16 : decode cX0_changeLoad 16 = .ok (.iload_n 2, 1) := by decide +kernel
theorem dX0_changeLoad_17 : decode cX0_changeLoad 17 = .ok (.bipush 9, 2) := by decide +kernel
theorem dX0_changeLoad_19 : decode cX0_changeLoad 19 = .ok (.if_icmp .le 6, 3) := by decide +kernel
theorem dX0_changeLoad_22 : decode cX0_changeLoad 22 = .ok (.bipush (-2), 2) := by decide +kernel
theorem dX0_changeLoad_24 : decode cX0_changeLoad 24 = .ok (.ireturn, 1) := by decide +kernel
theorem dX0_changeLoad_25 : decode cX0_changeLoad 25 = .ok (.aload_n 3, 1) := by decide +kernel
theorem dX0_changeLoad_26 : decode cX0_changeLoad 26 = .ok (.getfield 59, 3) := by decide +kernel
theorem dX0_changeLoad_29 : decode cX0_changeLoad 29 = .ok (.istore 4, 2) := by decide +kernel
theorem dX0_changeLoad_31 : decode cX0_changeLoad 31 = .ok (.aload_n 3, 1) := by decide +kernel
theorem dX0_changeLoad_32 : decode cX0_changeLoad 32 = .ok (.iload_n 2, 1) := by decide +kernel
theorem dX0_changeLoad_33 : decode cX0_changeLoad 33 = .ok (.putfield 59, 3) := by decide +kernel
theorem dX0_changeLoad_36 : decode cX0_changeLoad 36 = .ok (.iload 4, 2) := by decide +kernel
theorem dX0_changeLoad_38 : decode cX0_changeLoad 38 = .ok (.ireturn, 1) := by decide +kernel
set_option maxRecDepth 20000 in
theorem ggX0_moveTo_X0_find : GoodIn wsX0_moveTo wsX0_find := goodIn_r _ [8, 9, 10, 53, 54, 55, 56, 57, 58, 59, 60] (by decide +kernel) (by decide +kernel)
set_option maxRecDepth 20000 in
theorem gX0_moveTo_X0_find : GoodIn wsX0_moveTo (wsV RX0 55 RX0 yX0_find wsX0_find) := goodIn_app (goodIn_of _ (by decide +kernel)) ggX0_moveTo_X0_find
set_option maxRecDepth 20000 in
theorem ggX0_moveTo_X0_isPlace : GoodIn wsX0_moveTo wsX0_isPlace := goodIn_r _ [13] (by decide +kernel) (by decide +kernel)
set_option maxRecDepth 20000 in
theorem gX0_moveTo_X0_isPlace : GoodIn wsX0_moveTo (va_wsS RX0 62 yX0_isPlace wsX0_isPlace) := goodIn_app (goodIn_of _ (by decide +kernel)) ggX0_moveTo_X0_isPlace
set_option maxRecDepth 20000 in
theorem ggX0_moveTo_X5_moves : GoodIn wsX0_moveTo wsX5_moves := goodIn_r _ [18, 19, 61, 62, 63, 64, 65, 66, 67, 68, 69, 70, 71, 72] (by decide +kernel) (by decide +kernel)
set_option maxRecDepth 20000 in
theorem gX0_moveTo_X5_moves : GoodIn wsX0_moveTo (wsV RX0 66 RX5 yX5_moves wsX5_moves) := goodIn_app (goodIn_of _ (by decide +kernel)) ggX0_moveTo_X5_moves
set_option maxRecDepth 20000 in
theorem ggX0_moveTo_X5_canWait : GoodIn wsX0_moveTo wsX5_canWait := goodIn_r _ [23, 24, 61, 62, 63, 64, 65, 66, 67, 68, 69, 70, 71, 72] (by decide +kernel) (by decide +kernel)
set_option maxRecDepth 20000 in
theorem gX0_moveTo_X5_canWait : GoodIn wsX0_moveTo (wsV RX0 70 RX5 yX5_canWait wsX5_canWait) := goodIn_app (goodIn_of _ (by decide +kernel)) ggX0_moveTo_X5_canWait
set_option maxRecDepth 20000 in
theorem ggX0_moveTo_X5_beginOrWait : GoodIn wsX0_moveTo wsX5_beginOrWait := goodIn_r _ [28, 29, 24, 30, 15, 16, 17, 18, 19, 31, 32, 33, 34, 35, 36, 37, 38, 39, 40, 41, 42, 43, 44, 45, 46, 47, 48, 49, 50, 51, 52, 21, 22, 23, 61, 62, 63, 64, 65, 66, 67, 68, 69, 70, 71, 72, 73, 74, 75, 76, 77] (by decide +kernel) (by decide +kernel)
set_option maxRecDepth 20000 in
theorem gX0_moveTo_X5_beginOrWait : GoodIn wsX0_moveTo (wsV RX0 73 RX5 yX5_beginOrWait wsX5_beginOrWait) := goodIn_app (goodIn_of _ (by decide +kernel)) ggX0_moveTo_X5_beginOrWait
theorem dX0_moveTo_0 : decode cX0_moveTo 0 = .ok (.aload_n 0, 1) := by decide +kernel
theorem dX0_moveTo_1 : decode cX0_moveTo 1 = .ok (.iload_n 1, 1) := by decide +kernel
theorem dX0_moveTo_2 : decode cX0_moveTo 2 = .ok (.invokevirtual 55, 3) := by decide +kernel
theorem dX0_moveTo_5 : decode cX0_moveTo 5 = .ok (.astore_n 3, 1) := by decide +kernel
theorem dX0_moveTo_6 : decode cX0_moveTo 6 = .ok (.aload_n 3, 1) := by decide +kernel
theorem dX0_moveTo_7 : decode cX0_moveTo 7 = .ok (.ifnonnull 5, 3) := by decide +kernel
theorem dX0_moveTo_10 : decode cX0_moveTo 10 = .ok (.iconst (-1), 1) := by decide +kernel
theorem dX0_moveTo_11 : decode cX0_moveTo 11 = .ok (.ireturn, 1) := by decide +kernel
theorem dX0_moveTo_12 : decode cX0_moveTo 12 = .ok (.iload_n 2, 1) := by decide +kernel
theorem dX0_moveTo_13 : decode cX0_moveTo 13 = .ok (.invokestatic 62, 3) := by decide +kernel
theorem dX0_moveTo_16 : decode cX0_moveTo 16 = .ok (.ifCond .ne 6, 3) := by decide +kernel
theorem dX0_moveTo_19 : decode cX0_moveTo 19 = .ok (.bipush (-2), 2) := by decide +kernel
theorem dX0_moveTo_21 : decode cX0_moveTo 21 = .ok (.ireturn, 1) := by decide +kernel
theorem dX0_moveTo_22 : decode cX0_moveTo 22 = .ok (.aload_n 3, 1) := by decide +kernel
theorem dX0_moveTo_23 : decode cX0_moveTo 23 = .ok (.invokevirtual 66, 3) := by decide +kernel
theorem dX0_moveTo_26 : decode cX0_moveTo 26 = .ok (.ifCond .eq 13, 3) := by decide +kernel
theorem dX0_moveTo_29 : decode cX0_moveTo 29 = .ok (.aload_n 3, 1) := by decide +kernel
theorem dX0_moveTo_30 : decode cX0_moveTo 30 = .ok (.invokevirtual 70, 3) := by decide +kernel
theorem dX0_moveTo_33 : decode cX0_moveTo 33 = .ok (.ifCond .ne 6, 3) := by decide +kernel
theorem dX0_moveTo_36 : decode cX0_moveTo 36 = .ok (.bipush (-4), 2) := by decide +kernel
theorem dX0_moveTo_38 : decode cX0_moveTo 38 = .ok (.ireturn, 1) := by decide +kernel
theorem dX0_moveTo_39 : decode cX0_moveTo 39 = .ok (.aload_n 3, 1) := by decide +kernel
theorem dX0_moveTo_40 : decode cX0_moveTo 40 = .ok (.iload_n 2, 1) := by decide +kernel
theorem dX0_moveTo_41 : decode cX0_moveTo 41 = .ok (.aload_n 0, 1) := by decide +kernel
theorem dX0_moveTo_42 : decode cX0_moveTo 42 = .ok (.getfield 49, 3) := by decide +kernel
theorem dX0_moveTo_45 : decode cX0_moveTo 45 = .ok (.aload_n 0, 1) := by decide +kernel
theorem dX0_moveTo_46 : decode cX0_moveTo 46 = .ok (.getfield 12, 3) := by decide +kernel
theorem dX0_moveTo_49 : decode cX0_moveTo 49 = .ok (.invokevirtual 73, 3) := by decide +kernel
theorem dX0_moveTo_52 : decode cX0_moveTo 52 = .ok (.aload_n 3, 1) := by decide +kernel
theorem dX0_moveTo_53 : decode cX0_moveTo 53 = .ok (.getfield 77, 3) := by decide +kernel
theorem dX0_moveTo_56 : decode cX0_moveTo 56 = .ok (.ireturn, 1) := by decide +kernel
set_option maxRecDepth 20000 in
theorem ggX0_addPlan_X0_find : GoodIn wsX0_addPlan wsX0_find := goodIn_r _ [10, 11, 12, 20, 21, 22, 23, 24, 25, 26, 27] (by decide +kernel) (by decide +kernel)
set_option maxRecDepth 20000 in
theorem gX0_addPlan_X0_find : GoodIn wsX0_addPlan (wsV RX0 55 RX0 yX0_find wsX0_find) := goodIn_app (goodIn_of _ (by decide +kernel)) ggX0_addPlan_X0_find
set_option maxRecDepth 20000 in
theorem ggX0_addPlan_X0_isPlace : GoodIn wsX0_addPlan wsX0_isPlace := goodIn_r _ [15] (by decide +kernel) (by decide +kernel)
set_option maxRecDepth 20000 in
theorem gX0_addPlan_X0_isPlace : GoodIn wsX0_addPlan (va_wsS RX0 62 yX0_isPlace wsX0_isPlace) := goodIn_app (goodIn_of _ (by decide +kernel)) ggX0_addPlan_X0_isPlace
set_option maxRecDepth 20000 in
theorem ggX0_addPlan_X0_copyPlan : GoodIn wsX0_addPlan wsX0_copyPlan := goodIn_r _ [19, 2, 4, 5, 20, 21, 22, 23, 24, 25, 26, 27] (by decide +kernel) (by decide +kernel)
set_option maxRecDepth 20000 in
theorem gX0_addPlan_X0_copyPlan : GoodIn wsX0_addPlan (wsV RX0 80 RX0 yX0_copyPlan wsX0_copyPlan) := goodIn_app (goodIn_of _ (by decide +kernel)) ggX0_addPlan_X0_copyPlan
theorem dX0_addPlan_0 : decode cX0_addPlan 0 = .ok (.aload_n 0, 1) := by decide +kernel
theorem dX0_addPlan_1 : decode cX0_addPlan 1 = .ok (.iload_n 2, 1) := by decide +kernel
theorem dX0_addPlan_2 : decode cX0_addPlan 2 = .ok (.invokevirtual 55, 3) := by decide +kernel
theorem dX0_addPlan_5 : decode cX0_addPlan 5 = .ok (.ifnonnull 5, 3) := by decide +kernel
theorem dX0_addPlan_8 : decode cX0_addPlan 8 = .ok (.iconst (-1), 1) := by decide +kernel
theorem dX0_addPlan_9 : decode cX0_addPlan 9 = .ok (.ireturn, 1) := by decide +kernel
theorem dX0_addPlan_10 : decode cX0_addPlan 10 = .ok (.iload_n 1, 1) := by decide +kernel
theorem dX0_addPlan_11 : decode cX0_addPlan 11 = .ok (.iconst 1, 1) := by decide +kernel
theorem dX0_addPlan_12 : decode cX0_addPlan 12 = .ok (.if_icmp .lt 17, 3) := by decide +kernel
theorem dX0_addPlan_15 : decode cX0_addPlan 15 = .ok (.iload_n 1, 1) := by decide +kernel
theorem dX0_addPlan_16 : decode cX0_addPlan 16 = .ok (.sipush 9999, 3) := by decide +kernel
theorem dX0_addPlan_19 : decode cX0_addPlan 19 = .ok (.if_icmp .gt 10, 3) := by decide +kernel
theorem dX0_addPlan_22 : decode cX0_addPlan 22 = .ok (.iload_n 3, 1) := by decide +kernel
theorem dX0_addPlan_23 : decode cX0_addPlan 23 = .ok (.invokestatic 62, 3) := by decide +kernel
theorem dX0_addPlan_26 : decode cX0_addPlan 26 = .ok (.ifCond .ne 6, 3) := by decide +kernel
theorem dX0_addPlan_29 : decode cX0_addPlan 29 = .ok (.bipush (-2), 2) := by decide +kernel
theorem dX0_addPlan_31 : decode cX0_addPlan 31 = .ok (.ireturn, 1) := by decide +kernel
theorem dX0_addPlan_32 : decode cX0_addPlan 32 = .ok (.aload_n 0, 1) := by decide +kernel
theorem dX0_addPlan_33 : decode cX0_addPlan 33 = .ok (.getfield 46, 3) := by decide +kernel
theorem dX0_addPlan_36 : decode cX0_addPlan 36 = .ok (.ifCond .lt 12, 3) := by decide +kernel
theorem dX0_addPlan_39 : decode cX0_addPlan 39 = .ok (.aload_n 0, 1) := by decide +kernel
theorem dX0_addPlan_40 : decode cX0_addPlan 40 = .ok (.getfield 46, 3) := by decide +kernel
theorem dX0_addPlan_43 : decode cX0_addPlan 43 = .ok (.bipush 12, 2) := by decide +kernel
theorem dX0_addPlan_45 : decode cX0_addPlan 45 = .ok (.if_icmp .lt 6, 3) := by decide +kernel
theorem dX0_addPlan_48 : decode cX0_addPlan 48 = .ok (.bipush (-4), 2) := by decide +kernel
theorem dX0_addPlan_50 : decode cX0_addPlan 50 = .ok (.ireturn, 1) := by decide +kernel
theorem dX0_addPlan_51 : decode cX0_addPlan 51 = .ok (.aload_n 0, 1) := by decide +kernel
theorem dX0_addPlan_52 : decode cX0_addPlan 52 = .ok (.getfield 46, 3) := by decide +kernel
theorem dX0_addPlan_55 : decode cX0_addPlan 55 = .ok (.istore 4, 2) := by decide +kernel
theorem dX0_addPlan_57 : decode cX0_addPlan 57 = .ok (.iload 4, 2) := by decide +kernel
theorem dX0_addPlan_59 : decode cX0_addPlan 59 = .ok (.ifCond .le 37, 3) := by decide +kernel
theorem dX0_addPlan_62 : decode cX0_addPlan 62 = .ok (.aload_n 0, 1) := by decide +kernel
theorem dX0_addPlan_63 : decode cX0_addPlan 63 = .ok (.getfield 25, 3) := by decide +kernel
theorem dX0_addPlan_66 : decode cX0_addPlan 66 = .ok (.iload 4, 2) := by decide +kernel
theorem dX0_addPlan_68 : decode cX0_addPlan 68 = .ok (.iconst 1, 1) := by decide +kernel
theorem dX0_addPlan_69 : decode cX0_addPlan 69 = .ok (.isub, 1) := by decide +kernel
theorem dX0_addPlan_70 : decode cX0_addPlan 70 = .ok (.iaload, 1) := by decide +kernel
theorem dX0_addPlan_71 : decode cX0_addPlan 71 = .ok (.aload_n 0, 1) := by decide +kernel
theorem dX0_addPlan_72 : decode cX0_addPlan 72 = .ok (.getfield 49, 3) := by decide +kernel
theorem dX0_addPlan_75 : decode cX0_addPlan 75 = .ok (.iload_n 1, 1) := by decide +kernel
theorem dX0_addPlan_76 : decode cX0_addPlan 76 = .ok (.iadd, 1) := by decide +kernel
theorem dX0_addPlan_77 : decode cX0_addPlan 77 = .ok (.if_icmp .le 19, 3) := by decide +kernel
theorem dX0_addPlan_80 : decode cX0_addPlan 80 = .ok (.aload_n 0, 1) := by decide +kernel
theorem dX0_addPlan_81 : decode cX0_addPlan 81 = .ok (.iload 4, 2) := by decide +kernel
theorem dX0_addPlan_83 : decode cX0_addPlan 83 = .ok (.iconst 1, 1) := by decide +kernel
theorem dX0_addPlan_84 : decode cX0_addPlan 84 = .ok (.isub, 1) := by decide +kernel
theorem dX0_addPlan_85 : decode cX0_addPlan 85 = .ok (.iload 4, 2) := by decide +kernel
theorem dX0_addPlan_87 : decode cX0_addPlan 87 = .ok (.invokevirtual 80, 3) := by decide +kernel
theorem dX0_addPlan_90 : decode cX0_addPlan 90 = .ok (.iinc 4 (-1), 3) := by decide +kernel
theorem dX0_addPlan_93 : decode cX0_addPlan 93 = .ok (.goto (-36), 3) := by decide +kernel
theorem dX0_addPlan_96 : decode cX0_addPlan 96 = .ok (.aload_n 0, 1) := by decide +kernel
theorem dX0_addPlan_97 : decode cX0_addPlan 97 = .ok (.getfield 25, 3) := by decide +kernel
theorem dX0_addPlan_100 : decode cX0_addPlan 100 = .ok (.iload 4, 2) := by decide +kernel
theorem dX0_addPlan_102 : decode cX0_addPlan 102 = .ok (.aload_n 0, 1) := by decide +kernel
theorem dX0_addPlan_103 : decode cX0_addPlan 103 = .ok (.getfield 49, 3) := by decide +kernel
theorem dX0_addPlan_106 : decode cX0_addPlan 106 = .ok (.iload_n 1, 1) := by decide +kernel
theorem dX0_addPlan_107 : decode cX0_addPlan 107 = .ok (.iadd, 1) := by decide +kernel
theorem dX0_addPlan_108 : decode cX0_addPlan 108 = .ok (.iastore, 1) := by decide +kernel
theorem dX0_addPlan_109 : decode cX0_addPlan 109 = .ok (.aload_n 0, 1) := by decide +kernel
theorem dX0_addPlan_110 : decode cX0_addPlan 110 = .ok (.getfield 29, 3) := by decide +kernel
theorem dX0_addPlan_113 : decode cX0_addPlan 113 = .ok (.iload 4, 2) := by decide +kernel
theorem dX0_addPlan_115 : decode cX0_addPlan 115 = .ok (.iload_n 2, 1) := by decide +kernel
theorem dX0_addPlan_116 : decode cX0_addPlan 116 = .ok (.iastore, 1) := by decide +kernel
theorem dX0_addPlan_117 : decode cX0_addPlan 117 = .ok (.aload_n 0, 1) := by decide +kernel
theorem dX0_addPlan_118 : decode cX0_addPlan 118 = .ok (.getfield 32, 3) := by decide +kernel
theorem dX0_addPlan_121 : decode cX0_addPlan 121 = .ok (.iload 4, 2) := by decide +kernel
theorem dX0_addPlan_123 : decode cX0_addPlan 123 = .ok (.iload_n 3, 1) := by decide +kernel
theorem dX0_addPlan_124 : decode cX0_addPlan 124 = .ok (.iastore, 1) := by decide +kernel
theorem dX0_addPlan_125 : decode cX0_addPlan 125 = .ok (.aload_n 0, 1) := by decide +kernel
theorem dX0_addPlan_126 : decode cX0_addPlan 126 = .ok (.dup, 1) := by decide +kernel
theorem dX0_addPlan_127 : decode cX0_addPlan 127 = .ok (.getfield 46, 3) := by decide +kernel
theorem dX0_addPlan_130 : decode cX0_addPlan 130 = .ok (.iconst 1, 1) := by decide +kernel
theorem dX0_addPlan_131 : decode cX0_addPlan 131 = .ok (.iadd, 1) := by decide +kernel
theorem dX0_addPlan_132 : decode cX0_addPlan 132 = .ok (.putfield 46, 3) := by decide +kernel
theorem dX0_addPlan_135 : decode cX0_addPlan 135 = .ok (.aload_n 0, 1) := by decide +kernel
theorem dX0_addPlan_136 : decode cX0_addPlan 136 = .ok (.getfield 46, 3) := by decide +kernel
theorem dX0_addPlan_139 : decode cX0_addPlan 139 = .ok (.ireturn, 1) := by decide +kernel
theorem dX0_copyPlan_0 : decode cX0_copyPlan 0 = .ok (.iload_n 1, 1) := by decide +kernel
theorem dX0_copyPlan_1 : decode cX0_copyPlan 1 = .ok (.ifCond .lt 19, 3) := by decide +kernel
theorem dX0_copyPlan_4 : decode cX0_copyPlan 4 = .ok (.iload_n 1, 1) := by decide +kernel
theorem dX0_copyPlan_5 : decode cX0_copyPlan 5 = .ok (.bipush 12, 2) := by decide +kernel
theorem dX0_copyPlan_7 : decode cX0_copyPlan 7 = .ok (.if_icmp .ge 13, 3) := by decide +kernel
theorem dX0_copyPlan_10 : decode cX0_copyPlan 10 = .ok (.iload_n 2, 1) := by decide +kernel
theorem dX0_copyPlan_11 : decode cX0_copyPlan 11 = .ok (.ifCond .lt 9, 3) := by decide +kernel
theorem dX0_copyPlan_14 : decode cX0_copyPlan 14 = .ok (.iload_n 2, 1) := by decide +kernel
theorem dX0_copyPlan_15 : decode cX0_copyPlan 15 = .ok (.bipush 12, 2) := by decide +kernel
theorem dX0_copyPlan_17 : decode cX0_copyPlan 17 = .ok (.if_icmp .lt 4, 3) := by decide +kernel
theorem dX0_copyPlan_20 : decode cX0_copyPlan 20 = .ok (.return_, 1) := by decide +kernel
theorem dX0_copyPlan_21 : decode cX0_copyPlan 21 = .ok (.aload_n 0, 1) := by decide +kernel
theorem dX0_copyPlan_22 : decode cX0_copyPlan 22 = .ok (.getfield 25, 3) := by decide +kernel
theorem dX0_copyPlan_25 : decode cX0_copyPlan 25 = .ok (.iload_n 2, 1) := by decide +kernel
theorem dX0_copyPlan_26 : decode cX0_copyPlan 26 = .ok (.aload_n 0, 1) := by decide +kernel
theorem dX0_copyPlan_27 : decode cX0_copyPlan 27 = .ok (.getfield 25, 3) := by decide +kernel
theorem dX0_copyPlan_30 : decode cX0_copyPlan 30 = .ok (.iload_n 1, 1) := by decide +kernel
theorem dX0_copyPlan_31 : decode cX0_copyPlan 31 = .ok (.iaload, 1) := by decide +kernel
theorem dX0_copyPlan_32 : decode cX0_copyPlan 32 = .ok (.iastore, 1) := by decide +kernel
theorem dX0_copyPlan_33 : decode cX0_copyPlan 33 = .ok (.aload_n 0, 1) := by decide +kernel
theorem dX0_copyPlan_34 : decode cX0_copyPlan 34 = .ok (.getfield 29, 3) := by decide +kernel
theorem dX0_copyPlan_37 : decode cX0_copyPlan 37 = .ok (.iload_n 2, 1) := by decide +kernel
theorem dX0_copyPlan_38 : decode cX0_copyPlan 38 = .ok (.aload_n 0, 1) := by decide +kernel
theorem dX0_copyPlan_39 : decode cX0_copyPlan 39 = .ok (.getfield 29, 3) := by decide +kernel
theorem dX0_copyPlan_42 : decode cX0_copyPlan 42 = .ok (.iload_n 1, 1) := by decide +kernel
theorem dX0_copyPlan_43 : decode cX0_copyPlan 43 = .ok (.iaload, 1) := by decide +kernel
theorem dX0_copyPlan_44 : decode cX0_copyPlan 44 = .ok (.iastore, 1) := by decide +kernel
theorem dX0_copyPlan_45 : decode cX0_copyPlan 45 = .ok (.aload_n 0, 1) := by decide +kernel
theorem dX0_copyPlan_46 : decode cX0_copyPlan 46 = .ok (.getfield 32, 3) := by decide +kernel
theorem dX0_copyPlan_49 : decode cX0_copyPlan 49 = .ok (.iload_n 2, 1) := by decide +kernel
theorem dX0_copyPlan_50 : decode cX0_copyPlan 50 = .ok (.aload_n 0, 1) := by decide +kernel
theorem dX0_copyPlan_51 : decode cX0_copyPlan 51 = .ok (.getfield 32, 3) := by decide +kernel
theorem dX0_copyPlan_54 : decode cX0_copyPlan 54 = .ok (.iload_n 1, 1) := by decide +kernel
theorem dX0_copyPlan_55 : decode cX0_copyPlan 55 = .ok (.iaload, 1) := by decide +kernel
theorem dX0_copyPlan_56 : decode cX0_copyPlan 56 = .ok (.iastore, 1) := by decide +kernel
theorem dX0_copyPlan_57 : decode cX0_copyPlan 57 = .ok (.return_, 1) := by decide +kernel
set_option maxRecDepth 20000 in
theorem ggX0_halt_X0_find : GoodIn wsX0_halt wsX0_find := goodIn_r _ [6, 7, 8, 41, 42, 43, 44, 45, 46, 47, 48] (by decide +kernel) (by decide +kernel)
set_option maxRecDepth 20000 in
theorem gX0_halt_X0_find : GoodIn wsX0_halt (wsV RX0 55 RX0 yX0_find wsX0_find) := goodIn_app (goodIn_of _ (by decide +kernel)) ggX0_halt_X0_find
set_option maxRecDepth 20000 in
theorem ggX0_halt_X5_moves : GoodIn wsX0_halt wsX5_moves := goodIn_r _ [13, 14, 29, 30, 31, 32, 33, 34, 35, 36, 37, 38, 39, 40] (by decide +kernel) (by decide +kernel)
set_option maxRecDepth 20000 in
theorem gX0_halt_X5_moves : GoodIn wsX0_halt (wsV RX0 66 RX5 yX5_moves wsX5_moves) := goodIn_app (goodIn_of _ (by decide +kernel)) ggX0_halt_X5_moves
set_option maxRecDepth 20000 in
theorem ggX0_halt_X5_slowDown : GoodIn wsX0_halt wsX5_slowDown := goodIn_r _ [18, 14, 19, 20, 21, 22, 12, 23, 24, 25, 26, 27, 28, 29, 30, 31, 32, 33, 34, 35, 36, 37, 38, 39, 40] (by decide +kernel) (by decide +kernel)
set_option maxRecDepth 20000 in
theorem gX0_halt_X5_slowDown : GoodIn wsX0_halt (wsV RX0 84 RX5 yX5_slowDown wsX5_slowDown) := goodIn_app (goodIn_of _ (by decide +kernel)) ggX0_halt_X5_slowDown
theorem dX0_halt_0 : decode cX0_halt 0 = .ok (.aload_n 0, 1) := by decide +kernel
theorem dX0_halt_1 : decode cX0_halt 1 = .ok (.iload_n 1, 1) := by decide +kernel
theorem dX0_halt_2 : decode cX0_halt 2 = .ok (.invokevirtual 55, 3) := by decide +kernel
theorem dX0_halt_5 : decode cX0_halt 5 = .ok (.astore_n 2, 1) := by decide +kernel
theorem dX0_halt_6 : decode cX0_halt 6 = .ok (.aload_n 2, 1) := by decide +kernel
theorem dX0_halt_7 : decode cX0_halt 7 = .ok (.ifnonnull 5, 3) := by decide +kernel
theorem dX0_halt_10 : decode cX0_halt 10 = .ok (.iconst (-1), 1) := by decide +kernel
theorem dX0_halt_11 : decode cX0_halt 11 = .ok (.ireturn, 1) := by decide +kernel
theorem dX0_halt_12 : decode cX0_halt 12 = .ok (.aload_n 2, 1) := by decide +kernel
theorem dX0_halt_13 : decode cX0_halt 13 = .ok (.invokevirtual 66, 3) := by decide +kernel
theorem dX0_halt_16 : decode cX0_halt 16 = .ok (.ifCond .ne 6, 3) := by decide +kernel
theorem dX0_halt_19 : decode cX0_halt 19 = .ok (.bipush (-5), 2) := by decide +kernel
theorem dX0_halt_21 : decode cX0_halt 21 = .ok (.ireturn, 1) := by decide +kernel
theorem dX0_halt_22 : decode cX0_halt 22 = .ok (.aload_n 2, 1) := by decide +kernel
theorem dX0_halt_23 : decode cX0_halt 23 = .ok (.invokevirtual 84, 3) := by decide +kernel
theorem dX0_halt_26 : decode cX0_halt 26 = .ok (.aload_n 2, 1) := by decide +kernel
theorem dX0_halt_27 : decode cX0_halt 27 = .ok (.getfield 87, 3) := by decide +kernel
theorem dX0_halt_30 : decode cX0_halt 30 = .ok (.ireturn, 1) := by decide +kernel
set_option maxRecDepth 20000 in
theorem ggX0_bringHome_X0_find : GoodIn wsX0_bringHome wsX0_find := goodIn_r _ [8, 9, 10, 29, 30, 31, 32, 33, 34, 35, 36] (by decide +kernel) (by decide +kernel)
set_option maxRecDepth 20000 in
theorem gX0_bringHome_X0_find : GoodIn wsX0_bringHome (wsV RX0 55 RX0 yX0_find wsX0_find) := goodIn_app (goodIn_of _ (by decide +kernel)) ggX0_bringHome_X0_find
set_option maxRecDepth 20000 in
theorem ggX0_bringHome_X5_moves : GoodIn wsX0_bringHome wsX5_moves := goodIn_r _ [15, 16, 17, 18, 19, 20, 21, 22, 23, 24, 25, 26, 27, 28] (by decide +kernel) (by decide +kernel)
set_option maxRecDepth 20000 in
theorem gX0_bringHome_X5_moves : GoodIn wsX0_bringHome (wsV RX0 66 RX5 yX5_moves wsX5_moves) := goodIn_app (goodIn_of _ (by decide +kernel)) ggX0_bringHome_X5_moves
theorem dX0_bringHome_0 : decode cX0_bringHome 0 = .ok (.aload_n 0, 1) := by decide +kernel
theorem dX0_bringHome_1 : decode cX0_bringHome 1 = .ok (.iload_n 1, 1) := by decide +kernel
theorem dX0_bringHome_2 : decode cX0_bringHome 2 = .ok (.invokevirtual 55, 3) := by decide +kernel
theorem dX0_bringHome_5 : decode cX0_bringHome 5 = .ok (.astore_n 2, 1) := by decide +kernel
theorem dX0_bringHome_6 : decode cX0_bringHome 6 = .ok (.aload_n 2, 1) := by decide +kernel
theorem dX0_bringHome_7 : decode cX0_bringHome 7 = .ok (.ifnonnull 5, 3) := by decide +kernel
theorem dX0_bringHome_10 : decode cX0_bringHome 10 = .ok (.iconst (-1), 1) := by decide +kernel
theorem dX0_bringHome_11 : decode cX0_bringHome 11 = .ok (.ireturn, 1) := by decide +kernel
theorem dX0_bringHome_12 : decode cX0_bringHome 12 = .ok (.aload_n 2, 1) := by decide +kernel
theorem dX0_bringHome_13 : decode cX0_bringHome 13 = .ok (.invokevirtual 66, 3) := by decide +kernel
theorem dX0_bringHome_16 : decode cX0_bringHome 16 = .ok (.ifCond .eq 6, 3) := by decide +kernel
theorem dX0_bringHome_19 : decode cX0_bringHome 19 = .ok (.bipush (-5), 2) := by decide +kernel
theorem dX0_bringHome_21 : decode cX0_bringHome 21 = .ok (.ireturn, 1) := by decide +kernel
theorem dX0_bringHome_22 : decode cX0_bringHome 22 = .ok (.aload_n 2, 1) := by decide +kernel
theorem dX0_bringHome_23 : decode cX0_bringHome 23 = .ok (.getfield 90, 3) := by decide +kernel
theorem dX0_bringHome_26 : decode cX0_bringHome 26 = .ok (.aload_n 2, 1) := by decide +kernel
theorem dX0_bringHome_27 : decode cX0_bringHome 27 = .ok (.getfield 93, 3) := by decide +kernel
theorem dX0_bringHome_30 : decode cX0_bringHome 30 = .ok (.isub, 1) := by decide +kernel
theorem dX0_bringHome_31 : decode cX0_bringHome 31 = .ok (.istore_n 3, 1) := by decide +kernel
theorem dX0_bringHome_32 : decode cX0_bringHome 32 = .ok (.aload_n 2, 1) := by decide +kernel
theorem dX0_bringHome_33 : decode cX0_bringHome 33 = .ok (.aload_n 2, 1) := by decide +kernel
theorem dX0_bringHome_34 : decode cX0_bringHome 34 = .ok (.getfield 93, 3) := by decide +kernel
theorem dX0_bringHome_37 : decode cX0_bringHome 37 = .ok (.putfield 90, 3) := by decide +kernel
theorem dX0_bringHome_40 : decode cX0_bringHome 40 = .ok (.iload_n 3, 1) := by decide +kernel
theorem dX0_bringHome_41 : decode cX0_bringHome 41 = .ok (.ldc 96, 2) := by decide +kernel
theorem dX0_bringHome_43 : decode cX0_bringHome 43 = .ok (.iadd, 1) := by decide +kernel
theorem dX0_bringHome_44 : decode cX0_bringHome 44 = .ok (.ireturn, 1) := by decide +kernel
set_option maxRecDepth 20000 in
theorem ggX0_passTicks_X0_nextEvent : GoodIn wsX0_passTicks wsX0_nextEvent := goodIn_r _ [7, 8, 9, 10, 11, 12, 13, 14, 15, 16, 17, 18, 19, 20, 21, 22, 109, 110, 111, 112, 113, 114, 115, 116, 117, 118, 119, 120, 121, 122, 123, 124, 125, 126, 127, 128] (by decide +kernel) (by decide +kernel)
set_option maxRecDepth 20000 in
theorem gX0_passTicks_X0_nextEvent : GoodIn wsX0_passTicks (wsV RX0 98 RX0 yX0_nextEvent wsX0_nextEvent) := goodIn_app (goodIn_of _ (by decide +kernel)) ggX0_passTicks_X0_nextEvent
set_option maxRecDepth 20000 in
theorem ggX0_passTicks_X0_arriveAt : GoodIn wsX0_passTicks wsX0_arriveAt := goodIn_r _ [26, 1, 8, 9, 27, 28, 29, 30, 31, 32, 6, 33, 34, 11, 35, 36, 37, 20, 38, 39, 40, 41, 18, 19, 21, 22, 42, 43, 44, 45, 46, 47, 48, 15, 49, 50, 51, 52, 53, 54, 55, 56, 57, 58, 59, 60, 61, 62, 63, 64, 65, 66, 67, 68, 69, 109, 110, 111, 112, 113, 114, 115, 116, 117, 118, 119, 120, 121, 122, 123, 124, 125, 126, 127, 128, 129, 130, 131, 132, 133] (by decide +kernel) (by decide +kernel)
set_option maxRecDepth 20000 in
theorem gX0_passTicks_X0_arriveAt : GoodIn wsX0_passTicks (wsV RX0 102 RX0 yX0_arriveAt wsX0_arriveAt) := goodIn_app (goodIn_of _ (by decide +kernel)) ggX0_passTicks_X0_arriveAt
set_option maxRecDepth 20000 in
theorem ggX0_passTicks_X0_makeSteps : GoodIn wsX0_passTicks wsX0_makeSteps := goodIn_r _ [73, 11, 1, 29, 74, 75, 76, 6, 77, 12, 30, 31, 32, 33, 34, 17, 18, 19, 20, 21, 22, 78, 79, 80, 81, 50, 51, 46, 82, 52, 83, 84, 85, 53, 86, 87, 88, 57, 89, 90, 91, 92, 55, 56, 58, 59, 60, 61, 41, 93, 94, 95, 96, 97, 98, 15, 99, 100, 14, 16, 101, 102, 103, 104, 54, 105, 106, 107, 108, 40, 39, 42, 43, 44, 45, 47, 48, 49, 109, 110, 111, 112, 113, 114, 115, 116, 117, 118, 119, 120, 121, 122, 123, 124, 125, 126, 127, 128, 129, 130, 131, 132, 133] (by decide +kernel) (by decide +kernel)
set_option maxRecDepth 20000 in
theorem gX0_passTicks_X0_makeSteps : GoodIn wsX0_passTicks (wsV RX0 106 RX0 yX0_makeSteps wsX0_makeSteps) := goodIn_app (goodIn_of _ (by decide +kernel)) ggX0_passTicks_X0_makeSteps
theorem dX0_passTicks_0 : decode cX0_passTicks 0 = .ok (.iload_n 1, 1) := by decide +kernel
theorem dX0_passTicks_1 : decode cX0_passTicks 1 = .ok (.iconst 1, 1) := by decide +kernel
theorem dX0_passTicks_2 : decode cX0_passTicks 2 = .ok (.if_icmp .lt 10, 3) := by decide +kernel
theorem dX0_passTicks_5 : decode cX0_passTicks 5 = .ok (.iload_n 1, 1) := by decide +kernel
theorem dX0_passTicks_6 : decode cX0_passTicks 6 = .ok (.sipush 999, 3) := by decide +kernel
theorem dX0_passTicks_9 : decode cX0_passTicks 9 = .ok (.if_icmp .le 6, 3) := by decide +kernel
theorem dX0_passTicks_12 : decode cX0_passTicks 12 = .ok (.bipush (-2), 2) := by decide +kernel
theorem dX0_passTicks_14 : decode cX0_passTicks 14 = .ok (.ireturn, 1) := by decide +kernel
theorem dX0_passTicks_15 : decode cX0_passTicks 15 = .ok (.aload_n 0, 1) := by decide +kernel
theorem dX0_passTicks_16 : decode cX0_passTicks 16 = .ok (.getfield 49, 3) := by decide +kernel
theorem dX0_passTicks_19 : decode cX0_passTicks 19 = .ok (.iload_n 1, 1) := by decide +kernel
theorem dX0_passTicks_20 : decode cX0_passTicks 20 = .ok (.iadd, 1) := by decide +kernel
theorem dX0_passTicks_21 : decode cX0_passTicks 21 = .ok (.ldc 97, 2) := by decide +kernel
theorem dX0_passTicks_23 : decode cX0_passTicks 23 = .ok (.if_icmp .le 6, 3) := by decide +kernel
theorem dX0_passTicks_26 : decode cX0_passTicks 26 = .ok (.bipush (-5), 2) := by decide +kernel
theorem dX0_passTicks_28 : decode cX0_passTicks 28 = .ok (.ireturn, 1) := by decide +kernel
theorem dX0_passTicks_29 : decode cX0_passTicks 29 = .ok (.aload_n 0, 1) := by decide +kernel
theorem dX0_passTicks_30 : decode cX0_passTicks 30 = .ok (.getfield 49, 3) := by decide +kernel
theorem dX0_passTicks_33 : decode cX0_passTicks 33 = .ok (.iload_n 1, 1) := by decide +kernel
theorem dX0_passTicks_34 : decode cX0_passTicks 34 = .ok (.iadd, 1) := by decide +kernel
theorem dX0_passTicks_35 : decode cX0_passTicks 35 = .ok (.istore_n 2, 1) := by decide +kernel
theorem dX0_passTicks_36 : decode cX0_passTicks 36 = .ok (.iconst 0, 1) := by decide +kernel
theorem dX0_passTicks_37 : decode cX0_passTicks 37 = .ok (.istore_n 3, 1) := by decide +kernel
theorem dX0_passTicks_38 : decode cX0_passTicks 38 = .ok (.iconst 0, 1) := by decide +kernel
theorem dX0_passTicks_39 : decode cX0_passTicks 39 = .ok (.istore 4, 2) := by decide +kernel
theorem dX0_passTicks_41 : decode cX0_passTicks 41 = .ok (.iload 4, 2) := by decide +kernel
theorem dX0_passTicks_43 : decode cX0_passTicks 43 = .ok (.iload_n 1, 1) := by decide +kernel
theorem dX0_passTicks_44 : decode cX0_passTicks 44 = .ok (.if_icmp .ge 32, 3) := by decide +kernel
theorem dX0_passTicks_47 : decode cX0_passTicks 47 = .ok (.aload_n 0, 1) := by decide +kernel
theorem dX0_passTicks_48 : decode cX0_passTicks 48 = .ok (.invokevirtual 98, 3) := by decide +kernel
theorem dX0_passTicks_51 : decode cX0_passTicks 51 = .ok (.iload_n 2, 1) := by decide +kernel
theorem dX0_passTicks_52 : decode cX0_passTicks 52 = .ok (.if_icmp .gt 24, 3) := by decide +kernel
theorem dX0_passTicks_55 : decode cX0_passTicks 55 = .ok (.aload_n 0, 1) := by decide +kernel
theorem dX0_passTicks_56 : decode cX0_passTicks 56 = .ok (.aload_n 0, 1) := by decide +kernel
theorem dX0_passTicks_57 : decode cX0_passTicks 57 = .ok (.invokevirtual 98, 3) := by decide +kernel
theorem dX0_passTicks_60 : decode cX0_passTicks 60 = .ok (.invokevirtual 102, 3) := by decide +kernel
theorem dX0_passTicks_63 : decode cX0_passTicks 63 = .ok (.iload_n 3, 1) := by decide +kernel
theorem dX0_passTicks_64 : decode cX0_passTicks 64 = .ok (.aload_n 0, 1) := by decide +kernel
theorem dX0_passTicks_65 : decode cX0_passTicks 65 = .ok (.invokevirtual 106, 3) := by decide +kernel
theorem dX0_passTicks_68 : decode cX0_passTicks 68 = .ok (.iadd, 1) := by decide +kernel
theorem dX0_passTicks_69 : decode cX0_passTicks 69 = .ok (.istore_n 3, 1) := by decide +kernel
theorem dX0_passTicks_70 : decode cX0_passTicks 70 = .ok (.iinc 4 1, 3) := by decide +kernel
theorem dX0_passTicks_73 : decode cX0_passTicks 73 = .ok (.goto (-32), 3) := by decide +kernel
theorem dX0_passTicks_76 : decode cX0_passTicks 76 = .ok (.aload_n 0, 1) := by decide +kernel
theorem dX0_passTicks_77 : decode cX0_passTicks 77 = .ok (.iload_n 2, 1) := by decide +kernel
theorem dX0_passTicks_78 : decode cX0_passTicks 78 = .ok (.putfield 49, 3) := by decide +kernel
theorem dX0_passTicks_81 : decode cX0_passTicks 81 = .ok (.iload_n 3, 1) := by decide +kernel
theorem dX0_passTicks_82 : decode cX0_passTicks 82 = .ok (.ireturn, 1) := by decide +kernel
set_option maxRecDepth 20000 in
theorem ggX0_nextEvent_X5_moves : GoodIn wsX0_nextEvent wsX5_moves := goodIn_r _ [14, 15, 24, 25, 26, 27, 28, 29, 30, 31, 32, 33, 34, 35] (by decide +kernel) (by decide +kernel)
set_option maxRecDepth 20000 in
theorem gX0_nextEvent_X5_moves : GoodIn wsX0_nextEvent (wsV RX0 66 RX5 yX5_moves wsX5_moves) := goodIn_app (goodIn_of _ (by decide +kernel)) ggX0_nextEvent_X5_moves
theorem dX0_nextEvent_0 : decode cX0_nextEvent 0 = .ok (.aload_n 0, 1) := by decide +kernel
theorem dX0_nextEvent_1 : decode cX0_nextEvent 1 = .ok (.getfield 46, 3) := by decide +kernel
theorem dX0_nextEvent_4 : decode cX0_nextEvent 4 = .ok (.ifCond .le 12, 3) := by decide +kernel
theorem dX0_nextEvent_7 : decode cX0_nextEvent 7 = .ok (.aload_n 0, 1) := by decide +kernel
theorem dX0_nextEvent_8 : decode cX0_nextEvent 8 = .ok (.getfield 25, 3) := by decide +kernel
theorem dX0_nextEvent_11 : decode cX0_nextEvent 11 = .ok (.iconst 0, 1) := by decide +kernel
theorem dX0_nextEvent_12 : decode cX0_nextEvent 12 = .ok (.iaload, 1) := by decide +kernel
theorem dX0_nextEvent_13 : decode cX0_nextEvent 13 = .ok (.goto 5, 3) := by decide +kernel
theorem dX0_nextEvent_16 : decode cX0_nextEvent 16 = .ok (.ldc 109, 2) := by decide +kernel
theorem dX0_nextEvent_18 : decode cX0_nextEvent 18 = .ok (.istore_n 1, 1) := by decide +kernel
theorem dX0_nextEvent_19 : decode cX0_nextEvent 19 = .ok (.iconst 0, 1) := by decide +kernel
theorem dX0_nextEvent_20 : decode cX0_nextEvent 20 = .ok (.istore_n 2, 1) := by decide +kernel
theorem dX0_nextEvent_21 : decode cX0_nextEvent 21 = .ok (.iload_n 2, 1) := by decide +kernel
theorem dX0_nextEvent_22 : decode cX0_nextEvent 22 = .ok (.aload_n 0, 1) := by decide +kernel
theorem dX0_nextEvent_23 : decode cX0_nextEvent 23 = .ok (.getfield 20, 3) := by decide +kernel
theorem dX0_nextEvent_26 : decode cX0_nextEvent 26 = .ok (.arraylength, 1) := by decide +kernel
theorem dX0_nextEvent_27 : decode cX0_nextEvent 27 = .ok (.if_icmp .ge 35, 3) := by decide +kernel
theorem dX0_nextEvent_30 : decode cX0_nextEvent 30 = .ok (.aload_n 0, 1) := by decide +kernel
theorem dX0_nextEvent_31 : decode cX0_nextEvent 31 = .ok (.getfield 20, 3) := by decide +kernel
theorem dX0_nextEvent_34 : decode cX0_nextEvent 34 = .ok (.iload_n 2, 1) := by decide +kernel
theorem dX0_nextEvent_35 : decode cX0_nextEvent 35 = .ok (.aaload, 1) := by decide +kernel
theorem dX0_nextEvent_36 : decode cX0_nextEvent 36 = .ok (.invokevirtual 66, 3) := by decide +kernel
theorem dX0_nextEvent_39 : decode cX0_nextEvent 39 = .ok (.ifCond .eq 17, 3) := by decide +kernel
theorem dX0_nextEvent_42 : decode cX0_nextEvent 42 = .ok (.iload_n 1, 1) := by decide +kernel
theorem dX0_nextEvent_43 : decode cX0_nextEvent 43 = .ok (.aload_n 0, 1) := by decide +kernel
theorem dX0_nextEvent_44 : decode cX0_nextEvent 44 = .ok (.getfield 20, 3) := by decide +kernel
theorem dX0_nextEvent_47 : decode cX0_nextEvent 47 = .ok (.iload_n 2, 1) := by decide +kernel
theorem dX0_nextEvent_48 : decode cX0_nextEvent 48 = .ok (.aaload, 1) := by decide +kernel
theorem dX0_nextEvent_49 : decode cX0_nextEvent 49 = .ok (.getfield 110, 3) := by decide +kernel
theorem dX0_nextEvent_52 : decode cX0_nextEvent 52 = .ok (.invokestatic 113, 3) := by decide +kernel
theorem dX0_nextEvent_55 : decode cX0_nextEvent 55 = .ok (.istore_n 1, 1) := by decide +kernel
theorem dX0_nextEvent_56 : decode cX0_nextEvent 56 = .ok (.iinc 2 1, 3) := by decide +kernel
theorem dX0_nextEvent_59 : decode cX0_nextEvent 59 = .ok (.goto (-38), 3) := by decide +kernel
theorem dX0_nextEvent_62 : decode cX0_nextEvent 62 = .ok (.iload_n 1, 1) := by decide +kernel
theorem dX0_nextEvent_63 : decode cX0_nextEvent 63 = .ok (.ireturn, 1) := by decide +kernel
set_option maxRecDepth 20000 in
theorem ggX0_arriveAt_X0_find : GoodIn wsX0_arriveAt wsX0_find := goodIn_r _ [11, 12, 13, 55, 56, 57, 58, 59, 60, 61, 62] (by decide +kernel) (by decide +kernel)
set_option maxRecDepth 20000 in
theorem gX0_arriveAt_X0_find : GoodIn wsX0_arriveAt (wsV RX0 55 RX0 yX0_find wsX0_find) := goodIn_app (goodIn_of _ (by decide +kernel)) ggX0_arriveAt_X0_find
set_option maxRecDepth 20000 in
theorem ggX0_arriveAt_X5_beginOrWait : GoodIn wsX0_arriveAt wsX5_beginOrWait := goodIn_r _ [18, 19, 20, 21, 22, 23, 17, 24, 25, 26, 27, 28, 29, 30, 31, 32, 33, 34, 35, 36, 37, 38, 39, 40, 41, 42, 43, 44, 45, 46, 47, 48, 49, 50, 63, 64, 65, 66, 67, 68, 69, 70, 71, 72, 73, 74, 75, 76, 77, 78, 79] (by decide +kernel) (by decide +kernel)
set_option maxRecDepth 20000 in
theorem gX0_arriveAt_X5_beginOrWait : GoodIn wsX0_arriveAt (wsV RX0 73 RX5 yX5_beginOrWait wsX5_beginOrWait) := goodIn_app (goodIn_of _ (by decide +kernel)) ggX0_arriveAt_X5_beginOrWait
set_option maxRecDepth 20000 in
theorem ggX0_arriveAt_X0_copyPlan : GoodIn wsX0_arriveAt wsX0_copyPlan := goodIn_r _ [54, 3, 4, 5, 55, 56, 57, 58, 59, 60, 61, 62] (by decide +kernel) (by decide +kernel)
set_option maxRecDepth 20000 in
theorem gX0_arriveAt_X0_copyPlan : GoodIn wsX0_arriveAt (wsV RX0 80 RX0 yX0_copyPlan wsX0_copyPlan) := goodIn_app (goodIn_of _ (by decide +kernel)) ggX0_arriveAt_X0_copyPlan
theorem dX0_arriveAt_0 : decode cX0_arriveAt 0 = .ok (.aload_n 0, 1) := by decide +kernel
theorem dX0_arriveAt_1 : decode cX0_arriveAt 1 = .ok (.iload_n 1, 1) := by decide +kernel
theorem dX0_arriveAt_2 : decode cX0_arriveAt 2 = .ok (.putfield 49, 3) := by decide +kernel
theorem dX0_arriveAt_5 : decode cX0_arriveAt 5 = .ok (.iconst 0, 1) := by decide +kernel
theorem dX0_arriveAt_6 : decode cX0_arriveAt 6 = .ok (.istore_n 2, 1) := by decide +kernel
theorem dX0_arriveAt_7 : decode cX0_arriveAt 7 = .ok (.iload_n 2, 1) := by decide +kernel
theorem dX0_arriveAt_8 : decode cX0_arriveAt 8 = .ok (.bipush 12, 2) := by decide +kernel
theorem dX0_arriveAt_10 : decode cX0_arriveAt 10 = .ok (.if_icmp .ge 100, 3) := by decide +kernel
theorem dX0_arriveAt_13 : decode cX0_arriveAt 13 = .ok (.aload_n 0, 1) := by decide +kernel
theorem dX0_arriveAt_14 : decode cX0_arriveAt 14 = .ok (.getfield 46, 3) := by decide +kernel
theorem dX0_arriveAt_17 : decode cX0_arriveAt 17 = .ok (.ifCond .le 93, 3) := by decide +kernel
theorem dX0_arriveAt_20 : decode cX0_arriveAt 20 = .ok (.aload_n 0, 1) := by decide +kernel
theorem dX0_arriveAt_21 : decode cX0_arriveAt 21 = .ok (.getfield 25, 3) := by decide +kernel
theorem dX0_arriveAt_24 : decode cX0_arriveAt 24 = .ok (.iconst 0, 1) := by decide +kernel
theorem dX0_arriveAt_25 : decode cX0_arriveAt 25 = .ok (.iaload, 1) := by decide +kernel
theorem dX0_arriveAt_26 : decode cX0_arriveAt 26 = .ok (.aload_n 0, 1) := by decide +kernel
theorem dX0_arriveAt_27 : decode cX0_arriveAt 27 = .ok (.getfield 49, 3) := by decide +kernel
theorem dX0_arriveAt_30 : decode cX0_arriveAt 30 = .ok (.if_icmp .ne 80, 3) := by decide +kernel
theorem dX0_arriveAt_33 : decode cX0_arriveAt 33 = .ok (.aload_n 0, 1) := by decide +kernel
theorem dX0_arriveAt_34 : decode cX0_arriveAt 34 = .ok (.aload_n 0, 1) := by decide +kernel
theorem dX0_arriveAt_35 : decode cX0_arriveAt 35 = .ok (.getfield 29, 3) := by decide +kernel
theorem dX0_arriveAt_38 : decode cX0_arriveAt 38 = .ok (.iconst 0, 1) := by decide +kernel
theorem dX0_arriveAt_39 : decode cX0_arriveAt 39 = .ok (.iaload, 1) := by decide +kernel
theorem dX0_arriveAt_40 : decode cX0_arriveAt 40 = .ok (.invokevirtual 55, 3) := by decide +kernel
theorem dX0_arriveAt_43 : decode cX0_arriveAt 43 = .ok (.astore_n 3, 1) := by decide +kernel
theorem dX0_arriveAt_44 : decode cX0_arriveAt 44 = .ok (.aload_n 3, 1) := by decide +kernel
theorem dX0_arriveAt_45 : decode cX0_arriveAt 45 = .ok (.ifnull 21, 3) := by decide +kernel
theorem dX0_arriveAt_48 : decode cX0_arriveAt 48 = .ok (.aload_n 3, 1) := by decide +kernel
theorem dX0_arriveAt_49 : decode cX0_arriveAt 49 = .ok (.aload_n 0, 1) := by decide +kernel
theorem dX0_arriveAt_50 : decode cX0_arriveAt 50 = .ok (.getfield 32, 3) := by decide +kernel
theorem dX0_arriveAt_53 : decode cX0_arriveAt 53 = .ok (.iconst 0, 1) := by decide +kernel
theorem dX0_arriveAt_54 : decode cX0_arriveAt 54 = .ok (.iaload, 1) := by decide +kernel
theorem dX0_arriveAt_55 : decode cX0_arriveAt 55 = .ok (.aload_n 0, 1) := by decide +kernel
theorem dX0_arriveAt_56 : decode cX0_arriveAt 56 = .ok (.getfield 49, 3) := by decide +kernel
theorem dX0_arriveAt_59 : decode cX0_arriveAt 59 = .ok (.aload_n 0, 1) := by decide +kernel
theorem dX0_arriveAt_60 : decode cX0_arriveAt 60 = .ok (.getfield 12, 3) := by decide +kernel
theorem dX0_arriveAt_63 : decode cX0_arriveAt 63 = .ok (.invokevirtual 73, 3) := by decide +kernel
theorem dX0_arriveAt_66 : decode cX0_arriveAt 66 = .ok (.iconst 1, 1) := by decide +kernel
theorem dX0_arriveAt_67 : decode cX0_arriveAt 67 = .ok (.istore 4, 2) := by decide +kernel
theorem dX0_arriveAt_69 : decode cX0_arriveAt 69 = .ok (.iload 4, 2) := by decide +kernel
theorem dX0_arriveAt_71 : decode cX0_arriveAt 71 = .ok (.aload_n 0, 1) := by decide +kernel
theorem dX0_arriveAt_72 : decode cX0_arriveAt 72 = .ok (.getfield 46, 3) := by decide +kernel
theorem dX0_arriveAt_75 : decode cX0_arriveAt 75 = .ok (.if_icmp .ge 19, 3) := by decide +kernel
theorem dX0_arriveAt_78 : decode cX0_arriveAt 78 = .ok (.aload_n 0, 1) := by decide +kernel
theorem dX0_arriveAt_79 : decode cX0_arriveAt 79 = .ok (.iload 4, 2) := by decide +kernel
theorem dX0_arriveAt_81 : decode cX0_arriveAt 81 = .ok (.iload 4, 2) := by decide +kernel
theorem dX0_arriveAt_83 : decode cX0_arriveAt 83 = .ok (.iconst 1, 1) := by decide +kernel
theorem dX0_arriveAt_84 : decode cX0_arriveAt 84 = .ok (.isub, 1) := by decide +kernel
theorem dX0_arriveAt_85 : decode cX0_arriveAt 85 = .ok (.invokevirtual 80, 3) := by decide +kernel
theorem dX0_arriveAt_88 : decode cX0_arriveAt 88 = .ok (.iinc 4 1, 3) := by decide +kernel
theorem dX0_arriveAt_91 : decode cX0_arriveAt 91 = .ok (.goto (-22), 3) := by decide +kernel
theorem dX0_arriveAt_94 : decode cX0_arriveAt 94 = .ok (.aload_n 0, 1) := by decide +kernel
theorem dX0_arriveAt_95 : decode cX0_arriveAt 95 = .ok (.dup, 1) := by decide +kernel
theorem dX0_arriveAt_96 : decode cX0_arriveAt 96 = .ok (.getfield 46, 3) := by decide +kernel
theorem dX0_arriveAt_99 : decode cX0_arriveAt 99 = .ok (.iconst 1, 1) := by decide +kernel
theorem dX0_arriveAt_100 : decode cX0_arriveAt 100 = .ok (.isub, 1) := by decide +kernel
theorem dX0_arriveAt_101 : decode cX0_arriveAt 101 = .ok (.putfield 46, 3) := by decide +kernel
theorem dX0_arriveAt_104 : decode cX0_arriveAt 104 = .ok (.iinc 2 1, 3) := by decide +kernel
theorem dX0_arriveAt_107 : decode cX0_arriveAt 107 = .ok (.goto (-100), 3) := by decide +kernel
theorem dX0_arriveAt_110 : decode cX0_arriveAt 110 = .ok (.return_, 1) := by decide +kernel
set_option maxRecDepth 20000 in
theorem ggX0_makeSteps_X0_isDue : GoodIn wsX0_makeSteps wsX0_isDue := goodIn_r _ [8, 9, 2, 10, 11, 12, 7, 13, 14, 1, 15, 16, 17, 18, 19, 20, 86, 87, 88, 89, 90, 91, 92, 93, 94, 95, 96, 97, 78, 79, 80, 81, 82, 83, 84, 85] (by decide +kernel) (by decide +kernel)
set_option maxRecDepth 20000 in
theorem gX0_makeSteps_X0_isDue : GoodIn wsX0_makeSteps (wsV RX0 119 RX0 yX0_isDue wsX0_isDue) := goodIn_app (goodIn_of _ (by decide +kernel)) ggX0_makeSteps_X0_isDue
set_option maxRecDepth 20000 in
theorem ggX0_makeSteps_X5_makeStep : GoodIn wsX0_makeSteps wsX5_makeStep := goodIn_r _ [24, 25, 26, 27, 28, 29, 30, 31, 32, 20, 33, 34, 35, 36, 37, 38, 39, 40, 41, 42, 43, 44, 45, 46, 47, 48, 16, 17, 18, 19, 49, 50, 51, 52, 53, 54, 55, 56, 57, 58, 59, 60, 61, 62, 63, 64, 86, 87, 88, 89, 90, 91, 92, 93, 94, 95, 96, 97, 98, 99, 100, 101, 102] (by decide +kernel) (by decide +kernel)
set_option maxRecDepth 20000 in
theorem gX0_makeSteps_X5_makeStep : GoodIn wsX0_makeSteps (wsV RX0 122 RX5 yX5_makeStep wsX5_makeStep) := goodIn_app (goodIn_of _ (by decide +kernel)) ggX0_makeSteps_X5_makeStep
set_option maxRecDepth 20000 in
theorem ggX0_makeSteps_X5_beginWaiting : GoodIn wsX0_makeSteps wsX5_beginWaiting := goodIn_r _ [68, 69, 70, 48, 16, 17, 18, 19, 20, 71, 72, 73, 74, 27, 75, 76, 55, 77, 25, 26, 29, 33, 64, 42, 43, 37, 44, 45, 46, 47, 86, 87, 88, 89, 90, 91, 92, 93, 94, 95, 96, 97, 98, 99, 100, 101, 102] (by decide +kernel) (by decide +kernel)
set_option maxRecDepth 20000 in
theorem gX0_makeSteps_X5_beginWaiting : GoodIn wsX0_makeSteps (wsV RX0 126 RX5 yX5_beginWaiting wsX5_beginWaiting) := goodIn_app (goodIn_of _ (by decide +kernel)) ggX0_makeSteps_X5_beginWaiting
theorem dX0_makeSteps_0 : decode cX0_makeSteps 0 = .ok (.iconst 0, 1) := by decide +kernel
theorem dX0_makeSteps_1 : decode cX0_makeSteps 1 = .ok (.istore_n 1, 1) := by decide +kernel
theorem dX0_makeSteps_2 : decode cX0_makeSteps 2 = .ok (.iconst 0, 1) := by decide +kernel
theorem dX0_makeSteps_3 : decode cX0_makeSteps 3 = .ok (.istore_n 2, 1) := by decide +kernel
theorem dX0_makeSteps_4 : decode cX0_makeSteps 4 = .ok (.iload_n 2, 1) := by decide +kernel
theorem dX0_makeSteps_5 : decode cX0_makeSteps 5 = .ok (.aload_n 0, 1) := by decide +kernel
theorem dX0_makeSteps_6 : decode cX0_makeSteps 6 = .ok (.getfield 20, 3) := by decide +kernel
theorem dX0_makeSteps_9 : decode cX0_makeSteps 9 = .ok (.arraylength, 1) := by decide +kernel
theorem dX0_makeSteps_10 : decode cX0_makeSteps 10 = .ok (.if_icmp .ge 54, 3) := by decide +kernel
theorem dX0_makeSteps_13 : decode cX0_makeSteps 13 = .ok (.aload_n 0, 1) := by decide +kernel
theorem dX0_makeSteps_14 : decode cX0_makeSteps 14 = .ok (.iload_n 2, 1) := by decide +kernel
theorem dX0_makeSteps_15 : decode cX0_makeSteps 15 = .ok (.invokevirtual 119, 3) := by decide +kernel
theorem dX0_makeSteps_18 : decode cX0_makeSteps 18 = .ok (.ifCond .eq 40, 3) := by decide +kernel
theorem dX0_makeSteps_21 : decode cX0_makeSteps 21 = .ok (.aload_n 0, 1) := by decide +kernel
theorem dX0_makeSteps_22 : decode cX0_makeSteps 22 = .ok (.getfield 20, 3) := by decide +kernel
theorem dX0_makeSteps_25 : decode cX0_makeSteps 25 = .ok (.iload_n 2, 1) := by decide +kernel
theorem dX0_makeSteps_26 : decode cX0_makeSteps 26 = .ok (.aaload, 1) := by decide +kernel
theorem dX0_makeSteps_27 : decode cX0_makeSteps 27 = .ok (.aload_n 0, 1) := by decide +kernel
theorem dX0_makeSteps_28 : decode cX0_makeSteps 28 = .ok (.getfield 49, 3) := by decide +kernel
theorem dX0_makeSteps_31 : decode cX0_makeSteps 31 = .ok (.aload_n 0, 1) := by decide +kernel
theorem dX0_makeSteps_32 : decode cX0_makeSteps 32 = .ok (.getfield 12, 3) := by decide +kernel
theorem dX0_makeSteps_35 : decode cX0_makeSteps 35 = .ok (.invokevirtual 122, 3) := by decide +kernel
theorem dX0_makeSteps_38 : decode cX0_makeSteps 38 = .ok (.aload_n 0, 1) := by decide +kernel
theorem dX0_makeSteps_39 : decode cX0_makeSteps 39 = .ok (.getfield 20, 3) := by decide +kernel
theorem dX0_makeSteps_42 : decode cX0_makeSteps 42 = .ok (.iload_n 2, 1) := by decide +kernel
theorem dX0_makeSteps_43 : decode cX0_makeSteps 43 = .ok (.aaload, 1) := by decide +kernel
theorem dX0_makeSteps_44 : decode cX0_makeSteps 44 = .ok (.aload_n 0, 1) := by decide +kernel
theorem dX0_makeSteps_45 : decode cX0_makeSteps 45 = .ok (.getfield 49, 3) := by decide +kernel
theorem dX0_makeSteps_48 : decode cX0_makeSteps 48 = .ok (.aload_n 0, 1) := by decide +kernel
theorem dX0_makeSteps_49 : decode cX0_makeSteps 49 = .ok (.getfield 12, 3) := by decide +kernel
theorem dX0_makeSteps_52 : decode cX0_makeSteps 52 = .ok (.invokevirtual 126, 3) := by decide +kernel
theorem dX0_makeSteps_55 : decode cX0_makeSteps 55 = .ok (.iinc 1 1, 3) := by decide +kernel
theorem dX0_makeSteps_58 : decode cX0_makeSteps 58 = .ok (.iinc 2 1, 3) := by decide +kernel
theorem dX0_makeSteps_61 : decode cX0_makeSteps 61 = .ok (.goto (-57), 3) := by decide +kernel
theorem dX0_makeSteps_64 : decode cX0_makeSteps 64 = .ok (.iload_n 1, 1) := by decide +kernel
theorem dX0_makeSteps_65 : decode cX0_makeSteps 65 = .ok (.ireturn, 1) := by decide +kernel
set_option maxRecDepth 20000 in
theorem ggX0_isDue_X0_find : GoodIn wsX0_isDue wsX0_find := goodIn_r _ [7, 8, 9, 28, 29, 30, 31, 32, 33, 34, 35] (by decide +kernel) (by decide +kernel)
set_option maxRecDepth 20000 in
theorem gX0_isDue_X0_find : GoodIn wsX0_isDue (wsV RX0 55 RX0 yX0_find wsX0_find) := goodIn_app (goodIn_of _ (by decide +kernel)) ggX0_isDue_X0_find
set_option maxRecDepth 20000 in
theorem ggX0_isDue_X5_moves : GoodIn wsX0_isDue wsX5_moves := goodIn_r _ [14, 15, 16, 17, 18, 19, 20, 21, 22, 23, 24, 25, 26, 27] (by decide +kernel) (by decide +kernel)
set_option maxRecDepth 20000 in
theorem gX0_isDue_X5_moves : GoodIn wsX0_isDue (wsV RX0 66 RX5 yX5_moves wsX5_moves) := goodIn_app (goodIn_of _ (by decide +kernel)) ggX0_isDue_X5_moves
theorem dX0_isDue_0 : decode cX0_isDue 0 = .ok (.aload_n 0, 1) := by decide +kernel
theorem dX0_isDue_1 : decode cX0_isDue 1 = .ok (.iload_n 1, 1) := by decide +kernel
theorem dX0_isDue_2 : decode cX0_isDue 2 = .ok (.invokevirtual 55, 3) := by decide +kernel
theorem dX0_isDue_5 : decode cX0_isDue 5 = .ok (.astore_n 2, 1) := by decide +kernel
theorem dX0_isDue_6 : decode cX0_isDue 6 = .ok (.aload_n 2, 1) := by decide +kernel
theorem dX0_isDue_7 : decode cX0_isDue 7 = .ok (.ifnull 25, 3) := by decide +kernel
theorem dX0_isDue_10 : decode cX0_isDue 10 = .ok (.aload_n 2, 1) := by decide +kernel
theorem dX0_isDue_11 : decode cX0_isDue 11 = .ok (.invokevirtual 66, 3) := by decide +kernel
theorem dX0_isDue_14 : decode cX0_isDue 14 = .ok (.ifCond .eq 18, 3) := by decide +kernel
theorem dX0_isDue_17 : decode cX0_isDue 17 = .ok (.aload_n 2, 1) := by decide +kernel
theorem dX0_isDue_18 : decode cX0_isDue 18 = .ok (.getfield 110, 3) := by decide +kernel
theorem dX0_isDue_21 : decode cX0_isDue 21 = .ok (.aload_n 0, 1) := by decide +kernel
theorem dX0_isDue_22 : decode cX0_isDue 22 = .ok (.getfield 49, 3) := by decide +kernel
theorem dX0_isDue_25 : decode cX0_isDue 25 = .ok (.if_icmp .ne 7, 3) := by decide +kernel
theorem dX0_isDue_28 : decode cX0_isDue 28 = .ok (.iconst 1, 1) := by decide +kernel
theorem dX0_isDue_29 : decode cX0_isDue 29 = .ok (.goto 4, 3) := by decide +kernel
theorem dX0_isDue_32 : decode cX0_isDue 32 = .ok (.iconst 0, 1) := by decide +kernel
theorem dX0_isDue_33 : decode cX0_isDue 33 = .ok (.ireturn, 1) := by decide +kernel
theorem dX0_hasPlan_0 : decode cX0_hasPlan 0 = .ok (.iconst 0, 1) := by decide +kernel
theorem dX0_hasPlan_1 : decode cX0_hasPlan 1 = .ok (.istore_n 2, 1) := by decide +kernel
theorem dX0_hasPlan_2 : decode cX0_hasPlan 2 = .ok (.iload_n 2, 1) := by decide +kernel
theorem dX0_hasPlan_3 : decode cX0_hasPlan 3 = .ok (.aload_n 0, 1) := by decide +kernel
theorem dX0_hasPlan_4 : decode cX0_hasPlan 4 = .ok (.getfield 46, 3) := by decide +kernel
theorem dX0_hasPlan_7 : decode cX0_hasPlan 7 = .ok (.if_icmp .ge 27, 3) := by decide +kernel
theorem dX0_hasPlan_10 : decode cX0_hasPlan 10 = .ok (.iload_n 2, 1) := by decide +kernel
theorem dX0_hasPlan_11 : decode cX0_hasPlan 11 = .ok (.bipush 12, 2) := by decide +kernel
theorem dX0_hasPlan_13 : decode cX0_hasPlan 13 = .ok (.if_icmp .ge 21, 3) := by decide +kernel
theorem dX0_hasPlan_16 : decode cX0_hasPlan 16 = .ok (.aload_n 0, 1) := by decide +kernel
theorem dX0_hasPlan_17 : decode cX0_hasPlan 17 = .ok (.getfield 29, 3) := by decide +kernel
theorem dX0_hasPlan_20 : decode cX0_hasPlan 20 = .ok (.iload_n 2, 1) := by decide +kernel
theorem dX0_hasPlan_21 : decode cX0_hasPlan 21 = .ok (.iaload, 1) := by decide +kernel
theorem dX0_hasPlan_22 : decode cX0_hasPlan 22 = .ok (.iload_n 1, 1) := by decide +kernel
theorem dX0_hasPlan_23 : decode cX0_hasPlan 23 = .ok (.if_icmp .ne 5, 3) := by decide +kernel
theorem dX0_hasPlan_26 : decode cX0_hasPlan 26 = .ok (.iconst 1, 1) := by decide +kernel
theorem dX0_hasPlan_27 : decode cX0_hasPlan 27 = .ok (.ireturn, 1) := by decide +kernel
theorem dX0_hasPlan_28 : decode cX0_hasPlan 28 = .ok (.iinc 2 1, 3) := by decide +kernel
theorem dX0_hasPlan_31 : decode cX0_hasPlan 31 = .ok (.goto (-29), 3) := by decide +kernel
theorem dX0_hasPlan_34 : decode cX0_hasPlan 34 = .ok (.iconst 0, 1) := by decide +kernel
theorem dX0_hasPlan_35 : decode cX0_hasPlan 35 = .ok (.ireturn, 1) := by decide +kernel
set_option maxRecDepth 20000 in
theorem ggX0_ticksUntilRest_X0_find : GoodIn wsX0_ticksUntilRest wsX0_find := goodIn_r _ [6, 7, 8, 112, 113, 114, 115, 116, 117, 118, 119] (by decide +kernel) (by decide +kernel)
set_option maxRecDepth 20000 in
theorem gX0_ticksUntilRest_X0_find : GoodIn wsX0_ticksUntilRest (wsV RX0 55 RX0 yX0_find wsX0_find) := goodIn_app (goodIn_of _ (by decide +kernel)) ggX0_ticksUntilRest_X0_find
set_option maxRecDepth 20000 in
theorem ggX0_ticksUntilRest_X5_moves : GoodIn wsX0_ticksUntilRest wsX5_moves := goodIn_r _ [13, 14, 120, 121, 122, 123, 124, 125, 126, 127, 128, 129, 130, 131] (by decide +kernel) (by decide +kernel)
set_option maxRecDepth 20000 in
theorem gX0_ticksUntilRest_X5_moves : GoodIn wsX0_ticksUntilRest (wsV RX0 66 RX5 yX5_moves wsX5_moves) := goodIn_app (goodIn_of _ (by decide +kernel)) ggX0_ticksUntilRest_X5_moves
set_option maxRecDepth 20000 in
theorem ggX0_ticksUntilRest_X0_hasPlan : GoodIn wsX0_ticksUntilRest wsX0_hasPlan := goodIn_r _ [18, 19, 20, 112, 113, 114, 115, 116, 117, 118, 119] (by decide +kernel) (by decide +kernel)
set_option maxRecDepth 20000 in
theorem gX0_ticksUntilRest_X0_hasPlan : GoodIn wsX0_ticksUntilRest (wsV RX0 129 RX0 yX0_hasPlan wsX0_hasPlan) := goodIn_app (goodIn_of _ (by decide +kernel)) ggX0_ticksUntilRest_X0_hasPlan
set_option maxRecDepth 20000 in
theorem ggX0_ticksUntilRest_X0_nextEvent : GoodIn wsX0_ticksUntilRest wsX0_nextEvent := goodIn_r _ [24, 19, 25, 26, 8, 27, 28, 29, 30, 31, 9, 10, 11, 12, 13, 14, 112, 113, 114, 115, 116, 117, 118, 119, 120, 121, 122, 123, 124, 125, 126, 127, 128, 129, 130, 131] (by decide +kernel) (by decide +kernel)
set_option maxRecDepth 20000 in
theorem gX0_ticksUntilRest_X0_nextEvent : GoodIn wsX0_ticksUntilRest (wsV RX0 98 RX0 yX0_nextEvent wsX0_nextEvent) := goodIn_app (goodIn_of _ (by decide +kernel)) ggX0_ticksUntilRest_X0_nextEvent
set_option maxRecDepth 20000 in
theorem ggX0_ticksUntilRest_X0_arriveAt : GoodIn wsX0_ticksUntilRest wsX0_arriveAt := goodIn_r _ [35, 1, 19, 25, 20, 36, 37, 2, 3, 4, 5, 6, 7, 8, 38, 39, 40, 12, 41, 42, 43, 44, 10, 11, 13, 14, 45, 46, 47, 48, 49, 50, 51, 30, 52, 53, 54, 55, 56, 57, 58, 59, 60, 61, 62, 63, 64, 65, 66, 67, 68, 69, 70, 71, 72, 112, 113, 114, 115, 116, 117, 118, 119, 120, 121, 122, 123, 124, 125, 126, 127, 128, 129, 130, 131, 132, 133, 134, 135, 136] (by decide +kernel) (by decide +kernel)
set_option maxRecDepth 20000 in
theorem gX0_ticksUntilRest_X0_arriveAt : GoodIn wsX0_ticksUntilRest (wsV RX0 102 RX0 yX0_arriveAt wsX0_arriveAt) := goodIn_app (goodIn_of _ (by decide +kernel)) ggX0_ticksUntilRest_X0_arriveAt
set_option maxRecDepth 20000 in
theorem ggX0_ticksUntilRest_X0_makeSteps : GoodIn wsX0_ticksUntilRest wsX0_makeSteps := goodIn_r _ [76, 8, 1, 37, 77, 78, 79, 5, 80, 27, 2, 3, 4, 6, 7, 9, 10, 11, 12, 13, 14, 81, 82, 83, 84, 53, 54, 49, 85, 55, 86, 87, 88, 56, 89, 90, 91, 60, 92, 93, 94, 95, 58, 59, 61, 62, 63, 64, 44, 96, 97, 98, 99, 100, 101, 30, 102, 103, 29, 31, 104, 105, 106, 107, 57, 108, 109, 110, 111, 43, 42, 45, 46, 47, 48, 50, 51, 52, 112, 113, 114, 115, 116, 117, 118, 119, 120, 121, 122, 123, 124, 125, 126, 127, 128, 129, 130, 131, 132, 133, 134, 135, 136] (by decide +kernel) (by decide +kernel)
set_option maxRecDepth 20000 in
theorem gX0_ticksUntilRest_X0_makeSteps : GoodIn wsX0_ticksUntilRest (wsV RX0 106 RX0 yX0_makeSteps wsX0_makeSteps) := goodIn_app (goodIn_of _ (by decide +kernel)) ggX0_ticksUntilRest_X0_makeSteps
theorem dX0_ticksUntilRest_0 : decode cX0_ticksUntilRest 0 = .ok (.aload_n 0, 1) := by decide +kernel
theorem dX0_ticksUntilRest_1 : decode cX0_ticksUntilRest 1 = .ok (.iload_n 1, 1) := by decide +kernel
theorem dX0_ticksUntilRest_2 : decode cX0_ticksUntilRest 2 = .ok (.invokevirtual 55, 3) := by decide +kernel
theorem dX0_ticksUntilRest_5 : decode cX0_ticksUntilRest 5 = .ok (.astore_n 2, 1) := by decide +kernel
theorem dX0_ticksUntilRest_6 : decode cX0_ticksUntilRest 6 = .ok (.aload_n 2, 1) := by decide +kernel
theorem dX0_ticksUntilRest_7 : decode cX0_ticksUntilRest 7 = .ok (.ifnonnull 5, 3) := by decide +kernel
theorem dX0_ticksUntilRest_10 : decode cX0_ticksUntilRest 10 = .ok (.iconst (-1), 1) := by decide +kernel
theorem dX0_ticksUntilRest_11 : decode cX0_ticksUntilRest 11 = .ok (.ireturn, 1) := by decide +kernel
theorem dX0_ticksUntilRest_12 : decode cX0_ticksUntilRest 12 = .ok (.aload_n 0, 1) := by decide +kernel
theorem dX0_ticksUntilRest_13 : decode cX0_ticksUntilRest 13 = .ok (.getfield 49, 3) := by decide +kernel
theorem dX0_ticksUntilRest_16 : decode cX0_ticksUntilRest 16 = .ok (.istore_n 3, 1) := by decide +kernel
theorem dX0_ticksUntilRest_17 : decode cX0_ticksUntilRest 17 = .ok (.iconst 0, 1) := by decide +kernel
theorem dX0_ticksUntilRest_18 : decode cX0_ticksUntilRest 18 = .ok (.istore 4, 2) := by decide +kernel
theorem dX0_ticksUntilRest_20 : decode cX0_ticksUntilRest 20 = .ok (.iload 4, 2) := by decide +kernel
theorem dX0_ticksUntilRest_22 : decode cX0_ticksUntilRest 22 = .ok (.sipush 20000, 3) := by decide +kernel
theorem dX0_ticksUntilRest_25 : decode cX0_ticksUntilRest 25 = .ok (.if_icmp .gt 61, 3) := by decide +kernel
theorem dX0_ticksUntilRest_28 : decode cX0_ticksUntilRest 28 = .ok (.aload_n 2, 1) := by decide +kernel
theorem dX0_ticksUntilRest_29 : decode cX0_ticksUntilRest 29 = .ok (.invokevirtual 66, 3) := by decide +kernel
theorem dX0_ticksUntilRest_32 : decode cX0_ticksUntilRest 32 = .ok (.ifCond .ne 18, 3) := by decide +kernel
theorem dX0_ticksUntilRest_35 : decode cX0_ticksUntilRest 35 = .ok (.aload_n 0, 1) := by decide +kernel
theorem dX0_ticksUntilRest_36 : decode cX0_ticksUntilRest 36 = .ok (.iload_n 1, 1) := by decide +kernel
theorem dX0_ticksUntilRest_37 : decode cX0_ticksUntilRest 37 = .ok (.invokevirtual 129, 3) := by decide +kernel
theorem dX0_ticksUntilRest_40 : decode cX0_ticksUntilRest 40 = .ok (.ifCond .ne 10, 3) := by decide +kernel
theorem dX0_ticksUntilRest_43 : decode cX0_ticksUntilRest 43 = .ok (.aload_n 0, 1) := by decide +kernel
theorem dX0_ticksUntilRest_44 : decode cX0_ticksUntilRest 44 = .ok (.getfield 49, 3) := by decide +kernel
theorem dX0_ticksUntilRest_47 : decode cX0_ticksUntilRest 47 = .ok (.iload_n 3, 1) := by decide +kernel
theorem dX0_ticksUntilRest_48 : decode cX0_ticksUntilRest 48 = .ok (.isub, 1) := by decide +kernel
theorem dX0_ticksUntilRest_49 : decode cX0_ticksUntilRest 49 = .ok (.ireturn, 1) := by decide +kernel
theorem dX0_ticksUntilRest_50 : decode cX0_ticksUntilRest 50 = .ok (.aload_n 0, 1) := by decide +kernel
theorem dX0_ticksUntilRest_51 : decode cX0_ticksUntilRest 51 = .ok (.invokevirtual 98, 3) := by decide +kernel
theorem dX0_ticksUntilRest_54 : decode cX0_ticksUntilRest 54 = .ok (.istore 5, 2) := by decide +kernel
theorem dX0_ticksUntilRest_56 : decode cX0_ticksUntilRest 56 = .ok (.iload 5, 2) := by decide +kernel
theorem dX0_ticksUntilRest_58 : decode cX0_ticksUntilRest 58 = .ok (.iload_n 3, 1) := by decide +kernel
theorem dX0_ticksUntilRest_59 : decode cX0_ticksUntilRest 59 = .ok (.isub, 1) := by decide +kernel
theorem dX0_ticksUntilRest_60 : decode cX0_ticksUntilRest 60 = .ok (.sipush 20000, 3) := by decide +kernel
theorem dX0_ticksUntilRest_63 : decode cX0_ticksUntilRest 63 = .ok (.if_icmp .le 6, 3) := by decide +kernel
theorem dX0_ticksUntilRest_66 : decode cX0_ticksUntilRest 66 = .ok (.bipush (-6), 2) := by decide +kernel
theorem dX0_ticksUntilRest_68 : decode cX0_ticksUntilRest 68 = .ok (.ireturn, 1) := by decide +kernel
theorem dX0_ticksUntilRest_69 : decode cX0_ticksUntilRest 69 = .ok (.aload_n 0, 1) := by decide +kernel
theorem dX0_ticksUntilRest_70 : decode cX0_ticksUntilRest 70 = .ok (.iload 5, 2) := by decide +kernel
theorem dX0_ticksUntilRest_72 : decode cX0_ticksUntilRest 72 = .ok (.invokevirtual 102, 3) := by decide +kernel
theorem dX0_ticksUntilRest_75 : decode cX0_ticksUntilRest 75 = .ok (.aload_n 0, 1) := by decide +kernel
theorem dX0_ticksUntilRest_76 : decode cX0_ticksUntilRest 76 = .ok (.invokevirtual 106, 3) := by decide +kernel
theorem dX0_ticksUntilRest_79 : decode cX0_ticksUntilRest 79 = .ok (.pop, 1) := by decide +kernel
theorem dX0_ticksUntilRest_80 : decode cX0_ticksUntilRest 80 = .ok (.iinc 4 1, 3) := by decide +kernel
theorem dX0_ticksUntilRest_83 : decode cX0_ticksUntilRest 83 = .ok (.goto (-63), 3) := by decide +kernel
theorem dX0_ticksUntilRest_86 : decode cX0_ticksUntilRest 86 = .ok (.bipush (-6), 2) := by decide +kernel
theorem dX0_ticksUntilRest_88 : decode cX0_ticksUntilRest 88 = .ok (.ireturn, 1) := by decide +kernel
set_option maxRecDepth 20000 in
theorem ggX0_goToStep_X0_nextEvent : GoodIn wsX0_goToStep wsX0_nextEvent := goodIn_r _ [7, 8, 9, 10, 2, 11, 12, 13, 14, 15, 16, 17, 18, 19, 20, 21, 108, 109, 110, 111, 112, 113, 114, 115, 116, 117, 118, 119, 120, 121, 122, 123, 124, 125, 126, 127] (by decide +kernel) (by decide +kernel)
set_option maxRecDepth 20000 in
theorem gX0_goToStep_X0_nextEvent : GoodIn wsX0_goToStep (wsV RX0 98 RX0 yX0_nextEvent wsX0_nextEvent) := goodIn_app (goodIn_of _ (by decide +kernel)) ggX0_goToStep_X0_nextEvent
set_option maxRecDepth 20000 in
theorem ggX0_goToStep_X0_arriveAt : GoodIn wsX0_goToStep wsX0_arriveAt := goodIn_r _ [25, 1, 8, 9, 26, 27, 28, 29, 30, 31, 6, 32, 33, 2, 34, 35, 36, 19, 37, 38, 39, 40, 17, 18, 20, 21, 41, 42, 43, 44, 45, 46, 47, 14, 48, 49, 50, 51, 52, 53, 54, 55, 56, 57, 58, 59, 60, 61, 62, 63, 64, 65, 66, 67, 68, 108, 109, 110, 111, 112, 113, 114, 115, 116, 117, 118, 119, 120, 121, 122, 123, 124, 125, 126, 127, 128, 129, 130, 131, 132] (by decide +kernel) (by decide +kernel)
set_option maxRecDepth 20000 in
theorem gX0_goToStep_X0_arriveAt : GoodIn wsX0_goToStep (wsV RX0 102 RX0 yX0_arriveAt wsX0_arriveAt) := goodIn_app (goodIn_of _ (by decide +kernel)) ggX0_goToStep_X0_arriveAt
set_option maxRecDepth 20000 in
theorem ggX0_goToStep_X0_isDue : GoodIn wsX0_goToStep wsX0_isDue := goodIn_r _ [72, 11, 1, 29, 30, 31, 6, 32, 33, 2, 16, 17, 18, 19, 20, 21, 116, 117, 118, 119, 120, 121, 122, 123, 124, 125, 126, 127, 108, 109, 110, 111, 112, 113, 114, 115] (by decide +kernel) (by decide +kernel)
set_option maxRecDepth 20000 in
theorem gX0_goToStep_X0_isDue : GoodIn wsX0_goToStep (wsV RX0 119 RX0 yX0_isDue wsX0_isDue) := goodIn_app (goodIn_of _ (by decide +kernel)) ggX0_goToStep_X0_isDue
set_option maxRecDepth 20000 in
theorem ggX0_goToStep_X0_makeSteps : GoodIn wsX0_goToStep wsX0_makeSteps := goodIn_r _ [76, 2, 1, 28, 69, 70, 71, 6, 72, 11, 29, 30, 31, 32, 33, 16, 17, 18, 19, 20, 21, 77, 78, 79, 80, 49, 50, 45, 81, 51, 82, 83, 84, 52, 85, 86, 87, 56, 88, 89, 90, 91, 54, 55, 57, 58, 59, 60, 40, 92, 93, 94, 95, 96, 97, 14, 98, 99, 13, 15, 100, 101, 102, 103, 53, 104, 105, 106, 107, 39, 38, 41, 42, 43, 44, 46, 47, 48, 108, 109, 110, 111, 112, 113, 114, 115, 116, 117, 118, 119, 120, 121, 122, 123, 124, 125, 126, 127, 128, 129, 130, 131, 132] (by decide +kernel) (by decide +kernel)
set_option maxRecDepth 20000 in
theorem gX0_goToStep_X0_makeSteps : GoodIn wsX0_goToStep (wsV RX0 106 RX0 yX0_makeSteps wsX0_makeSteps) := goodIn_app (goodIn_of _ (by decide +kernel)) ggX0_goToStep_X0_makeSteps
theorem dX0_goToStep_0 : decode cX0_goToStep 0 = .ok (.aload_n 0, 1) := by decide +kernel
theorem dX0_goToStep_1 : decode cX0_goToStep 1 = .ok (.getfield 49, 3) := by decide +kernel
theorem dX0_goToStep_4 : decode cX0_goToStep 4 = .ok (.istore_n 2, 1) := by decide +kernel
theorem dX0_goToStep_5 : decode cX0_goToStep 5 = .ok (.iload_n 1, 1) := by decide +kernel
theorem dX0_goToStep_6 : decode cX0_goToStep 6 = .ok (.istore_n 3, 1) := by decide +kernel
theorem dX0_goToStep_7 : decode cX0_goToStep 7 = .ok (.iconst 0, 1) := by decide +kernel
theorem dX0_goToStep_8 : decode cX0_goToStep 8 = .ok (.istore 4, 2) := by decide +kernel
theorem dX0_goToStep_10 : decode cX0_goToStep 10 = .ok (.iload 4, 2) := by decide +kernel
theorem dX0_goToStep_12 : decode cX0_goToStep 12 = .ok (.sipush 5000, 3) := by decide +kernel
theorem dX0_goToStep_15 : decode cX0_goToStep 15 = .ok (.if_icmp .gt 77, 3) := by decide +kernel
theorem dX0_goToStep_18 : decode cX0_goToStep 18 = .ok (.aload_n 0, 1) := by decide +kernel
theorem dX0_goToStep_19 : decode cX0_goToStep 19 = .ok (.invokevirtual 98, 3) := by decide +kernel
theorem dX0_goToStep_22 : decode cX0_goToStep 22 = .ok (.istore 5, 2) := by decide +kernel
theorem dX0_goToStep_24 : decode cX0_goToStep 24 = .ok (.iload 5, 2) := by decide +kernel
theorem dX0_goToStep_26 : decode cX0_goToStep 26 = .ok (.iload_n 2, 1) := by decide +kernel
theorem dX0_goToStep_27 : decode cX0_goToStep 27 = .ok (.isub, 1) := by decide +kernel
theorem dX0_goToStep_28 : decode cX0_goToStep 28 = .ok (.sipush 5000, 3) := by decide +kernel
theorem dX0_goToStep_31 : decode cX0_goToStep 31 = .ok (.if_icmp .le 6, 3) := by decide +kernel
theorem dX0_goToStep_34 : decode cX0_goToStep 34 = .ok (.bipush (-6), 2) := by decide +kernel
theorem dX0_goToStep_36 : decode cX0_goToStep 36 = .ok (.ireturn, 1) := by decide +kernel
theorem dX0_goToStep_37 : decode cX0_goToStep 37 = .ok (.aload_n 0, 1) := by decide +kernel
theorem dX0_goToStep_38 : decode cX0_goToStep 38 = .ok (.iload 5, 2) := by decide +kernel
theorem dX0_goToStep_40 : decode cX0_goToStep 40 = .ok (.invokevirtual 102, 3) := by decide +kernel
theorem dX0_goToStep_43 : decode cX0_goToStep 43 = .ok (.iconst 0, 1) := by decide +kernel
theorem dX0_goToStep_44 : decode cX0_goToStep 44 = .ok (.istore 6, 2) := by decide +kernel
theorem dX0_goToStep_46 : decode cX0_goToStep 46 = .ok (.iload 6, 2) := by decide +kernel
theorem dX0_goToStep_48 : decode cX0_goToStep 48 = .ok (.aload_n 0, 1) := by decide +kernel
theorem dX0_goToStep_49 : decode cX0_goToStep 49 = .ok (.getfield 20, 3) := by decide +kernel
theorem dX0_goToStep_52 : decode cX0_goToStep 52 = .ok (.arraylength, 1) := by decide +kernel
theorem dX0_goToStep_53 : decode cX0_goToStep 53 = .ok (.if_icmp .ge 28, 3) := by decide +kernel
theorem dX0_goToStep_56 : decode cX0_goToStep 56 = .ok (.aload_n 0, 1) := by decide +kernel
theorem dX0_goToStep_57 : decode cX0_goToStep 57 = .ok (.iload 6, 2) := by decide +kernel
theorem dX0_goToStep_59 : decode cX0_goToStep 59 = .ok (.invokevirtual 119, 3) := by decide +kernel
theorem dX0_goToStep_62 : decode cX0_goToStep 62 = .ok (.ifCond .eq 13, 3) := by decide +kernel
theorem dX0_goToStep_65 : decode cX0_goToStep 65 = .ok (.iload_n 3, 1) := by decide +kernel
theorem dX0_goToStep_66 : decode cX0_goToStep 66 = .ok (.ifCond .ne 6, 3) := by decide +kernel
theorem dX0_goToStep_69 : decode cX0_goToStep 69 = .ok (.iload 6, 2) := by decide +kernel
theorem dX0_goToStep_71 : decode cX0_goToStep 71 = .ok (.ireturn, 1) := by decide +kernel
theorem dX0_goToStep_72 : decode cX0_goToStep 72 = .ok (.iinc 3 (-1), 3) := by decide +kernel
theorem dX0_goToStep_75 : decode cX0_goToStep 75 = .ok (.iinc 6 1, 3) := by decide +kernel
theorem dX0_goToStep_78 : decode cX0_goToStep 78 = .ok (.goto (-32), 3) := by decide +kernel
theorem dX0_goToStep_81 : decode cX0_goToStep 81 = .ok (.aload_n 0, 1) := by decide +kernel
theorem dX0_goToStep_82 : decode cX0_goToStep 82 = .ok (.invokevirtual 106, 3) := by decide +kernel
theorem dX0_goToStep_85 : decode cX0_goToStep 85 = .ok (.pop, 1) := by decide +kernel
theorem dX0_goToStep_86 : decode cX0_goToStep 86 = .ok (.iinc 4 1, 3) := by decide +kernel
theorem dX0_goToStep_89 : decode cX0_goToStep 89 = .ok (.goto (-79), 3) := by decide +kernel
theorem dX0_goToStep_92 : decode cX0_goToStep 92 = .ok (.bipush (-6), 2) := by decide +kernel
theorem dX0_goToStep_94 : decode cX0_goToStep 94 = .ok (.ireturn, 1) := by decide +kernel
set_option maxRecDepth 20000 in
theorem ggX0_movingSet_X5_moves : GoodIn wsX0_movingSet wsX5_moves := goodIn_r _ [6, 7, 16, 17, 18, 19, 20, 21, 22, 23, 24, 25, 26, 27] (by decide +kernel) (by decide +kernel)
set_option maxRecDepth 20000 in
theorem gX0_movingSet_X5_moves : GoodIn wsX0_movingSet (wsV RX0 66 RX5 yX5_moves wsX5_moves) := goodIn_app (goodIn_of _ (by decide +kernel)) ggX0_movingSet_X5_moves
theorem dX0_movingSet_0 : decode cX0_movingSet 0 = .ok (.iconst 0, 1) := by decide +kernel
theorem dX0_movingSet_1 : decode cX0_movingSet 1 = .ok (.istore_n 1, 1) := by decide +kernel
theorem dX0_movingSet_2 : decode cX0_movingSet 2 = .ok (.iconst 0, 1) := by decide +kernel
theorem dX0_movingSet_3 : decode cX0_movingSet 3 = .ok (.istore_n 2, 1) := by decide +kernel
theorem dX0_movingSet_4 : decode cX0_movingSet 4 = .ok (.iload_n 2, 1) := by decide +kernel
theorem dX0_movingSet_5 : decode cX0_movingSet 5 = .ok (.aload_n 0, 1) := by decide +kernel
theorem dX0_movingSet_6 : decode cX0_movingSet 6 = .ok (.getfield 20, 3) := by decide +kernel
theorem dX0_movingSet_9 : decode cX0_movingSet 9 = .ok (.arraylength, 1) := by decide +kernel
theorem dX0_movingSet_10 : decode cX0_movingSet 10 = .ok (.if_icmp .ge 27, 3) := by decide +kernel
theorem dX0_movingSet_13 : decode cX0_movingSet 13 = .ok (.aload_n 0, 1) := by decide +kernel
theorem dX0_movingSet_14 : decode cX0_movingSet 14 = .ok (.getfield 20, 3) := by decide +kernel
theorem dX0_movingSet_17 : decode cX0_movingSet 17 = .ok (.iload_n 2, 1) := by decide +kernel
theorem dX0_movingSet_18 : decode cX0_movingSet 18 = .ok (.aaload, 1) := by decide +kernel
theorem dX0_movingSet_19 : decode cX0_movingSet 19 = .ok (.invokevirtual 66, 3) := by decide +kernel
theorem dX0_movingSet_22 : decode cX0_movingSet 22 = .ok (.ifCond .eq 9, 3) := by decide +kernel
theorem dX0_movingSet_25 : decode cX0_movingSet 25 = .ok (.iload_n 1, 1) := by decide +kernel
theorem dX0_movingSet_26 : decode cX0_movingSet 26 = .ok (.iconst 1, 1) := by decide +kernel
theorem dX0_movingSet_27 : decode cX0_movingSet 27 = .ok (.iload_n 2, 1) := by decide +kernel
theorem dX0_movingSet_28 : decode cX0_movingSet 28 = .ok (.ishl, 1) := by decide +kernel
theorem dX0_movingSet_29 : decode cX0_movingSet 29 = .ok (.ior, 1) := by decide +kernel
theorem dX0_movingSet_30 : decode cX0_movingSet 30 = .ok (.istore_n 1, 1) := by decide +kernel
theorem dX0_movingSet_31 : decode cX0_movingSet 31 = .ok (.iinc 2 1, 3) := by decide +kernel
theorem dX0_movingSet_34 : decode cX0_movingSet 34 = .ok (.goto (-30), 3) := by decide +kernel
theorem dX0_movingSet_37 : decode cX0_movingSet 37 = .ok (.iload_n 1, 1) := by decide +kernel
theorem dX0_movingSet_38 : decode cX0_movingSet 38 = .ok (.ireturn, 1) := by decide +kernel
theorem dX0_displacedSet_0 : decode cX0_displacedSet 0 = .ok (.iconst 0, 1) := by decide +kernel
theorem dX0_displacedSet_1 : decode cX0_displacedSet 1 = .ok (.istore_n 1, 1) := by decide +kernel
theorem dX0_displacedSet_2 : decode cX0_displacedSet 2 = .ok (.iconst 0, 1) := by decide +kernel
theorem dX0_displacedSet_3 : decode cX0_displacedSet 3 = .ok (.istore_n 2, 1) := by decide +kernel
theorem dX0_displacedSet_4 : decode cX0_displacedSet 4 = .ok (.iload_n 2, 1) := by decide +kernel
theorem dX0_displacedSet_5 : decode cX0_displacedSet 5 = .ok (.aload_n 0, 1) := by decide +kernel
theorem dX0_displacedSet_6 : decode cX0_displacedSet 6 = .ok (.getfield 20, 3) := by decide +kernel
theorem dX0_displacedSet_9 : decode cX0_displacedSet 9 = .ok (.arraylength, 1) := by decide +kernel
theorem dX0_displacedSet_10 : decode cX0_displacedSet 10 = .ok (.if_icmp .ge 36, 3) := by decide +kernel
theorem dX0_displacedSet_13 : decode cX0_displacedSet 13 = .ok (.aload_n 0, 1) := by decide +kernel
theorem dX0_displacedSet_14 : decode cX0_displacedSet 14 = .ok (.getfield 20, 3) := by decide +kernel
theorem dX0_displacedSet_17 : decode cX0_displacedSet 17 = .ok (.iload_n 2, 1) := by decide +kernel
theorem dX0_displacedSet_18 : decode cX0_displacedSet 18 = .ok (.aaload, 1) := by decide +kernel
theorem dX0_displacedSet_19 : decode cX0_displacedSet 19 = .ok (.getfield 90, 3) := by decide +kernel
theorem dX0_displacedSet_22 : decode cX0_displacedSet 22 = .ok (.aload_n 0, 1) := by decide +kernel
theorem dX0_displacedSet_23 : decode cX0_displacedSet 23 = .ok (.getfield 20, 3) := by decide +kernel
theorem dX0_displacedSet_26 : decode cX0_displacedSet 26 = .ok (.iload_n 2, 1) := by decide +kernel
theorem dX0_displacedSet_27 : decode cX0_displacedSet 27 = .ok (.aaload, 1) := by decide +kernel
theorem dX0_displacedSet_28 : decode cX0_displacedSet 28 = .ok (.getfield 93, 3) := by decide +kernel
theorem dX0_displacedSet_31 : decode cX0_displacedSet 31 = .ok (.if_icmp .eq 9, 3) := by decide +kernel
theorem dX0_displacedSet_34 : decode cX0_displacedSet 34 = .ok (.iload_n 1, 1) := by decide +kernel
theorem dX0_displacedSet_35 : decode cX0_displacedSet 35 = .ok (.iconst 1, 1) := by decide +kernel
theorem dX0_displacedSet_36 : decode cX0_displacedSet 36 = .ok (.iload_n 2, 1) := by decide +kernel
theorem dX0_displacedSet_37 : decode cX0_displacedSet 37 = .ok (.ishl, 1) := by decide +kernel
theorem dX0_displacedSet_38 : decode cX0_displacedSet 38 = .ok (.ior, 1) := by decide +kernel
theorem dX0_displacedSet_39 : decode cX0_displacedSet 39 = .ok (.istore_n 1, 1) := by decide +kernel
theorem dX0_displacedSet_40 : decode cX0_displacedSet 40 = .ok (.iinc 2 1, 3) := by decide +kernel
theorem dX0_displacedSet_43 : decode cX0_displacedSet 43 = .ok (.goto (-39), 3) := by decide +kernel
theorem dX0_displacedSet_46 : decode cX0_displacedSet 46 = .ok (.iload_n 1, 1) := by decide +kernel
theorem dX0_displacedSet_47 : decode cX0_displacedSet 47 = .ok (.ireturn, 1) := by decide +kernel
theorem dX0_stepsSoFar_0 : decode cX0_stepsSoFar 0 = .ok (.iconst 0, 1) := by decide +kernel
theorem dX0_stepsSoFar_1 : decode cX0_stepsSoFar 1 = .ok (.istore_n 1, 1) := by decide +kernel
theorem dX0_stepsSoFar_2 : decode cX0_stepsSoFar 2 = .ok (.iconst 0, 1) := by decide +kernel
theorem dX0_stepsSoFar_3 : decode cX0_stepsSoFar 3 = .ok (.istore_n 2, 1) := by decide +kernel
theorem dX0_stepsSoFar_4 : decode cX0_stepsSoFar 4 = .ok (.iload_n 2, 1) := by decide +kernel
theorem dX0_stepsSoFar_5 : decode cX0_stepsSoFar 5 = .ok (.aload_n 0, 1) := by decide +kernel
theorem dX0_stepsSoFar_6 : decode cX0_stepsSoFar 6 = .ok (.getfield 20, 3) := by decide +kernel
theorem dX0_stepsSoFar_9 : decode cX0_stepsSoFar 9 = .ok (.arraylength, 1) := by decide +kernel
theorem dX0_stepsSoFar_10 : decode cX0_stepsSoFar 10 = .ok (.if_icmp .ge 21, 3) := by decide +kernel
theorem dX0_stepsSoFar_13 : decode cX0_stepsSoFar 13 = .ok (.iload_n 1, 1) := by decide +kernel
theorem dX0_stepsSoFar_14 : decode cX0_stepsSoFar 14 = .ok (.aload_n 0, 1) := by decide +kernel
theorem dX0_stepsSoFar_15 : decode cX0_stepsSoFar 15 = .ok (.getfield 20, 3) := by decide +kernel
theorem dX0_stepsSoFar_18 : decode cX0_stepsSoFar 18 = .ok (.iload_n 2, 1) := by decide +kernel
theorem dX0_stepsSoFar_19 : decode cX0_stepsSoFar 19 = .ok (.aaload, 1) := by decide +kernel
theorem dX0_stepsSoFar_20 : decode cX0_stepsSoFar 20 = .ok (.getfield 132, 3) := by decide +kernel
theorem dX0_stepsSoFar_23 : decode cX0_stepsSoFar 23 = .ok (.iadd, 1) := by decide +kernel
theorem dX0_stepsSoFar_24 : decode cX0_stepsSoFar 24 = .ok (.istore_n 1, 1) := by decide +kernel
theorem dX0_stepsSoFar_25 : decode cX0_stepsSoFar 25 = .ok (.iinc 2 1, 3) := by decide +kernel
theorem dX0_stepsSoFar_28 : decode cX0_stepsSoFar 28 = .ok (.goto (-24), 3) := by decide +kernel
theorem dX0_stepsSoFar_31 : decode cX0_stepsSoFar 31 = .ok (.iload_n 1, 1) := by decide +kernel
theorem dX0_stepsSoFar_32 : decode cX0_stepsSoFar 32 = .ok (.ireturn, 1) := by decide +kernel
theorem dX0_lostSoFar_0 : decode cX0_lostSoFar 0 = .ok (.iconst 0, 1) := by decide +kernel
theorem dX0_lostSoFar_1 : decode cX0_lostSoFar 1 = .ok (.istore_n 1, 1) := by decide +kernel
theorem dX0_lostSoFar_2 : decode cX0_lostSoFar 2 = .ok (.iconst 0, 1) := by decide +kernel
theorem dX0_lostSoFar_3 : decode cX0_lostSoFar 3 = .ok (.istore_n 2, 1) := by decide +kernel
theorem dX0_lostSoFar_4 : decode cX0_lostSoFar 4 = .ok (.iload_n 2, 1) := by decide +kernel
theorem dX0_lostSoFar_5 : decode cX0_lostSoFar 5 = .ok (.aload_n 0, 1) := by decide +kernel
theorem dX0_lostSoFar_6 : decode cX0_lostSoFar 6 = .ok (.getfield 20, 3) := by decide +kernel
theorem dX0_lostSoFar_9 : decode cX0_lostSoFar 9 = .ok (.arraylength, 1) := by decide +kernel
theorem dX0_lostSoFar_10 : decode cX0_lostSoFar 10 = .ok (.if_icmp .ge 21, 3) := by decide +kernel
theorem dX0_lostSoFar_13 : decode cX0_lostSoFar 13 = .ok (.iload_n 1, 1) := by decide +kernel
theorem dX0_lostSoFar_14 : decode cX0_lostSoFar 14 = .ok (.aload_n 0, 1) := by decide +kernel
theorem dX0_lostSoFar_15 : decode cX0_lostSoFar 15 = .ok (.getfield 20, 3) := by decide +kernel
theorem dX0_lostSoFar_18 : decode cX0_lostSoFar 18 = .ok (.iload_n 2, 1) := by decide +kernel
theorem dX0_lostSoFar_19 : decode cX0_lostSoFar 19 = .ok (.aaload, 1) := by decide +kernel
theorem dX0_lostSoFar_20 : decode cX0_lostSoFar 20 = .ok (.getfield 135, 3) := by decide +kernel
theorem dX0_lostSoFar_23 : decode cX0_lostSoFar 23 = .ok (.iadd, 1) := by decide +kernel
theorem dX0_lostSoFar_24 : decode cX0_lostSoFar 24 = .ok (.istore_n 1, 1) := by decide +kernel
theorem dX0_lostSoFar_25 : decode cX0_lostSoFar 25 = .ok (.iinc 2 1, 3) := by decide +kernel
theorem dX0_lostSoFar_28 : decode cX0_lostSoFar 28 = .ok (.goto (-24), 3) := by decide +kernel
theorem dX0_lostSoFar_31 : decode cX0_lostSoFar 31 = .ok (.iload_n 1, 1) := by decide +kernel
theorem dX0_lostSoFar_32 : decode cX0_lostSoFar 32 = .ok (.ireturn, 1) := by decide +kernel
set_option maxRecDepth 20000 in
theorem ggX1_init_X0_init : GoodIn wsX1_init wsX0_init := goodIn_r _ [10, 11, 2, 3, 12, 13, 14, 15, 16, 17, 18, 19, 20, 21, 22, 23, 24, 25, 26, 27, 28, 29, 30, 31, 32, 33, 34, 35, 47, 48, 49, 50, 51, 39, 40, 41, 42, 43, 44, 45, 46, 52, 53, 54, 55, 56, 57, 58, 59, 60, 61, 62, 63] (by decide +kernel) (by decide +kernel)
set_option maxRecDepth 20000 in
theorem gX1_init_X0_init : GoodIn wsX1_init (wsX0_init) := ggX1_init_X0_init
theorem dX1_init_0 : decode cX1_init 0 = .ok (.aload_n 0, 1) := by decide +kernel
theorem dX1_init_1 : decode cX1_init 1 = .ok (.invokespecial 3, 3) := by decide +kernel
theorem dX1_init_4 : decode cX1_init 4 = .ok (.aload_n 0, 1) := by decide +kernel
theorem dX1_init_5 : decode cX1_init 5 = .ok (.bipush 7, 2) := by decide +kernel
theorem dX1_init_7 : decode cX1_init 7 = .ok (.anewarray 9, 3) := by decide +kernel
theorem dX1_init_10 : decode cX1_init 10 = .ok (.putfield 11, 3) := by decide +kernel
theorem dX1_init_13 : decode cX1_init 13 = .ok (.iconst 0, 1) := by decide +kernel
theorem dX1_init_14 : decode cX1_init 14 = .ok (.istore_n 1, 1) := by decide +kernel
theorem dX1_init_15 : decode cX1_init 15 = .ok (.iload_n 1, 1) := by decide +kernel
theorem dX1_init_16 : decode cX1_init 16 = .ok (.aload_n 0, 1) := by decide +kernel
theorem dX1_init_17 : decode cX1_init 17 = .ok (.getfield 11, 3) := by decide +kernel
theorem dX1_init_20 : decode cX1_init 20 = .ok (.arraylength, 1) := by decide +kernel
theorem dX1_init_21 : decode cX1_init 21 = .ok (.if_icmp .ge 22, 3) := by decide +kernel
theorem dX1_init_24 : decode cX1_init 24 = .ok (.aload_n 0, 1) := by decide +kernel
theorem dX1_init_25 : decode cX1_init 25 = .ok (.getfield 11, 3) := by decide +kernel
theorem dX1_init_28 : decode cX1_init 28 = .ok (.iload_n 1, 1) := by decide +kernel
theorem dX1_init_29 : decode cX1_init 29 = .ok (.new 9, 3) := by decide +kernel
theorem dX1_init_32 : decode cX1_init 32 = .ok (.dup, 1) := by decide +kernel
theorem dX1_init_33 : decode cX1_init 33 = .ok (.invokespecial 17, 3) := by decide +kernel
theorem dX1_init_36 : decode cX1_init 36 = .ok (.aastore, 1) := by decide +kernel
theorem dX1_init_37 : decode cX1_init 37 = .ok (.iinc 1 1, 3) := by decide +kernel
theorem dX1_init_40 : decode cX1_init 40 = .ok (.goto (-25), 3) := by decide +kernel
theorem dX1_init_43 : decode cX1_init 43 = .ok (.return_, 1) := by decide +kernel
set_option maxRecDepth 20000 in
theorem ggX1_mark_X0_take : GoodIn wsX1_mark wsX0_take := goodIn_r _ [7, 8, 9, 10, 11, 12, 13, 14, 15, 16, 17, 18, 19, 20, 21, 22, 23, 24, 25, 26, 27, 28, 29, 30, 31, 32, 33, 34, 35, 36, 37, 38, 39, 40, 41, 42, 46, 47, 48, 49, 50, 51, 52, 53, 54, 55, 56, 57, 58, 59, 60, 61, 62, 63, 64, 65, 66, 67, 68, 69, 70] (by decide +kernel) (by decide +kernel)
set_option maxRecDepth 20000 in
theorem gX1_mark_X0_take : GoodIn wsX1_mark (wsV RX1 22 RX0 yX0_take wsX0_take) := goodIn_app (goodIn_of _ (by decide +kernel)) ggX1_mark_X0_take
theorem dX1_mark_0 : decode cX1_mark 0 = .ok (.aload_n 0, 1) := by decide +kernel
theorem dX1_mark_1 : decode cX1_mark 1 = .ok (.getfield 18, 3) := by decide +kernel
theorem dX1_mark_4 : decode cX1_mark 4 = .ok (.ifCond .lt 28, 3) := by decide +kernel
theorem dX1_mark_7 : decode cX1_mark 7 = .ok (.aload_n 0, 1) := by decide +kernel
theorem dX1_mark_8 : decode cX1_mark 8 = .ok (.getfield 18, 3) := by decide +kernel
theorem dX1_mark_11 : decode cX1_mark 11 = .ok (.aload_n 0, 1) := by decide +kernel
theorem dX1_mark_12 : decode cX1_mark 12 = .ok (.getfield 11, 3) := by decide +kernel
theorem dX1_mark_15 : decode cX1_mark 15 = .ok (.arraylength, 1) := by decide +kernel
theorem dX1_mark_16 : decode cX1_mark 16 = .ok (.if_icmp .ge 16, 3) := by decide +kernel
theorem dX1_mark_19 : decode cX1_mark 19 = .ok (.aload_n 0, 1) := by decide +kernel
theorem dX1_mark_20 : decode cX1_mark 20 = .ok (.getfield 11, 3) := by decide +kernel
theorem dX1_mark_23 : decode cX1_mark 23 = .ok (.aload_n 0, 1) := by decide +kernel
theorem dX1_mark_24 : decode cX1_mark 24 = .ok (.getfield 18, 3) := by decide +kernel
theorem dX1_mark_27 : decode cX1_mark 27 = .ok (.aaload, 1) := by decide +kernel
theorem dX1_mark_28 : decode cX1_mark 28 = .ok (.aload_n 1, 1) := by decide +kernel
theorem dX1_mark_29 : decode cX1_mark 29 = .ok (.invokevirtual 22, 3) := by decide +kernel
theorem dX1_mark_32 : decode cX1_mark 32 = .ok (.return_, 1) := by decide +kernel
theorem dX1_keepMarked_0 : decode cX1_keepMarked 0 = .ok (.aload_n 0, 1) := by decide +kernel
theorem dX1_keepMarked_1 : decode cX1_keepMarked 1 = .ok (.aload_n 0, 1) := by decide +kernel
theorem dX1_keepMarked_2 : decode cX1_keepMarked 2 = .ok (.getfield 18, 3) := by decide +kernel
theorem dX1_keepMarked_5 : decode cX1_keepMarked 5 = .ok (.iconst 1, 1) := by decide +kernel
theorem dX1_keepMarked_6 : decode cX1_keepMarked 6 = .ok (.iadd, 1) := by decide +kernel
theorem dX1_keepMarked_7 : decode cX1_keepMarked 7 = .ok (.aload_n 0, 1) := by decide +kernel
theorem dX1_keepMarked_8 : decode cX1_keepMarked 8 = .ok (.getfield 11, 3) := by decide +kernel
theorem dX1_keepMarked_11 : decode cX1_keepMarked 11 = .ok (.arraylength, 1) := by decide +kernel
theorem dX1_keepMarked_12 : decode cX1_keepMarked 12 = .ok (.if_icmp .ge 12, 3) := by decide +kernel
theorem dX1_keepMarked_15 : decode cX1_keepMarked 15 = .ok (.aload_n 0, 1) := by decide +kernel
theorem dX1_keepMarked_16 : decode cX1_keepMarked 16 = .ok (.getfield 18, 3) := by decide +kernel
theorem dX1_keepMarked_19 : decode cX1_keepMarked 19 = .ok (.iconst 1, 1) := by decide +kernel
theorem dX1_keepMarked_20 : decode cX1_keepMarked 20 = .ok (.iadd, 1) := by decide +kernel
theorem dX1_keepMarked_21 : decode cX1_keepMarked 21 = .ok (.goto 4, 3) := by decide +kernel
theorem dX1_keepMarked_24 : decode cX1_keepMarked 24 = .ok (.iconst 0, 1) := by decide +kernel
theorem dX1_keepMarked_25 : decode cX1_keepMarked 25 = .ok (.putfield 18, 3) := by decide +kernel
theorem dX1_keepMarked_28 : decode cX1_keepMarked 28 = .ok (.aload_n 0, 1) := by decide +kernel
theorem dX1_keepMarked_29 : decode cX1_keepMarked 29 = .ok (.aload_n 0, 1) := by decide +kernel
theorem dX1_keepMarked_30 : decode cX1_keepMarked 30 = .ok (.getfield 26, 3) := by decide +kernel
theorem dX1_keepMarked_33 : decode cX1_keepMarked 33 = .ok (.iconst 1, 1) := by decide +kernel
theorem dX1_keepMarked_34 : decode cX1_keepMarked 34 = .ok (.iadd, 1) := by decide +kernel
theorem dX1_keepMarked_35 : decode cX1_keepMarked 35 = .ok (.bipush 6, 2) := by decide +kernel
theorem dX1_keepMarked_37 : decode cX1_keepMarked 37 = .ok (.invokestatic 29, 3) := by decide +kernel
theorem dX1_keepMarked_40 : decode cX1_keepMarked 40 = .ok (.putfield 26, 3) := by decide +kernel
theorem dX1_keepMarked_43 : decode cX1_keepMarked 43 = .ok (.return_, 1) := by decide +kernel
set_option maxRecDepth 20000 in
theorem ggX1_latest_X1_placeOfLatest : GoodIn wsX1_latest wsX1_placeOfLatest := goodIn_r _ [7, 8, 9, 10, 11] (by decide +kernel) (by decide +kernel)
set_option maxRecDepth 20000 in
theorem gX1_latest_X1_placeOfLatest : GoodIn wsX1_latest (wsV RX1 35 RX1 yX1_placeOfLatest wsX1_placeOfLatest) := goodIn_app (goodIn_of _ (by decide +kernel)) ggX1_latest_X1_placeOfLatest
theorem dX1_latest_0 : decode cX1_latest 0 = .ok (.aload_n 0, 1) := by decide +kernel
theorem dX1_latest_1 : decode cX1_latest 1 = .ok (.invokevirtual 35, 3) := by decide +kernel
theorem dX1_latest_4 : decode cX1_latest 4 = .ok (.istore_n 1, 1) := by decide +kernel
theorem dX1_latest_5 : decode cX1_latest 5 = .ok (.aload_n 0, 1) := by decide +kernel
theorem dX1_latest_6 : decode cX1_latest 6 = .ok (.getfield 26, 3) := by decide +kernel
theorem dX1_latest_9 : decode cX1_latest 9 = .ok (.iconst 1, 1) := by decide +kernel
theorem dX1_latest_10 : decode cX1_latest 10 = .ok (.if_icmp .lt 16, 3) := by decide +kernel
theorem dX1_latest_13 : decode cX1_latest 13 = .ok (.iload_n 1, 1) := by decide +kernel
theorem dX1_latest_14 : decode cX1_latest 14 = .ok (.ifCond .lt 12, 3) := by decide +kernel
theorem dX1_latest_17 : decode cX1_latest 17 = .ok (.iload_n 1, 1) := by decide +kernel
theorem dX1_latest_18 : decode cX1_latest 18 = .ok (.aload_n 0, 1) := by decide +kernel
theorem dX1_latest_19 : decode cX1_latest 19 = .ok (.getfield 11, 3) := by decide +kernel
theorem dX1_latest_22 : decode cX1_latest 22 = .ok (.arraylength, 1) := by decide +kernel
theorem dX1_latest_23 : decode cX1_latest 23 = .ok (.if_icmp .lt 5, 3) := by decide +kernel
theorem dX1_latest_26 : decode cX1_latest 26 = .ok (.aconst_null, 1) := by decide +kernel
theorem dX1_latest_27 : decode cX1_latest 27 = .ok (.areturn, 1) := by decide +kernel
theorem dX1_latest_28 : decode cX1_latest 28 = .ok (.aload_n 0, 1) := by decide +kernel
theorem dX1_latest_29 : decode cX1_latest 29 = .ok (.getfield 11, 3) := by decide +kernel
theorem dX1_latest_32 : decode cX1_latest 32 = .ok (.iload_n 1, 1) := by decide +kernel
theorem dX1_latest_33 : decode cX1_latest 33 = .ok (.aaload, 1) := by decide +kernel
theorem dX1_latest_34 : decode cX1_latest 34 = .ok (.areturn, 1) := by decide +kernel
set_option maxRecDepth 20000 in
theorem ggX1_dropLatest_X1_placeOfLatest : GoodIn wsX1_dropLatest wsX1_placeOfLatest := goodIn_r _ [7, 1, 8, 9, 10] (by decide +kernel) (by decide +kernel)
set_option maxRecDepth 20000 in
theorem gX1_dropLatest_X1_placeOfLatest : GoodIn wsX1_dropLatest (wsV RX1 35 RX1 yX1_placeOfLatest wsX1_placeOfLatest) := goodIn_app (goodIn_of _ (by decide +kernel)) ggX1_dropLatest_X1_placeOfLatest
theorem dX1_dropLatest_0 : decode cX1_dropLatest 0 = .ok (.aload_n 0, 1) := by decide +kernel
theorem dX1_dropLatest_1 : decode cX1_dropLatest 1 = .ok (.aload_n 0, 1) := by decide +kernel
theorem dX1_dropLatest_2 : decode cX1_dropLatest 2 = .ok (.invokevirtual 35, 3) := by decide +kernel
theorem dX1_dropLatest_5 : decode cX1_dropLatest 5 = .ok (.putfield 18, 3) := by decide +kernel
theorem dX1_dropLatest_8 : decode cX1_dropLatest 8 = .ok (.aload_n 0, 1) := by decide +kernel
theorem dX1_dropLatest_9 : decode cX1_dropLatest 9 = .ok (.dup, 1) := by decide +kernel
theorem dX1_dropLatest_10 : decode cX1_dropLatest 10 = .ok (.getfield 26, 3) := by decide +kernel
theorem dX1_dropLatest_13 : decode cX1_dropLatest 13 = .ok (.iconst 1, 1) := by decide +kernel
theorem dX1_dropLatest_14 : decode cX1_dropLatest 14 = .ok (.isub, 1) := by decide +kernel
theorem dX1_dropLatest_15 : decode cX1_dropLatest 15 = .ok (.putfield 26, 3) := by decide +kernel
theorem dX1_dropLatest_18 : decode cX1_dropLatest 18 = .ok (.return_, 1) := by decide +kernel
theorem dX1_placeOfLatest_0 : decode cX1_placeOfLatest 0 = .ok (.aload_n 0, 1) := by decide +kernel
theorem dX1_placeOfLatest_1 : decode cX1_placeOfLatest 1 = .ok (.getfield 18, 3) := by decide +kernel
theorem dX1_placeOfLatest_4 : decode cX1_placeOfLatest 4 = .ok (.ifCond .le 12, 3) := by decide +kernel
theorem dX1_placeOfLatest_7 : decode cX1_placeOfLatest 7 = .ok (.aload_n 0, 1) := by decide +kernel
theorem dX1_placeOfLatest_8 : decode cX1_placeOfLatest 8 = .ok (.getfield 18, 3) := by decide +kernel
theorem dX1_placeOfLatest_11 : decode cX1_placeOfLatest 11 = .ok (.iconst 1, 1) := by decide +kernel
theorem dX1_placeOfLatest_12 : decode cX1_placeOfLatest 12 = .ok (.isub, 1) := by decide +kernel
