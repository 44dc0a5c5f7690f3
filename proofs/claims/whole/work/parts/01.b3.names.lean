theorem dX5_makeStep_86 : decode cX5_makeStep 86 = .ok (.aload_n 2, 1) := by decide +kernel
theorem dX5_makeStep_87 : decode cX5_makeStep 87 = .ok (.aload_n 0, 1) := by decide +kernel
theorem dX5_makeStep_88 : decode cX5_makeStep 88 = .ok (.getfield 34, 3) := by decide +kernel
theorem dX5_makeStep_91 : decode cX5_makeStep 91 = .ok (.aload_n 0, 1) := by decide +kernel
theorem dX5_makeStep_92 : decode cX5_makeStep 92 = .ok (.getfield 31, 3) := by decide +kernel
theorem dX5_makeStep_95 : decode cX5_makeStep 95 = .ok (.invokevirtual 79, 3) := by decide +kernel
theorem dX5_makeStep_98 : decode cX5_makeStep 98 = .ok (.putfield 34, 3) := by decide +kernel
theorem dX5_makeStep_101 : decode cX5_makeStep 101 = .ok (.aload_n 0, 1) := by decide +kernel
theorem dX5_makeStep_102 : decode cX5_makeStep 102 = .ok (.iload_n 1, 1) := by decide +kernel
theorem dX5_makeStep_103 : decode cX5_makeStep 103 = .ok (.aload_n 2, 1) := by decide +kernel
theorem dX5_makeStep_104 : decode cX5_makeStep 104 = .ok (.aload_n 0, 1) := by decide +kernel
theorem dX5_makeStep_105 : decode cX5_makeStep 105 = .ok (.getfield 34, 3) := by decide +kernel
theorem dX5_makeStep_108 : decode cX5_makeStep 108 = .ok (.invokevirtual 59, 3) := by decide +kernel
theorem dX5_makeStep_111 : decode cX5_makeStep 111 = .ok (.iadd, 1) := by decide +kernel
theorem dX5_makeStep_112 : decode cX5_makeStep 112 = .ok (.putfield 37, 3) := by decide +kernel
theorem dX5_makeStep_115 : decode cX5_makeStep 115 = .ok (.goto 8, 3) := by decide +kernel
theorem dX5_makeStep_118 : decode cX5_makeStep 118 = .ok (.aload_n 0, 1) := by decide +kernel
theorem dX5_makeStep_119 : decode cX5_makeStep 119 = .ok (.iconst 0, 1) := by decide +kernel
theorem dX5_makeStep_120 : decode cX5_makeStep 120 = .ok (.putfield 34, 3) := by decide +kernel
theorem dX5_makeStep_123 : decode cX5_makeStep 123 = .ok (.return_, 1) := by decide +kernel
set_option maxRecDepth 20000 in
theorem ggX5_slowDown_X5_leftIfHalted : GoodIn wsX5_slowDown wsX5_leftIfHalted := goodIn_r _ [7, 1, 8, 9, 10, 11, 12, 13, 14, 15, 16, 17, 18, 19, 20, 21, 22, 23, 24] (by decide +kernel) (by decide +kernel)
set_option maxRecDepth 20000 in
theorem gX5_slowDown_X5_leftIfHalted : GoodIn wsX5_slowDown (wsV RX5 82 RX5 yX5_leftIfHalted wsX5_leftIfHalted) := goodIn_app (goodIn_of _ (by decide +kernel)) ggX5_slowDown_X5_leftIfHalted
theorem dX5_slowDown_0 : decode cX5_slowDown 0 = .ok (.aload_n 0, 1) := by decide +kernel
theorem dX5_slowDown_1 : decode cX5_slowDown 1 = .ok (.aload_n 0, 1) := by decide +kernel
theorem dX5_slowDown_2 : decode cX5_slowDown 2 = .ok (.invokevirtual 82, 3) := by decide +kernel
theorem dX5_slowDown_5 : decode cX5_slowDown 5 = .ok (.putfield 31, 3) := by decide +kernel
theorem dX5_slowDown_8 : decode cX5_slowDown 8 = .ok (.aload_n 0, 1) := by decide +kernel
theorem dX5_slowDown_9 : decode cX5_slowDown 9 = .ok (.iconst 0, 1) := by decide +kernel
theorem dX5_slowDown_10 : decode cX5_slowDown 10 = .ok (.putfield 46, 3) := by decide +kernel
theorem dX5_slowDown_13 : decode cX5_slowDown 13 = .ok (.return_, 1) := by decide +kernel
set_option maxRecDepth 20000 in
theorem ggX6_init_X0_init : GoodIn wsX6_init wsX0_init := goodIn_r _ [24, 25, 2, 3, 26, 27, 28, 29, 30, 31, 32, 33, 34, 35, 36, 37, 38, 39, 40, 41, 42, 43, 44, 45, 46, 47, 48, 49, 93, 94, 95, 96, 97, 69, 70, 71, 72, 73, 74, 75, 76, 98, 99, 100, 101, 102, 103, 104, 105, 106, 107, 108, 109] (by decide +kernel) (by decide +kernel)
set_option maxRecDepth 20000 in
theorem gX6_init_X0_init : GoodIn wsX6_init (wsX0_init) := ggX6_init_X0_init
set_option maxRecDepth 20000 in
theorem ggX6_init_X1_init : GoodIn wsX6_init wsX1_init := goodIn_r _ [52, 53, 2, 3, 54, 55, 5, 6, 56, 23, 24, 25, 26, 27, 28, 29, 30, 31, 32, 33, 34, 35, 36, 37, 38, 39, 40, 41, 42, 43, 44, 45, 46, 47, 48, 49, 84, 85, 86, 69, 70, 71, 72, 73, 74, 75, 76, 93, 94, 95, 96, 97, 98, 99, 100, 101, 102, 103, 104, 105, 106, 107, 108, 109] (by decide +kernel) (by decide +kernel)
set_option maxRecDepth 20000 in
theorem gX6_init_X1_init : GoodIn wsX6_init (wsX1_init) := ggX6_init_X1_init
set_option maxRecDepth 20000 in
theorem ggX6_init_X4_init : GoodIn wsX6_init wsX4_init := goodIn_r _ [58, 59, 2, 3, 60, 61, 62, 63, 64, 65, 66, 67, 68, 110, 111, 87, 88, 89, 90, 91, 92] (by decide +kernel) (by decide +kernel)
set_option maxRecDepth 20000 in
theorem gX6_init_X4_init_n36 : GoodIn wsX6_init (wsX4_init) := ggX6_init_X4_init
theorem dX6_init_0 : decode cX6_init 0 = .ok (.aload_n 0, 1) := by decide +kernel
theorem dX6_init_1 : decode cX6_init 1 = .ok (.invokespecial 1, 3) := by decide +kernel
theorem dX6_init_4 : decode cX6_init 4 = .ok (.aload_n 0, 1) := by decide +kernel
theorem dX6_init_5 : decode cX6_init 5 = .ok (.new 7, 3) := by decide +kernel
theorem dX6_init_8 : decode cX6_init 8 = .ok (.dup, 1) := by decide +kernel
theorem dX6_init_9 : decode cX6_init 9 = .ok (.invokespecial 9, 3) := by decide +kernel
theorem dX6_init_12 : decode cX6_init 12 = .ok (.putfield 10, 3) := by decide +kernel
theorem dX6_init_15 : decode cX6_init 15 = .ok (.aload_n 0, 1) := by decide +kernel
theorem dX6_init_16 : decode cX6_init 16 = .ok (.new 7, 3) := by decide +kernel
theorem dX6_init_19 : decode cX6_init 19 = .ok (.dup, 1) := by decide +kernel
theorem dX6_init_20 : decode cX6_init 20 = .ok (.invokespecial 9, 3) := by decide +kernel
theorem dX6_init_23 : decode cX6_init 23 = .ok (.putfield 16, 3) := by decide +kernel
theorem dX6_init_26 : decode cX6_init 26 = .ok (.aload_n 0, 1) := by decide +kernel
theorem dX6_init_27 : decode cX6_init 27 = .ok (.new 19, 3) := by decide +kernel
theorem dX6_init_30 : decode cX6_init 30 = .ok (.dup, 1) := by decide +kernel
theorem dX6_init_31 : decode cX6_init 31 = .ok (.invokespecial 21, 3) := by decide +kernel
theorem dX6_init_34 : decode cX6_init 34 = .ok (.putfield 22, 3) := by decide +kernel
theorem dX6_init_37 : decode cX6_init 37 = .ok (.aload_n 0, 1) := by decide +kernel
theorem dX6_init_38 : decode cX6_init 38 = .ok (.iconst 2, 1) := by decide +kernel
theorem dX6_init_39 : decode cX6_init 39 = .ok (.anewarray 7, 3) := by decide +kernel
theorem dX6_init_42 : decode cX6_init 42 = .ok (.putfield 26, 3) := by decide +kernel
theorem dX6_init_45 : decode cX6_init 45 = .ok (.iconst 0, 1) := by decide +kernel
theorem dX6_init_46 : decode cX6_init 46 = .ok (.istore_n 1, 1) := by decide +kernel
theorem dX6_init_47 : decode cX6_init 47 = .ok (.iload_n 1, 1) := by decide +kernel
theorem dX6_init_48 : decode cX6_init 48 = .ok (.aload_n 0, 1) := by decide +kernel
theorem dX6_init_49 : decode cX6_init 49 = .ok (.getfield 26, 3) := by decide +kernel
theorem dX6_init_52 : decode cX6_init 52 = .ok (.arraylength, 1) := by decide +kernel
theorem dX6_init_53 : decode cX6_init 53 = .ok (.if_icmp .ge 22, 3) := by decide +kernel
theorem dX6_init_56 : decode cX6_init 56 = .ok (.aload_n 0, 1) := by decide +kernel
theorem dX6_init_57 : decode cX6_init 57 = .ok (.getfield 26, 3) := by decide +kernel
theorem dX6_init_60 : decode cX6_init 60 = .ok (.iload_n 1, 1) := by decide +kernel
theorem dX6_init_61 : decode cX6_init 61 = .ok (.new 7, 3) := by decide +kernel
theorem dX6_init_64 : decode cX6_init 64 = .ok (.dup, 1) := by decide +kernel
theorem dX6_init_65 : decode cX6_init 65 = .ok (.invokespecial 9, 3) := by decide +kernel
theorem dX6_init_68 : decode cX6_init 68 = .ok (.aastore, 1) := by decide +kernel
theorem dX6_init_69 : decode cX6_init 69 = .ok (.iinc 1 1, 3) := by decide +kernel
theorem dX6_init_72 : decode cX6_init 72 = .ok (.goto (-25), 3) := by decide +kernel
theorem dX6_init_75 : decode cX6_init 75 = .ok (.aload_n 0, 1) := by decide +kernel
theorem dX6_init_76 : decode cX6_init 76 = .ok (.iconst 2, 1) := by decide +kernel
theorem dX6_init_77 : decode cX6_init 77 = .ok (.newarray .boolean, 2) := by decide +kernel
theorem dX6_init_79 : decode cX6_init 79 = .ok (.putfield 30, 3) := by decide +kernel
theorem dX6_init_82 : decode cX6_init 82 = .ok (.aload_n 0, 1) := by decide +kernel
theorem dX6_init_83 : decode cX6_init 83 = .ok (.new 34, 3) := by decide +kernel
theorem dX6_init_86 : decode cX6_init 86 = .ok (.dup, 1) := by decide +kernel
theorem dX6_init_87 : decode cX6_init 87 = .ok (.invokespecial 36, 3) := by decide +kernel
theorem dX6_init_90 : decode cX6_init 90 = .ok (.putfield 37, 3) := by decide +kernel
theorem dX6_init_93 : decode cX6_init 93 = .ok (.aload_n 0, 1) := by decide +kernel
theorem dX6_init_94 : decode cX6_init 94 = .ok (.aload_n 0, 1) := by decide +kernel
theorem dX6_init_95 : decode cX6_init 95 = .ok (.getfield 37, 3) := by decide +kernel
theorem dX6_init_98 : decode cX6_init 98 = .ok (.getfield 41, 3) := by decide +kernel
theorem dX6_init_101 : decode cX6_init 101 = .ok (.putfield 45, 3) := by decide +kernel
theorem dX6_init_104 : decode cX6_init 104 = .ok (.return_, 1) := by decide +kernel
set_option maxRecDepth 20000 in
theorem ggX6_set_X1_mark : GoodIn wsX6_set wsX1_mark := goodIn_r _ [8, 9, 10, 11, 12, 13, 14, 15, 16, 17, 18, 19, 20, 21, 22, 23, 24, 25, 26, 27, 28, 29, 30, 31, 32, 33, 34, 35, 36, 37, 38, 39, 40, 41, 42, 43, 44, 45, 46, 47, 48, 49, 50, 94, 95, 96, 86, 87, 88, 89, 90, 91, 92, 93, 97, 98, 99, 100, 101, 102, 103, 104, 105, 106, 107, 108, 109, 110, 111, 112, 113] (by decide +kernel) (by decide +kernel)
set_option maxRecDepth 20000 in
theorem gX6_set_X1_mark : GoodIn wsX6_set (wsV RX6 46 RX1 yX1_mark wsX1_mark) := goodIn_app (goodIn_of _ (by decide +kernel)) ggX6_set_X1_mark
set_option maxRecDepth 20000 in
theorem ggX6_set_X3_change : GoodIn wsX6_set wsX3_change := goodIn_r _ [54, 29, 30, 31, 32, 33, 55, 56, 27, 57, 58, 59, 60, 61, 97, 98, 99, 100, 101] (by decide +kernel) (by decide +kernel)
set_option maxRecDepth 20000 in
theorem gX6_set_X3_change : GoodIn wsX6_set (wsV RX6 54 RX3 yX3_change wsX3_change) := goodIn_app (goodIn_of _ (by decide +kernel)) ggX6_set_X3_change
set_option maxRecDepth 20000 in
theorem ggX6_set_X6_recorded : GoodIn wsX6_set wsX6_recorded := goodIn_r _ [66, 1, 67, 68, 65, 69, 70, 71, 72, 7, 73, 9, 10, 74, 75, 76, 77, 78, 79, 80, 81, 82, 83, 84, 85, 94, 95, 96] (by decide +kernel) (by decide +kernel)
set_option maxRecDepth 20000 in
theorem gX6_set_X6_recorded : GoodIn wsX6_set (wsV RX6 60 RX6 yX6_recorded wsX6_recorded) := goodIn_app (goodIn_of _ (by decide +kernel)) ggX6_set_X6_recorded
theorem dX6_set_0 : decode cX6_set 0 = .ok (.aload_n 0, 1) := by decide +kernel
theorem dX6_set_1 : decode cX6_set 1 = .ok (.getfield 22, 3) := by decide +kernel
theorem dX6_set_4 : decode cX6_set 4 = .ok (.aload_n 0, 1) := by decide +kernel
theorem dX6_set_5 : decode cX6_set 5 = .ok (.getfield 10, 3) := by decide +kernel
theorem dX6_set_8 : decode cX6_set 8 = .ok (.invokevirtual 46, 3) := by decide +kernel
theorem dX6_set_11 : decode cX6_set 11 = .ok (.aload_n 0, 1) := by decide +kernel
theorem dX6_set_12 : decode cX6_set 12 = .ok (.aload_n 0, 1) := by decide +kernel
theorem dX6_set_13 : decode cX6_set 13 = .ok (.getfield 10, 3) := by decide +kernel
theorem dX6_set_16 : decode cX6_set 16 = .ok (.getfield 50, 3) := by decide +kernel
theorem dX6_set_19 : decode cX6_set 19 = .ok (.iload_n 1, 1) := by decide +kernel
theorem dX6_set_20 : decode cX6_set 20 = .ok (.iload_n 2, 1) := by decide +kernel
theorem dX6_set_21 : decode cX6_set 21 = .ok (.invokevirtual 54, 3) := by decide +kernel
theorem dX6_set_24 : decode cX6_set 24 = .ok (.invokevirtual 60, 3) := by decide +kernel
theorem dX6_set_27 : decode cX6_set 27 = .ok (.ireturn, 1) := by decide +kernel
set_option maxRecDepth 20000 in
theorem ggX6_shaft_X1_mark : GoodIn wsX6_shaft wsX1_mark := goodIn_r _ [7, 8, 9, 10, 11, 12, 13, 14, 15, 16, 17, 18, 19, 20, 21, 22, 23, 24, 25, 26, 27, 28, 29, 30, 31, 32, 33, 34, 35, 36, 37, 38, 39, 40, 41, 42, 43, 44, 45, 46, 47, 48, 49, 79, 80, 81, 82, 83, 84, 85, 86, 87, 88, 89, 90, 91, 92, 93, 94, 95, 96, 97, 98, 99, 100, 101, 102, 103, 104, 105, 106] (by decide +kernel) (by decide +kernel)
set_option maxRecDepth 20000 in
theorem gX6_shaft_X1_mark : GoodIn wsX6_shaft (wsV RX6 46 RX1 yX1_mark wsX1_mark) := goodIn_app (goodIn_of _ (by decide +kernel)) ggX6_shaft_X1_mark
set_option maxRecDepth 20000 in
theorem ggX6_shaft_X0_addShaft : GoodIn wsX6_shaft wsX0_addShaft := goodIn_r _ [53, 20, 16, 54, 82, 83, 84, 85, 86, 87, 88, 89, 95, 96, 97, 98, 99, 100, 101, 102, 103, 104, 105, 106] (by decide +kernel) (by decide +kernel)
set_option maxRecDepth 20000 in
theorem gX6_shaft_X0_addShaft : GoodIn wsX6_shaft (wsV RX6 64 RX0 yX0_addShaft wsX0_addShaft) := goodIn_app (goodIn_of _ (by decide +kernel)) ggX6_shaft_X0_addShaft
set_option maxRecDepth 20000 in
theorem ggX6_shaft_X6_recorded : GoodIn wsX6_shaft wsX6_recorded := goodIn_r _ [59, 1, 60, 61, 58, 62, 63, 64, 65, 6, 66, 8, 9, 67, 68, 69, 70, 71, 72, 73, 74, 75, 76, 77, 78, 79, 80, 81] (by decide +kernel) (by decide +kernel)
set_option maxRecDepth 20000 in
theorem gX6_shaft_X6_recorded : GoodIn wsX6_shaft (wsV RX6 60 RX6 yX6_recorded wsX6_recorded) := goodIn_app (goodIn_of _ (by decide +kernel)) ggX6_shaft_X6_recorded
theorem dX6_shaft_0 : decode cX6_shaft 0 = .ok (.aload_n 0, 1) := by decide +kernel
theorem dX6_shaft_1 : decode cX6_shaft 1 = .ok (.getfield 22, 3) := by decide +kernel
theorem dX6_shaft_4 : decode cX6_shaft 4 = .ok (.aload_n 0, 1) := by decide +kernel
theorem dX6_shaft_5 : decode cX6_shaft 5 = .ok (.getfield 10, 3) := by decide +kernel
theorem dX6_shaft_8 : decode cX6_shaft 8 = .ok (.invokevirtual 46, 3) := by decide +kernel
theorem dX6_shaft_11 : decode cX6_shaft 11 = .ok (.aload_n 0, 1) := by decide +kernel
theorem dX6_shaft_12 : decode cX6_shaft 12 = .ok (.aload_n 0, 1) := by decide +kernel
theorem dX6_shaft_13 : decode cX6_shaft 13 = .ok (.getfield 10, 3) := by decide +kernel
theorem dX6_shaft_16 : decode cX6_shaft 16 = .ok (.iload_n 1, 1) := by decide +kernel
theorem dX6_shaft_17 : decode cX6_shaft 17 = .ok (.invokevirtual 64, 3) := by decide +kernel
theorem dX6_shaft_20 : decode cX6_shaft 20 = .ok (.invokevirtual 60, 3) := by decide +kernel
theorem dX6_shaft_23 : decode cX6_shaft 23 = .ok (.ireturn, 1) := by decide +kernel
set_option maxRecDepth 20000 in
theorem ggX6_load_X1_mark : GoodIn wsX6_load wsX1_mark := goodIn_r _ [7, 8, 9, 10, 11, 12, 13, 14, 15, 16, 17, 18, 19, 20, 21, 22, 23, 24, 25, 26, 27, 28, 29, 30, 31, 32, 33, 34, 35, 36, 37, 38, 39, 40, 41, 42, 43, 44, 45, 46, 47, 48, 49, 83, 84, 85, 86, 87, 88, 89, 90, 91, 92, 93, 94, 95, 96, 97, 98, 99, 100, 101, 102, 103, 104, 105, 106, 107, 108, 109, 110] (by decide +kernel) (by decide +kernel)
set_option maxRecDepth 20000 in
theorem gX6_load_X1_mark : GoodIn wsX6_load (wsV RX6 46 RX1 yX1_mark wsX1_mark) := goodIn_app (goodIn_of _ (by decide +kernel)) ggX6_load_X1_mark
set_option maxRecDepth 20000 in
theorem ggX6_load_X0_changeLoad : GoodIn wsX6_load wsX0_changeLoad := goodIn_r _ [53, 54, 55, 56, 57, 13, 58, 20, 16, 99, 100, 101, 102, 103, 104, 105, 106, 107, 108, 109, 110, 86, 87, 88, 89, 90, 91, 92, 93] (by decide +kernel) (by decide +kernel)
set_option maxRecDepth 20000 in
theorem gX6_load_X0_changeLoad : GoodIn wsX6_load (wsV RX6 67 RX0 yX0_changeLoad wsX0_changeLoad) := goodIn_app (goodIn_of _ (by decide +kernel)) ggX6_load_X0_changeLoad
set_option maxRecDepth 20000 in
theorem ggX6_load_X6_recorded : GoodIn wsX6_load wsX6_recorded := goodIn_r _ [63, 1, 64, 65, 62, 66, 67, 68, 69, 6, 70, 8, 9, 71, 72, 73, 74, 75, 76, 77, 78, 79, 80, 81, 82, 83, 84, 85] (by decide +kernel) (by decide +kernel)
set_option maxRecDepth 20000 in
theorem gX6_load_X6_recorded : GoodIn wsX6_load (wsV RX6 60 RX6 yX6_recorded wsX6_recorded) := goodIn_app (goodIn_of _ (by decide +kernel)) ggX6_load_X6_recorded
theorem dX6_load_0 : decode cX6_load 0 = .ok (.aload_n 0, 1) := by decide +kernel
theorem dX6_load_1 : decode cX6_load 1 = .ok (.getfield 22, 3) := by decide +kernel
theorem dX6_load_4 : decode cX6_load 4 = .ok (.aload_n 0, 1) := by decide +kernel
theorem dX6_load_5 : decode cX6_load 5 = .ok (.getfield 10, 3) := by decide +kernel
theorem dX6_load_8 : decode cX6_load 8 = .ok (.invokevirtual 46, 3) := by decide +kernel
theorem dX6_load_11 : decode cX6_load 11 = .ok (.aload_n 0, 1) := by decide +kernel
theorem dX6_load_12 : decode cX6_load 12 = .ok (.aload_n 0, 1) := by decide +kernel
theorem dX6_load_13 : decode cX6_load 13 = .ok (.getfield 10, 3) := by decide +kernel
theorem dX6_load_16 : decode cX6_load 16 = .ok (.iload_n 1, 1) := by decide +kernel
theorem dX6_load_17 : decode cX6_load 17 = .ok (.iload_n 2, 1) := by decide +kernel
theorem dX6_load_18 : decode cX6_load 18 = .ok (.invokevirtual 67, 3) := by decide +kernel
theorem dX6_load_21 : decode cX6_load 21 = .ok (.invokevirtual 60, 3) := by decide +kernel
theorem dX6_load_24 : decode cX6_load 24 = .ok (.ireturn, 1) := by decide +kernel
set_option maxRecDepth 20000 in
theorem ggX6_move_X1_mark : GoodIn wsX6_move wsX1_mark := goodIn_r _ [7, 8, 9, 10, 11, 12, 13, 14, 15, 16, 17, 18, 19, 20, 21, 22, 23, 24, 25, 26, 27, 28, 29, 30, 31, 32, 33, 34, 35, 36, 37, 38, 39, 40, 41, 42, 43, 44, 45, 46, 47, 48, 49, 111, 112, 113, 114, 115, 116, 117, 118, 119, 120, 121, 122, 123, 124, 125, 126, 127, 128, 129, 130, 131, 132, 133, 134, 135, 136, 137, 138] (by decide +kernel) (by decide +kernel)
set_option maxRecDepth 20000 in
theorem gX6_move_X1_mark : GoodIn wsX6_move (wsV RX6 46 RX1 yX1_mark wsX1_mark) := goodIn_app (goodIn_of _ (by decide +kernel)) ggX6_move_X1_mark
set_option maxRecDepth 20000 in
theorem ggX6_move_X0_moveTo : GoodIn wsX6_move wsX0_moveTo := goodIn_r _ [53, 22, 15, 54, 55, 56, 57, 13, 58, 20, 16, 59, 60, 61, 62, 63, 64, 36, 65, 43, 66, 67, 68, 69, 48, 70, 71, 72, 73, 49, 74, 75, 76, 77, 78, 40, 79, 80, 81, 82, 42, 38, 44, 45, 83, 84, 85, 26, 86, 28, 30, 29, 87, 114, 115, 116, 117, 118, 119, 120, 121, 127, 128, 129, 130, 131, 132, 133, 134, 135, 136, 137, 138, 122, 123, 124, 125, 126] (by decide +kernel) (by decide +kernel)
set_option maxRecDepth 20000 in
theorem gX6_move_X0_moveTo : GoodIn wsX6_move (wsV RX6 70 RX0 yX0_moveTo wsX0_moveTo) := goodIn_app (goodIn_of _ (by decide +kernel)) ggX6_move_X0_moveTo
set_option maxRecDepth 20000 in
theorem ggX6_move_X6_recorded : GoodIn wsX6_move wsX6_recorded := goodIn_r _ [92, 1, 93, 94, 91, 95, 96, 97, 98, 6, 99, 8, 9, 100, 101, 102, 81, 103, 104, 105, 106, 107, 108, 109, 110, 111, 112, 113] (by decide +kernel) (by decide +kernel)
set_option maxRecDepth 20000 in
theorem gX6_move_X6_recorded : GoodIn wsX6_move (wsV RX6 60 RX6 yX6_recorded wsX6_recorded) := goodIn_app (goodIn_of _ (by decide +kernel)) ggX6_move_X6_recorded
theorem dX6_move_0 : decode cX6_move 0 = .ok (.aload_n 0, 1) := by decide +kernel
theorem dX6_move_1 : decode cX6_move 1 = .ok (.getfield 22, 3) := by decide +kernel
theorem dX6_move_4 : decode cX6_move 4 = .ok (.aload_n 0, 1) := by decide +kernel
theorem dX6_move_5 : decode cX6_move 5 = .ok (.getfield 10, 3) := by decide +kernel
theorem dX6_move_8 : decode cX6_move 8 = .ok (.invokevirtual 46, 3) := by decide +kernel
theorem dX6_move_11 : decode cX6_move 11 = .ok (.aload_n 0, 1) := by decide +kernel
theorem dX6_move_12 : decode cX6_move 12 = .ok (.aload_n 0, 1) := by decide +kernel
theorem dX6_move_13 : decode cX6_move 13 = .ok (.getfield 10, 3) := by decide +kernel
theorem dX6_move_16 : decode cX6_move 16 = .ok (.iload_n 1, 1) := by decide +kernel
theorem dX6_move_17 : decode cX6_move 17 = .ok (.iload_n 2, 1) := by decide +kernel
theorem dX6_move_18 : decode cX6_move 18 = .ok (.invokevirtual 70, 3) := by decide +kernel
theorem dX6_move_21 : decode cX6_move 21 = .ok (.invokevirtual 60, 3) := by decide +kernel
theorem dX6_move_24 : decode cX6_move 24 = .ok (.ireturn, 1) := by decide +kernel
set_option maxRecDepth 20000 in
theorem ggX6_plan_X1_mark : GoodIn wsX6_plan wsX1_mark := goodIn_r _ [7, 8, 9, 10, 11, 12, 13, 14, 15, 16, 17, 18, 19, 20, 21, 22, 23, 24, 25, 26, 27, 28, 29, 30, 31, 32, 33, 34, 35, 36, 37, 38, 39, 40, 41, 42, 43, 44, 45, 46, 47, 48, 49, 89, 90, 91, 92, 93, 94, 95, 96, 97, 98, 99, 100, 101, 102, 103, 104, 105, 106, 107, 108, 109, 110, 111, 112, 113, 114, 115, 116] (by decide +kernel) (by decide +kernel)
set_option maxRecDepth 20000 in
theorem gX6_plan_X1_mark : GoodIn wsX6_plan (wsV RX6 46 RX1 yX1_mark wsX1_mark) := goodIn_app (goodIn_of _ (by decide +kernel)) ggX6_plan_X1_mark
set_option maxRecDepth 20000 in
theorem ggX6_plan_X0_addPlan : GoodIn wsX6_plan wsX0_addPlan := goodIn_r _ [53, 21, 17, 22, 18, 19, 54, 55, 56, 13, 57, 20, 16, 58, 59, 60, 61, 62, 63, 64, 92, 93, 94, 95, 96, 97, 98, 99] (by decide +kernel) (by decide +kernel)
set_option maxRecDepth 20000 in
theorem gX6_plan_X0_addPlan : GoodIn wsX6_plan (wsV RX6 73 RX0 yX0_addPlan wsX0_addPlan) := goodIn_app (goodIn_of _ (by decide +kernel)) ggX6_plan_X0_addPlan
set_option maxRecDepth 20000 in
theorem ggX6_plan_X6_recorded : GoodIn wsX6_plan wsX6_recorded := goodIn_r _ [69, 1, 70, 71, 68, 72, 73, 74, 75, 6, 76, 8, 9, 77, 78, 79, 80, 81, 82, 83, 84, 85, 86, 87, 88, 89, 90, 91] (by decide +kernel) (by decide +kernel)
set_option maxRecDepth 20000 in
theorem gX6_plan_X6_recorded : GoodIn wsX6_plan (wsV RX6 60 RX6 yX6_recorded wsX6_recorded) := goodIn_app (goodIn_of _ (by decide +kernel)) ggX6_plan_X6_recorded
theorem dX6_plan_0 : decode cX6_plan 0 = .ok (.aload_n 0, 1) := by decide +kernel
theorem dX6_plan_1 : decode cX6_plan 1 = .ok (.getfield 22, 3) := by decide +kernel
theorem dX6_plan_4 : decode cX6_plan 4 = .ok (.aload_n 0, 1) := by decide +kernel
theorem dX6_plan_5 : decode cX6_plan 5 = .ok (.getfield 10, 3) := by decide +kernel
theorem dX6_plan_8 : decode cX6_plan 8 = .ok (.invokevirtual 46, 3) := by decide +kernel
theorem dX6_plan_11 : decode cX6_plan 11 = .ok (.aload_n 0, 1) := by decide +kernel
theorem dX6_plan_12 : decode cX6_plan 12 = .ok (.aload_n 0, 1) := by decide +kernel
theorem dX6_plan_13 : decode cX6_plan 13 = .ok (.getfield 10, 3) := by decide +kernel
theorem dX6_plan_16 : decode cX6_plan 16 = .ok (.iload_n 1, 1) := by decide +kernel
theorem dX6_plan_17 : decode cX6_plan 17 = .ok (.iload_n 2, 1) := by decide +kernel
theorem dX6_plan_18 : decode cX6_plan 18 = .ok (.iload_n 3, 1) := by decide +kernel
theorem dX6_plan_19 : decode cX6_plan 19 = .ok (.invokevirtual 73, 3) := by decide +kernel
theorem dX6_plan_22 : decode cX6_plan 22 = .ok (.invokevirtual 60, 3) := by decide +kernel
theorem dX6_plan_25 : decode cX6_plan 25 = .ok (.ireturn, 1) := by decide +kernel
set_option maxRecDepth 20000 in
theorem ggX6_stop_X1_mark : GoodIn wsX6_stop wsX1_mark := goodIn_r _ [7, 8, 9, 10, 11, 12, 13, 14, 15, 16, 17, 18, 19, 20, 21, 22, 23, 24, 25, 26, 27, 28, 29, 30, 31, 32, 33, 34, 35, 36, 37, 38, 39, 40, 41, 42, 43, 44, 45, 46, 47, 48, 49, 96, 97, 98, 99, 100, 101, 102, 103, 104, 105, 106, 107, 108, 109, 110, 111, 112, 113, 114, 115, 116, 117, 118, 119, 120, 121, 122, 123] (by decide +kernel) (by decide +kernel)
set_option maxRecDepth 20000 in
theorem gX6_stop_X1_mark : GoodIn wsX6_stop (wsV RX6 46 RX1 yX1_mark wsX1_mark) := goodIn_app (goodIn_of _ (by decide +kernel)) ggX6_stop_X1_mark
set_option maxRecDepth 20000 in
theorem ggX6_stop_X0_halt : GoodIn wsX6_stop wsX0_halt := goodIn_r _ [53, 54, 55, 56, 57, 13, 58, 20, 16, 59, 60, 61, 36, 62, 43, 63, 64, 65, 66, 48, 67, 68, 69, 70, 44, 71, 72, 73, 74, 112, 113, 114, 115, 116, 117, 118, 119, 120, 121, 122, 123, 99, 100, 101, 102, 103, 104, 105, 106] (by decide +kernel) (by decide +kernel)
set_option maxRecDepth 20000 in
theorem gX6_stop_X0_halt : GoodIn wsX6_stop (wsV RX6 77 RX0 yX0_halt wsX0_halt) := goodIn_app (goodIn_of _ (by decide +kernel)) ggX6_stop_X0_halt
set_option maxRecDepth 20000 in
theorem ggX6_stop_X6_recorded : GoodIn wsX6_stop wsX6_recorded := goodIn_r _ [79, 1, 80, 81, 78, 82, 83, 84, 85, 6, 86, 8, 9, 87, 88, 72, 73, 74, 89, 90, 91, 92, 93, 94, 95, 96, 97, 98] (by decide +kernel) (by decide +kernel)
set_option maxRecDepth 20000 in
theorem gX6_stop_X6_recorded : GoodIn wsX6_stop (wsV RX6 60 RX6 yX6_recorded wsX6_recorded) := goodIn_app (goodIn_of _ (by decide +kernel)) ggX6_stop_X6_recorded
theorem dX6_stop_0 : decode cX6_stop 0 = .ok (.aload_n 0, 1) := by decide +kernel
theorem dX6_stop_1 : decode cX6_stop 1 = .ok (.getfield 22, 3) := by decide +kernel
theorem dX6_stop_4 : decode cX6_stop 4 = .ok (.aload_n 0, 1) := by decide +kernel
theorem dX6_stop_5 : decode cX6_stop 5 = .ok (.getfield 10, 3) := by decide +kernel
theorem dX6_stop_8 : decode cX6_stop 8 = .ok (.invokevirtual 46, 3) := by decide +kernel
theorem dX6_stop_11 : decode cX6_stop 11 = .ok (.aload_n 0, 1) := by decide +kernel
theorem dX6_stop_12 : decode cX6_stop 12 = .ok (.aload_n 0, 1) := by decide +kernel
theorem dX6_stop_13 : decode cX6_stop 13 = .ok (.getfield 10, 3) := by decide +kernel
theorem dX6_stop_16 : decode cX6_stop 16 = .ok (.iload_n 1, 1) := by decide +kernel
theorem dX6_stop_17 : decode cX6_stop 17 = .ok (.invokevirtual 77, 3) := by decide +kernel
theorem dX6_stop_20 : decode cX6_stop 20 = .ok (.invokevirtual 60, 3) := by decide +kernel
theorem dX6_stop_23 : decode cX6_stop 23 = .ok (.ireturn, 1) := by decide +kernel
set_option maxRecDepth 20000 in
theorem ggX6_home_X1_mark : GoodIn wsX6_home wsX1_mark := goodIn_r _ [7, 8, 9, 10, 11, 12, 13, 14, 15, 16, 17, 18, 19, 20, 21, 22, 23, 24, 25, 26, 27, 28, 29, 30, 31, 32, 33, 34, 35, 36, 37, 38, 39, 40, 41, 42, 43, 44, 45, 46, 47, 48, 49, 89, 90, 91, 92, 93, 94, 95, 96, 97, 98, 99, 100, 101, 102, 103, 104, 105, 106, 107, 108, 109, 110, 111, 112, 113, 114, 115, 116] (by decide +kernel) (by decide +kernel)
set_option maxRecDepth 20000 in
theorem gX6_home_X1_mark : GoodIn wsX6_home (wsV RX6 46 RX1 yX1_mark wsX1_mark) := goodIn_app (goodIn_of _ (by decide +kernel)) ggX6_home_X1_mark
set_option maxRecDepth 20000 in
theorem ggX6_home_X0_bringHome : GoodIn wsX6_home wsX0_bringHome := goodIn_r _ [53, 54, 55, 56, 57, 58, 59, 13, 60, 20, 16, 61, 62, 63, 36, 64, 43, 105, 106, 107, 108, 109, 110, 111, 112, 113, 114, 115, 116, 92, 93, 94, 95, 96, 97, 98, 99] (by decide +kernel) (by decide +kernel)
set_option maxRecDepth 20000 in
theorem gX6_home_X0_bringHome : GoodIn wsX6_home (wsV RX6 80 RX0 yX0_bringHome wsX0_bringHome) := goodIn_app (goodIn_of _ (by decide +kernel)) ggX6_home_X0_bringHome
set_option maxRecDepth 20000 in
theorem ggX6_home_X6_recorded : GoodIn wsX6_home wsX6_recorded := goodIn_r _ [69, 1, 70, 71, 68, 72, 73, 74, 75, 6, 76, 8, 9, 77, 78, 79, 80, 81, 82, 83, 84, 85, 86, 87, 88, 89, 90, 91] (by decide +kernel) (by decide +kernel)
set_option maxRecDepth 20000 in
theorem gX6_home_X6_recorded : GoodIn wsX6_home (wsV RX6 60 RX6 yX6_recorded wsX6_recorded) := goodIn_app (goodIn_of _ (by decide +kernel)) ggX6_home_X6_recorded
theorem dX6_home_0 : decode cX6_home 0 = .ok (.aload_n 0, 1) := by decide +kernel
theorem dX6_home_1 : decode cX6_home 1 = .ok (.getfield 22, 3) := by decide +kernel
theorem dX6_home_4 : decode cX6_home 4 = .ok (.aload_n 0, 1) := by decide +kernel
theorem dX6_home_5 : decode cX6_home 5 = .ok (.getfield 10, 3) := by decide +kernel
theorem dX6_home_8 : decode cX6_home 8 = .ok (.invokevirtual 46, 3) := by decide +kernel
theorem dX6_home_11 : decode cX6_home 11 = .ok (.aload_n 0, 1) := by decide +kernel
theorem dX6_home_12 : decode cX6_home 12 = .ok (.aload_n 0, 1) := by decide +kernel
theorem dX6_home_13 : decode cX6_home 13 = .ok (.getfield 10, 3) := by decide +kernel
theorem dX6_home_16 : decode cX6_home 16 = .ok (.iload_n 1, 1) := by decide +kernel
theorem dX6_home_17 : decode cX6_home 17 = .ok (.invokevirtual 80, 3) := by decide +kernel
theorem dX6_home_20 : decode cX6_home 20 = .ok (.invokevirtual 60, 3) := by decide +kernel
theorem dX6_home_23 : decode cX6_home 23 = .ok (.ireturn, 1) := by decide +kernel
set_option maxRecDepth 20000 in
theorem ggX6_pass_X1_mark : GoodIn wsX6_pass wsX1_mark := goodIn_r _ [7, 8, 9, 10, 11, 12, 13, 14, 15, 16, 17, 18, 19, 20, 21, 22, 23, 24, 25, 26, 27, 28, 29, 30, 31, 32, 33, 34, 35, 36, 37, 38, 39, 40, 41, 42, 43, 44, 45, 46, 47, 48, 49, 155, 156, 157, 158, 159, 160, 161, 162, 163, 164, 165, 166, 167, 168, 169, 170, 171, 172, 173, 174, 175, 176, 177, 178, 179, 180, 181, 182] (by decide +kernel) (by decide +kernel)
set_option maxRecDepth 20000 in
theorem gX6_pass_X1_mark : GoodIn wsX6_pass (wsV RX6 46 RX1 yX1_mark wsX1_mark) := goodIn_app (goodIn_of _ (by decide +kernel)) ggX6_pass_X1_mark
set_option maxRecDepth 20000 in
theorem ggX6_pass_X0_passTicks : GoodIn wsX6_pass wsX0_passTicks := goodIn_r _ [53, 22, 54, 55, 56, 57, 13, 58, 21, 17, 59, 16, 60, 61, 62, 63, 64, 65, 66, 67, 36, 68, 43, 69, 70, 71, 72, 18, 19, 15, 73, 74, 75, 76, 20, 77, 78, 79, 80, 49, 48, 81, 82, 83, 84, 85, 40, 86, 87, 88, 42, 38, 44, 45, 89, 90, 91, 26, 92, 28, 30, 29, 93, 94, 95, 96, 97, 98, 99, 100, 101, 102, 103, 104, 105, 106, 107, 108, 109, 110, 111, 112, 46, 39, 41, 47, 113, 114, 115, 116, 31, 32, 117, 118, 119, 120, 121, 122, 123, 124, 125, 126, 127, 128, 129, 130, 131, 132, 133, 158, 159, 160, 161, 162, 163, 164, 165, 171, 172, 173, 174, 175, 176, 177, 178, 179, 180, 181, 182, 166, 167, 168, 169, 170] (by decide +kernel) (by decide +kernel)
set_option maxRecDepth 20000 in
theorem gX6_pass_X0_passTicks : GoodIn wsX6_pass (wsV RX6 83 RX0 yX0_passTicks wsX0_passTicks) := goodIn_app (goodIn_of _ (by decide +kernel)) ggX6_pass_X0_passTicks
set_option maxRecDepth 20000 in
theorem ggX6_pass_X6_recorded : GoodIn wsX6_pass wsX6_recorded := goodIn_r _ [138, 1, 139, 140, 137, 141, 142, 143, 144, 6, 145, 8, 9, 146, 147, 62, 63, 64, 148, 149, 150, 151, 152, 153, 154, 155, 156, 157] (by decide +kernel) (by decide +kernel)
set_option maxRecDepth 20000 in
theorem gX6_pass_X6_recorded : GoodIn wsX6_pass (wsV RX6 60 RX6 yX6_recorded wsX6_recorded) := goodIn_app (goodIn_of _ (by decide +kernel)) ggX6_pass_X6_recorded
theorem dX6_pass_0 : decode cX6_pass 0 = .ok (.aload_n 0, 1) := by decide +kernel
theorem dX6_pass_1 : decode cX6_pass 1 = .ok (.getfield 22, 3) := by decide +kernel
theorem dX6_pass_4 : decode cX6_pass 4 = .ok (.aload_n 0, 1) := by decide +kernel
theorem dX6_pass_5 : decode cX6_pass 5 = .ok (.getfield 10, 3) := by decide +kernel
theorem dX6_pass_8 : decode cX6_pass 8 = .ok (.invokevirtual 46, 3) := by decide +kernel
theorem dX6_pass_11 : decode cX6_pass 11 = .ok (.aload_n 0, 1) := by decide +kernel
theorem dX6_pass_12 : decode cX6_pass 12 = .ok (.aload_n 0, 1) := by decide +kernel
theorem dX6_pass_13 : decode cX6_pass 13 = .ok (.getfield 10, 3) := by decide +kernel
theorem dX6_pass_16 : decode cX6_pass 16 = .ok (.iload_n 1, 1) := by decide +kernel
theorem dX6_pass_17 : decode cX6_pass 17 = .ok (.invokevirtual 83, 3) := by decide +kernel
theorem dX6_pass_20 : decode cX6_pass 20 = .ok (.invokevirtual 60, 3) := by decide +kernel
theorem dX6_pass_23 : decode cX6_pass 23 = .ok (.ireturn, 1) := by decide +kernel
set_option maxRecDepth 20000 in
theorem ggX6_of_X0_find : GoodIn wsX6_of wsX0_find := goodIn_r _ [18, 19, 20, 53, 54, 55, 56, 57, 58, 59, 60] (by decide +kernel) (by decide +kernel)
set_option maxRecDepth 20000 in
theorem gX6_of_X0_find : GoodIn wsX6_of (wsV RX6 86 RX0 yX0_find wsX0_find) := goodIn_app (goodIn_of _ (by decide +kernel)) ggX6_of_X0_find
set_option maxRecDepth 20000 in
theorem ggX6_of_X5_moves : GoodIn wsX6_of wsX5_moves := goodIn_r _ [25, 26, 41, 42, 43, 44, 45, 46, 47, 48, 49, 50, 51, 52] (by decide +kernel) (by decide +kernel)
set_option maxRecDepth 20000 in
theorem gX6_of_X5_moves : GoodIn wsX6_of (wsV RX6 106 RX5 yX5_moves wsX5_moves) := goodIn_app (goodIn_of _ (by decide +kernel)) ggX6_of_X5_moves
set_option maxRecDepth 20000 in
theorem ggX6_of_X5_saysAfter : GoodIn wsX6_of wsX5_saysAfter := goodIn_r _ [30, 31, 32, 33, 41, 42, 43, 44, 45, 46, 47, 48, 49, 50, 51, 52] (by decide +kernel) (by decide +kernel)
set_option maxRecDepth 20000 in
theorem gX6_of_X5_saysAfter : GoodIn wsX6_of (wsV RX6 131 RX5 yX5_saysAfter wsX5_saysAfter) := goodIn_app (goodIn_of _ (by decide +kernel)) ggX6_of_X5_saysAfter
theorem dX6_of_0 : decode cX6_of 0 = .ok (.aload_n 0, 1) := by decide +kernel
theorem dX6_of_1 : decode cX6_of 1 = .ok (.getfield 10, 3) := by decide +kernel
theorem dX6_of_4 : decode cX6_of 4 = .ok (.iload_n 1, 1) := by decide +kernel
theorem dX6_of_5 : decode cX6_of 5 = .ok (.invokevirtual 86, 3) := by decide +kernel
theorem dX6_of_8 : decode cX6_of 8 = .ok (.astore_n 3, 1) := by decide +kernel
theorem dX6_of_9 : decode cX6_of 9 = .ok (.aload_n 3, 1) := by decide +kernel
theorem dX6_of_10 : decode cX6_of 10 = .ok (.ifnonnull 5, 3) := by decide +kernel
theorem dX6_of_13 : decode cX6_of 13 = .ok (.iconst (-1), 1) := by decide +kernel
theorem dX6_of_14 : decode cX6_of 14 = .ok (.ireturn, 1) := by decide +kernel
theorem dX6_of_15 : decode cX6_of 15 = .ok (.iload_n 2, 1) := by decide +kernel
theorem dX6_of_16 : decode cX6_of 16 = .ok (.tableswitch 165 0 11 #[64, 72, 80, 85, 90, 103, 108, 113, 138, 143, 148, 153], 64) := by decide +kernel
theorem dX6_of_80 : decode cX6_of 80 = .ok (.aload_n 3, 1) := by decide +kernel
theorem dX6_of_81 : decode cX6_of 81 = .ok (.getfield 90, 3) := by decide +kernel
theorem dX6_of_84 : decode cX6_of 84 = .ok (.ldc 96, 2) := by decide +kernel
theorem dX6_of_86 : decode cX6_of 86 = .ok (.iadd, 1) := by decide +kernel
theorem dX6_of_87 : decode cX6_of 87 = .ok (.ireturn, 1) := by decide +kernel
theorem dX6_of_88 : decode cX6_of 88 = .ok (.aload_n 3, 1) := by decide +kernel
theorem dX6_of_89 : decode cX6_of 89 = .ok (.getfield 97, 3) := by decide +kernel
theorem dX6_of_92 : decode cX6_of 92 = .ok (.ldc 96, 2) := by decide +kernel
theorem dX6_of_94 : decode cX6_of 94 = .ok (.iadd, 1) := by decide +kernel
theorem dX6_of_95 : decode cX6_of 95 = .ok (.ireturn, 1) := by decide +kernel
theorem dX6_of_96 : decode cX6_of 96 = .ok (.aload_n 3, 1) := by decide +kernel
theorem dX6_of_97 : decode cX6_of 97 = .ok (.getfield 100, 3) := by decide +kernel
theorem dX6_of_100 : decode cX6_of 100 = .ok (.ireturn, 1) := by decide +kernel
theorem dX6_of_101 : decode cX6_of 101 = .ok (.aload_n 3, 1) := by decide +kernel
theorem dX6_of_102 : decode cX6_of 102 = .ok (.getfield 103, 3) := by decide +kernel
theorem dX6_of_105 : decode cX6_of 105 = .ok (.ireturn, 1) := by decide +kernel
theorem dX6_of_106 : decode cX6_of 106 = .ok (.aload_n 3, 1) := by decide +kernel
theorem dX6_of_107 : decode cX6_of 107 = .ok (.invokevirtual 106, 3) := by decide +kernel
theorem dX6_of_110 : decode cX6_of 110 = .ok (.ifCond .eq 7, 3) := by decide +kernel
theorem dX6_of_113 : decode cX6_of 113 = .ok (.iconst 1, 1) := by decide +kernel
theorem dX6_of_114 : decode cX6_of 114 = .ok (.goto 4, 3) := by decide +kernel
theorem dX6_of_117 : decode cX6_of 117 = .ok (.iconst 0, 1) := by decide +kernel
theorem dX6_of_118 : decode cX6_of 118 = .ok (.ireturn, 1) := by decide +kernel
theorem dX6_of_119 : decode cX6_of 119 = .ok (.aload_n 3, 1) := by decide +kernel
theorem dX6_of_120 : decode cX6_of 120 = .ok (.getfield 110, 3) := by decide +kernel
theorem dX6_of_123 : decode cX6_of 123 = .ok (.ireturn, 1) := by decide +kernel
theorem dX6_of_124 : decode cX6_of 124 = .ok (.aload_n 3, 1) := by decide +kernel
theorem dX6_of_125 : decode cX6_of 125 = .ok (.getfield 113, 3) := by decide +kernel
theorem dX6_of_128 : decode cX6_of 128 = .ok (.ireturn, 1) := by decide +kernel
theorem dX6_of_129 : decode cX6_of 129 = .ok (.aload_n 3, 1) := by decide +kernel
theorem dX6_of_130 : decode cX6_of 130 = .ok (.invokevirtual 106, 3) := by decide +kernel
theorem dX6_of_133 : decode cX6_of 133 = .ok (.ifCond .eq 18, 3) := by decide +kernel
theorem dX6_of_136 : decode cX6_of 136 = .ok (.aload_n 3, 1) := by decide +kernel
theorem dX6_of_137 : decode cX6_of 137 = .ok (.getfield 116, 3) := by decide +kernel
theorem dX6_of_140 : decode cX6_of 140 = .ok (.aload_n 0, 1) := by decide +kernel
theorem dX6_of_141 : decode cX6_of 141 = .ok (.getfield 10, 3) := by decide +kernel
theorem dX6_of_144 : decode cX6_of 144 = .ok (.getfield 119, 3) := by decide +kernel
theorem dX6_of_147 : decode cX6_of 147 = .ok (.isub, 1) := by decide +kernel
theorem dX6_of_148 : decode cX6_of 148 = .ok (.goto 5, 3) := by decide +kernel
theorem dX6_of_151 : decode cX6_of 151 = .ok (.bipush (-6), 2) := by decide +kernel
theorem dX6_of_153 : decode cX6_of 153 = .ok (.ireturn, 1) := by decide +kernel
theorem dX6_of_154 : decode cX6_of 154 = .ok (.aload_n 3, 1) := by decide +kernel
theorem dX6_of_155 : decode cX6_of 155 = .ok (.getfield 122, 3) := by decide +kernel
theorem dX6_of_158 : decode cX6_of 158 = .ok (.ireturn, 1) := by decide +kernel
theorem dX6_of_159 : decode cX6_of 159 = .ok (.aload_n 3, 1) := by decide +kernel
theorem dX6_of_160 : decode cX6_of 160 = .ok (.getfield 125, 3) := by decide +kernel
theorem dX6_of_163 : decode cX6_of 163 = .ok (.ireturn, 1) := by decide +kernel
theorem dX6_of_164 : decode cX6_of 164 = .ok (.aload_n 3, 1) := by decide +kernel
theorem dX6_of_165 : decode cX6_of 165 = .ok (.getfield 128, 3) := by decide +kernel
theorem dX6_of_168 : decode cX6_of 168 = .ok (.ireturn, 1) := by decide +kernel
theorem dX6_of_169 : decode cX6_of 169 = .ok (.aload_n 3, 1) := by decide +kernel
theorem dX6_of_170 : decode cX6_of 170 = .ok (.aload_n 3, 1) := by decide +kernel
theorem dX6_of_171 : decode cX6_of 171 = .ok (.getfield 110, 3) := by decide +kernel
theorem dX6_of_174 : decode cX6_of 174 = .ok (.invokevirtual 131, 3) := by decide +kernel
theorem dX6_of_177 : decode cX6_of 177 = .ok (.ldc 96, 2) := by decide +kernel
theorem dX6_of_179 : decode cX6_of 179 = .ok (.iadd, 1) := by decide +kernel
theorem dX6_of_180 : decode cX6_of 180 = .ok (.ireturn, 1) := by decide +kernel
theorem dX6_of_181 : decode cX6_of 181 = .ok (.bipush (-2), 2) := by decide +kernel
theorem dX6_of_183 : decode cX6_of 183 = .ok (.ireturn, 1) := by decide +kernel
set_option maxRecDepth 20000 in
theorem ggX6_waiting_X0_find : GoodIn wsX6_waiting wsX0_find := goodIn_r _ [9, 10, 11, 31, 32, 33, 34, 35, 36, 37, 38] (by decide +kernel) (by decide +kernel)
set_option maxRecDepth 20000 in
theorem gX6_waiting_X0_find : GoodIn wsX6_waiting (wsV RX6 86 RX0 yX0_find wsX0_find) := goodIn_app (goodIn_of _ (by decide +kernel)) ggX6_waiting_X0_find
theorem dX6_waiting_0 : decode cX6_waiting 0 = .ok (.aload_n 0, 1) := by decide +kernel
theorem dX6_waiting_1 : decode cX6_waiting 1 = .ok (.getfield 10, 3) := by decide +kernel
theorem dX6_waiting_4 : decode cX6_waiting 4 = .ok (.iload_n 1, 1) := by decide +kernel
theorem dX6_waiting_5 : decode cX6_waiting 5 = .ok (.invokevirtual 86, 3) := by decide +kernel
theorem dX6_waiting_8 : decode cX6_waiting 8 = .ok (.astore_n 3, 1) := by decide +kernel
theorem dX6_waiting_9 : decode cX6_waiting 9 = .ok (.aload_n 3, 1) := by decide +kernel
theorem dX6_waiting_10 : decode cX6_waiting 10 = .ok (.ifnull 24, 3) := by decide +kernel
theorem dX6_waiting_13 : decode cX6_waiting 13 = .ok (.iload_n 2, 1) := by decide +kernel
theorem dX6_waiting_14 : decode cX6_waiting 14 = .ok (.ifCond .lt 20, 3) := by decide +kernel
theorem dX6_waiting_17 : decode cX6_waiting 17 = .ok (.iload_n 2, 1) := by decide +kernel
theorem dX6_waiting_18 : decode cX6_waiting 18 = .ok (.aload_n 3, 1) := by decide +kernel
theorem dX6_waiting_19 : decode cX6_waiting 19 = .ok (.getfield 122, 3) := by decide +kernel
theorem dX6_waiting_22 : decode cX6_waiting 22 = .ok (.if_icmp .ge 12, 3) := by decide +kernel
theorem dX6_waiting_25 : decode cX6_waiting 25 = .ok (.iload_n 2, 1) := by decide +kernel
theorem dX6_waiting_26 : decode cX6_waiting 26 = .ok (.aload_n 3, 1) := by decide +kernel
theorem dX6_waiting_27 : decode cX6_waiting 27 = .ok (.getfield 134, 3) := by decide +kernel
theorem dX6_waiting_30 : decode cX6_waiting 30 = .ok (.arraylength, 1) := by decide +kernel
theorem dX6_waiting_31 : decode cX6_waiting 31 = .ok (.if_icmp .lt 5, 3) := by decide +kernel
theorem dX6_waiting_34 : decode cX6_waiting 34 = .ok (.iconst (-1), 1) := by decide +kernel
theorem dX6_waiting_35 : decode cX6_waiting 35 = .ok (.ireturn, 1) := by decide +kernel
theorem dX6_waiting_36 : decode cX6_waiting 36 = .ok (.aload_n 3, 1) := by decide +kernel
theorem dX6_waiting_37 : decode cX6_waiting 37 = .ok (.getfield 134, 3) := by decide +kernel
theorem dX6_waiting_40 : decode cX6_waiting 40 = .ok (.iload_n 2, 1) := by decide +kernel
theorem dX6_waiting_41 : decode cX6_waiting 41 = .ok (.iaload, 1) := by decide +kernel
theorem dX6_waiting_42 : decode cX6_waiting 42 = .ok (.ldc 96, 2) := by decide +kernel
theorem dX6_waiting_44 : decode cX6_waiting 44 = .ok (.iadd, 1) := by decide +kernel
theorem dX6_waiting_45 : decode cX6_waiting 45 = .ok (.ireturn, 1) := by decide +kernel
theorem dX6_planned_0 : decode cX6_planned 0 = .ok (.iload_n 1, 1) := by decide +kernel
theorem dX6_planned_1 : decode cX6_planned 1 = .ok (.ifCond .lt 20, 3) := by decide +kernel
theorem dX6_planned_4 : decode cX6_planned 4 = .ok (.iload_n 1, 1) := by decide +kernel
theorem dX6_planned_5 : decode cX6_planned 5 = .ok (.aload_n 0, 1) := by decide +kernel
theorem dX6_planned_6 : decode cX6_planned 6 = .ok (.getfield 10, 3) := by decide +kernel
theorem dX6_planned_9 : decode cX6_planned 9 = .ok (.getfield 138, 3) := by decide +kernel
theorem dX6_planned_12 : decode cX6_planned 12 = .ok (.if_icmp .ge 9, 3) := by decide +kernel
theorem dX6_planned_15 : decode cX6_planned 15 = .ok (.iload_n 1, 1) := by decide +kernel
theorem dX6_planned_16 : decode cX6_planned 16 = .ok (.bipush 12, 2) := by decide +kernel
theorem dX6_planned_18 : decode cX6_planned 18 = .ok (.if_icmp .lt 5, 3) := by decide +kernel
theorem dX6_planned_21 : decode cX6_planned 21 = .ok (.iconst (-1), 1) := by decide +kernel
theorem dX6_planned_22 : decode cX6_planned 22 = .ok (.ireturn, 1) := by decide +kernel
theorem dX6_planned_23 : decode cX6_planned 23 = .ok (.iload_n 2, 1) := by decide +kernel
theorem dX6_planned_24 : decode cX6_planned 24 = .ok (.tableswitch 61 0 2 #[28, 38, 48], 28) := by decide +kernel
theorem dX6_planned_52 : decode cX6_planned 52 = .ok (.aload_n 0, 1) := by decide +kernel
theorem dX6_planned_53 : decode cX6_planned 53 = .ok (.getfield 10, 3) := by decide +kernel
theorem dX6_planned_56 : decode cX6_planned 56 = .ok (.getfield 141, 3) := by decide +kernel
theorem dX6_planned_59 : decode cX6_planned 59 = .ok (.iload_n 1, 1) := by decide +kernel
theorem dX6_planned_60 : decode cX6_planned 60 = .ok (.iaload, 1) := by decide +kernel
theorem dX6_planned_61 : decode cX6_planned 61 = .ok (.ireturn, 1) := by decide +kernel
theorem dX6_planned_62 : decode cX6_planned 62 = .ok (.aload_n 0, 1) := by decide +kernel
theorem dX6_planned_63 : decode cX6_planned 63 = .ok (.getfield 10, 3) := by decide +kernel
theorem dX6_planned_66 : decode cX6_planned 66 = .ok (.getfield 144, 3) := by decide +kernel
theorem dX6_planned_69 : decode cX6_planned 69 = .ok (.iload_n 1, 1) := by decide +kernel
theorem dX6_planned_70 : decode cX6_planned 70 = .ok (.iaload, 1) := by decide +kernel
theorem dX6_planned_71 : decode cX6_planned 71 = .ok (.ireturn, 1) := by decide +kernel
theorem dX6_planned_72 : decode cX6_planned 72 = .ok (.aload_n 0, 1) := by decide +kernel
theorem dX6_planned_73 : decode cX6_planned 73 = .ok (.getfield 10, 3) := by decide +kernel
theorem dX6_planned_76 : decode cX6_planned 76 = .ok (.getfield 147, 3) := by decide +kernel
theorem dX6_planned_79 : decode cX6_planned 79 = .ok (.iload_n 1, 1) := by decide +kernel
theorem dX6_planned_80 : decode cX6_planned 80 = .ok (.iaload, 1) := by decide +kernel
theorem dX6_planned_81 : decode cX6_planned 81 = .ok (.ldc 96, 2) := by decide +kernel
theorem dX6_planned_83 : decode cX6_planned 83 = .ok (.iadd, 1) := by decide +kernel
theorem dX6_planned_84 : decode cX6_planned 84 = .ok (.ireturn, 1) := by decide +kernel
theorem dX6_planned_85 : decode cX6_planned 85 = .ok (.bipush (-2), 2) := by decide +kernel
theorem dX6_planned_87 : decode cX6_planned 87 = .ok (.ireturn, 1) := by decide +kernel
set_option maxRecDepth 20000 in
theorem ggX6_count_X0_movingSet : GoodIn wsX6_count wsX0_movingSet := goodIn_r _ [14, 15, 16, 17, 18, 19, 20, 21, 59, 60, 61, 62, 63, 64, 65, 66, 72, 73, 74, 75, 76, 77, 78, 79, 80, 81, 82, 83] (by decide +kernel) (by decide +kernel)
set_option maxRecDepth 20000 in
theorem gX6_count_X0_movingSet : GoodIn wsX6_count (wsV RX6 153 RX0 yX0_movingSet wsX0_movingSet) := goodIn_app (goodIn_of _ (by decide +kernel)) ggX6_count_X0_movingSet
set_option maxRecDepth 20000 in
theorem ggX6_count_X0_displacedSet : GoodIn wsX6_count wsX0_displacedSet := goodIn_r _ [25, 15, 26, 27, 59, 60, 61, 62, 63, 64, 65, 66, 72, 73, 74, 75, 76, 77, 78, 79, 80, 81, 82, 83] (by decide +kernel) (by decide +kernel)
set_option maxRecDepth 20000 in
theorem gX6_count_X0_displacedSet : GoodIn wsX6_count (wsV RX6 157 RX0 yX0_displacedSet wsX0_displacedSet) := goodIn_app (goodIn_of _ (by decide +kernel)) ggX6_count_X0_displacedSet
set_option maxRecDepth 20000 in
theorem ggX6_count_X0_stepsSoFar : GoodIn wsX6_count wsX0_stepsSoFar := goodIn_r _ [31, 15, 32, 59, 60, 61, 62, 63, 64, 65, 66, 72, 73, 74, 75, 76, 77, 78, 79, 80, 81, 82, 83] (by decide +kernel) (by decide +kernel)
set_option maxRecDepth 20000 in
theorem gX6_count_X0_stepsSoFar : GoodIn wsX6_count (wsV RX6 160 RX0 yX0_stepsSoFar wsX0_stepsSoFar) := goodIn_app (goodIn_of _ (by decide +kernel)) ggX6_count_X0_stepsSoFar
set_option maxRecDepth 20000 in
theorem ggX6_count_X0_lostSoFar : GoodIn wsX6_count wsX0_lostSoFar := goodIn_r _ [36, 15, 37, 59, 60, 61, 62, 63, 64, 65, 66, 72, 73, 74, 75, 76, 77, 78, 79, 80, 81, 82, 83] (by decide +kernel) (by decide +kernel)
set_option maxRecDepth 20000 in
theorem gX6_count_X0_lostSoFar : GoodIn wsX6_count (wsV RX6 163 RX0 yX0_lostSoFar wsX0_lostSoFar) := goodIn_app (goodIn_of _ (by decide +kernel)) ggX6_count_X0_lostSoFar
set_option maxRecDepth 20000 in
theorem ggX6_count_X3_highestLevel : GoodIn wsX6_count wsX3_highestLevel := goodIn_r _ [42, 43, 44, 45, 84, 85, 86, 87, 88] (by decide +kernel) (by decide +kernel)
set_option maxRecDepth 20000 in
theorem gX6_count_X3_highestLevel : GoodIn wsX6_count (wsV RX6 166 RX3 yX3_highestLevel wsX3_highestLevel) := goodIn_app (goodIn_of _ (by decide +kernel)) ggX6_count_X3_highestLevel
set_option maxRecDepth 20000 in
theorem ggX6_count_X3_valueOf : GoodIn wsX6_count wsX3_valueOf := goodIn_r _ [49, 43, 44, 45, 50, 51, 84, 85, 86, 87, 88] (by decide +kernel) (by decide +kernel)
set_option maxRecDepth 20000 in
theorem gX6_count_X3_valueOf : GoodIn wsX6_count (wsV RX6 169 RX3 yX3_valueOf wsX3_valueOf) := goodIn_app (goodIn_of _ (by decide +kernel)) ggX6_count_X3_valueOf
theorem dX6_count_0 : decode cX6_count 0 = .ok (.iload_n 1, 1) := by decide +kernel
theorem dX6_count_1 : decode cX6_count 1 = .ok (.tableswitch 173 0 14 #[75, 83, 91, 99, 107, 115, 123, 131, 142, 142, 142, 142, 142, 157, 165], 75) := by decide +kernel
theorem dX6_count_76 : decode cX6_count 76 = .ok (.aload_n 0, 1) := by decide +kernel
theorem dX6_count_77 : decode cX6_count 77 = .ok (.getfield 10, 3) := by decide +kernel
theorem dX6_count_80 : decode cX6_count 80 = .ok (.getfield 119, 3) := by decide +kernel
theorem dX6_count_83 : decode cX6_count 83 = .ok (.ireturn, 1) := by decide +kernel
theorem dX6_count_84 : decode cX6_count 84 = .ok (.aload_n 0, 1) := by decide +kernel
theorem dX6_count_85 : decode cX6_count 85 = .ok (.getfield 10, 3) := by decide +kernel
theorem dX6_count_88 : decode cX6_count 88 = .ok (.getfield 150, 3) := by decide +kernel
theorem dX6_count_91 : decode cX6_count 91 = .ok (.ireturn, 1) := by decide +kernel
theorem dX6_count_92 : decode cX6_count 92 = .ok (.aload_n 0, 1) := by decide +kernel
theorem dX6_count_93 : decode cX6_count 93 = .ok (.getfield 10, 3) := by decide +kernel
theorem dX6_count_96 : decode cX6_count 96 = .ok (.invokevirtual 153, 3) := by decide +kernel
theorem dX6_count_99 : decode cX6_count 99 = .ok (.ireturn, 1) := by decide +kernel
theorem dX6_count_100 : decode cX6_count 100 = .ok (.aload_n 0, 1) := by decide +kernel
theorem dX6_count_101 : decode cX6_count 101 = .ok (.getfield 10, 3) := by decide +kernel
theorem dX6_count_104 : decode cX6_count 104 = .ok (.invokevirtual 157, 3) := by decide +kernel
theorem dX6_count_107 : decode cX6_count 107 = .ok (.ireturn, 1) := by decide +kernel
theorem dX6_count_108 : decode cX6_count 108 = .ok (.aload_n 0, 1) := by decide +kernel
theorem dX6_count_109 : decode cX6_count 109 = .ok (.getfield 10, 3) := by decide +kernel
theorem dX6_count_112 : decode cX6_count 112 = .ok (.getfield 138, 3) := by decide +kernel
theorem dX6_count_115 : decode cX6_count 115 = .ok (.ireturn, 1) := by decide +kernel
theorem dX6_count_116 : decode cX6_count 116 = .ok (.aload_n 0, 1) := by decide +kernel
theorem dX6_count_117 : decode cX6_count 117 = .ok (.getfield 10, 3) := by decide +kernel
theorem dX6_count_120 : decode cX6_count 120 = .ok (.invokevirtual 160, 3) := by decide +kernel
theorem dX6_count_123 : decode cX6_count 123 = .ok (.ireturn, 1) := by decide +kernel
theorem dX6_count_124 : decode cX6_count 124 = .ok (.aload_n 0, 1) := by decide +kernel
theorem dX6_count_125 : decode cX6_count 125 = .ok (.getfield 10, 3) := by decide +kernel
theorem dX6_count_128 : decode cX6_count 128 = .ok (.invokevirtual 163, 3) := by decide +kernel
theorem dX6_count_131 : decode cX6_count 131 = .ok (.ireturn, 1) := by decide +kernel
theorem dX6_count_132 : decode cX6_count 132 = .ok (.aload_n 0, 1) := by decide +kernel
theorem dX6_count_133 : decode cX6_count 133 = .ok (.getfield 10, 3) := by decide +kernel
theorem dX6_count_136 : decode cX6_count 136 = .ok (.getfield 50, 3) := by decide +kernel
theorem dX6_count_139 : decode cX6_count 139 = .ok (.invokevirtual 166, 3) := by decide +kernel
theorem dX6_count_142 : decode cX6_count 142 = .ok (.ireturn, 1) := by decide +kernel
theorem dX6_count_143 : decode cX6_count 143 = .ok (.aload_n 0, 1) := by decide +kernel
theorem dX6_count_144 : decode cX6_count 144 = .ok (.getfield 10, 3) := by decide +kernel
theorem dX6_count_147 : decode cX6_count 147 = .ok (.getfield 50, 3) := by decide +kernel
theorem dX6_count_150 : decode cX6_count 150 = .ok (.iload_n 1, 1) := by decide +kernel
theorem dX6_count_151 : decode cX6_count 151 = .ok (.bipush 8, 2) := by decide +kernel
theorem dX6_count_153 : decode cX6_count 153 = .ok (.isub, 1) := by decide +kernel
theorem dX6_count_154 : decode cX6_count 154 = .ok (.invokevirtual 169, 3) := by decide +kernel
theorem dX6_count_157 : decode cX6_count 157 = .ok (.ireturn, 1) := by decide +kernel
theorem dX6_count_158 : decode cX6_count 158 = .ok (.aload_n 0, 1) := by decide +kernel
theorem dX6_count_159 : decode cX6_count 159 = .ok (.getfield 45, 3) := by decide +kernel
theorem dX6_count_162 : decode cX6_count 162 = .ok (.getfield 172, 3) := by decide +kernel
theorem dX6_count_165 : decode cX6_count 165 = .ok (.ireturn, 1) := by decide +kernel
theorem dX6_count_166 : decode cX6_count 166 = .ok (.aload_n 0, 1) := by decide +kernel
theorem dX6_count_167 : decode cX6_count 167 = .ok (.getfield 22, 3) := by decide +kernel
theorem dX6_count_170 : decode cX6_count 170 = .ok (.getfield 177, 3) := by decide +kernel
theorem dX6_count_173 : decode cX6_count 173 = .ok (.ireturn, 1) := by decide +kernel
theorem dX6_count_174 : decode cX6_count 174 = .ok (.bipush (-2), 2) := by decide +kernel
theorem dX6_count_176 : decode cX6_count 176 = .ok (.ireturn, 1) := by decide +kernel
set_option maxRecDepth 20000 in
theorem ggX6_interval_X3_intervalOf : GoodIn wsX6_interval wsX3_intervalOf := goodIn_r _ [7, 8, 9, 10, 26, 27, 28, 29, 30] (by decide +kernel) (by decide +kernel)
set_option maxRecDepth 20000 in
theorem gX6_interval_X3_intervalOf : GoodIn wsX6_interval (wsV RX6 180 RX3 yX3_intervalOf wsX3_intervalOf) := goodIn_app (goodIn_of _ (by decide +kernel)) ggX6_interval_X3_intervalOf
theorem dX6_interval_0 : decode cX6_interval 0 = .ok (.iload_n 1, 1) := by decide +kernel
theorem dX6_interval_1 : decode cX6_interval 1 = .ok (.ifCond .lt 9, 3) := by decide +kernel
theorem dX6_interval_4 : decode cX6_interval 4 = .ok (.iload_n 1, 1) := by decide +kernel
theorem dX6_interval_5 : decode cX6_interval 5 = .ok (.bipush 99, 2) := by decide +kernel
theorem dX6_interval_7 : decode cX6_interval 7 = .ok (.if_icmp .le 6, 3) := by decide +kernel
theorem dX6_interval_10 : decode cX6_interval 10 = .ok (.bipush (-2), 2) := by decide +kernel
theorem dX6_interval_12 : decode cX6_interval 12 = .ok (.ireturn, 1) := by decide +kernel
theorem dX6_interval_13 : decode cX6_interval 13 = .ok (.aload_n 0, 1) := by decide +kernel
theorem dX6_interval_14 : decode cX6_interval 14 = .ok (.getfield 10, 3) := by decide +kernel
theorem dX6_interval_17 : decode cX6_interval 17 = .ok (.getfield 50, 3) := by decide +kernel
theorem dX6_interval_20 : decode cX6_interval 20 = .ok (.iload_n 1, 1) := by decide +kernel
theorem dX6_interval_21 : decode cX6_interval 21 = .ok (.invokevirtual 180, 3) := by decide +kernel
theorem dX6_interval_24 : decode cX6_interval 24 = .ok (.ireturn, 1) := by decide +kernel
set_option maxRecDepth 20000 in
theorem ggX6_restsIn_X0_take : GoodIn wsX6_restsIn wsX0_take := goodIn_r _ [7, 8, 9, 10, 11, 12, 13, 14, 15, 16, 17, 18, 19, 20, 21, 22, 23, 24, 25, 26, 27, 28, 29, 30, 31, 32, 33, 34, 35, 36, 37, 38, 39, 40, 41, 42, 137, 138, 139, 140, 141, 142, 143, 144, 145, 146, 147, 148, 149, 150, 151, 152, 153, 154, 155, 156, 157, 158, 159, 160, 161] (by decide +kernel) (by decide +kernel)
set_option maxRecDepth 20000 in
theorem gX6_restsIn_X0_take : GoodIn wsX6_restsIn (wsV RX6 183 RX0 yX0_take wsX0_take) := goodIn_app (goodIn_of _ (by decide +kernel)) ggX6_restsIn_X0_take
set_option maxRecDepth 20000 in
theorem ggX6_restsIn_X0_ticksUntilRest : GoodIn wsX6_restsIn wsX0_ticksUntilRest := goodIn_r _ [46, 15, 47, 48, 49, 6, 50, 13, 9, 51, 52, 53, 29, 54, 36, 55, 56, 57, 58, 14, 11, 59, 60, 61, 62, 10, 63, 64, 65, 66, 67, 68, 69, 70, 71, 72, 12, 8, 73, 74, 75, 76, 42, 41, 77, 78, 79, 80, 81, 33, 82, 83, 84, 35, 31, 37, 38, 85, 86, 87, 19, 88, 21, 23, 22, 89, 90, 91, 92, 93, 94, 95, 96, 97, 98, 99, 100, 101, 102, 103, 104, 105, 106, 107, 108, 39, 32, 34, 40, 109, 110, 111, 112, 24, 25, 113, 114, 115, 116, 117, 118, 119, 120, 121, 122, 123, 124, 125, 126, 127, 128, 129, 137, 138, 139, 140, 141, 142, 143, 144, 150, 151, 152, 153, 154, 155, 156, 157, 158, 159, 160, 161, 145, 146, 147, 148, 149] (by decide +kernel) (by decide +kernel)
set_option maxRecDepth 20000 in
theorem gX6_restsIn_X0_ticksUntilRest : GoodIn wsX6_restsIn (wsV RX6 186 RX0 yX0_ticksUntilRest wsX0_ticksUntilRest) := goodIn_app (goodIn_of _ (by decide +kernel)) ggX6_restsIn_X0_ticksUntilRest
theorem dX6_restsIn_0 : decode cX6_restsIn 0 = .ok (.aload_n 0, 1) := by decide +kernel
theorem dX6_restsIn_1 : decode cX6_restsIn 1 = .ok (.getfield 16, 3) := by decide +kernel
theorem dX6_restsIn_4 : decode cX6_restsIn 4 = .ok (.aload_n 0, 1) := by decide +kernel
theorem dX6_restsIn_5 : decode cX6_restsIn 5 = .ok (.getfield 10, 3) := by decide +kernel
theorem dX6_restsIn_8 : decode cX6_restsIn 8 = .ok (.invokevirtual 183, 3) := by decide +kernel
theorem dX6_restsIn_11 : decode cX6_restsIn 11 = .ok (.aload_n 0, 1) := by decide +kernel
theorem dX6_restsIn_12 : decode cX6_restsIn 12 = .ok (.getfield 16, 3) := by decide +kernel
theorem dX6_restsIn_15 : decode cX6_restsIn 15 = .ok (.iload_n 1, 1) := by decide +kernel
theorem dX6_restsIn_16 : decode cX6_restsIn 16 = .ok (.invokevirtual 186, 3) := by decide +kernel
theorem dX6_restsIn_19 : decode cX6_restsIn 19 = .ok (.ireturn, 1) := by decide +kernel
set_option maxRecDepth 20000 in
theorem ggX6_stopsAt_X0_find : GoodIn wsX6_stopsAt wsX0_find := goodIn_r _ [7, 8, 9, 35, 36, 37, 38, 39, 40, 41, 42] (by decide +kernel) (by decide +kernel)
set_option maxRecDepth 20000 in
theorem gX6_stopsAt_X0_find : GoodIn wsX6_stopsAt (wsV RX6 86 RX0 yX0_find wsX0_find) := goodIn_app (goodIn_of _ (by decide +kernel)) ggX6_stopsAt_X0_find
set_option maxRecDepth 20000 in
theorem ggX6_stopsAt_X5_leftIfHalted : GoodIn wsX6_stopsAt wsX5_leftIfHalted := goodIn_r _ [14, 15, 16, 17, 18, 19, 20, 43, 44, 45, 46, 47, 48, 49, 50, 51, 52, 53, 54] (by decide +kernel) (by decide +kernel)
set_option maxRecDepth 20000 in
theorem gX6_stopsAt_X5_leftIfHalted : GoodIn wsX6_stopsAt (wsV RX6 189 RX5 yX5_leftIfHalted wsX5_leftIfHalted) := goodIn_app (goodIn_of _ (by decide +kernel)) ggX6_stopsAt_X5_leftIfHalted
set_option maxRecDepth 20000 in
theorem ggX6_stopsAt_X5_saysAfter : GoodIn wsX6_stopsAt wsX5_saysAfter := goodIn_r _ [24, 25, 26, 27, 43, 44, 45, 46, 47, 48, 49, 50, 51, 52, 53, 54] (by decide +kernel) (by decide +kernel)
set_option maxRecDepth 20000 in
theorem gX6_stopsAt_X5_saysAfter : GoodIn wsX6_stopsAt (wsV RX6 131 RX5 yX5_saysAfter wsX5_saysAfter) := goodIn_app (goodIn_of _ (by decide +kernel)) ggX6_stopsAt_X5_saysAfter
theorem dX6_stopsAt_0 : decode cX6_stopsAt 0 = .ok (.aload_n 0, 1) := by decide +kernel
theorem dX6_stopsAt_1 : decode cX6_stopsAt 1 = .ok (.getfield 10, 3) := by decide +kernel
theorem dX6_stopsAt_4 : decode cX6_stopsAt 4 = .ok (.iload_n 1, 1) := by decide +kernel
theorem dX6_stopsAt_5 : decode cX6_stopsAt 5 = .ok (.invokevirtual 86, 3) := by decide +kernel
theorem dX6_stopsAt_8 : decode cX6_stopsAt 8 = .ok (.astore_n 2, 1) := by decide +kernel
theorem dX6_stopsAt_9 : decode cX6_stopsAt 9 = .ok (.aload_n 2, 1) := by decide +kernel
theorem dX6_stopsAt_10 : decode cX6_stopsAt 10 = .ok (.ifnonnull 5, 3) := by decide +kernel
theorem dX6_stopsAt_13 : decode cX6_stopsAt 13 = .ok (.iconst (-1), 1) := by decide +kernel
theorem dX6_stopsAt_14 : decode cX6_stopsAt 14 = .ok (.ireturn, 1) := by decide +kernel
theorem dX6_stopsAt_15 : decode cX6_stopsAt 15 = .ok (.aload_n 2, 1) := by decide +kernel
theorem dX6_stopsAt_16 : decode cX6_stopsAt 16 = .ok (.aload_n 2, 1) := by decide +kernel
theorem dX6_stopsAt_17 : decode cX6_stopsAt 17 = .ok (.invokevirtual 189, 3) := by decide +kernel
theorem dX6_stopsAt_20 : decode cX6_stopsAt 20 = .ok (.invokevirtual 131, 3) := by decide +kernel
theorem dX6_stopsAt_23 : decode cX6_stopsAt 23 = .ok (.ldc 96, 2) := by decide +kernel
theorem dX6_stopsAt_25 : decode cX6_stopsAt 25 = .ok (.iadd, 1) := by decide +kernel
theorem dX6_stopsAt_26 : decode cX6_stopsAt 26 = .ok (.ireturn, 1) := by decide +kernel
set_option maxRecDepth 20000 in
theorem ggX6_nextStep_X0_take : GoodIn wsX6_nextStep wsX0_take := goodIn_r _ [11, 12, 13, 14, 15, 16, 17, 18, 19, 20, 21, 22, 23, 24, 25, 26, 27, 28, 29, 30, 31, 32, 33, 34, 35, 36, 37, 38, 39, 40, 41, 42, 43, 44, 45, 46, 139, 140, 141, 142, 143, 144, 145, 146, 159, 160, 161, 162, 163, 147, 148, 149, 150, 151, 152, 153, 154, 155, 156, 157, 158] (by decide +kernel) (by decide +kernel)
set_option maxRecDepth 20000 in
theorem gX6_nextStep_X0_take : GoodIn wsX6_nextStep (wsV RX6 183 RX0 yX0_take wsX0_take) := goodIn_app (goodIn_of _ (by decide +kernel)) ggX6_nextStep_X0_take
set_option maxRecDepth 20000 in
theorem ggX6_nextStep_X0_goToStep : GoodIn wsX6_nextStep wsX0_goToStep := goodIn_r _ [50, 19, 13, 51, 52, 53, 10, 54, 18, 14, 55, 56, 57, 58, 59, 60, 61, 62, 63, 33, 64, 40, 65, 66, 67, 68, 15, 16, 12, 69, 70, 71, 72, 17, 73, 74, 75, 76, 46, 45, 77, 78, 79, 80, 81, 37, 82, 83, 84, 39, 35, 41, 42, 85, 86, 87, 23, 88, 25, 27, 26, 89, 90, 91, 92, 93, 94, 95, 96, 97, 98, 99, 100, 101, 102, 103, 104, 105, 106, 107, 108, 43, 36, 38, 44, 109, 110, 111, 112, 28, 29, 113, 114, 115, 116, 117, 118, 119, 120, 121, 122, 123, 124, 125, 126, 127, 128, 129, 139, 140, 141, 142, 143, 144, 145, 146, 147, 148, 149, 150, 151, 152, 153, 154, 155, 156, 157, 158, 159, 160, 161, 162, 163] (by decide +kernel) (by decide +kernel)
set_option maxRecDepth 20000 in
theorem gX6_nextStep_X0_goToStep : GoodIn wsX6_nextStep (wsV RX6 192 RX0 yX0_goToStep wsX0_goToStep) := goodIn_app (goodIn_of _ (by decide +kernel)) ggX6_nextStep_X0_goToStep
set_option maxRecDepth 20000 in
theorem ggX6_nextStep_X0_find : GoodIn wsX6_nextStep wsX0_find := goodIn_r _ [72, 17, 13, 139, 140, 141, 142, 143, 144, 145, 146] (by decide +kernel) (by decide +kernel)
set_option maxRecDepth 20000 in
theorem gX6_nextStep_X0_find : GoodIn wsX6_nextStep (wsV RX6 86 RX0 yX0_find wsX0_find) := goodIn_app (goodIn_of _ (by decide +kernel)) ggX6_nextStep_X0_find
set_option maxRecDepth 20000 in
theorem ggX6_nextStep_X3_grips : GoodIn wsX6_nextStep wsX3_grips := goodIn_r _ [112, 28, 29, 113, 86, 87, 23, 88, 25, 27, 26, 159, 160, 161, 162, 163] (by decide +kernel) (by decide +kernel)
set_option maxRecDepth 20000 in
theorem gX6_nextStep_X3_grips : GoodIn wsX6_nextStep (wsV RX6 195 RX3 yX3_grips wsX3_grips) := goodIn_app (goodIn_of _ (by decide +kernel)) ggX6_nextStep_X3_grips
theorem dX6_nextStep_0 : decode cX6_nextStep 0 = .ok (.iload_n 1, 1) := by decide +kernel
theorem dX6_nextStep_1 : decode cX6_nextStep 1 = .ok (.ifCond .lt 18, 3) := by decide +kernel
theorem dX6_nextStep_4 : decode cX6_nextStep 4 = .ok (.iload_n 1, 1) := by decide +kernel
theorem dX6_nextStep_5 : decode cX6_nextStep 5 = .ok (.bipush 99, 2) := by decide +kernel
theorem dX6_nextStep_7 : decode cX6_nextStep 7 = .ok (.if_icmp .gt 12, 3) := by decide +kernel
theorem dX6_nextStep_10 : decode cX6_nextStep 10 = .ok (.iload_n 2, 1) := by decide +kernel
theorem dX6_nextStep_11 : decode cX6_nextStep 11 = .ok (.ifCond .lt 8, 3) := by decide +kernel
theorem dX6_nextStep_14 : decode cX6_nextStep 14 = .ok (.iload_n 2, 1) := by decide +kernel
theorem dX6_nextStep_15 : decode cX6_nextStep 15 = .ok (.iconst 2, 1) := by decide +kernel
theorem dX6_nextStep_16 : decode cX6_nextStep 16 = .ok (.if_icmp .le 6, 3) := by decide +kernel
theorem dX6_nextStep_19 : decode cX6_nextStep 19 = .ok (.bipush (-2), 2) := by decide +kernel
theorem dX6_nextStep_21 : decode cX6_nextStep 21 = .ok (.ireturn, 1) := by decide +kernel
theorem dX6_nextStep_22 : decode cX6_nextStep 22 = .ok (.aload_n 0, 1) := by decide +kernel
theorem dX6_nextStep_23 : decode cX6_nextStep 23 = .ok (.getfield 16, 3) := by decide +kernel
theorem dX6_nextStep_26 : decode cX6_nextStep 26 = .ok (.aload_n 0, 1) := by decide +kernel
theorem dX6_nextStep_27 : decode cX6_nextStep 27 = .ok (.getfield 10, 3) := by decide +kernel
theorem dX6_nextStep_30 : decode cX6_nextStep 30 = .ok (.invokevirtual 183, 3) := by decide +kernel
theorem dX6_nextStep_33 : decode cX6_nextStep 33 = .ok (.aload_n 0, 1) := by decide +kernel
theorem dX6_nextStep_34 : decode cX6_nextStep 34 = .ok (.getfield 16, 3) := by decide +kernel
theorem dX6_nextStep_37 : decode cX6_nextStep 37 = .ok (.iload_n 1, 1) := by decide +kernel
theorem dX6_nextStep_38 : decode cX6_nextStep 38 = .ok (.invokevirtual 192, 3) := by decide +kernel
theorem dX6_nextStep_41 : decode cX6_nextStep 41 = .ok (.istore_n 3, 1) := by decide +kernel
theorem dX6_nextStep_42 : decode cX6_nextStep 42 = .ok (.aload_n 0, 1) := by decide +kernel
theorem dX6_nextStep_43 : decode cX6_nextStep 43 = .ok (.getfield 16, 3) := by decide +kernel
theorem dX6_nextStep_46 : decode cX6_nextStep 46 = .ok (.iload_n 3, 1) := by decide +kernel
theorem dX6_nextStep_47 : decode cX6_nextStep 47 = .ok (.invokevirtual 86, 3) := by decide +kernel
theorem dX6_nextStep_50 : decode cX6_nextStep 50 = .ok (.astore 4, 2) := by decide +kernel
theorem dX6_nextStep_52 : decode cX6_nextStep 52 = .ok (.aload 4, 2) := by decide +kernel
theorem dX6_nextStep_54 : decode cX6_nextStep 54 = .ok (.ifnonnull 6, 3) := by decide +kernel
theorem dX6_nextStep_57 : decode cX6_nextStep 57 = .ok (.bipush (-6), 2) := by decide +kernel
theorem dX6_nextStep_59 : decode cX6_nextStep 59 = .ok (.ireturn, 1) := by decide +kernel
theorem dX6_nextStep_60 : decode cX6_nextStep 60 = .ok (.iload_n 2, 1) := by decide +kernel
theorem dX6_nextStep_61 : decode cX6_nextStep 61 = .ok (.lookupswitch 45 #[(0, 27), (1, 43)], 27) := by decide +kernel
theorem dX6_nextStep_88 : decode cX6_nextStep 88 = .ok (.aload_n 0, 1) := by decide +kernel
theorem dX6_nextStep_89 : decode cX6_nextStep 89 = .ok (.getfield 16, 3) := by decide +kernel
theorem dX6_nextStep_92 : decode cX6_nextStep 92 = .ok (.getfield 119, 3) := by decide +kernel
theorem dX6_nextStep_95 : decode cX6_nextStep 95 = .ok (.aload_n 0, 1) := by decide +kernel
theorem dX6_nextStep_96 : decode cX6_nextStep 96 = .ok (.getfield 10, 3) := by decide +kernel
theorem dX6_nextStep_99 : decode cX6_nextStep 99 = .ok (.getfield 119, 3) := by decide +kernel
theorem dX6_nextStep_102 : decode cX6_nextStep 102 = .ok (.isub, 1) := by decide +kernel
theorem dX6_nextStep_103 : decode cX6_nextStep 103 = .ok (.ireturn, 1) := by decide +kernel
theorem dX6_nextStep_104 : decode cX6_nextStep 104 = .ok (.iload_n 3, 1) := by decide +kernel
theorem dX6_nextStep_105 : decode cX6_nextStep 105 = .ok (.ireturn, 1) := by decide +kernel
theorem dX6_nextStep_106 : decode cX6_nextStep 106 = .ok (.aload_n 0, 1) := by decide +kernel
theorem dX6_nextStep_107 : decode cX6_nextStep 107 = .ok (.getfield 16, 3) := by decide +kernel
theorem dX6_nextStep_110 : decode cX6_nextStep 110 = .ok (.getfield 50, 3) := by decide +kernel
theorem dX6_nextStep_113 : decode cX6_nextStep 113 = .ok (.aload 4, 2) := by decide +kernel
theorem dX6_nextStep_115 : decode cX6_nextStep 115 = .ok (.getfield 113, 3) := by decide +kernel
theorem dX6_nextStep_118 : decode cX6_nextStep 118 = .ok (.aload 4, 2) := by decide +kernel
theorem dX6_nextStep_120 : decode cX6_nextStep 120 = .ok (.getfield 103, 3) := by decide +kernel
theorem dX6_nextStep_123 : decode cX6_nextStep 123 = .ok (.invokevirtual 195, 3) := by decide +kernel
theorem dX6_nextStep_126 : decode cX6_nextStep 126 = .ok (.ifCond .eq 7, 3) := by decide +kernel
theorem dX6_nextStep_129 : decode cX6_nextStep 129 = .ok (.iconst 0, 1) := by decide +kernel
theorem dX6_nextStep_130 : decode cX6_nextStep 130 = .ok (.goto 4, 3) := by decide +kernel
theorem dX6_nextStep_133 : decode cX6_nextStep 133 = .ok (.iconst 1, 1) := by decide +kernel
theorem dX6_nextStep_134 : decode cX6_nextStep 134 = .ok (.ireturn, 1) := by decide +kernel
set_option maxRecDepth 20000 in
theorem ggX6_moveOf_X3_ticksOf : GoodIn wsX6_moveOf wsX3_ticksOf := goodIn_r _ [7, 8, 9, 10, 6, 11, 12, 13, 14, 15, 16, 17, 18, 19, 20, 21, 22, 23, 24, 25, 26, 27, 28, 29, 49, 50, 51, 52, 53] (by decide +kernel) (by decide +kernel)
set_option maxRecDepth 20000 in
theorem gX6_moveOf_X3_ticksOf : GoodIn wsX6_moveOf (wsV RX6 199 RX3 yX3_ticksOf wsX3_ticksOf) := goodIn_app (goodIn_of _ (by decide +kernel)) ggX6_moveOf_X3_ticksOf
set_option maxRecDepth 20000 in
theorem ggX6_moveOf_X3_peakOf : GoodIn wsX6_moveOf wsX3_peakOf := goodIn_r _ [33, 23, 24, 21, 25, 26, 27, 28, 6, 29, 12, 14, 13, 49, 50, 51, 52, 53] (by decide +kernel) (by decide +kernel)
set_option maxRecDepth 20000 in
theorem gX6_moveOf_X3_peakOf : GoodIn wsX6_moveOf (wsV RX6 202 RX3 yX3_peakOf wsX3_peakOf) := goodIn_app (goodIn_of _ (by decide +kernel)) ggX6_moveOf_X3_peakOf
theorem dX6_moveOf_0 : decode cX6_moveOf 0 = .ok (.iload_n 1, 1) := by decide +kernel
theorem dX6_moveOf_1 : decode cX6_moveOf 1 = .ok (.iconst 1, 1) := by decide +kernel
theorem dX6_moveOf_2 : decode cX6_moveOf 2 = .ok (.if_icmp .lt 19, 3) := by decide +kernel
theorem dX6_moveOf_5 : decode cX6_moveOf 5 = .ok (.iload_n 1, 1) := by decide +kernel
theorem dX6_moveOf_6 : decode cX6_moveOf 6 = .ok (.sipush 999, 3) := by decide +kernel
theorem dX6_moveOf_9 : decode cX6_moveOf 9 = .ok (.if_icmp .gt 12, 3) := by decide +kernel
theorem dX6_moveOf_12 : decode cX6_moveOf 12 = .ok (.iload_n 2, 1) := by decide +kernel
theorem dX6_moveOf_13 : decode cX6_moveOf 13 = .ok (.ifCond .lt 8, 3) := by decide +kernel
theorem dX6_moveOf_16 : decode cX6_moveOf 16 = .ok (.iload_n 2, 1) := by decide +kernel
theorem dX6_moveOf_17 : decode cX6_moveOf 17 = .ok (.iconst 1, 1) := by decide +kernel
theorem dX6_moveOf_18 : decode cX6_moveOf 18 = .ok (.if_icmp .le 6, 3) := by decide +kernel
theorem dX6_moveOf_21 : decode cX6_moveOf 21 = .ok (.bipush (-2), 2) := by decide +kernel
theorem dX6_moveOf_23 : decode cX6_moveOf 23 = .ok (.ireturn, 1) := by decide +kernel
theorem dX6_moveOf_24 : decode cX6_moveOf 24 = .ok (.iload_n 2, 1) := by decide +kernel
theorem dX6_moveOf_25 : decode cX6_moveOf 25 = .ok (.ifCond .ne 17, 3) := by decide +kernel
theorem dX6_moveOf_28 : decode cX6_moveOf 28 = .ok (.aload_n 0, 1) := by decide +kernel
theorem dX6_moveOf_29 : decode cX6_moveOf 29 = .ok (.getfield 10, 3) := by decide +kernel
theorem dX6_moveOf_32 : decode cX6_moveOf 32 = .ok (.getfield 50, 3) := by decide +kernel
theorem dX6_moveOf_35 : decode cX6_moveOf 35 = .ok (.iload_n 1, 1) := by decide +kernel
theorem dX6_moveOf_36 : decode cX6_moveOf 36 = .ok (.invokevirtual 199, 3) := by decide +kernel
theorem dX6_moveOf_39 : decode cX6_moveOf 39 = .ok (.goto 14, 3) := by decide +kernel
theorem dX6_moveOf_42 : decode cX6_moveOf 42 = .ok (.aload_n 0, 1) := by decide +kernel
theorem dX6_moveOf_43 : decode cX6_moveOf 43 = .ok (.getfield 10, 3) := by decide +kernel
theorem dX6_moveOf_46 : decode cX6_moveOf 46 = .ok (.getfield 50, 3) := by decide +kernel
theorem dX6_moveOf_49 : decode cX6_moveOf 49 = .ok (.iload_n 1, 1) := by decide +kernel
theorem dX6_moveOf_50 : decode cX6_moveOf 50 = .ok (.invokevirtual 202, 3) := by decide +kernel
theorem dX6_moveOf_53 : decode cX6_moveOf 53 = .ok (.ireturn, 1) := by decide +kernel
set_option maxRecDepth 20000 in
theorem ggX6_bestGain_X3_take : GoodIn wsX6_bestGain wsX3_take := goodIn_r _ [9, 10, 11, 12, 13, 14, 50, 51, 52, 53, 54] (by decide +kernel) (by decide +kernel)
set_option maxRecDepth 20000 in
theorem gX6_bestGain_X3_take : GoodIn wsX6_bestGain (wsV RX6 205 RX3 yX3_take wsX3_take) := goodIn_app (goodIn_of _ (by decide +kernel)) ggX6_bestGain_X3_take
set_option maxRecDepth 20000 in
theorem ggX6_bestGain_X3_peakOf : GoodIn wsX6_bestGain wsX3_peakOf := goodIn_r _ [18, 19, 20, 21, 22, 23, 24, 25, 8, 26, 10, 11, 12, 50, 51, 52, 53, 54] (by decide +kernel) (by decide +kernel)
set_option maxRecDepth 20000 in
theorem gX6_bestGain_X3_peakOf : GoodIn wsX6_bestGain (wsV RX6 202 RX3 yX3_peakOf wsX3_peakOf) := goodIn_app (goodIn_of _ (by decide +kernel)) ggX6_bestGain_X3_peakOf
set_option maxRecDepth 20000 in
theorem ggX6_bestGain_X3_grips : GoodIn wsX6_bestGain wsX3_grips := goodIn_r _ [30, 13, 14, 31, 32, 33, 8, 34, 10, 12, 11, 50, 51, 52, 53, 54] (by decide +kernel) (by decide +kernel)
set_option maxRecDepth 20000 in
theorem gX6_bestGain_X3_grips : GoodIn wsX6_bestGain (wsV RX6 195 RX3 yX3_grips wsX3_grips) := goodIn_app (goodIn_of _ (by decide +kernel)) ggX6_bestGain_X3_grips
theorem dX6_bestGain_0 : decode cX6_bestGain 0 = .ok (.iload_n 1, 1) := by decide +kernel
theorem dX6_bestGain_1 : decode cX6_bestGain 1 = .ok (.iconst 1, 1) := by decide +kernel
theorem dX6_bestGain_2 : decode cX6_bestGain 2 = .ok (.if_icmp .lt 20, 3) := by decide +kernel
theorem dX6_bestGain_5 : decode cX6_bestGain 5 = .ok (.iload_n 1, 1) := by decide +kernel
theorem dX6_bestGain_6 : decode cX6_bestGain 6 = .ok (.sipush 999, 3) := by decide +kernel
theorem dX6_bestGain_9 : decode cX6_bestGain 9 = .ok (.if_icmp .gt 13, 3) := by decide +kernel
theorem dX6_bestGain_12 : decode cX6_bestGain 12 = .ok (.iload_n 2, 1) := by decide +kernel
theorem dX6_bestGain_13 : decode cX6_bestGain 13 = .ok (.ifCond .lt 9, 3) := by decide +kernel
theorem dX6_bestGain_16 : decode cX6_bestGain 16 = .ok (.iload_n 2, 1) := by decide +kernel
theorem dX6_bestGain_17 : decode cX6_bestGain 17 = .ok (.bipush 9, 2) := by decide +kernel
theorem dX6_bestGain_19 : decode cX6_bestGain 19 = .ok (.if_icmp .le 6, 3) := by decide +kernel
theorem dX6_bestGain_22 : decode cX6_bestGain 22 = .ok (.bipush (-2), 2) := by decide +kernel
theorem dX6_bestGain_24 : decode cX6_bestGain 24 = .ok (.ireturn, 1) := by decide +kernel
theorem dX6_bestGain_25 : decode cX6_bestGain 25 = .ok (.aload_n 0, 1) := by decide +kernel
theorem dX6_bestGain_26 : decode cX6_bestGain 26 = .ok (.getfield 16, 3) := by decide +kernel
theorem dX6_bestGain_29 : decode cX6_bestGain 29 = .ok (.getfield 50, 3) := by decide +kernel
theorem dX6_bestGain_32 : decode cX6_bestGain 32 = .ok (.astore_n 3, 1) := by decide +kernel
theorem dX6_bestGain_33 : decode cX6_bestGain 33 = .ok (.aload_n 3, 1) := by decide +kernel
theorem dX6_bestGain_34 : decode cX6_bestGain 34 = .ok (.aload_n 0, 1) := by decide +kernel
theorem dX6_bestGain_35 : decode cX6_bestGain 35 = .ok (.getfield 10, 3) := by decide +kernel
theorem dX6_bestGain_38 : decode cX6_bestGain 38 = .ok (.getfield 50, 3) := by decide +kernel
theorem dX6_bestGain_41 : decode cX6_bestGain 41 = .ok (.invokevirtual 205, 3) := by decide +kernel
theorem dX6_bestGain_44 : decode cX6_bestGain 44 = .ok (.bipush 40, 2) := by decide +kernel
theorem dX6_bestGain_46 : decode cX6_bestGain 46 = .ok (.istore 4, 2) := by decide +kernel
theorem dX6_bestGain_48 : decode cX6_bestGain 48 = .ok (.iload 4, 2) := by decide +kernel
theorem dX6_bestGain_50 : decode cX6_bestGain 50 = .ok (.iconst 1, 1) := by decide +kernel
theorem dX6_bestGain_51 : decode cX6_bestGain 51 = .ok (.if_icmp .lt 31, 3) := by decide +kernel
theorem dX6_bestGain_54 : decode cX6_bestGain 54 = .ok (.aload_n 3, 1) := by decide +kernel
theorem dX6_bestGain_55 : decode cX6_bestGain 55 = .ok (.iload 4, 2) := by decide +kernel
theorem dX6_bestGain_57 : decode cX6_bestGain 57 = .ok (.putfield 208, 3) := by decide +kernel
theorem dX6_bestGain_60 : decode cX6_bestGain 60 = .ok (.aload_n 3, 1) := by decide +kernel
theorem dX6_bestGain_61 : decode cX6_bestGain 61 = .ok (.aload_n 3, 1) := by decide +kernel
theorem dX6_bestGain_62 : decode cX6_bestGain 62 = .ok (.iload_n 1, 1) := by decide +kernel
theorem dX6_bestGain_63 : decode cX6_bestGain 63 = .ok (.invokevirtual 202, 3) := by decide +kernel
theorem dX6_bestGain_66 : decode cX6_bestGain 66 = .ok (.iload_n 2, 1) := by decide +kernel
theorem dX6_bestGain_67 : decode cX6_bestGain 67 = .ok (.invokevirtual 195, 3) := by decide +kernel
theorem dX6_bestGain_70 : decode cX6_bestGain 70 = .ok (.ifCond .eq 6, 3) := by decide +kernel
theorem dX6_bestGain_73 : decode cX6_bestGain 73 = .ok (.iload 4, 2) := by decide +kernel
theorem dX6_bestGain_75 : decode cX6_bestGain 75 = .ok (.ireturn, 1) := by decide +kernel
theorem dX6_bestGain_76 : decode cX6_bestGain 76 = .ok (.iinc 4 (-1), 3) := by decide +kernel
theorem dX6_bestGain_79 : decode cX6_bestGain 79 = .ok (.goto (-31), 3) := by decide +kernel
theorem dX6_bestGain_82 : decode cX6_bestGain 82 = .ok (.bipush (-6), 2) := by decide +kernel
theorem dX6_bestGain_84 : decode cX6_bestGain 84 = .ok (.ireturn, 1) := by decide +kernel
set_option maxRecDepth 20000 in
theorem ggX6_bears_X0_find : GoodIn wsX6_bears wsX0_find := goodIn_r _ [8, 9, 10, 32, 33, 34, 35, 36, 37, 38, 39] (by decide +kernel) (by decide +kernel)
set_option maxRecDepth 20000 in
theorem gX6_bears_X0_find : GoodIn wsX6_bears (wsV RX6 86 RX0 yX0_find wsX0_find) := goodIn_app (goodIn_of _ (by decide +kernel)) ggX6_bears_X0_find
set_option maxRecDepth 20000 in
theorem ggX6_bears_X3_grips : GoodIn wsX6_bears wsX3_grips := goodIn_r _ [15, 16, 17, 18, 19, 20, 14, 21, 22, 23, 24, 52, 53, 54, 55, 56] (by decide +kernel) (by decide +kernel)
set_option maxRecDepth 20000 in
theorem gX6_bears_X3_grips : GoodIn wsX6_bears (wsV RX6 195 RX3 yX3_grips wsX3_grips) := goodIn_app (goodIn_of _ (by decide +kernel)) ggX6_bears_X3_grips
theorem dX6_bears_0 : decode cX6_bears 0 = .ok (.aload_n 0, 1) := by decide +kernel
theorem dX6_bears_1 : decode cX6_bears 1 = .ok (.getfield 10, 3) := by decide +kernel
theorem dX6_bears_4 : decode cX6_bears 4 = .ok (.iload_n 1, 1) := by decide +kernel
theorem dX6_bears_5 : decode cX6_bears 5 = .ok (.invokevirtual 86, 3) := by decide +kernel
theorem dX6_bears_8 : decode cX6_bears 8 = .ok (.astore_n 2, 1) := by decide +kernel
theorem dX6_bears_9 : decode cX6_bears 9 = .ok (.aload_n 2, 1) := by decide +kernel
theorem dX6_bears_10 : decode cX6_bears 10 = .ok (.ifnonnull 5, 3) := by decide +kernel
theorem dX6_bears_13 : decode cX6_bears 13 = .ok (.iconst (-1), 1) := by decide +kernel
theorem dX6_bears_14 : decode cX6_bears 14 = .ok (.ireturn, 1) := by decide +kernel
theorem dX6_bears_15 : decode cX6_bears 15 = .ok (.bipush 9, 2) := by decide +kernel
theorem dX6_bears_17 : decode cX6_bears 17 = .ok (.istore_n 3, 1) := by decide +kernel
theorem dX6_bears_18 : decode cX6_bears 18 = .ok (.iload_n 3, 1) := by decide +kernel
theorem dX6_bears_19 : decode cX6_bears 19 = .ok (.ifCond .lt 29, 3) := by decide +kernel
theorem dX6_bears_22 : decode cX6_bears 22 = .ok (.aload_n 0, 1) := by decide +kernel
theorem dX6_bears_23 : decode cX6_bears 23 = .ok (.getfield 10, 3) := by decide +kernel
theorem dX6_bears_26 : decode cX6_bears 26 = .ok (.getfield 50, 3) := by decide +kernel
theorem dX6_bears_29 : decode cX6_bears 29 = .ok (.aload_n 2, 1) := by decide +kernel
theorem dX6_bears_30 : decode cX6_bears 30 = .ok (.getfield 113, 3) := by decide +kernel
theorem dX6_bears_33 : decode cX6_bears 33 = .ok (.iload_n 3, 1) := by decide +kernel
theorem dX6_bears_34 : decode cX6_bears 34 = .ok (.invokevirtual 195, 3) := by decide +kernel
theorem dX6_bears_37 : decode cX6_bears 37 = .ok (.ifCond .eq 5, 3) := by decide +kernel
theorem dX6_bears_40 : decode cX6_bears 40 = .ok (.iload_n 3, 1) := by decide +kernel
theorem dX6_bears_41 : decode cX6_bears 41 = .ok (.ireturn, 1) := by decide +kernel
theorem dX6_bears_42 : decode cX6_bears 42 = .ok (.iinc 3 (-1), 3) := by decide +kernel
theorem dX6_bears_45 : decode cX6_bears 45 = .ok (.goto (-27), 3) := by decide +kernel
theorem dX6_bears_48 : decode cX6_bears 48 = .ok (.bipush (-6), 2) := by decide +kernel
theorem dX6_bears_50 : decode cX6_bears 50 = .ok (.ireturn, 1) := by decide +kernel
set_option maxRecDepth 20000 in
theorem ggX6_put_X2_lengthOf : GoodIn wsX6_put wsX2_lengthOf := goodIn_r _ [7, 8, 9, 10] (by decide +kernel) (by decide +kernel)
set_option maxRecDepth 20000 in
theorem gX6_put_X2_lengthOf : GoodIn wsX6_put (va_wsS RX6 211 yX2_lengthOf wsX2_lengthOf) := goodIn_app (goodIn_of _ (by decide +kernel)) ggX6_put_X2_lengthOf
set_option maxRecDepth 20000 in
theorem ggX6_put_X2_append : GoodIn wsX6_put wsX2_append := goodIn_r _ [14, 15, 16, 24, 25] (by decide +kernel) (by decide +kernel)
set_option maxRecDepth 20000 in
theorem gX6_put_X2_append : GoodIn wsX6_put (wsV RX6 217 RX2 yX2_append wsX2_append) := goodIn_app (goodIn_of _ (by decide +kernel)) ggX6_put_X2_append
theorem dX6_put_0 : decode cX6_put 0 = .ok (.lload_n 1, 1) := by decide +kernel
theorem dX6_put_1 : decode cX6_put 1 = .ok (.invokestatic 211, 3) := by decide +kernel
theorem dX6_put_4 : decode cX6_put 4 = .ok (.istore_n 3, 1) := by decide +kernel
theorem dX6_put_5 : decode cX6_put 5 = .ok (.iload_n 3, 1) := by decide +kernel
theorem dX6_put_6 : decode cX6_put 6 = .ok (.iconst 1, 1) := by decide +kernel
theorem dX6_put_7 : decode cX6_put 7 = .ok (.if_icmp .ge 6, 3) := by decide +kernel
theorem dX6_put_10 : decode cX6_put 10 = .ok (.bipush (-2), 2) := by decide +kernel
theorem dX6_put_12 : decode cX6_put 12 = .ok (.ireturn, 1) := by decide +kernel
theorem dX6_put_13 : decode cX6_put 13 = .ok (.aload_n 0, 1) := by decide +kernel
theorem dX6_put_14 : decode cX6_put 14 = .ok (.getfield 45, 3) := by decide +kernel
theorem dX6_put_17 : decode cX6_put 17 = .ok (.getfield 172, 3) := by decide +kernel
theorem dX6_put_20 : decode cX6_put 20 = .ok (.iload_n 3, 1) := by decide +kernel
theorem dX6_put_21 : decode cX6_put 21 = .ok (.iadd, 1) := by decide +kernel
theorem dX6_put_22 : decode cX6_put 22 = .ok (.bipush 80, 2) := by decide +kernel
theorem dX6_put_24 : decode cX6_put 24 = .ok (.if_icmp .le 6, 3) := by decide +kernel
theorem dX6_put_27 : decode cX6_put 27 = .ok (.bipush (-4), 2) := by decide +kernel
theorem dX6_put_29 : decode cX6_put 29 = .ok (.ireturn, 1) := by decide +kernel
theorem dX6_put_30 : decode cX6_put 30 = .ok (.iload_n 3, 1) := by decide +kernel
theorem dX6_put_31 : decode cX6_put 31 = .ok (.iconst 1, 1) := by decide +kernel
theorem dX6_put_32 : decode cX6_put 32 = .ok (.isub, 1) := by decide +kernel
theorem dX6_put_33 : decode cX6_put 33 = .ok (.istore 4, 2) := by decide +kernel
theorem dX6_put_35 : decode cX6_put 35 = .ok (.iload 4, 2) := by decide +kernel
theorem dX6_put_37 : decode cX6_put 37 = .ok (.ifCond .lt 29, 3) := by decide +kernel
theorem dX6_put_40 : decode cX6_put 40 = .ok (.aload_n 0, 1) := by decide +kernel
theorem dX6_put_41 : decode cX6_put 41 = .ok (.getfield 45, 3) := by decide +kernel
theorem dX6_put_44 : decode cX6_put 44 = .ok (.lload_n 1, 1) := by decide +kernel
theorem dX6_put_45 : decode cX6_put 45 = .ok (.bipush 8, 2) := by decide +kernel
theorem dX6_put_47 : decode cX6_put 47 = .ok (.iload 4, 2) := by decide +kernel
theorem dX6_put_49 : decode cX6_put 49 = .ok (.imul, 1) := by decide +kernel
theorem dX6_put_50 : decode cX6_put 50 = .ok (.lushr, 1) := by decide +kernel
theorem dX6_put_51 : decode cX6_put 51 = .ok (.ldc2_w 215, 3) := by decide +kernel
theorem dX6_put_54 : decode cX6_put 54 = .ok (.land, 1) := by decide +kernel
theorem dX6_put_55 : decode cX6_put 55 = .ok (.l2i, 1) := by decide +kernel
theorem dX6_put_56 : decode cX6_put 56 = .ok (.i2c, 1) := by decide +kernel
theorem dX6_put_57 : decode cX6_put 57 = .ok (.invokevirtual 217, 3) := by decide +kernel
theorem dX6_put_60 : decode cX6_put 60 = .ok (.iinc 4 (-1), 3) := by decide +kernel
theorem dX6_put_63 : decode cX6_put 63 = .ok (.goto (-28), 3) := by decide +kernel
theorem dX6_put_66 : decode cX6_put 66 = .ok (.aload_n 0, 1) := by decide +kernel
theorem dX6_put_67 : decode cX6_put 67 = .ok (.getfield 45, 3) := by decide +kernel
theorem dX6_put_70 : decode cX6_put 70 = .ok (.getfield 172, 3) := by decide +kernel
theorem dX6_put_73 : decode cX6_put 73 = .ok (.ireturn, 1) := by decide +kernel
theorem dX6_wipe_0 : decode cX6_wipe 0 = .ok (.aload_n 0, 1) := by decide +kernel
theorem dX6_wipe_1 : decode cX6_wipe 1 = .ok (.getfield 45, 3) := by decide +kernel
theorem dX6_wipe_4 : decode cX6_wipe 4 = .ok (.getfield 172, 3) := by decide +kernel
theorem dX6_wipe_7 : decode cX6_wipe 7 = .ok (.istore_n 1, 1) := by decide +kernel
theorem dX6_wipe_8 : decode cX6_wipe 8 = .ok (.aload_n 0, 1) := by decide +kernel
theorem dX6_wipe_9 : decode cX6_wipe 9 = .ok (.getfield 45, 3) := by decide +kernel
theorem dX6_wipe_12 : decode cX6_wipe 12 = .ok (.iconst 0, 1) := by decide +kernel
theorem dX6_wipe_13 : decode cX6_wipe 13 = .ok (.putfield 172, 3) := by decide +kernel
theorem dX6_wipe_16 : decode cX6_wipe 16 = .ok (.iload_n 1, 1) := by decide +kernel
theorem dX6_wipe_17 : decode cX6_wipe 17 = .ok (.ireturn, 1) := by decide +kernel
set_option maxRecDepth 20000 in
theorem ggX6_fault_X4_findFault : GoodIn wsX6_fault wsX4_findFault := goodIn_r _ [6, 7, 8, 9, 10, 11, 12, 5, 13, 14, 15, 16, 17, 18, 19, 20, 21, 22, 23, 24, 25, 26, 27, 28, 29, 30, 31, 32, 33, 34, 35, 36, 37, 38, 39, 40, 41, 42, 43, 44, 45, 46, 47, 48, 49, 50, 51, 52, 53, 54, 55, 56, 64, 65, 66, 67, 68, 69, 70, 71] (by decide +kernel) (by decide +kernel)
set_option maxRecDepth 20000 in
theorem gX6_fault_X4_findFault : GoodIn wsX6_fault (wsV RX6 221 RX4 yX4_findFault wsX4_findFault) := goodIn_app (goodIn_of _ (by decide +kernel)) ggX6_fault_X4_findFault
theorem dX6_fault_0 : decode cX6_fault 0 = .ok (.aload_n 0, 1) := by decide +kernel
theorem dX6_fault_1 : decode cX6_fault 1 = .ok (.getfield 37, 3) := by decide +kernel
theorem dX6_fault_4 : decode cX6_fault 4 = .ok (.invokevirtual 221, 3) := by decide +kernel
theorem dX6_fault_7 : decode cX6_fault 7 = .ok (.ireturn, 1) := by decide +kernel
set_option maxRecDepth 20000 in
theorem ggX6_carryOut_X4_findFault : GoodIn wsX6_carryOut wsX4_findFault := goodIn_r _ [10, 11, 12, 13, 14, 15, 16, 9, 17, 18, 19, 20, 21, 22, 23, 24, 25, 26, 27, 28, 29, 30, 31, 32, 33, 34, 35, 36, 37, 38, 39, 40, 41, 42, 43, 44, 45, 46, 47, 48, 49, 50, 51, 52, 53, 54, 55, 56, 57, 58, 59, 60, 270, 271, 272, 273, 274, 275, 268, 269] (by decide +kernel) (by decide +kernel)
set_option maxRecDepth 20000 in
theorem gX6_carryOut_X4_findFault : GoodIn wsX6_carryOut (wsV RX6 221 RX4 yX4_findFault wsX4_findFault) := goodIn_app (goodIn_of _ (by decide +kernel)) ggX6_carryOut_X4_findFault
set_option maxRecDepth 20000 in
theorem ggX6_carryOut_X1_mark : GoodIn wsX6_carryOut wsX1_mark := goodIn_r _ [65, 66, 67, 68, 69, 70, 71, 72, 73, 74, 75, 76, 77, 78, 79, 80, 81, 82, 83, 84, 85, 86, 87, 88, 89, 90, 91, 92, 93, 94, 95, 96, 97, 98, 99, 100, 101, 102, 103, 104, 105, 106, 107, 276, 277, 278, 279, 280, 281, 282, 283, 284, 285, 286, 287, 288, 289, 290, 291, 292, 293, 294, 295, 296, 297, 298, 299, 300, 301, 302, 303] (by decide +kernel) (by decide +kernel)
set_option maxRecDepth 20000 in
theorem gX6_carryOut_X1_mark : GoodIn wsX6_carryOut (wsV RX6 46 RX1 yX1_mark wsX1_mark) := goodIn_app (goodIn_of _ (by decide +kernel)) ggX6_carryOut_X1_mark
set_option maxRecDepth 20000 in
theorem ggX6_carryOut_X4_begin : GoodIn wsX6_carryOut wsX4_begin := goodIn_r _ [17, 11, 270, 271, 272, 273, 274, 275] (by decide +kernel) (by decide +kernel)
set_option maxRecDepth 20000 in
theorem gX6_carryOut_X4_begin : GoodIn wsX6_carryOut (wsV RX6 224 RX4 yX4_begin wsX4_begin) := goodIn_app (goodIn_of _ (by decide +kernel)) ggX6_carryOut_X4_begin
set_option maxRecDepth 20000 in
theorem ggX6_carryOut_X4_readOrder : GoodIn wsX6_carryOut wsX4_readOrder := goodIn_r _ [21, 12, 11, 22, 23, 24, 25, 26, 27, 28, 29, 30, 31, 32, 9, 33, 34, 35, 36, 37, 38, 39, 40, 41, 42, 43, 44, 45, 46, 47, 48, 49, 50, 51, 52, 53, 54, 55, 56, 57, 58, 59, 60, 270, 271, 272, 273, 274, 275, 268, 269] (by decide +kernel) (by decide +kernel)
set_option maxRecDepth 20000 in
theorem gX6_carryOut_X4_readOrder : GoodIn wsX6_carryOut (wsV RX6 227 RX4 yX4_readOrder wsX4_readOrder) := goodIn_app (goodIn_of _ (by decide +kernel)) ggX6_carryOut_X4_readOrder
set_option maxRecDepth 20000 in
theorem ggX6_carryOut_X6_carryOutOrder : GoodIn wsX6_carryOut wsX6_carryOutOrder := goodIn_r _ [114, 1, 115, 3, 116, 117, 118, 119, 120, 121, 71, 122, 78, 74, 123, 124, 125, 126, 127, 80, 73, 128, 129, 130, 131, 132, 133, 134, 135, 136, 137, 138, 94, 139, 101, 140, 141, 142, 143, 106, 144, 145, 146, 147, 107, 148, 149, 150, 151, 152, 98, 153, 154, 155, 156, 100, 96, 102, 103, 157, 158, 159, 84, 160, 86, 88, 87, 161, 162, 163, 164, 165, 79, 75, 76, 77, 166, 167, 168, 169, 170, 171, 172, 173, 174, 175, 176, 177, 178, 179, 180, 181, 182, 183, 184, 185, 186, 187, 188, 189, 190, 191, 192, 193, 194, 195, 196, 197, 198, 199, 200, 201, 202, 203, 204, 205, 206, 207, 208, 209, 210, 211, 212, 213, 214, 215, 216, 217, 218, 219, 220, 221, 222, 223, 224, 225, 104, 97, 99, 105, 226, 227, 228, 229, 89, 90, 230, 231, 232, 233, 234, 235, 236, 237, 238, 239, 240, 241, 242, 243, 244, 245, 246, 261, 262, 263, 264, 265, 266, 267, 270, 271, 272, 273, 274, 275, 279, 280, 281, 282, 283, 284, 285, 286, 292, 293, 294, 295, 296, 297, 298, 299, 300, 301, 302, 303, 287, 288, 289, 290, 291] (by decide +kernel) (by decide +kernel)
set_option maxRecDepth 20000 in
theorem gX6_carryOut_X6_carryOutOrder : GoodIn wsX6_carryOut (wsV RX6 230 RX6 yX6_carryOutOrder wsX6_carryOutOrder) := goodIn_app (goodIn_of _ (by decide +kernel)) ggX6_carryOut_X6_carryOutOrder
set_option maxRecDepth 20000 in
theorem ggX6_carryOut_X6_isError : GoodIn wsX6_carryOut wsX6_isError := goodIn_r _ [249] (by decide +kernel) (by decide +kernel)
set_option maxRecDepth 20000 in
theorem gX6_carryOut_X6_isError : GoodIn wsX6_carryOut (va_wsS RX6 233 yX6_isError wsX6_isError) := goodIn_app (goodIn_of _ (by decide +kernel)) ggX6_carryOut_X6_isError
set_option maxRecDepth 20000 in
theorem ggX6_carryOut_X4_skip : GoodIn wsX6_carryOut wsX4_skip := goodIn_r _ [42, 12, 11, 23, 24, 25, 26, 27, 28, 29, 270, 271, 272, 273, 274, 275, 268, 269] (by decide +kernel) (by decide +kernel)
set_option maxRecDepth 20000 in
theorem gX6_carryOut_X4_skip : GoodIn wsX6_carryOut (wsV RX6 237 RX4 yX4_skip wsX4_skip) := goodIn_app (goodIn_of _ (by decide +kernel)) ggX6_carryOut_X4_skip
set_option maxRecDepth 20000 in
theorem ggX6_carryOut_X6_recorded : GoodIn wsX6_carryOut wsX6_recorded := goodIn_r _ [254, 2, 247, 248, 113, 249, 255, 256, 257, 64, 258, 66, 67, 259, 260, 184, 155, 185, 261, 262, 263, 264, 265, 266, 267, 276, 277, 278] (by decide +kernel) (by decide +kernel)
set_option maxRecDepth 20000 in
theorem gX6_carryOut_X6_recorded : GoodIn wsX6_carryOut (wsV RX6 60 RX6 yX6_recorded wsX6_recorded) := goodIn_app (goodIn_of _ (by decide +kernel)) ggX6_carryOut_X6_recorded
theorem dX6_carryOut_0 : decode cX6_carryOut 0 = .ok (.aload_n 0, 1) := by decide +kernel
theorem dX6_carryOut_1 : decode cX6_carryOut 1 = .ok (.getfield 37, 3) := by decide +kernel
theorem dX6_carryOut_4 : decode cX6_carryOut 4 = .ok (.invokevirtual 221, 3) := by decide +kernel
theorem dX6_carryOut_7 : decode cX6_carryOut 7 = .ok (.bipush (-6), 2) := by decide +kernel
theorem dX6_carryOut_9 : decode cX6_carryOut 9 = .ok (.if_icmp .eq 6, 3) := by decide +kernel
theorem dX6_carryOut_12 : decode cX6_carryOut 12 = .ok (.bipush (-3), 2) := by decide +kernel
theorem dX6_carryOut_14 : decode cX6_carryOut 14 = .ok (.ireturn, 1) := by decide +kernel
theorem dX6_carryOut_15 : decode cX6_carryOut 15 = .ok (.aload_n 0, 1) := by decide +kernel
theorem dX6_carryOut_16 : decode cX6_carryOut 16 = .ok (.getfield 22, 3) := by decide +kernel
theorem dX6_carryOut_19 : decode cX6_carryOut 19 = .ok (.aload_n 0, 1) := by decide +kernel
theorem dX6_carryOut_20 : decode cX6_carryOut 20 = .ok (.getfield 10, 3) := by decide +kernel
theorem dX6_carryOut_23 : decode cX6_carryOut 23 = .ok (.invokevirtual 46, 3) := by decide +kernel
theorem dX6_carryOut_26 : decode cX6_carryOut 26 = .ok (.aload_n 0, 1) := by decide +kernel
theorem dX6_carryOut_27 : decode cX6_carryOut 27 = .ok (.getfield 37, 3) := by decide +kernel
theorem dX6_carryOut_30 : decode cX6_carryOut 30 = .ok (.invokevirtual 224, 3) := by decide +kernel
theorem dX6_carryOut_33 : decode cX6_carryOut 33 = .ok (.iconst 0, 1) := by decide +kernel
theorem dX6_carryOut_34 : decode cX6_carryOut 34 = .ok (.istore_n 1, 1) := by decide +kernel
theorem dX6_carryOut_35 : decode cX6_carryOut 35 = .ok (.iconst 0, 1) := by decide +kernel
theorem dX6_carryOut_36 : decode cX6_carryOut 36 = .ok (.istore_n 2, 1) := by decide +kernel
theorem dX6_carryOut_37 : decode cX6_carryOut 37 = .ok (.iload_n 2, 1) := by decide +kernel
theorem dX6_carryOut_38 : decode cX6_carryOut 38 = .ok (.bipush 80, 2) := by decide +kernel
theorem dX6_carryOut_40 : decode cX6_carryOut 40 = .ok (.if_icmp .ge 50, 3) := by decide +kernel
theorem dX6_carryOut_43 : decode cX6_carryOut 43 = .ok (.aload_n 0, 1) := by decide +kernel
theorem dX6_carryOut_44 : decode cX6_carryOut 44 = .ok (.getfield 37, 3) := by decide +kernel
theorem dX6_carryOut_47 : decode cX6_carryOut 47 = .ok (.invokevirtual 227, 3) := by decide +kernel
theorem dX6_carryOut_50 : decode cX6_carryOut 50 = .ok (.ifCond .eq 40, 3) := by decide +kernel
theorem dX6_carryOut_53 : decode cX6_carryOut 53 = .ok (.aload_n 0, 1) := by decide +kernel
theorem dX6_carryOut_54 : decode cX6_carryOut 54 = .ok (.invokevirtual 230, 3) := by decide +kernel
theorem dX6_carryOut_57 : decode cX6_carryOut 57 = .ok (.invokestatic 233, 3) := by decide +kernel
theorem dX6_carryOut_60 : decode cX6_carryOut 60 = .ok (.ifCond .eq 6, 3) := by decide +kernel
theorem dX6_carryOut_63 : decode cX6_carryOut 63 = .ok (.goto 27, 3) := by decide +kernel
theorem dX6_carryOut_66 : decode cX6_carryOut 66 = .ok (.iinc 1 1, 3) := by decide +kernel
theorem dX6_carryOut_69 : decode cX6_carryOut 69 = .ok (.aload_n 0, 1) := by decide +kernel
theorem dX6_carryOut_70 : decode cX6_carryOut 70 = .ok (.getfield 37, 3) := by decide +kernel
theorem dX6_carryOut_73 : decode cX6_carryOut 73 = .ok (.bipush 59, 2) := by decide +kernel
theorem dX6_carryOut_75 : decode cX6_carryOut 75 = .ok (.invokevirtual 237, 3) := by decide +kernel
theorem dX6_carryOut_78 : decode cX6_carryOut 78 = .ok (.ifCond .ne 6, 3) := by decide +kernel
theorem dX6_carryOut_81 : decode cX6_carryOut 81 = .ok (.goto 9, 3) := by decide +kernel
theorem dX6_carryOut_84 : decode cX6_carryOut 84 = .ok (.iinc 2 1, 3) := by decide +kernel
theorem dX6_carryOut_87 : decode cX6_carryOut 87 = .ok (.goto (-50), 3) := by decide +kernel
theorem dX6_carryOut_90 : decode cX6_carryOut 90 = .ok (.aload_n 0, 1) := by decide +kernel
theorem dX6_carryOut_91 : decode cX6_carryOut 91 = .ok (.getfield 45, 3) := by decide +kernel
theorem dX6_carryOut_94 : decode cX6_carryOut 94 = .ok (.iconst 0, 1) := by decide +kernel
theorem dX6_carryOut_95 : decode cX6_carryOut 95 = .ok (.putfield 172, 3) := by decide +kernel
theorem dX6_carryOut_98 : decode cX6_carryOut 98 = .ok (.aload_n 0, 1) := by decide +kernel
theorem dX6_carryOut_99 : decode cX6_carryOut 99 = .ok (.iload_n 1, 1) := by decide +kernel
theorem dX6_carryOut_100 : decode cX6_carryOut 100 = .ok (.invokevirtual 60, 3) := by decide +kernel
theorem dX6_carryOut_103 : decode cX6_carryOut 103 = .ok (.ireturn, 1) := by decide +kernel
set_option maxRecDepth 20000 in
theorem ggX6_undo_X1_latest : GoodIn wsX6_undo wsX1_latest := goodIn_r _ [8, 9, 10, 11, 12, 13, 7, 14, 15, 67, 68, 69] (by decide +kernel) (by decide +kernel)
set_option maxRecDepth 20000 in
theorem gX6_undo_X1_latest : GoodIn wsX6_undo (wsV RX6 241 RX1 yX1_latest wsX1_latest) := goodIn_app (goodIn_of _ (by decide +kernel)) ggX6_undo_X1_latest
set_option maxRecDepth 20000 in
theorem ggX6_undo_X0_take : GoodIn wsX6_undo wsX0_take := goodIn_r _ [20, 21, 22, 23, 24, 25, 26, 27, 28, 29, 30, 31, 32, 33, 34, 35, 36, 37, 38, 39, 40, 41, 42, 43, 44, 45, 46, 47, 48, 49, 50, 51, 52, 53, 54, 55, 70, 71, 72, 73, 74, 75, 76, 77, 78, 79, 80, 81, 82, 83, 84, 85, 86, 87, 88, 89, 90, 91, 92, 93, 94] (by decide +kernel) (by decide +kernel)
set_option maxRecDepth 20000 in
theorem gX6_undo_X0_take : GoodIn wsX6_undo (wsV RX6 183 RX0 yX0_take wsX0_take) := goodIn_app (goodIn_of _ (by decide +kernel)) ggX6_undo_X0_take
set_option maxRecDepth 20000 in
theorem ggX6_undo_X1_dropLatest : GoodIn wsX6_undo wsX1_dropLatest := goodIn_r _ [59, 15, 9, 11, 12, 13, 7, 14, 67, 68, 69] (by decide +kernel) (by decide +kernel)
set_option maxRecDepth 20000 in
theorem gX6_undo_X1_dropLatest : GoodIn wsX6_undo (wsV RX6 245 RX1 yX1_dropLatest wsX1_dropLatest) := goodIn_app (goodIn_of _ (by decide +kernel)) ggX6_undo_X1_dropLatest
theorem dX6_undo_0 : decode cX6_undo 0 = .ok (.aload_n 0, 1) := by decide +kernel
theorem dX6_undo_1 : decode cX6_undo 1 = .ok (.getfield 22, 3) := by decide +kernel
theorem dX6_undo_4 : decode cX6_undo 4 = .ok (.invokevirtual 241, 3) := by decide +kernel
theorem dX6_undo_7 : decode cX6_undo 7 = .ok (.astore_n 1, 1) := by decide +kernel
theorem dX6_undo_8 : decode cX6_undo 8 = .ok (.aload_n 1, 1) := by decide +kernel
theorem dX6_undo_9 : decode cX6_undo 9 = .ok (.ifnonnull 6, 3) := by decide +kernel
theorem dX6_undo_12 : decode cX6_undo 12 = .ok (.bipush (-5), 2) := by decide +kernel
theorem dX6_undo_14 : decode cX6_undo 14 = .ok (.ireturn, 1) := by decide +kernel
theorem dX6_undo_15 : decode cX6_undo 15 = .ok (.aload_n 0, 1) := by decide +kernel
theorem dX6_undo_16 : decode cX6_undo 16 = .ok (.getfield 10, 3) := by decide +kernel
theorem dX6_undo_19 : decode cX6_undo 19 = .ok (.aload_n 1, 1) := by decide +kernel
theorem dX6_undo_20 : decode cX6_undo 20 = .ok (.invokevirtual 183, 3) := by decide +kernel
theorem dX6_undo_23 : decode cX6_undo 23 = .ok (.aload_n 0, 1) := by decide +kernel
theorem dX6_undo_24 : decode cX6_undo 24 = .ok (.getfield 22, 3) := by decide +kernel
theorem dX6_undo_27 : decode cX6_undo 27 = .ok (.invokevirtual 245, 3) := by decide +kernel
theorem dX6_undo_30 : decode cX6_undo 30 = .ok (.aload_n 0, 1) := by decide +kernel
theorem dX6_undo_31 : decode cX6_undo 31 = .ok (.getfield 22, 3) := by decide +kernel
theorem dX6_undo_34 : decode cX6_undo 34 = .ok (.getfield 177, 3) := by decide +kernel
theorem dX6_undo_37 : decode cX6_undo 37 = .ok (.ireturn, 1) := by decide +kernel
set_option maxRecDepth 20000 in
theorem ggX6_save_X0_take : GoodIn wsX6_save wsX0_take := goodIn_r _ [9, 10, 11, 12, 13, 14, 15, 16, 17, 18, 19, 20, 21, 22, 23, 24, 25, 26, 27, 28, 29, 30, 31, 32, 33, 34, 35, 36, 37, 38, 39, 40, 41, 42, 43, 44, 52, 53, 54, 55, 56, 57, 58, 59, 60, 61, 62, 63, 64, 65, 66, 67, 68, 69, 70, 71, 72, 73, 74, 75, 76] (by decide +kernel) (by decide +kernel)
set_option maxRecDepth 20000 in
theorem gX6_save_X0_take : GoodIn wsX6_save (wsV RX6 183 RX0 yX0_take wsX0_take) := goodIn_app (goodIn_of _ (by decide +kernel)) ggX6_save_X0_take
theorem dX6_save_0 : decode cX6_save 0 = .ok (.iload_n 1, 1) := by decide +kernel
theorem dX6_save_1 : decode cX6_save 1 = .ok (.ifCond .lt 8, 3) := by decide +kernel
theorem dX6_save_4 : decode cX6_save 4 = .ok (.iload_n 1, 1) := by decide +kernel
theorem dX6_save_5 : decode cX6_save 5 = .ok (.iconst 2, 1) := by decide +kernel
theorem dX6_save_6 : decode cX6_save 6 = .ok (.if_icmp .lt 6, 3) := by decide +kernel
theorem dX6_save_9 : decode cX6_save 9 = .ok (.bipush (-2), 2) := by decide +kernel
theorem dX6_save_11 : decode cX6_save 11 = .ok (.ireturn, 1) := by decide +kernel
theorem dX6_save_12 : decode cX6_save 12 = .ok (.aload_n 0, 1) := by decide +kernel
theorem dX6_save_13 : decode cX6_save 13 = .ok (.getfield 26, 3) := by decide +kernel
theorem dX6_save_16 : decode cX6_save 16 = .ok (.iload_n 1, 1) := by decide +kernel
theorem dX6_save_17 : decode cX6_save 17 = .ok (.aaload, 1) := by decide +kernel
theorem dX6_save_18 : decode cX6_save 18 = .ok (.aload_n 0, 1) := by decide +kernel
theorem dX6_save_19 : decode cX6_save 19 = .ok (.getfield 10, 3) := by decide +kernel
theorem dX6_save_22 : decode cX6_save 22 = .ok (.invokevirtual 183, 3) := by decide +kernel
theorem dX6_save_25 : decode cX6_save 25 = .ok (.aload_n 0, 1) := by decide +kernel
theorem dX6_save_26 : decode cX6_save 26 = .ok (.getfield 30, 3) := by decide +kernel
theorem dX6_save_29 : decode cX6_save 29 = .ok (.iload_n 1, 1) := by decide +kernel
theorem dX6_save_30 : decode cX6_save 30 = .ok (.iconst 1, 1) := by decide +kernel
theorem dX6_save_31 : decode cX6_save 31 = .ok (.bastore, 1) := by decide +kernel
theorem dX6_save_32 : decode cX6_save 32 = .ok (.aload_n 0, 1) := by decide +kernel
theorem dX6_save_33 : decode cX6_save 33 = .ok (.getfield 10, 3) := by decide +kernel
theorem dX6_save_36 : decode cX6_save 36 = .ok (.getfield 150, 3) := by decide +kernel
theorem dX6_save_39 : decode cX6_save 39 = .ok (.ireturn, 1) := by decide +kernel
set_option maxRecDepth 20000 in
theorem ggX6_restore_X1_mark : GoodIn wsX6_restore wsX1_mark := goodIn_r _ [10, 11, 12, 13, 14, 15, 16, 17, 18, 19, 20, 21, 22, 23, 24, 25, 26, 27, 28, 29, 30, 31, 32, 33, 34, 35, 36, 37, 38, 39, 40, 41, 42, 43, 44, 45, 46, 47, 48, 49, 50, 51, 52, 86, 87, 88, 78, 79, 80, 81, 82, 83, 84, 85, 89, 90, 91, 92, 93, 94, 95, 96, 97, 98, 99, 100, 101, 102, 103, 104, 105] (by decide +kernel) (by decide +kernel)
set_option maxRecDepth 20000 in
theorem gX6_restore_X1_mark : GoodIn wsX6_restore (wsV RX6 46 RX1 yX1_mark wsX1_mark) := goodIn_app (goodIn_of _ (by decide +kernel)) ggX6_restore_X1_mark
set_option maxRecDepth 20000 in
theorem ggX6_restore_X0_take : GoodIn wsX6_restore wsX0_take := goodIn_r _ [17, 18, 19, 20, 21, 22, 23, 24, 25, 26, 27, 28, 29, 30, 31, 32, 33, 34, 35, 36, 37, 38, 39, 40, 41, 42, 43, 44, 45, 46, 47, 48, 49, 50, 51, 52, 78, 79, 80, 81, 82, 83, 84, 85, 89, 90, 91, 92, 93, 94, 95, 96, 97, 98, 99, 100, 101, 102, 103, 104, 105] (by decide +kernel) (by decide +kernel)
set_option maxRecDepth 20000 in
theorem gX6_restore_X0_take : GoodIn wsX6_restore (wsV RX6 183 RX0 yX0_take wsX0_take) := goodIn_app (goodIn_of _ (by decide +kernel)) ggX6_restore_X0_take
set_option maxRecDepth 20000 in
theorem ggX6_restore_X6_recorded : GoodIn wsX6_restore wsX6_recorded := goodIn_r _ [58, 2, 59, 60, 57, 61, 62, 63, 64, 9, 65, 11, 12, 66, 67, 68, 69, 70, 71, 72, 73, 74, 75, 76, 77, 86, 87, 88] (by decide +kernel) (by decide +kernel)
set_option maxRecDepth 20000 in
theorem gX6_restore_X6_recorded : GoodIn wsX6_restore (wsV RX6 60 RX6 yX6_recorded wsX6_recorded) := goodIn_app (goodIn_of _ (by decide +kernel)) ggX6_restore_X6_recorded
theorem dX6_restore_0 : decode cX6_restore 0 = .ok (.iload_n 1, 1) := by decide +kernel
theorem dX6_restore_1 : decode cX6_restore 1 = .ok (.ifCond .lt 8, 3) := by decide +kernel
theorem dX6_restore_4 : decode cX6_restore 4 = .ok (.iload_n 1, 1) := by decide +kernel
