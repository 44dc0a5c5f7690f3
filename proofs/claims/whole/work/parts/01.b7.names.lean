set_option maxRecDepth 20000 in
theorem ggX7_does_X7_passes : GoodIn wsX7_does wsX7_passes := goodIn_r _ [54, 10, 55, 15, 16, 8, 17, 56, 57, 58, 59, 60, 61, 62, 63, 28, 29, 30, 31, 21, 22, 23, 24, 25, 26, 27, 32, 33, 34, 35, 36, 37, 38, 39, 40, 41, 42, 64, 65, 66, 67, 68, 69, 70, 71, 72, 73, 74, 75, 76, 77, 78, 79, 80, 81, 82, 83, 84, 85, 99, 100, 101, 102, 103, 104, 105, 106, 107, 108, 109, 110, 111, 112, 113, 114, 115] (by decide +kernel) (by decide +kernel)
set_option maxRecDepth 20000 in
theorem gX7_does_X7_passes : GoodIn wsX7_does (wsV RX7 137 RX7 yX7_passes wsX7_passes) := goodIn_app (goodIn_of _ (by decide +kernel)) ggX7_does_X7_passes
set_option maxRecDepth 20000 in
theorem ggX7_does_X7_addsShaft : GoodIn wsX7_does wsX7_addsShaft := goodIn_r _ [89, 10, 25, 26, 8, 27, 99, 100, 101, 102, 103, 104, 105, 106, 107, 108, 109, 110, 111, 112, 113, 114, 115] (by decide +kernel) (by decide +kernel)
set_option maxRecDepth 20000 in
theorem gX7_does_X7_addsShaft : GoodIn wsX7_does (wsV RX7 116 RX7 yX7_addsShaft wsX7_addsShaft) := goodIn_app (goodIn_of _ (by decide +kernel)) ggX7_does_X7_addsShaft
set_option maxRecDepth 20000 in
theorem ggX7_does_X7_stops : GoodIn wsX7_does wsX7_stops := goodIn_r _ [93, 10, 11, 12, 13, 8, 14, 15, 16, 17, 21, 22, 23, 24, 25, 26, 27, 99, 100, 101, 102, 103, 104, 105, 106, 107, 108, 109, 110, 111, 112, 113, 114, 115] (by decide +kernel) (by decide +kernel)
set_option maxRecDepth 20000 in
theorem gX7_does_X7_stops : GoodIn wsX7_does (wsV RX7 131 RX7 yX7_stops wsX7_stops) := goodIn_app (goodIn_of _ (by decide +kernel)) ggX7_does_X7_stops
set_option maxRecDepth 20000 in
theorem ggX7_does_X7_homes : GoodIn wsX7_does wsX7_homes := goodIn_r _ [97, 10, 98, 11, 12, 13, 8, 14, 15, 16, 17, 21, 22, 23, 24, 25, 26, 27, 99, 100, 101, 102, 103, 104, 105, 106, 107, 108, 109, 110, 111, 112, 113, 114, 115] (by decide +kernel) (by decide +kernel)
set_option maxRecDepth 20000 in
theorem gX7_does_X7_homes : GoodIn wsX7_does (wsV RX7 134 RX7 yX7_homes wsX7_homes) := goodIn_app (goodIn_of _ (by decide +kernel)) ggX7_does_X7_homes
theorem dX7_does_0 : decode cX7_does 0 = .ok (.aload_n 0, 1) := by decide +kernel
theorem dX7_does_1 : decode cX7_does 1 = .ok (.getfield 175, 3) := by decide +kernel
theorem dX7_does_4 : decode cX7_does 4 = .ok (.tableswitch 122 108 116 #[82, 52, 104, 122, 65, 122, 122, 113, 95], 52) := by decide +kernel
theorem dX7_does_56 : decode cX7_does 56 = .ok (.aload_n 0, 1) := by decide +kernel
theorem dX7_does_57 : decode cX7_does 57 = .ok (.aload_n 0, 1) := by decide +kernel
theorem dX7_does_58 : decode cX7_does 58 = .ok (.getfield 178, 3) := by decide +kernel
theorem dX7_does_61 : decode cX7_does 61 = .ok (.aload_n 0, 1) := by decide +kernel
theorem dX7_does_62 : decode cX7_does 62 = .ok (.getfield 187, 3) := by decide +kernel
theorem dX7_does_65 : decode cX7_does 65 = .ok (.invokevirtual 125, 3) := by decide +kernel
theorem dX7_does_68 : decode cX7_does 68 = .ok (.ireturn, 1) := by decide +kernel
theorem dX7_does_69 : decode cX7_does 69 = .ok (.aload_n 0, 1) := by decide +kernel
theorem dX7_does_70 : decode cX7_does 70 = .ok (.aload_n 0, 1) := by decide +kernel
theorem dX7_does_71 : decode cX7_does 71 = .ok (.getfield 178, 3) := by decide +kernel
theorem dX7_does_74 : decode cX7_does 74 = .ok (.aload_n 0, 1) := by decide +kernel
theorem dX7_does_75 : decode cX7_does 75 = .ok (.getfield 187, 3) := by decide +kernel
theorem dX7_does_78 : decode cX7_does 78 = .ok (.aload_n 0, 1) := by decide +kernel
theorem dX7_does_79 : decode cX7_does 79 = .ok (.getfield 190, 3) := by decide +kernel
theorem dX7_does_82 : decode cX7_does 82 = .ok (.invokevirtual 128, 3) := by decide +kernel
theorem dX7_does_85 : decode cX7_does 85 = .ok (.ireturn, 1) := by decide +kernel
theorem dX7_does_86 : decode cX7_does 86 = .ok (.aload_n 0, 1) := by decide +kernel
theorem dX7_does_87 : decode cX7_does 87 = .ok (.aload_n 0, 1) := by decide +kernel
theorem dX7_does_88 : decode cX7_does 88 = .ok (.getfield 178, 3) := by decide +kernel
theorem dX7_does_91 : decode cX7_does 91 = .ok (.aload_n 0, 1) := by decide +kernel
theorem dX7_does_92 : decode cX7_does 92 = .ok (.getfield 187, 3) := by decide +kernel
theorem dX7_does_95 : decode cX7_does 95 = .ok (.invokevirtual 122, 3) := by decide +kernel
theorem dX7_does_98 : decode cX7_does 98 = .ok (.ireturn, 1) := by decide +kernel
theorem dX7_does_99 : decode cX7_does 99 = .ok (.aload_n 0, 1) := by decide +kernel
theorem dX7_does_100 : decode cX7_does 100 = .ok (.aload_n 0, 1) := by decide +kernel
theorem dX7_does_101 : decode cX7_does 101 = .ok (.getfield 178, 3) := by decide +kernel
theorem dX7_does_104 : decode cX7_does 104 = .ok (.invokevirtual 137, 3) := by decide +kernel
theorem dX7_does_107 : decode cX7_does 107 = .ok (.ireturn, 1) := by decide +kernel
theorem dX7_does_108 : decode cX7_does 108 = .ok (.aload_n 0, 1) := by decide +kernel
theorem dX7_does_109 : decode cX7_does 109 = .ok (.aload_n 0, 1) := by decide +kernel
theorem dX7_does_110 : decode cX7_does 110 = .ok (.getfield 178, 3) := by decide +kernel
theorem dX7_does_113 : decode cX7_does 113 = .ok (.invokevirtual 116, 3) := by decide +kernel
theorem dX7_does_116 : decode cX7_does 116 = .ok (.ireturn, 1) := by decide +kernel
theorem dX7_does_117 : decode cX7_does 117 = .ok (.aload_n 0, 1) := by decide +kernel
theorem dX7_does_118 : decode cX7_does 118 = .ok (.aload_n 0, 1) := by decide +kernel
theorem dX7_does_119 : decode cX7_does 119 = .ok (.getfield 178, 3) := by decide +kernel
theorem dX7_does_122 : decode cX7_does 122 = .ok (.invokevirtual 131, 3) := by decide +kernel
theorem dX7_does_125 : decode cX7_does 125 = .ok (.ireturn, 1) := by decide +kernel
theorem dX7_does_126 : decode cX7_does 126 = .ok (.aload_n 0, 1) := by decide +kernel
theorem dX7_does_127 : decode cX7_does 127 = .ok (.aload_n 0, 1) := by decide +kernel
theorem dX7_does_128 : decode cX7_does 128 = .ok (.getfield 178, 3) := by decide +kernel
theorem dX7_does_131 : decode cX7_does 131 = .ok (.invokevirtual 134, 3) := by decide +kernel
theorem dX7_does_134 : decode cX7_does 134 = .ok (.ireturn, 1) := by decide +kernel
set_option maxRecDepth 20000 in
theorem ggX7_isFaulty_X7_order : GoodIn wsX7_isFaulty wsX7_order := goodIn_r _ [8, 9, 1, 10, 11, 12, 2, 13, 14, 15, 7, 16, 3, 17, 18, 19, 20, 21, 22, 23, 24, 25, 26, 27, 28, 29, 30, 31, 32, 33, 34, 35, 36, 37, 38, 39, 40, 41, 42, 43, 44, 45, 46, 47, 48, 49, 50, 51, 52, 53] (by decide +kernel) (by decide +kernel)
set_option maxRecDepth 20000 in
theorem gX7_isFaulty_X7_order : GoodIn wsX7_isFaulty (wsV RX7 193 RX7 yX7_order wsX7_order) := goodIn_app (goodIn_of _ (by decide +kernel)) ggX7_isFaulty_X7_order
set_option maxRecDepth 20000 in
theorem ggX7_isFaulty_X7_sign : GoodIn wsX7_isFaulty wsX7_sign := goodIn_r _ [28, 2, 1, 13, 14, 15, 7, 16, 3, 17, 37, 38, 39, 40, 41, 42, 43, 44, 45, 46, 47, 48, 49, 50, 51, 52, 53] (by decide +kernel) (by decide +kernel)
set_option maxRecDepth 20000 in
theorem gX7_isFaulty_X7_sign : GoodIn wsX7_isFaulty (wsV RX7 181 RX7 yX7_sign wsX7_sign) := goodIn_app (goodIn_of _ (by decide +kernel)) ggX7_isFaulty_X7_sign
theorem dX7_isFaulty_0 : decode cX7_isFaulty 0 = .ok (.aload_n 0, 1) := by decide +kernel
theorem dX7_isFaulty_1 : decode cX7_isFaulty 1 = .ok (.iconst 0, 1) := by decide +kernel
theorem dX7_isFaulty_2 : decode cX7_isFaulty 2 = .ok (.putfield 160, 3) := by decide +kernel
theorem dX7_isFaulty_5 : decode cX7_isFaulty 5 = .ok (.aload_n 0, 1) := by decide +kernel
theorem dX7_isFaulty_6 : decode cX7_isFaulty 6 = .ok (.iconst 0, 1) := by decide +kernel
theorem dX7_isFaulty_7 : decode cX7_isFaulty 7 = .ok (.putfield 163, 3) := by decide +kernel
theorem dX7_isFaulty_10 : decode cX7_isFaulty 10 = .ok (.iconst 1, 1) := by decide +kernel
theorem dX7_isFaulty_11 : decode cX7_isFaulty 11 = .ok (.istore_n 1, 1) := by decide +kernel
theorem dX7_isFaulty_12 : decode cX7_isFaulty 12 = .ok (.iload_n 1, 1) := by decide +kernel
theorem dX7_isFaulty_13 : decode cX7_isFaulty 13 = .ok (.ifCond .eq 57, 3) := by decide +kernel
theorem dX7_isFaulty_16 : decode cX7_isFaulty 16 = .ok (.aload_n 0, 1) := by decide +kernel
theorem dX7_isFaulty_17 : decode cX7_isFaulty 17 = .ok (.invokevirtual 193, 3) := by decide +kernel
theorem dX7_isFaulty_20 : decode cX7_isFaulty 20 = .ok (.aload_n 0, 1) := by decide +kernel
theorem dX7_isFaulty_21 : decode cX7_isFaulty 21 = .ok (.getfield 163, 3) := by decide +kernel
theorem dX7_isFaulty_24 : decode cX7_isFaulty 24 = .ok (.ifCond .ne 18, 3) := by decide +kernel
theorem dX7_isFaulty_27 : decode cX7_isFaulty 27 = .ok (.aload_n 0, 1) := by decide +kernel
theorem dX7_isFaulty_28 : decode cX7_isFaulty 28 = .ok (.getfield 160, 3) := by decide +kernel
theorem dX7_isFaulty_31 : decode cX7_isFaulty 31 = .ok (.aload_n 0, 1) := by decide +kernel
theorem dX7_isFaulty_32 : decode cX7_isFaulty 32 = .ok (.getfield 149, 3) := by decide +kernel
theorem dX7_isFaulty_35 : decode cX7_isFaulty 35 = .ok (.if_icmp .ge 7, 3) := by decide +kernel
theorem dX7_isFaulty_38 : decode cX7_isFaulty 38 = .ok (.iconst 1, 1) := by decide +kernel
theorem dX7_isFaulty_39 : decode cX7_isFaulty 39 = .ok (.goto 4, 3) := by decide +kernel
theorem dX7_isFaulty_42 : decode cX7_isFaulty 42 = .ok (.iconst 0, 1) := by decide +kernel
theorem dX7_isFaulty_43 : decode cX7_isFaulty 43 = .ok (.istore_n 1, 1) := by decide +kernel
theorem dX7_isFaulty_44 : decode cX7_isFaulty 44 = .ok (.iload_n 1, 1) := by decide +kernel
theorem dX7_isFaulty_45 : decode cX7_isFaulty 45 = .ok (.ifCond .eq (-33), 3) := by decide +kernel
theorem dX7_isFaulty_48 : decode cX7_isFaulty 48 = .ok (.aload_n 0, 1) := by decide +kernel
theorem dX7_isFaulty_49 : decode cX7_isFaulty 49 = .ok (.bipush 59, 2) := by decide +kernel
theorem dX7_isFaulty_51 : decode cX7_isFaulty 51 = .ok (.invokevirtual 181, 3) := by decide +kernel
theorem dX7_isFaulty_54 : decode cX7_isFaulty 54 = .ok (.aload_n 0, 1) := by decide +kernel
theorem dX7_isFaulty_55 : decode cX7_isFaulty 55 = .ok (.getfield 163, 3) := by decide +kernel
theorem dX7_isFaulty_58 : decode cX7_isFaulty 58 = .ok (.ifCond .ne 7, 3) := by decide +kernel
theorem dX7_isFaulty_61 : decode cX7_isFaulty 61 = .ok (.iconst 1, 1) := by decide +kernel
theorem dX7_isFaulty_62 : decode cX7_isFaulty 62 = .ok (.goto 4, 3) := by decide +kernel
theorem dX7_isFaulty_65 : decode cX7_isFaulty 65 = .ok (.iconst 0, 1) := by decide +kernel
theorem dX7_isFaulty_66 : decode cX7_isFaulty 66 = .ok (.istore_n 1, 1) := by decide +kernel
theorem dX7_isFaulty_67 : decode cX7_isFaulty 67 = .ok (.goto (-55), 3) := by decide +kernel
theorem dX7_isFaulty_70 : decode cX7_isFaulty 70 = .ok (.aload_n 0, 1) := by decide +kernel
theorem dX7_isFaulty_71 : decode cX7_isFaulty 71 = .ok (.getfield 163, 3) := by decide +kernel
theorem dX7_isFaulty_74 : decode cX7_isFaulty 74 = .ok (.ireturn, 1) := by decide +kernel
set_option maxRecDepth 20000 in
theorem ggX7_fault_X7_isFaulty : GoodIn wsX7_fault wsX7_isFaulty := goodIn_r _ [6, 1, 7, 8, 9, 10, 11, 5, 12, 13, 14, 15, 16, 17, 18, 19, 20, 21, 22, 23, 24, 25, 26, 27, 28, 29, 30, 31, 32, 33, 34, 35, 36, 37, 38, 39, 40, 41, 42, 43, 44, 45, 46, 47, 48, 49, 50, 51, 52, 53, 54, 55, 56, 57] (by decide +kernel) (by decide +kernel)
set_option maxRecDepth 20000 in
theorem gX7_fault_X7_isFaulty : GoodIn wsX7_fault (wsV RX7 196 RX7 yX7_isFaulty wsX7_isFaulty) := goodIn_app (goodIn_of _ (by decide +kernel)) ggX7_fault_X7_isFaulty
theorem dX7_fault_0 : decode cX7_fault 0 = .ok (.aload_n 0, 1) := by decide +kernel
theorem dX7_fault_1 : decode cX7_fault 1 = .ok (.invokevirtual 196, 3) := by decide +kernel
theorem dX7_fault_4 : decode cX7_fault 4 = .ok (.ifCond .eq 10, 3) := by decide +kernel
theorem dX7_fault_7 : decode cX7_fault 7 = .ok (.aload_n 0, 1) := by decide +kernel
theorem dX7_fault_8 : decode cX7_fault 8 = .ok (.getfield 160, 3) := by decide +kernel
theorem dX7_fault_11 : decode cX7_fault 11 = .ok (.goto 5, 3) := by decide +kernel
theorem dX7_fault_14 : decode cX7_fault 14 = .ok (.bipush (-6), 2) := by decide +kernel
theorem dX7_fault_16 : decode cX7_fault 16 = .ok (.ireturn, 1) := by decide +kernel
set_option maxRecDepth 20000 in
theorem ggX7_carryOut_X7_isFaulty : GoodIn wsX7_carryOut wsX7_isFaulty := goodIn_r _ [7, 1, 8, 2, 9, 10, 11, 6, 12, 13, 14, 15, 16, 17, 18, 19, 20, 21, 22, 23, 24, 25, 26, 27, 28, 29, 30, 31, 32, 33, 34, 35, 36, 37, 38, 39, 40, 141, 142, 143, 144, 145, 146, 147, 148, 149, 150, 151, 152, 153, 154, 155, 156, 157] (by decide +kernel) (by decide +kernel)
set_option maxRecDepth 20000 in
theorem gX7_carryOut_X7_isFaulty : GoodIn wsX7_carryOut (wsV RX7 196 RX7 yX7_isFaulty wsX7_isFaulty) := goodIn_app (goodIn_of _ (by decide +kernel)) ggX7_carryOut_X7_isFaulty
set_option maxRecDepth 20000 in
theorem ggX7_carryOut_X7_records : GoodIn wsX7_carryOut wsX7_records := goodIn_r _ [44, 45, 46, 47, 141, 142, 143, 144, 145, 146, 147, 148, 149, 150, 151, 152, 153, 154, 155, 156, 157] (by decide +kernel) (by decide +kernel)
set_option maxRecDepth 20000 in
theorem gX7_carryOut_X7_records : GoodIn wsX7_carryOut (wsV RX7 101 RX7 yX7_records wsX7_records) := goodIn_app (goodIn_of _ (by decide +kernel)) ggX7_carryOut_X7_records
set_option maxRecDepth 20000 in
theorem ggX7_carryOut_X7_order : GoodIn wsX7_carryOut wsX7_order := goodIn_r _ [12, 13, 1, 14, 15, 16, 8, 17, 18, 19, 6, 20, 2, 21, 22, 23, 24, 25, 26, 27, 28, 29, 30, 31, 32, 33, 34, 35, 36, 37, 38, 39, 40, 141, 142, 143, 144, 145, 146, 147, 148, 149, 150, 151, 152, 153, 154, 155, 156, 157] (by decide +kernel) (by decide +kernel)
set_option maxRecDepth 20000 in
theorem gX7_carryOut_X7_order : GoodIn wsX7_carryOut (wsV RX7 193 RX7 yX7_order wsX7_order) := goodIn_app (goodIn_of _ (by decide +kernel)) ggX7_carryOut_X7_order
set_option maxRecDepth 20000 in
theorem ggX7_carryOut_X7_does : GoodIn wsX7_carryOut wsX7_does := goodIn_r _ [51, 13, 14, 15, 16, 52, 53, 54, 6, 55, 47, 56, 57, 58, 59, 26, 27, 28, 60, 61, 62, 63, 64, 65, 66, 67, 68, 69, 70, 71, 72, 73, 74, 75, 76, 77, 78, 79, 80, 81, 82, 83, 84, 85, 86, 87, 88, 89, 90, 91, 92, 93, 94, 95, 96, 97, 98, 99, 100, 101, 102, 103, 104, 105, 106, 107, 108, 109, 110, 111, 112, 113, 114, 115, 116, 117, 118, 119, 120, 121, 122, 123, 124, 125, 126, 127, 128, 129, 130, 131, 132, 133, 134, 135, 136, 137, 138, 139, 140, 141, 142, 143, 144, 145, 146, 147, 148, 149, 150, 151, 152, 153, 154, 155, 156, 157] (by decide +kernel) (by decide +kernel)
set_option maxRecDepth 20000 in
theorem gX7_carryOut_X7_does : GoodIn wsX7_carryOut (wsV RX7 200 RX7 yX7_does wsX7_does) := goodIn_app (goodIn_of _ (by decide +kernel)) ggX7_carryOut_X7_does
theorem dX7_carryOut_0 : decode cX7_carryOut 0 = .ok (.aload_n 0, 1) := by decide +kernel
theorem dX7_carryOut_1 : decode cX7_carryOut 1 = .ok (.invokevirtual 196, 3) := by decide +kernel
theorem dX7_carryOut_4 : decode cX7_carryOut 4 = .ok (.ifCond .eq 6, 3) := by decide +kernel
theorem dX7_carryOut_7 : decode cX7_carryOut 7 = .ok (.bipush (-3), 2) := by decide +kernel
theorem dX7_carryOut_9 : decode cX7_carryOut 9 = .ok (.ireturn, 1) := by decide +kernel
theorem dX7_carryOut_10 : decode cX7_carryOut 10 = .ok (.aload_n 0, 1) := by decide +kernel
theorem dX7_carryOut_11 : decode cX7_carryOut 11 = .ok (.invokevirtual 101, 3) := by decide +kernel
theorem dX7_carryOut_14 : decode cX7_carryOut 14 = .ok (.iconst 0, 1) := by decide +kernel
theorem dX7_carryOut_15 : decode cX7_carryOut 15 = .ok (.istore_n 1, 1) := by decide +kernel
theorem dX7_carryOut_16 : decode cX7_carryOut 16 = .ok (.iconst 1, 1) := by decide +kernel
theorem dX7_carryOut_17 : decode cX7_carryOut 17 = .ok (.istore_n 2, 1) := by decide +kernel
theorem dX7_carryOut_18 : decode cX7_carryOut 18 = .ok (.aload_n 0, 1) := by decide +kernel
theorem dX7_carryOut_19 : decode cX7_carryOut 19 = .ok (.iconst 0, 1) := by decide +kernel
theorem dX7_carryOut_20 : decode cX7_carryOut 20 = .ok (.putfield 160, 3) := by decide +kernel
theorem dX7_carryOut_23 : decode cX7_carryOut 23 = .ok (.iload_n 2, 1) := by decide +kernel
theorem dX7_carryOut_24 : decode cX7_carryOut 24 = .ok (.ifCond .eq 56, 3) := by decide +kernel
theorem dX7_carryOut_27 : decode cX7_carryOut 27 = .ok (.aload_n 0, 1) := by decide +kernel
theorem dX7_carryOut_28 : decode cX7_carryOut 28 = .ok (.getfield 160, 3) := by decide +kernel
theorem dX7_carryOut_31 : decode cX7_carryOut 31 = .ok (.aload_n 0, 1) := by decide +kernel
theorem dX7_carryOut_32 : decode cX7_carryOut 32 = .ok (.getfield 149, 3) := by decide +kernel
theorem dX7_carryOut_35 : decode cX7_carryOut 35 = .ok (.if_icmp .ge 45, 3) := by decide +kernel
theorem dX7_carryOut_38 : decode cX7_carryOut 38 = .ok (.aload_n 0, 1) := by decide +kernel
theorem dX7_carryOut_39 : decode cX7_carryOut 39 = .ok (.invokevirtual 193, 3) := by decide +kernel
theorem dX7_carryOut_42 : decode cX7_carryOut 42 = .ok (.aload_n 0, 1) := by decide +kernel
theorem dX7_carryOut_43 : decode cX7_carryOut 43 = .ok (.dup, 1) := by decide +kernel
theorem dX7_carryOut_44 : decode cX7_carryOut 44 = .ok (.getfield 160, 3) := by decide +kernel
theorem dX7_carryOut_47 : decode cX7_carryOut 47 = .ok (.iconst 1, 1) := by decide +kernel
theorem dX7_carryOut_48 : decode cX7_carryOut 48 = .ok (.iadd, 1) := by decide +kernel
theorem dX7_carryOut_49 : decode cX7_carryOut 49 = .ok (.putfield 160, 3) := by decide +kernel
theorem dX7_carryOut_52 : decode cX7_carryOut 52 = .ok (.aload_n 0, 1) := by decide +kernel
theorem dX7_carryOut_53 : decode cX7_carryOut 53 = .ok (.invokevirtual 200, 3) := by decide +kernel
theorem dX7_carryOut_56 : decode cX7_carryOut 56 = .ok (.ifCond .lt 7, 3) := by decide +kernel
theorem dX7_carryOut_59 : decode cX7_carryOut 59 = .ok (.iconst 1, 1) := by decide +kernel
theorem dX7_carryOut_60 : decode cX7_carryOut 60 = .ok (.goto 4, 3) := by decide +kernel
theorem dX7_carryOut_63 : decode cX7_carryOut 63 = .ok (.iconst 0, 1) := by decide +kernel
theorem dX7_carryOut_64 : decode cX7_carryOut 64 = .ok (.istore_n 2, 1) := by decide +kernel
theorem dX7_carryOut_65 : decode cX7_carryOut 65 = .ok (.iload_n 1, 1) := by decide +kernel
theorem dX7_carryOut_66 : decode cX7_carryOut 66 = .ok (.iload_n 2, 1) := by decide +kernel
theorem dX7_carryOut_67 : decode cX7_carryOut 67 = .ok (.ifCond .eq 7, 3) := by decide +kernel
theorem dX7_carryOut_70 : decode cX7_carryOut 70 = .ok (.iconst 1, 1) := by decide +kernel
theorem dX7_carryOut_71 : decode cX7_carryOut 71 = .ok (.goto 4, 3) := by decide +kernel
theorem dX7_carryOut_74 : decode cX7_carryOut 74 = .ok (.iconst 0, 1) := by decide +kernel
theorem dX7_carryOut_75 : decode cX7_carryOut 75 = .ok (.iadd, 1) := by decide +kernel
theorem dX7_carryOut_76 : decode cX7_carryOut 76 = .ok (.istore_n 1, 1) := by decide +kernel
theorem dX7_carryOut_77 : decode cX7_carryOut 77 = .ok (.goto (-54), 3) := by decide +kernel
theorem dX7_carryOut_80 : decode cX7_carryOut 80 = .ok (.aload_n 0, 1) := by decide +kernel
theorem dX7_carryOut_81 : decode cX7_carryOut 81 = .ok (.iconst 0, 1) := by decide +kernel
theorem dX7_carryOut_82 : decode cX7_carryOut 82 = .ok (.putfield 149, 3) := by decide +kernel
theorem dX7_carryOut_85 : decode cX7_carryOut 85 = .ok (.iload_n 1, 1) := by decide +kernel
theorem dX7_carryOut_86 : decode cX7_carryOut 86 = .ok (.ireturn, 1) := by decide +kernel
theorem dX7_undo_0 : decode cX7_undo 0 = .ok (.aload_n 0, 1) := by decide +kernel
theorem dX7_undo_1 : decode cX7_undo 1 = .ok (.getfield 41, 3) := by decide +kernel
theorem dX7_undo_4 : decode cX7_undo 4 = .ok (.ifCond .ne 6, 3) := by decide +kernel
theorem dX7_undo_7 : decode cX7_undo 7 = .ok (.bipush (-5), 2) := by decide +kernel
theorem dX7_undo_9 : decode cX7_undo 9 = .ok (.ireturn, 1) := by decide +kernel
theorem dX7_undo_10 : decode cX7_undo 10 = .ok (.aload_n 0, 1) := by decide +kernel
theorem dX7_undo_11 : decode cX7_undo 11 = .ok (.dup, 1) := by decide +kernel
theorem dX7_undo_12 : decode cX7_undo 12 = .ok (.getfield 41, 3) := by decide +kernel
theorem dX7_undo_15 : decode cX7_undo 15 = .ok (.iconst 1, 1) := by decide +kernel
theorem dX7_undo_16 : decode cX7_undo 16 = .ok (.isub, 1) := by decide +kernel
theorem dX7_undo_17 : decode cX7_undo 17 = .ok (.putfield 41, 3) := by decide +kernel
theorem dX7_undo_20 : decode cX7_undo 20 = .ok (.iconst 0, 1) := by decide +kernel
theorem dX7_undo_21 : decode cX7_undo 21 = .ok (.istore_n 1, 1) := by decide +kernel
theorem dX7_undo_22 : decode cX7_undo 22 = .ok (.iload_n 1, 1) := by decide +kernel
theorem dX7_undo_23 : decode cX7_undo 23 = .ok (.bipush 100, 2) := by decide +kernel
theorem dX7_undo_25 : decode cX7_undo 25 = .ok (.if_icmp .ge 29, 3) := by decide +kernel
theorem dX7_undo_28 : decode cX7_undo 28 = .ok (.aload_n 0, 1) := by decide +kernel
theorem dX7_undo_29 : decode cX7_undo 29 = .ok (.getfield 7, 3) := by decide +kernel
theorem dX7_undo_32 : decode cX7_undo 32 = .ok (.iload_n 1, 1) := by decide +kernel
theorem dX7_undo_33 : decode cX7_undo 33 = .ok (.aload_n 0, 1) := by decide +kernel
theorem dX7_undo_34 : decode cX7_undo 34 = .ok (.getfield 16, 3) := by decide +kernel
theorem dX7_undo_37 : decode cX7_undo 37 = .ok (.bipush 100, 2) := by decide +kernel
theorem dX7_undo_39 : decode cX7_undo 39 = .ok (.aload_n 0, 1) := by decide +kernel
theorem dX7_undo_40 : decode cX7_undo 40 = .ok (.getfield 41, 3) := by decide +kernel
theorem dX7_undo_43 : decode cX7_undo 43 = .ok (.imul, 1) := by decide +kernel
theorem dX7_undo_44 : decode cX7_undo 44 = .ok (.iload_n 1, 1) := by decide +kernel
theorem dX7_undo_45 : decode cX7_undo 45 = .ok (.iadd, 1) := by decide +kernel
theorem dX7_undo_46 : decode cX7_undo 46 = .ok (.iaload, 1) := by decide +kernel
theorem dX7_undo_47 : decode cX7_undo 47 = .ok (.iastore, 1) := by decide +kernel
theorem dX7_undo_48 : decode cX7_undo 48 = .ok (.iinc 1 1, 3) := by decide +kernel
theorem dX7_undo_51 : decode cX7_undo 51 = .ok (.goto (-29), 3) := by decide +kernel
theorem dX7_undo_54 : decode cX7_undo 54 = .ok (.aload_n 0, 1) := by decide +kernel
theorem dX7_undo_55 : decode cX7_undo 55 = .ok (.getfield 41, 3) := by decide +kernel
theorem dX7_undo_58 : decode cX7_undo 58 = .ok (.ireturn, 1) := by decide +kernel
set_option maxRecDepth 20000 in
theorem ggX7_save_X7_in : GoodIn wsX7_save wsX7_in := goodIn_r _ [7] (by decide +kernel) (by decide +kernel)
set_option maxRecDepth 20000 in
theorem gX7_save_X7_in : GoodIn wsX7_save (va_wsS RX7 33 yX7_in wsX7_in) := goodIn_app (goodIn_of _ (by decide +kernel)) ggX7_save_X7_in
theorem dX7_save_0 : decode cX7_save 0 = .ok (.iload_n 1, 1) := by decide +kernel
theorem dX7_save_1 : decode cX7_save 1 = .ok (.iconst 0, 1) := by decide +kernel
theorem dX7_save_2 : decode cX7_save 2 = .ok (.iconst 1, 1) := by decide +kernel
theorem dX7_save_3 : decode cX7_save 3 = .ok (.invokestatic 33, 3) := by decide +kernel
theorem dX7_save_6 : decode cX7_save 6 = .ok (.ifCond .ne 6, 3) := by decide +kernel
theorem dX7_save_9 : decode cX7_save 9 = .ok (.bipush (-2), 2) := by decide +kernel
theorem dX7_save_11 : decode cX7_save 11 = .ok (.ireturn, 1) := by decide +kernel
theorem dX7_save_12 : decode cX7_save 12 = .ok (.iconst 0, 1) := by decide +kernel
theorem dX7_save_13 : decode cX7_save 13 = .ok (.istore_n 2, 1) := by decide +kernel
theorem dX7_save_14 : decode cX7_save 14 = .ok (.iload_n 2, 1) := by decide +kernel
theorem dX7_save_15 : decode cX7_save 15 = .ok (.bipush 100, 2) := by decide +kernel
theorem dX7_save_17 : decode cX7_save 17 = .ok (.if_icmp .ge 26, 3) := by decide +kernel
theorem dX7_save_20 : decode cX7_save 20 = .ok (.aload_n 0, 1) := by decide +kernel
theorem dX7_save_21 : decode cX7_save 21 = .ok (.getfield 19, 3) := by decide +kernel
theorem dX7_save_24 : decode cX7_save 24 = .ok (.bipush 100, 2) := by decide +kernel
theorem dX7_save_26 : decode cX7_save 26 = .ok (.iload_n 1, 1) := by decide +kernel
theorem dX7_save_27 : decode cX7_save 27 = .ok (.imul, 1) := by decide +kernel
theorem dX7_save_28 : decode cX7_save 28 = .ok (.iload_n 2, 1) := by decide +kernel
theorem dX7_save_29 : decode cX7_save 29 = .ok (.iadd, 1) := by decide +kernel
theorem dX7_save_30 : decode cX7_save 30 = .ok (.aload_n 0, 1) := by decide +kernel
theorem dX7_save_31 : decode cX7_save 31 = .ok (.getfield 7, 3) := by decide +kernel
theorem dX7_save_34 : decode cX7_save 34 = .ok (.iload_n 2, 1) := by decide +kernel
theorem dX7_save_35 : decode cX7_save 35 = .ok (.iaload, 1) := by decide +kernel
theorem dX7_save_36 : decode cX7_save 36 = .ok (.iastore, 1) := by decide +kernel
theorem dX7_save_37 : decode cX7_save 37 = .ok (.iinc 2 1, 3) := by decide +kernel
theorem dX7_save_40 : decode cX7_save 40 = .ok (.goto (-26), 3) := by decide +kernel
theorem dX7_save_43 : decode cX7_save 43 = .ok (.aload_n 0, 1) := by decide +kernel
theorem dX7_save_44 : decode cX7_save 44 = .ok (.getfield 22, 3) := by decide +kernel
theorem dX7_save_47 : decode cX7_save 47 = .ok (.iload_n 1, 1) := by decide +kernel
theorem dX7_save_48 : decode cX7_save 48 = .ok (.iconst 1, 1) := by decide +kernel
theorem dX7_save_49 : decode cX7_save 49 = .ok (.bastore, 1) := by decide +kernel
theorem dX7_save_50 : decode cX7_save 50 = .ok (.aload_n 0, 1) := by decide +kernel
theorem dX7_save_51 : decode cX7_save 51 = .ok (.getfield 7, 3) := by decide +kernel
theorem dX7_save_54 : decode cX7_save 54 = .ok (.bipush 6, 2) := by decide +kernel
theorem dX7_save_56 : decode cX7_save 56 = .ok (.iaload, 1) := by decide +kernel
theorem dX7_save_57 : decode cX7_save 57 = .ok (.ireturn, 1) := by decide +kernel
set_option maxRecDepth 20000 in
theorem ggX7_restore_X7_in : GoodIn wsX7_restore wsX7_in := goodIn_r _ [7] (by decide +kernel) (by decide +kernel)
set_option maxRecDepth 20000 in
theorem gX7_restore_X7_in : GoodIn wsX7_restore (va_wsS RX7 33 yX7_in wsX7_in) := goodIn_app (goodIn_of _ (by decide +kernel)) ggX7_restore_X7_in
set_option maxRecDepth 20000 in
theorem ggX7_restore_X7_records : GoodIn wsX7_restore wsX7_records := goodIn_r _ [11, 12, 13, 2, 14, 15, 16, 17, 18, 19, 20, 21, 22, 23, 24, 25, 26, 27, 28, 29, 30] (by decide +kernel) (by decide +kernel)
set_option maxRecDepth 20000 in
theorem gX7_restore_X7_records : GoodIn wsX7_restore (wsV RX7 101 RX7 yX7_records wsX7_records) := goodIn_app (goodIn_of _ (by decide +kernel)) ggX7_restore_X7_records
theorem dX7_restore_0 : decode cX7_restore 0 = .ok (.iload_n 1, 1) := by decide +kernel
theorem dX7_restore_1 : decode cX7_restore 1 = .ok (.iconst 0, 1) := by decide +kernel
theorem dX7_restore_2 : decode cX7_restore 2 = .ok (.iconst 1, 1) := by decide +kernel
theorem dX7_restore_3 : decode cX7_restore 3 = .ok (.invokestatic 33, 3) := by decide +kernel
theorem dX7_restore_6 : decode cX7_restore 6 = .ok (.ifCond .ne 6, 3) := by decide +kernel
theorem dX7_restore_9 : decode cX7_restore 9 = .ok (.bipush (-2), 2) := by decide +kernel
theorem dX7_restore_11 : decode cX7_restore 11 = .ok (.ireturn, 1) := by decide +kernel
theorem dX7_restore_12 : decode cX7_restore 12 = .ok (.aload_n 0, 1) := by decide +kernel
theorem dX7_restore_13 : decode cX7_restore 13 = .ok (.getfield 22, 3) := by decide +kernel
theorem dX7_restore_16 : decode cX7_restore 16 = .ok (.iload_n 1, 1) := by decide +kernel
theorem dX7_restore_17 : decode cX7_restore 17 = .ok (.baload, 1) := by decide +kernel
theorem dX7_restore_18 : decode cX7_restore 18 = .ok (.ifCond .ne 6, 3) := by decide +kernel
theorem dX7_restore_21 : decode cX7_restore 21 = .ok (.bipush (-5), 2) := by decide +kernel
theorem dX7_restore_23 : decode cX7_restore 23 = .ok (.ireturn, 1) := by decide +kernel
theorem dX7_restore_24 : decode cX7_restore 24 = .ok (.aload_n 0, 1) := by decide +kernel
theorem dX7_restore_25 : decode cX7_restore 25 = .ok (.invokevirtual 101, 3) := by decide +kernel
theorem dX7_restore_28 : decode cX7_restore 28 = .ok (.iconst 0, 1) := by decide +kernel
theorem dX7_restore_29 : decode cX7_restore 29 = .ok (.istore_n 2, 1) := by decide +kernel
theorem dX7_restore_30 : decode cX7_restore 30 = .ok (.iload_n 2, 1) := by decide +kernel
theorem dX7_restore_31 : decode cX7_restore 31 = .ok (.bipush 100, 2) := by decide +kernel
theorem dX7_restore_33 : decode cX7_restore 33 = .ok (.if_icmp .ge 26, 3) := by decide +kernel
theorem dX7_restore_36 : decode cX7_restore 36 = .ok (.aload_n 0, 1) := by decide +kernel
theorem dX7_restore_37 : decode cX7_restore 37 = .ok (.getfield 7, 3) := by decide +kernel
theorem dX7_restore_40 : decode cX7_restore 40 = .ok (.iload_n 2, 1) := by decide +kernel
theorem dX7_restore_41 : decode cX7_restore 41 = .ok (.aload_n 0, 1) := by decide +kernel
theorem dX7_restore_42 : decode cX7_restore 42 = .ok (.getfield 19, 3) := by decide +kernel
theorem dX7_restore_45 : decode cX7_restore 45 = .ok (.bipush 100, 2) := by decide +kernel
theorem dX7_restore_47 : decode cX7_restore 47 = .ok (.iload_n 1, 1) := by decide +kernel
theorem dX7_restore_48 : decode cX7_restore 48 = .ok (.imul, 1) := by decide +kernel
theorem dX7_restore_49 : decode cX7_restore 49 = .ok (.iload_n 2, 1) := by decide +kernel
theorem dX7_restore_50 : decode cX7_restore 50 = .ok (.iadd, 1) := by decide +kernel
theorem dX7_restore_51 : decode cX7_restore 51 = .ok (.iaload, 1) := by decide +kernel
theorem dX7_restore_52 : decode cX7_restore 52 = .ok (.iastore, 1) := by decide +kernel
theorem dX7_restore_53 : decode cX7_restore 53 = .ok (.iinc 2 1, 3) := by decide +kernel
theorem dX7_restore_56 : decode cX7_restore 56 = .ok (.goto (-26), 3) := by decide +kernel
theorem dX7_restore_59 : decode cX7_restore 59 = .ok (.aload_n 0, 1) := by decide +kernel
theorem dX7_restore_60 : decode cX7_restore 60 = .ok (.getfield 7, 3) := by decide +kernel
theorem dX7_restore_63 : decode cX7_restore 63 = .ok (.bipush 6, 2) := by decide +kernel
theorem dX7_restore_65 : decode cX7_restore 65 = .ok (.iaload, 1) := by decide +kernel
theorem dX7_restore_66 : decode cX7_restore 66 = .ok (.ireturn, 1) := by decide +kernel
theorem dJ9_abs_0f7a4_0 : decode cJ9_abs_0f7a4 0 = .ok (.iload_n 0, 1) := by decide +kernel
theorem dJ9_abs_0f7a4_1 : decode cJ9_abs_0f7a4 1 = .ok (.ifCond .ge 8, 3) := by decide +kernel
theorem dJ9_abs_0f7a4_4 : decode cJ9_abs_0f7a4 4 = .ok (.iload_n 0, 1) := by decide +kernel
theorem dJ9_abs_0f7a4_5 : decode cJ9_abs_0f7a4 5 = .ok (.ineg, 1) := by decide +kernel
theorem dJ9_abs_0f7a4_6 : decode cJ9_abs_0f7a4 6 = .ok (.goto 4, 3) := by decide +kernel
theorem dJ9_abs_0f7a4_9 : decode cJ9_abs_0f7a4 9 = .ok (.iload_n 0, 1) := by decide +kernel
theorem dJ9_abs_0f7a4_10 : decode cJ9_abs_0f7a4 10 = .ok (.ireturn, 1) := by decide +kernel
theorem dJ9_max_7cf53_0 : decode cJ9_max_7cf53 0 = .ok (.iload_n 0, 1) := by decide +kernel
theorem dJ9_max_7cf53_1 : decode cJ9_max_7cf53 1 = .ok (.iload_n 1, 1) := by decide +kernel
theorem dJ9_max_7cf53_2 : decode cJ9_max_7cf53 2 = .ok (.if_icmp .lt 7, 3) := by decide +kernel
theorem dJ9_max_7cf53_5 : decode cJ9_max_7cf53 5 = .ok (.iload_n 0, 1) := by decide +kernel
theorem dJ9_max_7cf53_6 : decode cJ9_max_7cf53 6 = .ok (.goto 4, 3) := by decide +kernel
theorem dJ9_max_7cf53_9 : decode cJ9_max_7cf53 9 = .ok (.iload_n 1, 1) := by decide +kernel
theorem dJ9_max_7cf53_10 : decode cJ9_max_7cf53 10 = .ok (.ireturn, 1) := by decide +kernel
theorem dJ9_min_7cf53_0 : decode cJ9_min_7cf53 0 = .ok (.iload_n 0, 1) := by decide +kernel
theorem dJ9_min_7cf53_1 : decode cJ9_min_7cf53 1 = .ok (.iload_n 1, 1) := by decide +kernel
theorem dJ9_min_7cf53_2 : decode cJ9_min_7cf53 2 = .ok (.if_icmp .gt 7, 3) := by decide +kernel
theorem dJ9_min_7cf53_5 : decode cJ9_min_7cf53 5 = .ok (.iload_n 0, 1) := by decide +kernel
theorem dJ9_min_7cf53_6 : decode cJ9_min_7cf53 6 = .ok (.goto 4, 3) := by decide +kernel
theorem dJ9_min_7cf53_9 : decode cJ9_min_7cf53 9 = .ok (.iload_n 1, 1) := by decide +kernel
theorem dJ9_min_7cf53_10 : decode cJ9_min_7cf53 10 = .ok (.ireturn, 1) := by decide +kernel
abbrev vwCl : List vw_C := [(RX0, TX0, 8), (RX1, TX1, 3), (RX2, TX2, 2), (RX3, TX3, 5), (RX4, TX4, 6), (RX5, TX5, 12), (RX6, TX6, 7), (RX7, TX7, 17)]
