set_option maxRecDepth 20000 in
theorem gX7_overAll_X7_at : GoodIn wsX7_overAll (va_wsS RX7 37 yX7_at wsX7_at) := goodIn_app (goodIn_of _ (by decide +kernel)) ggX7_overAll_X7_at
theorem dX7_overAll_0 : decode cX7_overAll 0 = .ok (.iconst 0, 1) := by decide +kernel
theorem dX7_overAll_1 : decode cX7_overAll 1 = .ok (.istore_n 2, 1) := by decide +kernel
theorem dX7_overAll_2 : decode cX7_overAll 2 = .ok (.iconst 0, 1) := by decide +kernel
theorem dX7_overAll_3 : decode cX7_overAll 3 = .ok (.istore_n 3, 1) := by decide +kernel
theorem dX7_overAll_4 : decode cX7_overAll 4 = .ok (.iload_n 3, 1) := by decide +kernel
theorem dX7_overAll_5 : decode cX7_overAll 5 = .ok (.aload_n 0, 1) := by decide +kernel
theorem dX7_overAll_6 : decode cX7_overAll 6 = .ok (.getfield 7, 3) := by decide +kernel
theorem dX7_overAll_9 : decode cX7_overAll 9 = .ok (.bipush 6, 2) := by decide +kernel
theorem dX7_overAll_11 : decode cX7_overAll 11 = .ok (.iaload, 1) := by decide +kernel
theorem dX7_overAll_12 : decode cX7_overAll 12 = .ok (.if_icmp .ge 101, 3) := by decide +kernel
theorem dX7_overAll_15 : decode cX7_overAll 15 = .ok (.iload_n 1, 1) := by decide +kernel
theorem dX7_overAll_16 : decode cX7_overAll 16 = .ok (.iconst 5, 1) := by decide +kernel
theorem dX7_overAll_17 : decode cX7_overAll 17 = .ok (.if_icmp .eq 8, 3) := by decide +kernel
theorem dX7_overAll_20 : decode cX7_overAll 20 = .ok (.iload_n 1, 1) := by decide +kernel
theorem dX7_overAll_21 : decode cX7_overAll 21 = .ok (.iconst 2, 1) := by decide +kernel
theorem dX7_overAll_22 : decode cX7_overAll 22 = .ok (.if_icmp .ne 72, 3) := by decide +kernel
theorem dX7_overAll_25 : decode cX7_overAll 25 = .ok (.iload_n 1, 1) := by decide +kernel
theorem dX7_overAll_26 : decode cX7_overAll 26 = .ok (.iconst 5, 1) := by decide +kernel
theorem dX7_overAll_27 : decode cX7_overAll 27 = .ok (.if_icmp .ne 19, 3) := by decide +kernel
theorem dX7_overAll_30 : decode cX7_overAll 30 = .ok (.aload_n 0, 1) := by decide +kernel
theorem dX7_overAll_31 : decode cX7_overAll 31 = .ok (.iload_n 3, 1) := by decide +kernel
theorem dX7_overAll_32 : decode cX7_overAll 32 = .ok (.invokevirtual 51, 3) := by decide +kernel
theorem dX7_overAll_35 : decode cX7_overAll 35 = .ok (.ifCond .ne 7, 3) := by decide +kernel
theorem dX7_overAll_38 : decode cX7_overAll 38 = .ok (.iconst 1, 1) := by decide +kernel
theorem dX7_overAll_39 : decode cX7_overAll 39 = .ok (.goto 35, 3) := by decide +kernel
theorem dX7_overAll_42 : decode cX7_overAll 42 = .ok (.iconst 0, 1) := by decide +kernel
theorem dX7_overAll_43 : decode cX7_overAll 43 = .ok (.goto 31, 3) := by decide +kernel
theorem dX7_overAll_46 : decode cX7_overAll 46 = .ok (.aload_n 0, 1) := by decide +kernel
theorem dX7_overAll_47 : decode cX7_overAll 47 = .ok (.getfield 7, 3) := by decide +kernel
theorem dX7_overAll_50 : decode cX7_overAll 50 = .ok (.iload_n 3, 1) := by decide +kernel
theorem dX7_overAll_51 : decode cX7_overAll 51 = .ok (.iconst 2, 1) := by decide +kernel
theorem dX7_overAll_52 : decode cX7_overAll 52 = .ok (.invokestatic 37, 3) := by decide +kernel
theorem dX7_overAll_55 : decode cX7_overAll 55 = .ok (.iaload, 1) := by decide +kernel
theorem dX7_overAll_56 : decode cX7_overAll 56 = .ok (.aload_n 0, 1) := by decide +kernel
theorem dX7_overAll_57 : decode cX7_overAll 57 = .ok (.getfield 7, 3) := by decide +kernel
theorem dX7_overAll_60 : decode cX7_overAll 60 = .ok (.iload_n 3, 1) := by decide +kernel
theorem dX7_overAll_61 : decode cX7_overAll 61 = .ok (.iconst 3, 1) := by decide +kernel
theorem dX7_overAll_62 : decode cX7_overAll 62 = .ok (.invokestatic 37, 3) := by decide +kernel
theorem dX7_overAll_65 : decode cX7_overAll 65 = .ok (.iaload, 1) := by decide +kernel
theorem dX7_overAll_66 : decode cX7_overAll 66 = .ok (.if_icmp .eq 7, 3) := by decide +kernel
theorem dX7_overAll_69 : decode cX7_overAll 69 = .ok (.iconst 1, 1) := by decide +kernel
theorem dX7_overAll_70 : decode cX7_overAll 70 = .ok (.goto 4, 3) := by decide +kernel
theorem dX7_overAll_73 : decode cX7_overAll 73 = .ok (.iconst 0, 1) := by decide +kernel
theorem dX7_overAll_74 : decode cX7_overAll 74 = .ok (.istore 4, 2) := by decide +kernel
theorem dX7_overAll_76 : decode cX7_overAll 76 = .ok (.iload_n 2, 1) := by decide +kernel
theorem dX7_overAll_77 : decode cX7_overAll 77 = .ok (.iload 4, 2) := by decide +kernel
theorem dX7_overAll_79 : decode cX7_overAll 79 = .ok (.ifCond .eq 9, 3) := by decide +kernel
theorem dX7_overAll_82 : decode cX7_overAll 82 = .ok (.iconst 1, 1) := by decide +kernel
theorem dX7_overAll_83 : decode cX7_overAll 83 = .ok (.iload_n 3, 1) := by decide +kernel
theorem dX7_overAll_84 : decode cX7_overAll 84 = .ok (.ishl, 1) := by decide +kernel
theorem dX7_overAll_85 : decode cX7_overAll 85 = .ok (.goto 4, 3) := by decide +kernel
theorem dX7_overAll_88 : decode cX7_overAll 88 = .ok (.iconst 0, 1) := by decide +kernel
theorem dX7_overAll_89 : decode cX7_overAll 89 = .ok (.ior, 1) := by decide +kernel
theorem dX7_overAll_90 : decode cX7_overAll 90 = .ok (.istore_n 2, 1) := by decide +kernel
theorem dX7_overAll_91 : decode cX7_overAll 91 = .ok (.goto 16, 3) := by decide +kernel
theorem dX7_overAll_94 : decode cX7_overAll 94 = .ok (.iload_n 2, 1) := by decide +kernel
theorem dX7_overAll_95 : decode cX7_overAll 95 = .ok (.aload_n 0, 1) := by decide +kernel
theorem dX7_overAll_96 : decode cX7_overAll 96 = .ok (.getfield 7, 3) := by decide +kernel
theorem dX7_overAll_99 : decode cX7_overAll 99 = .ok (.iload_n 3, 1) := by decide +kernel
theorem dX7_overAll_100 : decode cX7_overAll 100 = .ok (.iload_n 1, 1) := by decide +kernel
theorem dX7_overAll_101 : decode cX7_overAll 101 = .ok (.invokestatic 37, 3) := by decide +kernel
theorem dX7_overAll_104 : decode cX7_overAll 104 = .ok (.iaload, 1) := by decide +kernel
theorem dX7_overAll_105 : decode cX7_overAll 105 = .ok (.iadd, 1) := by decide +kernel
theorem dX7_overAll_106 : decode cX7_overAll 106 = .ok (.istore_n 2, 1) := by decide +kernel
theorem dX7_overAll_107 : decode cX7_overAll 107 = .ok (.iinc 3 1, 3) := by decide +kernel
theorem dX7_overAll_110 : decode cX7_overAll 110 = .ok (.goto (-106), 3) := by decide +kernel
theorem dX7_overAll_113 : decode cX7_overAll 113 = .ok (.iload_n 2, 1) := by decide +kernel
theorem dX7_overAll_114 : decode cX7_overAll 114 = .ok (.ireturn, 1) := by decide +kernel
set_option maxRecDepth 20000 in
theorem ggX7_count_X7_overAll : GoodIn wsX7_count wsX7_overAll := goodIn_r _ [8, 1, 9, 10, 11, 7, 12, 13, 14, 15, 20, 21, 22, 23, 24, 25, 26, 27, 28, 29, 30, 31, 32, 33, 34, 35, 36] (by decide +kernel) (by decide +kernel)
set_option maxRecDepth 20000 in
theorem gX7_count_X7_overAll : GoodIn wsX7_count (wsV RX7 146 RX7 yX7_overAll wsX7_overAll) := goodIn_app (goodIn_of _ (by decide +kernel)) ggX7_count_X7_overAll
set_option maxRecDepth 20000 in
theorem ggX7_count_X7_highestBy : GoodIn wsX7_count wsX7_highestBy := goodIn_r _ [19, 1, 20, 21, 22, 23, 24, 25, 26, 27, 28, 29, 30, 31, 32, 33, 34, 35, 36] (by decide +kernel) (by decide +kernel)
set_option maxRecDepth 20000 in
theorem gX7_count_X7_highestBy : GoodIn wsX7_count (wsV RX7 72 RX7 yX7_highestBy wsX7_highestBy) := goodIn_app (goodIn_of _ (by decide +kernel)) ggX7_count_X7_highestBy
theorem dX7_count_0 : decode cX7_count 0 = .ok (.iload_n 1, 1) := by decide +kernel
theorem dX7_count_1 : decode cX7_count 1 = .ok (.tableswitch 155 0 14 #[75, 82, 90, 96, 102, 110, 117, 124, 135, 135, 135, 135, 135, 145, 150], 75) := by decide +kernel
theorem dX7_count_76 : decode cX7_count 76 = .ok (.aload_n 0, 1) := by decide +kernel
theorem dX7_count_77 : decode cX7_count 77 = .ok (.getfield 7, 3) := by decide +kernel
theorem dX7_count_80 : decode cX7_count 80 = .ok (.iconst 5, 1) := by decide +kernel
theorem dX7_count_81 : decode cX7_count 81 = .ok (.iaload, 1) := by decide +kernel
theorem dX7_count_82 : decode cX7_count 82 = .ok (.ireturn, 1) := by decide +kernel
theorem dX7_count_83 : decode cX7_count 83 = .ok (.aload_n 0, 1) := by decide +kernel
theorem dX7_count_84 : decode cX7_count 84 = .ok (.getfield 7, 3) := by decide +kernel
theorem dX7_count_87 : decode cX7_count 87 = .ok (.bipush 6, 2) := by decide +kernel
theorem dX7_count_89 : decode cX7_count 89 = .ok (.iaload, 1) := by decide +kernel
theorem dX7_count_90 : decode cX7_count 90 = .ok (.ireturn, 1) := by decide +kernel
theorem dX7_count_91 : decode cX7_count 91 = .ok (.aload_n 0, 1) := by decide +kernel
theorem dX7_count_92 : decode cX7_count 92 = .ok (.iconst 5, 1) := by decide +kernel
theorem dX7_count_93 : decode cX7_count 93 = .ok (.invokevirtual 146, 3) := by decide +kernel
theorem dX7_count_96 : decode cX7_count 96 = .ok (.ireturn, 1) := by decide +kernel
theorem dX7_count_97 : decode cX7_count 97 = .ok (.aload_n 0, 1) := by decide +kernel
theorem dX7_count_98 : decode cX7_count 98 = .ok (.iconst 2, 1) := by decide +kernel
theorem dX7_count_99 : decode cX7_count 99 = .ok (.invokevirtual 146, 3) := by decide +kernel
theorem dX7_count_102 : decode cX7_count 102 = .ok (.ireturn, 1) := by decide +kernel
theorem dX7_count_103 : decode cX7_count 103 = .ok (.aload_n 0, 1) := by decide +kernel
theorem dX7_count_104 : decode cX7_count 104 = .ok (.getfield 7, 3) := by decide +kernel
theorem dX7_count_107 : decode cX7_count 107 = .ok (.bipush 63, 2) := by decide +kernel
theorem dX7_count_109 : decode cX7_count 109 = .ok (.iaload, 1) := by decide +kernel
theorem dX7_count_110 : decode cX7_count 110 = .ok (.ireturn, 1) := by decide +kernel
theorem dX7_count_111 : decode cX7_count 111 = .ok (.aload_n 0, 1) := by decide +kernel
theorem dX7_count_112 : decode cX7_count 112 = .ok (.bipush 12, 2) := by decide +kernel
theorem dX7_count_114 : decode cX7_count 114 = .ok (.invokevirtual 146, 3) := by decide +kernel
theorem dX7_count_117 : decode cX7_count 117 = .ok (.ireturn, 1) := by decide +kernel
theorem dX7_count_118 : decode cX7_count 118 = .ok (.aload_n 0, 1) := by decide +kernel
theorem dX7_count_119 : decode cX7_count 119 = .ok (.bipush 13, 2) := by decide +kernel
theorem dX7_count_121 : decode cX7_count 121 = .ok (.invokevirtual 146, 3) := by decide +kernel
theorem dX7_count_124 : decode cX7_count 124 = .ok (.ireturn, 1) := by decide +kernel
theorem dX7_count_125 : decode cX7_count 125 = .ok (.aload_n 0, 1) := by decide +kernel
theorem dX7_count_126 : decode cX7_count 126 = .ok (.aload_n 0, 1) := by decide +kernel
theorem dX7_count_127 : decode cX7_count 127 = .ok (.getfield 7, 3) := by decide +kernel
theorem dX7_count_130 : decode cX7_count 130 = .ok (.iconst 2, 1) := by decide +kernel
theorem dX7_count_131 : decode cX7_count 131 = .ok (.iaload, 1) := by decide +kernel
theorem dX7_count_132 : decode cX7_count 132 = .ok (.invokevirtual 72, 3) := by decide +kernel
theorem dX7_count_135 : decode cX7_count 135 = .ok (.ireturn, 1) := by decide +kernel
theorem dX7_count_136 : decode cX7_count 136 = .ok (.aload_n 0, 1) := by decide +kernel
theorem dX7_count_137 : decode cX7_count 137 = .ok (.getfield 7, 3) := by decide +kernel
theorem dX7_count_140 : decode cX7_count 140 = .ok (.iload_n 1, 1) := by decide +kernel
theorem dX7_count_141 : decode cX7_count 141 = .ok (.bipush 8, 2) := by decide +kernel
theorem dX7_count_143 : decode cX7_count 143 = .ok (.isub, 1) := by decide +kernel
theorem dX7_count_144 : decode cX7_count 144 = .ok (.iaload, 1) := by decide +kernel
theorem dX7_count_145 : decode cX7_count 145 = .ok (.ireturn, 1) := by decide +kernel
theorem dX7_count_146 : decode cX7_count 146 = .ok (.aload_n 0, 1) := by decide +kernel
theorem dX7_count_147 : decode cX7_count 147 = .ok (.getfield 149, 3) := by decide +kernel
theorem dX7_count_150 : decode cX7_count 150 = .ok (.ireturn, 1) := by decide +kernel
theorem dX7_count_151 : decode cX7_count 151 = .ok (.aload_n 0, 1) := by decide +kernel
theorem dX7_count_152 : decode cX7_count 152 = .ok (.getfield 41, 3) := by decide +kernel
theorem dX7_count_155 : decode cX7_count 155 = .ok (.ireturn, 1) := by decide +kernel
theorem dX7_count_156 : decode cX7_count 156 = .ok (.bipush (-2), 2) := by decide +kernel
theorem dX7_count_158 : decode cX7_count 158 = .ok (.ireturn, 1) := by decide +kernel
set_option maxRecDepth 20000 in
theorem ggX7_interval_X7_in : GoodIn wsX7_interval wsX7_in := goodIn_r _ [5] (by decide +kernel) (by decide +kernel)
set_option maxRecDepth 20000 in
theorem gX7_interval_X7_in : GoodIn wsX7_interval (va_wsS RX7 33 yX7_in wsX7_in) := goodIn_app (goodIn_of _ (by decide +kernel)) ggX7_interval_X7_in
set_option maxRecDepth 20000 in
theorem ggX7_interval_X7_intervalBy : GoodIn wsX7_interval wsX7_intervalBy := goodIn_r _ [9, 1, 10, 11, 12, 13, 14, 15, 16, 17, 18, 19, 20, 21, 22, 23, 24, 25, 26] (by decide +kernel) (by decide +kernel)
set_option maxRecDepth 20000 in
theorem gX7_interval_X7_intervalBy : GoodIn wsX7_interval (wsV RX7 48 RX7 yX7_intervalBy wsX7_intervalBy) := goodIn_app (goodIn_of _ (by decide +kernel)) ggX7_interval_X7_intervalBy
theorem dX7_interval_0 : decode cX7_interval 0 = .ok (.iload_n 1, 1) := by decide +kernel
theorem dX7_interval_1 : decode cX7_interval 1 = .ok (.iconst 0, 1) := by decide +kernel
theorem dX7_interval_2 : decode cX7_interval 2 = .ok (.bipush 99, 2) := by decide +kernel
theorem dX7_interval_4 : decode cX7_interval 4 = .ok (.invokestatic 33, 3) := by decide +kernel
theorem dX7_interval_7 : decode cX7_interval 7 = .ok (.ifCond .eq 17, 3) := by decide +kernel
theorem dX7_interval_10 : decode cX7_interval 10 = .ok (.aload_n 0, 1) := by decide +kernel
theorem dX7_interval_11 : decode cX7_interval 11 = .ok (.iload_n 1, 1) := by decide +kernel
theorem dX7_interval_12 : decode cX7_interval 12 = .ok (.aload_n 0, 1) := by decide +kernel
theorem dX7_interval_13 : decode cX7_interval 13 = .ok (.getfield 7, 3) := by decide +kernel
theorem dX7_interval_16 : decode cX7_interval 16 = .ok (.iconst 2, 1) := by decide +kernel
theorem dX7_interval_17 : decode cX7_interval 17 = .ok (.iaload, 1) := by decide +kernel
theorem dX7_interval_18 : decode cX7_interval 18 = .ok (.invokevirtual 48, 3) := by decide +kernel
theorem dX7_interval_21 : decode cX7_interval 21 = .ok (.goto 5, 3) := by decide +kernel
theorem dX7_interval_24 : decode cX7_interval 24 = .ok (.bipush (-2), 2) := by decide +kernel
theorem dX7_interval_26 : decode cX7_interval 26 = .ok (.ireturn, 1) := by decide +kernel
set_option maxRecDepth 20000 in
theorem ggX7_isOver_X7_rests : GoodIn wsX7_isOver wsX7_rests := goodIn_r _ [6, 1, 7, 8, 5, 9, 10, 11, 12, 13, 14, 15, 16, 17, 18, 19, 20, 21, 22, 23, 24, 25, 26] (by decide +kernel) (by decide +kernel)
set_option maxRecDepth 20000 in
theorem gX7_isOver_X7_rests : GoodIn wsX7_isOver (wsV RX7 51 RX7 yX7_rests wsX7_rests) := goodIn_app (goodIn_of _ (by decide +kernel)) ggX7_isOver_X7_rests
set_option maxRecDepth 20000 in
theorem ggX7_isOver_X7_at : GoodIn wsX7_isOver wsX7_at := goodIn_r _ [9] (by decide +kernel) (by decide +kernel)
set_option maxRecDepth 20000 in
theorem gX7_isOver_X7_at : GoodIn wsX7_isOver (va_wsS RX7 37 yX7_at wsX7_at) := goodIn_app (goodIn_of _ (by decide +kernel)) ggX7_isOver_X7_at
theorem dX7_isOver_0 : decode cX7_isOver 0 = .ok (.aload_n 0, 1) := by decide +kernel
theorem dX7_isOver_1 : decode cX7_isOver 1 = .ok (.iload_n 1, 1) := by decide +kernel
theorem dX7_isOver_2 : decode cX7_isOver 2 = .ok (.invokevirtual 51, 3) := by decide +kernel
theorem dX7_isOver_5 : decode cX7_isOver 5 = .ok (.ifCond .eq 21, 3) := by decide +kernel
theorem dX7_isOver_8 : decode cX7_isOver 8 = .ok (.aload_n 0, 1) := by decide +kernel
theorem dX7_isOver_9 : decode cX7_isOver 9 = .ok (.getfield 7, 3) := by decide +kernel
theorem dX7_isOver_12 : decode cX7_isOver 12 = .ok (.iload_n 1, 1) := by decide +kernel
theorem dX7_isOver_13 : decode cX7_isOver 13 = .ok (.bipush 8, 2) := by decide +kernel
theorem dX7_isOver_15 : decode cX7_isOver 15 = .ok (.invokestatic 37, 3) := by decide +kernel
theorem dX7_isOver_18 : decode cX7_isOver 18 = .ok (.iaload, 1) := by decide +kernel
theorem dX7_isOver_19 : decode cX7_isOver 19 = .ok (.ifCond .ne 7, 3) := by decide +kernel
theorem dX7_isOver_22 : decode cX7_isOver 22 = .ok (.iconst 1, 1) := by decide +kernel
theorem dX7_isOver_23 : decode cX7_isOver 23 = .ok (.goto 4, 3) := by decide +kernel
theorem dX7_isOver_26 : decode cX7_isOver 26 = .ok (.iconst 0, 1) := by decide +kernel
theorem dX7_isOver_27 : decode cX7_isOver 27 = .ok (.istore_n 2, 1) := by decide +kernel
theorem dX7_isOver_28 : decode cX7_isOver 28 = .ok (.iconst 0, 1) := by decide +kernel
theorem dX7_isOver_29 : decode cX7_isOver 29 = .ok (.istore_n 3, 1) := by decide +kernel
theorem dX7_isOver_30 : decode cX7_isOver 30 = .ok (.iload_n 3, 1) := by decide +kernel
theorem dX7_isOver_31 : decode cX7_isOver 31 = .ok (.aload_n 0, 1) := by decide +kernel
theorem dX7_isOver_32 : decode cX7_isOver 32 = .ok (.getfield 7, 3) := by decide +kernel
theorem dX7_isOver_35 : decode cX7_isOver 35 = .ok (.bipush 63, 2) := by decide +kernel
theorem dX7_isOver_37 : decode cX7_isOver 37 = .ok (.iaload, 1) := by decide +kernel
theorem dX7_isOver_38 : decode cX7_isOver 38 = .ok (.if_icmp .ge 36, 3) := by decide +kernel
theorem dX7_isOver_41 : decode cX7_isOver 41 = .ok (.iload_n 2, 1) := by decide +kernel
theorem dX7_isOver_42 : decode cX7_isOver 42 = .ok (.ifCond .eq 24, 3) := by decide +kernel
theorem dX7_isOver_45 : decode cX7_isOver 45 = .ok (.aload_n 0, 1) := by decide +kernel
theorem dX7_isOver_46 : decode cX7_isOver 46 = .ok (.getfield 7, 3) := by decide +kernel
theorem dX7_isOver_49 : decode cX7_isOver 49 = .ok (.bipush 64, 2) := by decide +kernel
theorem dX7_isOver_51 : decode cX7_isOver 51 = .ok (.iconst 3, 1) := by decide +kernel
theorem dX7_isOver_52 : decode cX7_isOver 52 = .ok (.iload_n 3, 1) := by decide +kernel
theorem dX7_isOver_53 : decode cX7_isOver 53 = .ok (.imul, 1) := by decide +kernel
theorem dX7_isOver_54 : decode cX7_isOver 54 = .ok (.iadd, 1) := by decide +kernel
theorem dX7_isOver_55 : decode cX7_isOver 55 = .ok (.iconst 1, 1) := by decide +kernel
theorem dX7_isOver_56 : decode cX7_isOver 56 = .ok (.iadd, 1) := by decide +kernel
theorem dX7_isOver_57 : decode cX7_isOver 57 = .ok (.iaload, 1) := by decide +kernel
theorem dX7_isOver_58 : decode cX7_isOver 58 = .ok (.iload_n 1, 1) := by decide +kernel
theorem dX7_isOver_59 : decode cX7_isOver 59 = .ok (.if_icmp .eq 7, 3) := by decide +kernel
theorem dX7_isOver_62 : decode cX7_isOver 62 = .ok (.iconst 1, 1) := by decide +kernel
theorem dX7_isOver_63 : decode cX7_isOver 63 = .ok (.goto 4, 3) := by decide +kernel
theorem dX7_isOver_66 : decode cX7_isOver 66 = .ok (.iconst 0, 1) := by decide +kernel
theorem dX7_isOver_67 : decode cX7_isOver 67 = .ok (.istore_n 2, 1) := by decide +kernel
theorem dX7_isOver_68 : decode cX7_isOver 68 = .ok (.iinc 3 1, 3) := by decide +kernel
theorem dX7_isOver_71 : decode cX7_isOver 71 = .ok (.goto (-41), 3) := by decide +kernel
theorem dX7_isOver_74 : decode cX7_isOver 74 = .ok (.iload_n 2, 1) := by decide +kernel
theorem dX7_isOver_75 : decode cX7_isOver 75 = .ok (.ireturn, 1) := by decide +kernel
set_option maxRecDepth 20000 in
theorem ggX7_restsIn_X7_isShaft : GoodIn wsX7_restsIn wsX7_isShaft := goodIn_r _ [5, 6, 7, 8, 4, 9, 75, 76, 77, 78, 79, 80, 81, 82, 83, 84, 85, 86, 87, 88, 89, 90, 91] (by decide +kernel) (by decide +kernel)
set_option maxRecDepth 20000 in
theorem gX7_restsIn_X7_isShaft : GoodIn wsX7_restsIn (wsV RX7 89 RX7 yX7_isShaft wsX7_isShaft) := goodIn_app (goodIn_of _ (by decide +kernel)) ggX7_restsIn_X7_isShaft
set_option maxRecDepth 20000 in
theorem ggX7_restsIn_X7_putAside : GoodIn wsX7_restsIn wsX7_putAside := goodIn_r _ [13, 14, 6, 75, 76, 77, 78, 79, 80, 81, 82, 83, 84, 85, 86, 87, 88, 89, 90, 91] (by decide +kernel) (by decide +kernel)
set_option maxRecDepth 20000 in
theorem gX7_restsIn_X7_putAside : GoodIn wsX7_restsIn (wsV RX7 113 RX7 yX7_putAside wsX7_putAside) := goodIn_app (goodIn_of _ (by decide +kernel)) ggX7_restsIn_X7_putAside
set_option maxRecDepth 20000 in
theorem ggX7_restsIn_X7_isOver : GoodIn wsX7_restsIn wsX7_isOver := goodIn_r _ [18, 6, 19, 20, 21, 4, 22, 23, 24, 25, 75, 76, 77, 78, 79, 80, 81, 82, 83, 84, 85, 86, 87, 88, 89, 90, 91] (by decide +kernel) (by decide +kernel)
set_option maxRecDepth 20000 in
theorem gX7_restsIn_X7_isOver : GoodIn wsX7_restsIn (wsV RX7 152 RX7 yX7_isOver wsX7_isOver) := goodIn_app (goodIn_of _ (by decide +kernel)) ggX7_restsIn_X7_isOver
set_option maxRecDepth 20000 in
theorem ggX7_restsIn_X7_ticks : GoodIn wsX7_restsIn wsX7_ticks := goodIn_r _ [29, 6, 30, 31, 32, 4, 33, 34, 35, 36, 37, 19, 20, 21, 22, 23, 24, 25, 38, 39, 40, 41, 42, 43, 44, 45, 46, 47, 48, 49, 50, 51, 52, 53, 54, 55, 56, 57, 58, 59, 60, 61, 62, 63, 64, 65, 66, 67, 68, 69, 70, 75, 76, 77, 78, 79, 80, 81, 82, 83, 84, 85, 86, 87, 88, 89, 90, 91] (by decide +kernel) (by decide +kernel)
set_option maxRecDepth 20000 in
theorem gX7_restsIn_X7_ticks : GoodIn wsX7_restsIn (wsV RX7 97 RX7 yX7_ticks wsX7_ticks) := goodIn_app (goodIn_of _ (by decide +kernel)) ggX7_restsIn_X7_ticks
set_option maxRecDepth 20000 in
theorem ggX7_restsIn_X7_putBack : GoodIn wsX7_restsIn wsX7_putBack := goodIn_r _ [74, 6, 14, 75, 76, 77, 78, 79, 80, 81, 82, 83, 84, 85, 86, 87, 88, 89, 90, 91] (by decide +kernel) (by decide +kernel)
set_option maxRecDepth 20000 in
theorem gX7_restsIn_X7_putBack : GoodIn wsX7_restsIn (wsV RX7 104 RX7 yX7_putBack wsX7_putBack) := goodIn_app (goodIn_of _ (by decide +kernel)) ggX7_restsIn_X7_putBack
theorem dX7_restsIn_0 : decode cX7_restsIn 0 = .ok (.aload_n 0, 1) := by decide +kernel
theorem dX7_restsIn_1 : decode cX7_restsIn 1 = .ok (.iload_n 1, 1) := by decide +kernel
theorem dX7_restsIn_2 : decode cX7_restsIn 2 = .ok (.invokevirtual 89, 3) := by decide +kernel
theorem dX7_restsIn_5 : decode cX7_restsIn 5 = .ok (.ifCond .ne 5, 3) := by decide +kernel
theorem dX7_restsIn_8 : decode cX7_restsIn 8 = .ok (.iconst (-1), 1) := by decide +kernel
theorem dX7_restsIn_9 : decode cX7_restsIn 9 = .ok (.ireturn, 1) := by decide +kernel
theorem dX7_restsIn_10 : decode cX7_restsIn 10 = .ok (.aload_n 0, 1) := by decide +kernel
theorem dX7_restsIn_11 : decode cX7_restsIn 11 = .ok (.invokevirtual 113, 3) := by decide +kernel
theorem dX7_restsIn_14 : decode cX7_restsIn 14 = .ok (.iconst 0, 1) := by decide +kernel
theorem dX7_restsIn_15 : decode cX7_restsIn 15 = .ok (.istore_n 2, 1) := by decide +kernel
theorem dX7_restsIn_16 : decode cX7_restsIn 16 = .ok (.iload_n 2, 1) := by decide +kernel
theorem dX7_restsIn_17 : decode cX7_restsIn 17 = .ok (.sipush 20000, 3) := by decide +kernel
theorem dX7_restsIn_20 : decode cX7_restsIn 20 = .ok (.if_icmp .ge 22, 3) := by decide +kernel
theorem dX7_restsIn_23 : decode cX7_restsIn 23 = .ok (.aload_n 0, 1) := by decide +kernel
theorem dX7_restsIn_24 : decode cX7_restsIn 24 = .ok (.iload_n 1, 1) := by decide +kernel
theorem dX7_restsIn_25 : decode cX7_restsIn 25 = .ok (.invokevirtual 152, 3) := by decide +kernel
theorem dX7_restsIn_28 : decode cX7_restsIn 28 = .ok (.ifCond .ne 14, 3) := by decide +kernel
theorem dX7_restsIn_31 : decode cX7_restsIn 31 = .ok (.aload_n 0, 1) := by decide +kernel
theorem dX7_restsIn_32 : decode cX7_restsIn 32 = .ok (.invokevirtual 97, 3) := by decide +kernel
theorem dX7_restsIn_35 : decode cX7_restsIn 35 = .ok (.istore_n 3, 1) := by decide +kernel
theorem dX7_restsIn_36 : decode cX7_restsIn 36 = .ok (.iinc 2 1, 3) := by decide +kernel
theorem dX7_restsIn_39 : decode cX7_restsIn 39 = .ok (.goto (-23), 3) := by decide +kernel
theorem dX7_restsIn_42 : decode cX7_restsIn 42 = .ok (.aload_n 0, 1) := by decide +kernel
theorem dX7_restsIn_43 : decode cX7_restsIn 43 = .ok (.iload_n 1, 1) := by decide +kernel
theorem dX7_restsIn_44 : decode cX7_restsIn 44 = .ok (.invokevirtual 152, 3) := by decide +kernel
theorem dX7_restsIn_47 : decode cX7_restsIn 47 = .ok (.istore_n 3, 1) := by decide +kernel
theorem dX7_restsIn_48 : decode cX7_restsIn 48 = .ok (.aload_n 0, 1) := by decide +kernel
theorem dX7_restsIn_49 : decode cX7_restsIn 49 = .ok (.invokevirtual 104, 3) := by decide +kernel
theorem dX7_restsIn_52 : decode cX7_restsIn 52 = .ok (.iload_n 3, 1) := by decide +kernel
theorem dX7_restsIn_53 : decode cX7_restsIn 53 = .ok (.ifCond .eq 7, 3) := by decide +kernel
theorem dX7_restsIn_56 : decode cX7_restsIn 56 = .ok (.iload_n 2, 1) := by decide +kernel
theorem dX7_restsIn_57 : decode cX7_restsIn 57 = .ok (.goto 5, 3) := by decide +kernel
theorem dX7_restsIn_60 : decode cX7_restsIn 60 = .ok (.bipush (-6), 2) := by decide +kernel
theorem dX7_restsIn_62 : decode cX7_restsIn 62 = .ok (.ireturn, 1) := by decide +kernel
set_option maxRecDepth 20000 in
theorem ggX7_stopsAt_X7_isShaft : GoodIn wsX7_stopsAt wsX7_isShaft := goodIn_r _ [6, 1, 7, 8, 5, 9, 22, 23, 24, 25, 26, 27, 28, 29, 30, 31, 32, 33, 34, 35, 36, 37, 38] (by decide +kernel) (by decide +kernel)
set_option maxRecDepth 20000 in
theorem gX7_stopsAt_X7_isShaft : GoodIn wsX7_stopsAt (wsV RX7 89 RX7 yX7_isShaft wsX7_isShaft) := goodIn_app (goodIn_of _ (by decide +kernel)) ggX7_stopsAt_X7_isShaft
set_option maxRecDepth 20000 in
theorem ggX7_stopsAt_X7_at : GoodIn wsX7_stopsAt wsX7_at := goodIn_r _ [12] (by decide +kernel) (by decide +kernel)
set_option maxRecDepth 20000 in
theorem gX7_stopsAt_X7_at : GoodIn wsX7_stopsAt (va_wsS RX7 37 yX7_at wsX7_at) := goodIn_app (goodIn_of _ (by decide +kernel)) ggX7_stopsAt_X7_at
set_option maxRecDepth 20000 in
theorem ggX7_stopsAt_X7_rests : GoodIn wsX7_stopsAt wsX7_rests := goodIn_r _ [16, 1, 10, 11, 5, 12, 22, 23, 24, 25, 26, 27, 28, 29, 30, 31, 32, 33, 34, 35, 36, 37, 38] (by decide +kernel) (by decide +kernel)
set_option maxRecDepth 20000 in
theorem gX7_stopsAt_X7_rests : GoodIn wsX7_stopsAt (wsV RX7 51 RX7 yX7_rests wsX7_rests) := goodIn_app (goodIn_of _ (by decide +kernel)) ggX7_stopsAt_X7_rests
set_option maxRecDepth 20000 in
theorem ggX7_stopsAt_X7_says : GoodIn wsX7_stopsAt wsX7_says := goodIn_r _ [20, 1, 21, 10, 11, 5, 12, 22, 23, 24, 25, 26, 27, 28, 29, 30, 31, 32, 33, 34, 35, 36, 37, 38] (by decide +kernel) (by decide +kernel)
set_option maxRecDepth 20000 in
theorem gX7_stopsAt_X7_says : GoodIn wsX7_stopsAt (wsV RX7 140 RX7 yX7_says wsX7_says) := goodIn_app (goodIn_of _ (by decide +kernel)) ggX7_stopsAt_X7_says
theorem dX7_stopsAt_0 : decode cX7_stopsAt 0 = .ok (.aload_n 0, 1) := by decide +kernel
theorem dX7_stopsAt_1 : decode cX7_stopsAt 1 = .ok (.iload_n 1, 1) := by decide +kernel
theorem dX7_stopsAt_2 : decode cX7_stopsAt 2 = .ok (.invokevirtual 89, 3) := by decide +kernel
theorem dX7_stopsAt_5 : decode cX7_stopsAt 5 = .ok (.ifCond .ne 5, 3) := by decide +kernel
theorem dX7_stopsAt_8 : decode cX7_stopsAt 8 = .ok (.iconst (-1), 1) := by decide +kernel
theorem dX7_stopsAt_9 : decode cX7_stopsAt 9 = .ok (.ireturn, 1) := by decide +kernel
theorem dX7_stopsAt_10 : decode cX7_stopsAt 10 = .ok (.aload_n 0, 1) := by decide +kernel
theorem dX7_stopsAt_11 : decode cX7_stopsAt 11 = .ok (.getfield 7, 3) := by decide +kernel
theorem dX7_stopsAt_14 : decode cX7_stopsAt 14 = .ok (.iload_n 1, 1) := by decide +kernel
theorem dX7_stopsAt_15 : decode cX7_stopsAt 15 = .ok (.iconst 5, 1) := by decide +kernel
theorem dX7_stopsAt_16 : decode cX7_stopsAt 16 = .ok (.invokestatic 37, 3) := by decide +kernel
theorem dX7_stopsAt_19 : decode cX7_stopsAt 19 = .ok (.iaload, 1) := by decide +kernel
theorem dX7_stopsAt_20 : decode cX7_stopsAt 20 = .ok (.istore_n 2, 1) := by decide +kernel
theorem dX7_stopsAt_21 : decode cX7_stopsAt 21 = .ok (.aload_n 0, 1) := by decide +kernel
theorem dX7_stopsAt_22 : decode cX7_stopsAt 22 = .ok (.getfield 7, 3) := by decide +kernel
theorem dX7_stopsAt_25 : decode cX7_stopsAt 25 = .ok (.iload_n 1, 1) := by decide +kernel
theorem dX7_stopsAt_26 : decode cX7_stopsAt 26 = .ok (.bipush 6, 2) := by decide +kernel
theorem dX7_stopsAt_28 : decode cX7_stopsAt 28 = .ok (.invokestatic 37, 3) := by decide +kernel
theorem dX7_stopsAt_31 : decode cX7_stopsAt 31 = .ok (.iaload, 1) := by decide +kernel
theorem dX7_stopsAt_32 : decode cX7_stopsAt 32 = .ok (.istore_n 3, 1) := by decide +kernel
theorem dX7_stopsAt_33 : decode cX7_stopsAt 33 = .ok (.aload_n 0, 1) := by decide +kernel
theorem dX7_stopsAt_34 : decode cX7_stopsAt 34 = .ok (.iload_n 1, 1) := by decide +kernel
theorem dX7_stopsAt_35 : decode cX7_stopsAt 35 = .ok (.aload_n 0, 1) := by decide +kernel
theorem dX7_stopsAt_36 : decode cX7_stopsAt 36 = .ok (.iload_n 1, 1) := by decide +kernel
theorem dX7_stopsAt_37 : decode cX7_stopsAt 37 = .ok (.invokevirtual 51, 3) := by decide +kernel
theorem dX7_stopsAt_40 : decode cX7_stopsAt 40 = .ok (.ifCond .eq 7, 3) := by decide +kernel
theorem dX7_stopsAt_43 : decode cX7_stopsAt 43 = .ok (.iconst 0, 1) := by decide +kernel
theorem dX7_stopsAt_44 : decode cX7_stopsAt 44 = .ok (.goto 13, 3) := by decide +kernel
theorem dX7_stopsAt_47 : decode cX7_stopsAt 47 = .ok (.iload_n 2, 1) := by decide +kernel
theorem dX7_stopsAt_48 : decode cX7_stopsAt 48 = .ok (.iload_n 3, 1) := by decide +kernel
theorem dX7_stopsAt_49 : decode cX7_stopsAt 49 = .ok (.if_icmp .le 7, 3) := by decide +kernel
theorem dX7_stopsAt_52 : decode cX7_stopsAt 52 = .ok (.iload_n 3, 1) := by decide +kernel
theorem dX7_stopsAt_53 : decode cX7_stopsAt 53 = .ok (.goto 4, 3) := by decide +kernel
theorem dX7_stopsAt_56 : decode cX7_stopsAt 56 = .ok (.iload_n 2, 1) := by decide +kernel
theorem dX7_stopsAt_57 : decode cX7_stopsAt 57 = .ok (.invokevirtual 140, 3) := by decide +kernel
theorem dX7_stopsAt_60 : decode cX7_stopsAt 60 = .ok (.ireturn, 1) := by decide +kernel
set_option maxRecDepth 20000 in
theorem ggX7_nextStep_X7_in : GoodIn wsX7_nextStep wsX7_in := goodIn_r _ [7] (by decide +kernel) (by decide +kernel)
set_option maxRecDepth 20000 in
theorem gX7_nextStep_X7_in : GoodIn wsX7_nextStep (va_wsS RX7 33 yX7_in wsX7_in) := goodIn_app (goodIn_of _ (by decide +kernel)) ggX7_nextStep_X7_in
set_option maxRecDepth 20000 in
theorem ggX7_nextStep_X7_putAside : GoodIn wsX7_nextStep wsX7_putAside := goodIn_r _ [11, 12, 13, 67, 68, 69, 70, 71, 72, 73, 74, 75, 76, 77, 78, 79, 80, 81, 82, 83] (by decide +kernel) (by decide +kernel)
set_option maxRecDepth 20000 in
theorem gX7_nextStep_X7_putAside : GoodIn wsX7_nextStep (wsV RX7 113 RX7 yX7_putAside wsX7_putAside) := goodIn_app (goodIn_of _ (by decide +kernel)) ggX7_nextStep_X7_putAside
set_option maxRecDepth 20000 in
theorem ggX7_nextStep_X7_ticks : GoodIn wsX7_nextStep wsX7_ticks := goodIn_r _ [17, 13, 18, 19, 20, 6, 21, 22, 23, 24, 25, 26, 27, 28, 29, 30, 31, 32, 33, 34, 35, 36, 37, 38, 39, 40, 41, 42, 43, 44, 45, 46, 47, 1, 2, 3, 48, 49, 50, 51, 52, 53, 54, 55, 56, 57, 58, 59, 60, 61, 62, 67, 68, 69, 70, 71, 72, 73, 74, 75, 76, 77, 78, 79, 80, 81, 82, 83] (by decide +kernel) (by decide +kernel)
set_option maxRecDepth 20000 in
theorem gX7_nextStep_X7_ticks : GoodIn wsX7_nextStep (wsV RX7 97 RX7 yX7_ticks wsX7_ticks) := goodIn_app (goodIn_of _ (by decide +kernel)) ggX7_nextStep_X7_ticks
set_option maxRecDepth 20000 in
theorem ggX7_nextStep_X7_putBack : GoodIn wsX7_nextStep wsX7_putBack := goodIn_r _ [66, 13, 12, 67, 68, 69, 70, 71, 72, 73, 74, 75, 76, 77, 78, 79, 80, 81, 82, 83] (by decide +kernel) (by decide +kernel)
set_option maxRecDepth 20000 in
theorem gX7_nextStep_X7_putBack : GoodIn wsX7_nextStep (wsV RX7 104 RX7 yX7_putBack wsX7_putBack) := goodIn_app (goodIn_of _ (by decide +kernel)) ggX7_nextStep_X7_putBack
theorem dX7_nextStep_0 : decode cX7_nextStep 0 = .ok (.iload_n 1, 1) := by decide +kernel
theorem dX7_nextStep_1 : decode cX7_nextStep 1 = .ok (.iconst 0, 1) := by decide +kernel
theorem dX7_nextStep_2 : decode cX7_nextStep 2 = .ok (.bipush 99, 2) := by decide +kernel
theorem dX7_nextStep_4 : decode cX7_nextStep 4 = .ok (.invokestatic 33, 3) := by decide +kernel
theorem dX7_nextStep_7 : decode cX7_nextStep 7 = .ok (.ifCond .eq 12, 3) := by decide +kernel
theorem dX7_nextStep_10 : decode cX7_nextStep 10 = .ok (.iload_n 2, 1) := by decide +kernel
theorem dX7_nextStep_11 : decode cX7_nextStep 11 = .ok (.iconst 0, 1) := by decide +kernel
theorem dX7_nextStep_12 : decode cX7_nextStep 12 = .ok (.iconst 2, 1) := by decide +kernel
theorem dX7_nextStep_13 : decode cX7_nextStep 13 = .ok (.invokestatic 33, 3) := by decide +kernel
theorem dX7_nextStep_16 : decode cX7_nextStep 16 = .ok (.ifCond .ne 6, 3) := by decide +kernel
theorem dX7_nextStep_19 : decode cX7_nextStep 19 = .ok (.bipush (-2), 2) := by decide +kernel
theorem dX7_nextStep_21 : decode cX7_nextStep 21 = .ok (.ireturn, 1) := by decide +kernel
theorem dX7_nextStep_22 : decode cX7_nextStep 22 = .ok (.aload_n 0, 1) := by decide +kernel
theorem dX7_nextStep_23 : decode cX7_nextStep 23 = .ok (.invokevirtual 113, 3) := by decide +kernel
theorem dX7_nextStep_26 : decode cX7_nextStep 26 = .ok (.aload_n 0, 1) := by decide +kernel
theorem dX7_nextStep_27 : decode cX7_nextStep 27 = .ok (.iload_n 1, 1) := by decide +kernel
theorem dX7_nextStep_28 : decode cX7_nextStep 28 = .ok (.putfield 29, 3) := by decide +kernel
theorem dX7_nextStep_31 : decode cX7_nextStep 31 = .ok (.iconst 0, 1) := by decide +kernel
theorem dX7_nextStep_32 : decode cX7_nextStep 32 = .ok (.istore_n 3, 1) := by decide +kernel
theorem dX7_nextStep_33 : decode cX7_nextStep 33 = .ok (.iload_n 3, 1) := by decide +kernel
theorem dX7_nextStep_34 : decode cX7_nextStep 34 = .ok (.sipush 5000, 3) := by decide +kernel
theorem dX7_nextStep_37 : decode cX7_nextStep 37 = .ok (.if_icmp .ge 22, 3) := by decide +kernel
theorem dX7_nextStep_40 : decode cX7_nextStep 40 = .ok (.aload_n 0, 1) := by decide +kernel
theorem dX7_nextStep_41 : decode cX7_nextStep 41 = .ok (.getfield 29, 3) := by decide +kernel
theorem dX7_nextStep_44 : decode cX7_nextStep 44 = .ok (.ifCond .lt 15, 3) := by decide +kernel
theorem dX7_nextStep_47 : decode cX7_nextStep 47 = .ok (.aload_n 0, 1) := by decide +kernel
theorem dX7_nextStep_48 : decode cX7_nextStep 48 = .ok (.invokevirtual 97, 3) := by decide +kernel
theorem dX7_nextStep_51 : decode cX7_nextStep 51 = .ok (.istore 4, 2) := by decide +kernel
theorem dX7_nextStep_53 : decode cX7_nextStep 53 = .ok (.iinc 3 1, 3) := by decide +kernel
theorem dX7_nextStep_56 : decode cX7_nextStep 56 = .ok (.goto (-23), 3) := by decide +kernel
theorem dX7_nextStep_59 : decode cX7_nextStep 59 = .ok (.aload_n 0, 1) := by decide +kernel
theorem dX7_nextStep_60 : decode cX7_nextStep 60 = .ok (.getfield 29, 3) := by decide +kernel
theorem dX7_nextStep_63 : decode cX7_nextStep 63 = .ok (.ifCond .ge 7, 3) := by decide +kernel
theorem dX7_nextStep_66 : decode cX7_nextStep 66 = .ok (.iconst 1, 1) := by decide +kernel
theorem dX7_nextStep_67 : decode cX7_nextStep 67 = .ok (.goto 4, 3) := by decide +kernel
theorem dX7_nextStep_70 : decode cX7_nextStep 70 = .ok (.iconst 0, 1) := by decide +kernel
theorem dX7_nextStep_71 : decode cX7_nextStep 71 = .ok (.istore 4, 2) := by decide +kernel
theorem dX7_nextStep_73 : decode cX7_nextStep 73 = .ok (.aload_n 0, 1) := by decide +kernel
theorem dX7_nextStep_74 : decode cX7_nextStep 74 = .ok (.iconst (-1), 1) := by decide +kernel
theorem dX7_nextStep_75 : decode cX7_nextStep 75 = .ok (.putfield 29, 3) := by decide +kernel
theorem dX7_nextStep_78 : decode cX7_nextStep 78 = .ok (.aload_n 0, 1) := by decide +kernel
theorem dX7_nextStep_79 : decode cX7_nextStep 79 = .ok (.invokevirtual 104, 3) := by decide +kernel
theorem dX7_nextStep_82 : decode cX7_nextStep 82 = .ok (.iload 4, 2) := by decide +kernel
theorem dX7_nextStep_84 : decode cX7_nextStep 84 = .ok (.ifCond .ne 8, 3) := by decide +kernel
theorem dX7_nextStep_87 : decode cX7_nextStep 87 = .ok (.bipush (-6), 2) := by decide +kernel
theorem dX7_nextStep_89 : decode cX7_nextStep 89 = .ok (.goto 35, 3) := by decide +kernel
theorem dX7_nextStep_92 : decode cX7_nextStep 92 = .ok (.iload_n 2, 1) := by decide +kernel
theorem dX7_nextStep_93 : decode cX7_nextStep 93 = .ok (.ifCond .ne 7, 3) := by decide +kernel
theorem dX7_nextStep_96 : decode cX7_nextStep 96 = .ok (.iload_n 3, 1) := by decide +kernel
theorem dX7_nextStep_97 : decode cX7_nextStep 97 = .ok (.goto 27, 3) := by decide +kernel
theorem dX7_nextStep_100 : decode cX7_nextStep 100 = .ok (.iload_n 2, 1) := by decide +kernel
theorem dX7_nextStep_101 : decode cX7_nextStep 101 = .ok (.iconst 1, 1) := by decide +kernel
theorem dX7_nextStep_102 : decode cX7_nextStep 102 = .ok (.if_icmp .ne 10, 3) := by decide +kernel
theorem dX7_nextStep_105 : decode cX7_nextStep 105 = .ok (.aload_n 0, 1) := by decide +kernel
theorem dX7_nextStep_106 : decode cX7_nextStep 106 = .ok (.getfield 62, 3) := by decide +kernel
theorem dX7_nextStep_109 : decode cX7_nextStep 109 = .ok (.goto 15, 3) := by decide +kernel
theorem dX7_nextStep_112 : decode cX7_nextStep 112 = .ok (.aload_n 0, 1) := by decide +kernel
theorem dX7_nextStep_113 : decode cX7_nextStep 113 = .ok (.getfield 65, 3) := by decide +kernel
theorem dX7_nextStep_116 : decode cX7_nextStep 116 = .ok (.ifCond .eq 7, 3) := by decide +kernel
theorem dX7_nextStep_119 : decode cX7_nextStep 119 = .ok (.iconst 1, 1) := by decide +kernel
theorem dX7_nextStep_120 : decode cX7_nextStep 120 = .ok (.goto 4, 3) := by decide +kernel
theorem dX7_nextStep_123 : decode cX7_nextStep 123 = .ok (.iconst 0, 1) := by decide +kernel
theorem dX7_nextStep_124 : decode cX7_nextStep 124 = .ok (.ireturn, 1) := by decide +kernel
set_option maxRecDepth 20000 in
theorem ggX7_whole_X7_highestBy : GoodIn wsX7_whole wsX7_highestBy := goodIn_r _ [5, 6, 14, 15, 16, 17, 18, 19, 20, 21, 22, 23, 24, 25, 26, 27, 28, 29, 30] (by decide +kernel) (by decide +kernel)
set_option maxRecDepth 20000 in
theorem gX7_whole_X7_highestBy : GoodIn wsX7_whole (wsV RX7 72 RX7 yX7_highestBy wsX7_highestBy) := goodIn_app (goodIn_of _ (by decide +kernel)) ggX7_whole_X7_highestBy
set_option maxRecDepth 20000 in
theorem ggX7_whole_X7_intervalBy : GoodIn wsX7_whole wsX7_intervalBy := goodIn_r _ [10, 6, 14, 15, 16, 17, 18, 19, 20, 21, 22, 23, 24, 25, 26, 27, 28, 29, 30] (by decide +kernel) (by decide +kernel)
set_option maxRecDepth 20000 in
theorem gX7_whole_X7_intervalBy : GoodIn wsX7_whole (wsV RX7 48 RX7 yX7_intervalBy wsX7_intervalBy) := goodIn_app (goodIn_of _ (by decide +kernel)) ggX7_whole_X7_intervalBy
set_option maxRecDepth 20000 in
theorem ggX7_whole_X7_nextLevel : GoodIn wsX7_whole wsX7_nextLevel := goodIn_r _ [13] (by decide +kernel) (by decide +kernel)
set_option maxRecDepth 20000 in
theorem gX7_whole_X7_nextLevel : GoodIn wsX7_whole (va_wsS RX7 75 yX7_nextLevel wsX7_nextLevel) := goodIn_app (goodIn_of _ (by decide +kernel)) ggX7_whole_X7_nextLevel
theorem dX7_whole_0 : decode cX7_whole 0 = .ok (.aload_n 0, 1) := by decide +kernel
theorem dX7_whole_1 : decode cX7_whole 1 = .ok (.iload_n 2, 1) := by decide +kernel
theorem dX7_whole_2 : decode cX7_whole 2 = .ok (.invokevirtual 72, 3) := by decide +kernel
theorem dX7_whole_5 : decode cX7_whole 5 = .ok (.istore 4, 2) := by decide +kernel
theorem dX7_whole_7 : decode cX7_whole 7 = .ok (.iconst 0, 1) := by decide +kernel
theorem dX7_whole_8 : decode cX7_whole 8 = .ok (.istore 5, 2) := by decide +kernel
theorem dX7_whole_10 : decode cX7_whole 10 = .ok (.iconst 0, 1) := by decide +kernel
theorem dX7_whole_11 : decode cX7_whole 11 = .ok (.istore 6, 2) := by decide +kernel
theorem dX7_whole_13 : decode cX7_whole 13 = .ok (.iconst 0, 1) := by decide +kernel
theorem dX7_whole_14 : decode cX7_whole 14 = .ok (.istore 7, 2) := by decide +kernel
theorem dX7_whole_16 : decode cX7_whole 16 = .ok (.aload_n 0, 1) := by decide +kernel
theorem dX7_whole_17 : decode cX7_whole 17 = .ok (.iconst 0, 1) := by decide +kernel
theorem dX7_whole_18 : decode cX7_whole 18 = .ok (.iload_n 2, 1) := by decide +kernel
theorem dX7_whole_19 : decode cX7_whole 19 = .ok (.invokevirtual 48, 3) := by decide +kernel
theorem dX7_whole_22 : decode cX7_whole 22 = .ok (.istore 8, 2) := by decide +kernel
theorem dX7_whole_24 : decode cX7_whole 24 = .ok (.iload_n 1, 1) := by decide +kernel
theorem dX7_whole_25 : decode cX7_whole 25 = .ok (.iconst 1, 1) := by decide +kernel
theorem dX7_whole_26 : decode cX7_whole 26 = .ok (.isub, 1) := by decide +kernel
theorem dX7_whole_27 : decode cX7_whole 27 = .ok (.istore 9, 2) := by decide +kernel
theorem dX7_whole_29 : decode cX7_whole 29 = .ok (.iload 9, 2) := by decide +kernel
theorem dX7_whole_31 : decode cX7_whole 31 = .ok (.ifCond .lt 68, 3) := by decide +kernel
theorem dX7_whole_34 : decode cX7_whole 34 = .ok (.aload_n 0, 1) := by decide +kernel
theorem dX7_whole_35 : decode cX7_whole 35 = .ok (.iload 5, 2) := by decide +kernel
theorem dX7_whole_37 : decode cX7_whole 37 = .ok (.iload_n 2, 1) := by decide +kernel
theorem dX7_whole_38 : decode cX7_whole 38 = .ok (.invokevirtual 48, 3) := by decide +kernel
theorem dX7_whole_41 : decode cX7_whole 41 = .ok (.istore 10, 2) := by decide +kernel
theorem dX7_whole_43 : decode cX7_whole 43 = .ok (.iload 7, 2) := by decide +kernel
theorem dX7_whole_45 : decode cX7_whole 45 = .ok (.iload 10, 2) := by decide +kernel
theorem dX7_whole_47 : decode cX7_whole 47 = .ok (.iadd, 1) := by decide +kernel
theorem dX7_whole_48 : decode cX7_whole 48 = .ok (.istore 7, 2) := by decide +kernel
theorem dX7_whole_50 : decode cX7_whole 50 = .ok (.iload 5, 2) := by decide +kernel
theorem dX7_whole_52 : decode cX7_whole 52 = .ok (.iload 6, 2) := by decide +kernel
theorem dX7_whole_54 : decode cX7_whole 54 = .ok (.if_icmp .le 8, 3) := by decide +kernel
theorem dX7_whole_57 : decode cX7_whole 57 = .ok (.iload 5, 2) := by decide +kernel
theorem dX7_whole_59 : decode cX7_whole 59 = .ok (.goto 5, 3) := by decide +kernel
theorem dX7_whole_62 : decode cX7_whole 62 = .ok (.iload 6, 2) := by decide +kernel
theorem dX7_whole_64 : decode cX7_whole 64 = .ok (.istore 6, 2) := by decide +kernel
theorem dX7_whole_66 : decode cX7_whole 66 = .ok (.iload 10, 2) := by decide +kernel
theorem dX7_whole_68 : decode cX7_whole 68 = .ok (.iload 8, 2) := by decide +kernel
theorem dX7_whole_70 : decode cX7_whole 70 = .ok (.if_icmp .ge 8, 3) := by decide +kernel
theorem dX7_whole_73 : decode cX7_whole 73 = .ok (.iload 10, 2) := by decide +kernel
theorem dX7_whole_75 : decode cX7_whole 75 = .ok (.goto 5, 3) := by decide +kernel
theorem dX7_whole_78 : decode cX7_whole 78 = .ok (.iload 8, 2) := by decide +kernel
theorem dX7_whole_80 : decode cX7_whole 80 = .ok (.istore 8, 2) := by decide +kernel
theorem dX7_whole_82 : decode cX7_whole 82 = .ok (.iload 5, 2) := by decide +kernel
theorem dX7_whole_84 : decode cX7_whole 84 = .ok (.iload 9, 2) := by decide +kernel
theorem dX7_whole_86 : decode cX7_whole 86 = .ok (.iload 4, 2) := by decide +kernel
theorem dX7_whole_88 : decode cX7_whole 88 = .ok (.invokestatic 75, 3) := by decide +kernel
theorem dX7_whole_91 : decode cX7_whole 91 = .ok (.istore 5, 2) := by decide +kernel
theorem dX7_whole_93 : decode cX7_whole 93 = .ok (.iinc 9 (-1), 3) := by decide +kernel
theorem dX7_whole_96 : decode cX7_whole 96 = .ok (.goto (-67), 3) := by decide +kernel
theorem dX7_whole_99 : decode cX7_whole 99 = .ok (.iload_n 3, 1) := by decide +kernel
theorem dX7_whole_100 : decode cX7_whole 100 = .ok (.ifCond .ne 8, 3) := by decide +kernel
theorem dX7_whole_103 : decode cX7_whole 103 = .ok (.iload 7, 2) := by decide +kernel
theorem dX7_whole_105 : decode cX7_whole 105 = .ok (.goto 15, 3) := by decide +kernel
theorem dX7_whole_108 : decode cX7_whole 108 = .ok (.iload_n 3, 1) := by decide +kernel
theorem dX7_whole_109 : decode cX7_whole 109 = .ok (.iconst 1, 1) := by decide +kernel
theorem dX7_whole_110 : decode cX7_whole 110 = .ok (.if_icmp .ne 8, 3) := by decide +kernel
theorem dX7_whole_113 : decode cX7_whole 113 = .ok (.iload 6, 2) := by decide +kernel
theorem dX7_whole_115 : decode cX7_whole 115 = .ok (.goto 5, 3) := by decide +kernel
theorem dX7_whole_118 : decode cX7_whole 118 = .ok (.iload 8, 2) := by decide +kernel
theorem dX7_whole_120 : decode cX7_whole 120 = .ok (.ireturn, 1) := by decide +kernel
set_option maxRecDepth 20000 in
theorem ggX7_moveOf_X7_in : GoodIn wsX7_moveOf wsX7_in := goodIn_r _ [5] (by decide +kernel) (by decide +kernel)
set_option maxRecDepth 20000 in
theorem gX7_moveOf_X7_in : GoodIn wsX7_moveOf (va_wsS RX7 33 yX7_in wsX7_in) := goodIn_app (goodIn_of _ (by decide +kernel)) ggX7_moveOf_X7_in
set_option maxRecDepth 20000 in
theorem ggX7_moveOf_X7_whole : GoodIn wsX7_moveOf wsX7_whole := goodIn_r _ [9, 10, 11, 12, 4, 13, 1, 14, 15, 16, 17, 18, 19, 20, 21, 22, 23, 24, 25, 26, 27, 28, 29, 30, 31, 32, 33, 34, 35, 36, 37] (by decide +kernel) (by decide +kernel)
set_option maxRecDepth 20000 in
theorem gX7_moveOf_X7_whole : GoodIn wsX7_moveOf (wsV RX7 155 RX7 yX7_whole wsX7_whole) := goodIn_app (goodIn_of _ (by decide +kernel)) ggX7_moveOf_X7_whole
theorem dX7_moveOf_0 : decode cX7_moveOf 0 = .ok (.iload_n 1, 1) := by decide +kernel
theorem dX7_moveOf_1 : decode cX7_moveOf 1 = .ok (.iconst 1, 1) := by decide +kernel
theorem dX7_moveOf_2 : decode cX7_moveOf 2 = .ok (.sipush 999, 3) := by decide +kernel
theorem dX7_moveOf_5 : decode cX7_moveOf 5 = .ok (.invokestatic 33, 3) := by decide +kernel
theorem dX7_moveOf_8 : decode cX7_moveOf 8 = .ok (.ifCond .eq 27, 3) := by decide +kernel
theorem dX7_moveOf_11 : decode cX7_moveOf 11 = .ok (.iload_n 2, 1) := by decide +kernel
theorem dX7_moveOf_12 : decode cX7_moveOf 12 = .ok (.iconst 0, 1) := by decide +kernel
theorem dX7_moveOf_13 : decode cX7_moveOf 13 = .ok (.iconst 1, 1) := by decide +kernel
theorem dX7_moveOf_14 : decode cX7_moveOf 14 = .ok (.invokestatic 33, 3) := by decide +kernel
theorem dX7_moveOf_17 : decode cX7_moveOf 17 = .ok (.ifCond .eq 18, 3) := by decide +kernel
theorem dX7_moveOf_20 : decode cX7_moveOf 20 = .ok (.aload_n 0, 1) := by decide +kernel
theorem dX7_moveOf_21 : decode cX7_moveOf 21 = .ok (.iload_n 1, 1) := by decide +kernel
theorem dX7_moveOf_22 : decode cX7_moveOf 22 = .ok (.aload_n 0, 1) := by decide +kernel
theorem dX7_moveOf_23 : decode cX7_moveOf 23 = .ok (.getfield 7, 3) := by decide +kernel
theorem dX7_moveOf_26 : decode cX7_moveOf 26 = .ok (.iconst 2, 1) := by decide +kernel
theorem dX7_moveOf_27 : decode cX7_moveOf 27 = .ok (.iaload, 1) := by decide +kernel
theorem dX7_moveOf_28 : decode cX7_moveOf 28 = .ok (.iload_n 2, 1) := by decide +kernel
theorem dX7_moveOf_29 : decode cX7_moveOf 29 = .ok (.invokevirtual 155, 3) := by decide +kernel
theorem dX7_moveOf_32 : decode cX7_moveOf 32 = .ok (.goto 5, 3) := by decide +kernel
theorem dX7_moveOf_35 : decode cX7_moveOf 35 = .ok (.bipush (-2), 2) := by decide +kernel
theorem dX7_moveOf_37 : decode cX7_moveOf 37 = .ok (.ireturn, 1) := by decide +kernel
set_option maxRecDepth 20000 in
theorem ggX7_bestGain_X7_in : GoodIn wsX7_bestGain wsX7_in := goodIn_r _ [4] (by decide +kernel) (by decide +kernel)
set_option maxRecDepth 20000 in
theorem gX7_bestGain_X7_in : GoodIn wsX7_bestGain (va_wsS RX7 33 yX7_in wsX7_in) := goodIn_app (goodIn_of _ (by decide +kernel)) ggX7_bestGain_X7_in
set_option maxRecDepth 20000 in
theorem ggX7_bestGain_X7_whole : GoodIn wsX7_bestGain wsX7_whole := goodIn_r _ [8, 9, 10, 11, 3, 12, 13, 14, 15, 16, 17, 18, 19, 20, 25, 26, 27, 28, 29, 30, 31, 32, 33, 34, 35, 36, 37, 38, 39, 40, 41] (by decide +kernel) (by decide +kernel)
set_option maxRecDepth 20000 in
theorem gX7_bestGain_X7_whole : GoodIn wsX7_bestGain (wsV RX7 155 RX7 yX7_whole wsX7_whole) := goodIn_app (goodIn_of _ (by decide +kernel)) ggX7_bestGain_X7_whole
set_option maxRecDepth 20000 in
theorem ggX7_bestGain_X7_needs : GoodIn wsX7_bestGain wsX7_needs := goodIn_r _ [24, 13, 25, 26, 27, 28, 29, 30, 31, 32, 33, 34, 35, 36, 37, 38, 39, 40, 41] (by decide +kernel) (by decide +kernel)
set_option maxRecDepth 20000 in
theorem gX7_bestGain_X7_needs : GoodIn wsX7_bestGain (wsV RX7 59 RX7 yX7_needs wsX7_needs) := goodIn_app (goodIn_of _ (by decide +kernel)) ggX7_bestGain_X7_needs
theorem dX7_bestGain_0 : decode cX7_bestGain 0 = .ok (.iload_n 1, 1) := by decide +kernel
theorem dX7_bestGain_1 : decode cX7_bestGain 1 = .ok (.iconst 1, 1) := by decide +kernel
theorem dX7_bestGain_2 : decode cX7_bestGain 2 = .ok (.sipush 999, 3) := by decide +kernel
theorem dX7_bestGain_5 : decode cX7_bestGain 5 = .ok (.invokestatic 33, 3) := by decide +kernel
theorem dX7_bestGain_8 : decode cX7_bestGain 8 = .ok (.ifCond .eq 13, 3) := by decide +kernel
theorem dX7_bestGain_11 : decode cX7_bestGain 11 = .ok (.iload_n 2, 1) := by decide +kernel
theorem dX7_bestGain_12 : decode cX7_bestGain 12 = .ok (.iconst 0, 1) := by decide +kernel
theorem dX7_bestGain_13 : decode cX7_bestGain 13 = .ok (.bipush 9, 2) := by decide +kernel
theorem dX7_bestGain_15 : decode cX7_bestGain 15 = .ok (.invokestatic 33, 3) := by decide +kernel
theorem dX7_bestGain_18 : decode cX7_bestGain 18 = .ok (.ifCond .ne 6, 3) := by decide +kernel
theorem dX7_bestGain_21 : decode cX7_bestGain 21 = .ok (.bipush (-2), 2) := by decide +kernel
theorem dX7_bestGain_23 : decode cX7_bestGain 23 = .ok (.ireturn, 1) := by decide +kernel
theorem dX7_bestGain_24 : decode cX7_bestGain 24 = .ok (.bipush (-6), 2) := by decide +kernel
theorem dX7_bestGain_26 : decode cX7_bestGain 26 = .ok (.istore_n 3, 1) := by decide +kernel
theorem dX7_bestGain_27 : decode cX7_bestGain 27 = .ok (.iconst 1, 1) := by decide +kernel
theorem dX7_bestGain_28 : decode cX7_bestGain 28 = .ok (.istore 4, 2) := by decide +kernel
theorem dX7_bestGain_30 : decode cX7_bestGain 30 = .ok (.iload 4, 2) := by decide +kernel
theorem dX7_bestGain_32 : decode cX7_bestGain 32 = .ok (.bipush 40, 2) := by decide +kernel
theorem dX7_bestGain_34 : decode cX7_bestGain 34 = .ok (.if_icmp .gt 32, 3) := by decide +kernel
theorem dX7_bestGain_37 : decode cX7_bestGain 37 = .ok (.aload_n 0, 1) := by decide +kernel
theorem dX7_bestGain_38 : decode cX7_bestGain 38 = .ok (.iload_n 1, 1) := by decide +kernel
theorem dX7_bestGain_39 : decode cX7_bestGain 39 = .ok (.iload 4, 2) := by decide +kernel
theorem dX7_bestGain_41 : decode cX7_bestGain 41 = .ok (.iconst 2, 1) := by decide +kernel
theorem dX7_bestGain_42 : decode cX7_bestGain 42 = .ok (.invokevirtual 155, 3) := by decide +kernel
theorem dX7_bestGain_45 : decode cX7_bestGain 45 = .ok (.aload_n 0, 1) := by decide +kernel
theorem dX7_bestGain_46 : decode cX7_bestGain 46 = .ok (.iload_n 2, 1) := by decide +kernel
theorem dX7_bestGain_47 : decode cX7_bestGain 47 = .ok (.invokevirtual 59, 3) := by decide +kernel
theorem dX7_bestGain_50 : decode cX7_bestGain 50 = .ok (.if_icmp .lt 8, 3) := by decide +kernel
theorem dX7_bestGain_53 : decode cX7_bestGain 53 = .ok (.iload 4, 2) := by decide +kernel
theorem dX7_bestGain_55 : decode cX7_bestGain 55 = .ok (.goto 4, 3) := by decide +kernel
theorem dX7_bestGain_58 : decode cX7_bestGain 58 = .ok (.iload_n 3, 1) := by decide +kernel
theorem dX7_bestGain_59 : decode cX7_bestGain 59 = .ok (.istore_n 3, 1) := by decide +kernel
theorem dX7_bestGain_60 : decode cX7_bestGain 60 = .ok (.iinc 4 1, 3) := by decide +kernel
theorem dX7_bestGain_63 : decode cX7_bestGain 63 = .ok (.goto (-33), 3) := by decide +kernel
theorem dX7_bestGain_66 : decode cX7_bestGain 66 = .ok (.iload_n 3, 1) := by decide +kernel
theorem dX7_bestGain_67 : decode cX7_bestGain 67 = .ok (.ireturn, 1) := by decide +kernel
set_option maxRecDepth 20000 in
theorem ggX7_bears_X7_isShaft : GoodIn wsX7_bears wsX7_isShaft := goodIn_r _ [6, 1, 7, 8, 5, 9, 25, 26, 27, 28, 29, 30, 31, 32, 33, 34, 35, 36, 37, 38, 39, 40, 41] (by decide +kernel) (by decide +kernel)
set_option maxRecDepth 20000 in
theorem gX7_bears_X7_isShaft : GoodIn wsX7_bears (wsV RX7 89 RX7 yX7_isShaft wsX7_isShaft) := goodIn_app (goodIn_of _ (by decide +kernel)) ggX7_bears_X7_isShaft
set_option maxRecDepth 20000 in
theorem ggX7_bears_X7_rests : GoodIn wsX7_bears wsX7_rests := goodIn_r _ [13, 1, 14, 15, 5, 16, 25, 26, 27, 28, 29, 30, 31, 32, 33, 34, 35, 36, 37, 38, 39, 40, 41] (by decide +kernel) (by decide +kernel)
set_option maxRecDepth 20000 in
theorem gX7_bears_X7_rests : GoodIn wsX7_bears (wsV RX7 51 RX7 yX7_rests wsX7_rests) := goodIn_app (goodIn_of _ (by decide +kernel)) ggX7_bears_X7_rests
set_option maxRecDepth 20000 in
theorem ggX7_bears_X7_at : GoodIn wsX7_bears wsX7_at := goodIn_r _ [16] (by decide +kernel) (by decide +kernel)
set_option maxRecDepth 20000 in
theorem gX7_bears_X7_at : GoodIn wsX7_bears (va_wsS RX7 37 yX7_at wsX7_at) := goodIn_app (goodIn_of _ (by decide +kernel)) ggX7_bears_X7_at
set_option maxRecDepth 20000 in
theorem ggX7_bears_X7_intervalBy : GoodIn wsX7_bears wsX7_intervalBy := goodIn_r _ [20, 1, 25, 26, 27, 28, 29, 30, 31, 32, 33, 34, 35, 36, 37, 38, 39, 40, 41] (by decide +kernel) (by decide +kernel)
set_option maxRecDepth 20000 in
theorem gX7_bears_X7_intervalBy : GoodIn wsX7_bears (wsV RX7 48 RX7 yX7_intervalBy wsX7_intervalBy) := goodIn_app (goodIn_of _ (by decide +kernel)) ggX7_bears_X7_intervalBy
set_option maxRecDepth 20000 in
theorem ggX7_bears_X7_needs : GoodIn wsX7_bears wsX7_needs := goodIn_r _ [24, 1, 25, 26, 27, 28, 29, 30, 31, 32, 33, 34, 35, 36, 37, 38, 39, 40, 41] (by decide +kernel) (by decide +kernel)
set_option maxRecDepth 20000 in
theorem gX7_bears_X7_needs : GoodIn wsX7_bears (wsV RX7 59 RX7 yX7_needs wsX7_needs) := goodIn_app (goodIn_of _ (by decide +kernel)) ggX7_bears_X7_needs
theorem dX7_bears_0 : decode cX7_bears 0 = .ok (.aload_n 0, 1) := by decide +kernel
theorem dX7_bears_1 : decode cX7_bears 1 = .ok (.iload_n 1, 1) := by decide +kernel
theorem dX7_bears_2 : decode cX7_bears 2 = .ok (.invokevirtual 89, 3) := by decide +kernel
theorem dX7_bears_5 : decode cX7_bears 5 = .ok (.ifCond .ne 5, 3) := by decide +kernel
theorem dX7_bears_8 : decode cX7_bears 8 = .ok (.iconst (-1), 1) := by decide +kernel
theorem dX7_bears_9 : decode cX7_bears 9 = .ok (.ireturn, 1) := by decide +kernel
theorem dX7_bears_10 : decode cX7_bears 10 = .ok (.aload_n 0, 1) := by decide +kernel
theorem dX7_bears_11 : decode cX7_bears 11 = .ok (.aload_n 0, 1) := by decide +kernel
theorem dX7_bears_12 : decode cX7_bears 12 = .ok (.iload_n 1, 1) := by decide +kernel
theorem dX7_bears_13 : decode cX7_bears 13 = .ok (.invokevirtual 51, 3) := by decide +kernel
theorem dX7_bears_16 : decode cX7_bears 16 = .ok (.ifCond .eq 7, 3) := by decide +kernel
theorem dX7_bears_19 : decode cX7_bears 19 = .ok (.iconst 0, 1) := by decide +kernel
theorem dX7_bears_20 : decode cX7_bears 20 = .ok (.goto 14, 3) := by decide +kernel
theorem dX7_bears_23 : decode cX7_bears 23 = .ok (.aload_n 0, 1) := by decide +kernel
theorem dX7_bears_24 : decode cX7_bears 24 = .ok (.getfield 7, 3) := by decide +kernel
theorem dX7_bears_27 : decode cX7_bears 27 = .ok (.iload_n 1, 1) := by decide +kernel
theorem dX7_bears_28 : decode cX7_bears 28 = .ok (.bipush 6, 2) := by decide +kernel
theorem dX7_bears_30 : decode cX7_bears 30 = .ok (.invokestatic 37, 3) := by decide +kernel
theorem dX7_bears_33 : decode cX7_bears 33 = .ok (.iaload, 1) := by decide +kernel
theorem dX7_bears_34 : decode cX7_bears 34 = .ok (.aload_n 0, 1) := by decide +kernel
theorem dX7_bears_35 : decode cX7_bears 35 = .ok (.getfield 7, 3) := by decide +kernel
theorem dX7_bears_38 : decode cX7_bears 38 = .ok (.iconst 2, 1) := by decide +kernel
theorem dX7_bears_39 : decode cX7_bears 39 = .ok (.iaload, 1) := by decide +kernel
theorem dX7_bears_40 : decode cX7_bears 40 = .ok (.invokevirtual 48, 3) := by decide +kernel
theorem dX7_bears_43 : decode cX7_bears 43 = .ok (.istore_n 2, 1) := by decide +kernel
theorem dX7_bears_44 : decode cX7_bears 44 = .ok (.bipush (-6), 2) := by decide +kernel
theorem dX7_bears_46 : decode cX7_bears 46 = .ok (.istore_n 3, 1) := by decide +kernel
theorem dX7_bears_47 : decode cX7_bears 47 = .ok (.iconst 0, 1) := by decide +kernel
theorem dX7_bears_48 : decode cX7_bears 48 = .ok (.istore 4, 2) := by decide +kernel
theorem dX7_bears_50 : decode cX7_bears 50 = .ok (.iload 4, 2) := by decide +kernel
theorem dX7_bears_52 : decode cX7_bears 52 = .ok (.bipush 10, 2) := by decide +kernel
theorem dX7_bears_54 : decode cX7_bears 54 = .ok (.if_icmp .ge 26, 3) := by decide +kernel
theorem dX7_bears_57 : decode cX7_bears 57 = .ok (.iload_n 2, 1) := by decide +kernel
theorem dX7_bears_58 : decode cX7_bears 58 = .ok (.aload_n 0, 1) := by decide +kernel
theorem dX7_bears_59 : decode cX7_bears 59 = .ok (.iload 4, 2) := by decide +kernel
theorem dX7_bears_61 : decode cX7_bears 61 = .ok (.invokevirtual 59, 3) := by decide +kernel
theorem dX7_bears_64 : decode cX7_bears 64 = .ok (.if_icmp .lt 8, 3) := by decide +kernel
theorem dX7_bears_67 : decode cX7_bears 67 = .ok (.iload 4, 2) := by decide +kernel
theorem dX7_bears_69 : decode cX7_bears 69 = .ok (.goto 4, 3) := by decide +kernel
theorem dX7_bears_72 : decode cX7_bears 72 = .ok (.iload_n 3, 1) := by decide +kernel
theorem dX7_bears_73 : decode cX7_bears 73 = .ok (.istore_n 3, 1) := by decide +kernel
theorem dX7_bears_74 : decode cX7_bears 74 = .ok (.iinc 4 1, 3) := by decide +kernel
theorem dX7_bears_77 : decode cX7_bears 77 = .ok (.goto (-27), 3) := by decide +kernel
theorem dX7_bears_80 : decode cX7_bears 80 = .ok (.iload_n 3, 1) := by decide +kernel
theorem dX7_bears_81 : decode cX7_bears 81 = .ok (.ireturn, 1) := by decide +kernel
set_option maxRecDepth 20000 in
theorem ggX7_put_X7_in : GoodIn wsX7_put wsX7_in := goodIn_r _ [7] (by decide +kernel) (by decide +kernel)
set_option maxRecDepth 20000 in
theorem gX7_put_X7_in : GoodIn wsX7_put (va_wsS RX7 33 yX7_in wsX7_in) := goodIn_app (goodIn_of _ (by decide +kernel)) ggX7_put_X7_in
theorem dX7_put_0 : decode cX7_put 0 = .ok (.iconst 0, 1) := by decide +kernel
theorem dX7_put_1 : decode cX7_put 1 = .ok (.istore_n 3, 1) := by decide +kernel
theorem dX7_put_2 : decode cX7_put 2 = .ok (.iconst 0, 1) := by decide +kernel
theorem dX7_put_3 : decode cX7_put 3 = .ok (.istore 4, 2) := by decide +kernel
theorem dX7_put_5 : decode cX7_put 5 = .ok (.lload_n 1, 1) := by decide +kernel
theorem dX7_put_6 : decode cX7_put 6 = .ok (.lstore 5, 2) := by decide +kernel
theorem dX7_put_8 : decode cX7_put 8 = .ok (.iload_n 3, 1) := by decide +kernel
theorem dX7_put_9 : decode cX7_put 9 = .ok (.bipush 8, 2) := by decide +kernel
theorem dX7_put_11 : decode cX7_put 11 = .ok (.if_icmp .ge 56, 3) := by decide +kernel
theorem dX7_put_14 : decode cX7_put 14 = .ok (.lload 5, 2) := by decide +kernel
theorem dX7_put_16 : decode cX7_put 16 = .ok (.ldc2_w 158, 3) := by decide +kernel
theorem dX7_put_19 : decode cX7_put 19 = .ok (.land, 1) := by decide +kernel
theorem dX7_put_20 : decode cX7_put 20 = .ok (.lconst 0, 1) := by decide +kernel
theorem dX7_put_21 : decode cX7_put 21 = .ok (.lcmp, 1) := by decide +kernel
theorem dX7_put_22 : decode cX7_put 22 = .ok (.ifCond .eq 45, 3) := by decide +kernel
theorem dX7_put_25 : decode cX7_put 25 = .ok (.iload 4, 2) := by decide +kernel
theorem dX7_put_27 : decode cX7_put 27 = .ok (.ifCond .ne 20, 3) := by decide +kernel
theorem dX7_put_30 : decode cX7_put 30 = .ok (.lload 5, 2) := by decide +kernel
theorem dX7_put_32 : decode cX7_put 32 = .ok (.ldc2_w 158, 3) := by decide +kernel
theorem dX7_put_35 : decode cX7_put 35 = .ok (.land, 1) := by decide +kernel
theorem dX7_put_36 : decode cX7_put 36 = .ok (.l2i, 1) := by decide +kernel
theorem dX7_put_37 : decode cX7_put 37 = .ok (.bipush 33, 2) := by decide +kernel
theorem dX7_put_39 : decode cX7_put 39 = .ok (.bipush 126, 2) := by decide +kernel
theorem dX7_put_41 : decode cX7_put 41 = .ok (.invokestatic 33, 3) := by decide +kernel
theorem dX7_put_44 : decode cX7_put 44 = .ok (.ifCond .ne 7, 3) := by decide +kernel
theorem dX7_put_47 : decode cX7_put 47 = .ok (.iconst 1, 1) := by decide +kernel
theorem dX7_put_48 : decode cX7_put 48 = .ok (.goto 4, 3) := by decide +kernel
theorem dX7_put_51 : decode cX7_put 51 = .ok (.iconst 0, 1) := by decide +kernel
theorem dX7_put_52 : decode cX7_put 52 = .ok (.istore 4, 2) := by decide +kernel
theorem dX7_put_54 : decode cX7_put 54 = .ok (.lload 5, 2) := by decide +kernel
theorem dX7_put_56 : decode cX7_put 56 = .ok (.bipush 8, 2) := by decide +kernel
theorem dX7_put_58 : decode cX7_put 58 = .ok (.lushr, 1) := by decide +kernel
theorem dX7_put_59 : decode cX7_put 59 = .ok (.lstore 5, 2) := by decide +kernel
theorem dX7_put_61 : decode cX7_put 61 = .ok (.iinc 3 1, 3) := by decide +kernel
theorem dX7_put_64 : decode cX7_put 64 = .ok (.goto (-56), 3) := by decide +kernel
theorem dX7_put_67 : decode cX7_put 67 = .ok (.iload 4, 2) := by decide +kernel
theorem dX7_put_69 : decode cX7_put 69 = .ok (.ifCond .ne 14, 3) := by decide +kernel
theorem dX7_put_72 : decode cX7_put 72 = .ok (.iload_n 3, 1) := by decide +kernel
theorem dX7_put_73 : decode cX7_put 73 = .ok (.ifCond .eq 10, 3) := by decide +kernel
theorem dX7_put_76 : decode cX7_put 76 = .ok (.lload 5, 2) := by decide +kernel
theorem dX7_put_78 : decode cX7_put 78 = .ok (.lconst 0, 1) := by decide +kernel
theorem dX7_put_79 : decode cX7_put 79 = .ok (.lcmp, 1) := by decide +kernel
theorem dX7_put_80 : decode cX7_put 80 = .ok (.ifCond .eq 6, 3) := by decide +kernel
theorem dX7_put_83 : decode cX7_put 83 = .ok (.bipush (-2), 2) := by decide +kernel
theorem dX7_put_85 : decode cX7_put 85 = .ok (.ireturn, 1) := by decide +kernel
theorem dX7_put_86 : decode cX7_put 86 = .ok (.aload_n 0, 1) := by decide +kernel
theorem dX7_put_87 : decode cX7_put 87 = .ok (.getfield 149, 3) := by decide +kernel
theorem dX7_put_90 : decode cX7_put 90 = .ok (.iload_n 3, 1) := by decide +kernel
theorem dX7_put_91 : decode cX7_put 91 = .ok (.iadd, 1) := by decide +kernel
theorem dX7_put_92 : decode cX7_put 92 = .ok (.bipush 80, 2) := by decide +kernel
theorem dX7_put_94 : decode cX7_put 94 = .ok (.if_icmp .le 6, 3) := by decide +kernel
theorem dX7_put_97 : decode cX7_put 97 = .ok (.bipush (-4), 2) := by decide +kernel
theorem dX7_put_99 : decode cX7_put 99 = .ok (.ireturn, 1) := by decide +kernel
theorem dX7_put_100 : decode cX7_put 100 = .ok (.iload_n 3, 1) := by decide +kernel
theorem dX7_put_101 : decode cX7_put 101 = .ok (.iconst 1, 1) := by decide +kernel
theorem dX7_put_102 : decode cX7_put 102 = .ok (.isub, 1) := by decide +kernel
theorem dX7_put_103 : decode cX7_put 103 = .ok (.istore 7, 2) := by decide +kernel
theorem dX7_put_105 : decode cX7_put 105 = .ok (.iload 7, 2) := by decide +kernel
theorem dX7_put_107 : decode cX7_put 107 = .ok (.ifCond .lt 40, 3) := by decide +kernel
theorem dX7_put_110 : decode cX7_put 110 = .ok (.aload_n 0, 1) := by decide +kernel
theorem dX7_put_111 : decode cX7_put 111 = .ok (.getfield 26, 3) := by decide +kernel
theorem dX7_put_114 : decode cX7_put 114 = .ok (.aload_n 0, 1) := by decide +kernel
theorem dX7_put_115 : decode cX7_put 115 = .ok (.getfield 149, 3) := by decide +kernel
theorem dX7_put_118 : decode cX7_put 118 = .ok (.lload_n 1, 1) := by decide +kernel
theorem dX7_put_119 : decode cX7_put 119 = .ok (.bipush 8, 2) := by decide +kernel
theorem dX7_put_121 : decode cX7_put 121 = .ok (.iload 7, 2) := by decide +kernel
theorem dX7_put_123 : decode cX7_put 123 = .ok (.imul, 1) := by decide +kernel
theorem dX7_put_124 : decode cX7_put 124 = .ok (.lushr, 1) := by decide +kernel
theorem dX7_put_125 : decode cX7_put 125 = .ok (.ldc2_w 158, 3) := by decide +kernel
theorem dX7_put_128 : decode cX7_put 128 = .ok (.land, 1) := by decide +kernel
theorem dX7_put_129 : decode cX7_put 129 = .ok (.l2i, 1) := by decide +kernel
theorem dX7_put_130 : decode cX7_put 130 = .ok (.iastore, 1) := by decide +kernel
theorem dX7_put_131 : decode cX7_put 131 = .ok (.aload_n 0, 1) := by decide +kernel
theorem dX7_put_132 : decode cX7_put 132 = .ok (.dup, 1) := by decide +kernel
theorem dX7_put_133 : decode cX7_put 133 = .ok (.getfield 149, 3) := by decide +kernel
theorem dX7_put_136 : decode cX7_put 136 = .ok (.iconst 1, 1) := by decide +kernel
theorem dX7_put_137 : decode cX7_put 137 = .ok (.iadd, 1) := by decide +kernel
theorem dX7_put_138 : decode cX7_put 138 = .ok (.putfield 149, 3) := by decide +kernel
theorem dX7_put_141 : decode cX7_put 141 = .ok (.iinc 7 (-1), 3) := by decide +kernel
theorem dX7_put_144 : decode cX7_put 144 = .ok (.goto (-39), 3) := by decide +kernel
theorem dX7_put_147 : decode cX7_put 147 = .ok (.aload_n 0, 1) := by decide +kernel
theorem dX7_put_148 : decode cX7_put 148 = .ok (.getfield 149, 3) := by decide +kernel
theorem dX7_put_151 : decode cX7_put 151 = .ok (.ireturn, 1) := by decide +kernel
theorem dX7_wipe_0 : decode cX7_wipe 0 = .ok (.aload_n 0, 1) := by decide +kernel
theorem dX7_wipe_1 : decode cX7_wipe 1 = .ok (.getfield 149, 3) := by decide +kernel
theorem dX7_wipe_4 : decode cX7_wipe 4 = .ok (.istore_n 1, 1) := by decide +kernel
theorem dX7_wipe_5 : decode cX7_wipe 5 = .ok (.aload_n 0, 1) := by decide +kernel
theorem dX7_wipe_6 : decode cX7_wipe 6 = .ok (.iconst 0, 1) := by decide +kernel
theorem dX7_wipe_7 : decode cX7_wipe 7 = .ok (.putfield 149, 3) := by decide +kernel
theorem dX7_wipe_10 : decode cX7_wipe 10 = .ok (.iload_n 1, 1) := by decide +kernel
theorem dX7_wipe_11 : decode cX7_wipe 11 = .ok (.ireturn, 1) := by decide +kernel
theorem dX7_next_0 : decode cX7_next 0 = .ok (.aload_n 0, 1) := by decide +kernel
theorem dX7_next_1 : decode cX7_next 1 = .ok (.getfield 160, 3) := by decide +kernel
theorem dX7_next_4 : decode cX7_next 4 = .ok (.aload_n 0, 1) := by decide +kernel
theorem dX7_next_5 : decode cX7_next 5 = .ok (.getfield 149, 3) := by decide +kernel
theorem dX7_next_8 : decode cX7_next 8 = .ok (.if_icmp .ge 15, 3) := by decide +kernel
theorem dX7_next_11 : decode cX7_next 11 = .ok (.aload_n 0, 1) := by decide +kernel
theorem dX7_next_12 : decode cX7_next 12 = .ok (.getfield 26, 3) := by decide +kernel
theorem dX7_next_15 : decode cX7_next 15 = .ok (.aload_n 0, 1) := by decide +kernel
theorem dX7_next_16 : decode cX7_next 16 = .ok (.getfield 160, 3) := by decide +kernel
theorem dX7_next_19 : decode cX7_next 19 = .ok (.iaload, 1) := by decide +kernel
theorem dX7_next_20 : decode cX7_next 20 = .ok (.goto 4, 3) := by decide +kernel
theorem dX7_next_23 : decode cX7_next 23 = .ok (.iconst 0, 1) := by decide +kernel
theorem dX7_next_24 : decode cX7_next 24 = .ok (.ireturn, 1) := by decide +kernel
set_option maxRecDepth 20000 in
theorem ggX7_sign_X7_next : GoodIn wsX7_sign wsX7_next := goodIn_r _ [7, 2, 8, 9, 10, 11, 12, 13, 14, 15, 16, 17, 18, 19, 20, 21, 22, 23, 24, 25, 26] (by decide +kernel) (by decide +kernel)
set_option maxRecDepth 20000 in
theorem gX7_sign_X7_next : GoodIn wsX7_sign (wsV RX7 166 RX7 yX7_next wsX7_next) := goodIn_app (goodIn_of _ (by decide +kernel)) ggX7_sign_X7_next
theorem dX7_sign_0 : decode cX7_sign 0 = .ok (.aload_n 0, 1) := by decide +kernel
theorem dX7_sign_1 : decode cX7_sign 1 = .ok (.aload_n 0, 1) := by decide +kernel
theorem dX7_sign_2 : decode cX7_sign 2 = .ok (.getfield 163, 3) := by decide +kernel
theorem dX7_sign_5 : decode cX7_sign 5 = .ok (.ifCond .ne 11, 3) := by decide +kernel
theorem dX7_sign_8 : decode cX7_sign 8 = .ok (.aload_n 0, 1) := by decide +kernel
theorem dX7_sign_9 : decode cX7_sign 9 = .ok (.invokevirtual 166, 3) := by decide +kernel
theorem dX7_sign_12 : decode cX7_sign 12 = .ok (.iload_n 1, 1) := by decide +kernel
theorem dX7_sign_13 : decode cX7_sign 13 = .ok (.if_icmp .eq 7, 3) := by decide +kernel
theorem dX7_sign_16 : decode cX7_sign 16 = .ok (.iconst 1, 1) := by decide +kernel
theorem dX7_sign_17 : decode cX7_sign 17 = .ok (.goto 4, 3) := by decide +kernel
theorem dX7_sign_20 : decode cX7_sign 20 = .ok (.iconst 0, 1) := by decide +kernel
theorem dX7_sign_21 : decode cX7_sign 21 = .ok (.putfield 163, 3) := by decide +kernel
theorem dX7_sign_24 : decode cX7_sign 24 = .ok (.aload_n 0, 1) := by decide +kernel
theorem dX7_sign_25 : decode cX7_sign 25 = .ok (.dup, 1) := by decide +kernel
theorem dX7_sign_26 : decode cX7_sign 26 = .ok (.getfield 160, 3) := by decide +kernel
theorem dX7_sign_29 : decode cX7_sign 29 = .ok (.aload_n 0, 1) := by decide +kernel
theorem dX7_sign_30 : decode cX7_sign 30 = .ok (.getfield 163, 3) := by decide +kernel
theorem dX7_sign_33 : decode cX7_sign 33 = .ok (.ifCond .eq 7, 3) := by decide +kernel
theorem dX7_sign_36 : decode cX7_sign 36 = .ok (.iconst 0, 1) := by decide +kernel
theorem dX7_sign_37 : decode cX7_sign 37 = .ok (.goto 4, 3) := by decide +kernel
theorem dX7_sign_40 : decode cX7_sign 40 = .ok (.iconst 1, 1) := by decide +kernel
theorem dX7_sign_41 : decode cX7_sign 41 = .ok (.iadd, 1) := by decide +kernel
theorem dX7_sign_42 : decode cX7_sign 42 = .ok (.putfield 160, 3) := by decide +kernel
theorem dX7_sign_45 : decode cX7_sign 45 = .ok (.return_, 1) := by decide +kernel
set_option maxRecDepth 20000 in
theorem ggX7_digit_X7_next : GoodIn wsX7_digit wsX7_next := goodIn_r _ [7, 2, 8, 9, 13, 14, 15, 16, 17, 18, 19, 20, 21, 22, 23, 24, 25, 26, 27, 28, 29] (by decide +kernel) (by decide +kernel)
set_option maxRecDepth 20000 in
theorem gX7_digit_X7_next : GoodIn wsX7_digit (wsV RX7 166 RX7 yX7_next wsX7_next) := goodIn_app (goodIn_of _ (by decide +kernel)) ggX7_digit_X7_next
set_option maxRecDepth 20000 in
theorem ggX7_digit_X7_in : GoodIn wsX7_digit wsX7_in := goodIn_r _ [12] (by decide +kernel) (by decide +kernel)
set_option maxRecDepth 20000 in
theorem gX7_digit_X7_in : GoodIn wsX7_digit (va_wsS RX7 33 yX7_in wsX7_in) := goodIn_app (goodIn_of _ (by decide +kernel)) ggX7_digit_X7_in
theorem dX7_digit_0 : decode cX7_digit 0 = .ok (.aload_n 0, 1) := by decide +kernel
theorem dX7_digit_1 : decode cX7_digit 1 = .ok (.invokevirtual 166, 3) := by decide +kernel
theorem dX7_digit_4 : decode cX7_digit 4 = .ok (.istore_n 1, 1) := by decide +kernel
theorem dX7_digit_5 : decode cX7_digit 5 = .ok (.aload_n 0, 1) := by decide +kernel
theorem dX7_digit_6 : decode cX7_digit 6 = .ok (.aload_n 0, 1) := by decide +kernel
theorem dX7_digit_7 : decode cX7_digit 7 = .ok (.getfield 163, 3) := by decide +kernel
theorem dX7_digit_10 : decode cX7_digit 10 = .ok (.ifCond .ne 14, 3) := by decide +kernel
theorem dX7_digit_13 : decode cX7_digit 13 = .ok (.iload_n 1, 1) := by decide +kernel
theorem dX7_digit_14 : decode cX7_digit 14 = .ok (.bipush 48, 2) := by decide +kernel
theorem dX7_digit_16 : decode cX7_digit 16 = .ok (.bipush 57, 2) := by decide +kernel
theorem dX7_digit_18 : decode cX7_digit 18 = .ok (.invokestatic 33, 3) := by decide +kernel
theorem dX7_digit_21 : decode cX7_digit 21 = .ok (.ifCond .ne 7, 3) := by decide +kernel
theorem dX7_digit_24 : decode cX7_digit 24 = .ok (.iconst 1, 1) := by decide +kernel
theorem dX7_digit_25 : decode cX7_digit 25 = .ok (.goto 4, 3) := by decide +kernel
theorem dX7_digit_28 : decode cX7_digit 28 = .ok (.iconst 0, 1) := by decide +kernel
theorem dX7_digit_29 : decode cX7_digit 29 = .ok (.putfield 163, 3) := by decide +kernel
theorem dX7_digit_32 : decode cX7_digit 32 = .ok (.aload_n 0, 1) := by decide +kernel
theorem dX7_digit_33 : decode cX7_digit 33 = .ok (.dup, 1) := by decide +kernel
theorem dX7_digit_34 : decode cX7_digit 34 = .ok (.getfield 160, 3) := by decide +kernel
theorem dX7_digit_37 : decode cX7_digit 37 = .ok (.aload_n 0, 1) := by decide +kernel
theorem dX7_digit_38 : decode cX7_digit 38 = .ok (.getfield 163, 3) := by decide +kernel
theorem dX7_digit_41 : decode cX7_digit 41 = .ok (.ifCond .eq 7, 3) := by decide +kernel
theorem dX7_digit_44 : decode cX7_digit 44 = .ok (.iconst 0, 1) := by decide +kernel
theorem dX7_digit_45 : decode cX7_digit 45 = .ok (.goto 4, 3) := by decide +kernel
theorem dX7_digit_48 : decode cX7_digit 48 = .ok (.iconst 1, 1) := by decide +kernel
theorem dX7_digit_49 : decode cX7_digit 49 = .ok (.iadd, 1) := by decide +kernel
theorem dX7_digit_50 : decode cX7_digit 50 = .ok (.putfield 160, 3) := by decide +kernel
theorem dX7_digit_53 : decode cX7_digit 53 = .ok (.iload_n 1, 1) := by decide +kernel
theorem dX7_digit_54 : decode cX7_digit 54 = .ok (.bipush 48, 2) := by decide +kernel
theorem dX7_digit_56 : decode cX7_digit 56 = .ok (.isub, 1) := by decide +kernel
theorem dX7_digit_57 : decode cX7_digit 57 = .ok (.ireturn, 1) := by decide +kernel
set_option maxRecDepth 20000 in
theorem ggX7_number_X7_digit : GoodIn wsX7_number wsX7_digit := goodIn_r _ [7, 1, 2, 8, 9, 10, 6, 11, 12, 13, 14, 15, 16, 17, 18, 19, 20, 21, 22, 23, 24, 25, 26, 27, 28, 29, 30, 31, 32, 33] (by decide +kernel) (by decide +kernel)
set_option maxRecDepth 20000 in
theorem gX7_number_X7_digit : GoodIn wsX7_number (wsV RX7 169 RX7 yX7_digit wsX7_digit) := goodIn_app (goodIn_of _ (by decide +kernel)) ggX7_number_X7_digit
set_option maxRecDepth 20000 in
theorem ggX7_number_X7_next : GoodIn wsX7_number wsX7_next := goodIn_r _ [11, 2, 12, 13, 17, 18, 19, 20, 21, 22, 23, 24, 25, 26, 27, 28, 29, 30, 31, 32, 33] (by decide +kernel) (by decide +kernel)
set_option maxRecDepth 20000 in
theorem gX7_number_X7_next : GoodIn wsX7_number (wsV RX7 166 RX7 yX7_next wsX7_next) := goodIn_app (goodIn_of _ (by decide +kernel)) ggX7_number_X7_next
set_option maxRecDepth 20000 in
theorem ggX7_number_X7_in : GoodIn wsX7_number wsX7_in := goodIn_r _ [16] (by decide +kernel) (by decide +kernel)
set_option maxRecDepth 20000 in
theorem gX7_number_X7_in : GoodIn wsX7_number (va_wsS RX7 33 yX7_in wsX7_in) := goodIn_app (goodIn_of _ (by decide +kernel)) ggX7_number_X7_in
theorem dX7_number_0 : decode cX7_number 0 = .ok (.aload_n 0, 1) := by decide +kernel
theorem dX7_number_1 : decode cX7_number 1 = .ok (.invokevirtual 169, 3) := by decide +kernel
theorem dX7_number_4 : decode cX7_number 4 = .ok (.istore_n 1, 1) := by decide +kernel
theorem dX7_number_5 : decode cX7_number 5 = .ok (.iconst 1, 1) := by decide +kernel
theorem dX7_number_6 : decode cX7_number 6 = .ok (.istore_n 2, 1) := by decide +kernel
theorem dX7_number_7 : decode cX7_number 7 = .ok (.aload_n 0, 1) := by decide +kernel
theorem dX7_number_8 : decode cX7_number 8 = .ok (.getfield 163, 3) := by decide +kernel
theorem dX7_number_11 : decode cX7_number 11 = .ok (.ifCond .ne 55, 3) := by decide +kernel
theorem dX7_number_14 : decode cX7_number 14 = .ok (.iload_n 1, 1) := by decide +kernel
theorem dX7_number_15 : decode cX7_number 15 = .ok (.ifCond .le 51, 3) := by decide +kernel
theorem dX7_number_18 : decode cX7_number 18 = .ok (.iload_n 2, 1) := by decide +kernel
theorem dX7_number_19 : decode cX7_number 19 = .ok (.iconst 4, 1) := by decide +kernel
theorem dX7_number_20 : decode cX7_number 20 = .ok (.if_icmp .ge 46, 3) := by decide +kernel
theorem dX7_number_23 : decode cX7_number 23 = .ok (.aload_n 0, 1) := by decide +kernel
theorem dX7_number_24 : decode cX7_number 24 = .ok (.invokevirtual 166, 3) := by decide +kernel
theorem dX7_number_27 : decode cX7_number 27 = .ok (.bipush 48, 2) := by decide +kernel
theorem dX7_number_29 : decode cX7_number 29 = .ok (.bipush 57, 2) := by decide +kernel
theorem dX7_number_31 : decode cX7_number 31 = .ok (.invokestatic 33, 3) := by decide +kernel
theorem dX7_number_34 : decode cX7_number 34 = .ok (.ifCond .eq 32, 3) := by decide +kernel
theorem dX7_number_37 : decode cX7_number 37 = .ok (.bipush 10, 2) := by decide +kernel
theorem dX7_number_39 : decode cX7_number 39 = .ok (.iload_n 1, 1) := by decide +kernel
theorem dX7_number_40 : decode cX7_number 40 = .ok (.imul, 1) := by decide +kernel
theorem dX7_number_41 : decode cX7_number 41 = .ok (.aload_n 0, 1) := by decide +kernel
theorem dX7_number_42 : decode cX7_number 42 = .ok (.invokevirtual 166, 3) := by decide +kernel
theorem dX7_number_45 : decode cX7_number 45 = .ok (.iadd, 1) := by decide +kernel
theorem dX7_number_46 : decode cX7_number 46 = .ok (.bipush 48, 2) := by decide +kernel
theorem dX7_number_48 : decode cX7_number 48 = .ok (.isub, 1) := by decide +kernel
theorem dX7_number_49 : decode cX7_number 49 = .ok (.istore_n 1, 1) := by decide +kernel
theorem dX7_number_50 : decode cX7_number 50 = .ok (.aload_n 0, 1) := by decide +kernel
theorem dX7_number_51 : decode cX7_number 51 = .ok (.dup, 1) := by decide +kernel
theorem dX7_number_52 : decode cX7_number 52 = .ok (.getfield 160, 3) := by decide +kernel
theorem dX7_number_55 : decode cX7_number 55 = .ok (.iconst 1, 1) := by decide +kernel
theorem dX7_number_56 : decode cX7_number 56 = .ok (.iadd, 1) := by decide +kernel
theorem dX7_number_57 : decode cX7_number 57 = .ok (.putfield 160, 3) := by decide +kernel
theorem dX7_number_60 : decode cX7_number 60 = .ok (.iinc 2 1, 3) := by decide +kernel
theorem dX7_number_63 : decode cX7_number 63 = .ok (.goto (-56), 3) := by decide +kernel
theorem dX7_number_66 : decode cX7_number 66 = .ok (.iload_n 1, 1) := by decide +kernel
theorem dX7_number_67 : decode cX7_number 67 = .ok (.ireturn, 1) := by decide +kernel
set_option maxRecDepth 20000 in
theorem ggX7_place_X7_next : GoodIn wsX7_place wsX7_next := goodIn_r _ [7, 2, 8, 9, 21, 22, 23, 24, 25, 26, 27, 28, 29, 30, 31, 32, 33, 34, 35, 36, 37] (by decide +kernel) (by decide +kernel)
set_option maxRecDepth 20000 in
theorem gX7_place_X7_next : GoodIn wsX7_place (wsV RX7 166 RX7 yX7_next wsX7_next) := goodIn_app (goodIn_of _ (by decide +kernel)) ggX7_place_X7_next
set_option maxRecDepth 20000 in
theorem ggX7_place_X7_number : GoodIn wsX7_place wsX7_number := goodIn_r _ [13, 1, 2, 14, 15, 16, 6, 17, 3, 4, 5, 7, 8, 9, 18, 19, 20, 21, 22, 23, 24, 25, 26, 27, 28, 29, 30, 31, 32, 33, 34, 35, 36, 37] (by decide +kernel) (by decide +kernel)
set_option maxRecDepth 20000 in
theorem gX7_place_X7_number : GoodIn wsX7_place (wsV RX7 172 RX7 yX7_number wsX7_number) := goodIn_app (goodIn_of _ (by decide +kernel)) ggX7_place_X7_number
theorem dX7_place_0 : decode cX7_place 0 = .ok (.aload_n 0, 1) := by decide +kernel
theorem dX7_place_1 : decode cX7_place 1 = .ok (.getfield 163, 3) := by decide +kernel
theorem dX7_place_4 : decode cX7_place 4 = .ok (.ifCond .ne 16, 3) := by decide +kernel
theorem dX7_place_7 : decode cX7_place 7 = .ok (.aload_n 0, 1) := by decide +kernel
theorem dX7_place_8 : decode cX7_place 8 = .ok (.invokevirtual 166, 3) := by decide +kernel
theorem dX7_place_11 : decode cX7_place 11 = .ok (.bipush 45, 2) := by decide +kernel
theorem dX7_place_13 : decode cX7_place 13 = .ok (.if_icmp .ne 7, 3) := by decide +kernel
theorem dX7_place_16 : decode cX7_place 16 = .ok (.iconst 1, 1) := by decide +kernel
theorem dX7_place_17 : decode cX7_place 17 = .ok (.goto 4, 3) := by decide +kernel
theorem dX7_place_20 : decode cX7_place 20 = .ok (.iconst 0, 1) := by decide +kernel
theorem dX7_place_21 : decode cX7_place 21 = .ok (.istore_n 1, 1) := by decide +kernel
theorem dX7_place_22 : decode cX7_place 22 = .ok (.aload_n 0, 1) := by decide +kernel
theorem dX7_place_23 : decode cX7_place 23 = .ok (.dup, 1) := by decide +kernel
theorem dX7_place_24 : decode cX7_place 24 = .ok (.getfield 160, 3) := by decide +kernel
theorem dX7_place_27 : decode cX7_place 27 = .ok (.iload_n 1, 1) := by decide +kernel
theorem dX7_place_28 : decode cX7_place 28 = .ok (.ifCond .eq 7, 3) := by decide +kernel
theorem dX7_place_31 : decode cX7_place 31 = .ok (.iconst 1, 1) := by decide +kernel
theorem dX7_place_32 : decode cX7_place 32 = .ok (.goto 4, 3) := by decide +kernel
theorem dX7_place_35 : decode cX7_place 35 = .ok (.iconst 0, 1) := by decide +kernel
theorem dX7_place_36 : decode cX7_place 36 = .ok (.iadd, 1) := by decide +kernel
theorem dX7_place_37 : decode cX7_place 37 = .ok (.putfield 160, 3) := by decide +kernel
theorem dX7_place_40 : decode cX7_place 40 = .ok (.aload_n 0, 1) := by decide +kernel
theorem dX7_place_41 : decode cX7_place 41 = .ok (.invokevirtual 172, 3) := by decide +kernel
theorem dX7_place_44 : decode cX7_place 44 = .ok (.istore_n 2, 1) := by decide +kernel
theorem dX7_place_45 : decode cX7_place 45 = .ok (.iload_n 1, 1) := by decide +kernel
theorem dX7_place_46 : decode cX7_place 46 = .ok (.ifCond .eq 8, 3) := by decide +kernel
theorem dX7_place_49 : decode cX7_place 49 = .ok (.iload_n 2, 1) := by decide +kernel
theorem dX7_place_50 : decode cX7_place 50 = .ok (.ineg, 1) := by decide +kernel
theorem dX7_place_51 : decode cX7_place 51 = .ok (.goto 4, 3) := by decide +kernel
theorem dX7_place_54 : decode cX7_place 54 = .ok (.iload_n 2, 1) := by decide +kernel
theorem dX7_place_55 : decode cX7_place 55 = .ok (.ireturn, 1) := by decide +kernel
set_option maxRecDepth 20000 in
theorem ggX7_order_X7_next : GoodIn wsX7_order wsX7_next := goodIn_r _ [11, 2, 12, 13, 33, 34, 35, 36, 37, 38, 39, 40, 41, 42, 43, 44, 45, 46, 47, 48, 49] (by decide +kernel) (by decide +kernel)
set_option maxRecDepth 20000 in
theorem gX7_order_X7_next : GoodIn wsX7_order (wsV RX7 166 RX7 yX7_next wsX7_next) := goodIn_app (goodIn_of _ (by decide +kernel)) ggX7_order_X7_next
set_option maxRecDepth 20000 in
theorem ggX7_order_X7_digit : GoodIn wsX7_order wsX7_digit := goodIn_r _ [17, 6, 2, 7, 8, 9, 10, 11, 12, 13, 18, 19, 20, 33, 34, 35, 36, 37, 38, 39, 40, 41, 42, 43, 44, 45, 46, 47, 48, 49] (by decide +kernel) (by decide +kernel)
set_option maxRecDepth 20000 in
theorem gX7_order_X7_digit : GoodIn wsX7_order (wsV RX7 169 RX7 yX7_digit wsX7_digit) := goodIn_app (goodIn_of _ (by decide +kernel)) ggX7_order_X7_digit
set_option maxRecDepth 20000 in
theorem ggX7_order_X7_sign : GoodIn wsX7_order wsX7_sign := goodIn_r _ [24, 6, 2, 7, 8, 9, 10, 11, 12, 13, 33, 34, 35, 36, 37, 38, 39, 40, 41, 42, 43, 44, 45, 46, 47, 48, 49] (by decide +kernel) (by decide +kernel)
set_option maxRecDepth 20000 in
theorem gX7_order_X7_sign : GoodIn wsX7_order (wsV RX7 181 RX7 yX7_sign wsX7_sign) := goodIn_app (goodIn_of _ (by decide +kernel)) ggX7_order_X7_sign
set_option maxRecDepth 20000 in
theorem ggX7_order_X7_place : GoodIn wsX7_order wsX7_place := goodIn_r _ [28, 6, 2, 7, 8, 9, 10, 11, 12, 13, 29, 30, 31, 32, 14, 15, 16, 17, 18, 19, 20, 33, 34, 35, 36, 37, 38, 39, 40, 41, 42, 43, 44, 45, 46, 47, 48, 49] (by decide +kernel) (by decide +kernel)
set_option maxRecDepth 20000 in
theorem gX7_order_X7_place : GoodIn wsX7_order (wsV RX7 184 RX7 yX7_place wsX7_place) := goodIn_app (goodIn_of _ (by decide +kernel)) ggX7_order_X7_place
set_option maxRecDepth 20000 in
theorem ggX7_order_X7_number : GoodIn wsX7_order wsX7_number := goodIn_r _ [32, 6, 2, 14, 15, 16, 10, 17, 7, 8, 9, 11, 12, 13, 18, 19, 20, 33, 34, 35, 36, 37, 38, 39, 40, 41, 42, 43, 44, 45, 46, 47, 48, 49] (by decide +kernel) (by decide +kernel)
set_option maxRecDepth 20000 in
theorem gX7_order_X7_number : GoodIn wsX7_order (wsV RX7 172 RX7 yX7_number wsX7_number) := goodIn_app (goodIn_of _ (by decide +kernel)) ggX7_order_X7_number
theorem dX7_order_0 : decode cX7_order 0 = .ok (.aload_n 0, 1) := by decide +kernel
theorem dX7_order_1 : decode cX7_order 1 = .ok (.aload_n 0, 1) := by decide +kernel
theorem dX7_order_2 : decode cX7_order 2 = .ok (.invokevirtual 166, 3) := by decide +kernel
theorem dX7_order_5 : decode cX7_order 5 = .ok (.putfield 175, 3) := by decide +kernel
theorem dX7_order_8 : decode cX7_order 8 = .ok (.aload_n 0, 1) := by decide +kernel
theorem dX7_order_9 : decode cX7_order 9 = .ok (.getfield 175, 3) := by decide +kernel
theorem dX7_order_12 : decode cX7_order 12 = .ok (.tableswitch 229 104 116 #[208, 229, 229, 229, 152, 68, 208, 229, 103, 229, 229, 208, 187], 68) := by decide +kernel
theorem dX7_order_80 : decode cX7_order 80 = .ok (.aload_n 0, 1) := by decide +kernel
theorem dX7_order_81 : decode cX7_order 81 = .ok (.dup, 1) := by decide +kernel
theorem dX7_order_82 : decode cX7_order 82 = .ok (.getfield 160, 3) := by decide +kernel
theorem dX7_order_85 : decode cX7_order 85 = .ok (.iconst 1, 1) := by decide +kernel
theorem dX7_order_86 : decode cX7_order 86 = .ok (.iadd, 1) := by decide +kernel
theorem dX7_order_87 : decode cX7_order 87 = .ok (.putfield 160, 3) := by decide +kernel
theorem dX7_order_90 : decode cX7_order 90 = .ok (.aload_n 0, 1) := by decide +kernel
theorem dX7_order_91 : decode cX7_order 91 = .ok (.aload_n 0, 1) := by decide +kernel
theorem dX7_order_92 : decode cX7_order 92 = .ok (.invokevirtual 169, 3) := by decide +kernel
theorem dX7_order_95 : decode cX7_order 95 = .ok (.putfield 178, 3) := by decide +kernel
theorem dX7_order_98 : decode cX7_order 98 = .ok (.aload_n 0, 1) := by decide +kernel
theorem dX7_order_99 : decode cX7_order 99 = .ok (.bipush 64, 2) := by decide +kernel
theorem dX7_order_101 : decode cX7_order 101 = .ok (.invokevirtual 181, 3) := by decide +kernel
theorem dX7_order_104 : decode cX7_order 104 = .ok (.aload_n 0, 1) := by decide +kernel
theorem dX7_order_105 : decode cX7_order 105 = .ok (.aload_n 0, 1) := by decide +kernel
theorem dX7_order_106 : decode cX7_order 106 = .ok (.invokevirtual 184, 3) := by decide +kernel
theorem dX7_order_109 : decode cX7_order 109 = .ok (.putfield 187, 3) := by decide +kernel
theorem dX7_order_112 : decode cX7_order 112 = .ok (.goto 134, 3) := by decide +kernel
theorem dX7_order_115 : decode cX7_order 115 = .ok (.aload_n 0, 1) := by decide +kernel
theorem dX7_order_116 : decode cX7_order 116 = .ok (.dup, 1) := by decide +kernel
theorem dX7_order_117 : decode cX7_order 117 = .ok (.getfield 160, 3) := by decide +kernel
theorem dX7_order_120 : decode cX7_order 120 = .ok (.iconst 1, 1) := by decide +kernel
theorem dX7_order_121 : decode cX7_order 121 = .ok (.iadd, 1) := by decide +kernel
theorem dX7_order_122 : decode cX7_order 122 = .ok (.putfield 160, 3) := by decide +kernel
theorem dX7_order_125 : decode cX7_order 125 = .ok (.aload_n 0, 1) := by decide +kernel
theorem dX7_order_126 : decode cX7_order 126 = .ok (.aload_n 0, 1) := by decide +kernel
theorem dX7_order_127 : decode cX7_order 127 = .ok (.invokevirtual 172, 3) := by decide +kernel
theorem dX7_order_130 : decode cX7_order 130 = .ok (.putfield 178, 3) := by decide +kernel
theorem dX7_order_133 : decode cX7_order 133 = .ok (.aload_n 0, 1) := by decide +kernel
theorem dX7_order_134 : decode cX7_order 134 = .ok (.bipush 58, 2) := by decide +kernel
theorem dX7_order_136 : decode cX7_order 136 = .ok (.invokevirtual 181, 3) := by decide +kernel
theorem dX7_order_139 : decode cX7_order 139 = .ok (.aload_n 0, 1) := by decide +kernel
theorem dX7_order_140 : decode cX7_order 140 = .ok (.aload_n 0, 1) := by decide +kernel
theorem dX7_order_141 : decode cX7_order 141 = .ok (.invokevirtual 169, 3) := by decide +kernel
theorem dX7_order_144 : decode cX7_order 144 = .ok (.putfield 187, 3) := by decide +kernel
theorem dX7_order_147 : decode cX7_order 147 = .ok (.aload_n 0, 1) := by decide +kernel
theorem dX7_order_148 : decode cX7_order 148 = .ok (.bipush 64, 2) := by decide +kernel
theorem dX7_order_150 : decode cX7_order 150 = .ok (.invokevirtual 181, 3) := by decide +kernel
theorem dX7_order_153 : decode cX7_order 153 = .ok (.aload_n 0, 1) := by decide +kernel
theorem dX7_order_154 : decode cX7_order 154 = .ok (.aload_n 0, 1) := by decide +kernel
theorem dX7_order_155 : decode cX7_order 155 = .ok (.invokevirtual 184, 3) := by decide +kernel
theorem dX7_order_158 : decode cX7_order 158 = .ok (.putfield 190, 3) := by decide +kernel
theorem dX7_order_161 : decode cX7_order 161 = .ok (.goto 85, 3) := by decide +kernel
theorem dX7_order_164 : decode cX7_order 164 = .ok (.aload_n 0, 1) := by decide +kernel
theorem dX7_order_165 : decode cX7_order 165 = .ok (.dup, 1) := by decide +kernel
theorem dX7_order_166 : decode cX7_order 166 = .ok (.getfield 160, 3) := by decide +kernel
theorem dX7_order_169 : decode cX7_order 169 = .ok (.iconst 1, 1) := by decide +kernel
theorem dX7_order_170 : decode cX7_order 170 = .ok (.iadd, 1) := by decide +kernel
theorem dX7_order_171 : decode cX7_order 171 = .ok (.putfield 160, 3) := by decide +kernel
theorem dX7_order_174 : decode cX7_order 174 = .ok (.aload_n 0, 1) := by decide +kernel
theorem dX7_order_175 : decode cX7_order 175 = .ok (.aload_n 0, 1) := by decide +kernel
theorem dX7_order_176 : decode cX7_order 176 = .ok (.invokevirtual 169, 3) := by decide +kernel
theorem dX7_order_179 : decode cX7_order 179 = .ok (.putfield 178, 3) := by decide +kernel
theorem dX7_order_182 : decode cX7_order 182 = .ok (.aload_n 0, 1) := by decide +kernel
theorem dX7_order_183 : decode cX7_order 183 = .ok (.bipush 61, 2) := by decide +kernel
theorem dX7_order_185 : decode cX7_order 185 = .ok (.invokevirtual 181, 3) := by decide +kernel
theorem dX7_order_188 : decode cX7_order 188 = .ok (.aload_n 0, 1) := by decide +kernel
theorem dX7_order_189 : decode cX7_order 189 = .ok (.aload_n 0, 1) := by decide +kernel
theorem dX7_order_190 : decode cX7_order 190 = .ok (.invokevirtual 169, 3) := by decide +kernel
theorem dX7_order_193 : decode cX7_order 193 = .ok (.putfield 187, 3) := by decide +kernel
theorem dX7_order_196 : decode cX7_order 196 = .ok (.goto 50, 3) := by decide +kernel
theorem dX7_order_199 : decode cX7_order 199 = .ok (.aload_n 0, 1) := by decide +kernel
theorem dX7_order_200 : decode cX7_order 200 = .ok (.dup, 1) := by decide +kernel
theorem dX7_order_201 : decode cX7_order 201 = .ok (.getfield 160, 3) := by decide +kernel
theorem dX7_order_204 : decode cX7_order 204 = .ok (.iconst 1, 1) := by decide +kernel
theorem dX7_order_205 : decode cX7_order 205 = .ok (.iadd, 1) := by decide +kernel
theorem dX7_order_206 : decode cX7_order 206 = .ok (.putfield 160, 3) := by decide +kernel
theorem dX7_order_209 : decode cX7_order 209 = .ok (.aload_n 0, 1) := by decide +kernel
theorem dX7_order_210 : decode cX7_order 210 = .ok (.aload_n 0, 1) := by decide +kernel
theorem dX7_order_211 : decode cX7_order 211 = .ok (.invokevirtual 172, 3) := by decide +kernel
theorem dX7_order_214 : decode cX7_order 214 = .ok (.putfield 178, 3) := by decide +kernel
theorem dX7_order_217 : decode cX7_order 217 = .ok (.goto 29, 3) := by decide +kernel
theorem dX7_order_220 : decode cX7_order 220 = .ok (.aload_n 0, 1) := by decide +kernel
theorem dX7_order_221 : decode cX7_order 221 = .ok (.dup, 1) := by decide +kernel
theorem dX7_order_222 : decode cX7_order 222 = .ok (.getfield 160, 3) := by decide +kernel
theorem dX7_order_225 : decode cX7_order 225 = .ok (.iconst 1, 1) := by decide +kernel
theorem dX7_order_226 : decode cX7_order 226 = .ok (.iadd, 1) := by decide +kernel
theorem dX7_order_227 : decode cX7_order 227 = .ok (.putfield 160, 3) := by decide +kernel
theorem dX7_order_230 : decode cX7_order 230 = .ok (.aload_n 0, 1) := by decide +kernel
theorem dX7_order_231 : decode cX7_order 231 = .ok (.aload_n 0, 1) := by decide +kernel
theorem dX7_order_232 : decode cX7_order 232 = .ok (.invokevirtual 169, 3) := by decide +kernel
theorem dX7_order_235 : decode cX7_order 235 = .ok (.putfield 178, 3) := by decide +kernel
theorem dX7_order_238 : decode cX7_order 238 = .ok (.goto 8, 3) := by decide +kernel
theorem dX7_order_241 : decode cX7_order 241 = .ok (.aload_n 0, 1) := by decide +kernel
theorem dX7_order_242 : decode cX7_order 242 = .ok (.iconst 1, 1) := by decide +kernel
theorem dX7_order_243 : decode cX7_order 243 = .ok (.putfield 163, 3) := by decide +kernel
theorem dX7_order_246 : decode cX7_order 246 = .ok (.return_, 1) := by decide +kernel
set_option maxRecDepth 20000 in
theorem ggX7_does_X7_moves : GoodIn wsX7_does wsX7_moves := goodIn_r _ [9, 10, 11, 12, 13, 8, 14, 15, 16, 17, 18, 19, 20, 21, 22, 23, 24, 25, 26, 27, 28, 29, 30, 31, 32, 33, 34, 35, 36, 37, 38, 39, 40, 41, 42, 99, 100, 101, 102, 103, 104, 105, 106, 107, 108, 109, 110, 111, 112, 113, 114, 115] (by decide +kernel) (by decide +kernel)
set_option maxRecDepth 20000 in
theorem gX7_does_X7_moves : GoodIn wsX7_does (wsV RX7 125 RX7 yX7_moves wsX7_moves) := goodIn_app (goodIn_of _ (by decide +kernel)) ggX7_does_X7_moves
set_option maxRecDepth 20000 in
theorem ggX7_does_X7_plans : GoodIn wsX7_does wsX7_plans := goodIn_r _ [46, 10, 11, 12, 13, 8, 14, 15, 16, 17, 18, 19, 20, 99, 100, 101, 102, 103, 104, 105, 106, 107, 108, 109, 110, 111, 112, 113, 114, 115] (by decide +kernel) (by decide +kernel)
set_option maxRecDepth 20000 in
theorem gX7_does_X7_plans : GoodIn wsX7_does (wsV RX7 128 RX7 yX7_plans wsX7_plans) := goodIn_app (goodIn_of _ (by decide +kernel)) ggX7_does_X7_plans
set_option maxRecDepth 20000 in
theorem ggX7_does_X7_loads : GoodIn wsX7_does wsX7_loads := goodIn_r _ [50, 10, 11, 12, 13, 8, 14, 15, 16, 17, 25, 26, 27, 99, 100, 101, 102, 103, 104, 105, 106, 107, 108, 109, 110, 111, 112, 113, 114, 115] (by decide +kernel) (by decide +kernel)
set_option maxRecDepth 20000 in
theorem gX7_does_X7_loads : GoodIn wsX7_does (wsV RX7 122 RX7 yX7_loads wsX7_loads) := goodIn_app (goodIn_of _ (by decide +kernel)) ggX7_does_X7_loads
