theorem dX6_restore_5 : decode cX6_restore 5 = .ok (.iconst 2, 1) := by decide +kernel
theorem dX6_restore_6 : decode cX6_restore 6 = .ok (.if_icmp .lt 6, 3) := by decide +kernel
theorem dX6_restore_9 : decode cX6_restore 9 = .ok (.bipush (-2), 2) := by decide +kernel
theorem dX6_restore_11 : decode cX6_restore 11 = .ok (.ireturn, 1) := by decide +kernel
theorem dX6_restore_12 : decode cX6_restore 12 = .ok (.aload_n 0, 1) := by decide +kernel
theorem dX6_restore_13 : decode cX6_restore 13 = .ok (.getfield 30, 3) := by decide +kernel
theorem dX6_restore_16 : decode cX6_restore 16 = .ok (.iload_n 1, 1) := by decide +kernel
theorem dX6_restore_17 : decode cX6_restore 17 = .ok (.baload, 1) := by decide +kernel
theorem dX6_restore_18 : decode cX6_restore 18 = .ok (.ifCond .ne 6, 3) := by decide +kernel
theorem dX6_restore_21 : decode cX6_restore 21 = .ok (.bipush (-5), 2) := by decide +kernel
theorem dX6_restore_23 : decode cX6_restore 23 = .ok (.ireturn, 1) := by decide +kernel
theorem dX6_restore_24 : decode cX6_restore 24 = .ok (.aload_n 0, 1) := by decide +kernel
theorem dX6_restore_25 : decode cX6_restore 25 = .ok (.getfield 22, 3) := by decide +kernel
theorem dX6_restore_28 : decode cX6_restore 28 = .ok (.aload_n 0, 1) := by decide +kernel
theorem dX6_restore_29 : decode cX6_restore 29 = .ok (.getfield 10, 3) := by decide +kernel
theorem dX6_restore_32 : decode cX6_restore 32 = .ok (.invokevirtual 46, 3) := by decide +kernel
theorem dX6_restore_35 : decode cX6_restore 35 = .ok (.aload_n 0, 1) := by decide +kernel
theorem dX6_restore_36 : decode cX6_restore 36 = .ok (.getfield 10, 3) := by decide +kernel
theorem dX6_restore_39 : decode cX6_restore 39 = .ok (.aload_n 0, 1) := by decide +kernel
theorem dX6_restore_40 : decode cX6_restore 40 = .ok (.getfield 26, 3) := by decide +kernel
theorem dX6_restore_43 : decode cX6_restore 43 = .ok (.iload_n 1, 1) := by decide +kernel
theorem dX6_restore_44 : decode cX6_restore 44 = .ok (.aaload, 1) := by decide +kernel
theorem dX6_restore_45 : decode cX6_restore 45 = .ok (.invokevirtual 183, 3) := by decide +kernel
theorem dX6_restore_48 : decode cX6_restore 48 = .ok (.aload_n 0, 1) := by decide +kernel
theorem dX6_restore_49 : decode cX6_restore 49 = .ok (.aload_n 0, 1) := by decide +kernel
theorem dX6_restore_50 : decode cX6_restore 50 = .ok (.getfield 10, 3) := by decide +kernel
theorem dX6_restore_53 : decode cX6_restore 53 = .ok (.getfield 150, 3) := by decide +kernel
theorem dX6_restore_56 : decode cX6_restore 56 = .ok (.invokevirtual 60, 3) := by decide +kernel
theorem dX6_restore_59 : decode cX6_restore 59 = .ok (.ireturn, 1) := by decide +kernel
theorem dX6_isError_0 : decode cX6_isError 0 = .ok (.iload_n 0, 1) := by decide +kernel
theorem dX6_isError_1 : decode cX6_isError 1 = .ok (.ifCond .ge 7, 3) := by decide +kernel
theorem dX6_isError_4 : decode cX6_isError 4 = .ok (.iconst 1, 1) := by decide +kernel
theorem dX6_isError_5 : decode cX6_isError 5 = .ok (.goto 4, 3) := by decide +kernel
theorem dX6_isError_8 : decode cX6_isError 8 = .ok (.iconst 0, 1) := by decide +kernel
theorem dX6_isError_9 : decode cX6_isError 9 = .ok (.ireturn, 1) := by decide +kernel
set_option maxRecDepth 20000 in
theorem ggX6_recorded_X6_isError : GoodIn wsX6_recorded wsX6_isError := goodIn_r _ [5] (by decide +kernel) (by decide +kernel)
set_option maxRecDepth 20000 in
theorem gX6_recorded_X6_isError : GoodIn wsX6_recorded (va_wsS RX6 233 yX6_isError wsX6_isError) := goodIn_app (goodIn_of _ (by decide +kernel)) ggX6_recorded_X6_isError
set_option maxRecDepth 20000 in
theorem ggX6_recorded_X1_keepMarked : GoodIn wsX6_recorded wsX1_keepMarked := goodIn_r _ [10, 11, 12, 13, 14, 15, 16, 17, 25, 26, 27] (by decide +kernel) (by decide +kernel)
set_option maxRecDepth 20000 in
theorem gX6_recorded_X1_keepMarked : GoodIn wsX6_recorded (wsV RX6 248 RX1 yX1_keepMarked wsX1_keepMarked) := goodIn_app (goodIn_of _ (by decide +kernel)) ggX6_recorded_X1_keepMarked
theorem dX6_recorded_0 : decode cX6_recorded 0 = .ok (.iload_n 1, 1) := by decide +kernel
theorem dX6_recorded_1 : decode cX6_recorded 1 = .ok (.invokestatic 233, 3) := by decide +kernel
theorem dX6_recorded_4 : decode cX6_recorded 4 = .ok (.ifCond .ne 10, 3) := by decide +kernel
theorem dX6_recorded_7 : decode cX6_recorded 7 = .ok (.aload_n 0, 1) := by decide +kernel
theorem dX6_recorded_8 : decode cX6_recorded 8 = .ok (.getfield 22, 3) := by decide +kernel
theorem dX6_recorded_11 : decode cX6_recorded 11 = .ok (.invokevirtual 248, 3) := by decide +kernel
theorem dX6_recorded_14 : decode cX6_recorded 14 = .ok (.iload_n 1, 1) := by decide +kernel
theorem dX6_recorded_15 : decode cX6_recorded 15 = .ok (.ireturn, 1) := by decide +kernel
set_option maxRecDepth 20000 in
theorem ggX6_carryOutOrder_X0_addShaft : GoodIn wsX6_carryOutOrder wsX0_addShaft := goodIn_r _ [11, 12, 13, 14, 176, 177, 178, 179, 180, 181, 182, 183, 184, 185, 186, 187, 188, 189, 190, 191, 192, 193, 194, 195] (by decide +kernel) (by decide +kernel)
set_option maxRecDepth 20000 in
theorem gX6_carryOutOrder_X0_addShaft : GoodIn wsX6_carryOutOrder (wsV RX6 64 RX0 yX0_addShaft wsX0_addShaft) := goodIn_app (goodIn_of _ (by decide +kernel)) ggX6_carryOutOrder_X0_addShaft
set_option maxRecDepth 20000 in
theorem ggX6_carryOutOrder_X0_moveTo : GoodIn wsX6_carryOutOrder wsX0_moveTo := goodIn_r _ [18, 19, 20, 21, 22, 23, 24, 10, 25, 12, 13, 26, 27, 28, 29, 30, 31, 32, 33, 34, 35, 36, 37, 38, 39, 40, 41, 42, 43, 44, 45, 46, 47, 48, 49, 50, 51, 52, 53, 54, 55, 56, 57, 58, 59, 60, 61, 62, 63, 64, 65, 66, 67, 176, 177, 178, 179, 180, 181, 182, 183, 184, 185, 186, 187, 188, 189, 190, 191, 192, 193, 194, 195, 196, 197, 198, 199, 200] (by decide +kernel) (by decide +kernel)
set_option maxRecDepth 20000 in
theorem gX6_carryOutOrder_X0_moveTo : GoodIn wsX6_carryOutOrder (wsV RX6 70 RX0 yX0_moveTo wsX0_moveTo) := goodIn_app (goodIn_of _ (by decide +kernel)) ggX6_carryOutOrder_X0_moveTo
set_option maxRecDepth 20000 in
theorem ggX6_carryOutOrder_X0_addPlan : GoodIn wsX6_carryOutOrder wsX0_addPlan := goodIn_r _ [71, 72, 73, 19, 74, 75, 22, 23, 24, 10, 25, 12, 13, 26, 27, 28, 76, 77, 78, 79, 176, 177, 178, 179, 180, 181, 182, 183] (by decide +kernel) (by decide +kernel)
set_option maxRecDepth 20000 in
theorem gX6_carryOutOrder_X0_addPlan : GoodIn wsX6_carryOutOrder (wsV RX6 73 RX0 yX0_addPlan wsX0_addPlan) := goodIn_app (goodIn_of _ (by decide +kernel)) ggX6_carryOutOrder_X0_addPlan
set_option maxRecDepth 20000 in
theorem ggX6_carryOutOrder_X0_halt : GoodIn wsX6_carryOutOrder wsX0_halt := goodIn_r _ [83, 84, 22, 23, 24, 10, 25, 12, 13, 29, 30, 31, 32, 33, 34, 85, 86, 87, 88, 39, 89, 90, 91, 92, 57, 93, 94, 53, 95, 184, 185, 186, 187, 188, 189, 190, 191, 192, 193, 194, 195, 176, 177, 178, 179, 180, 181, 182, 183] (by decide +kernel) (by decide +kernel)
set_option maxRecDepth 20000 in
theorem gX6_carryOutOrder_X0_halt : GoodIn wsX6_carryOutOrder (wsV RX6 77 RX0 yX0_halt wsX0_halt) := goodIn_app (goodIn_of _ (by decide +kernel)) ggX6_carryOutOrder_X0_halt
set_option maxRecDepth 20000 in
theorem ggX6_carryOutOrder_X0_changeLoad : GoodIn wsX6_carryOutOrder wsX0_changeLoad := goodIn_r _ [99, 100, 22, 23, 24, 10, 25, 12, 13, 184, 185, 186, 187, 188, 189, 190, 191, 192, 193, 194, 195, 176, 177, 178, 179, 180, 181, 182, 183] (by decide +kernel) (by decide +kernel)
set_option maxRecDepth 20000 in
theorem gX6_carryOutOrder_X0_changeLoad : GoodIn wsX6_carryOutOrder (wsV RX6 67 RX0 yX0_changeLoad wsX0_changeLoad) := goodIn_app (goodIn_of _ (by decide +kernel)) ggX6_carryOutOrder_X0_changeLoad
set_option maxRecDepth 20000 in
theorem ggX6_carryOutOrder_X0_bringHome : GoodIn wsX6_carryOutOrder wsX0_bringHome := goodIn_r _ [104, 105, 106, 107, 22, 23, 24, 10, 25, 12, 13, 29, 30, 31, 32, 33, 34, 184, 185, 186, 187, 188, 189, 190, 191, 192, 193, 194, 195, 176, 177, 178, 179, 180, 181, 182, 183] (by decide +kernel) (by decide +kernel)
set_option maxRecDepth 20000 in
theorem gX6_carryOutOrder_X0_bringHome : GoodIn wsX6_carryOutOrder (wsV RX6 80 RX0 yX0_bringHome wsX0_bringHome) := goodIn_app (goodIn_of _ (by decide +kernel)) ggX6_carryOutOrder_X0_bringHome
set_option maxRecDepth 20000 in
theorem ggX6_carryOutOrder_X0_passTicks : GoodIn wsX6_carryOutOrder wsX0_passTicks := goodIn_r _ [111, 19, 112, 113, 114, 115, 10, 116, 72, 73, 117, 13, 118, 119, 94, 53, 95, 29, 30, 31, 32, 33, 34, 120, 121, 122, 123, 74, 75, 20, 22, 23, 24, 25, 12, 40, 41, 42, 43, 44, 39, 45, 46, 47, 48, 49, 50, 51, 52, 54, 55, 56, 57, 58, 59, 60, 61, 62, 63, 64, 65, 66, 67, 36, 37, 38, 76, 77, 78, 79, 124, 125, 126, 127, 128, 129, 130, 131, 132, 133, 134, 135, 136, 137, 138, 139, 140, 141, 142, 143, 144, 145, 146, 147, 148, 149, 150, 151, 152, 153, 154, 155, 156, 157, 158, 159, 160, 161, 162, 176, 177, 178, 179, 180, 181, 182, 183, 184, 185, 186, 187, 188, 189, 190, 191, 192, 193, 194, 195, 196, 197, 198, 199, 200] (by decide +kernel) (by decide +kernel)
set_option maxRecDepth 20000 in
theorem gX6_carryOutOrder_X0_passTicks : GoodIn wsX6_carryOutOrder (wsV RX6 83 RX0 yX0_passTicks wsX0_passTicks) := goodIn_app (goodIn_of _ (by decide +kernel)) ggX6_carryOutOrder_X0_passTicks
theorem dX6_carryOutOrder_0 : decode cX6_carryOutOrder 0 = .ok (.aload_n 0, 1) := by decide +kernel
theorem dX6_carryOutOrder_1 : decode cX6_carryOutOrder 1 = .ok (.getfield 37, 3) := by decide +kernel
theorem dX6_carryOutOrder_4 : decode cX6_carryOutOrder 4 = .ok (.getfield 251, 3) := by decide +kernel
theorem dX6_carryOutOrder_7 : decode cX6_carryOutOrder 7 = .ok (.tableswitch 198 104 116 #[168, 198, 198, 198, 146, 80, 65, 198, 102, 198, 198, 131, 183], 65) := by decide +kernel
theorem dX6_carryOutOrder_72 : decode cX6_carryOutOrder 72 = .ok (.aload_n 0, 1) := by decide +kernel
theorem dX6_carryOutOrder_73 : decode cX6_carryOutOrder 73 = .ok (.getfield 10, 3) := by decide +kernel
theorem dX6_carryOutOrder_76 : decode cX6_carryOutOrder 76 = .ok (.aload_n 0, 1) := by decide +kernel
theorem dX6_carryOutOrder_77 : decode cX6_carryOutOrder 77 = .ok (.getfield 37, 3) := by decide +kernel
theorem dX6_carryOutOrder_80 : decode cX6_carryOutOrder 80 = .ok (.getfield 254, 3) := by decide +kernel
theorem dX6_carryOutOrder_83 : decode cX6_carryOutOrder 83 = .ok (.invokevirtual 64, 3) := by decide +kernel
theorem dX6_carryOutOrder_86 : decode cX6_carryOutOrder 86 = .ok (.ireturn, 1) := by decide +kernel
theorem dX6_carryOutOrder_87 : decode cX6_carryOutOrder 87 = .ok (.aload_n 0, 1) := by decide +kernel
theorem dX6_carryOutOrder_88 : decode cX6_carryOutOrder 88 = .ok (.getfield 10, 3) := by decide +kernel
theorem dX6_carryOutOrder_91 : decode cX6_carryOutOrder 91 = .ok (.aload_n 0, 1) := by decide +kernel
theorem dX6_carryOutOrder_92 : decode cX6_carryOutOrder 92 = .ok (.getfield 37, 3) := by decide +kernel
theorem dX6_carryOutOrder_95 : decode cX6_carryOutOrder 95 = .ok (.getfield 254, 3) := by decide +kernel
theorem dX6_carryOutOrder_98 : decode cX6_carryOutOrder 98 = .ok (.aload_n 0, 1) := by decide +kernel
theorem dX6_carryOutOrder_99 : decode cX6_carryOutOrder 99 = .ok (.getfield 37, 3) := by decide +kernel
theorem dX6_carryOutOrder_102 : decode cX6_carryOutOrder 102 = .ok (.getfield 257, 3) := by decide +kernel
theorem dX6_carryOutOrder_105 : decode cX6_carryOutOrder 105 = .ok (.invokevirtual 70, 3) := by decide +kernel
theorem dX6_carryOutOrder_108 : decode cX6_carryOutOrder 108 = .ok (.ireturn, 1) := by decide +kernel
theorem dX6_carryOutOrder_109 : decode cX6_carryOutOrder 109 = .ok (.aload_n 0, 1) := by decide +kernel
theorem dX6_carryOutOrder_110 : decode cX6_carryOutOrder 110 = .ok (.getfield 10, 3) := by decide +kernel
theorem dX6_carryOutOrder_113 : decode cX6_carryOutOrder 113 = .ok (.aload_n 0, 1) := by decide +kernel
theorem dX6_carryOutOrder_114 : decode cX6_carryOutOrder 114 = .ok (.getfield 37, 3) := by decide +kernel
theorem dX6_carryOutOrder_117 : decode cX6_carryOutOrder 117 = .ok (.getfield 260, 3) := by decide +kernel
theorem dX6_carryOutOrder_120 : decode cX6_carryOutOrder 120 = .ok (.aload_n 0, 1) := by decide +kernel
theorem dX6_carryOutOrder_121 : decode cX6_carryOutOrder 121 = .ok (.getfield 37, 3) := by decide +kernel
theorem dX6_carryOutOrder_124 : decode cX6_carryOutOrder 124 = .ok (.getfield 254, 3) := by decide +kernel
theorem dX6_carryOutOrder_127 : decode cX6_carryOutOrder 127 = .ok (.aload_n 0, 1) := by decide +kernel
theorem dX6_carryOutOrder_128 : decode cX6_carryOutOrder 128 = .ok (.getfield 37, 3) := by decide +kernel
theorem dX6_carryOutOrder_131 : decode cX6_carryOutOrder 131 = .ok (.getfield 257, 3) := by decide +kernel
theorem dX6_carryOutOrder_134 : decode cX6_carryOutOrder 134 = .ok (.invokevirtual 73, 3) := by decide +kernel
theorem dX6_carryOutOrder_137 : decode cX6_carryOutOrder 137 = .ok (.ireturn, 1) := by decide +kernel
theorem dX6_carryOutOrder_138 : decode cX6_carryOutOrder 138 = .ok (.aload_n 0, 1) := by decide +kernel
theorem dX6_carryOutOrder_139 : decode cX6_carryOutOrder 139 = .ok (.getfield 10, 3) := by decide +kernel
theorem dX6_carryOutOrder_142 : decode cX6_carryOutOrder 142 = .ok (.aload_n 0, 1) := by decide +kernel
theorem dX6_carryOutOrder_143 : decode cX6_carryOutOrder 143 = .ok (.getfield 37, 3) := by decide +kernel
theorem dX6_carryOutOrder_146 : decode cX6_carryOutOrder 146 = .ok (.getfield 254, 3) := by decide +kernel
theorem dX6_carryOutOrder_149 : decode cX6_carryOutOrder 149 = .ok (.invokevirtual 77, 3) := by decide +kernel
theorem dX6_carryOutOrder_152 : decode cX6_carryOutOrder 152 = .ok (.ireturn, 1) := by decide +kernel
theorem dX6_carryOutOrder_153 : decode cX6_carryOutOrder 153 = .ok (.aload_n 0, 1) := by decide +kernel
theorem dX6_carryOutOrder_154 : decode cX6_carryOutOrder 154 = .ok (.getfield 10, 3) := by decide +kernel
theorem dX6_carryOutOrder_157 : decode cX6_carryOutOrder 157 = .ok (.aload_n 0, 1) := by decide +kernel
theorem dX6_carryOutOrder_158 : decode cX6_carryOutOrder 158 = .ok (.getfield 37, 3) := by decide +kernel
theorem dX6_carryOutOrder_161 : decode cX6_carryOutOrder 161 = .ok (.getfield 254, 3) := by decide +kernel
theorem dX6_carryOutOrder_164 : decode cX6_carryOutOrder 164 = .ok (.aload_n 0, 1) := by decide +kernel
theorem dX6_carryOutOrder_165 : decode cX6_carryOutOrder 165 = .ok (.getfield 37, 3) := by decide +kernel
theorem dX6_carryOutOrder_168 : decode cX6_carryOutOrder 168 = .ok (.getfield 257, 3) := by decide +kernel
theorem dX6_carryOutOrder_171 : decode cX6_carryOutOrder 171 = .ok (.invokevirtual 67, 3) := by decide +kernel
theorem dX6_carryOutOrder_174 : decode cX6_carryOutOrder 174 = .ok (.ireturn, 1) := by decide +kernel
theorem dX6_carryOutOrder_175 : decode cX6_carryOutOrder 175 = .ok (.aload_n 0, 1) := by decide +kernel
theorem dX6_carryOutOrder_176 : decode cX6_carryOutOrder 176 = .ok (.getfield 10, 3) := by decide +kernel
theorem dX6_carryOutOrder_179 : decode cX6_carryOutOrder 179 = .ok (.aload_n 0, 1) := by decide +kernel
theorem dX6_carryOutOrder_180 : decode cX6_carryOutOrder 180 = .ok (.getfield 37, 3) := by decide +kernel
theorem dX6_carryOutOrder_183 : decode cX6_carryOutOrder 183 = .ok (.getfield 254, 3) := by decide +kernel
theorem dX6_carryOutOrder_186 : decode cX6_carryOutOrder 186 = .ok (.invokevirtual 80, 3) := by decide +kernel
theorem dX6_carryOutOrder_189 : decode cX6_carryOutOrder 189 = .ok (.ireturn, 1) := by decide +kernel
theorem dX6_carryOutOrder_190 : decode cX6_carryOutOrder 190 = .ok (.aload_n 0, 1) := by decide +kernel
theorem dX6_carryOutOrder_191 : decode cX6_carryOutOrder 191 = .ok (.getfield 10, 3) := by decide +kernel
theorem dX6_carryOutOrder_194 : decode cX6_carryOutOrder 194 = .ok (.aload_n 0, 1) := by decide +kernel
theorem dX6_carryOutOrder_195 : decode cX6_carryOutOrder 195 = .ok (.getfield 37, 3) := by decide +kernel
theorem dX6_carryOutOrder_198 : decode cX6_carryOutOrder 198 = .ok (.getfield 260, 3) := by decide +kernel
theorem dX6_carryOutOrder_201 : decode cX6_carryOutOrder 201 = .ok (.invokevirtual 83, 3) := by decide +kernel
theorem dX6_carryOutOrder_204 : decode cX6_carryOutOrder 204 = .ok (.ireturn, 1) := by decide +kernel
theorem dX6_carryOutOrder_205 : decode cX6_carryOutOrder 205 = .ok (.bipush (-3), 2) := by decide +kernel
theorem dX6_carryOutOrder_207 : decode cX6_carryOutOrder 207 = .ok (.ireturn, 1) := by decide +kernel
theorem dX7_init_0 : decode cX7_init 0 = .ok (.aload_n 0, 1) := by decide +kernel
theorem dX7_init_1 : decode cX7_init 1 = .ok (.invokespecial 1, 3) := by decide +kernel
theorem dX7_init_4 : decode cX7_init 4 = .ok (.aload_n 0, 1) := by decide +kernel
theorem dX7_init_5 : decode cX7_init 5 = .ok (.bipush 100, 2) := by decide +kernel
theorem dX7_init_7 : decode cX7_init 7 = .ok (.newarray .int, 2) := by decide +kernel
theorem dX7_init_9 : decode cX7_init 9 = .ok (.putfield 7, 3) := by decide +kernel
theorem dX7_init_12 : decode cX7_init 12 = .ok (.aload_n 0, 1) := by decide +kernel
theorem dX7_init_13 : decode cX7_init 13 = .ok (.bipush 100, 2) := by decide +kernel
theorem dX7_init_15 : decode cX7_init 15 = .ok (.newarray .int, 2) := by decide +kernel
theorem dX7_init_17 : decode cX7_init 17 = .ok (.putfield 13, 3) := by decide +kernel
theorem dX7_init_20 : decode cX7_init 20 = .ok (.aload_n 0, 1) := by decide +kernel
theorem dX7_init_21 : decode cX7_init 21 = .ok (.sipush 600, 3) := by decide +kernel
theorem dX7_init_24 : decode cX7_init 24 = .ok (.newarray .int, 2) := by decide +kernel
theorem dX7_init_26 : decode cX7_init 26 = .ok (.putfield 16, 3) := by decide +kernel
theorem dX7_init_29 : decode cX7_init 29 = .ok (.aload_n 0, 1) := by decide +kernel
theorem dX7_init_30 : decode cX7_init 30 = .ok (.sipush 200, 3) := by decide +kernel
theorem dX7_init_33 : decode cX7_init 33 = .ok (.newarray .int, 2) := by decide +kernel
theorem dX7_init_35 : decode cX7_init 35 = .ok (.putfield 19, 3) := by decide +kernel
theorem dX7_init_38 : decode cX7_init 38 = .ok (.aload_n 0, 1) := by decide +kernel
theorem dX7_init_39 : decode cX7_init 39 = .ok (.iconst 2, 1) := by decide +kernel
theorem dX7_init_40 : decode cX7_init 40 = .ok (.newarray .boolean, 2) := by decide +kernel
theorem dX7_init_42 : decode cX7_init 42 = .ok (.putfield 22, 3) := by decide +kernel
theorem dX7_init_45 : decode cX7_init 45 = .ok (.aload_n 0, 1) := by decide +kernel
theorem dX7_init_46 : decode cX7_init 46 = .ok (.bipush 80, 2) := by decide +kernel
theorem dX7_init_48 : decode cX7_init 48 = .ok (.newarray .int, 2) := by decide +kernel
theorem dX7_init_50 : decode cX7_init 50 = .ok (.putfield 26, 3) := by decide +kernel
theorem dX7_init_53 : decode cX7_init 53 = .ok (.aload_n 0, 1) := by decide +kernel
theorem dX7_init_54 : decode cX7_init 54 = .ok (.iconst (-1), 1) := by decide +kernel
theorem dX7_init_55 : decode cX7_init 55 = .ok (.putfield 29, 3) := by decide +kernel
theorem dX7_init_58 : decode cX7_init 58 = .ok (.aload_n 0, 1) := by decide +kernel
theorem dX7_init_59 : decode cX7_init 59 = .ok (.getfield 7, 3) := by decide +kernel
theorem dX7_init_62 : decode cX7_init 62 = .ok (.iconst 0, 1) := by decide +kernel
theorem dX7_init_63 : decode cX7_init 63 = .ok (.bipush 60, 2) := by decide +kernel
theorem dX7_init_65 : decode cX7_init 65 = .ok (.iastore, 1) := by decide +kernel
theorem dX7_init_66 : decode cX7_init 66 = .ok (.aload_n 0, 1) := by decide +kernel
theorem dX7_init_67 : decode cX7_init 67 = .ok (.getfield 7, 3) := by decide +kernel
theorem dX7_init_70 : decode cX7_init 70 = .ok (.iconst 1, 1) := by decide +kernel
theorem dX7_init_71 : decode cX7_init 71 = .ok (.bipush 10, 2) := by decide +kernel
theorem dX7_init_73 : decode cX7_init 73 = .ok (.iastore, 1) := by decide +kernel
theorem dX7_init_74 : decode cX7_init 74 = .ok (.aload_n 0, 1) := by decide +kernel
theorem dX7_init_75 : decode cX7_init 75 = .ok (.getfield 7, 3) := by decide +kernel
theorem dX7_init_78 : decode cX7_init 78 = .ok (.iconst 2, 1) := by decide +kernel
theorem dX7_init_79 : decode cX7_init 79 = .ok (.bipush 10, 2) := by decide +kernel
theorem dX7_init_81 : decode cX7_init 81 = .ok (.iastore, 1) := by decide +kernel
theorem dX7_init_82 : decode cX7_init 82 = .ok (.aload_n 0, 1) := by decide +kernel
theorem dX7_init_83 : decode cX7_init 83 = .ok (.getfield 7, 3) := by decide +kernel
theorem dX7_init_86 : decode cX7_init 86 = .ok (.iconst 3, 1) := by decide +kernel
theorem dX7_init_87 : decode cX7_init 87 = .ok (.iconst 4, 1) := by decide +kernel
theorem dX7_init_88 : decode cX7_init 88 = .ok (.iastore, 1) := by decide +kernel
theorem dX7_init_89 : decode cX7_init 89 = .ok (.aload_n 0, 1) := by decide +kernel
theorem dX7_init_90 : decode cX7_init 90 = .ok (.getfield 7, 3) := by decide +kernel
theorem dX7_init_93 : decode cX7_init 93 = .ok (.iconst 4, 1) := by decide +kernel
theorem dX7_init_94 : decode cX7_init 94 = .ok (.iconst 2, 1) := by decide +kernel
theorem dX7_init_95 : decode cX7_init 95 = .ok (.iastore, 1) := by decide +kernel
theorem dX7_init_96 : decode cX7_init 96 = .ok (.return_, 1) := by decide +kernel
theorem dX7_in_0 : decode cX7_in 0 = .ok (.iload_n 0, 1) := by decide +kernel
theorem dX7_in_1 : decode cX7_in 1 = .ok (.iload_n 1, 1) := by decide +kernel
theorem dX7_in_2 : decode cX7_in 2 = .ok (.if_icmp .lt 12, 3) := by decide +kernel
theorem dX7_in_5 : decode cX7_in 5 = .ok (.iload_n 0, 1) := by decide +kernel
theorem dX7_in_6 : decode cX7_in 6 = .ok (.iload_n 2, 1) := by decide +kernel
theorem dX7_in_7 : decode cX7_in 7 = .ok (.if_icmp .gt 7, 3) := by decide +kernel
theorem dX7_in_10 : decode cX7_in 10 = .ok (.iconst 1, 1) := by decide +kernel
theorem dX7_in_11 : decode cX7_in 11 = .ok (.goto 4, 3) := by decide +kernel
theorem dX7_in_14 : decode cX7_in 14 = .ok (.iconst 0, 1) := by decide +kernel
theorem dX7_in_15 : decode cX7_in 15 = .ok (.ireturn, 1) := by decide +kernel
theorem dX7_size_0 : decode cX7_size 0 = .ok (.iload_n 0, 1) := by decide +kernel
theorem dX7_size_1 : decode cX7_size 1 = .ok (.ifCond .ge 8, 3) := by decide +kernel
theorem dX7_size_4 : decode cX7_size 4 = .ok (.iload_n 0, 1) := by decide +kernel
theorem dX7_size_5 : decode cX7_size 5 = .ok (.ineg, 1) := by decide +kernel
theorem dX7_size_6 : decode cX7_size 6 = .ok (.goto 4, 3) := by decide +kernel
theorem dX7_size_9 : decode cX7_size 9 = .ok (.iload_n 0, 1) := by decide +kernel
theorem dX7_size_10 : decode cX7_size 10 = .ok (.ireturn, 1) := by decide +kernel
theorem dX7_at_0 : decode cX7_at 0 = .ok (.bipush 7, 2) := by decide +kernel
theorem dX7_at_2 : decode cX7_at 2 = .ok (.bipush 14, 2) := by decide +kernel
theorem dX7_at_4 : decode cX7_at 4 = .ok (.iload_n 0, 1) := by decide +kernel
theorem dX7_at_5 : decode cX7_at 5 = .ok (.imul, 1) := by decide +kernel
theorem dX7_at_6 : decode cX7_at 6 = .ok (.iadd, 1) := by decide +kernel
theorem dX7_at_7 : decode cX7_at 7 = .ok (.iload_n 1, 1) := by decide +kernel
theorem dX7_at_8 : decode cX7_at 8 = .ok (.iadd, 1) := by decide +kernel
theorem dX7_at_9 : decode cX7_at 9 = .ok (.ireturn, 1) := by decide +kernel
set_option maxRecDepth 20000 in
theorem ggX7_isShaft_X7_in : GoodIn wsX7_isShaft wsX7_in := goodIn_r _ [5] (by decide +kernel) (by decide +kernel)
set_option maxRecDepth 20000 in
theorem gX7_isShaft_X7_in : GoodIn wsX7_isShaft (va_wsS RX7 33 yX7_in wsX7_in) := goodIn_app (goodIn_of _ (by decide +kernel)) ggX7_isShaft_X7_in
theorem dX7_isShaft_0 : decode cX7_isShaft 0 = .ok (.iload_n 1, 1) := by decide +kernel
theorem dX7_isShaft_1 : decode cX7_isShaft 1 = .ok (.iconst 0, 1) := by decide +kernel
theorem dX7_isShaft_2 : decode cX7_isShaft 2 = .ok (.aload_n 0, 1) := by decide +kernel
theorem dX7_isShaft_3 : decode cX7_isShaft 3 = .ok (.getfield 7, 3) := by decide +kernel
theorem dX7_isShaft_6 : decode cX7_isShaft 6 = .ok (.bipush 6, 2) := by decide +kernel
theorem dX7_isShaft_8 : decode cX7_isShaft 8 = .ok (.iaload, 1) := by decide +kernel
theorem dX7_isShaft_9 : decode cX7_isShaft 9 = .ok (.iconst 1, 1) := by decide +kernel
theorem dX7_isShaft_10 : decode cX7_isShaft 10 = .ok (.isub, 1) := by decide +kernel
theorem dX7_isShaft_11 : decode cX7_isShaft 11 = .ok (.invokestatic 33, 3) := by decide +kernel
theorem dX7_isShaft_14 : decode cX7_isShaft 14 = .ok (.ireturn, 1) := by decide +kernel
set_option maxRecDepth 20000 in
theorem ggX7_isPlace_X7_in : GoodIn wsX7_isPlace wsX7_in := goodIn_r _ [4] (by decide +kernel) (by decide +kernel)
set_option maxRecDepth 20000 in
theorem gX7_isPlace_X7_in : GoodIn wsX7_isPlace (va_wsS RX7 33 yX7_in wsX7_in) := goodIn_app (goodIn_of _ (by decide +kernel)) ggX7_isPlace_X7_in
theorem dX7_isPlace_0 : decode cX7_isPlace 0 = .ok (.iload_n 0, 1) := by decide +kernel
theorem dX7_isPlace_1 : decode cX7_isPlace 1 = .ok (.sipush (-9999), 3) := by decide +kernel
theorem dX7_isPlace_4 : decode cX7_isPlace 4 = .ok (.sipush 9999, 3) := by decide +kernel
theorem dX7_isPlace_7 : decode cX7_isPlace 7 = .ok (.invokestatic 33, 3) := by decide +kernel
theorem dX7_isPlace_10 : decode cX7_isPlace 10 = .ok (.ireturn, 1) := by decide +kernel
set_option maxRecDepth 20000 in
theorem ggX7_rests_X7_at : GoodIn wsX7_rests wsX7_at := goodIn_r _ [5] (by decide +kernel) (by decide +kernel)
set_option maxRecDepth 20000 in
theorem gX7_rests_X7_at : GoodIn wsX7_rests (va_wsS RX7 37 yX7_at wsX7_at) := goodIn_app (goodIn_of _ (by decide +kernel)) ggX7_rests_X7_at
theorem dX7_rests_0 : decode cX7_rests 0 = .ok (.aload_n 0, 1) := by decide +kernel
theorem dX7_rests_1 : decode cX7_rests 1 = .ok (.getfield 7, 3) := by decide +kernel
theorem dX7_rests_4 : decode cX7_rests 4 = .ok (.iload_n 1, 1) := by decide +kernel
theorem dX7_rests_5 : decode cX7_rests 5 = .ok (.iconst 5, 1) := by decide +kernel
theorem dX7_rests_6 : decode cX7_rests 6 = .ok (.invokestatic 37, 3) := by decide +kernel
theorem dX7_rests_9 : decode cX7_rests 9 = .ok (.iaload, 1) := by decide +kernel
theorem dX7_rests_10 : decode cX7_rests 10 = .ok (.ifCond .ne 7, 3) := by decide +kernel
theorem dX7_rests_13 : decode cX7_rests 13 = .ok (.iconst 1, 1) := by decide +kernel
theorem dX7_rests_14 : decode cX7_rests 14 = .ok (.goto 4, 3) := by decide +kernel
theorem dX7_rests_17 : decode cX7_rests 17 = .ok (.iconst 0, 1) := by decide +kernel
theorem dX7_rests_18 : decode cX7_rests 18 = .ok (.ireturn, 1) := by decide +kernel
theorem dX7_putAside_0 : decode cX7_putAside 0 = .ok (.iconst 0, 1) := by decide +kernel
theorem dX7_putAside_1 : decode cX7_putAside 1 = .ok (.istore_n 1, 1) := by decide +kernel
theorem dX7_putAside_2 : decode cX7_putAside 2 = .ok (.iload_n 1, 1) := by decide +kernel
theorem dX7_putAside_3 : decode cX7_putAside 3 = .ok (.bipush 100, 2) := by decide +kernel
theorem dX7_putAside_5 : decode cX7_putAside 5 = .ok (.if_icmp .ge 21, 3) := by decide +kernel
theorem dX7_putAside_8 : decode cX7_putAside 8 = .ok (.aload_n 0, 1) := by decide +kernel
theorem dX7_putAside_9 : decode cX7_putAside 9 = .ok (.getfield 13, 3) := by decide +kernel
theorem dX7_putAside_12 : decode cX7_putAside 12 = .ok (.iload_n 1, 1) := by decide +kernel
theorem dX7_putAside_13 : decode cX7_putAside 13 = .ok (.aload_n 0, 1) := by decide +kernel
theorem dX7_putAside_14 : decode cX7_putAside 14 = .ok (.getfield 7, 3) := by decide +kernel
theorem dX7_putAside_17 : decode cX7_putAside 17 = .ok (.iload_n 1, 1) := by decide +kernel
theorem dX7_putAside_18 : decode cX7_putAside 18 = .ok (.iaload, 1) := by decide +kernel
theorem dX7_putAside_19 : decode cX7_putAside 19 = .ok (.iastore, 1) := by decide +kernel
theorem dX7_putAside_20 : decode cX7_putAside 20 = .ok (.iinc 1 1, 3) := by decide +kernel
theorem dX7_putAside_23 : decode cX7_putAside 23 = .ok (.goto (-21), 3) := by decide +kernel
theorem dX7_putAside_26 : decode cX7_putAside 26 = .ok (.return_, 1) := by decide +kernel
theorem dX7_putBack_0 : decode cX7_putBack 0 = .ok (.iconst 0, 1) := by decide +kernel
theorem dX7_putBack_1 : decode cX7_putBack 1 = .ok (.istore_n 1, 1) := by decide +kernel
theorem dX7_putBack_2 : decode cX7_putBack 2 = .ok (.iload_n 1, 1) := by decide +kernel
theorem dX7_putBack_3 : decode cX7_putBack 3 = .ok (.bipush 100, 2) := by decide +kernel
theorem dX7_putBack_5 : decode cX7_putBack 5 = .ok (.if_icmp .ge 21, 3) := by decide +kernel
theorem dX7_putBack_8 : decode cX7_putBack 8 = .ok (.aload_n 0, 1) := by decide +kernel
theorem dX7_putBack_9 : decode cX7_putBack 9 = .ok (.getfield 7, 3) := by decide +kernel
theorem dX7_putBack_12 : decode cX7_putBack 12 = .ok (.iload_n 1, 1) := by decide +kernel
theorem dX7_putBack_13 : decode cX7_putBack 13 = .ok (.aload_n 0, 1) := by decide +kernel
theorem dX7_putBack_14 : decode cX7_putBack 14 = .ok (.getfield 13, 3) := by decide +kernel
theorem dX7_putBack_17 : decode cX7_putBack 17 = .ok (.iload_n 1, 1) := by decide +kernel
theorem dX7_putBack_18 : decode cX7_putBack 18 = .ok (.iaload, 1) := by decide +kernel
theorem dX7_putBack_19 : decode cX7_putBack 19 = .ok (.iastore, 1) := by decide +kernel
theorem dX7_putBack_20 : decode cX7_putBack 20 = .ok (.iinc 1 1, 3) := by decide +kernel
theorem dX7_putBack_23 : decode cX7_putBack 23 = .ok (.goto (-21), 3) := by decide +kernel
theorem dX7_putBack_26 : decode cX7_putBack 26 = .ok (.return_, 1) := by decide +kernel
theorem dX7_records_0 : decode cX7_records 0 = .ok (.aload_n 0, 1) := by decide +kernel
theorem dX7_records_1 : decode cX7_records 1 = .ok (.getfield 41, 3) := by decide +kernel
theorem dX7_records_4 : decode cX7_records 4 = .ok (.bipush 6, 2) := by decide +kernel
theorem dX7_records_6 : decode cX7_records 6 = .ok (.if_icmp .ne 43, 3) := by decide +kernel
theorem dX7_records_9 : decode cX7_records 9 = .ok (.iconst 0, 1) := by decide +kernel
theorem dX7_records_10 : decode cX7_records 10 = .ok (.istore_n 1, 1) := by decide +kernel
theorem dX7_records_11 : decode cX7_records 11 = .ok (.iload_n 1, 1) := by decide +kernel
theorem dX7_records_12 : decode cX7_records 12 = .ok (.sipush 500, 3) := by decide +kernel
theorem dX7_records_15 : decode cX7_records 15 = .ok (.if_icmp .ge 24, 3) := by decide +kernel
theorem dX7_records_18 : decode cX7_records 18 = .ok (.aload_n 0, 1) := by decide +kernel
theorem dX7_records_19 : decode cX7_records 19 = .ok (.getfield 16, 3) := by decide +kernel
theorem dX7_records_22 : decode cX7_records 22 = .ok (.iload_n 1, 1) := by decide +kernel
theorem dX7_records_23 : decode cX7_records 23 = .ok (.aload_n 0, 1) := by decide +kernel
theorem dX7_records_24 : decode cX7_records 24 = .ok (.getfield 16, 3) := by decide +kernel
theorem dX7_records_27 : decode cX7_records 27 = .ok (.bipush 100, 2) := by decide +kernel
theorem dX7_records_29 : decode cX7_records 29 = .ok (.iload_n 1, 1) := by decide +kernel
theorem dX7_records_30 : decode cX7_records 30 = .ok (.iadd, 1) := by decide +kernel
theorem dX7_records_31 : decode cX7_records 31 = .ok (.iaload, 1) := by decide +kernel
theorem dX7_records_32 : decode cX7_records 32 = .ok (.iastore, 1) := by decide +kernel
theorem dX7_records_33 : decode cX7_records 33 = .ok (.iinc 1 1, 3) := by decide +kernel
theorem dX7_records_36 : decode cX7_records 36 = .ok (.goto (-25), 3) := by decide +kernel
theorem dX7_records_39 : decode cX7_records 39 = .ok (.aload_n 0, 1) := by decide +kernel
theorem dX7_records_40 : decode cX7_records 40 = .ok (.dup, 1) := by decide +kernel
theorem dX7_records_41 : decode cX7_records 41 = .ok (.getfield 41, 3) := by decide +kernel
theorem dX7_records_44 : decode cX7_records 44 = .ok (.iconst 1, 1) := by decide +kernel
theorem dX7_records_45 : decode cX7_records 45 = .ok (.isub, 1) := by decide +kernel
theorem dX7_records_46 : decode cX7_records 46 = .ok (.putfield 41, 3) := by decide +kernel
theorem dX7_records_49 : decode cX7_records 49 = .ok (.iconst 0, 1) := by decide +kernel
theorem dX7_records_50 : decode cX7_records 50 = .ok (.istore_n 1, 1) := by decide +kernel
theorem dX7_records_51 : decode cX7_records 51 = .ok (.iload_n 1, 1) := by decide +kernel
theorem dX7_records_52 : decode cX7_records 52 = .ok (.bipush 100, 2) := by decide +kernel
theorem dX7_records_54 : decode cX7_records 54 = .ok (.if_icmp .ge 29, 3) := by decide +kernel
theorem dX7_records_57 : decode cX7_records 57 = .ok (.aload_n 0, 1) := by decide +kernel
theorem dX7_records_58 : decode cX7_records 58 = .ok (.getfield 16, 3) := by decide +kernel
theorem dX7_records_61 : decode cX7_records 61 = .ok (.bipush 100, 2) := by decide +kernel
theorem dX7_records_63 : decode cX7_records 63 = .ok (.aload_n 0, 1) := by decide +kernel
theorem dX7_records_64 : decode cX7_records 64 = .ok (.getfield 41, 3) := by decide +kernel
theorem dX7_records_67 : decode cX7_records 67 = .ok (.imul, 1) := by decide +kernel
theorem dX7_records_68 : decode cX7_records 68 = .ok (.iload_n 1, 1) := by decide +kernel
theorem dX7_records_69 : decode cX7_records 69 = .ok (.iadd, 1) := by decide +kernel
theorem dX7_records_70 : decode cX7_records 70 = .ok (.aload_n 0, 1) := by decide +kernel
theorem dX7_records_71 : decode cX7_records 71 = .ok (.getfield 7, 3) := by decide +kernel
theorem dX7_records_74 : decode cX7_records 74 = .ok (.iload_n 1, 1) := by decide +kernel
theorem dX7_records_75 : decode cX7_records 75 = .ok (.iaload, 1) := by decide +kernel
theorem dX7_records_76 : decode cX7_records 76 = .ok (.iastore, 1) := by decide +kernel
theorem dX7_records_77 : decode cX7_records 77 = .ok (.iinc 1 1, 3) := by decide +kernel
theorem dX7_records_80 : decode cX7_records 80 = .ok (.goto (-29), 3) := by decide +kernel
theorem dX7_records_83 : decode cX7_records 83 = .ok (.aload_n 0, 1) := by decide +kernel
theorem dX7_records_84 : decode cX7_records 84 = .ok (.dup, 1) := by decide +kernel
theorem dX7_records_85 : decode cX7_records 85 = .ok (.getfield 41, 3) := by decide +kernel
theorem dX7_records_88 : decode cX7_records 88 = .ok (.iconst 1, 1) := by decide +kernel
theorem dX7_records_89 : decode cX7_records 89 = .ok (.iadd, 1) := by decide +kernel
theorem dX7_records_90 : decode cX7_records 90 = .ok (.putfield 41, 3) := by decide +kernel
theorem dX7_records_93 : decode cX7_records 93 = .ok (.return_, 1) := by decide +kernel
theorem dX7_intervalBy_0 : decode cX7_intervalBy 0 = .ok (.aload_n 0, 1) := by decide +kernel
theorem dX7_intervalBy_1 : decode cX7_intervalBy 1 = .ok (.getfield 7, 3) := by decide +kernel
theorem dX7_intervalBy_4 : decode cX7_intervalBy 4 = .ok (.iconst 0, 1) := by decide +kernel
theorem dX7_intervalBy_5 : decode cX7_intervalBy 5 = .ok (.iaload, 1) := by decide +kernel
theorem dX7_intervalBy_6 : decode cX7_intervalBy 6 = .ok (.iload_n 2, 1) := by decide +kernel
theorem dX7_intervalBy_7 : decode cX7_intervalBy 7 = .ok (.iload_n 1, 1) := by decide +kernel
theorem dX7_intervalBy_8 : decode cX7_intervalBy 8 = .ok (.imul, 1) := by decide +kernel
theorem dX7_intervalBy_9 : decode cX7_intervalBy 9 = .ok (.isub, 1) := by decide +kernel
theorem dX7_intervalBy_10 : decode cX7_intervalBy 10 = .ok (.istore_n 3, 1) := by decide +kernel
theorem dX7_intervalBy_11 : decode cX7_intervalBy 11 = .ok (.iload_n 3, 1) := by decide +kernel
theorem dX7_intervalBy_12 : decode cX7_intervalBy 12 = .ok (.aload_n 0, 1) := by decide +kernel
theorem dX7_intervalBy_13 : decode cX7_intervalBy 13 = .ok (.getfield 7, 3) := by decide +kernel
theorem dX7_intervalBy_16 : decode cX7_intervalBy 16 = .ok (.iconst 1, 1) := by decide +kernel
theorem dX7_intervalBy_17 : decode cX7_intervalBy 17 = .ok (.iaload, 1) := by decide +kernel
theorem dX7_intervalBy_18 : decode cX7_intervalBy 18 = .ok (.if_icmp .ge 12, 3) := by decide +kernel
theorem dX7_intervalBy_21 : decode cX7_intervalBy 21 = .ok (.aload_n 0, 1) := by decide +kernel
theorem dX7_intervalBy_22 : decode cX7_intervalBy 22 = .ok (.getfield 7, 3) := by decide +kernel
theorem dX7_intervalBy_25 : decode cX7_intervalBy 25 = .ok (.iconst 1, 1) := by decide +kernel
theorem dX7_intervalBy_26 : decode cX7_intervalBy 26 = .ok (.iaload, 1) := by decide +kernel
theorem dX7_intervalBy_27 : decode cX7_intervalBy 27 = .ok (.goto 4, 3) := by decide +kernel
theorem dX7_intervalBy_30 : decode cX7_intervalBy 30 = .ok (.iload_n 3, 1) := by decide +kernel
theorem dX7_intervalBy_31 : decode cX7_intervalBy 31 = .ok (.ireturn, 1) := by decide +kernel
theorem dX7_highestBy_0 : decode cX7_highestBy 0 = .ok (.aload_n 0, 1) := by decide +kernel
theorem dX7_highestBy_1 : decode cX7_highestBy 1 = .ok (.getfield 7, 3) := by decide +kernel
theorem dX7_highestBy_4 : decode cX7_highestBy 4 = .ok (.iconst 0, 1) := by decide +kernel
theorem dX7_highestBy_5 : decode cX7_highestBy 5 = .ok (.iaload, 1) := by decide +kernel
theorem dX7_highestBy_6 : decode cX7_highestBy 6 = .ok (.aload_n 0, 1) := by decide +kernel
theorem dX7_highestBy_7 : decode cX7_highestBy 7 = .ok (.getfield 7, 3) := by decide +kernel
theorem dX7_highestBy_10 : decode cX7_highestBy 10 = .ok (.iconst 1, 1) := by decide +kernel
theorem dX7_highestBy_11 : decode cX7_highestBy 11 = .ok (.iaload, 1) := by decide +kernel
theorem dX7_highestBy_12 : decode cX7_highestBy 12 = .ok (.isub, 1) := by decide +kernel
theorem dX7_highestBy_13 : decode cX7_highestBy 13 = .ok (.istore_n 2, 1) := by decide +kernel
theorem dX7_highestBy_14 : decode cX7_highestBy 14 = .ok (.iload_n 2, 1) := by decide +kernel
theorem dX7_highestBy_15 : decode cX7_highestBy 15 = .ok (.ifCond .gt 7, 3) := by decide +kernel
theorem dX7_highestBy_18 : decode cX7_highestBy 18 = .ok (.iconst 0, 1) := by decide +kernel
theorem dX7_highestBy_19 : decode cX7_highestBy 19 = .ok (.goto 10, 3) := by decide +kernel
theorem dX7_highestBy_22 : decode cX7_highestBy 22 = .ok (.iload_n 2, 1) := by decide +kernel
theorem dX7_highestBy_23 : decode cX7_highestBy 23 = .ok (.iload_n 1, 1) := by decide +kernel
theorem dX7_highestBy_24 : decode cX7_highestBy 24 = .ok (.iadd, 1) := by decide +kernel
theorem dX7_highestBy_25 : decode cX7_highestBy 25 = .ok (.iconst 1, 1) := by decide +kernel
theorem dX7_highestBy_26 : decode cX7_highestBy 26 = .ok (.isub, 1) := by decide +kernel
theorem dX7_highestBy_27 : decode cX7_highestBy 27 = .ok (.iload_n 1, 1) := by decide +kernel
theorem dX7_highestBy_28 : decode cX7_highestBy 28 = .ok (.idiv, 1) := by decide +kernel
theorem dX7_highestBy_29 : decode cX7_highestBy 29 = .ok (.ireturn, 1) := by decide +kernel
theorem dX7_nextLevel_0 : decode cX7_nextLevel 0 = .ok (.iload_n 1, 1) := by decide +kernel
theorem dX7_nextLevel_1 : decode cX7_nextLevel 1 = .ok (.iload_n 0, 1) := by decide +kernel
theorem dX7_nextLevel_2 : decode cX7_nextLevel 2 = .ok (.if_icmp .gt 15, 3) := by decide +kernel
theorem dX7_nextLevel_5 : decode cX7_nextLevel 5 = .ok (.iload_n 0, 1) := by decide +kernel
theorem dX7_nextLevel_6 : decode cX7_nextLevel 6 = .ok (.ifCond .le 9, 3) := by decide +kernel
theorem dX7_nextLevel_9 : decode cX7_nextLevel 9 = .ok (.iload_n 0, 1) := by decide +kernel
theorem dX7_nextLevel_10 : decode cX7_nextLevel 10 = .ok (.iconst 1, 1) := by decide +kernel
theorem dX7_nextLevel_11 : decode cX7_nextLevel 11 = .ok (.isub, 1) := by decide +kernel
theorem dX7_nextLevel_12 : decode cX7_nextLevel 12 = .ok (.goto 4, 3) := by decide +kernel
theorem dX7_nextLevel_15 : decode cX7_nextLevel 15 = .ok (.iconst 0, 1) := by decide +kernel
theorem dX7_nextLevel_16 : decode cX7_nextLevel 16 = .ok (.ireturn, 1) := by decide +kernel
theorem dX7_nextLevel_17 : decode cX7_nextLevel 17 = .ok (.iload_n 0, 1) := by decide +kernel
theorem dX7_nextLevel_18 : decode cX7_nextLevel 18 = .ok (.iload_n 2, 1) := by decide +kernel
theorem dX7_nextLevel_19 : decode cX7_nextLevel 19 = .ok (.if_icmp .ge 9, 3) := by decide +kernel
theorem dX7_nextLevel_22 : decode cX7_nextLevel 22 = .ok (.iload_n 0, 1) := by decide +kernel
theorem dX7_nextLevel_23 : decode cX7_nextLevel 23 = .ok (.iconst 1, 1) := by decide +kernel
theorem dX7_nextLevel_24 : decode cX7_nextLevel 24 = .ok (.iadd, 1) := by decide +kernel
theorem dX7_nextLevel_25 : decode cX7_nextLevel 25 = .ok (.goto 4, 3) := by decide +kernel
theorem dX7_nextLevel_28 : decode cX7_nextLevel 28 = .ok (.iload_n 2, 1) := by decide +kernel
theorem dX7_nextLevel_29 : decode cX7_nextLevel 29 = .ok (.ireturn, 1) := by decide +kernel
theorem dX7_needs_0 : decode cX7_needs 0 = .ok (.aload_n 0, 1) := by decide +kernel
theorem dX7_needs_1 : decode cX7_needs 1 = .ok (.getfield 7, 3) := by decide +kernel
theorem dX7_needs_4 : decode cX7_needs 4 = .ok (.iconst 3, 1) := by decide +kernel
theorem dX7_needs_5 : decode cX7_needs 5 = .ok (.iaload, 1) := by decide +kernel
theorem dX7_needs_6 : decode cX7_needs 6 = .ok (.aload_n 0, 1) := by decide +kernel
theorem dX7_needs_7 : decode cX7_needs 7 = .ok (.getfield 7, 3) := by decide +kernel
theorem dX7_needs_10 : decode cX7_needs 10 = .ok (.iconst 4, 1) := by decide +kernel
theorem dX7_needs_11 : decode cX7_needs 11 = .ok (.iaload, 1) := by decide +kernel
theorem dX7_needs_12 : decode cX7_needs 12 = .ok (.iload_n 1, 1) := by decide +kernel
theorem dX7_needs_13 : decode cX7_needs 13 = .ok (.imul, 1) := by decide +kernel
theorem dX7_needs_14 : decode cX7_needs 14 = .ok (.iadd, 1) := by decide +kernel
theorem dX7_needs_15 : decode cX7_needs 15 = .ok (.ireturn, 1) := by decide +kernel
set_option maxRecDepth 20000 in
theorem ggX7_begins_X7_at : GoodIn wsX7_begins wsX7_at := goodIn_r _ [5] (by decide +kernel) (by decide +kernel)
set_option maxRecDepth 20000 in
theorem gX7_begins_X7_at : GoodIn wsX7_begins (va_wsS RX7 37 yX7_at wsX7_at) := goodIn_app (goodIn_of _ (by decide +kernel)) ggX7_begins_X7_at
set_option maxRecDepth 20000 in
theorem ggX7_begins_X7_size : GoodIn wsX7_begins wsX7_size := goodIn_r _ [8] (by decide +kernel) (by decide +kernel)
set_option maxRecDepth 20000 in
theorem gX7_begins_X7_size : GoodIn wsX7_begins (va_wsS RX7 44 yX7_size wsX7_size) := goodIn_app (goodIn_of _ (by decide +kernel)) ggX7_begins_X7_size
set_option maxRecDepth 20000 in
theorem ggX7_begins_X7_intervalBy : GoodIn wsX7_begins wsX7_intervalBy := goodIn_r _ [12, 1, 13, 14, 15, 16, 17, 18, 19, 20, 21, 22, 23, 24, 25, 26, 27, 28, 29] (by decide +kernel) (by decide +kernel)
set_option maxRecDepth 20000 in
theorem gX7_begins_X7_intervalBy : GoodIn wsX7_begins (wsV RX7 48 RX7 yX7_intervalBy wsX7_intervalBy) := goodIn_app (goodIn_of _ (by decide +kernel)) ggX7_begins_X7_intervalBy
theorem dX7_begins_0 : decode cX7_begins 0 = .ok (.iload_n 2, 1) := by decide +kernel
theorem dX7_begins_1 : decode cX7_begins 1 = .ok (.aload_n 0, 1) := by decide +kernel
theorem dX7_begins_2 : decode cX7_begins 2 = .ok (.getfield 7, 3) := by decide +kernel
theorem dX7_begins_5 : decode cX7_begins 5 = .ok (.iload_n 1, 1) := by decide +kernel
theorem dX7_begins_6 : decode cX7_begins 6 = .ok (.iconst 2, 1) := by decide +kernel
theorem dX7_begins_7 : decode cX7_begins 7 = .ok (.invokestatic 37, 3) := by decide +kernel
theorem dX7_begins_10 : decode cX7_begins 10 = .ok (.iaload, 1) := by decide +kernel
theorem dX7_begins_11 : decode cX7_begins 11 = .ok (.isub, 1) := by decide +kernel
theorem dX7_begins_12 : decode cX7_begins 12 = .ok (.istore_n 3, 1) := by decide +kernel
theorem dX7_begins_13 : decode cX7_begins 13 = .ok (.iload_n 3, 1) := by decide +kernel
theorem dX7_begins_14 : decode cX7_begins 14 = .ok (.invokestatic 44, 3) := by decide +kernel
theorem dX7_begins_17 : decode cX7_begins 17 = .ok (.aload_n 0, 1) := by decide +kernel
theorem dX7_begins_18 : decode cX7_begins 18 = .ok (.getfield 7, 3) := by decide +kernel
theorem dX7_begins_21 : decode cX7_begins 21 = .ok (.iload_n 1, 1) := by decide +kernel
theorem dX7_begins_22 : decode cX7_begins 22 = .ok (.iconst 0, 1) := by decide +kernel
theorem dX7_begins_23 : decode cX7_begins 23 = .ok (.invokestatic 37, 3) := by decide +kernel
theorem dX7_begins_26 : decode cX7_begins 26 = .ok (.iaload, 1) := by decide +kernel
theorem dX7_begins_27 : decode cX7_begins 27 = .ok (.idiv, 1) := by decide +kernel
theorem dX7_begins_28 : decode cX7_begins 28 = .ok (.istore 4, 2) := by decide +kernel
theorem dX7_begins_30 : decode cX7_begins 30 = .ok (.aload_n 0, 1) := by decide +kernel
theorem dX7_begins_31 : decode cX7_begins 31 = .ok (.getfield 7, 3) := by decide +kernel
theorem dX7_begins_34 : decode cX7_begins 34 = .ok (.iload_n 1, 1) := by decide +kernel
theorem dX7_begins_35 : decode cX7_begins 35 = .ok (.iconst 5, 1) := by decide +kernel
theorem dX7_begins_36 : decode cX7_begins 36 = .ok (.invokestatic 37, 3) := by decide +kernel
theorem dX7_begins_39 : decode cX7_begins 39 = .ok (.iload 4, 2) := by decide +kernel
theorem dX7_begins_41 : decode cX7_begins 41 = .ok (.iastore, 1) := by decide +kernel
theorem dX7_begins_42 : decode cX7_begins 42 = .ok (.aload_n 0, 1) := by decide +kernel
theorem dX7_begins_43 : decode cX7_begins 43 = .ok (.getfield 7, 3) := by decide +kernel
theorem dX7_begins_46 : decode cX7_begins 46 = .ok (.iload_n 1, 1) := by decide +kernel
theorem dX7_begins_47 : decode cX7_begins 47 = .ok (.iconst 4, 1) := by decide +kernel
theorem dX7_begins_48 : decode cX7_begins 48 = .ok (.invokestatic 37, 3) := by decide +kernel
theorem dX7_begins_51 : decode cX7_begins 51 = .ok (.iload 4, 2) := by decide +kernel
theorem dX7_begins_53 : decode cX7_begins 53 = .ok (.ifCond .ne 7, 3) := by decide +kernel
theorem dX7_begins_56 : decode cX7_begins 56 = .ok (.iconst 0, 1) := by decide +kernel
theorem dX7_begins_57 : decode cX7_begins 57 = .ok (.goto 12, 3) := by decide +kernel
theorem dX7_begins_60 : decode cX7_begins 60 = .ok (.iload_n 3, 1) := by decide +kernel
theorem dX7_begins_61 : decode cX7_begins 61 = .ok (.ifCond .le 7, 3) := by decide +kernel
theorem dX7_begins_64 : decode cX7_begins 64 = .ok (.iconst 1, 1) := by decide +kernel
theorem dX7_begins_65 : decode cX7_begins 65 = .ok (.goto 4, 3) := by decide +kernel
theorem dX7_begins_68 : decode cX7_begins 68 = .ok (.iconst (-1), 1) := by decide +kernel
theorem dX7_begins_69 : decode cX7_begins 69 = .ok (.iastore, 1) := by decide +kernel
theorem dX7_begins_70 : decode cX7_begins 70 = .ok (.aload_n 0, 1) := by decide +kernel
theorem dX7_begins_71 : decode cX7_begins 71 = .ok (.getfield 7, 3) := by decide +kernel
theorem dX7_begins_74 : decode cX7_begins 74 = .ok (.iload_n 1, 1) := by decide +kernel
theorem dX7_begins_75 : decode cX7_begins 75 = .ok (.bipush 6, 2) := by decide +kernel
theorem dX7_begins_77 : decode cX7_begins 77 = .ok (.invokestatic 37, 3) := by decide +kernel
theorem dX7_begins_80 : decode cX7_begins 80 = .ok (.iconst 0, 1) := by decide +kernel
theorem dX7_begins_81 : decode cX7_begins 81 = .ok (.iastore, 1) := by decide +kernel
theorem dX7_begins_82 : decode cX7_begins 82 = .ok (.aload_n 0, 1) := by decide +kernel
theorem dX7_begins_83 : decode cX7_begins 83 = .ok (.getfield 7, 3) := by decide +kernel
theorem dX7_begins_86 : decode cX7_begins 86 = .ok (.iload_n 1, 1) := by decide +kernel
theorem dX7_begins_87 : decode cX7_begins 87 = .ok (.bipush 7, 2) := by decide +kernel
theorem dX7_begins_89 : decode cX7_begins 89 = .ok (.invokestatic 37, 3) := by decide +kernel
theorem dX7_begins_92 : decode cX7_begins 92 = .ok (.iload 4, 2) := by decide +kernel
theorem dX7_begins_94 : decode cX7_begins 94 = .ok (.ifCond .ne 7, 3) := by decide +kernel
theorem dX7_begins_97 : decode cX7_begins 97 = .ok (.iconst 0, 1) := by decide +kernel
theorem dX7_begins_98 : decode cX7_begins 98 = .ok (.goto 21, 3) := by decide +kernel
theorem dX7_begins_101 : decode cX7_begins 101 = .ok (.aload_n 0, 1) := by decide +kernel
theorem dX7_begins_102 : decode cX7_begins 102 = .ok (.getfield 7, 3) := by decide +kernel
theorem dX7_begins_105 : decode cX7_begins 105 = .ok (.iconst 5, 1) := by decide +kernel
theorem dX7_begins_106 : decode cX7_begins 106 = .ok (.iaload, 1) := by decide +kernel
theorem dX7_begins_107 : decode cX7_begins 107 = .ok (.aload_n 0, 1) := by decide +kernel
theorem dX7_begins_108 : decode cX7_begins 108 = .ok (.iconst 0, 1) := by decide +kernel
theorem dX7_begins_109 : decode cX7_begins 109 = .ok (.aload_n 0, 1) := by decide +kernel
theorem dX7_begins_110 : decode cX7_begins 110 = .ok (.getfield 7, 3) := by decide +kernel
theorem dX7_begins_113 : decode cX7_begins 113 = .ok (.iconst 2, 1) := by decide +kernel
theorem dX7_begins_114 : decode cX7_begins 114 = .ok (.iaload, 1) := by decide +kernel
theorem dX7_begins_115 : decode cX7_begins 115 = .ok (.invokevirtual 48, 3) := by decide +kernel
theorem dX7_begins_118 : decode cX7_begins 118 = .ok (.iadd, 1) := by decide +kernel
theorem dX7_begins_119 : decode cX7_begins 119 = .ok (.iastore, 1) := by decide +kernel
theorem dX7_begins_120 : decode cX7_begins 120 = .ok (.return_, 1) := by decide +kernel
set_option maxRecDepth 20000 in
theorem ggX7_takesFirst_X7_at : GoodIn wsX7_takesFirst wsX7_at := goodIn_r _ [5] (by decide +kernel) (by decide +kernel)
set_option maxRecDepth 20000 in
theorem gX7_takesFirst_X7_at : GoodIn wsX7_takesFirst (va_wsS RX7 37 yX7_at wsX7_at) := goodIn_app (goodIn_of _ (by decide +kernel)) ggX7_takesFirst_X7_at
theorem dX7_takesFirst_0 : decode cX7_takesFirst 0 = .ok (.aload_n 0, 1) := by decide +kernel
theorem dX7_takesFirst_1 : decode cX7_takesFirst 1 = .ok (.getfield 7, 3) := by decide +kernel
theorem dX7_takesFirst_4 : decode cX7_takesFirst 4 = .ok (.iload_n 1, 1) := by decide +kernel
theorem dX7_takesFirst_5 : decode cX7_takesFirst 5 = .ok (.bipush 9, 2) := by decide +kernel
theorem dX7_takesFirst_7 : decode cX7_takesFirst 7 = .ok (.invokestatic 37, 3) := by decide +kernel
theorem dX7_takesFirst_10 : decode cX7_takesFirst 10 = .ok (.iaload, 1) := by decide +kernel
theorem dX7_takesFirst_11 : decode cX7_takesFirst 11 = .ok (.istore_n 2, 1) := by decide +kernel
theorem dX7_takesFirst_12 : decode cX7_takesFirst 12 = .ok (.aload_n 0, 1) := by decide +kernel
theorem dX7_takesFirst_13 : decode cX7_takesFirst 13 = .ok (.getfield 7, 3) := by decide +kernel
theorem dX7_takesFirst_16 : decode cX7_takesFirst 16 = .ok (.iload_n 1, 1) := by decide +kernel
theorem dX7_takesFirst_17 : decode cX7_takesFirst 17 = .ok (.bipush 9, 2) := by decide +kernel
theorem dX7_takesFirst_19 : decode cX7_takesFirst 19 = .ok (.invokestatic 37, 3) := by decide +kernel
theorem dX7_takesFirst_22 : decode cX7_takesFirst 22 = .ok (.aload_n 0, 1) := by decide +kernel
theorem dX7_takesFirst_23 : decode cX7_takesFirst 23 = .ok (.getfield 7, 3) := by decide +kernel
theorem dX7_takesFirst_26 : decode cX7_takesFirst 26 = .ok (.iload_n 1, 1) := by decide +kernel
theorem dX7_takesFirst_27 : decode cX7_takesFirst 27 = .ok (.bipush 10, 2) := by decide +kernel
theorem dX7_takesFirst_29 : decode cX7_takesFirst 29 = .ok (.invokestatic 37, 3) := by decide +kernel
theorem dX7_takesFirst_32 : decode cX7_takesFirst 32 = .ok (.iaload, 1) := by decide +kernel
theorem dX7_takesFirst_33 : decode cX7_takesFirst 33 = .ok (.iastore, 1) := by decide +kernel
theorem dX7_takesFirst_34 : decode cX7_takesFirst 34 = .ok (.aload_n 0, 1) := by decide +kernel
theorem dX7_takesFirst_35 : decode cX7_takesFirst 35 = .ok (.getfield 7, 3) := by decide +kernel
theorem dX7_takesFirst_38 : decode cX7_takesFirst 38 = .ok (.iload_n 1, 1) := by decide +kernel
theorem dX7_takesFirst_39 : decode cX7_takesFirst 39 = .ok (.bipush 10, 2) := by decide +kernel
theorem dX7_takesFirst_41 : decode cX7_takesFirst 41 = .ok (.invokestatic 37, 3) := by decide +kernel
theorem dX7_takesFirst_44 : decode cX7_takesFirst 44 = .ok (.aload_n 0, 1) := by decide +kernel
theorem dX7_takesFirst_45 : decode cX7_takesFirst 45 = .ok (.getfield 7, 3) := by decide +kernel
theorem dX7_takesFirst_48 : decode cX7_takesFirst 48 = .ok (.iload_n 1, 1) := by decide +kernel
theorem dX7_takesFirst_49 : decode cX7_takesFirst 49 = .ok (.bipush 11, 2) := by decide +kernel
theorem dX7_takesFirst_51 : decode cX7_takesFirst 51 = .ok (.invokestatic 37, 3) := by decide +kernel
theorem dX7_takesFirst_54 : decode cX7_takesFirst 54 = .ok (.iaload, 1) := by decide +kernel
theorem dX7_takesFirst_55 : decode cX7_takesFirst 55 = .ok (.iastore, 1) := by decide +kernel
theorem dX7_takesFirst_56 : decode cX7_takesFirst 56 = .ok (.aload_n 0, 1) := by decide +kernel
theorem dX7_takesFirst_57 : decode cX7_takesFirst 57 = .ok (.getfield 7, 3) := by decide +kernel
theorem dX7_takesFirst_60 : decode cX7_takesFirst 60 = .ok (.iload_n 1, 1) := by decide +kernel
theorem dX7_takesFirst_61 : decode cX7_takesFirst 61 = .ok (.bipush 11, 2) := by decide +kernel
theorem dX7_takesFirst_63 : decode cX7_takesFirst 63 = .ok (.invokestatic 37, 3) := by decide +kernel
theorem dX7_takesFirst_66 : decode cX7_takesFirst 66 = .ok (.iconst 0, 1) := by decide +kernel
theorem dX7_takesFirst_67 : decode cX7_takesFirst 67 = .ok (.iastore, 1) := by decide +kernel
theorem dX7_takesFirst_68 : decode cX7_takesFirst 68 = .ok (.aload_n 0, 1) := by decide +kernel
theorem dX7_takesFirst_69 : decode cX7_takesFirst 69 = .ok (.getfield 7, 3) := by decide +kernel
theorem dX7_takesFirst_72 : decode cX7_takesFirst 72 = .ok (.iload_n 1, 1) := by decide +kernel
theorem dX7_takesFirst_73 : decode cX7_takesFirst 73 = .ok (.bipush 8, 2) := by decide +kernel
theorem dX7_takesFirst_75 : decode cX7_takesFirst 75 = .ok (.invokestatic 37, 3) := by decide +kernel
theorem dX7_takesFirst_78 : decode cX7_takesFirst 78 = .ok (.dup2, 1) := by decide +kernel
theorem dX7_takesFirst_79 : decode cX7_takesFirst 79 = .ok (.iaload, 1) := by decide +kernel
theorem dX7_takesFirst_80 : decode cX7_takesFirst 80 = .ok (.iconst 1, 1) := by decide +kernel
theorem dX7_takesFirst_81 : decode cX7_takesFirst 81 = .ok (.isub, 1) := by decide +kernel
theorem dX7_takesFirst_82 : decode cX7_takesFirst 82 = .ok (.iastore, 1) := by decide +kernel
theorem dX7_takesFirst_83 : decode cX7_takesFirst 83 = .ok (.iload_n 2, 1) := by decide +kernel
theorem dX7_takesFirst_84 : decode cX7_takesFirst 84 = .ok (.ireturn, 1) := by decide +kernel
set_option maxRecDepth 20000 in
theorem ggX7_comes_X7_rests : GoodIn wsX7_comes wsX7_rests := goodIn_r _ [6, 1, 7, 8, 5, 9, 21, 22, 23, 24, 25, 26, 27, 28, 29, 30, 31, 32, 33, 34, 35, 36, 37] (by decide +kernel) (by decide +kernel)
set_option maxRecDepth 20000 in
theorem gX7_comes_X7_rests : GoodIn wsX7_comes (wsV RX7 51 RX7 yX7_rests wsX7_rests) := goodIn_app (goodIn_of _ (by decide +kernel)) ggX7_comes_X7_rests
set_option maxRecDepth 20000 in
theorem ggX7_comes_X7_begins : GoodIn wsX7_comes wsX7_begins := goodIn_r _ [13, 1, 7, 8, 5, 9, 14, 15, 16, 17, 18, 19, 20, 21, 22, 23, 24, 25, 26, 27, 28, 29, 30, 31, 32, 33, 34, 35, 36, 37] (by decide +kernel) (by decide +kernel)
set_option maxRecDepth 20000 in
theorem gX7_comes_X7_begins : GoodIn wsX7_comes (wsV RX7 55 RX7 yX7_begins wsX7_begins) := goodIn_app (goodIn_of _ (by decide +kernel)) ggX7_comes_X7_begins
set_option maxRecDepth 20000 in
theorem ggX7_comes_X7_at : GoodIn wsX7_comes wsX7_at := goodIn_r _ [9] (by decide +kernel) (by decide +kernel)
set_option maxRecDepth 20000 in
theorem gX7_comes_X7_at : GoodIn wsX7_comes (va_wsS RX7 37 yX7_at wsX7_at) := goodIn_app (goodIn_of _ (by decide +kernel)) ggX7_comes_X7_at
theorem dX7_comes_0 : decode cX7_comes 0 = .ok (.aload_n 0, 1) := by decide +kernel
theorem dX7_comes_1 : decode cX7_comes 1 = .ok (.iload_n 1, 1) := by decide +kernel
theorem dX7_comes_2 : decode cX7_comes 2 = .ok (.invokevirtual 51, 3) := by decide +kernel
theorem dX7_comes_5 : decode cX7_comes 5 = .ok (.ifCond .eq 12, 3) := by decide +kernel
theorem dX7_comes_8 : decode cX7_comes 8 = .ok (.aload_n 0, 1) := by decide +kernel
theorem dX7_comes_9 : decode cX7_comes 9 = .ok (.iload_n 1, 1) := by decide +kernel
theorem dX7_comes_10 : decode cX7_comes 10 = .ok (.iload_n 2, 1) := by decide +kernel
theorem dX7_comes_11 : decode cX7_comes 11 = .ok (.invokevirtual 55, 3) := by decide +kernel
theorem dX7_comes_14 : decode cX7_comes 14 = .ok (.goto 57, 3) := by decide +kernel
theorem dX7_comes_17 : decode cX7_comes 17 = .ok (.aload_n 0, 1) := by decide +kernel
theorem dX7_comes_18 : decode cX7_comes 18 = .ok (.getfield 7, 3) := by decide +kernel
theorem dX7_comes_21 : decode cX7_comes 21 = .ok (.iload_n 1, 1) := by decide +kernel
theorem dX7_comes_22 : decode cX7_comes 22 = .ok (.bipush 8, 2) := by decide +kernel
theorem dX7_comes_24 : decode cX7_comes 24 = .ok (.invokestatic 37, 3) := by decide +kernel
theorem dX7_comes_27 : decode cX7_comes 27 = .ok (.iaload, 1) := by decide +kernel
theorem dX7_comes_28 : decode cX7_comes 28 = .ok (.iconst 3, 1) := by decide +kernel
theorem dX7_comes_29 : decode cX7_comes 29 = .ok (.if_icmp .ge 42, 3) := by decide +kernel
theorem dX7_comes_32 : decode cX7_comes 32 = .ok (.aload_n 0, 1) := by decide +kernel
theorem dX7_comes_33 : decode cX7_comes 33 = .ok (.getfield 7, 3) := by decide +kernel
theorem dX7_comes_36 : decode cX7_comes 36 = .ok (.iload_n 1, 1) := by decide +kernel
theorem dX7_comes_37 : decode cX7_comes 37 = .ok (.bipush 9, 2) := by decide +kernel
theorem dX7_comes_39 : decode cX7_comes 39 = .ok (.aload_n 0, 1) := by decide +kernel
theorem dX7_comes_40 : decode cX7_comes 40 = .ok (.getfield 7, 3) := by decide +kernel
theorem dX7_comes_43 : decode cX7_comes 43 = .ok (.iload_n 1, 1) := by decide +kernel
theorem dX7_comes_44 : decode cX7_comes 44 = .ok (.bipush 8, 2) := by decide +kernel
theorem dX7_comes_46 : decode cX7_comes 46 = .ok (.invokestatic 37, 3) := by decide +kernel
theorem dX7_comes_49 : decode cX7_comes 49 = .ok (.iaload, 1) := by decide +kernel
theorem dX7_comes_50 : decode cX7_comes 50 = .ok (.iadd, 1) := by decide +kernel
theorem dX7_comes_51 : decode cX7_comes 51 = .ok (.invokestatic 37, 3) := by decide +kernel
theorem dX7_comes_54 : decode cX7_comes 54 = .ok (.iload_n 2, 1) := by decide +kernel
theorem dX7_comes_55 : decode cX7_comes 55 = .ok (.iastore, 1) := by decide +kernel
theorem dX7_comes_56 : decode cX7_comes 56 = .ok (.aload_n 0, 1) := by decide +kernel
theorem dX7_comes_57 : decode cX7_comes 57 = .ok (.getfield 7, 3) := by decide +kernel
theorem dX7_comes_60 : decode cX7_comes 60 = .ok (.iload_n 1, 1) := by decide +kernel
theorem dX7_comes_61 : decode cX7_comes 61 = .ok (.bipush 8, 2) := by decide +kernel
theorem dX7_comes_63 : decode cX7_comes 63 = .ok (.invokestatic 37, 3) := by decide +kernel
theorem dX7_comes_66 : decode cX7_comes 66 = .ok (.dup2, 1) := by decide +kernel
theorem dX7_comes_67 : decode cX7_comes 67 = .ok (.iaload, 1) := by decide +kernel
theorem dX7_comes_68 : decode cX7_comes 68 = .ok (.iconst 1, 1) := by decide +kernel
theorem dX7_comes_69 : decode cX7_comes 69 = .ok (.iadd, 1) := by decide +kernel
theorem dX7_comes_70 : decode cX7_comes 70 = .ok (.iastore, 1) := by decide +kernel
theorem dX7_comes_71 : decode cX7_comes 71 = .ok (.return_, 1) := by decide +kernel
set_option maxRecDepth 20000 in
theorem ggX7_steps_X7_at : GoodIn wsX7_steps wsX7_at := goodIn_r _ [8] (by decide +kernel) (by decide +kernel)
set_option maxRecDepth 20000 in
theorem gX7_steps_X7_at : GoodIn wsX7_steps (va_wsS RX7 37 yX7_at wsX7_at) := goodIn_app (goodIn_of _ (by decide +kernel)) ggX7_steps_X7_at
set_option maxRecDepth 20000 in
theorem ggX7_steps_X7_intervalBy : GoodIn wsX7_steps wsX7_intervalBy := goodIn_r _ [12, 1, 39, 40, 41, 42, 43, 44, 45, 46, 47, 48, 49, 50, 51, 52, 53, 54, 55] (by decide +kernel) (by decide +kernel)
set_option maxRecDepth 20000 in
theorem gX7_steps_X7_intervalBy : GoodIn wsX7_steps (wsV RX7 48 RX7 yX7_intervalBy wsX7_intervalBy) := goodIn_app (goodIn_of _ (by decide +kernel)) ggX7_steps_X7_intervalBy
set_option maxRecDepth 20000 in
theorem ggX7_steps_X7_needs : GoodIn wsX7_steps wsX7_needs := goodIn_r _ [16, 1, 39, 40, 41, 42, 43, 44, 45, 46, 47, 48, 49, 50, 51, 52, 53, 54, 55] (by decide +kernel) (by decide +kernel)
set_option maxRecDepth 20000 in
theorem gX7_steps_X7_needs : GoodIn wsX7_steps (wsV RX7 59 RX7 yX7_needs wsX7_needs) := goodIn_app (goodIn_of _ (by decide +kernel)) ggX7_steps_X7_needs
set_option maxRecDepth 20000 in
theorem ggX7_steps_X7_rests : GoodIn wsX7_steps wsX7_rests := goodIn_r _ [20, 1, 5, 6, 7, 8, 39, 40, 41, 42, 43, 44, 45, 46, 47, 48, 49, 50, 51, 52, 53, 54, 55] (by decide +kernel) (by decide +kernel)
set_option maxRecDepth 20000 in
theorem gX7_steps_X7_rests : GoodIn wsX7_steps (wsV RX7 51 RX7 yX7_rests wsX7_rests) := goodIn_app (goodIn_of _ (by decide +kernel)) ggX7_steps_X7_rests
set_option maxRecDepth 20000 in
theorem ggX7_steps_X7_takesFirst : GoodIn wsX7_steps wsX7_takesFirst := goodIn_r _ [24, 1, 5, 6, 7, 8, 39, 40, 41, 42, 43, 44, 45, 46, 47, 48, 49, 50, 51, 52, 53, 54, 55] (by decide +kernel) (by decide +kernel)
set_option maxRecDepth 20000 in
theorem gX7_steps_X7_takesFirst : GoodIn wsX7_steps (wsV RX7 69 RX7 yX7_takesFirst wsX7_takesFirst) := goodIn_app (goodIn_of _ (by decide +kernel)) ggX7_steps_X7_takesFirst
set_option maxRecDepth 20000 in
theorem ggX7_steps_X7_begins : GoodIn wsX7_steps wsX7_begins := goodIn_r _ [28, 1, 5, 6, 7, 8, 29, 30, 31, 9, 10, 11, 12, 39, 40, 41, 42, 43, 44, 45, 46, 47, 48, 49, 50, 51, 52, 53, 54, 55] (by decide +kernel) (by decide +kernel)
set_option maxRecDepth 20000 in
theorem gX7_steps_X7_begins : GoodIn wsX7_steps (wsV RX7 55 RX7 yX7_begins wsX7_begins) := goodIn_app (goodIn_of _ (by decide +kernel)) ggX7_steps_X7_begins
set_option maxRecDepth 20000 in
theorem ggX7_steps_X7_highestBy : GoodIn wsX7_steps wsX7_highestBy := goodIn_r _ [35, 1, 39, 40, 41, 42, 43, 44, 45, 46, 47, 48, 49, 50, 51, 52, 53, 54, 55] (by decide +kernel) (by decide +kernel)
set_option maxRecDepth 20000 in
theorem gX7_steps_X7_highestBy : GoodIn wsX7_steps (wsV RX7 72 RX7 yX7_highestBy wsX7_highestBy) := goodIn_app (goodIn_of _ (by decide +kernel)) ggX7_steps_X7_highestBy
set_option maxRecDepth 20000 in
theorem ggX7_steps_X7_nextLevel : GoodIn wsX7_steps wsX7_nextLevel := goodIn_r _ [38] (by decide +kernel) (by decide +kernel)
set_option maxRecDepth 20000 in
theorem gX7_steps_X7_nextLevel : GoodIn wsX7_steps (va_wsS RX7 75 yX7_nextLevel wsX7_nextLevel) := goodIn_app (goodIn_of _ (by decide +kernel)) ggX7_steps_X7_nextLevel
theorem dX7_steps_0 : decode cX7_steps 0 = .ok (.aload_n 0, 1) := by decide +kernel
theorem dX7_steps_1 : decode cX7_steps 1 = .ok (.getfield 7, 3) := by decide +kernel
theorem dX7_steps_4 : decode cX7_steps 4 = .ok (.iload_n 1, 1) := by decide +kernel
theorem dX7_steps_5 : decode cX7_steps 5 = .ok (.iconst 4, 1) := by decide +kernel
theorem dX7_steps_6 : decode cX7_steps 6 = .ok (.invokestatic 37, 3) := by decide +kernel
theorem dX7_steps_9 : decode cX7_steps 9 = .ok (.iaload, 1) := by decide +kernel
theorem dX7_steps_10 : decode cX7_steps 10 = .ok (.aload_n 0, 1) := by decide +kernel
theorem dX7_steps_11 : decode cX7_steps 11 = .ok (.getfield 7, 3) := by decide +kernel
theorem dX7_steps_14 : decode cX7_steps 14 = .ok (.iload_n 1, 1) := by decide +kernel
theorem dX7_steps_15 : decode cX7_steps 15 = .ok (.iconst 0, 1) := by decide +kernel
theorem dX7_steps_16 : decode cX7_steps 16 = .ok (.invokestatic 37, 3) := by decide +kernel
theorem dX7_steps_19 : decode cX7_steps 19 = .ok (.iaload, 1) := by decide +kernel
theorem dX7_steps_20 : decode cX7_steps 20 = .ok (.imul, 1) := by decide +kernel
theorem dX7_steps_21 : decode cX7_steps 21 = .ok (.istore_n 2, 1) := by decide +kernel
theorem dX7_steps_22 : decode cX7_steps 22 = .ok (.aload_n 0, 1) := by decide +kernel
theorem dX7_steps_23 : decode cX7_steps 23 = .ok (.aload_n 0, 1) := by decide +kernel
theorem dX7_steps_24 : decode cX7_steps 24 = .ok (.getfield 7, 3) := by decide +kernel
theorem dX7_steps_27 : decode cX7_steps 27 = .ok (.iload_n 1, 1) := by decide +kernel
theorem dX7_steps_28 : decode cX7_steps 28 = .ok (.bipush 6, 2) := by decide +kernel
theorem dX7_steps_30 : decode cX7_steps 30 = .ok (.invokestatic 37, 3) := by decide +kernel
theorem dX7_steps_33 : decode cX7_steps 33 = .ok (.iaload, 1) := by decide +kernel
theorem dX7_steps_34 : decode cX7_steps 34 = .ok (.aload_n 0, 1) := by decide +kernel
theorem dX7_steps_35 : decode cX7_steps 35 = .ok (.getfield 7, 3) := by decide +kernel
theorem dX7_steps_38 : decode cX7_steps 38 = .ok (.iconst 2, 1) := by decide +kernel
theorem dX7_steps_39 : decode cX7_steps 39 = .ok (.iaload, 1) := by decide +kernel
theorem dX7_steps_40 : decode cX7_steps 40 = .ok (.invokevirtual 48, 3) := by decide +kernel
theorem dX7_steps_43 : decode cX7_steps 43 = .ok (.aload_n 0, 1) := by decide +kernel
theorem dX7_steps_44 : decode cX7_steps 44 = .ok (.aload_n 0, 1) := by decide +kernel
theorem dX7_steps_45 : decode cX7_steps 45 = .ok (.getfield 7, 3) := by decide +kernel
theorem dX7_steps_48 : decode cX7_steps 48 = .ok (.iload_n 1, 1) := by decide +kernel
theorem dX7_steps_49 : decode cX7_steps 49 = .ok (.iconst 1, 1) := by decide +kernel
theorem dX7_steps_50 : decode cX7_steps 50 = .ok (.invokestatic 37, 3) := by decide +kernel
theorem dX7_steps_53 : decode cX7_steps 53 = .ok (.iaload, 1) := by decide +kernel
theorem dX7_steps_54 : decode cX7_steps 54 = .ok (.invokevirtual 59, 3) := by decide +kernel
theorem dX7_steps_57 : decode cX7_steps 57 = .ok (.if_icmp .ge 7, 3) := by decide +kernel
theorem dX7_steps_60 : decode cX7_steps 60 = .ok (.iconst 1, 1) := by decide +kernel
theorem dX7_steps_61 : decode cX7_steps 61 = .ok (.goto 4, 3) := by decide +kernel
theorem dX7_steps_64 : decode cX7_steps 64 = .ok (.iconst 0, 1) := by decide +kernel
theorem dX7_steps_65 : decode cX7_steps 65 = .ok (.istore_n 3, 1) := by decide +kernel
theorem dX7_steps_66 : decode cX7_steps 66 = .ok (.aload_n 0, 1) := by decide +kernel
theorem dX7_steps_67 : decode cX7_steps 67 = .ok (.getfield 29, 3) := by decide +kernel
theorem dX7_steps_70 : decode cX7_steps 70 = .ok (.ifCond .ne 13, 3) := by decide +kernel
theorem dX7_steps_73 : decode cX7_steps 73 = .ok (.aload_n 0, 1) := by decide +kernel
theorem dX7_steps_74 : decode cX7_steps 74 = .ok (.iload_n 1, 1) := by decide +kernel
theorem dX7_steps_75 : decode cX7_steps 75 = .ok (.putfield 62, 3) := by decide +kernel
theorem dX7_steps_78 : decode cX7_steps 78 = .ok (.aload_n 0, 1) := by decide +kernel
theorem dX7_steps_79 : decode cX7_steps 79 = .ok (.iload_n 3, 1) := by decide +kernel
theorem dX7_steps_80 : decode cX7_steps 80 = .ok (.putfield 65, 3) := by decide +kernel
theorem dX7_steps_83 : decode cX7_steps 83 = .ok (.aload_n 0, 1) := by decide +kernel
theorem dX7_steps_84 : decode cX7_steps 84 = .ok (.dup, 1) := by decide +kernel
theorem dX7_steps_85 : decode cX7_steps 85 = .ok (.getfield 29, 3) := by decide +kernel
theorem dX7_steps_88 : decode cX7_steps 88 = .ok (.aload_n 0, 1) := by decide +kernel
theorem dX7_steps_89 : decode cX7_steps 89 = .ok (.getfield 29, 3) := by decide +kernel
theorem dX7_steps_92 : decode cX7_steps 92 = .ok (.ifCond .ge 7, 3) := by decide +kernel
theorem dX7_steps_95 : decode cX7_steps 95 = .ok (.iconst 0, 1) := by decide +kernel
theorem dX7_steps_96 : decode cX7_steps 96 = .ok (.goto 4, 3) := by decide +kernel
theorem dX7_steps_99 : decode cX7_steps 99 = .ok (.iconst 1, 1) := by decide +kernel
theorem dX7_steps_100 : decode cX7_steps 100 = .ok (.isub, 1) := by decide +kernel
theorem dX7_steps_101 : decode cX7_steps 101 = .ok (.putfield 29, 3) := by decide +kernel
theorem dX7_steps_104 : decode cX7_steps 104 = .ok (.aload_n 0, 1) := by decide +kernel
theorem dX7_steps_105 : decode cX7_steps 105 = .ok (.getfield 7, 3) := by decide +kernel
theorem dX7_steps_108 : decode cX7_steps 108 = .ok (.iload_n 1, 1) := by decide +kernel
theorem dX7_steps_109 : decode cX7_steps 109 = .ok (.iconst 2, 1) := by decide +kernel
theorem dX7_steps_110 : decode cX7_steps 110 = .ok (.invokestatic 37, 3) := by decide +kernel
theorem dX7_steps_113 : decode cX7_steps 113 = .ok (.dup2, 1) := by decide +kernel
theorem dX7_steps_114 : decode cX7_steps 114 = .ok (.iaload, 1) := by decide +kernel
theorem dX7_steps_115 : decode cX7_steps 115 = .ok (.iload_n 2, 1) := by decide +kernel
theorem dX7_steps_116 : decode cX7_steps 116 = .ok (.iadd, 1) := by decide +kernel
theorem dX7_steps_117 : decode cX7_steps 117 = .ok (.iastore, 1) := by decide +kernel
theorem dX7_steps_118 : decode cX7_steps 118 = .ok (.aload_n 0, 1) := by decide +kernel
theorem dX7_steps_119 : decode cX7_steps 119 = .ok (.getfield 7, 3) := by decide +kernel
theorem dX7_steps_122 : decode cX7_steps 122 = .ok (.iload_n 1, 1) := by decide +kernel
theorem dX7_steps_123 : decode cX7_steps 123 = .ok (.iconst 3, 1) := by decide +kernel
theorem dX7_steps_124 : decode cX7_steps 124 = .ok (.invokestatic 37, 3) := by decide +kernel
theorem dX7_steps_127 : decode cX7_steps 127 = .ok (.dup2, 1) := by decide +kernel
theorem dX7_steps_128 : decode cX7_steps 128 = .ok (.iaload, 1) := by decide +kernel
theorem dX7_steps_129 : decode cX7_steps 129 = .ok (.iload_n 3, 1) := by decide +kernel
theorem dX7_steps_130 : decode cX7_steps 130 = .ok (.ifCond .eq 7, 3) := by decide +kernel
theorem dX7_steps_133 : decode cX7_steps 133 = .ok (.iconst 0, 1) := by decide +kernel
theorem dX7_steps_134 : decode cX7_steps 134 = .ok (.goto 4, 3) := by decide +kernel
theorem dX7_steps_137 : decode cX7_steps 137 = .ok (.iload_n 2, 1) := by decide +kernel
theorem dX7_steps_138 : decode cX7_steps 138 = .ok (.iadd, 1) := by decide +kernel
theorem dX7_steps_139 : decode cX7_steps 139 = .ok (.iastore, 1) := by decide +kernel
theorem dX7_steps_140 : decode cX7_steps 140 = .ok (.aload_n 0, 1) := by decide +kernel
theorem dX7_steps_141 : decode cX7_steps 141 = .ok (.getfield 7, 3) := by decide +kernel
theorem dX7_steps_144 : decode cX7_steps 144 = .ok (.iload_n 1, 1) := by decide +kernel
theorem dX7_steps_145 : decode cX7_steps 145 = .ok (.bipush 12, 2) := by decide +kernel
theorem dX7_steps_147 : decode cX7_steps 147 = .ok (.invokestatic 37, 3) := by decide +kernel
theorem dX7_steps_150 : decode cX7_steps 150 = .ok (.dup2, 1) := by decide +kernel
theorem dX7_steps_151 : decode cX7_steps 151 = .ok (.iaload, 1) := by decide +kernel
theorem dX7_steps_152 : decode cX7_steps 152 = .ok (.iconst 1, 1) := by decide +kernel
theorem dX7_steps_153 : decode cX7_steps 153 = .ok (.iadd, 1) := by decide +kernel
theorem dX7_steps_154 : decode cX7_steps 154 = .ok (.iastore, 1) := by decide +kernel
theorem dX7_steps_155 : decode cX7_steps 155 = .ok (.aload_n 0, 1) := by decide +kernel
theorem dX7_steps_156 : decode cX7_steps 156 = .ok (.getfield 7, 3) := by decide +kernel
theorem dX7_steps_159 : decode cX7_steps 159 = .ok (.iload_n 1, 1) := by decide +kernel
theorem dX7_steps_160 : decode cX7_steps 160 = .ok (.bipush 13, 2) := by decide +kernel
theorem dX7_steps_162 : decode cX7_steps 162 = .ok (.invokestatic 37, 3) := by decide +kernel
theorem dX7_steps_165 : decode cX7_steps 165 = .ok (.dup2, 1) := by decide +kernel
theorem dX7_steps_166 : decode cX7_steps 166 = .ok (.iaload, 1) := by decide +kernel
theorem dX7_steps_167 : decode cX7_steps 167 = .ok (.iload_n 3, 1) := by decide +kernel
theorem dX7_steps_168 : decode cX7_steps 168 = .ok (.ifCond .eq 7, 3) := by decide +kernel
theorem dX7_steps_171 : decode cX7_steps 171 = .ok (.iconst 1, 1) := by decide +kernel
theorem dX7_steps_172 : decode cX7_steps 172 = .ok (.goto 4, 3) := by decide +kernel
theorem dX7_steps_175 : decode cX7_steps 175 = .ok (.iconst 0, 1) := by decide +kernel
theorem dX7_steps_176 : decode cX7_steps 176 = .ok (.iadd, 1) := by decide +kernel
theorem dX7_steps_177 : decode cX7_steps 177 = .ok (.iastore, 1) := by decide +kernel
theorem dX7_steps_178 : decode cX7_steps 178 = .ok (.aload_n 0, 1) := by decide +kernel
theorem dX7_steps_179 : decode cX7_steps 179 = .ok (.getfield 7, 3) := by decide +kernel
theorem dX7_steps_182 : decode cX7_steps 182 = .ok (.iload_n 1, 1) := by decide +kernel
theorem dX7_steps_183 : decode cX7_steps 183 = .ok (.iconst 5, 1) := by decide +kernel
theorem dX7_steps_184 : decode cX7_steps 184 = .ok (.invokestatic 37, 3) := by decide +kernel
theorem dX7_steps_187 : decode cX7_steps 187 = .ok (.dup2, 1) := by decide +kernel
theorem dX7_steps_188 : decode cX7_steps 188 = .ok (.iaload, 1) := by decide +kernel
theorem dX7_steps_189 : decode cX7_steps 189 = .ok (.iconst 1, 1) := by decide +kernel
theorem dX7_steps_190 : decode cX7_steps 190 = .ok (.isub, 1) := by decide +kernel
theorem dX7_steps_191 : decode cX7_steps 191 = .ok (.iastore, 1) := by decide +kernel
theorem dX7_steps_192 : decode cX7_steps 192 = .ok (.aload_n 0, 1) := by decide +kernel
theorem dX7_steps_193 : decode cX7_steps 193 = .ok (.iload_n 1, 1) := by decide +kernel
theorem dX7_steps_194 : decode cX7_steps 194 = .ok (.invokevirtual 51, 3) := by decide +kernel
theorem dX7_steps_197 : decode cX7_steps 197 = .ok (.ifCond .eq 50, 3) := by decide +kernel
theorem dX7_steps_200 : decode cX7_steps 200 = .ok (.aload_n 0, 1) := by decide +kernel
theorem dX7_steps_201 : decode cX7_steps 201 = .ok (.getfield 7, 3) := by decide +kernel
theorem dX7_steps_204 : decode cX7_steps 204 = .ok (.iload_n 1, 1) := by decide +kernel
theorem dX7_steps_205 : decode cX7_steps 205 = .ok (.bipush 6, 2) := by decide +kernel
theorem dX7_steps_207 : decode cX7_steps 207 = .ok (.invokestatic 37, 3) := by decide +kernel
theorem dX7_steps_210 : decode cX7_steps 210 = .ok (.iconst 0, 1) := by decide +kernel
theorem dX7_steps_211 : decode cX7_steps 211 = .ok (.iastore, 1) := by decide +kernel
theorem dX7_steps_212 : decode cX7_steps 212 = .ok (.aload_n 0, 1) := by decide +kernel
theorem dX7_steps_213 : decode cX7_steps 213 = .ok (.iload_n 1, 1) := by decide +kernel
theorem dX7_steps_214 : decode cX7_steps 214 = .ok (.invokevirtual 51, 3) := by decide +kernel
theorem dX7_steps_217 : decode cX7_steps 217 = .ok (.ifCond .eq 114, 3) := by decide +kernel
theorem dX7_steps_220 : decode cX7_steps 220 = .ok (.aload_n 0, 1) := by decide +kernel
theorem dX7_steps_221 : decode cX7_steps 221 = .ok (.getfield 7, 3) := by decide +kernel
theorem dX7_steps_224 : decode cX7_steps 224 = .ok (.iload_n 1, 1) := by decide +kernel
theorem dX7_steps_225 : decode cX7_steps 225 = .ok (.bipush 8, 2) := by decide +kernel
theorem dX7_steps_227 : decode cX7_steps 227 = .ok (.invokestatic 37, 3) := by decide +kernel
theorem dX7_steps_230 : decode cX7_steps 230 = .ok (.iaload, 1) := by decide +kernel
theorem dX7_steps_231 : decode cX7_steps 231 = .ok (.ifCond .le 100, 3) := by decide +kernel
theorem dX7_steps_234 : decode cX7_steps 234 = .ok (.aload_n 0, 1) := by decide +kernel
theorem dX7_steps_235 : decode cX7_steps 235 = .ok (.iload_n 1, 1) := by decide +kernel
theorem dX7_steps_236 : decode cX7_steps 236 = .ok (.aload_n 0, 1) := by decide +kernel
theorem dX7_steps_237 : decode cX7_steps 237 = .ok (.iload_n 1, 1) := by decide +kernel
theorem dX7_steps_238 : decode cX7_steps 238 = .ok (.invokevirtual 69, 3) := by decide +kernel
theorem dX7_steps_241 : decode cX7_steps 241 = .ok (.invokevirtual 55, 3) := by decide +kernel
theorem dX7_steps_244 : decode cX7_steps 244 = .ok (.goto (-32), 3) := by decide +kernel
theorem dX7_steps_247 : decode cX7_steps 247 = .ok (.aload_n 0, 1) := by decide +kernel
theorem dX7_steps_248 : decode cX7_steps 248 = .ok (.getfield 7, 3) := by decide +kernel
theorem dX7_steps_251 : decode cX7_steps 251 = .ok (.iload_n 1, 1) := by decide +kernel
theorem dX7_steps_252 : decode cX7_steps 252 = .ok (.bipush 6, 2) := by decide +kernel
theorem dX7_steps_254 : decode cX7_steps 254 = .ok (.invokestatic 37, 3) := by decide +kernel
theorem dX7_steps_257 : decode cX7_steps 257 = .ok (.aload_n 0, 1) := by decide +kernel
theorem dX7_steps_258 : decode cX7_steps 258 = .ok (.getfield 7, 3) := by decide +kernel
theorem dX7_steps_261 : decode cX7_steps 261 = .ok (.iload_n 1, 1) := by decide +kernel
theorem dX7_steps_262 : decode cX7_steps 262 = .ok (.bipush 6, 2) := by decide +kernel
theorem dX7_steps_264 : decode cX7_steps 264 = .ok (.invokestatic 37, 3) := by decide +kernel
theorem dX7_steps_267 : decode cX7_steps 267 = .ok (.iaload, 1) := by decide +kernel
theorem dX7_steps_268 : decode cX7_steps 268 = .ok (.aload_n 0, 1) := by decide +kernel
theorem dX7_steps_269 : decode cX7_steps 269 = .ok (.getfield 7, 3) := by decide +kernel
theorem dX7_steps_272 : decode cX7_steps 272 = .ok (.iload_n 1, 1) := by decide +kernel
theorem dX7_steps_273 : decode cX7_steps 273 = .ok (.iconst 5, 1) := by decide +kernel
theorem dX7_steps_274 : decode cX7_steps 274 = .ok (.invokestatic 37, 3) := by decide +kernel
theorem dX7_steps_277 : decode cX7_steps 277 = .ok (.iaload, 1) := by decide +kernel
theorem dX7_steps_278 : decode cX7_steps 278 = .ok (.aload_n 0, 1) := by decide +kernel
theorem dX7_steps_279 : decode cX7_steps 279 = .ok (.aload_n 0, 1) := by decide +kernel
theorem dX7_steps_280 : decode cX7_steps 280 = .ok (.getfield 7, 3) := by decide +kernel
theorem dX7_steps_283 : decode cX7_steps 283 = .ok (.iconst 2, 1) := by decide +kernel
theorem dX7_steps_284 : decode cX7_steps 284 = .ok (.iaload, 1) := by decide +kernel
theorem dX7_steps_285 : decode cX7_steps 285 = .ok (.invokevirtual 72, 3) := by decide +kernel
theorem dX7_steps_288 : decode cX7_steps 288 = .ok (.invokestatic 75, 3) := by decide +kernel
theorem dX7_steps_291 : decode cX7_steps 291 = .ok (.iastore, 1) := by decide +kernel
theorem dX7_steps_292 : decode cX7_steps 292 = .ok (.aload_n 0, 1) := by decide +kernel
theorem dX7_steps_293 : decode cX7_steps 293 = .ok (.getfield 7, 3) := by decide +kernel
theorem dX7_steps_296 : decode cX7_steps 296 = .ok (.iload_n 1, 1) := by decide +kernel
theorem dX7_steps_297 : decode cX7_steps 297 = .ok (.bipush 7, 2) := by decide +kernel
theorem dX7_steps_299 : decode cX7_steps 299 = .ok (.invokestatic 37, 3) := by decide +kernel
theorem dX7_steps_302 : decode cX7_steps 302 = .ok (.aload_n 0, 1) := by decide +kernel
theorem dX7_steps_303 : decode cX7_steps 303 = .ok (.getfield 7, 3) := by decide +kernel
theorem dX7_steps_306 : decode cX7_steps 306 = .ok (.iconst 5, 1) := by decide +kernel
theorem dX7_steps_307 : decode cX7_steps 307 = .ok (.iaload, 1) := by decide +kernel
theorem dX7_steps_308 : decode cX7_steps 308 = .ok (.aload_n 0, 1) := by decide +kernel
theorem dX7_steps_309 : decode cX7_steps 309 = .ok (.aload_n 0, 1) := by decide +kernel
theorem dX7_steps_310 : decode cX7_steps 310 = .ok (.getfield 7, 3) := by decide +kernel
theorem dX7_steps_313 : decode cX7_steps 313 = .ok (.iload_n 1, 1) := by decide +kernel
theorem dX7_steps_314 : decode cX7_steps 314 = .ok (.bipush 6, 2) := by decide +kernel
theorem dX7_steps_316 : decode cX7_steps 316 = .ok (.invokestatic 37, 3) := by decide +kernel
theorem dX7_steps_319 : decode cX7_steps 319 = .ok (.iaload, 1) := by decide +kernel
theorem dX7_steps_320 : decode cX7_steps 320 = .ok (.aload_n 0, 1) := by decide +kernel
theorem dX7_steps_321 : decode cX7_steps 321 = .ok (.getfield 7, 3) := by decide +kernel
theorem dX7_steps_324 : decode cX7_steps 324 = .ok (.iconst 2, 1) := by decide +kernel
theorem dX7_steps_325 : decode cX7_steps 325 = .ok (.iaload, 1) := by decide +kernel
theorem dX7_steps_326 : decode cX7_steps 326 = .ok (.invokevirtual 48, 3) := by decide +kernel
theorem dX7_steps_329 : decode cX7_steps 329 = .ok (.iadd, 1) := by decide +kernel
theorem dX7_steps_330 : decode cX7_steps 330 = .ok (.iastore, 1) := by decide +kernel
theorem dX7_steps_331 : decode cX7_steps 331 = .ok (.return_, 1) := by decide +kernel
set_option maxRecDepth 20000 in
theorem ggX7_plansCome_X7_comes : GoodIn wsX7_plansCome wsX7_comes := goodIn_r _ [6, 1, 7, 8, 9, 5, 10, 11, 12, 13, 14, 15, 16, 17, 18, 19, 20, 21, 22, 23, 24, 25, 26, 27, 28, 29, 30, 31, 32, 33, 34, 35, 36, 37, 38, 39, 40, 41] (by decide +kernel) (by decide +kernel)
set_option maxRecDepth 20000 in
theorem gX7_plansCome_X7_comes : GoodIn wsX7_plansCome (wsV RX7 79 RX7 yX7_comes wsX7_comes) := goodIn_app (goodIn_of _ (by decide +kernel)) ggX7_plansCome_X7_comes
theorem dX7_plansCome_0 : decode cX7_plansCome 0 = .ok (.iconst 0, 1) := by decide +kernel
theorem dX7_plansCome_1 : decode cX7_plansCome 1 = .ok (.istore_n 1, 1) := by decide +kernel
theorem dX7_plansCome_2 : decode cX7_plansCome 2 = .ok (.aload_n 0, 1) := by decide +kernel
theorem dX7_plansCome_3 : decode cX7_plansCome 3 = .ok (.getfield 7, 3) := by decide +kernel
theorem dX7_plansCome_6 : decode cX7_plansCome 6 = .ok (.bipush 63, 2) := by decide +kernel
theorem dX7_plansCome_8 : decode cX7_plansCome 8 = .ok (.iaload, 1) := by decide +kernel
theorem dX7_plansCome_9 : decode cX7_plansCome 9 = .ok (.istore_n 2, 1) := by decide +kernel
theorem dX7_plansCome_10 : decode cX7_plansCome 10 = .ok (.iconst 0, 1) := by decide +kernel
theorem dX7_plansCome_11 : decode cX7_plansCome 11 = .ok (.istore_n 3, 1) := by decide +kernel
theorem dX7_plansCome_12 : decode cX7_plansCome 12 = .ok (.iload_n 3, 1) := by decide +kernel
theorem dX7_plansCome_13 : decode cX7_plansCome 13 = .ok (.iload_n 2, 1) := by decide +kernel
theorem dX7_plansCome_14 : decode cX7_plansCome 14 = .ok (.if_icmp .ge 100, 3) := by decide +kernel
theorem dX7_plansCome_17 : decode cX7_plansCome 17 = .ok (.bipush 64, 2) := by decide +kernel
theorem dX7_plansCome_19 : decode cX7_plansCome 19 = .ok (.iconst 3, 1) := by decide +kernel
theorem dX7_plansCome_20 : decode cX7_plansCome 20 = .ok (.iload_n 3, 1) := by decide +kernel
theorem dX7_plansCome_21 : decode cX7_plansCome 21 = .ok (.imul, 1) := by decide +kernel
theorem dX7_plansCome_22 : decode cX7_plansCome 22 = .ok (.iadd, 1) := by decide +kernel
theorem dX7_plansCome_23 : decode cX7_plansCome 23 = .ok (.istore 4, 2) := by decide +kernel
theorem dX7_plansCome_25 : decode cX7_plansCome 25 = .ok (.aload_n 0, 1) := by decide +kernel
theorem dX7_plansCome_26 : decode cX7_plansCome 26 = .ok (.getfield 7, 3) := by decide +kernel
theorem dX7_plansCome_29 : decode cX7_plansCome 29 = .ok (.iload 4, 2) := by decide +kernel
theorem dX7_plansCome_31 : decode cX7_plansCome 31 = .ok (.iaload, 1) := by decide +kernel
theorem dX7_plansCome_32 : decode cX7_plansCome 32 = .ok (.aload_n 0, 1) := by decide +kernel
theorem dX7_plansCome_33 : decode cX7_plansCome 33 = .ok (.getfield 7, 3) := by decide +kernel
theorem dX7_plansCome_36 : decode cX7_plansCome 36 = .ok (.iconst 5, 1) := by decide +kernel
theorem dX7_plansCome_37 : decode cX7_plansCome 37 = .ok (.iaload, 1) := by decide +kernel
theorem dX7_plansCome_38 : decode cX7_plansCome 38 = .ok (.if_icmp .ne 28, 3) := by decide +kernel
theorem dX7_plansCome_41 : decode cX7_plansCome 41 = .ok (.aload_n 0, 1) := by decide +kernel
theorem dX7_plansCome_42 : decode cX7_plansCome 42 = .ok (.aload_n 0, 1) := by decide +kernel
theorem dX7_plansCome_43 : decode cX7_plansCome 43 = .ok (.getfield 7, 3) := by decide +kernel
theorem dX7_plansCome_46 : decode cX7_plansCome 46 = .ok (.iload 4, 2) := by decide +kernel
theorem dX7_plansCome_48 : decode cX7_plansCome 48 = .ok (.iconst 1, 1) := by decide +kernel
theorem dX7_plansCome_49 : decode cX7_plansCome 49 = .ok (.iadd, 1) := by decide +kernel
theorem dX7_plansCome_50 : decode cX7_plansCome 50 = .ok (.iaload, 1) := by decide +kernel
theorem dX7_plansCome_51 : decode cX7_plansCome 51 = .ok (.aload_n 0, 1) := by decide +kernel
theorem dX7_plansCome_52 : decode cX7_plansCome 52 = .ok (.getfield 7, 3) := by decide +kernel
theorem dX7_plansCome_55 : decode cX7_plansCome 55 = .ok (.iload 4, 2) := by decide +kernel
theorem dX7_plansCome_57 : decode cX7_plansCome 57 = .ok (.iconst 2, 1) := by decide +kernel
theorem dX7_plansCome_58 : decode cX7_plansCome 58 = .ok (.iadd, 1) := by decide +kernel
theorem dX7_plansCome_59 : decode cX7_plansCome 59 = .ok (.iaload, 1) := by decide +kernel
theorem dX7_plansCome_60 : decode cX7_plansCome 60 = .ok (.invokevirtual 79, 3) := by decide +kernel
theorem dX7_plansCome_63 : decode cX7_plansCome 63 = .ok (.goto 45, 3) := by decide +kernel
theorem dX7_plansCome_66 : decode cX7_plansCome 66 = .ok (.iconst 0, 1) := by decide +kernel
theorem dX7_plansCome_67 : decode cX7_plansCome 67 = .ok (.istore 5, 2) := by decide +kernel
theorem dX7_plansCome_69 : decode cX7_plansCome 69 = .ok (.iload 5, 2) := by decide +kernel
theorem dX7_plansCome_71 : decode cX7_plansCome 71 = .ok (.iconst 3, 1) := by decide +kernel
theorem dX7_plansCome_72 : decode cX7_plansCome 72 = .ok (.if_icmp .ge 33, 3) := by decide +kernel
theorem dX7_plansCome_75 : decode cX7_plansCome 75 = .ok (.aload_n 0, 1) := by decide +kernel
theorem dX7_plansCome_76 : decode cX7_plansCome 76 = .ok (.getfield 7, 3) := by decide +kernel
theorem dX7_plansCome_79 : decode cX7_plansCome 79 = .ok (.bipush 64, 2) := by decide +kernel
theorem dX7_plansCome_81 : decode cX7_plansCome 81 = .ok (.iconst 3, 1) := by decide +kernel
theorem dX7_plansCome_82 : decode cX7_plansCome 82 = .ok (.iload_n 1, 1) := by decide +kernel
theorem dX7_plansCome_83 : decode cX7_plansCome 83 = .ok (.imul, 1) := by decide +kernel
theorem dX7_plansCome_84 : decode cX7_plansCome 84 = .ok (.iadd, 1) := by decide +kernel
theorem dX7_plansCome_85 : decode cX7_plansCome 85 = .ok (.iload 5, 2) := by decide +kernel
theorem dX7_plansCome_87 : decode cX7_plansCome 87 = .ok (.iadd, 1) := by decide +kernel
theorem dX7_plansCome_88 : decode cX7_plansCome 88 = .ok (.aload_n 0, 1) := by decide +kernel
theorem dX7_plansCome_89 : decode cX7_plansCome 89 = .ok (.getfield 7, 3) := by decide +kernel
theorem dX7_plansCome_92 : decode cX7_plansCome 92 = .ok (.iload 4, 2) := by decide +kernel
theorem dX7_plansCome_94 : decode cX7_plansCome 94 = .ok (.iload 5, 2) := by decide +kernel
theorem dX7_plansCome_96 : decode cX7_plansCome 96 = .ok (.iadd, 1) := by decide +kernel
theorem dX7_plansCome_97 : decode cX7_plansCome 97 = .ok (.iaload, 1) := by decide +kernel
theorem dX7_plansCome_98 : decode cX7_plansCome 98 = .ok (.iastore, 1) := by decide +kernel
theorem dX7_plansCome_99 : decode cX7_plansCome 99 = .ok (.iinc 5 1, 3) := by decide +kernel
theorem dX7_plansCome_102 : decode cX7_plansCome 102 = .ok (.goto (-33), 3) := by decide +kernel
theorem dX7_plansCome_105 : decode cX7_plansCome 105 = .ok (.iinc 1 1, 3) := by decide +kernel
theorem dX7_plansCome_108 : decode cX7_plansCome 108 = .ok (.iinc 3 1, 3) := by decide +kernel
theorem dX7_plansCome_111 : decode cX7_plansCome 111 = .ok (.goto (-99), 3) := by decide +kernel
theorem dX7_plansCome_114 : decode cX7_plansCome 114 = .ok (.bipush 64, 2) := by decide +kernel
theorem dX7_plansCome_116 : decode cX7_plansCome 116 = .ok (.iconst 3, 1) := by decide +kernel
theorem dX7_plansCome_117 : decode cX7_plansCome 117 = .ok (.iload_n 1, 1) := by decide +kernel
theorem dX7_plansCome_118 : decode cX7_plansCome 118 = .ok (.imul, 1) := by decide +kernel
theorem dX7_plansCome_119 : decode cX7_plansCome 119 = .ok (.iadd, 1) := by decide +kernel
theorem dX7_plansCome_120 : decode cX7_plansCome 120 = .ok (.istore_n 3, 1) := by decide +kernel
theorem dX7_plansCome_121 : decode cX7_plansCome 121 = .ok (.iload_n 3, 1) := by decide +kernel
theorem dX7_plansCome_122 : decode cX7_plansCome 122 = .ok (.bipush 100, 2) := by decide +kernel
theorem dX7_plansCome_124 : decode cX7_plansCome 124 = .ok (.if_icmp .ge 16, 3) := by decide +kernel
theorem dX7_plansCome_127 : decode cX7_plansCome 127 = .ok (.aload_n 0, 1) := by decide +kernel
theorem dX7_plansCome_128 : decode cX7_plansCome 128 = .ok (.getfield 7, 3) := by decide +kernel
theorem dX7_plansCome_131 : decode cX7_plansCome 131 = .ok (.iload_n 3, 1) := by decide +kernel
theorem dX7_plansCome_132 : decode cX7_plansCome 132 = .ok (.iconst 0, 1) := by decide +kernel
theorem dX7_plansCome_133 : decode cX7_plansCome 133 = .ok (.iastore, 1) := by decide +kernel
theorem dX7_plansCome_134 : decode cX7_plansCome 134 = .ok (.iinc 3 1, 3) := by decide +kernel
theorem dX7_plansCome_137 : decode cX7_plansCome 137 = .ok (.goto (-16), 3) := by decide +kernel
theorem dX7_plansCome_140 : decode cX7_plansCome 140 = .ok (.aload_n 0, 1) := by decide +kernel
theorem dX7_plansCome_141 : decode cX7_plansCome 141 = .ok (.getfield 7, 3) := by decide +kernel
theorem dX7_plansCome_144 : decode cX7_plansCome 144 = .ok (.bipush 63, 2) := by decide +kernel
theorem dX7_plansCome_146 : decode cX7_plansCome 146 = .ok (.iload_n 1, 1) := by decide +kernel
theorem dX7_plansCome_147 : decode cX7_plansCome 147 = .ok (.iastore, 1) := by decide +kernel
theorem dX7_plansCome_148 : decode cX7_plansCome 148 = .ok (.return_, 1) := by decide +kernel
set_option maxRecDepth 20000 in
theorem ggX7_ticks_X7_plansCome : GoodIn wsX7_ticks wsX7_plansCome := goodIn_r _ [6, 1, 7, 8, 9, 5, 10, 11, 12, 13, 14, 15, 16, 17, 18, 19, 20, 21, 22, 23, 24, 25, 26, 27, 28, 51, 52, 53, 54, 55, 56, 57, 58, 59, 60, 61, 62, 63, 64, 65, 66, 67] (by decide +kernel) (by decide +kernel)
set_option maxRecDepth 20000 in
theorem gX7_ticks_X7_plansCome : GoodIn wsX7_ticks (wsV RX7 82 RX7 yX7_plansCome wsX7_plansCome) := goodIn_app (goodIn_of _ (by decide +kernel)) ggX7_ticks_X7_plansCome
set_option maxRecDepth 20000 in
theorem ggX7_ticks_X7_rests : GoodIn wsX7_ticks wsX7_rests := goodIn_r _ [14, 1, 15, 16, 5, 17, 51, 52, 53, 54, 55, 56, 57, 58, 59, 60, 61, 62, 63, 64, 65, 66, 67] (by decide +kernel) (by decide +kernel)
set_option maxRecDepth 20000 in
theorem gX7_ticks_X7_rests : GoodIn wsX7_ticks (wsV RX7 51 RX7 yX7_rests wsX7_rests) := goodIn_app (goodIn_of _ (by decide +kernel)) ggX7_ticks_X7_rests
set_option maxRecDepth 20000 in
theorem ggX7_ticks_X7_at : GoodIn wsX7_ticks wsX7_at := goodIn_r _ [17] (by decide +kernel) (by decide +kernel)
set_option maxRecDepth 20000 in
theorem gX7_ticks_X7_at : GoodIn wsX7_ticks (va_wsS RX7 37 yX7_at wsX7_at) := goodIn_app (goodIn_of _ (by decide +kernel)) ggX7_ticks_X7_at
set_option maxRecDepth 20000 in
theorem ggX7_ticks_X7_steps : GoodIn wsX7_ticks wsX7_steps := goodIn_r _ [32, 1, 33, 34, 35, 15, 16, 5, 17, 25, 26, 27, 28, 36, 37, 38, 39, 11, 12, 13, 14, 40, 41, 42, 43, 18, 19, 20, 21, 22, 23, 24, 44, 45, 46, 47, 48, 49, 50, 51, 52, 53, 54, 55, 56, 57, 58, 59, 60, 61, 62, 63, 64, 65, 66, 67] (by decide +kernel) (by decide +kernel)
set_option maxRecDepth 20000 in
theorem gX7_ticks_X7_steps : GoodIn wsX7_ticks (wsV RX7 85 RX7 yX7_steps wsX7_steps) := goodIn_app (goodIn_of _ (by decide +kernel)) ggX7_ticks_X7_steps
theorem dX7_ticks_0 : decode cX7_ticks 0 = .ok (.iconst 0, 1) := by decide +kernel
theorem dX7_ticks_1 : decode cX7_ticks 1 = .ok (.istore_n 1, 1) := by decide +kernel
theorem dX7_ticks_2 : decode cX7_ticks 2 = .ok (.aload_n 0, 1) := by decide +kernel
theorem dX7_ticks_3 : decode cX7_ticks 3 = .ok (.getfield 7, 3) := by decide +kernel
theorem dX7_ticks_6 : decode cX7_ticks 6 = .ok (.iconst 5, 1) := by decide +kernel
theorem dX7_ticks_7 : decode cX7_ticks 7 = .ok (.dup2, 1) := by decide +kernel
theorem dX7_ticks_8 : decode cX7_ticks 8 = .ok (.iaload, 1) := by decide +kernel
theorem dX7_ticks_9 : decode cX7_ticks 9 = .ok (.iconst 1, 1) := by decide +kernel
theorem dX7_ticks_10 : decode cX7_ticks 10 = .ok (.iadd, 1) := by decide +kernel
theorem dX7_ticks_11 : decode cX7_ticks 11 = .ok (.iastore, 1) := by decide +kernel
theorem dX7_ticks_12 : decode cX7_ticks 12 = .ok (.aload_n 0, 1) := by decide +kernel
theorem dX7_ticks_13 : decode cX7_ticks 13 = .ok (.invokevirtual 82, 3) := by decide +kernel
theorem dX7_ticks_16 : decode cX7_ticks 16 = .ok (.iconst 0, 1) := by decide +kernel
theorem dX7_ticks_17 : decode cX7_ticks 17 = .ok (.istore_n 2, 1) := by decide +kernel
theorem dX7_ticks_18 : decode cX7_ticks 18 = .ok (.iload_n 2, 1) := by decide +kernel
theorem dX7_ticks_19 : decode cX7_ticks 19 = .ok (.aload_n 0, 1) := by decide +kernel
theorem dX7_ticks_20 : decode cX7_ticks 20 = .ok (.getfield 7, 3) := by decide +kernel
theorem dX7_ticks_23 : decode cX7_ticks 23 = .ok (.bipush 6, 2) := by decide +kernel
theorem dX7_ticks_25 : decode cX7_ticks 25 = .ok (.iaload, 1) := by decide +kernel
theorem dX7_ticks_26 : decode cX7_ticks 26 = .ok (.if_icmp .ge 45, 3) := by decide +kernel
theorem dX7_ticks_29 : decode cX7_ticks 29 = .ok (.aload_n 0, 1) := by decide +kernel
theorem dX7_ticks_30 : decode cX7_ticks 30 = .ok (.iload_n 2, 1) := by decide +kernel
theorem dX7_ticks_31 : decode cX7_ticks 31 = .ok (.invokevirtual 51, 3) := by decide +kernel
theorem dX7_ticks_34 : decode cX7_ticks 34 = .ok (.ifCond .ne 31, 3) := by decide +kernel
theorem dX7_ticks_37 : decode cX7_ticks 37 = .ok (.aload_n 0, 1) := by decide +kernel
theorem dX7_ticks_38 : decode cX7_ticks 38 = .ok (.getfield 7, 3) := by decide +kernel
theorem dX7_ticks_41 : decode cX7_ticks 41 = .ok (.iload_n 2, 1) := by decide +kernel
theorem dX7_ticks_42 : decode cX7_ticks 42 = .ok (.bipush 7, 2) := by decide +kernel
theorem dX7_ticks_44 : decode cX7_ticks 44 = .ok (.invokestatic 37, 3) := by decide +kernel
theorem dX7_ticks_47 : decode cX7_ticks 47 = .ok (.iaload, 1) := by decide +kernel
theorem dX7_ticks_48 : decode cX7_ticks 48 = .ok (.aload_n 0, 1) := by decide +kernel
theorem dX7_ticks_49 : decode cX7_ticks 49 = .ok (.getfield 7, 3) := by decide +kernel
theorem dX7_ticks_52 : decode cX7_ticks 52 = .ok (.iconst 5, 1) := by decide +kernel
theorem dX7_ticks_53 : decode cX7_ticks 53 = .ok (.iaload, 1) := by decide +kernel
theorem dX7_ticks_54 : decode cX7_ticks 54 = .ok (.if_icmp .ne 11, 3) := by decide +kernel
theorem dX7_ticks_57 : decode cX7_ticks 57 = .ok (.aload_n 0, 1) := by decide +kernel
theorem dX7_ticks_58 : decode cX7_ticks 58 = .ok (.iload_n 2, 1) := by decide +kernel
theorem dX7_ticks_59 : decode cX7_ticks 59 = .ok (.invokevirtual 85, 3) := by decide +kernel
theorem dX7_ticks_62 : decode cX7_ticks 62 = .ok (.iinc 1 1, 3) := by decide +kernel
theorem dX7_ticks_65 : decode cX7_ticks 65 = .ok (.iinc 2 1, 3) := by decide +kernel
theorem dX7_ticks_68 : decode cX7_ticks 68 = .ok (.goto (-50), 3) := by decide +kernel
theorem dX7_ticks_71 : decode cX7_ticks 71 = .ok (.iload_n 1, 1) := by decide +kernel
theorem dX7_ticks_72 : decode cX7_ticks 72 = .ok (.ireturn, 1) := by decide +kernel
theorem dX7_least_0 : decode cX7_least 0 = .ok (.iload_n 0, 1) := by decide +kernel
theorem dX7_least_1 : decode cX7_least 1 = .ok (.ifCond .ne 8, 3) := by decide +kernel
theorem dX7_least_4 : decode cX7_least 4 = .ok (.bipush 10, 2) := by decide +kernel
