theorem dX1_placeOfLatest_13 : decode cX1_placeOfLatest 13 = .ok (.goto 5, 3) := by decide +kernel
theorem dX1_placeOfLatest_16 : decode cX1_placeOfLatest 16 = .ok (.bipush 6, 2) := by decide +kernel
theorem dX1_placeOfLatest_18 : decode cX1_placeOfLatest 18 = .ok (.ireturn, 1) := by decide +kernel
theorem dX2_init_0 : decode cX2_init 0 = .ok (.aload_n 0, 1) := by decide +kernel
theorem dX2_init_1 : decode cX2_init 1 = .ok (.invokespecial 3, 3) := by decide +kernel
theorem dX2_init_4 : decode cX2_init 4 = .ok (.aload_n 0, 1) := by decide +kernel
theorem dX2_init_5 : decode cX2_init 5 = .ok (.bipush 80, 2) := by decide +kernel
theorem dX2_init_7 : decode cX2_init 7 = .ok (.newarray .char, 2) := by decide +kernel
theorem dX2_init_9 : decode cX2_init 9 = .ok (.putfield 9, 3) := by decide +kernel
theorem dX2_init_12 : decode cX2_init 12 = .ok (.return_, 1) := by decide +kernel
theorem dX2_lengthOf_0 : decode cX2_lengthOf 0 = .ok (.lload_n 0, 1) := by decide +kernel
theorem dX2_lengthOf_1 : decode cX2_lengthOf 1 = .ok (.lstore_n 2, 1) := by decide +kernel
theorem dX2_lengthOf_2 : decode cX2_lengthOf 2 = .ok (.iconst 0, 1) := by decide +kernel
theorem dX2_lengthOf_3 : decode cX2_lengthOf 3 = .ok (.istore 4, 2) := by decide +kernel
theorem dX2_lengthOf_5 : decode cX2_lengthOf 5 = .ok (.iconst 0, 1) := by decide +kernel
theorem dX2_lengthOf_6 : decode cX2_lengthOf 6 = .ok (.istore 5, 2) := by decide +kernel
theorem dX2_lengthOf_8 : decode cX2_lengthOf 8 = .ok (.iload 5, 2) := by decide +kernel
theorem dX2_lengthOf_10 : decode cX2_lengthOf 10 = .ok (.bipush 8, 2) := by decide +kernel
theorem dX2_lengthOf_12 : decode cX2_lengthOf 12 = .ok (.if_icmp .ge 50, 3) := by decide +kernel
theorem dX2_lengthOf_15 : decode cX2_lengthOf 15 = .ok (.lload_n 2, 1) := by decide +kernel
theorem dX2_lengthOf_16 : decode cX2_lengthOf 16 = .ok (.lconst 0, 1) := by decide +kernel
theorem dX2_lengthOf_17 : decode cX2_lengthOf 17 = .ok (.lcmp, 1) := by decide +kernel
theorem dX2_lengthOf_18 : decode cX2_lengthOf 18 = .ok (.ifCond .eq 44, 3) := by decide +kernel
theorem dX2_lengthOf_21 : decode cX2_lengthOf 21 = .ok (.lload_n 2, 1) := by decide +kernel
theorem dX2_lengthOf_22 : decode cX2_lengthOf 22 = .ok (.ldc2_w 15, 3) := by decide +kernel
theorem dX2_lengthOf_25 : decode cX2_lengthOf 25 = .ok (.land, 1) := by decide +kernel
theorem dX2_lengthOf_26 : decode cX2_lengthOf 26 = .ok (.lstore 6, 2) := by decide +kernel
theorem dX2_lengthOf_28 : decode cX2_lengthOf 28 = .ok (.lload 6, 2) := by decide +kernel
theorem dX2_lengthOf_30 : decode cX2_lengthOf 30 = .ok (.ldc2_w 17, 3) := by decide +kernel
theorem dX2_lengthOf_33 : decode cX2_lengthOf 33 = .ok (.lcmp, 1) := by decide +kernel
theorem dX2_lengthOf_34 : decode cX2_lengthOf 34 = .ok (.ifCond .lt 12, 3) := by decide +kernel
theorem dX2_lengthOf_37 : decode cX2_lengthOf 37 = .ok (.lload 6, 2) := by decide +kernel
theorem dX2_lengthOf_39 : decode cX2_lengthOf 39 = .ok (.ldc2_w 19, 3) := by decide +kernel
theorem dX2_lengthOf_42 : decode cX2_lengthOf 42 = .ok (.lcmp, 1) := by decide +kernel
theorem dX2_lengthOf_43 : decode cX2_lengthOf 43 = .ok (.ifCond .le 5, 3) := by decide +kernel
theorem dX2_lengthOf_46 : decode cX2_lengthOf 46 = .ok (.iconst 0, 1) := by decide +kernel
theorem dX2_lengthOf_47 : decode cX2_lengthOf 47 = .ok (.ireturn, 1) := by decide +kernel
theorem dX2_lengthOf_48 : decode cX2_lengthOf 48 = .ok (.iinc 4 1, 3) := by decide +kernel
theorem dX2_lengthOf_51 : decode cX2_lengthOf 51 = .ok (.lload_n 2, 1) := by decide +kernel
theorem dX2_lengthOf_52 : decode cX2_lengthOf 52 = .ok (.bipush 8, 2) := by decide +kernel
theorem dX2_lengthOf_54 : decode cX2_lengthOf 54 = .ok (.lushr, 1) := by decide +kernel
theorem dX2_lengthOf_55 : decode cX2_lengthOf 55 = .ok (.lstore_n 2, 1) := by decide +kernel
theorem dX2_lengthOf_56 : decode cX2_lengthOf 56 = .ok (.iinc 5 1, 3) := by decide +kernel
theorem dX2_lengthOf_59 : decode cX2_lengthOf 59 = .ok (.goto (-51), 3) := by decide +kernel
theorem dX2_lengthOf_62 : decode cX2_lengthOf 62 = .ok (.iload 4, 2) := by decide +kernel
theorem dX2_lengthOf_64 : decode cX2_lengthOf 64 = .ok (.ireturn, 1) := by decide +kernel
theorem dX2_append_0 : decode cX2_append 0 = .ok (.aload_n 0, 1) := by decide +kernel
theorem dX2_append_1 : decode cX2_append 1 = .ok (.getfield 21, 3) := by decide +kernel
theorem dX2_append_4 : decode cX2_append 4 = .ok (.ifCond .lt 35, 3) := by decide +kernel
theorem dX2_append_7 : decode cX2_append 7 = .ok (.aload_n 0, 1) := by decide +kernel
theorem dX2_append_8 : decode cX2_append 8 = .ok (.getfield 21, 3) := by decide +kernel
theorem dX2_append_11 : decode cX2_append 11 = .ok (.aload_n 0, 1) := by decide +kernel
theorem dX2_append_12 : decode cX2_append 12 = .ok (.getfield 9, 3) := by decide +kernel
theorem dX2_append_15 : decode cX2_append 15 = .ok (.arraylength, 1) := by decide +kernel
theorem dX2_append_16 : decode cX2_append 16 = .ok (.if_icmp .ge 23, 3) := by decide +kernel
theorem dX2_append_19 : decode cX2_append 19 = .ok (.aload_n 0, 1) := by decide +kernel
theorem dX2_append_20 : decode cX2_append 20 = .ok (.getfield 9, 3) := by decide +kernel
theorem dX2_append_23 : decode cX2_append 23 = .ok (.aload_n 0, 1) := by decide +kernel
theorem dX2_append_24 : decode cX2_append 24 = .ok (.getfield 21, 3) := by decide +kernel
theorem dX2_append_27 : decode cX2_append 27 = .ok (.iload_n 1, 1) := by decide +kernel
theorem dX2_append_28 : decode cX2_append 28 = .ok (.castore, 1) := by decide +kernel
theorem dX2_append_29 : decode cX2_append 29 = .ok (.aload_n 0, 1) := by decide +kernel
theorem dX2_append_30 : decode cX2_append 30 = .ok (.dup, 1) := by decide +kernel
theorem dX2_append_31 : decode cX2_append 31 = .ok (.getfield 21, 3) := by decide +kernel
theorem dX2_append_34 : decode cX2_append 34 = .ok (.iconst 1, 1) := by decide +kernel
theorem dX2_append_35 : decode cX2_append 35 = .ok (.iadd, 1) := by decide +kernel
theorem dX2_append_36 : decode cX2_append 36 = .ok (.putfield 21, 3) := by decide +kernel
theorem dX2_append_39 : decode cX2_append 39 = .ok (.return_, 1) := by decide +kernel
theorem dX2_signAt_0 : decode cX2_signAt 0 = .ok (.iload_n 1, 1) := by decide +kernel
theorem dX2_signAt_1 : decode cX2_signAt 1 = .ok (.ifCond .lt 20, 3) := by decide +kernel
theorem dX2_signAt_4 : decode cX2_signAt 4 = .ok (.iload_n 1, 1) := by decide +kernel
theorem dX2_signAt_5 : decode cX2_signAt 5 = .ok (.aload_n 0, 1) := by decide +kernel
theorem dX2_signAt_6 : decode cX2_signAt 6 = .ok (.getfield 21, 3) := by decide +kernel
theorem dX2_signAt_9 : decode cX2_signAt 9 = .ok (.if_icmp .ge 12, 3) := by decide +kernel
theorem dX2_signAt_12 : decode cX2_signAt 12 = .ok (.iload_n 1, 1) := by decide +kernel
theorem dX2_signAt_13 : decode cX2_signAt 13 = .ok (.aload_n 0, 1) := by decide +kernel
theorem dX2_signAt_14 : decode cX2_signAt 14 = .ok (.getfield 9, 3) := by decide +kernel
theorem dX2_signAt_17 : decode cX2_signAt 17 = .ok (.arraylength, 1) := by decide +kernel
theorem dX2_signAt_18 : decode cX2_signAt 18 = .ok (.if_icmp .lt 5, 3) := by decide +kernel
theorem dX2_signAt_21 : decode cX2_signAt 21 = .ok (.iconst 0, 1) := by decide +kernel
theorem dX2_signAt_22 : decode cX2_signAt 22 = .ok (.ireturn, 1) := by decide +kernel
theorem dX2_signAt_23 : decode cX2_signAt 23 = .ok (.aload_n 0, 1) := by decide +kernel
theorem dX2_signAt_24 : decode cX2_signAt 24 = .ok (.getfield 9, 3) := by decide +kernel
theorem dX2_signAt_27 : decode cX2_signAt 27 = .ok (.iload_n 1, 1) := by decide +kernel
theorem dX2_signAt_28 : decode cX2_signAt 28 = .ok (.caload, 1) := by decide +kernel
theorem dX2_signAt_29 : decode cX2_signAt 29 = .ok (.ireturn, 1) := by decide +kernel
theorem dX3_init_0 : decode cX3_init 0 = .ok (.aload_n 0, 1) := by decide +kernel
theorem dX3_init_1 : decode cX3_init 1 = .ok (.invokespecial 3, 3) := by decide +kernel
theorem dX3_init_4 : decode cX3_init 4 = .ok (.aload_n 0, 1) := by decide +kernel
theorem dX3_init_5 : decode cX3_init 5 = .ok (.bipush 60, 2) := by decide +kernel
theorem dX3_init_7 : decode cX3_init 7 = .ok (.putfield 9, 3) := by decide +kernel
theorem dX3_init_10 : decode cX3_init 10 = .ok (.aload_n 0, 1) := by decide +kernel
theorem dX3_init_11 : decode cX3_init 11 = .ok (.bipush 10, 2) := by decide +kernel
theorem dX3_init_13 : decode cX3_init 13 = .ok (.putfield 15, 3) := by decide +kernel
theorem dX3_init_16 : decode cX3_init 16 = .ok (.aload_n 0, 1) := by decide +kernel
theorem dX3_init_17 : decode cX3_init 17 = .ok (.bipush 10, 2) := by decide +kernel
theorem dX3_init_19 : decode cX3_init 19 = .ok (.putfield 18, 3) := by decide +kernel
theorem dX3_init_22 : decode cX3_init 22 = .ok (.aload_n 0, 1) := by decide +kernel
theorem dX3_init_23 : decode cX3_init 23 = .ok (.iconst 4, 1) := by decide +kernel
theorem dX3_init_24 : decode cX3_init 24 = .ok (.putfield 21, 3) := by decide +kernel
theorem dX3_init_27 : decode cX3_init 27 = .ok (.aload_n 0, 1) := by decide +kernel
theorem dX3_init_28 : decode cX3_init 28 = .ok (.iconst 2, 1) := by decide +kernel
theorem dX3_init_29 : decode cX3_init 29 = .ok (.putfield 24, 3) := by decide +kernel
theorem dX3_init_32 : decode cX3_init 32 = .ok (.return_, 1) := by decide +kernel
theorem dX3_take_0 : decode cX3_take 0 = .ok (.aload_n 0, 1) := by decide +kernel
theorem dX3_take_1 : decode cX3_take 1 = .ok (.aload_n 1, 1) := by decide +kernel
theorem dX3_take_2 : decode cX3_take 2 = .ok (.getfield 9, 3) := by decide +kernel
theorem dX3_take_5 : decode cX3_take 5 = .ok (.putfield 9, 3) := by decide +kernel
theorem dX3_take_8 : decode cX3_take 8 = .ok (.aload_n 0, 1) := by decide +kernel
theorem dX3_take_9 : decode cX3_take 9 = .ok (.aload_n 1, 1) := by decide +kernel
theorem dX3_take_10 : decode cX3_take 10 = .ok (.getfield 15, 3) := by decide +kernel
theorem dX3_take_13 : decode cX3_take 13 = .ok (.putfield 15, 3) := by decide +kernel
theorem dX3_take_16 : decode cX3_take 16 = .ok (.aload_n 0, 1) := by decide +kernel
theorem dX3_take_17 : decode cX3_take 17 = .ok (.aload_n 1, 1) := by decide +kernel
theorem dX3_take_18 : decode cX3_take 18 = .ok (.getfield 18, 3) := by decide +kernel
theorem dX3_take_21 : decode cX3_take 21 = .ok (.putfield 18, 3) := by decide +kernel
theorem dX3_take_24 : decode cX3_take 24 = .ok (.aload_n 0, 1) := by decide +kernel
theorem dX3_take_25 : decode cX3_take 25 = .ok (.aload_n 1, 1) := by decide +kernel
theorem dX3_take_26 : decode cX3_take 26 = .ok (.getfield 21, 3) := by decide +kernel
theorem dX3_take_29 : decode cX3_take 29 = .ok (.putfield 21, 3) := by decide +kernel
theorem dX3_take_32 : decode cX3_take 32 = .ok (.aload_n 0, 1) := by decide +kernel
theorem dX3_take_33 : decode cX3_take 33 = .ok (.aload_n 1, 1) := by decide +kernel
theorem dX3_take_34 : decode cX3_take 34 = .ok (.getfield 24, 3) := by decide +kernel
theorem dX3_take_37 : decode cX3_take 37 = .ok (.putfield 24, 3) := by decide +kernel
theorem dX3_take_40 : decode cX3_take 40 = .ok (.return_, 1) := by decide +kernel
theorem dX3_valueOf_0 : decode cX3_valueOf 0 = .ok (.iload_n 1, 1) := by decide +kernel
theorem dX3_valueOf_1 : decode cX3_valueOf 1 = .ok (.tableswitch 60 0 4 #[35, 40, 45, 50, 55], 35) := by decide +kernel
theorem dX3_valueOf_36 : decode cX3_valueOf 36 = .ok (.aload_n 0, 1) := by decide +kernel
theorem dX3_valueOf_37 : decode cX3_valueOf 37 = .ok (.getfield 9, 3) := by decide +kernel
theorem dX3_valueOf_40 : decode cX3_valueOf 40 = .ok (.ireturn, 1) := by decide +kernel
theorem dX3_valueOf_41 : decode cX3_valueOf 41 = .ok (.aload_n 0, 1) := by decide +kernel
theorem dX3_valueOf_42 : decode cX3_valueOf 42 = .ok (.getfield 15, 3) := by decide +kernel
theorem dX3_valueOf_45 : decode cX3_valueOf 45 = .ok (.ireturn, 1) := by decide +kernel
theorem dX3_valueOf_46 : decode cX3_valueOf 46 = .ok (.aload_n 0, 1) := by decide +kernel
theorem dX3_valueOf_47 : decode cX3_valueOf 47 = .ok (.getfield 18, 3) := by decide +kernel
theorem dX3_valueOf_50 : decode cX3_valueOf 50 = .ok (.ireturn, 1) := by decide +kernel
theorem dX3_valueOf_51 : decode cX3_valueOf 51 = .ok (.aload_n 0, 1) := by decide +kernel
theorem dX3_valueOf_52 : decode cX3_valueOf 52 = .ok (.getfield 21, 3) := by decide +kernel
theorem dX3_valueOf_55 : decode cX3_valueOf 55 = .ok (.ireturn, 1) := by decide +kernel
theorem dX3_valueOf_56 : decode cX3_valueOf 56 = .ok (.aload_n 0, 1) := by decide +kernel
theorem dX3_valueOf_57 : decode cX3_valueOf 57 = .ok (.getfield 24, 3) := by decide +kernel
theorem dX3_valueOf_60 : decode cX3_valueOf 60 = .ok (.ireturn, 1) := by decide +kernel
theorem dX3_valueOf_61 : decode cX3_valueOf 61 = .ok (.bipush (-2), 2) := by decide +kernel
theorem dX3_valueOf_63 : decode cX3_valueOf 63 = .ok (.ireturn, 1) := by decide +kernel
set_option maxRecDepth 20000 in
theorem ggX3_change_X3_isInRange : GoodIn wsX3_change wsX3_isInRange := goodIn_r _ [9] (by decide +kernel) (by decide +kernel)
set_option maxRecDepth 20000 in
theorem gX3_change_X3_isInRange : GoodIn wsX3_change (va_wsS RX3 27 yX3_isInRange wsX3_isInRange) := goodIn_app (goodIn_of _ (by decide +kernel)) ggX3_change_X3_isInRange
set_option maxRecDepth 20000 in
theorem ggX3_change_X3_valueOf : GoodIn wsX3_change wsX3_valueOf := goodIn_r _ [13, 1, 2, 3, 4, 5, 14, 15, 16, 17, 18] (by decide +kernel) (by decide +kernel)
set_option maxRecDepth 20000 in
theorem gX3_change_X3_valueOf : GoodIn wsX3_change (wsV RX3 31 RX3 yX3_valueOf wsX3_valueOf) := goodIn_app (goodIn_of _ (by decide +kernel)) ggX3_change_X3_valueOf
theorem dX3_change_0 : decode cX3_change 0 = .ok (.iload_n 1, 1) := by decide +kernel
theorem dX3_change_1 : decode cX3_change 1 = .ok (.iload_n 2, 1) := by decide +kernel
theorem dX3_change_2 : decode cX3_change 2 = .ok (.invokestatic 27, 3) := by decide +kernel
theorem dX3_change_5 : decode cX3_change 5 = .ok (.ifCond .ne 6, 3) := by decide +kernel
theorem dX3_change_8 : decode cX3_change 8 = .ok (.bipush (-2), 2) := by decide +kernel
theorem dX3_change_10 : decode cX3_change 10 = .ok (.ireturn, 1) := by decide +kernel
theorem dX3_change_11 : decode cX3_change 11 = .ok (.aload_n 0, 1) := by decide +kernel
theorem dX3_change_12 : decode cX3_change 12 = .ok (.iload_n 1, 1) := by decide +kernel
theorem dX3_change_13 : decode cX3_change 13 = .ok (.invokevirtual 31, 3) := by decide +kernel
theorem dX3_change_16 : decode cX3_change 16 = .ok (.istore_n 3, 1) := by decide +kernel
theorem dX3_change_17 : decode cX3_change 17 = .ok (.iload_n 1, 1) := by decide +kernel
theorem dX3_change_18 : decode cX3_change 18 = .ok (.tableswitch 62 0 3 #[30, 38, 46, 54], 30) := by decide +kernel
theorem dX3_change_48 : decode cX3_change 48 = .ok (.aload_n 0, 1) := by decide +kernel
theorem dX3_change_49 : decode cX3_change 49 = .ok (.iload_n 2, 1) := by decide +kernel
theorem dX3_change_50 : decode cX3_change 50 = .ok (.putfield 9, 3) := by decide +kernel
theorem dX3_change_53 : decode cX3_change 53 = .ok (.goto 32, 3) := by decide +kernel
theorem dX3_change_56 : decode cX3_change 56 = .ok (.aload_n 0, 1) := by decide +kernel
theorem dX3_change_57 : decode cX3_change 57 = .ok (.iload_n 2, 1) := by decide +kernel
theorem dX3_change_58 : decode cX3_change 58 = .ok (.putfield 15, 3) := by decide +kernel
theorem dX3_change_61 : decode cX3_change 61 = .ok (.goto 24, 3) := by decide +kernel
theorem dX3_change_64 : decode cX3_change 64 = .ok (.aload_n 0, 1) := by decide +kernel
theorem dX3_change_65 : decode cX3_change 65 = .ok (.iload_n 2, 1) := by decide +kernel
theorem dX3_change_66 : decode cX3_change 66 = .ok (.putfield 18, 3) := by decide +kernel
theorem dX3_change_69 : decode cX3_change 69 = .ok (.goto 16, 3) := by decide +kernel
theorem dX3_change_72 : decode cX3_change 72 = .ok (.aload_n 0, 1) := by decide +kernel
theorem dX3_change_73 : decode cX3_change 73 = .ok (.iload_n 2, 1) := by decide +kernel
theorem dX3_change_74 : decode cX3_change 74 = .ok (.putfield 21, 3) := by decide +kernel
theorem dX3_change_77 : decode cX3_change 77 = .ok (.goto 8, 3) := by decide +kernel
theorem dX3_change_80 : decode cX3_change 80 = .ok (.aload_n 0, 1) := by decide +kernel
theorem dX3_change_81 : decode cX3_change 81 = .ok (.iload_n 2, 1) := by decide +kernel
theorem dX3_change_82 : decode cX3_change 82 = .ok (.putfield 24, 3) := by decide +kernel
theorem dX3_change_85 : decode cX3_change 85 = .ok (.iload_n 3, 1) := by decide +kernel
theorem dX3_change_86 : decode cX3_change 86 = .ok (.ireturn, 1) := by decide +kernel
theorem dX3_isInRange_0 : decode cX3_isInRange 0 = .ok (.iload_n 0, 1) := by decide +kernel
theorem dX3_isInRange_1 : decode cX3_isInRange 1 = .ok (.tableswitch 120 0 4 #[35, 54, 71, 88, 104], 35) := by decide +kernel
theorem dX3_isInRange_36 : decode cX3_isInRange 36 = .ok (.iload_n 1, 1) := by decide +kernel
theorem dX3_isInRange_37 : decode cX3_isInRange 37 = .ok (.bipush 10, 2) := by decide +kernel
theorem dX3_isInRange_39 : decode cX3_isInRange 39 = .ok (.if_icmp .lt 14, 3) := by decide +kernel
theorem dX3_isInRange_42 : decode cX3_isInRange 42 = .ok (.iload_n 1, 1) := by decide +kernel
theorem dX3_isInRange_43 : decode cX3_isInRange 43 = .ok (.sipush 200, 3) := by decide +kernel
theorem dX3_isInRange_46 : decode cX3_isInRange 46 = .ok (.if_icmp .gt 7, 3) := by decide +kernel
theorem dX3_isInRange_49 : decode cX3_isInRange 49 = .ok (.iconst 1, 1) := by decide +kernel
theorem dX3_isInRange_50 : decode cX3_isInRange 50 = .ok (.goto 4, 3) := by decide +kernel
theorem dX3_isInRange_53 : decode cX3_isInRange 53 = .ok (.iconst 0, 1) := by decide +kernel
theorem dX3_isInRange_54 : decode cX3_isInRange 54 = .ok (.ireturn, 1) := by decide +kernel
theorem dX3_isInRange_55 : decode cX3_isInRange 55 = .ok (.iload_n 1, 1) := by decide +kernel
theorem dX3_isInRange_56 : decode cX3_isInRange 56 = .ok (.iconst 2, 1) := by decide +kernel
theorem dX3_isInRange_57 : decode cX3_isInRange 57 = .ok (.if_icmp .lt 13, 3) := by decide +kernel
theorem dX3_isInRange_60 : decode cX3_isInRange 60 = .ok (.iload_n 1, 1) := by decide +kernel
theorem dX3_isInRange_61 : decode cX3_isInRange 61 = .ok (.bipush 50, 2) := by decide +kernel
theorem dX3_isInRange_63 : decode cX3_isInRange 63 = .ok (.if_icmp .gt 7, 3) := by decide +kernel
theorem dX3_isInRange_66 : decode cX3_isInRange 66 = .ok (.iconst 1, 1) := by decide +kernel
theorem dX3_isInRange_67 : decode cX3_isInRange 67 = .ok (.goto 4, 3) := by decide +kernel
theorem dX3_isInRange_70 : decode cX3_isInRange 70 = .ok (.iconst 0, 1) := by decide +kernel
theorem dX3_isInRange_71 : decode cX3_isInRange 71 = .ok (.ireturn, 1) := by decide +kernel
theorem dX3_isInRange_72 : decode cX3_isInRange 72 = .ok (.iload_n 1, 1) := by decide +kernel
theorem dX3_isInRange_73 : decode cX3_isInRange 73 = .ok (.iconst 1, 1) := by decide +kernel
theorem dX3_isInRange_74 : decode cX3_isInRange 74 = .ok (.if_icmp .lt 13, 3) := by decide +kernel
theorem dX3_isInRange_77 : decode cX3_isInRange 77 = .ok (.iload_n 1, 1) := by decide +kernel
theorem dX3_isInRange_78 : decode cX3_isInRange 78 = .ok (.bipush 40, 2) := by decide +kernel
theorem dX3_isInRange_80 : decode cX3_isInRange 80 = .ok (.if_icmp .gt 7, 3) := by decide +kernel
theorem dX3_isInRange_83 : decode cX3_isInRange 83 = .ok (.iconst 1, 1) := by decide +kernel
theorem dX3_isInRange_84 : decode cX3_isInRange 84 = .ok (.goto 4, 3) := by decide +kernel
theorem dX3_isInRange_87 : decode cX3_isInRange 87 = .ok (.iconst 0, 1) := by decide +kernel
theorem dX3_isInRange_88 : decode cX3_isInRange 88 = .ok (.ireturn, 1) := by decide +kernel
theorem dX3_isInRange_89 : decode cX3_isInRange 89 = .ok (.iload_n 1, 1) := by decide +kernel
theorem dX3_isInRange_90 : decode cX3_isInRange 90 = .ok (.ifCond .lt 13, 3) := by decide +kernel
theorem dX3_isInRange_93 : decode cX3_isInRange 93 = .ok (.iload_n 1, 1) := by decide +kernel
theorem dX3_isInRange_94 : decode cX3_isInRange 94 = .ok (.bipush 40, 2) := by decide +kernel
theorem dX3_isInRange_96 : decode cX3_isInRange 96 = .ok (.if_icmp .gt 7, 3) := by decide +kernel
theorem dX3_isInRange_99 : decode cX3_isInRange 99 = .ok (.iconst 1, 1) := by decide +kernel
theorem dX3_isInRange_100 : decode cX3_isInRange 100 = .ok (.goto 4, 3) := by decide +kernel
theorem dX3_isInRange_103 : decode cX3_isInRange 103 = .ok (.iconst 0, 1) := by decide +kernel
theorem dX3_isInRange_104 : decode cX3_isInRange 104 = .ok (.ireturn, 1) := by decide +kernel
theorem dX3_isInRange_105 : decode cX3_isInRange 105 = .ok (.iload_n 1, 1) := by decide +kernel
theorem dX3_isInRange_106 : decode cX3_isInRange 106 = .ok (.ifCond .lt 13, 3) := by decide +kernel
theorem dX3_isInRange_109 : decode cX3_isInRange 109 = .ok (.iload_n 1, 1) := by decide +kernel
theorem dX3_isInRange_110 : decode cX3_isInRange 110 = .ok (.bipush 20, 2) := by decide +kernel
theorem dX3_isInRange_112 : decode cX3_isInRange 112 = .ok (.if_icmp .gt 7, 3) := by decide +kernel
theorem dX3_isInRange_115 : decode cX3_isInRange 115 = .ok (.iconst 1, 1) := by decide +kernel
theorem dX3_isInRange_116 : decode cX3_isInRange 116 = .ok (.goto 4, 3) := by decide +kernel
theorem dX3_isInRange_119 : decode cX3_isInRange 119 = .ok (.iconst 0, 1) := by decide +kernel
theorem dX3_isInRange_120 : decode cX3_isInRange 120 = .ok (.ireturn, 1) := by decide +kernel
theorem dX3_isInRange_121 : decode cX3_isInRange 121 = .ok (.iconst 0, 1) := by decide +kernel
theorem dX3_isInRange_122 : decode cX3_isInRange 122 = .ok (.ireturn, 1) := by decide +kernel
theorem dX3_intervalOf_0 : decode cX3_intervalOf 0 = .ok (.aload_n 0, 1) := by decide +kernel
theorem dX3_intervalOf_1 : decode cX3_intervalOf 1 = .ok (.getfield 9, 3) := by decide +kernel
theorem dX3_intervalOf_4 : decode cX3_intervalOf 4 = .ok (.aload_n 0, 1) := by decide +kernel
theorem dX3_intervalOf_5 : decode cX3_intervalOf 5 = .ok (.getfield 18, 3) := by decide +kernel
theorem dX3_intervalOf_8 : decode cX3_intervalOf 8 = .ok (.iload_n 1, 1) := by decide +kernel
theorem dX3_intervalOf_9 : decode cX3_intervalOf 9 = .ok (.imul, 1) := by decide +kernel
theorem dX3_intervalOf_10 : decode cX3_intervalOf 10 = .ok (.isub, 1) := by decide +kernel
theorem dX3_intervalOf_11 : decode cX3_intervalOf 11 = .ok (.istore_n 2, 1) := by decide +kernel
theorem dX3_intervalOf_12 : decode cX3_intervalOf 12 = .ok (.iload_n 2, 1) := by decide +kernel
theorem dX3_intervalOf_13 : decode cX3_intervalOf 13 = .ok (.aload_n 0, 1) := by decide +kernel
theorem dX3_intervalOf_14 : decode cX3_intervalOf 14 = .ok (.getfield 15, 3) := by decide +kernel
theorem dX3_intervalOf_17 : decode cX3_intervalOf 17 = .ok (.if_icmp .le 7, 3) := by decide +kernel
theorem dX3_intervalOf_20 : decode cX3_intervalOf 20 = .ok (.iload_n 2, 1) := by decide +kernel
theorem dX3_intervalOf_21 : decode cX3_intervalOf 21 = .ok (.goto 7, 3) := by decide +kernel
theorem dX3_intervalOf_24 : decode cX3_intervalOf 24 = .ok (.aload_n 0, 1) := by decide +kernel
theorem dX3_intervalOf_25 : decode cX3_intervalOf 25 = .ok (.getfield 15, 3) := by decide +kernel
theorem dX3_intervalOf_28 : decode cX3_intervalOf 28 = .ok (.ireturn, 1) := by decide +kernel
theorem dX3_highestLevel_0 : decode cX3_highestLevel 0 = .ok (.aload_n 0, 1) := by decide +kernel
theorem dX3_highestLevel_1 : decode cX3_highestLevel 1 = .ok (.getfield 9, 3) := by decide +kernel
theorem dX3_highestLevel_4 : decode cX3_highestLevel 4 = .ok (.aload_n 0, 1) := by decide +kernel
theorem dX3_highestLevel_5 : decode cX3_highestLevel 5 = .ok (.getfield 15, 3) := by decide +kernel
theorem dX3_highestLevel_8 : decode cX3_highestLevel 8 = .ok (.if_icmp .le 11, 3) := by decide +kernel
theorem dX3_highestLevel_11 : decode cX3_highestLevel 11 = .ok (.aload_n 0, 1) := by decide +kernel
theorem dX3_highestLevel_12 : decode cX3_highestLevel 12 = .ok (.getfield 18, 3) := by decide +kernel
theorem dX3_highestLevel_15 : decode cX3_highestLevel 15 = .ok (.iconst 1, 1) := by decide +kernel
theorem dX3_highestLevel_16 : decode cX3_highestLevel 16 = .ok (.if_icmp .ge 5, 3) := by decide +kernel
theorem dX3_highestLevel_19 : decode cX3_highestLevel 19 = .ok (.iconst 0, 1) := by decide +kernel
theorem dX3_highestLevel_20 : decode cX3_highestLevel 20 = .ok (.ireturn, 1) := by decide +kernel
theorem dX3_highestLevel_21 : decode cX3_highestLevel 21 = .ok (.aload_n 0, 1) := by decide +kernel
theorem dX3_highestLevel_22 : decode cX3_highestLevel 22 = .ok (.getfield 9, 3) := by decide +kernel
theorem dX3_highestLevel_25 : decode cX3_highestLevel 25 = .ok (.aload_n 0, 1) := by decide +kernel
theorem dX3_highestLevel_26 : decode cX3_highestLevel 26 = .ok (.getfield 15, 3) := by decide +kernel
theorem dX3_highestLevel_29 : decode cX3_highestLevel 29 = .ok (.isub, 1) := by decide +kernel
theorem dX3_highestLevel_30 : decode cX3_highestLevel 30 = .ok (.aload_n 0, 1) := by decide +kernel
theorem dX3_highestLevel_31 : decode cX3_highestLevel 31 = .ok (.getfield 18, 3) := by decide +kernel
theorem dX3_highestLevel_34 : decode cX3_highestLevel 34 = .ok (.iadd, 1) := by decide +kernel
theorem dX3_highestLevel_35 : decode cX3_highestLevel 35 = .ok (.iconst 1, 1) := by decide +kernel
theorem dX3_highestLevel_36 : decode cX3_highestLevel 36 = .ok (.isub, 1) := by decide +kernel
theorem dX3_highestLevel_37 : decode cX3_highestLevel 37 = .ok (.aload_n 0, 1) := by decide +kernel
theorem dX3_highestLevel_38 : decode cX3_highestLevel 38 = .ok (.getfield 18, 3) := by decide +kernel
theorem dX3_highestLevel_41 : decode cX3_highestLevel 41 = .ok (.idiv, 1) := by decide +kernel
theorem dX3_highestLevel_42 : decode cX3_highestLevel 42 = .ok (.ireturn, 1) := by decide +kernel
set_option maxRecDepth 20000 in
theorem ggX3_levelAfter_X3_highestLevel : GoodIn wsX3_levelAfter wsX3_highestLevel := goodIn_r _ [12, 13, 14, 15, 16, 17, 18, 19, 20] (by decide +kernel) (by decide +kernel)
set_option maxRecDepth 20000 in
theorem gX3_levelAfter_X3_highestLevel : GoodIn wsX3_levelAfter (wsV RX3 41 RX3 yX3_highestLevel wsX3_highestLevel) := goodIn_app (goodIn_of _ (by decide +kernel)) ggX3_levelAfter_X3_highestLevel
theorem dX3_levelAfter_0 : decode cX3_levelAfter 0 = .ok (.iload_n 2, 1) := by decide +kernel
theorem dX3_levelAfter_1 : decode cX3_levelAfter 1 = .ok (.iload_n 1, 1) := by decide +kernel
theorem dX3_levelAfter_2 : decode cX3_levelAfter 2 = .ok (.if_icmp .gt 11, 3) := by decide +kernel
theorem dX3_levelAfter_5 : decode cX3_levelAfter 5 = .ok (.iload_n 1, 1) := by decide +kernel
theorem dX3_levelAfter_6 : decode cX3_levelAfter 6 = .ok (.iconst 1, 1) := by decide +kernel
theorem dX3_levelAfter_7 : decode cX3_levelAfter 7 = .ok (.isub, 1) := by decide +kernel
theorem dX3_levelAfter_8 : decode cX3_levelAfter 8 = .ok (.iconst 0, 1) := by decide +kernel
theorem dX3_levelAfter_9 : decode cX3_levelAfter 9 = .ok (.invokestatic 35, 3) := by decide +kernel
theorem dX3_levelAfter_12 : decode cX3_levelAfter 12 = .ok (.ireturn, 1) := by decide +kernel
theorem dX3_levelAfter_13 : decode cX3_levelAfter 13 = .ok (.iload_n 1, 1) := by decide +kernel
theorem dX3_levelAfter_14 : decode cX3_levelAfter 14 = .ok (.iconst 1, 1) := by decide +kernel
theorem dX3_levelAfter_15 : decode cX3_levelAfter 15 = .ok (.iadd, 1) := by decide +kernel
theorem dX3_levelAfter_16 : decode cX3_levelAfter 16 = .ok (.aload_n 0, 1) := by decide +kernel
theorem dX3_levelAfter_17 : decode cX3_levelAfter 17 = .ok (.invokevirtual 41, 3) := by decide +kernel
theorem dX3_levelAfter_20 : decode cX3_levelAfter 20 = .ok (.invokestatic 45, 3) := by decide +kernel
theorem dX3_levelAfter_23 : decode cX3_levelAfter 23 = .ok (.ireturn, 1) := by decide +kernel
set_option maxRecDepth 20000 in
theorem ggX3_grips_X3_intervalOf : GoodIn wsX3_grips wsX3_intervalOf := goodIn_r _ [7, 8, 9, 10, 11, 12, 13, 14, 15] (by decide +kernel) (by decide +kernel)
set_option maxRecDepth 20000 in
theorem gX3_grips_X3_intervalOf : GoodIn wsX3_grips (wsV RX3 48 RX3 yX3_intervalOf wsX3_intervalOf) := goodIn_app (goodIn_of _ (by decide +kernel)) ggX3_grips_X3_intervalOf
theorem dX3_grips_0 : decode cX3_grips 0 = .ok (.aload_n 0, 1) := by decide +kernel
theorem dX3_grips_1 : decode cX3_grips 1 = .ok (.iload_n 1, 1) := by decide +kernel
theorem dX3_grips_2 : decode cX3_grips 2 = .ok (.invokevirtual 48, 3) := by decide +kernel
theorem dX3_grips_5 : decode cX3_grips 5 = .ok (.aload_n 0, 1) := by decide +kernel
theorem dX3_grips_6 : decode cX3_grips 6 = .ok (.getfield 21, 3) := by decide +kernel
theorem dX3_grips_9 : decode cX3_grips 9 = .ok (.aload_n 0, 1) := by decide +kernel
theorem dX3_grips_10 : decode cX3_grips 10 = .ok (.getfield 24, 3) := by decide +kernel
theorem dX3_grips_13 : decode cX3_grips 13 = .ok (.iload_n 2, 1) := by decide +kernel
theorem dX3_grips_14 : decode cX3_grips 14 = .ok (.imul, 1) := by decide +kernel
theorem dX3_grips_15 : decode cX3_grips 15 = .ok (.iadd, 1) := by decide +kernel
theorem dX3_grips_16 : decode cX3_grips 16 = .ok (.if_icmp .lt 7, 3) := by decide +kernel
theorem dX3_grips_19 : decode cX3_grips 19 = .ok (.iconst 1, 1) := by decide +kernel
theorem dX3_grips_20 : decode cX3_grips 20 = .ok (.goto 4, 3) := by decide +kernel
theorem dX3_grips_23 : decode cX3_grips 23 = .ok (.iconst 0, 1) := by decide +kernel
theorem dX3_grips_24 : decode cX3_grips 24 = .ok (.ireturn, 1) := by decide +kernel
set_option maxRecDepth 20000 in
theorem ggX3_ticksOf_X3_intervalOf : GoodIn wsX3_ticksOf wsX3_intervalOf := goodIn_r _ [5, 6, 7, 8, 24, 25, 26, 27, 28] (by decide +kernel) (by decide +kernel)
set_option maxRecDepth 20000 in
theorem gX3_ticksOf_X3_intervalOf : GoodIn wsX3_ticksOf (wsV RX3 48 RX3 yX3_intervalOf wsX3_intervalOf) := goodIn_app (goodIn_of _ (by decide +kernel)) ggX3_ticksOf_X3_intervalOf
set_option maxRecDepth 20000 in
theorem ggX3_ticksOf_X3_levelAfter : GoodIn wsX3_ticksOf wsX3_levelAfter := goodIn_r _ [12, 13, 14, 15, 16, 17, 18, 19, 20, 21, 22, 4, 23, 6, 8, 7, 24, 25, 26, 27, 28] (by decide +kernel) (by decide +kernel)
set_option maxRecDepth 20000 in
theorem gX3_ticksOf_X3_levelAfter : GoodIn wsX3_ticksOf (wsV RX3 51 RX3 yX3_levelAfter wsX3_levelAfter) := goodIn_app (goodIn_of _ (by decide +kernel)) ggX3_ticksOf_X3_levelAfter
theorem dX3_ticksOf_0 : decode cX3_ticksOf 0 = .ok (.iconst 0, 1) := by decide +kernel
theorem dX3_ticksOf_1 : decode cX3_ticksOf 1 = .ok (.istore_n 2, 1) := by decide +kernel
theorem dX3_ticksOf_2 : decode cX3_ticksOf 2 = .ok (.iconst 0, 1) := by decide +kernel
theorem dX3_ticksOf_3 : decode cX3_ticksOf 3 = .ok (.istore_n 3, 1) := by decide +kernel
theorem dX3_ticksOf_4 : decode cX3_ticksOf 4 = .ok (.iload_n 1, 1) := by decide +kernel
theorem dX3_ticksOf_5 : decode cX3_ticksOf 5 = .ok (.iconst 1, 1) := by decide +kernel
theorem dX3_ticksOf_6 : decode cX3_ticksOf 6 = .ok (.isub, 1) := by decide +kernel
theorem dX3_ticksOf_7 : decode cX3_ticksOf 7 = .ok (.istore 4, 2) := by decide +kernel
theorem dX3_ticksOf_9 : decode cX3_ticksOf 9 = .ok (.iload 4, 2) := by decide +kernel
theorem dX3_ticksOf_11 : decode cX3_ticksOf 11 = .ok (.ifCond .lt 25, 3) := by decide +kernel
theorem dX3_ticksOf_14 : decode cX3_ticksOf 14 = .ok (.iload_n 2, 1) := by decide +kernel
theorem dX3_ticksOf_15 : decode cX3_ticksOf 15 = .ok (.aload_n 0, 1) := by decide +kernel
theorem dX3_ticksOf_16 : decode cX3_ticksOf 16 = .ok (.iload_n 3, 1) := by decide +kernel
theorem dX3_ticksOf_17 : decode cX3_ticksOf 17 = .ok (.invokevirtual 48, 3) := by decide +kernel
theorem dX3_ticksOf_20 : decode cX3_ticksOf 20 = .ok (.iadd, 1) := by decide +kernel
theorem dX3_ticksOf_21 : decode cX3_ticksOf 21 = .ok (.istore_n 2, 1) := by decide +kernel
theorem dX3_ticksOf_22 : decode cX3_ticksOf 22 = .ok (.aload_n 0, 1) := by decide +kernel
theorem dX3_ticksOf_23 : decode cX3_ticksOf 23 = .ok (.iload_n 3, 1) := by decide +kernel
theorem dX3_ticksOf_24 : decode cX3_ticksOf 24 = .ok (.iload 4, 2) := by decide +kernel
theorem dX3_ticksOf_26 : decode cX3_ticksOf 26 = .ok (.invokevirtual 51, 3) := by decide +kernel
theorem dX3_ticksOf_29 : decode cX3_ticksOf 29 = .ok (.istore_n 3, 1) := by decide +kernel
theorem dX3_ticksOf_30 : decode cX3_ticksOf 30 = .ok (.iinc 4 (-1), 3) := by decide +kernel
theorem dX3_ticksOf_33 : decode cX3_ticksOf 33 = .ok (.goto (-24), 3) := by decide +kernel
theorem dX3_ticksOf_36 : decode cX3_ticksOf 36 = .ok (.iload_n 2, 1) := by decide +kernel
theorem dX3_ticksOf_37 : decode cX3_ticksOf 37 = .ok (.ireturn, 1) := by decide +kernel
set_option maxRecDepth 20000 in
theorem ggX3_peakOf_X3_highestLevel : GoodIn wsX3_peakOf wsX3_highestLevel := goodIn_r _ [9, 10, 11, 12, 13, 14, 15, 16, 17] (by decide +kernel) (by decide +kernel)
set_option maxRecDepth 20000 in
theorem gX3_peakOf_X3_highestLevel : GoodIn wsX3_peakOf (wsV RX3 41 RX3 yX3_highestLevel wsX3_highestLevel) := goodIn_app (goodIn_of _ (by decide +kernel)) ggX3_peakOf_X3_highestLevel
theorem dX3_peakOf_0 : decode cX3_peakOf 0 = .ok (.aload_n 0, 1) := by decide +kernel
theorem dX3_peakOf_1 : decode cX3_peakOf 1 = .ok (.invokevirtual 41, 3) := by decide +kernel
theorem dX3_peakOf_4 : decode cX3_peakOf 4 = .ok (.iload_n 1, 1) := by decide +kernel
theorem dX3_peakOf_5 : decode cX3_peakOf 5 = .ok (.iconst 2, 1) := by decide +kernel
theorem dX3_peakOf_6 : decode cX3_peakOf 6 = .ok (.idiv, 1) := by decide +kernel
theorem dX3_peakOf_7 : decode cX3_peakOf 7 = .ok (.invokestatic 45, 3) := by decide +kernel
theorem dX3_peakOf_10 : decode cX3_peakOf 10 = .ok (.ireturn, 1) := by decide +kernel
set_option maxRecDepth 20000 in
theorem ggX4_init_X2_init : GoodIn wsX4_init wsX2_init := goodIn_r _ [9, 10, 2, 3, 11, 12, 13, 14] (by decide +kernel) (by decide +kernel)
set_option maxRecDepth 20000 in
theorem gX4_init_X2_init_n11 : GoodIn wsX4_init (wsX2_init) := ggX4_init_X2_init
theorem dX4_init_0 : decode cX4_init 0 = .ok (.aload_n 0, 1) := by decide +kernel
theorem dX4_init_1 : decode cX4_init 1 = .ok (.invokespecial 3, 3) := by decide +kernel
theorem dX4_init_4 : decode cX4_init 4 = .ok (.aload_n 0, 1) := by decide +kernel
theorem dX4_init_5 : decode cX4_init 5 = .ok (.new 9, 3) := by decide +kernel
theorem dX4_init_8 : decode cX4_init 8 = .ok (.dup, 1) := by decide +kernel
theorem dX4_init_9 : decode cX4_init 9 = .ok (.invokespecial 11, 3) := by decide +kernel
theorem dX4_init_12 : decode cX4_init 12 = .ok (.putfield 12, 3) := by decide +kernel
theorem dX4_init_15 : decode cX4_init 15 = .ok (.return_, 1) := by decide +kernel
theorem dX4_begin_0 : decode cX4_begin 0 = .ok (.aload_n 0, 1) := by decide +kernel
theorem dX4_begin_1 : decode cX4_begin 1 = .ok (.iconst 0, 1) := by decide +kernel
theorem dX4_begin_2 : decode cX4_begin 2 = .ok (.putfield 18, 3) := by decide +kernel
theorem dX4_begin_5 : decode cX4_begin 5 = .ok (.return_, 1) := by decide +kernel
set_option maxRecDepth 20000 in
theorem ggX4_findFault_X4_begin : GoodIn wsX4_findFault wsX4_begin := goodIn_r _ [8, 1, 52, 53, 54, 55, 56, 57] (by decide +kernel) (by decide +kernel)
set_option maxRecDepth 20000 in
theorem gX4_findFault_X4_begin : GoodIn wsX4_findFault (wsV RX4 22 RX4 yX4_begin wsX4_begin) := goodIn_app (goodIn_of _ (by decide +kernel)) ggX4_findFault_X4_begin
set_option maxRecDepth 20000 in
theorem ggX4_findFault_X4_readOrder : GoodIn wsX4_findFault wsX4_readOrder := goodIn_r _ [12, 2, 1, 13, 14, 15, 16, 17, 18, 19, 20, 21, 22, 23, 7, 24, 25, 26, 27, 28, 29, 30, 31, 32, 33, 34, 35, 36, 37, 38, 39, 40, 41, 42, 43, 44, 45, 46, 47, 48, 49, 50, 51, 52, 53, 54, 55, 56, 57, 58, 59] (by decide +kernel) (by decide +kernel)
set_option maxRecDepth 20000 in
theorem gX4_findFault_X4_readOrder : GoodIn wsX4_findFault (wsV RX4 25 RX4 yX4_readOrder wsX4_readOrder) := goodIn_app (goodIn_of _ (by decide +kernel)) ggX4_findFault_X4_readOrder
set_option maxRecDepth 20000 in
theorem ggX4_findFault_X4_skip : GoodIn wsX4_findFault wsX4_skip := goodIn_r _ [33, 2, 1, 14, 15, 16, 17, 18, 19, 20, 52, 53, 54, 55, 56, 57, 58, 59] (by decide +kernel) (by decide +kernel)
set_option maxRecDepth 20000 in
theorem gX4_findFault_X4_skip : GoodIn wsX4_findFault (wsV RX4 32 RX4 yX4_skip wsX4_skip) := goodIn_app (goodIn_of _ (by decide +kernel)) ggX4_findFault_X4_skip
theorem dX4_findFault_0 : decode cX4_findFault 0 = .ok (.aload_n 0, 1) := by decide +kernel
theorem dX4_findFault_1 : decode cX4_findFault 1 = .ok (.invokevirtual 22, 3) := by decide +kernel
theorem dX4_findFault_4 : decode cX4_findFault 4 = .ok (.iconst 0, 1) := by decide +kernel
theorem dX4_findFault_5 : decode cX4_findFault 5 = .ok (.istore_n 1, 1) := by decide +kernel
theorem dX4_findFault_6 : decode cX4_findFault 6 = .ok (.iload_n 1, 1) := by decide +kernel
theorem dX4_findFault_7 : decode cX4_findFault 7 = .ok (.bipush 80, 2) := by decide +kernel
theorem dX4_findFault_9 : decode cX4_findFault 9 = .ok (.if_icmp .ge 52, 3) := by decide +kernel
theorem dX4_findFault_12 : decode cX4_findFault 12 = .ok (.aload_n 0, 1) := by decide +kernel
theorem dX4_findFault_13 : decode cX4_findFault 13 = .ok (.invokevirtual 25, 3) := by decide +kernel
theorem dX4_findFault_16 : decode cX4_findFault 16 = .ok (.ifCond .ne 8, 3) := by decide +kernel
theorem dX4_findFault_19 : decode cX4_findFault 19 = .ok (.aload_n 0, 1) := by decide +kernel
theorem dX4_findFault_20 : decode cX4_findFault 20 = .ok (.getfield 18, 3) := by decide +kernel
theorem dX4_findFault_23 : decode cX4_findFault 23 = .ok (.ireturn, 1) := by decide +kernel
theorem dX4_findFault_24 : decode cX4_findFault 24 = .ok (.aload_n 0, 1) := by decide +kernel
theorem dX4_findFault_25 : decode cX4_findFault 25 = .ok (.getfield 18, 3) := by decide +kernel
theorem dX4_findFault_28 : decode cX4_findFault 28 = .ok (.aload_n 0, 1) := by decide +kernel
theorem dX4_findFault_29 : decode cX4_findFault 29 = .ok (.getfield 12, 3) := by decide +kernel
theorem dX4_findFault_32 : decode cX4_findFault 32 = .ok (.getfield 29, 3) := by decide +kernel
theorem dX4_findFault_35 : decode cX4_findFault 35 = .ok (.if_icmp .ne 6, 3) := by decide +kernel
theorem dX4_findFault_38 : decode cX4_findFault 38 = .ok (.bipush (-6), 2) := by decide +kernel
theorem dX4_findFault_40 : decode cX4_findFault 40 = .ok (.ireturn, 1) := by decide +kernel
theorem dX4_findFault_41 : decode cX4_findFault 41 = .ok (.aload_n 0, 1) := by decide +kernel
theorem dX4_findFault_42 : decode cX4_findFault 42 = .ok (.bipush 59, 2) := by decide +kernel
theorem dX4_findFault_44 : decode cX4_findFault 44 = .ok (.invokevirtual 32, 3) := by decide +kernel
theorem dX4_findFault_47 : decode cX4_findFault 47 = .ok (.ifCond .ne 8, 3) := by decide +kernel
theorem dX4_findFault_50 : decode cX4_findFault 50 = .ok (.aload_n 0, 1) := by decide +kernel
theorem dX4_findFault_51 : decode cX4_findFault 51 = .ok (.getfield 18, 3) := by decide +kernel
theorem dX4_findFault_54 : decode cX4_findFault 54 = .ok (.ireturn, 1) := by decide +kernel
theorem dX4_findFault_55 : decode cX4_findFault 55 = .ok (.iinc 1 1, 3) := by decide +kernel
theorem dX4_findFault_58 : decode cX4_findFault 58 = .ok (.goto (-52), 3) := by decide +kernel
theorem dX4_findFault_61 : decode cX4_findFault 61 = .ok (.aload_n 0, 1) := by decide +kernel
theorem dX4_findFault_62 : decode cX4_findFault 62 = .ok (.getfield 18, 3) := by decide +kernel
theorem dX4_findFault_65 : decode cX4_findFault 65 = .ok (.ireturn, 1) := by decide +kernel
set_option maxRecDepth 20000 in
theorem ggX4_readOrder_X2_signAt : GoodIn wsX4_readOrder wsX2_signAt := goodIn_r _ [8, 9, 10, 49, 50] (by decide +kernel) (by decide +kernel)
set_option maxRecDepth 20000 in
theorem gX4_readOrder_X2_signAt : GoodIn wsX4_readOrder (wsV RX4 36 RX2 yX2_signAt wsX2_signAt) := goodIn_app (goodIn_of _ (by decide +kernel)) ggX4_readOrder_X2_signAt
set_option maxRecDepth 20000 in
theorem ggX4_readOrder_X4_readDigit : GoodIn wsX4_readOrder wsX4_readDigit := goodIn_r _ [15, 16, 17, 18, 19, 14, 20, 1, 2, 4, 5, 6, 7, 8, 9, 10, 43, 44, 45, 46, 47, 48, 49, 50] (by decide +kernel) (by decide +kernel)
set_option maxRecDepth 20000 in
theorem gX4_readOrder_X4_readDigit : GoodIn wsX4_readOrder (wsV RX4 43 RX4 yX4_readDigit wsX4_readDigit) := goodIn_app (goodIn_of _ (by decide +kernel)) ggX4_readOrder_X4_readDigit
set_option maxRecDepth 20000 in
theorem ggX4_readOrder_X4_skip : GoodIn wsX4_readOrder wsX4_skip := goodIn_r _ [24, 1, 2, 4, 5, 6, 7, 8, 9, 10, 43, 44, 45, 46, 47, 48, 49, 50] (by decide +kernel) (by decide +kernel)
set_option maxRecDepth 20000 in
theorem gX4_readOrder_X4_skip : GoodIn wsX4_readOrder (wsV RX4 32 RX4 yX4_skip wsX4_skip) := goodIn_app (goodIn_of _ (by decide +kernel)) ggX4_readOrder_X4_skip
set_option maxRecDepth 20000 in
theorem ggX4_readOrder_X4_readPlace : GoodIn wsX4_readOrder wsX4_readPlace := goodIn_r _ [28, 29, 21, 22, 23, 14, 24, 1, 2, 4, 5, 6, 7, 8, 9, 10, 30, 31, 32, 33, 17, 18, 19, 20, 43, 44, 45, 46, 47, 48, 49, 50] (by decide +kernel) (by decide +kernel)
set_option maxRecDepth 20000 in
theorem gX4_readOrder_X4_readPlace : GoodIn wsX4_readOrder (wsV RX4 46 RX4 yX4_readPlace wsX4_readPlace) := goodIn_app (goodIn_of _ (by decide +kernel)) ggX4_readOrder_X4_readPlace
set_option maxRecDepth 20000 in
theorem ggX4_readOrder_X4_readNumber : GoodIn wsX4_readOrder wsX4_readNumber := goodIn_r _ [37, 38, 30, 31, 32, 14, 33, 17, 18, 19, 20, 1, 2, 4, 5, 6, 7, 8, 9, 10, 43, 44, 45, 46, 47, 48, 49, 50] (by decide +kernel) (by decide +kernel)
set_option maxRecDepth 20000 in
theorem gX4_readOrder_X4_readNumber : GoodIn wsX4_readOrder (wsV RX4 49 RX4 yX4_readNumber wsX4_readNumber) := goodIn_app (goodIn_of _ (by decide +kernel)) ggX4_readOrder_X4_readNumber
set_option maxRecDepth 20000 in
theorem ggX4_readOrder_X4_readLoad : GoodIn wsX4_readOrder wsX4_readLoad := goodIn_r _ [42, 29, 17, 18, 19, 14, 20, 1, 2, 4, 5, 6, 7, 8, 9, 10, 43, 44, 45, 46, 47, 48, 49, 50] (by decide +kernel) (by decide +kernel)
set_option maxRecDepth 20000 in
theorem gX4_readOrder_X4_readLoad : GoodIn wsX4_readOrder (wsV RX4 52 RX4 yX4_readLoad wsX4_readLoad) := goodIn_app (goodIn_of _ (by decide +kernel)) ggX4_readOrder_X4_readLoad
theorem dX4_readOrder_0 : decode cX4_readOrder 0 = .ok (.aload_n 0, 1) := by decide +kernel
theorem dX4_readOrder_1 : decode cX4_readOrder 1 = .ok (.aload_n 0, 1) := by decide +kernel
theorem dX4_readOrder_2 : decode cX4_readOrder 2 = .ok (.getfield 12, 3) := by decide +kernel
theorem dX4_readOrder_5 : decode cX4_readOrder 5 = .ok (.aload_n 0, 1) := by decide +kernel
theorem dX4_readOrder_6 : decode cX4_readOrder 6 = .ok (.getfield 18, 3) := by decide +kernel
theorem dX4_readOrder_9 : decode cX4_readOrder 9 = .ok (.invokevirtual 36, 3) := by decide +kernel
theorem dX4_readOrder_12 : decode cX4_readOrder 12 = .ok (.putfield 40, 3) := by decide +kernel
theorem dX4_readOrder_15 : decode cX4_readOrder 15 = .ok (.aload_n 0, 1) := by decide +kernel
theorem dX4_readOrder_16 : decode cX4_readOrder 16 = .ok (.getfield 40, 3) := by decide +kernel
theorem dX4_readOrder_19 : decode cX4_readOrder 19 = .ok (.tableswitch 228 104 116 #[65, 228, 228, 228, 174, 80, 65, 228, 119, 228, 228, 65, 213], 65) := by decide +kernel
theorem dX4_readOrder_84 : decode cX4_readOrder 84 = .ok (.aload_n 0, 1) := by decide +kernel
theorem dX4_readOrder_85 : decode cX4_readOrder 85 = .ok (.dup, 1) := by decide +kernel
theorem dX4_readOrder_86 : decode cX4_readOrder 86 = .ok (.getfield 18, 3) := by decide +kernel
theorem dX4_readOrder_89 : decode cX4_readOrder 89 = .ok (.iconst 1, 1) := by decide +kernel
theorem dX4_readOrder_90 : decode cX4_readOrder 90 = .ok (.iadd, 1) := by decide +kernel
theorem dX4_readOrder_91 : decode cX4_readOrder 91 = .ok (.putfield 18, 3) := by decide +kernel
theorem dX4_readOrder_94 : decode cX4_readOrder 94 = .ok (.aload_n 0, 1) := by decide +kernel
theorem dX4_readOrder_95 : decode cX4_readOrder 95 = .ok (.invokevirtual 43, 3) := by decide +kernel
theorem dX4_readOrder_98 : decode cX4_readOrder 98 = .ok (.ireturn, 1) := by decide +kernel
theorem dX4_readOrder_99 : decode cX4_readOrder 99 = .ok (.aload_n 0, 1) := by decide +kernel
theorem dX4_readOrder_100 : decode cX4_readOrder 100 = .ok (.dup, 1) := by decide +kernel
theorem dX4_readOrder_101 : decode cX4_readOrder 101 = .ok (.getfield 18, 3) := by decide +kernel
theorem dX4_readOrder_104 : decode cX4_readOrder 104 = .ok (.iconst 1, 1) := by decide +kernel
theorem dX4_readOrder_105 : decode cX4_readOrder 105 = .ok (.iadd, 1) := by decide +kernel
theorem dX4_readOrder_106 : decode cX4_readOrder 106 = .ok (.putfield 18, 3) := by decide +kernel
theorem dX4_readOrder_109 : decode cX4_readOrder 109 = .ok (.aload_n 0, 1) := by decide +kernel
theorem dX4_readOrder_110 : decode cX4_readOrder 110 = .ok (.invokevirtual 43, 3) := by decide +kernel
theorem dX4_readOrder_113 : decode cX4_readOrder 113 = .ok (.ifCond .eq 23, 3) := by decide +kernel
theorem dX4_readOrder_116 : decode cX4_readOrder 116 = .ok (.aload_n 0, 1) := by decide +kernel
theorem dX4_readOrder_117 : decode cX4_readOrder 117 = .ok (.bipush 64, 2) := by decide +kernel
theorem dX4_readOrder_119 : decode cX4_readOrder 119 = .ok (.invokevirtual 32, 3) := by decide +kernel
theorem dX4_readOrder_122 : decode cX4_readOrder 122 = .ok (.ifCond .eq 14, 3) := by decide +kernel
theorem dX4_readOrder_125 : decode cX4_readOrder 125 = .ok (.aload_n 0, 1) := by decide +kernel
theorem dX4_readOrder_126 : decode cX4_readOrder 126 = .ok (.invokevirtual 46, 3) := by decide +kernel
theorem dX4_readOrder_129 : decode cX4_readOrder 129 = .ok (.ifCond .eq 7, 3) := by decide +kernel
theorem dX4_readOrder_132 : decode cX4_readOrder 132 = .ok (.iconst 1, 1) := by decide +kernel
theorem dX4_readOrder_133 : decode cX4_readOrder 133 = .ok (.goto 4, 3) := by decide +kernel
theorem dX4_readOrder_136 : decode cX4_readOrder 136 = .ok (.iconst 0, 1) := by decide +kernel
theorem dX4_readOrder_137 : decode cX4_readOrder 137 = .ok (.ireturn, 1) := by decide +kernel
theorem dX4_readOrder_138 : decode cX4_readOrder 138 = .ok (.aload_n 0, 1) := by decide +kernel
theorem dX4_readOrder_139 : decode cX4_readOrder 139 = .ok (.dup, 1) := by decide +kernel
theorem dX4_readOrder_140 : decode cX4_readOrder 140 = .ok (.getfield 18, 3) := by decide +kernel
theorem dX4_readOrder_143 : decode cX4_readOrder 143 = .ok (.iconst 1, 1) := by decide +kernel
theorem dX4_readOrder_144 : decode cX4_readOrder 144 = .ok (.iadd, 1) := by decide +kernel
theorem dX4_readOrder_145 : decode cX4_readOrder 145 = .ok (.putfield 18, 3) := by decide +kernel
theorem dX4_readOrder_148 : decode cX4_readOrder 148 = .ok (.aload_n 0, 1) := by decide +kernel
theorem dX4_readOrder_149 : decode cX4_readOrder 149 = .ok (.invokevirtual 49, 3) := by decide +kernel
theorem dX4_readOrder_152 : decode cX4_readOrder 152 = .ok (.ifCond .eq 39, 3) := by decide +kernel
theorem dX4_readOrder_155 : decode cX4_readOrder 155 = .ok (.aload_n 0, 1) := by decide +kernel
theorem dX4_readOrder_156 : decode cX4_readOrder 156 = .ok (.bipush 58, 2) := by decide +kernel
theorem dX4_readOrder_158 : decode cX4_readOrder 158 = .ok (.invokevirtual 32, 3) := by decide +kernel
theorem dX4_readOrder_161 : decode cX4_readOrder 161 = .ok (.ifCond .eq 30, 3) := by decide +kernel
theorem dX4_readOrder_164 : decode cX4_readOrder 164 = .ok (.aload_n 0, 1) := by decide +kernel
theorem dX4_readOrder_165 : decode cX4_readOrder 165 = .ok (.invokevirtual 43, 3) := by decide +kernel
theorem dX4_readOrder_168 : decode cX4_readOrder 168 = .ok (.ifCond .eq 23, 3) := by decide +kernel
theorem dX4_readOrder_171 : decode cX4_readOrder 171 = .ok (.aload_n 0, 1) := by decide +kernel
theorem dX4_readOrder_172 : decode cX4_readOrder 172 = .ok (.bipush 64, 2) := by decide +kernel
theorem dX4_readOrder_174 : decode cX4_readOrder 174 = .ok (.invokevirtual 32, 3) := by decide +kernel
theorem dX4_readOrder_177 : decode cX4_readOrder 177 = .ok (.ifCond .eq 14, 3) := by decide +kernel
theorem dX4_readOrder_180 : decode cX4_readOrder 180 = .ok (.aload_n 0, 1) := by decide +kernel
theorem dX4_readOrder_181 : decode cX4_readOrder 181 = .ok (.invokevirtual 46, 3) := by decide +kernel
theorem dX4_readOrder_184 : decode cX4_readOrder 184 = .ok (.ifCond .eq 7, 3) := by decide +kernel
theorem dX4_readOrder_187 : decode cX4_readOrder 187 = .ok (.iconst 1, 1) := by decide +kernel
theorem dX4_readOrder_188 : decode cX4_readOrder 188 = .ok (.goto 4, 3) := by decide +kernel
theorem dX4_readOrder_191 : decode cX4_readOrder 191 = .ok (.iconst 0, 1) := by decide +kernel
theorem dX4_readOrder_192 : decode cX4_readOrder 192 = .ok (.ireturn, 1) := by decide +kernel
theorem dX4_readOrder_193 : decode cX4_readOrder 193 = .ok (.aload_n 0, 1) := by decide +kernel
theorem dX4_readOrder_194 : decode cX4_readOrder 194 = .ok (.dup, 1) := by decide +kernel
theorem dX4_readOrder_195 : decode cX4_readOrder 195 = .ok (.getfield 18, 3) := by decide +kernel
theorem dX4_readOrder_198 : decode cX4_readOrder 198 = .ok (.iconst 1, 1) := by decide +kernel
theorem dX4_readOrder_199 : decode cX4_readOrder 199 = .ok (.iadd, 1) := by decide +kernel
theorem dX4_readOrder_200 : decode cX4_readOrder 200 = .ok (.putfield 18, 3) := by decide +kernel
theorem dX4_readOrder_203 : decode cX4_readOrder 203 = .ok (.aload_n 0, 1) := by decide +kernel
theorem dX4_readOrder_204 : decode cX4_readOrder 204 = .ok (.invokevirtual 43, 3) := by decide +kernel
theorem dX4_readOrder_207 : decode cX4_readOrder 207 = .ok (.ifCond .eq 23, 3) := by decide +kernel
theorem dX4_readOrder_210 : decode cX4_readOrder 210 = .ok (.aload_n 0, 1) := by decide +kernel
theorem dX4_readOrder_211 : decode cX4_readOrder 211 = .ok (.bipush 61, 2) := by decide +kernel
theorem dX4_readOrder_213 : decode cX4_readOrder 213 = .ok (.invokevirtual 32, 3) := by decide +kernel
theorem dX4_readOrder_216 : decode cX4_readOrder 216 = .ok (.ifCond .eq 14, 3) := by decide +kernel
theorem dX4_readOrder_219 : decode cX4_readOrder 219 = .ok (.aload_n 0, 1) := by decide +kernel
theorem dX4_readOrder_220 : decode cX4_readOrder 220 = .ok (.invokevirtual 52, 3) := by decide +kernel
theorem dX4_readOrder_223 : decode cX4_readOrder 223 = .ok (.ifCond .eq 7, 3) := by decide +kernel
theorem dX4_readOrder_226 : decode cX4_readOrder 226 = .ok (.iconst 1, 1) := by decide +kernel
theorem dX4_readOrder_227 : decode cX4_readOrder 227 = .ok (.goto 4, 3) := by decide +kernel
theorem dX4_readOrder_230 : decode cX4_readOrder 230 = .ok (.iconst 0, 1) := by decide +kernel
theorem dX4_readOrder_231 : decode cX4_readOrder 231 = .ok (.ireturn, 1) := by decide +kernel
theorem dX4_readOrder_232 : decode cX4_readOrder 232 = .ok (.aload_n 0, 1) := by decide +kernel
theorem dX4_readOrder_233 : decode cX4_readOrder 233 = .ok (.dup, 1) := by decide +kernel
theorem dX4_readOrder_234 : decode cX4_readOrder 234 = .ok (.getfield 18, 3) := by decide +kernel
theorem dX4_readOrder_237 : decode cX4_readOrder 237 = .ok (.iconst 1, 1) := by decide +kernel
theorem dX4_readOrder_238 : decode cX4_readOrder 238 = .ok (.iadd, 1) := by decide +kernel
theorem dX4_readOrder_239 : decode cX4_readOrder 239 = .ok (.putfield 18, 3) := by decide +kernel
theorem dX4_readOrder_242 : decode cX4_readOrder 242 = .ok (.aload_n 0, 1) := by decide +kernel
theorem dX4_readOrder_243 : decode cX4_readOrder 243 = .ok (.invokevirtual 49, 3) := by decide +kernel
theorem dX4_readOrder_246 : decode cX4_readOrder 246 = .ok (.ireturn, 1) := by decide +kernel
theorem dX4_readOrder_247 : decode cX4_readOrder 247 = .ok (.iconst 0, 1) := by decide +kernel
theorem dX4_readOrder_248 : decode cX4_readOrder 248 = .ok (.ireturn, 1) := by decide +kernel
set_option maxRecDepth 20000 in
theorem ggX4_skip_X2_signAt : GoodIn wsX4_skip wsX2_signAt := goodIn_r _ [7, 8, 9, 16, 17] (by decide +kernel) (by decide +kernel)
set_option maxRecDepth 20000 in
theorem gX4_skip_X2_signAt : GoodIn wsX4_skip (wsV RX4 36 RX2 yX2_signAt wsX2_signAt) := goodIn_app (goodIn_of _ (by decide +kernel)) ggX4_skip_X2_signAt
theorem dX4_skip_0 : decode cX4_skip 0 = .ok (.aload_n 0, 1) := by decide +kernel
theorem dX4_skip_1 : decode cX4_skip 1 = .ok (.getfield 12, 3) := by decide +kernel
theorem dX4_skip_4 : decode cX4_skip 4 = .ok (.aload_n 0, 1) := by decide +kernel
theorem dX4_skip_5 : decode cX4_skip 5 = .ok (.getfield 18, 3) := by decide +kernel
theorem dX4_skip_8 : decode cX4_skip 8 = .ok (.invokevirtual 36, 3) := by decide +kernel
theorem dX4_skip_11 : decode cX4_skip 11 = .ok (.iload_n 1, 1) := by decide +kernel
theorem dX4_skip_12 : decode cX4_skip 12 = .ok (.if_icmp .eq 5, 3) := by decide +kernel
theorem dX4_skip_15 : decode cX4_skip 15 = .ok (.iconst 0, 1) := by decide +kernel
theorem dX4_skip_16 : decode cX4_skip 16 = .ok (.ireturn, 1) := by decide +kernel
theorem dX4_skip_17 : decode cX4_skip 17 = .ok (.aload_n 0, 1) := by decide +kernel
theorem dX4_skip_18 : decode cX4_skip 18 = .ok (.dup, 1) := by decide +kernel
theorem dX4_skip_19 : decode cX4_skip 19 = .ok (.getfield 18, 3) := by decide +kernel
theorem dX4_skip_22 : decode cX4_skip 22 = .ok (.iconst 1, 1) := by decide +kernel
theorem dX4_skip_23 : decode cX4_skip 23 = .ok (.iadd, 1) := by decide +kernel
theorem dX4_skip_24 : decode cX4_skip 24 = .ok (.putfield 18, 3) := by decide +kernel
theorem dX4_skip_27 : decode cX4_skip 27 = .ok (.iconst 1, 1) := by decide +kernel
theorem dX4_skip_28 : decode cX4_skip 28 = .ok (.ireturn, 1) := by decide +kernel
set_option maxRecDepth 20000 in
theorem ggX4_readDigit_X4_takeDigit : GoodIn wsX4_readDigit wsX4_takeDigit := goodIn_r _ [6, 7, 8, 9, 10, 11, 12, 13, 14, 15, 16, 17, 18, 19, 20, 21, 22, 23] (by decide +kernel) (by decide +kernel)
set_option maxRecDepth 20000 in
theorem gX4_readDigit_X4_takeDigit : GoodIn wsX4_readDigit (wsV RX4 55 RX4 yX4_takeDigit wsX4_takeDigit) := goodIn_app (goodIn_of _ (by decide +kernel)) ggX4_readDigit_X4_takeDigit
theorem dX4_readDigit_0 : decode cX4_readDigit 0 = .ok (.aload_n 0, 1) := by decide +kernel
theorem dX4_readDigit_1 : decode cX4_readDigit 1 = .ok (.aload_n 0, 1) := by decide +kernel
theorem dX4_readDigit_2 : decode cX4_readDigit 2 = .ok (.invokevirtual 55, 3) := by decide +kernel
theorem dX4_readDigit_5 : decode cX4_readDigit 5 = .ok (.putfield 59, 3) := by decide +kernel
theorem dX4_readDigit_8 : decode cX4_readDigit 8 = .ok (.aload_n 0, 1) := by decide +kernel
theorem dX4_readDigit_9 : decode cX4_readDigit 9 = .ok (.getfield 59, 3) := by decide +kernel
theorem dX4_readDigit_12 : decode cX4_readDigit 12 = .ok (.ifCond .lt 7, 3) := by decide +kernel
theorem dX4_readDigit_15 : decode cX4_readDigit 15 = .ok (.iconst 1, 1) := by decide +kernel
theorem dX4_readDigit_16 : decode cX4_readDigit 16 = .ok (.goto 4, 3) := by decide +kernel
theorem dX4_readDigit_19 : decode cX4_readDigit 19 = .ok (.iconst 0, 1) := by decide +kernel
theorem dX4_readDigit_20 : decode cX4_readDigit 20 = .ok (.ireturn, 1) := by decide +kernel
set_option maxRecDepth 20000 in
theorem ggX4_readLoad_X4_takeDigit : GoodIn wsX4_readLoad wsX4_takeDigit := goodIn_r _ [6, 7, 8, 9, 10, 11, 12, 13, 14, 15, 16, 17, 18, 19, 20, 21, 22, 23] (by decide +kernel) (by decide +kernel)
set_option maxRecDepth 20000 in
theorem gX4_readLoad_X4_takeDigit : GoodIn wsX4_readLoad (wsV RX4 55 RX4 yX4_takeDigit wsX4_takeDigit) := goodIn_app (goodIn_of _ (by decide +kernel)) ggX4_readLoad_X4_takeDigit
theorem dX4_readLoad_0 : decode cX4_readLoad 0 = .ok (.aload_n 0, 1) := by decide +kernel
theorem dX4_readLoad_1 : decode cX4_readLoad 1 = .ok (.aload_n 0, 1) := by decide +kernel
theorem dX4_readLoad_2 : decode cX4_readLoad 2 = .ok (.invokevirtual 55, 3) := by decide +kernel
theorem dX4_readLoad_5 : decode cX4_readLoad 5 = .ok (.putfield 62, 3) := by decide +kernel
theorem dX4_readLoad_8 : decode cX4_readLoad 8 = .ok (.aload_n 0, 1) := by decide +kernel
theorem dX4_readLoad_9 : decode cX4_readLoad 9 = .ok (.getfield 62, 3) := by decide +kernel
theorem dX4_readLoad_12 : decode cX4_readLoad 12 = .ok (.ifCond .lt 7, 3) := by decide +kernel
theorem dX4_readLoad_15 : decode cX4_readLoad 15 = .ok (.iconst 1, 1) := by decide +kernel
theorem dX4_readLoad_16 : decode cX4_readLoad 16 = .ok (.goto 4, 3) := by decide +kernel
theorem dX4_readLoad_19 : decode cX4_readLoad 19 = .ok (.iconst 0, 1) := by decide +kernel
theorem dX4_readLoad_20 : decode cX4_readLoad 20 = .ok (.ireturn, 1) := by decide +kernel
set_option maxRecDepth 20000 in
theorem ggX4_readNumber_X4_takeNumber : GoodIn wsX4_readNumber wsX4_takeNumber := goodIn_r _ [6, 7, 8, 9, 5, 10, 11, 12, 13, 14, 15, 16, 17, 18, 19, 20, 21, 22, 23, 24, 25, 26, 27] (by decide +kernel) (by decide +kernel)
set_option maxRecDepth 20000 in
theorem gX4_readNumber_X4_takeNumber : GoodIn wsX4_readNumber (wsV RX4 65 RX4 yX4_takeNumber wsX4_takeNumber) := goodIn_app (goodIn_of _ (by decide +kernel)) ggX4_readNumber_X4_takeNumber
theorem dX4_readNumber_0 : decode cX4_readNumber 0 = .ok (.aload_n 0, 1) := by decide +kernel
theorem dX4_readNumber_1 : decode cX4_readNumber 1 = .ok (.aload_n 0, 1) := by decide +kernel
theorem dX4_readNumber_2 : decode cX4_readNumber 2 = .ok (.invokevirtual 65, 3) := by decide +kernel
theorem dX4_readNumber_5 : decode cX4_readNumber 5 = .ok (.putfield 68, 3) := by decide +kernel
theorem dX4_readNumber_8 : decode cX4_readNumber 8 = .ok (.aload_n 0, 1) := by decide +kernel
theorem dX4_readNumber_9 : decode cX4_readNumber 9 = .ok (.getfield 68, 3) := by decide +kernel
theorem dX4_readNumber_12 : decode cX4_readNumber 12 = .ok (.ifCond .lt 7, 3) := by decide +kernel
theorem dX4_readNumber_15 : decode cX4_readNumber 15 = .ok (.iconst 1, 1) := by decide +kernel
theorem dX4_readNumber_16 : decode cX4_readNumber 16 = .ok (.goto 4, 3) := by decide +kernel
theorem dX4_readNumber_19 : decode cX4_readNumber 19 = .ok (.iconst 0, 1) := by decide +kernel
theorem dX4_readNumber_20 : decode cX4_readNumber 20 = .ok (.ireturn, 1) := by decide +kernel
set_option maxRecDepth 20000 in
theorem ggX4_readPlace_X4_skip : GoodIn wsX4_readPlace wsX4_skip := goodIn_r _ [6, 7, 8, 9, 10, 11, 12, 13, 14, 15, 24, 25, 26, 27, 28, 29, 30, 31] (by decide +kernel) (by decide +kernel)
set_option maxRecDepth 20000 in
theorem gX4_readPlace_X4_skip : GoodIn wsX4_readPlace (wsV RX4 32 RX4 yX4_skip wsX4_skip) := goodIn_app (goodIn_of _ (by decide +kernel)) ggX4_readPlace_X4_skip
set_option maxRecDepth 20000 in
theorem ggX4_readPlace_X4_takeNumber : GoodIn wsX4_readPlace wsX4_takeNumber := goodIn_r _ [19, 20, 21, 22, 5, 23, 7, 8, 9, 10, 11, 12, 13, 14, 15, 24, 25, 26, 27, 28, 29, 30, 31] (by decide +kernel) (by decide +kernel)
set_option maxRecDepth 20000 in
theorem gX4_readPlace_X4_takeNumber : GoodIn wsX4_readPlace (wsV RX4 65 RX4 yX4_takeNumber wsX4_takeNumber) := goodIn_app (goodIn_of _ (by decide +kernel)) ggX4_readPlace_X4_takeNumber
theorem dX4_readPlace_0 : decode cX4_readPlace 0 = .ok (.aload_n 0, 1) := by decide +kernel
theorem dX4_readPlace_1 : decode cX4_readPlace 1 = .ok (.bipush 45, 2) := by decide +kernel
theorem dX4_readPlace_3 : decode cX4_readPlace 3 = .ok (.invokevirtual 32, 3) := by decide +kernel
theorem dX4_readPlace_6 : decode cX4_readPlace 6 = .ok (.istore_n 1, 1) := by decide +kernel
theorem dX4_readPlace_7 : decode cX4_readPlace 7 = .ok (.aload_n 0, 1) := by decide +kernel
theorem dX4_readPlace_8 : decode cX4_readPlace 8 = .ok (.invokevirtual 65, 3) := by decide +kernel
theorem dX4_readPlace_11 : decode cX4_readPlace 11 = .ok (.istore_n 2, 1) := by decide +kernel
theorem dX4_readPlace_12 : decode cX4_readPlace 12 = .ok (.aload_n 0, 1) := by decide +kernel
theorem dX4_readPlace_13 : decode cX4_readPlace 13 = .ok (.iload_n 1, 1) := by decide +kernel
theorem dX4_readPlace_14 : decode cX4_readPlace 14 = .ok (.ifCond .eq 8, 3) := by decide +kernel
theorem dX4_readPlace_17 : decode cX4_readPlace 17 = .ok (.iload_n 2, 1) := by decide +kernel
theorem dX4_readPlace_18 : decode cX4_readPlace 18 = .ok (.ineg, 1) := by decide +kernel
theorem dX4_readPlace_19 : decode cX4_readPlace 19 = .ok (.goto 4, 3) := by decide +kernel
theorem dX4_readPlace_22 : decode cX4_readPlace 22 = .ok (.iload_n 2, 1) := by decide +kernel
theorem dX4_readPlace_23 : decode cX4_readPlace 23 = .ok (.putfield 62, 3) := by decide +kernel
theorem dX4_readPlace_26 : decode cX4_readPlace 26 = .ok (.iload_n 2, 1) := by decide +kernel
theorem dX4_readPlace_27 : decode cX4_readPlace 27 = .ok (.ifCond .lt 7, 3) := by decide +kernel
theorem dX4_readPlace_30 : decode cX4_readPlace 30 = .ok (.iconst 1, 1) := by decide +kernel
theorem dX4_readPlace_31 : decode cX4_readPlace 31 = .ok (.goto 4, 3) := by decide +kernel
theorem dX4_readPlace_34 : decode cX4_readPlace 34 = .ok (.iconst 0, 1) := by decide +kernel
theorem dX4_readPlace_35 : decode cX4_readPlace 35 = .ok (.ireturn, 1) := by decide +kernel
set_option maxRecDepth 20000 in
theorem ggX4_takeDigit_X2_signAt : GoodIn wsX4_takeDigit wsX2_signAt := goodIn_r _ [7, 8, 9, 16, 17] (by decide +kernel) (by decide +kernel)
set_option maxRecDepth 20000 in
theorem gX4_takeDigit_X2_signAt : GoodIn wsX4_takeDigit (wsV RX4 36 RX2 yX2_signAt wsX2_signAt) := goodIn_app (goodIn_of _ (by decide +kernel)) ggX4_takeDigit_X2_signAt
theorem dX4_takeDigit_0 : decode cX4_takeDigit 0 = .ok (.aload_n 0, 1) := by decide +kernel
theorem dX4_takeDigit_1 : decode cX4_takeDigit 1 = .ok (.getfield 12, 3) := by decide +kernel
theorem dX4_takeDigit_4 : decode cX4_takeDigit 4 = .ok (.aload_n 0, 1) := by decide +kernel
theorem dX4_takeDigit_5 : decode cX4_takeDigit 5 = .ok (.getfield 18, 3) := by decide +kernel
theorem dX4_takeDigit_8 : decode cX4_takeDigit 8 = .ok (.invokevirtual 36, 3) := by decide +kernel
theorem dX4_takeDigit_11 : decode cX4_takeDigit 11 = .ok (.istore_n 1, 1) := by decide +kernel
theorem dX4_takeDigit_12 : decode cX4_takeDigit 12 = .ok (.iload_n 1, 1) := by decide +kernel
theorem dX4_takeDigit_13 : decode cX4_takeDigit 13 = .ok (.bipush 48, 2) := by decide +kernel
theorem dX4_takeDigit_15 : decode cX4_takeDigit 15 = .ok (.if_icmp .lt 9, 3) := by decide +kernel
theorem dX4_takeDigit_18 : decode cX4_takeDigit 18 = .ok (.iload_n 1, 1) := by decide +kernel
theorem dX4_takeDigit_19 : decode cX4_takeDigit 19 = .ok (.bipush 57, 2) := by decide +kernel
theorem dX4_takeDigit_21 : decode cX4_takeDigit 21 = .ok (.if_icmp .le 5, 3) := by decide +kernel
theorem dX4_takeDigit_24 : decode cX4_takeDigit 24 = .ok (.iconst (-1), 1) := by decide +kernel
theorem dX4_takeDigit_25 : decode cX4_takeDigit 25 = .ok (.ireturn, 1) := by decide +kernel
theorem dX4_takeDigit_26 : decode cX4_takeDigit 26 = .ok (.aload_n 0, 1) := by decide +kernel
theorem dX4_takeDigit_27 : decode cX4_takeDigit 27 = .ok (.dup, 1) := by decide +kernel
theorem dX4_takeDigit_28 : decode cX4_takeDigit 28 = .ok (.getfield 18, 3) := by decide +kernel
theorem dX4_takeDigit_31 : decode cX4_takeDigit 31 = .ok (.iconst 1, 1) := by decide +kernel
theorem dX4_takeDigit_32 : decode cX4_takeDigit 32 = .ok (.iadd, 1) := by decide +kernel
theorem dX4_takeDigit_33 : decode cX4_takeDigit 33 = .ok (.putfield 18, 3) := by decide +kernel
theorem dX4_takeDigit_36 : decode cX4_takeDigit 36 = .ok (.iload_n 1, 1) := by decide +kernel
theorem dX4_takeDigit_37 : decode cX4_takeDigit 37 = .ok (.bipush 48, 2) := by decide +kernel
theorem dX4_takeDigit_39 : decode cX4_takeDigit 39 = .ok (.isub, 1) := by decide +kernel
theorem dX4_takeDigit_40 : decode cX4_takeDigit 40 = .ok (.ireturn, 1) := by decide +kernel
set_option maxRecDepth 20000 in
theorem ggX4_takeNumber_X4_takeDigit : GoodIn wsX4_takeNumber wsX4_takeDigit := goodIn_r _ [5, 6, 7, 8, 9, 10, 11, 12, 13, 14, 15, 16, 17, 18, 19, 20, 21, 22] (by decide +kernel) (by decide +kernel)
set_option maxRecDepth 20000 in
theorem gX4_takeNumber_X4_takeDigit : GoodIn wsX4_takeNumber (wsV RX4 55 RX4 yX4_takeDigit wsX4_takeDigit) := goodIn_app (goodIn_of _ (by decide +kernel)) ggX4_takeNumber_X4_takeDigit
theorem dX4_takeNumber_0 : decode cX4_takeNumber 0 = .ok (.aload_n 0, 1) := by decide +kernel
theorem dX4_takeNumber_1 : decode cX4_takeNumber 1 = .ok (.invokevirtual 55, 3) := by decide +kernel
theorem dX4_takeNumber_4 : decode cX4_takeNumber 4 = .ok (.istore_n 1, 1) := by decide +kernel
theorem dX4_takeNumber_5 : decode cX4_takeNumber 5 = .ok (.iload_n 1, 1) := by decide +kernel
theorem dX4_takeNumber_6 : decode cX4_takeNumber 6 = .ok (.iconst 1, 1) := by decide +kernel
theorem dX4_takeNumber_7 : decode cX4_takeNumber 7 = .ok (.if_icmp .ge 5, 3) := by decide +kernel
theorem dX4_takeNumber_10 : decode cX4_takeNumber 10 = .ok (.iload_n 1, 1) := by decide +kernel
theorem dX4_takeNumber_11 : decode cX4_takeNumber 11 = .ok (.ireturn, 1) := by decide +kernel
theorem dX4_takeNumber_12 : decode cX4_takeNumber 12 = .ok (.iconst 1, 1) := by decide +kernel
theorem dX4_takeNumber_13 : decode cX4_takeNumber 13 = .ok (.istore_n 2, 1) := by decide +kernel
theorem dX4_takeNumber_14 : decode cX4_takeNumber 14 = .ok (.iload_n 2, 1) := by decide +kernel
theorem dX4_takeNumber_15 : decode cX4_takeNumber 15 = .ok (.iconst 4, 1) := by decide +kernel
theorem dX4_takeNumber_16 : decode cX4_takeNumber 16 = .ok (.if_icmp .ge 28, 3) := by decide +kernel
theorem dX4_takeNumber_19 : decode cX4_takeNumber 19 = .ok (.aload_n 0, 1) := by decide +kernel
theorem dX4_takeNumber_20 : decode cX4_takeNumber 20 = .ok (.invokevirtual 55, 3) := by decide +kernel
theorem dX4_takeNumber_23 : decode cX4_takeNumber 23 = .ok (.istore_n 3, 1) := by decide +kernel
theorem dX4_takeNumber_24 : decode cX4_takeNumber 24 = .ok (.iload_n 3, 1) := by decide +kernel
theorem dX4_takeNumber_25 : decode cX4_takeNumber 25 = .ok (.ifCond .ge 6, 3) := by decide +kernel
theorem dX4_takeNumber_28 : decode cX4_takeNumber 28 = .ok (.goto 16, 3) := by decide +kernel
theorem dX4_takeNumber_31 : decode cX4_takeNumber 31 = .ok (.iload_n 1, 1) := by decide +kernel
theorem dX4_takeNumber_32 : decode cX4_takeNumber 32 = .ok (.bipush 10, 2) := by decide +kernel
theorem dX4_takeNumber_34 : decode cX4_takeNumber 34 = .ok (.imul, 1) := by decide +kernel
theorem dX4_takeNumber_35 : decode cX4_takeNumber 35 = .ok (.iload_n 3, 1) := by decide +kernel
theorem dX4_takeNumber_36 : decode cX4_takeNumber 36 = .ok (.iadd, 1) := by decide +kernel
theorem dX4_takeNumber_37 : decode cX4_takeNumber 37 = .ok (.istore_n 1, 1) := by decide +kernel
theorem dX4_takeNumber_38 : decode cX4_takeNumber 38 = .ok (.iinc 2 1, 3) := by decide +kernel
theorem dX4_takeNumber_41 : decode cX4_takeNumber 41 = .ok (.goto (-27), 3) := by decide +kernel
theorem dX4_takeNumber_44 : decode cX4_takeNumber 44 = .ok (.iload_n 1, 1) := by decide +kernel
theorem dX4_takeNumber_45 : decode cX4_takeNumber 45 = .ok (.ireturn, 1) := by decide +kernel
theorem dX5_init_0 : decode cX5_init 0 = .ok (.aload_n 0, 1) := by decide +kernel
theorem dX5_init_1 : decode cX5_init 1 = .ok (.invokespecial 3, 3) := by decide +kernel
theorem dX5_init_4 : decode cX5_init 4 = .ok (.aload_n 0, 1) := by decide +kernel
theorem dX5_init_5 : decode cX5_init 5 = .ok (.iconst 3, 1) := by decide +kernel
theorem dX5_init_6 : decode cX5_init 6 = .ok (.newarray .int, 2) := by decide +kernel
theorem dX5_init_8 : decode cX5_init 8 = .ok (.putfield 9, 3) := by decide +kernel
theorem dX5_init_11 : decode cX5_init 11 = .ok (.return_, 1) := by decide +kernel
theorem dX5_take_0 : decode cX5_take 0 = .ok (.aload_n 0, 1) := by decide +kernel
theorem dX5_take_1 : decode cX5_take 1 = .ok (.aload_n 1, 1) := by decide +kernel
theorem dX5_take_2 : decode cX5_take 2 = .ok (.getfield 15, 3) := by decide +kernel
theorem dX5_take_5 : decode cX5_take 5 = .ok (.putfield 15, 3) := by decide +kernel
theorem dX5_take_8 : decode cX5_take 8 = .ok (.aload_n 0, 1) := by decide +kernel
theorem dX5_take_9 : decode cX5_take 9 = .ok (.aload_n 1, 1) := by decide +kernel
theorem dX5_take_10 : decode cX5_take 10 = .ok (.getfield 19, 3) := by decide +kernel
theorem dX5_take_13 : decode cX5_take 13 = .ok (.putfield 19, 3) := by decide +kernel
theorem dX5_take_16 : decode cX5_take 16 = .ok (.aload_n 0, 1) := by decide +kernel
theorem dX5_take_17 : decode cX5_take 17 = .ok (.aload_n 1, 1) := by decide +kernel
theorem dX5_take_18 : decode cX5_take 18 = .ok (.getfield 22, 3) := by decide +kernel
theorem dX5_take_21 : decode cX5_take 21 = .ok (.putfield 22, 3) := by decide +kernel
theorem dX5_take_24 : decode cX5_take 24 = .ok (.aload_n 0, 1) := by decide +kernel
theorem dX5_take_25 : decode cX5_take 25 = .ok (.aload_n 1, 1) := by decide +kernel
theorem dX5_take_26 : decode cX5_take 26 = .ok (.getfield 25, 3) := by decide +kernel
theorem dX5_take_29 : decode cX5_take 29 = .ok (.putfield 25, 3) := by decide +kernel
theorem dX5_take_32 : decode cX5_take 32 = .ok (.aload_n 0, 1) := by decide +kernel
theorem dX5_take_33 : decode cX5_take 33 = .ok (.aload_n 1, 1) := by decide +kernel
theorem dX5_take_34 : decode cX5_take 34 = .ok (.getfield 28, 3) := by decide +kernel
theorem dX5_take_37 : decode cX5_take 37 = .ok (.putfield 28, 3) := by decide +kernel
theorem dX5_take_40 : decode cX5_take 40 = .ok (.aload_n 0, 1) := by decide +kernel
theorem dX5_take_41 : decode cX5_take 41 = .ok (.aload_n 1, 1) := by decide +kernel
theorem dX5_take_42 : decode cX5_take 42 = .ok (.getfield 31, 3) := by decide +kernel
theorem dX5_take_45 : decode cX5_take 45 = .ok (.putfield 31, 3) := by decide +kernel
theorem dX5_take_48 : decode cX5_take 48 = .ok (.aload_n 0, 1) := by decide +kernel
theorem dX5_take_49 : decode cX5_take 49 = .ok (.aload_n 1, 1) := by decide +kernel
theorem dX5_take_50 : decode cX5_take 50 = .ok (.getfield 34, 3) := by decide +kernel
theorem dX5_take_53 : decode cX5_take 53 = .ok (.putfield 34, 3) := by decide +kernel
theorem dX5_take_56 : decode cX5_take 56 = .ok (.aload_n 0, 1) := by decide +kernel
theorem dX5_take_57 : decode cX5_take 57 = .ok (.aload_n 1, 1) := by decide +kernel
theorem dX5_take_58 : decode cX5_take 58 = .ok (.getfield 37, 3) := by decide +kernel
theorem dX5_take_61 : decode cX5_take 61 = .ok (.putfield 37, 3) := by decide +kernel
theorem dX5_take_64 : decode cX5_take 64 = .ok (.aload_n 0, 1) := by decide +kernel
theorem dX5_take_65 : decode cX5_take 65 = .ok (.aload_n 1, 1) := by decide +kernel
theorem dX5_take_66 : decode cX5_take 66 = .ok (.getfield 40, 3) := by decide +kernel
theorem dX5_take_69 : decode cX5_take 69 = .ok (.putfield 40, 3) := by decide +kernel
theorem dX5_take_72 : decode cX5_take 72 = .ok (.aload_n 0, 1) := by decide +kernel
theorem dX5_take_73 : decode cX5_take 73 = .ok (.aload_n 1, 1) := by decide +kernel
theorem dX5_take_74 : decode cX5_take 74 = .ok (.getfield 43, 3) := by decide +kernel
theorem dX5_take_77 : decode cX5_take 77 = .ok (.putfield 43, 3) := by decide +kernel
theorem dX5_take_80 : decode cX5_take 80 = .ok (.aload_n 0, 1) := by decide +kernel
theorem dX5_take_81 : decode cX5_take 81 = .ok (.aload_n 1, 1) := by decide +kernel
theorem dX5_take_82 : decode cX5_take 82 = .ok (.getfield 46, 3) := by decide +kernel
theorem dX5_take_85 : decode cX5_take 85 = .ok (.putfield 46, 3) := by decide +kernel
theorem dX5_take_88 : decode cX5_take 88 = .ok (.iconst 0, 1) := by decide +kernel
theorem dX5_take_89 : decode cX5_take 89 = .ok (.istore_n 2, 1) := by decide +kernel
theorem dX5_take_90 : decode cX5_take 90 = .ok (.iload_n 2, 1) := by decide +kernel
theorem dX5_take_91 : decode cX5_take 91 = .ok (.iconst 3, 1) := by decide +kernel
theorem dX5_take_92 : decode cX5_take 92 = .ok (.if_icmp .ge 21, 3) := by decide +kernel
theorem dX5_take_95 : decode cX5_take 95 = .ok (.aload_n 0, 1) := by decide +kernel
theorem dX5_take_96 : decode cX5_take 96 = .ok (.getfield 9, 3) := by decide +kernel
theorem dX5_take_99 : decode cX5_take 99 = .ok (.iload_n 2, 1) := by decide +kernel
theorem dX5_take_100 : decode cX5_take 100 = .ok (.aload_n 1, 1) := by decide +kernel
theorem dX5_take_101 : decode cX5_take 101 = .ok (.getfield 9, 3) := by decide +kernel
theorem dX5_take_104 : decode cX5_take 104 = .ok (.iload_n 2, 1) := by decide +kernel
theorem dX5_take_105 : decode cX5_take 105 = .ok (.iaload, 1) := by decide +kernel
theorem dX5_take_106 : decode cX5_take 106 = .ok (.iastore, 1) := by decide +kernel
theorem dX5_take_107 : decode cX5_take 107 = .ok (.iinc 2 1, 3) := by decide +kernel
theorem dX5_take_110 : decode cX5_take 110 = .ok (.goto (-20), 3) := by decide +kernel
theorem dX5_take_113 : decode cX5_take 113 = .ok (.return_, 1) := by decide +kernel
theorem dX5_moves_0 : decode cX5_moves 0 = .ok (.aload_n 0, 1) := by decide +kernel
theorem dX5_moves_1 : decode cX5_moves 1 = .ok (.getfield 31, 3) := by decide +kernel
theorem dX5_moves_4 : decode cX5_moves 4 = .ok (.ifCond .le 7, 3) := by decide +kernel
theorem dX5_moves_7 : decode cX5_moves 7 = .ok (.iconst 1, 1) := by decide +kernel
theorem dX5_moves_8 : decode cX5_moves 8 = .ok (.goto 4, 3) := by decide +kernel
theorem dX5_moves_11 : decode cX5_moves 11 = .ok (.iconst 0, 1) := by decide +kernel
theorem dX5_moves_12 : decode cX5_moves 12 = .ok (.ireturn, 1) := by decide +kernel
theorem dX5_saysAfter_0 : decode cX5_saysAfter 0 = .ok (.aload_n 0, 1) := by decide +kernel
theorem dX5_saysAfter_1 : decode cX5_saysAfter 1 = .ok (.getfield 22, 3) := by decide +kernel
theorem dX5_saysAfter_4 : decode cX5_saysAfter 4 = .ok (.aload_n 0, 1) := by decide +kernel
theorem dX5_saysAfter_5 : decode cX5_saysAfter 5 = .ok (.getfield 28, 3) := by decide +kernel
theorem dX5_saysAfter_8 : decode cX5_saysAfter 8 = .ok (.aload_n 0, 1) := by decide +kernel
theorem dX5_saysAfter_9 : decode cX5_saysAfter 9 = .ok (.getfield 15, 3) := by decide +kernel
theorem dX5_saysAfter_12 : decode cX5_saysAfter 12 = .ok (.imul, 1) := by decide +kernel
theorem dX5_saysAfter_13 : decode cX5_saysAfter 13 = .ok (.iload_n 1, 1) := by decide +kernel
theorem dX5_saysAfter_14 : decode cX5_saysAfter 14 = .ok (.imul, 1) := by decide +kernel
theorem dX5_saysAfter_15 : decode cX5_saysAfter 15 = .ok (.iadd, 1) := by decide +kernel
theorem dX5_saysAfter_16 : decode cX5_saysAfter 16 = .ok (.ireturn, 1) := by decide +kernel
theorem dX5_leftIfHalted_0 : decode cX5_leftIfHalted 0 = .ok (.aload_n 0, 1) := by decide +kernel
theorem dX5_leftIfHalted_1 : decode cX5_leftIfHalted 1 = .ok (.getfield 31, 3) := by decide +kernel
theorem dX5_leftIfHalted_4 : decode cX5_leftIfHalted 4 = .ok (.aload_n 0, 1) := by decide +kernel
theorem dX5_leftIfHalted_5 : decode cX5_leftIfHalted 5 = .ok (.getfield 34, 3) := by decide +kernel
theorem dX5_leftIfHalted_8 : decode cX5_leftIfHalted 8 = .ok (.invokestatic 49, 3) := by decide +kernel
theorem dX5_leftIfHalted_11 : decode cX5_leftIfHalted 11 = .ok (.ireturn, 1) := by decide +kernel
set_option maxRecDepth 20000 in
theorem ggX5_begin_X3_intervalOf : GoodIn wsX5_begin wsX3_intervalOf := goodIn_r _ [15, 16, 17, 18, 31, 32, 33, 34, 35] (by decide +kernel) (by decide +kernel)
set_option maxRecDepth 20000 in
theorem gX5_begin_X3_intervalOf : GoodIn wsX5_begin (wsV RX5 59 RX3 yX3_intervalOf wsX3_intervalOf) := goodIn_app (goodIn_of _ (by decide +kernel)) ggX5_begin_X3_intervalOf
theorem dX5_begin_0 : decode cX5_begin 0 = .ok (.iload_n 1, 1) := by decide +kernel
theorem dX5_begin_1 : decode cX5_begin 1 = .ok (.aload_n 0, 1) := by decide +kernel
theorem dX5_begin_2 : decode cX5_begin 2 = .ok (.getfield 22, 3) := by decide +kernel
theorem dX5_begin_5 : decode cX5_begin 5 = .ok (.isub, 1) := by decide +kernel
theorem dX5_begin_6 : decode cX5_begin 6 = .ok (.invokestatic 55, 3) := by decide +kernel
theorem dX5_begin_9 : decode cX5_begin 9 = .ok (.istore 4, 2) := by decide +kernel
theorem dX5_begin_11 : decode cX5_begin 11 = .ok (.aload_n 0, 1) := by decide +kernel
theorem dX5_begin_12 : decode cX5_begin 12 = .ok (.iload_n 1, 1) := by decide +kernel
theorem dX5_begin_13 : decode cX5_begin 13 = .ok (.aload_n 0, 1) := by decide +kernel
theorem dX5_begin_14 : decode cX5_begin 14 = .ok (.getfield 22, 3) := by decide +kernel
theorem dX5_begin_17 : decode cX5_begin 17 = .ok (.if_icmp .ge 7, 3) := by decide +kernel
theorem dX5_begin_20 : decode cX5_begin 20 = .ok (.iconst (-1), 1) := by decide +kernel
theorem dX5_begin_21 : decode cX5_begin 21 = .ok (.goto 4, 3) := by decide +kernel
theorem dX5_begin_24 : decode cX5_begin 24 = .ok (.iconst 1, 1) := by decide +kernel
theorem dX5_begin_25 : decode cX5_begin 25 = .ok (.putfield 28, 3) := by decide +kernel
theorem dX5_begin_28 : decode cX5_begin 28 = .ok (.aload_n 0, 1) := by decide +kernel
theorem dX5_begin_29 : decode cX5_begin 29 = .ok (.aload_n 0, 1) := by decide +kernel
theorem dX5_begin_30 : decode cX5_begin 30 = .ok (.getfield 15, 3) := by decide +kernel
theorem dX5_begin_33 : decode cX5_begin 33 = .ok (.iconst 1, 1) := by decide +kernel
theorem dX5_begin_34 : decode cX5_begin 34 = .ok (.if_icmp .ge 7, 3) := by decide +kernel
theorem dX5_begin_37 : decode cX5_begin 37 = .ok (.iconst 0, 1) := by decide +kernel
theorem dX5_begin_38 : decode cX5_begin 38 = .ok (.goto 10, 3) := by decide +kernel
theorem dX5_begin_41 : decode cX5_begin 41 = .ok (.iload 4, 2) := by decide +kernel
theorem dX5_begin_43 : decode cX5_begin 43 = .ok (.aload_n 0, 1) := by decide +kernel
theorem dX5_begin_44 : decode cX5_begin 44 = .ok (.getfield 15, 3) := by decide +kernel
theorem dX5_begin_47 : decode cX5_begin 47 = .ok (.idiv, 1) := by decide +kernel
theorem dX5_begin_48 : decode cX5_begin 48 = .ok (.putfield 31, 3) := by decide +kernel
theorem dX5_begin_51 : decode cX5_begin 51 = .ok (.aload_n 0, 1) := by decide +kernel
theorem dX5_begin_52 : decode cX5_begin 52 = .ok (.iconst 0, 1) := by decide +kernel
theorem dX5_begin_53 : decode cX5_begin 53 = .ok (.putfield 34, 3) := by decide +kernel
theorem dX5_begin_56 : decode cX5_begin 56 = .ok (.aload_n 0, 1) := by decide +kernel
theorem dX5_begin_57 : decode cX5_begin 57 = .ok (.iload_n 2, 1) := by decide +kernel
theorem dX5_begin_58 : decode cX5_begin 58 = .ok (.aload_n 3, 1) := by decide +kernel
theorem dX5_begin_59 : decode cX5_begin 59 = .ok (.iconst 0, 1) := by decide +kernel
theorem dX5_begin_60 : decode cX5_begin 60 = .ok (.invokevirtual 59, 3) := by decide +kernel
theorem dX5_begin_63 : decode cX5_begin 63 = .ok (.iadd, 1) := by decide +kernel
theorem dX5_begin_64 : decode cX5_begin 64 = .ok (.putfield 37, 3) := by decide +kernel
theorem dX5_begin_67 : decode cX5_begin 67 = .ok (.return_, 1) := by decide +kernel
theorem dX5_canWait_0 : decode cX5_canWait 0 = .ok (.aload_n 0, 1) := by decide +kernel
theorem dX5_canWait_1 : decode cX5_canWait 1 = .ok (.getfield 46, 3) := by decide +kernel
theorem dX5_canWait_4 : decode cX5_canWait 4 = .ok (.ifCond .lt 15, 3) := by decide +kernel
theorem dX5_canWait_7 : decode cX5_canWait 7 = .ok (.aload_n 0, 1) := by decide +kernel
theorem dX5_canWait_8 : decode cX5_canWait 8 = .ok (.getfield 46, 3) := by decide +kernel
theorem dX5_canWait_11 : decode cX5_canWait 11 = .ok (.iconst 3, 1) := by decide +kernel
theorem dX5_canWait_12 : decode cX5_canWait 12 = .ok (.if_icmp .ge 7, 3) := by decide +kernel
theorem dX5_canWait_15 : decode cX5_canWait 15 = .ok (.iconst 1, 1) := by decide +kernel
theorem dX5_canWait_16 : decode cX5_canWait 16 = .ok (.goto 4, 3) := by decide +kernel
theorem dX5_canWait_19 : decode cX5_canWait 19 = .ok (.iconst 0, 1) := by decide +kernel
theorem dX5_canWait_20 : decode cX5_canWait 20 = .ok (.ireturn, 1) := by decide +kernel
set_option maxRecDepth 20000 in
theorem ggX5_beginOrWait_X5_moves : GoodIn wsX5_beginOrWait wsX5_moves := goodIn_r _ [7, 8, 34, 35, 36, 37, 38, 39, 40, 41, 42, 43, 44, 45] (by decide +kernel) (by decide +kernel)
set_option maxRecDepth 20000 in
theorem gX5_beginOrWait_X5_moves : GoodIn wsX5_beginOrWait (wsV RX5 64 RX5 yX5_moves wsX5_moves) := goodIn_app (goodIn_of _ (by decide +kernel)) ggX5_beginOrWait_X5_moves
set_option maxRecDepth 20000 in
theorem ggX5_beginOrWait_X5_begin : GoodIn wsX5_beginOrWait wsX5_begin := goodIn_r _ [12, 13, 14, 15, 16, 17, 18, 19, 8, 20, 21, 22, 23, 24, 25, 26, 27, 28, 29, 34, 35, 36, 37, 38, 39, 40, 41, 42, 43, 44, 45, 46, 47, 48, 49, 50] (by decide +kernel) (by decide +kernel)
set_option maxRecDepth 20000 in
theorem gX5_beginOrWait_X5_begin : GoodIn wsX5_beginOrWait (wsV RX5 68 RX5 yX5_begin wsX5_begin) := goodIn_app (goodIn_of _ (by decide +kernel)) ggX5_beginOrWait_X5_begin
set_option maxRecDepth 20000 in
theorem ggX5_beginOrWait_X5_canWait : GoodIn wsX5_beginOrWait wsX5_canWait := goodIn_r _ [33, 2, 34, 35, 36, 37, 38, 39, 40, 41, 42, 43, 44, 45] (by decide +kernel) (by decide +kernel)
set_option maxRecDepth 20000 in
theorem gX5_beginOrWait_X5_canWait : GoodIn wsX5_beginOrWait (wsV RX5 72 RX5 yX5_canWait wsX5_canWait) := goodIn_app (goodIn_of _ (by decide +kernel)) ggX5_beginOrWait_X5_canWait
theorem dX5_beginOrWait_0 : decode cX5_beginOrWait 0 = .ok (.aload_n 0, 1) := by decide +kernel
theorem dX5_beginOrWait_1 : decode cX5_beginOrWait 1 = .ok (.invokevirtual 64, 3) := by decide +kernel
theorem dX5_beginOrWait_4 : decode cX5_beginOrWait 4 = .ok (.ifCond .ne 13, 3) := by decide +kernel
theorem dX5_beginOrWait_7 : decode cX5_beginOrWait 7 = .ok (.aload_n 0, 1) := by decide +kernel
theorem dX5_beginOrWait_8 : decode cX5_beginOrWait 8 = .ok (.iload_n 1, 1) := by decide +kernel
theorem dX5_beginOrWait_9 : decode cX5_beginOrWait 9 = .ok (.iload_n 2, 1) := by decide +kernel
theorem dX5_beginOrWait_10 : decode cX5_beginOrWait 10 = .ok (.aload_n 3, 1) := by decide +kernel
theorem dX5_beginOrWait_11 : decode cX5_beginOrWait 11 = .ok (.invokevirtual 68, 3) := by decide +kernel
theorem dX5_beginOrWait_14 : decode cX5_beginOrWait 14 = .ok (.goto 30, 3) := by decide +kernel
theorem dX5_beginOrWait_17 : decode cX5_beginOrWait 17 = .ok (.aload_n 0, 1) := by decide +kernel
theorem dX5_beginOrWait_18 : decode cX5_beginOrWait 18 = .ok (.invokevirtual 72, 3) := by decide +kernel
theorem dX5_beginOrWait_21 : decode cX5_beginOrWait 21 = .ok (.ifCond .eq 23, 3) := by decide +kernel
theorem dX5_beginOrWait_24 : decode cX5_beginOrWait 24 = .ok (.aload_n 0, 1) := by decide +kernel
theorem dX5_beginOrWait_25 : decode cX5_beginOrWait 25 = .ok (.getfield 9, 3) := by decide +kernel
theorem dX5_beginOrWait_28 : decode cX5_beginOrWait 28 = .ok (.aload_n 0, 1) := by decide +kernel
theorem dX5_beginOrWait_29 : decode cX5_beginOrWait 29 = .ok (.getfield 46, 3) := by decide +kernel
theorem dX5_beginOrWait_32 : decode cX5_beginOrWait 32 = .ok (.iload_n 1, 1) := by decide +kernel
theorem dX5_beginOrWait_33 : decode cX5_beginOrWait 33 = .ok (.iastore, 1) := by decide +kernel
theorem dX5_beginOrWait_34 : decode cX5_beginOrWait 34 = .ok (.aload_n 0, 1) := by decide +kernel
theorem dX5_beginOrWait_35 : decode cX5_beginOrWait 35 = .ok (.dup, 1) := by decide +kernel
theorem dX5_beginOrWait_36 : decode cX5_beginOrWait 36 = .ok (.getfield 46, 3) := by decide +kernel
theorem dX5_beginOrWait_39 : decode cX5_beginOrWait 39 = .ok (.iconst 1, 1) := by decide +kernel
theorem dX5_beginOrWait_40 : decode cX5_beginOrWait 40 = .ok (.iadd, 1) := by decide +kernel
theorem dX5_beginOrWait_41 : decode cX5_beginOrWait 41 = .ok (.putfield 46, 3) := by decide +kernel
theorem dX5_beginOrWait_44 : decode cX5_beginOrWait 44 = .ok (.return_, 1) := by decide +kernel
set_option maxRecDepth 20000 in
theorem ggX5_beginWaiting_X5_moves : GoodIn wsX5_beginWaiting wsX5_moves := goodIn_r _ [7, 8, 30, 31, 32, 33, 34, 35, 36, 37, 38, 39, 40, 41] (by decide +kernel) (by decide +kernel)
set_option maxRecDepth 20000 in
theorem gX5_beginWaiting_X5_moves : GoodIn wsX5_beginWaiting (wsV RX5 64 RX5 yX5_moves wsX5_moves) := goodIn_app (goodIn_of _ (by decide +kernel)) ggX5_beginWaiting_X5_moves
set_option maxRecDepth 20000 in
theorem ggX5_beginWaiting_X5_begin : GoodIn wsX5_beginWaiting wsX5_begin := goodIn_r _ [12, 13, 14, 15, 16, 17, 18, 19, 8, 20, 21, 22, 23, 24, 25, 26, 27, 28, 29, 30, 31, 32, 33, 34, 35, 36, 37, 38, 39, 40, 41, 42, 43, 44, 45, 46] (by decide +kernel) (by decide +kernel)
set_option maxRecDepth 20000 in
theorem gX5_beginWaiting_X5_begin : GoodIn wsX5_beginWaiting (wsV RX5 68 RX5 yX5_begin wsX5_begin) := goodIn_app (goodIn_of _ (by decide +kernel)) ggX5_beginWaiting_X5_begin
theorem dX5_beginWaiting_0 : decode cX5_beginWaiting 0 = .ok (.iconst 0, 1) := by decide +kernel
theorem dX5_beginWaiting_1 : decode cX5_beginWaiting 1 = .ok (.istore_n 3, 1) := by decide +kernel
theorem dX5_beginWaiting_2 : decode cX5_beginWaiting 2 = .ok (.iload_n 3, 1) := by decide +kernel
theorem dX5_beginWaiting_3 : decode cX5_beginWaiting 3 = .ok (.iconst 3, 1) := by decide +kernel
theorem dX5_beginWaiting_4 : decode cX5_beginWaiting 4 = .ok (.if_icmp .ge 80, 3) := by decide +kernel
theorem dX5_beginWaiting_7 : decode cX5_beginWaiting 7 = .ok (.aload_n 0, 1) := by decide +kernel
theorem dX5_beginWaiting_8 : decode cX5_beginWaiting 8 = .ok (.getfield 46, 3) := by decide +kernel
theorem dX5_beginWaiting_11 : decode cX5_beginWaiting 11 = .ok (.ifCond .le 73, 3) := by decide +kernel
theorem dX5_beginWaiting_14 : decode cX5_beginWaiting 14 = .ok (.aload_n 0, 1) := by decide +kernel
theorem dX5_beginWaiting_15 : decode cX5_beginWaiting 15 = .ok (.invokevirtual 64, 3) := by decide +kernel
theorem dX5_beginWaiting_18 : decode cX5_beginWaiting 18 = .ok (.ifCond .ne 66, 3) := by decide +kernel
theorem dX5_beginWaiting_21 : decode cX5_beginWaiting 21 = .ok (.aload_n 0, 1) := by decide +kernel
theorem dX5_beginWaiting_22 : decode cX5_beginWaiting 22 = .ok (.getfield 9, 3) := by decide +kernel
theorem dX5_beginWaiting_25 : decode cX5_beginWaiting 25 = .ok (.iconst 0, 1) := by decide +kernel
theorem dX5_beginWaiting_26 : decode cX5_beginWaiting 26 = .ok (.iaload, 1) := by decide +kernel
theorem dX5_beginWaiting_27 : decode cX5_beginWaiting 27 = .ok (.istore 4, 2) := by decide +kernel
theorem dX5_beginWaiting_29 : decode cX5_beginWaiting 29 = .ok (.iconst 1, 1) := by decide +kernel
theorem dX5_beginWaiting_30 : decode cX5_beginWaiting 30 = .ok (.istore 5, 2) := by decide +kernel
theorem dX5_beginWaiting_32 : decode cX5_beginWaiting 32 = .ok (.iload 5, 2) := by decide +kernel
theorem dX5_beginWaiting_34 : decode cX5_beginWaiting 34 = .ok (.iconst 3, 1) := by decide +kernel
theorem dX5_beginWaiting_35 : decode cX5_beginWaiting 35 = .ok (.if_icmp .ge 25, 3) := by decide +kernel
theorem dX5_beginWaiting_38 : decode cX5_beginWaiting 38 = .ok (.aload_n 0, 1) := by decide +kernel
theorem dX5_beginWaiting_39 : decode cX5_beginWaiting 39 = .ok (.getfield 9, 3) := by decide +kernel
theorem dX5_beginWaiting_42 : decode cX5_beginWaiting 42 = .ok (.iload 5, 2) := by decide +kernel
theorem dX5_beginWaiting_44 : decode cX5_beginWaiting 44 = .ok (.iconst 1, 1) := by decide +kernel
theorem dX5_beginWaiting_45 : decode cX5_beginWaiting 45 = .ok (.isub, 1) := by decide +kernel
theorem dX5_beginWaiting_46 : decode cX5_beginWaiting 46 = .ok (.aload_n 0, 1) := by decide +kernel
theorem dX5_beginWaiting_47 : decode cX5_beginWaiting 47 = .ok (.getfield 9, 3) := by decide +kernel
theorem dX5_beginWaiting_50 : decode cX5_beginWaiting 50 = .ok (.iload 5, 2) := by decide +kernel
theorem dX5_beginWaiting_52 : decode cX5_beginWaiting 52 = .ok (.iaload, 1) := by decide +kernel
theorem dX5_beginWaiting_53 : decode cX5_beginWaiting 53 = .ok (.iastore, 1) := by decide +kernel
theorem dX5_beginWaiting_54 : decode cX5_beginWaiting 54 = .ok (.iinc 5 1, 3) := by decide +kernel
theorem dX5_beginWaiting_57 : decode cX5_beginWaiting 57 = .ok (.goto (-25), 3) := by decide +kernel
theorem dX5_beginWaiting_60 : decode cX5_beginWaiting 60 = .ok (.aload_n 0, 1) := by decide +kernel
theorem dX5_beginWaiting_61 : decode cX5_beginWaiting 61 = .ok (.dup, 1) := by decide +kernel
theorem dX5_beginWaiting_62 : decode cX5_beginWaiting 62 = .ok (.getfield 46, 3) := by decide +kernel
theorem dX5_beginWaiting_65 : decode cX5_beginWaiting 65 = .ok (.iconst 1, 1) := by decide +kernel
theorem dX5_beginWaiting_66 : decode cX5_beginWaiting 66 = .ok (.isub, 1) := by decide +kernel
theorem dX5_beginWaiting_67 : decode cX5_beginWaiting 67 = .ok (.putfield 46, 3) := by decide +kernel
theorem dX5_beginWaiting_70 : decode cX5_beginWaiting 70 = .ok (.aload_n 0, 1) := by decide +kernel
theorem dX5_beginWaiting_71 : decode cX5_beginWaiting 71 = .ok (.iload 4, 2) := by decide +kernel
theorem dX5_beginWaiting_73 : decode cX5_beginWaiting 73 = .ok (.iload_n 1, 1) := by decide +kernel
theorem dX5_beginWaiting_74 : decode cX5_beginWaiting 74 = .ok (.aload_n 2, 1) := by decide +kernel
theorem dX5_beginWaiting_75 : decode cX5_beginWaiting 75 = .ok (.invokevirtual 68, 3) := by decide +kernel
theorem dX5_beginWaiting_78 : decode cX5_beginWaiting 78 = .ok (.iinc 3 1, 3) := by decide +kernel
theorem dX5_beginWaiting_81 : decode cX5_beginWaiting 81 = .ok (.goto (-79), 3) := by decide +kernel
theorem dX5_beginWaiting_84 : decode cX5_beginWaiting 84 = .ok (.return_, 1) := by decide +kernel
set_option maxRecDepth 20000 in
theorem ggX5_makeStep_X3_grips : GoodIn wsX5_makeStep wsX3_grips := goodIn_r _ [15, 16, 17, 18, 19, 20, 14, 21, 22, 23, 24, 58, 59, 60, 61, 62] (by decide +kernel) (by decide +kernel)
set_option maxRecDepth 20000 in
theorem gX5_makeStep_X3_grips : GoodIn wsX5_makeStep (wsV RX5 75 RX3 yX3_grips wsX3_grips) := goodIn_app (goodIn_of _ (by decide +kernel)) ggX5_makeStep_X3_grips
set_option maxRecDepth 20000 in
theorem ggX5_makeStep_X5_moves : GoodIn wsX5_makeStep wsX5_moves := goodIn_r _ [29, 9, 46, 47, 48, 49, 50, 51, 52, 53, 54, 55, 56, 57] (by decide +kernel) (by decide +kernel)
set_option maxRecDepth 20000 in
theorem gX5_makeStep_X5_moves : GoodIn wsX5_makeStep (wsV RX5 64 RX5 yX5_moves wsX5_moves) := goodIn_app (goodIn_of _ (by decide +kernel)) ggX5_makeStep_X5_moves
set_option maxRecDepth 20000 in
theorem ggX5_makeStep_X3_levelAfter : GoodIn wsX5_makeStep wsX3_levelAfter := goodIn_r _ [33, 34, 35, 36, 37, 38, 39, 40, 41, 42, 43, 14, 44, 22, 24, 23, 58, 59, 60, 61, 62] (by decide +kernel) (by decide +kernel)
set_option maxRecDepth 20000 in
theorem gX5_makeStep_X3_levelAfter : GoodIn wsX5_makeStep (wsV RX5 79 RX3 yX3_levelAfter wsX3_levelAfter) := goodIn_app (goodIn_of _ (by decide +kernel)) ggX5_makeStep_X3_levelAfter
set_option maxRecDepth 20000 in
theorem ggX5_makeStep_X3_intervalOf : GoodIn wsX5_makeStep wsX3_intervalOf := goodIn_r _ [21, 22, 23, 24, 58, 59, 60, 61, 62] (by decide +kernel) (by decide +kernel)
set_option maxRecDepth 20000 in
theorem gX5_makeStep_X3_intervalOf : GoodIn wsX5_makeStep (wsV RX5 59 RX3 yX3_intervalOf wsX3_intervalOf) := goodIn_app (goodIn_of _ (by decide +kernel)) ggX5_makeStep_X3_intervalOf
theorem dX5_makeStep_0 : decode cX5_makeStep 0 = .ok (.aload_n 0, 1) := by decide +kernel
theorem dX5_makeStep_1 : decode cX5_makeStep 1 = .ok (.getfield 28, 3) := by decide +kernel
theorem dX5_makeStep_4 : decode cX5_makeStep 4 = .ok (.aload_n 0, 1) := by decide +kernel
theorem dX5_makeStep_5 : decode cX5_makeStep 5 = .ok (.getfield 15, 3) := by decide +kernel
theorem dX5_makeStep_8 : decode cX5_makeStep 8 = .ok (.imul, 1) := by decide +kernel
theorem dX5_makeStep_9 : decode cX5_makeStep 9 = .ok (.istore_n 3, 1) := by decide +kernel
theorem dX5_makeStep_10 : decode cX5_makeStep 10 = .ok (.aload_n 0, 1) := by decide +kernel
theorem dX5_makeStep_11 : decode cX5_makeStep 11 = .ok (.dup, 1) := by decide +kernel
theorem dX5_makeStep_12 : decode cX5_makeStep 12 = .ok (.getfield 22, 3) := by decide +kernel
theorem dX5_makeStep_15 : decode cX5_makeStep 15 = .ok (.iload_n 3, 1) := by decide +kernel
theorem dX5_makeStep_16 : decode cX5_makeStep 16 = .ok (.iadd, 1) := by decide +kernel
theorem dX5_makeStep_17 : decode cX5_makeStep 17 = .ok (.putfield 22, 3) := by decide +kernel
theorem dX5_makeStep_20 : decode cX5_makeStep 20 = .ok (.aload_n 0, 1) := by decide +kernel
theorem dX5_makeStep_21 : decode cX5_makeStep 21 = .ok (.dup, 1) := by decide +kernel
theorem dX5_makeStep_22 : decode cX5_makeStep 22 = .ok (.getfield 40, 3) := by decide +kernel
theorem dX5_makeStep_25 : decode cX5_makeStep 25 = .ok (.iconst 1, 1) := by decide +kernel
theorem dX5_makeStep_26 : decode cX5_makeStep 26 = .ok (.iadd, 1) := by decide +kernel
theorem dX5_makeStep_27 : decode cX5_makeStep 27 = .ok (.putfield 40, 3) := by decide +kernel
theorem dX5_makeStep_30 : decode cX5_makeStep 30 = .ok (.aload_n 2, 1) := by decide +kernel
theorem dX5_makeStep_31 : decode cX5_makeStep 31 = .ok (.aload_n 0, 1) := by decide +kernel
theorem dX5_makeStep_32 : decode cX5_makeStep 32 = .ok (.getfield 34, 3) := by decide +kernel
theorem dX5_makeStep_35 : decode cX5_makeStep 35 = .ok (.aload_n 0, 1) := by decide +kernel
theorem dX5_makeStep_36 : decode cX5_makeStep 36 = .ok (.getfield 19, 3) := by decide +kernel
theorem dX5_makeStep_39 : decode cX5_makeStep 39 = .ok (.invokevirtual 75, 3) := by decide +kernel
theorem dX5_makeStep_42 : decode cX5_makeStep 42 = .ok (.ifCond .eq 16, 3) := by decide +kernel
theorem dX5_makeStep_45 : decode cX5_makeStep 45 = .ok (.aload_n 0, 1) := by decide +kernel
theorem dX5_makeStep_46 : decode cX5_makeStep 46 = .ok (.dup, 1) := by decide +kernel
theorem dX5_makeStep_47 : decode cX5_makeStep 47 = .ok (.getfield 25, 3) := by decide +kernel
theorem dX5_makeStep_50 : decode cX5_makeStep 50 = .ok (.iload_n 3, 1) := by decide +kernel
theorem dX5_makeStep_51 : decode cX5_makeStep 51 = .ok (.iadd, 1) := by decide +kernel
theorem dX5_makeStep_52 : decode cX5_makeStep 52 = .ok (.putfield 25, 3) := by decide +kernel
theorem dX5_makeStep_55 : decode cX5_makeStep 55 = .ok (.goto 13, 3) := by decide +kernel
theorem dX5_makeStep_58 : decode cX5_makeStep 58 = .ok (.aload_n 0, 1) := by decide +kernel
theorem dX5_makeStep_59 : decode cX5_makeStep 59 = .ok (.dup, 1) := by decide +kernel
theorem dX5_makeStep_60 : decode cX5_makeStep 60 = .ok (.getfield 43, 3) := by decide +kernel
theorem dX5_makeStep_63 : decode cX5_makeStep 63 = .ok (.iconst 1, 1) := by decide +kernel
theorem dX5_makeStep_64 : decode cX5_makeStep 64 = .ok (.iadd, 1) := by decide +kernel
theorem dX5_makeStep_65 : decode cX5_makeStep 65 = .ok (.putfield 43, 3) := by decide +kernel
theorem dX5_makeStep_68 : decode cX5_makeStep 68 = .ok (.aload_n 0, 1) := by decide +kernel
theorem dX5_makeStep_69 : decode cX5_makeStep 69 = .ok (.dup, 1) := by decide +kernel
theorem dX5_makeStep_70 : decode cX5_makeStep 70 = .ok (.getfield 31, 3) := by decide +kernel
theorem dX5_makeStep_73 : decode cX5_makeStep 73 = .ok (.iconst 1, 1) := by decide +kernel
theorem dX5_makeStep_74 : decode cX5_makeStep 74 = .ok (.isub, 1) := by decide +kernel
theorem dX5_makeStep_75 : decode cX5_makeStep 75 = .ok (.putfield 31, 3) := by decide +kernel
theorem dX5_makeStep_78 : decode cX5_makeStep 78 = .ok (.aload_n 0, 1) := by decide +kernel
theorem dX5_makeStep_79 : decode cX5_makeStep 79 = .ok (.invokevirtual 64, 3) := by decide +kernel
theorem dX5_makeStep_82 : decode cX5_makeStep 82 = .ok (.ifCond .eq 36, 3) := by decide +kernel
theorem dX5_makeStep_85 : decode cX5_makeStep 85 = .ok (.aload_n 0, 1) := by decide +kernel
