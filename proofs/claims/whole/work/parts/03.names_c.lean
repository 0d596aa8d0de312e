theorem dX1_aimBetween_46 : decode cX1_aimBetween 46 = .ok (.return_, 1) := by decide +kernel
theorem dX1_ticksUntilDone_0 : decode cX1_ticksUntilDone 0 = .ok (.aload_n 0, 1) := by decide +kernel
theorem dX1_ticksUntilDone_1 : decode cX1_ticksUntilDone 1 = .ok (.getfield 18, 3) := by decide +kernel
theorem dX1_ticksUntilDone_4 : decode cX1_ticksUntilDone 4 = .ok (.lconst 0, 1) := by decide +kernel
theorem dX1_ticksUntilDone_5 : decode cX1_ticksUntilDone 5 = .ok (.lcmp, 1) := by decide +kernel
theorem dX1_ticksUntilDone_6 : decode cX1_ticksUntilDone 6 = .ok (.ifCond .ne 5, 3) := by decide +kernel
theorem dX1_ticksUntilDone_9 : decode cX1_ticksUntilDone 9 = .ok (.iconst 0, 1) := by decide +kernel
theorem dX1_ticksUntilDone_10 : decode cX1_ticksUntilDone 10 = .ok (.ireturn, 1) := by decide +kernel
theorem dX1_ticksUntilDone_11 : decode cX1_ticksUntilDone 11 = .ok (.aload_n 0, 1) := by decide +kernel
theorem dX1_ticksUntilDone_12 : decode cX1_ticksUntilDone 12 = .ok (.getfield 46, 3) := by decide +kernel
theorem dX1_ticksUntilDone_15 : decode cX1_ticksUntilDone 15 = .ok (.ifCond .eq 11, 3) := by decide +kernel
theorem dX1_ticksUntilDone_18 : decode cX1_ticksUntilDone 18 = .ok (.aload_n 0, 1) := by decide +kernel
theorem dX1_ticksUntilDone_19 : decode cX1_ticksUntilDone 19 = .ok (.getfield 37, 3) := by decide +kernel
theorem dX1_ticksUntilDone_22 : decode cX1_ticksUntilDone 22 = .ok (.iconst 1, 1) := by decide +kernel
theorem dX1_ticksUntilDone_23 : decode cX1_ticksUntilDone 23 = .ok (.if_icmp .ge 5, 3) := by decide +kernel
theorem dX1_ticksUntilDone_26 : decode cX1_ticksUntilDone 26 = .ok (.iconst (-1), 1) := by decide +kernel
theorem dX1_ticksUntilDone_27 : decode cX1_ticksUntilDone 27 = .ok (.ireturn, 1) := by decide +kernel
theorem dX1_ticksUntilDone_28 : decode cX1_ticksUntilDone 28 = .ok (.aload_n 0, 1) := by decide +kernel
theorem dX1_ticksUntilDone_29 : decode cX1_ticksUntilDone 29 = .ok (.getfield 18, 3) := by decide +kernel
theorem dX1_ticksUntilDone_32 : decode cX1_ticksUntilDone 32 = .ok (.invokestatic 100, 3) := by decide +kernel
theorem dX1_ticksUntilDone_35 : decode cX1_ticksUntilDone 35 = .ok (.aload_n 0, 1) := by decide +kernel
theorem dX1_ticksUntilDone_36 : decode cX1_ticksUntilDone 36 = .ok (.getfield 37, 3) := by decide +kernel
theorem dX1_ticksUntilDone_39 : decode cX1_ticksUntilDone 39 = .ok (.i2l, 1) := by decide +kernel
theorem dX1_ticksUntilDone_40 : decode cX1_ticksUntilDone 40 = .ok (.ladd, 1) := by decide +kernel
theorem dX1_ticksUntilDone_41 : decode cX1_ticksUntilDone 41 = .ok (.lconst 1, 1) := by decide +kernel
theorem dX1_ticksUntilDone_42 : decode cX1_ticksUntilDone 42 = .ok (.lsub, 1) := by decide +kernel
theorem dX1_ticksUntilDone_43 : decode cX1_ticksUntilDone 43 = .ok (.aload_n 0, 1) := by decide +kernel
theorem dX1_ticksUntilDone_44 : decode cX1_ticksUntilDone 44 = .ok (.getfield 37, 3) := by decide +kernel
theorem dX1_ticksUntilDone_47 : decode cX1_ticksUntilDone 47 = .ok (.i2l, 1) := by decide +kernel
theorem dX1_ticksUntilDone_48 : decode cX1_ticksUntilDone 48 = .ok (.ldiv, 1) := by decide +kernel
theorem dX1_ticksUntilDone_49 : decode cX1_ticksUntilDone 49 = .ok (.lstore_n 1, 1) := by decide +kernel
theorem dX1_ticksUntilDone_50 : decode cX1_ticksUntilDone 50 = .ok (.lload_n 1, 1) := by decide +kernel
theorem dX1_ticksUntilDone_51 : decode cX1_ticksUntilDone 51 = .ok (.ldc2_w 171, 3) := by decide +kernel
theorem dX1_ticksUntilDone_54 : decode cX1_ticksUntilDone 54 = .ok (.lcmp, 1) := by decide +kernel
theorem dX1_ticksUntilDone_55 : decode cX1_ticksUntilDone 55 = .ok (.ifCond .gt 8, 3) := by decide +kernel
theorem dX1_ticksUntilDone_58 : decode cX1_ticksUntilDone 58 = .ok (.lload_n 1, 1) := by decide +kernel
theorem dX1_ticksUntilDone_59 : decode cX1_ticksUntilDone 59 = .ok (.l2i, 1) := by decide +kernel
theorem dX1_ticksUntilDone_60 : decode cX1_ticksUntilDone 60 = .ok (.goto 4, 3) := by decide +kernel
theorem dX1_ticksUntilDone_63 : decode cX1_ticksUntilDone 63 = .ok (.iconst (-1), 1) := by decide +kernel
theorem dX1_ticksUntilDone_64 : decode cX1_ticksUntilDone 64 = .ok (.ireturn, 1) := by decide +kernel
set_option maxRecDepth 20000 in
theorem ggX1_ticksUntilWide_X1_widthPerTick : GoodIn wsX1_ticksUntilWide wsX1_widthPerTick := goodIn_r _ [6, 7, 8, 9, 10, 11, 12, 13, 14, 15, 16, 17, 18, 19, 20, 21, 22, 23, 24, 25, 26] (by decide +kernel) (by decide +kernel)
set_option maxRecDepth 20000 in
theorem gX1_ticksUntilWide_X1_widthPerTick : GoodIn wsX1_ticksUntilWide (wsV RX1 139 RX1 yX1_widthPerTick wsX1_widthPerTick) := goodIn_app (goodIn_of _ (by decide +kernel)) ggX1_ticksUntilWide_X1_widthPerTick
theorem dX1_ticksUntilWide_0 : decode cX1_ticksUntilWide 0 = .ok (.aload_n 0, 1) := by decide +kernel
theorem dX1_ticksUntilWide_1 : decode cX1_ticksUntilWide 1 = .ok (.getfield 40, 3) := by decide +kernel
theorem dX1_ticksUntilWide_4 : decode cX1_ticksUntilWide 4 = .ok (.i2l, 1) := by decide +kernel
theorem dX1_ticksUntilWide_5 : decode cX1_ticksUntilWide 5 = .ok (.lload_n 1, 1) := by decide +kernel
theorem dX1_ticksUntilWide_6 : decode cX1_ticksUntilWide 6 = .ok (.lcmp, 1) := by decide +kernel
theorem dX1_ticksUntilWide_7 : decode cX1_ticksUntilWide 7 = .ok (.ifCond .le 5, 3) := by decide +kernel
theorem dX1_ticksUntilWide_10 : decode cX1_ticksUntilWide 10 = .ok (.iconst 0, 1) := by decide +kernel
theorem dX1_ticksUntilWide_11 : decode cX1_ticksUntilWide 11 = .ok (.ireturn, 1) := by decide +kernel
theorem dX1_ticksUntilWide_12 : decode cX1_ticksUntilWide 12 = .ok (.aload_n 0, 1) := by decide +kernel
theorem dX1_ticksUntilWide_13 : decode cX1_ticksUntilWide 13 = .ok (.invokevirtual 139, 3) := by decide +kernel
theorem dX1_ticksUntilWide_16 : decode cX1_ticksUntilWide 16 = .ok (.istore_n 3, 1) := by decide +kernel
theorem dX1_ticksUntilWide_17 : decode cX1_ticksUntilWide 17 = .ok (.iload_n 3, 1) := by decide +kernel
theorem dX1_ticksUntilWide_18 : decode cX1_ticksUntilWide 18 = .ok (.ifCond .gt 5, 3) := by decide +kernel
theorem dX1_ticksUntilWide_21 : decode cX1_ticksUntilWide 21 = .ok (.iconst (-1), 1) := by decide +kernel
theorem dX1_ticksUntilWide_22 : decode cX1_ticksUntilWide 22 = .ok (.ireturn, 1) := by decide +kernel
theorem dX1_ticksUntilWide_23 : decode cX1_ticksUntilWide 23 = .ok (.lload_n 1, 1) := by decide +kernel
theorem dX1_ticksUntilWide_24 : decode cX1_ticksUntilWide 24 = .ok (.aload_n 0, 1) := by decide +kernel
theorem dX1_ticksUntilWide_25 : decode cX1_ticksUntilWide 25 = .ok (.getfield 40, 3) := by decide +kernel
theorem dX1_ticksUntilWide_28 : decode cX1_ticksUntilWide 28 = .ok (.i2l, 1) := by decide +kernel
theorem dX1_ticksUntilWide_29 : decode cX1_ticksUntilWide 29 = .ok (.lsub, 1) := by decide +kernel
theorem dX1_ticksUntilWide_30 : decode cX1_ticksUntilWide 30 = .ok (.iload_n 3, 1) := by decide +kernel
theorem dX1_ticksUntilWide_31 : decode cX1_ticksUntilWide 31 = .ok (.i2l, 1) := by decide +kernel
theorem dX1_ticksUntilWide_32 : decode cX1_ticksUntilWide 32 = .ok (.ldiv, 1) := by decide +kernel
theorem dX1_ticksUntilWide_33 : decode cX1_ticksUntilWide 33 = .ok (.l2i, 1) := by decide +kernel
theorem dX1_ticksUntilWide_34 : decode cX1_ticksUntilWide 34 = .ok (.iconst 1, 1) := by decide +kernel
theorem dX1_ticksUntilWide_35 : decode cX1_ticksUntilWide 35 = .ok (.iadd, 1) := by decide +kernel
theorem dX1_ticksUntilWide_36 : decode cX1_ticksUntilWide 36 = .ok (.ireturn, 1) := by decide +kernel
set_option maxRecDepth 20000 in
theorem ggX2_init_X1_init : GoodIn wsX2_init wsX1_init := goodIn_r _ [20, 21, 2, 3, 22, 23, 24, 25, 26, 27, 28, 29, 30, 31, 32, 33, 34, 35, 36, 37, 13, 38, 39, 40, 41, 42, 43, 44, 45, 46, 47, 48, 49, 50, 51, 52, 53, 54, 55, 56, 57, 58, 59, 60, 61, 62, 63, 64, 65, 66, 67, 68, 79, 80, 81, 82, 83] (by decide +kernel) (by decide +kernel)
set_option maxRecDepth 20000 in
theorem gX2_init_X1_init_n9 : GoodIn wsX2_init (wsX1_init) := ggX2_init_X1_init
theorem dX2_init_0 : decode cX2_init 0 = .ok (.aload_n 0, 1) := by decide +kernel
theorem dX2_init_1 : decode cX2_init 1 = .ok (.invokespecial 1, 3) := by decide +kernel
theorem dX2_init_4 : decode cX2_init 4 = .ok (.aload_n 0, 1) := by decide +kernel
theorem dX2_init_5 : decode cX2_init 5 = .ok (.new 7, 3) := by decide +kernel
theorem dX2_init_8 : decode cX2_init 8 = .ok (.dup, 1) := by decide +kernel
theorem dX2_init_9 : decode cX2_init 9 = .ok (.invokespecial 9, 3) := by decide +kernel
theorem dX2_init_12 : decode cX2_init 12 = .ok (.putfield 10, 3) := by decide +kernel
theorem dX2_init_15 : decode cX2_init 15 = .ok (.aload_n 0, 1) := by decide +kernel
theorem dX2_init_16 : decode cX2_init 16 = .ok (.iconst 0, 1) := by decide +kernel
theorem dX2_init_17 : decode cX2_init 17 = .ok (.putfield 16, 3) := by decide +kernel
theorem dX2_init_20 : decode cX2_init 20 = .ok (.aload_n 0, 1) := by decide +kernel
theorem dX2_init_21 : decode cX2_init 21 = .ok (.bipush 20, 2) := by decide +kernel
theorem dX2_init_23 : decode cX2_init 23 = .ok (.anewarray 7, 3) := by decide +kernel
theorem dX2_init_26 : decode cX2_init 26 = .ok (.putfield 20, 3) := by decide +kernel
theorem dX2_init_29 : decode cX2_init 29 = .ok (.aload_n 0, 1) := by decide +kernel
theorem dX2_init_30 : decode cX2_init 30 = .ok (.iconst 0, 1) := by decide +kernel
theorem dX2_init_31 : decode cX2_init 31 = .ok (.putfield 24, 3) := by decide +kernel
theorem dX2_init_34 : decode cX2_init 34 = .ok (.aload_n 0, 1) := by decide +kernel
theorem dX2_init_35 : decode cX2_init 35 = .ok (.iconst 0, 1) := by decide +kernel
theorem dX2_init_36 : decode cX2_init 36 = .ok (.putfield 27, 3) := by decide +kernel
theorem dX2_init_39 : decode cX2_init 39 = .ok (.aload_n 0, 1) := by decide +kernel
theorem dX2_init_40 : decode cX2_init 40 = .ok (.iconst 2, 1) := by decide +kernel
theorem dX2_init_41 : decode cX2_init 41 = .ok (.anewarray 7, 3) := by decide +kernel
theorem dX2_init_44 : decode cX2_init 44 = .ok (.putfield 30, 3) := by decide +kernel
theorem dX2_init_47 : decode cX2_init 47 = .ok (.aload_n 0, 1) := by decide +kernel
theorem dX2_init_48 : decode cX2_init 48 = .ok (.iconst 2, 1) := by decide +kernel
theorem dX2_init_49 : decode cX2_init 49 = .ok (.newarray .int, 2) := by decide +kernel
theorem dX2_init_51 : decode cX2_init 51 = .ok (.putfield 33, 3) := by decide +kernel
theorem dX2_init_54 : decode cX2_init 54 = .ok (.aload_n 0, 1) := by decide +kernel
theorem dX2_init_55 : decode cX2_init 55 = .ok (.iconst 2, 1) := by decide +kernel
theorem dX2_init_56 : decode cX2_init 56 = .ok (.newarray .boolean, 2) := by decide +kernel
theorem dX2_init_58 : decode cX2_init 58 = .ok (.putfield 37, 3) := by decide +kernel
theorem dX2_init_61 : decode cX2_init 61 = .ok (.aload_n 0, 1) := by decide +kernel
theorem dX2_init_62 : decode cX2_init 62 = .ok (.bipush 20, 2) := by decide +kernel
theorem dX2_init_64 : decode cX2_init 64 = .ok (.newarray .int, 2) := by decide +kernel
theorem dX2_init_66 : decode cX2_init 66 = .ok (.putfield 41, 3) := by decide +kernel
theorem dX2_init_69 : decode cX2_init 69 = .ok (.aload_n 0, 1) := by decide +kernel
theorem dX2_init_70 : decode cX2_init 70 = .ok (.iconst 0, 1) := by decide +kernel
theorem dX2_init_71 : decode cX2_init 71 = .ok (.putfield 44, 3) := by decide +kernel
theorem dX2_init_74 : decode cX2_init 74 = .ok (.iconst 0, 1) := by decide +kernel
theorem dX2_init_75 : decode cX2_init 75 = .ok (.istore_n 1, 1) := by decide +kernel
theorem dX2_init_76 : decode cX2_init 76 = .ok (.iload_n 1, 1) := by decide +kernel
theorem dX2_init_77 : decode cX2_init 77 = .ok (.bipush 20, 2) := by decide +kernel
theorem dX2_init_79 : decode cX2_init 79 = .ok (.if_icmp .ge 22, 3) := by decide +kernel
theorem dX2_init_82 : decode cX2_init 82 = .ok (.aload_n 0, 1) := by decide +kernel
theorem dX2_init_83 : decode cX2_init 83 = .ok (.getfield 20, 3) := by decide +kernel
theorem dX2_init_86 : decode cX2_init 86 = .ok (.iload_n 1, 1) := by decide +kernel
theorem dX2_init_87 : decode cX2_init 87 = .ok (.new 7, 3) := by decide +kernel
theorem dX2_init_90 : decode cX2_init 90 = .ok (.dup, 1) := by decide +kernel
theorem dX2_init_91 : decode cX2_init 91 = .ok (.invokespecial 9, 3) := by decide +kernel
theorem dX2_init_94 : decode cX2_init 94 = .ok (.aastore, 1) := by decide +kernel
theorem dX2_init_95 : decode cX2_init 95 = .ok (.iinc 1 1, 3) := by decide +kernel
theorem dX2_init_98 : decode cX2_init 98 = .ok (.goto (-22), 3) := by decide +kernel
theorem dX2_init_101 : decode cX2_init 101 = .ok (.iconst 0, 1) := by decide +kernel
theorem dX2_init_102 : decode cX2_init 102 = .ok (.istore_n 1, 1) := by decide +kernel
theorem dX2_init_103 : decode cX2_init 103 = .ok (.iload_n 1, 1) := by decide +kernel
theorem dX2_init_104 : decode cX2_init 104 = .ok (.iconst 2, 1) := by decide +kernel
theorem dX2_init_105 : decode cX2_init 105 = .ok (.if_icmp .ge 22, 3) := by decide +kernel
theorem dX2_init_108 : decode cX2_init 108 = .ok (.aload_n 0, 1) := by decide +kernel
theorem dX2_init_109 : decode cX2_init 109 = .ok (.getfield 30, 3) := by decide +kernel
theorem dX2_init_112 : decode cX2_init 112 = .ok (.iload_n 1, 1) := by decide +kernel
theorem dX2_init_113 : decode cX2_init 113 = .ok (.new 7, 3) := by decide +kernel
theorem dX2_init_116 : decode cX2_init 116 = .ok (.dup, 1) := by decide +kernel
theorem dX2_init_117 : decode cX2_init 117 = .ok (.invokespecial 9, 3) := by decide +kernel
theorem dX2_init_120 : decode cX2_init 120 = .ok (.aastore, 1) := by decide +kernel
theorem dX2_init_121 : decode cX2_init 121 = .ok (.iinc 1 1, 3) := by decide +kernel
theorem dX2_init_124 : decode cX2_init 124 = .ok (.goto (-21), 3) := by decide +kernel
theorem dX2_init_127 : decode cX2_init 127 = .ok (.return_, 1) := by decide +kernel
set_option maxRecDepth 20000 in
theorem ggX2_told_X2_spanOf : GoodIn wsX2_told wsX2_spanOf := goodIn_r _ [19] (by decide +kernel) (by decide +kernel)
set_option maxRecDepth 20000 in
theorem gX2_told_X2_spanOf : GoodIn wsX2_told (va_wsS RX2 50 yX2_spanOf wsX2_spanOf) := goodIn_app (goodIn_of _ (by decide +kernel)) ggX2_told_X2_spanOf
set_option maxRecDepth 20000 in
theorem ggX2_told_X1_offAt : GoodIn wsX2_told wsX1_offAt := goodIn_r _ [24, 25, 26, 27, 82, 83, 84, 85, 86, 87, 88, 89, 90, 91, 92, 93, 94, 95, 96, 97, 98, 99] (by decide +kernel) (by decide +kernel)
set_option maxRecDepth 20000 in
theorem gX2_told_X1_offAt : GoodIn wsX2_told (wsV RX2 54 RX1 yX1_offAt wsX1_offAt) := goodIn_app (goodIn_of _ (by decide +kernel)) ggX2_told_X1_offAt
set_option maxRecDepth 20000 in
theorem ggX2_told_X2_asInt : GoodIn wsX2_told wsX2_asInt := goodIn_r _ [30] (by decide +kernel) (by decide +kernel)
set_option maxRecDepth 20000 in
theorem gX2_told_X2_asInt : GoodIn wsX2_told (va_wsS RX2 64 yX2_asInt wsX2_asInt) := goodIn_app (goodIn_of _ (by decide +kernel)) ggX2_told_X2_asInt
set_option maxRecDepth 20000 in
theorem ggX2_told_X1_isWithinBounds : GoodIn wsX2_told wsX1_isWithinBounds := goodIn_r _ [34, 35, 36, 37, 38, 39, 40, 41, 42, 43, 44, 23, 45, 46, 47, 82, 83, 84, 85, 86, 87, 88, 89, 90, 91, 92, 93, 94, 95, 96, 97, 98, 99] (by decide +kernel) (by decide +kernel)
set_option maxRecDepth 20000 in
theorem gX2_told_X1_isWithinBounds : GoodIn wsX2_told (wsV RX2 87 RX1 yX1_isWithinBounds wsX1_isWithinBounds) := goodIn_app (goodIn_of _ (by decide +kernel)) ggX2_told_X1_isWithinBounds
set_option maxRecDepth 20000 in
theorem ggX2_told_X0_totalRings : GoodIn wsX2_told wsX0_totalRings := goodIn_r _ [52, 53, 54, 100, 101, 102, 103, 104] (by decide +kernel) (by decide +kernel)
set_option maxRecDepth 20000 in
theorem gX2_told_X0_totalRings : GoodIn wsX2_told (wsV RX2 100 RX0 yX0_totalRings wsX0_totalRings) := goodIn_app (goodIn_of _ (by decide +kernel)) ggX2_told_X0_totalRings
set_option maxRecDepth 20000 in
theorem ggX2_told_X1_ticksUntilDone : GoodIn wsX2_told wsX1_ticksUntilDone := goodIn_r _ [58, 47, 59, 60, 36, 37, 38, 39, 61, 82, 83, 84, 85, 86, 87, 88, 89, 90, 91, 92, 93, 94, 95, 96, 97, 98, 99] (by decide +kernel) (by decide +kernel)
set_option maxRecDepth 20000 in
theorem gX2_told_X1_ticksUntilDone : GoodIn wsX2_told (wsV RX2 104 RX1 yX1_ticksUntilDone wsX1_ticksUntilDone) := goodIn_app (goodIn_of _ (by decide +kernel)) ggX2_told_X1_ticksUntilDone
set_option maxRecDepth 20000 in
theorem ggX2_told_X2_firstWrong : GoodIn wsX2_told wsX2_firstWrong := goodIn_r _ [65, 1, 13, 66, 67, 68, 69, 23, 70, 46, 71, 72, 73, 74, 75, 76, 77, 78, 79, 80, 81, 82, 83, 84, 85, 86, 87, 88, 89, 90, 91, 92, 93, 94, 95, 96, 97, 98, 99] (by decide +kernel) (by decide +kernel)
set_option maxRecDepth 20000 in
theorem gX2_told_X2_firstWrong : GoodIn wsX2_told (wsV RX2 107 RX2 yX2_firstWrong wsX2_firstWrong) := goodIn_app (goodIn_of _ (by decide +kernel)) ggX2_told_X2_firstWrong
theorem dX2_told_0 : decode cX2_told 0 = .ok (.iload_n 1, 1) := by decide +kernel
theorem dX2_told_1 : decode cX2_told 1 = .ok (.tableswitch 264 0 17 #[87, 98, 109, 128, 136, 157, 165, 173, 181, 192, 200, 208, 219, 230, 241, 249, 254, 259], 87) := by decide +kernel
theorem dX2_told_88 : decode cX2_told 88 = .ok (.aload_n 0, 1) := by decide +kernel
theorem dX2_told_89 : decode cX2_told 89 = .ok (.getfield 10, 3) := by decide +kernel
theorem dX2_told_92 : decode cX2_told 92 = .ok (.getfield 47, 3) := by decide +kernel
theorem dX2_told_95 : decode cX2_told 95 = .ok (.bipush 20, 2) := by decide +kernel
theorem dX2_told_97 : decode cX2_told 97 = .ok (.iadd, 1) := by decide +kernel
theorem dX2_told_98 : decode cX2_told 98 = .ok (.ireturn, 1) := by decide +kernel
theorem dX2_told_99 : decode cX2_told 99 = .ok (.aload_n 0, 1) := by decide +kernel
theorem dX2_told_100 : decode cX2_told 100 = .ok (.getfield 10, 3) := by decide +kernel
theorem dX2_told_103 : decode cX2_told 103 = .ok (.getfield 47, 3) := by decide +kernel
theorem dX2_told_106 : decode cX2_told 106 = .ok (.invokestatic 50, 3) := by decide +kernel
theorem dX2_told_109 : decode cX2_told 109 = .ok (.ireturn, 1) := by decide +kernel
theorem dX2_told_110 : decode cX2_told 110 = .ok (.aload_n 0, 1) := by decide +kernel
theorem dX2_told_111 : decode cX2_told 111 = .ok (.getfield 10, 3) := by decide +kernel
theorem dX2_told_114 : decode cX2_told 114 = .ok (.aload_n 0, 1) := by decide +kernel
theorem dX2_told_115 : decode cX2_told 115 = .ok (.getfield 10, 3) := by decide +kernel
theorem dX2_told_118 : decode cX2_told 118 = .ok (.getfield 47, 3) := by decide +kernel
theorem dX2_told_121 : decode cX2_told 121 = .ok (.invokevirtual 54, 3) := by decide +kernel
theorem dX2_told_124 : decode cX2_told 124 = .ok (.sipush 10000, 3) := by decide +kernel
theorem dX2_told_127 : decode cX2_told 127 = .ok (.iadd, 1) := by decide +kernel
theorem dX2_told_128 : decode cX2_told 128 = .ok (.ireturn, 1) := by decide +kernel
theorem dX2_told_129 : decode cX2_told 129 = .ok (.aload_n 0, 1) := by decide +kernel
theorem dX2_told_130 : decode cX2_told 130 = .ok (.getfield 10, 3) := by decide +kernel
theorem dX2_told_133 : decode cX2_told 133 = .ok (.getfield 57, 3) := by decide +kernel
theorem dX2_told_136 : decode cX2_told 136 = .ok (.ireturn, 1) := by decide +kernel
theorem dX2_told_137 : decode cX2_told 137 = .ok (.aload_n 0, 1) := by decide +kernel
theorem dX2_told_138 : decode cX2_told 138 = .ok (.getfield 10, 3) := by decide +kernel
theorem dX2_told_141 : decode cX2_told 141 = .ok (.getfield 60, 3) := by decide +kernel
theorem dX2_told_144 : decode cX2_told 144 = .ok (.lconst 0, 1) := by decide +kernel
theorem dX2_told_145 : decode cX2_told 145 = .ok (.lcmp, 1) := by decide +kernel
theorem dX2_told_146 : decode cX2_told 146 = .ok (.ifCond .ne 7, 3) := by decide +kernel
theorem dX2_told_149 : decode cX2_told 149 = .ok (.iconst 1, 1) := by decide +kernel
theorem dX2_told_150 : decode cX2_told 150 = .ok (.goto 4, 3) := by decide +kernel
theorem dX2_told_153 : decode cX2_told 153 = .ok (.iconst 0, 1) := by decide +kernel
theorem dX2_told_154 : decode cX2_told 154 = .ok (.invokestatic 64, 3) := by decide +kernel
theorem dX2_told_157 : decode cX2_told 157 = .ok (.ireturn, 1) := by decide +kernel
theorem dX2_told_158 : decode cX2_told 158 = .ok (.aload_n 0, 1) := by decide +kernel
theorem dX2_told_159 : decode cX2_told 159 = .ok (.getfield 10, 3) := by decide +kernel
theorem dX2_told_162 : decode cX2_told 162 = .ok (.getfield 68, 3) := by decide +kernel
theorem dX2_told_165 : decode cX2_told 165 = .ok (.ireturn, 1) := by decide +kernel
theorem dX2_told_166 : decode cX2_told 166 = .ok (.aload_n 0, 1) := by decide +kernel
theorem dX2_told_167 : decode cX2_told 167 = .ok (.getfield 10, 3) := by decide +kernel
theorem dX2_told_170 : decode cX2_told 170 = .ok (.getfield 71, 3) := by decide +kernel
theorem dX2_told_173 : decode cX2_told 173 = .ok (.ireturn, 1) := by decide +kernel
theorem dX2_told_174 : decode cX2_told 174 = .ok (.aload_n 0, 1) := by decide +kernel
theorem dX2_told_175 : decode cX2_told 175 = .ok (.getfield 10, 3) := by decide +kernel
theorem dX2_told_178 : decode cX2_told 178 = .ok (.getfield 74, 3) := by decide +kernel
theorem dX2_told_181 : decode cX2_told 181 = .ok (.ireturn, 1) := by decide +kernel
theorem dX2_told_182 : decode cX2_told 182 = .ok (.aload_n 0, 1) := by decide +kernel
theorem dX2_told_183 : decode cX2_told 183 = .ok (.getfield 10, 3) := by decide +kernel
theorem dX2_told_186 : decode cX2_told 186 = .ok (.getfield 77, 3) := by decide +kernel
theorem dX2_told_189 : decode cX2_told 189 = .ok (.invokestatic 64, 3) := by decide +kernel
theorem dX2_told_192 : decode cX2_told 192 = .ok (.ireturn, 1) := by decide +kernel
theorem dX2_told_193 : decode cX2_told 193 = .ok (.aload_n 0, 1) := by decide +kernel
theorem dX2_told_194 : decode cX2_told 194 = .ok (.getfield 10, 3) := by decide +kernel
theorem dX2_told_197 : decode cX2_told 197 = .ok (.getfield 81, 3) := by decide +kernel
theorem dX2_told_200 : decode cX2_told 200 = .ok (.ireturn, 1) := by decide +kernel
theorem dX2_told_201 : decode cX2_told 201 = .ok (.aload_n 0, 1) := by decide +kernel
theorem dX2_told_202 : decode cX2_told 202 = .ok (.getfield 10, 3) := by decide +kernel
theorem dX2_told_205 : decode cX2_told 205 = .ok (.getfield 84, 3) := by decide +kernel
theorem dX2_told_208 : decode cX2_told 208 = .ok (.ireturn, 1) := by decide +kernel
theorem dX2_told_209 : decode cX2_told 209 = .ok (.aload_n 0, 1) := by decide +kernel
theorem dX2_told_210 : decode cX2_told 210 = .ok (.getfield 10, 3) := by decide +kernel
theorem dX2_told_213 : decode cX2_told 213 = .ok (.invokevirtual 87, 3) := by decide +kernel
theorem dX2_told_216 : decode cX2_told 216 = .ok (.invokestatic 64, 3) := by decide +kernel
theorem dX2_told_219 : decode cX2_told 219 = .ok (.ireturn, 1) := by decide +kernel
theorem dX2_told_220 : decode cX2_told 220 = .ok (.aload_n 0, 1) := by decide +kernel
theorem dX2_told_221 : decode cX2_told 221 = .ok (.getfield 10, 3) := by decide +kernel
theorem dX2_told_224 : decode cX2_told 224 = .ok (.getfield 91, 3) := by decide +kernel
theorem dX2_told_227 : decode cX2_told 227 = .ok (.getfield 95, 3) := by decide +kernel
theorem dX2_told_230 : decode cX2_told 230 = .ok (.ireturn, 1) := by decide +kernel
theorem dX2_told_231 : decode cX2_told 231 = .ok (.aload_n 0, 1) := by decide +kernel
theorem dX2_told_232 : decode cX2_told 232 = .ok (.getfield 10, 3) := by decide +kernel
theorem dX2_told_235 : decode cX2_told 235 = .ok (.getfield 91, 3) := by decide +kernel
theorem dX2_told_238 : decode cX2_told 238 = .ok (.invokevirtual 100, 3) := by decide +kernel
theorem dX2_told_241 : decode cX2_told 241 = .ok (.ireturn, 1) := by decide +kernel
theorem dX2_told_242 : decode cX2_told 242 = .ok (.aload_n 0, 1) := by decide +kernel
theorem dX2_told_243 : decode cX2_told 243 = .ok (.getfield 10, 3) := by decide +kernel
theorem dX2_told_246 : decode cX2_told 246 = .ok (.invokevirtual 104, 3) := by decide +kernel
theorem dX2_told_249 : decode cX2_told 249 = .ok (.ireturn, 1) := by decide +kernel
theorem dX2_told_250 : decode cX2_told 250 = .ok (.aload_n 0, 1) := by decide +kernel
theorem dX2_told_251 : decode cX2_told 251 = .ok (.getfield 44, 3) := by decide +kernel
theorem dX2_told_254 : decode cX2_told 254 = .ok (.ireturn, 1) := by decide +kernel
theorem dX2_told_255 : decode cX2_told 255 = .ok (.aload_n 0, 1) := by decide +kernel
theorem dX2_told_256 : decode cX2_told 256 = .ok (.invokevirtual 107, 3) := by decide +kernel
theorem dX2_told_259 : decode cX2_told 259 = .ok (.ireturn, 1) := by decide +kernel
theorem dX2_told_260 : decode cX2_told 260 = .ok (.aload_n 0, 1) := by decide +kernel
theorem dX2_told_261 : decode cX2_told 261 = .ok (.getfield 27, 3) := by decide +kernel
theorem dX2_told_264 : decode cX2_told 264 = .ok (.ireturn, 1) := by decide +kernel
theorem dX2_told_265 : decode cX2_told 265 = .ok (.ldc 110, 2) := by decide +kernel
theorem dX2_told_267 : decode cX2_told 267 = .ok (.ireturn, 1) := by decide +kernel
set_option maxRecDepth 20000 in
theorem ggX2_time_X1_aim : GoodIn wsX2_time wsX1_aim := goodIn_r _ [9, 10, 11, 22, 23, 24, 25, 26, 27, 28, 29, 30, 31, 32, 33, 34, 35, 36, 37, 38, 39] (by decide +kernel) (by decide +kernel)
set_option maxRecDepth 20000 in
theorem gX2_time_X1_aim : GoodIn wsX2_time (wsV RX2 117 RX1 yX1_aim wsX1_aim) := goodIn_app (goodIn_of _ (by decide +kernel)) ggX2_time_X1_aim
theorem dX2_time_0 : decode cX2_time 0 = .ok (.iload_n 1, 1) := by decide +kernel
theorem dX2_time_1 : decode cX2_time 1 = .ok (.tableswitch 51 0 2 #[27, 35, 43], 27) := by decide +kernel
theorem dX2_time_28 : decode cX2_time 28 = .ok (.aload_n 0, 1) := by decide +kernel
theorem dX2_time_29 : decode cX2_time 29 = .ok (.getfield 10, 3) := by decide +kernel
theorem dX2_time_32 : decode cX2_time 32 = .ok (.getfield 111, 3) := by decide +kernel
theorem dX2_time_35 : decode cX2_time 35 = .ok (.lreturn, 1) := by decide +kernel
theorem dX2_time_36 : decode cX2_time 36 = .ok (.aload_n 0, 1) := by decide +kernel
theorem dX2_time_37 : decode cX2_time 37 = .ok (.getfield 10, 3) := by decide +kernel
theorem dX2_time_40 : decode cX2_time 40 = .ok (.getfield 114, 3) := by decide +kernel
theorem dX2_time_43 : decode cX2_time 43 = .ok (.lreturn, 1) := by decide +kernel
theorem dX2_time_44 : decode cX2_time 44 = .ok (.aload_n 0, 1) := by decide +kernel
theorem dX2_time_45 : decode cX2_time 45 = .ok (.getfield 10, 3) := by decide +kernel
theorem dX2_time_48 : decode cX2_time 48 = .ok (.invokevirtual 117, 3) := by decide +kernel
theorem dX2_time_51 : decode cX2_time 51 = .ok (.lreturn, 1) := by decide +kernel
theorem dX2_time_52 : decode cX2_time 52 = .ok (.ldc2_w 121, 3) := by decide +kernel
theorem dX2_time_55 : decode cX2_time 55 = .ok (.lreturn, 1) := by decide +kernel
set_option maxRecDepth 20000 in
theorem ggX2_calendar_X1_minuteNumber : GoodIn wsX2_calendar wsX1_minuteNumber := goodIn_r _ [7, 8, 9, 34, 35, 36, 37, 38, 39, 40, 41, 42, 43, 44, 45, 46, 47, 48, 49, 50, 51] (by decide +kernel) (by decide +kernel)
set_option maxRecDepth 20000 in
theorem gX2_calendar_X1_minuteNumber : GoodIn wsX2_calendar (wsV RX2 123 RX1 yX1_minuteNumber wsX1_minuteNumber) := goodIn_app (goodIn_of _ (by decide +kernel)) ggX2_calendar_X1_minuteNumber
set_option maxRecDepth 20000 in
theorem ggX2_calendar_X2_minuteOf : GoodIn wsX2_calendar wsX2_minuteOf := goodIn_r _ [13, 14] (by decide +kernel) (by decide +kernel)
set_option maxRecDepth 20000 in
theorem gX2_calendar_X2_minuteOf : GoodIn wsX2_calendar (va_wsS RX2 126 yX2_minuteOf wsX2_minuteOf) := goodIn_app (goodIn_of _ (by decide +kernel)) ggX2_calendar_X2_minuteOf
set_option maxRecDepth 20000 in
theorem ggX2_calendar_X2_hourOf : GoodIn wsX2_calendar wsX2_hourOf := goodIn_r _ [17, 14, 18] (by decide +kernel) (by decide +kernel)
set_option maxRecDepth 20000 in
theorem gX2_calendar_X2_hourOf : GoodIn wsX2_calendar (va_wsS RX2 130 yX2_hourOf wsX2_hourOf) := goodIn_app (goodIn_of _ (by decide +kernel)) ggX2_calendar_X2_hourOf
set_option maxRecDepth 20000 in
theorem ggX2_calendar_X2_weekdayOf : GoodIn wsX2_calendar wsX2_weekdayOf := goodIn_r _ [21, 22, 23] (by decide +kernel) (by decide +kernel)
set_option maxRecDepth 20000 in
theorem gX2_calendar_X2_weekdayOf : GoodIn wsX2_calendar (va_wsS RX2 133 yX2_weekdayOf wsX2_weekdayOf) := goodIn_app (goodIn_of _ (by decide +kernel)) ggX2_calendar_X2_weekdayOf
theorem dX2_calendar_0 : decode cX2_calendar 0 = .ok (.aload_n 0, 1) := by decide +kernel
theorem dX2_calendar_1 : decode cX2_calendar 1 = .ok (.getfield 10, 3) := by decide +kernel
theorem dX2_calendar_4 : decode cX2_calendar 4 = .ok (.invokevirtual 123, 3) := by decide +kernel
theorem dX2_calendar_7 : decode cX2_calendar 7 = .ok (.lstore_n 2, 1) := by decide +kernel
theorem dX2_calendar_8 : decode cX2_calendar 8 = .ok (.iload_n 1, 1) := by decide +kernel
theorem dX2_calendar_9 : decode cX2_calendar 9 = .ok (.tableswitch 49 0 3 #[31, 34, 39, 44], 31) := by decide +kernel
theorem dX2_calendar_40 : decode cX2_calendar 40 = .ok (.lload_n 2, 1) := by decide +kernel
theorem dX2_calendar_41 : decode cX2_calendar 41 = .ok (.l2i, 1) := by decide +kernel
theorem dX2_calendar_42 : decode cX2_calendar 42 = .ok (.ireturn, 1) := by decide +kernel
theorem dX2_calendar_43 : decode cX2_calendar 43 = .ok (.lload_n 2, 1) := by decide +kernel
theorem dX2_calendar_44 : decode cX2_calendar 44 = .ok (.invokestatic 126, 3) := by decide +kernel
theorem dX2_calendar_47 : decode cX2_calendar 47 = .ok (.ireturn, 1) := by decide +kernel
theorem dX2_calendar_48 : decode cX2_calendar 48 = .ok (.lload_n 2, 1) := by decide +kernel
theorem dX2_calendar_49 : decode cX2_calendar 49 = .ok (.invokestatic 130, 3) := by decide +kernel
theorem dX2_calendar_52 : decode cX2_calendar 52 = .ok (.ireturn, 1) := by decide +kernel
theorem dX2_calendar_53 : decode cX2_calendar 53 = .ok (.lload_n 2, 1) := by decide +kernel
theorem dX2_calendar_54 : decode cX2_calendar 54 = .ok (.invokestatic 133, 3) := by decide +kernel
theorem dX2_calendar_57 : decode cX2_calendar 57 = .ok (.ireturn, 1) := by decide +kernel
theorem dX2_calendar_58 : decode cX2_calendar 58 = .ok (.ldc 110, 2) := by decide +kernel
theorem dX2_calendar_60 : decode cX2_calendar 60 = .ok (.ireturn, 1) := by decide +kernel
set_option maxRecDepth 20000 in
theorem ggX2_span_X2_isSpan : GoodIn wsX2_span wsX2_isSpan := goodIn_r _ [9] (by decide +kernel) (by decide +kernel)
set_option maxRecDepth 20000 in
theorem gX2_span_X2_isSpan : GoodIn wsX2_span (va_wsS RX2 136 yX2_isSpan wsX2_isSpan) := goodIn_app (goodIn_of _ (by decide +kernel)) ggX2_span_X2_isSpan
set_option maxRecDepth 20000 in
theorem ggX2_span_X1_fitOf : GoodIn wsX2_span wsX1_fitOf := goodIn_r _ [14, 15, 16, 17, 13, 18, 19, 7, 8, 9, 20, 21, 22, 23, 24, 25, 26, 37, 38, 39, 40, 41, 42, 43, 44, 45, 46, 47, 48, 49, 50, 51, 52, 53, 54] (by decide +kernel) (by decide +kernel)
set_option maxRecDepth 20000 in
theorem gX2_span_X1_fitOf : GoodIn wsX2_span (wsV RX2 144 RX1 yX1_fitOf wsX1_fitOf) := goodIn_app (goodIn_of _ (by decide +kernel)) ggX2_span_X1_fitOf
theorem dX2_span_0 : decode cX2_span 0 = .ok (.iload_n 1, 1) := by decide +kernel
theorem dX2_span_1 : decode cX2_span 1 = .ok (.invokestatic 136, 3) := by decide +kernel
theorem dX2_span_4 : decode cX2_span 4 = .ok (.ifCond .ne 6, 3) := by decide +kernel
theorem dX2_span_7 : decode cX2_span 7 = .ok (.ldc 140, 2) := by decide +kernel
theorem dX2_span_9 : decode cX2_span 9 = .ok (.ireturn, 1) := by decide +kernel
theorem dX2_span_10 : decode cX2_span 10 = .ok (.iload_n 2, 1) := by decide +kernel
theorem dX2_span_11 : decode cX2_span 11 = .ok (.lookupswitch 51 #[(0, 25), (1, 39)], 25) := by decide +kernel
theorem dX2_span_36 : decode cX2_span 36 = .ok (.aload_n 0, 1) := by decide +kernel
theorem dX2_span_37 : decode cX2_span 37 = .ok (.getfield 10, 3) := by decide +kernel
theorem dX2_span_40 : decode cX2_span 40 = .ok (.getfield 141, 3) := by decide +kernel
theorem dX2_span_43 : decode cX2_span 43 = .ok (.iload_n 1, 1) := by decide +kernel
theorem dX2_span_44 : decode cX2_span 44 = .ok (.iaload, 1) := by decide +kernel
theorem dX2_span_45 : decode cX2_span 45 = .ok (.sipush 10000, 3) := by decide +kernel
theorem dX2_span_48 : decode cX2_span 48 = .ok (.iadd, 1) := by decide +kernel
theorem dX2_span_49 : decode cX2_span 49 = .ok (.ireturn, 1) := by decide +kernel
theorem dX2_span_50 : decode cX2_span 50 = .ok (.aload_n 0, 1) := by decide +kernel
theorem dX2_span_51 : decode cX2_span 51 = .ok (.getfield 10, 3) := by decide +kernel
theorem dX2_span_54 : decode cX2_span 54 = .ok (.iload_n 1, 1) := by decide +kernel
theorem dX2_span_55 : decode cX2_span 55 = .ok (.invokevirtual 144, 3) := by decide +kernel
theorem dX2_span_58 : decode cX2_span 58 = .ok (.ldc 147, 2) := by decide +kernel
theorem dX2_span_60 : decode cX2_span 60 = .ok (.iadd, 1) := by decide +kernel
theorem dX2_span_61 : decode cX2_span 61 = .ok (.ireturn, 1) := by decide +kernel
theorem dX2_span_62 : decode cX2_span 62 = .ok (.ldc 110, 2) := by decide +kernel
theorem dX2_span_64 : decode cX2_span 64 = .ok (.ireturn, 1) := by decide +kernel
set_option maxRecDepth 20000 in
theorem ggX2_alarmAt_X0_has : GoodIn wsX2_alarmAt wsX0_has := goodIn_r _ [13, 14, 76, 77, 78, 79, 80] (by decide +kernel) (by decide +kernel)
set_option maxRecDepth 20000 in
theorem gX2_alarmAt_X0_has : GoodIn wsX2_alarmAt (wsV RX2 148 RX0 yX0_has wsX0_has) := goodIn_app (goodIn_of _ (by decide +kernel)) ggX2_alarmAt_X0_has
set_option maxRecDepth 20000 in
theorem ggX2_alarmAt_X1_minuteNumber : GoodIn wsX2_alarmAt wsX1_minuteNumber := goodIn_r _ [19, 20, 21, 58, 59, 60, 61, 62, 63, 64, 65, 66, 67, 68, 69, 70, 71, 72, 73, 74, 75] (by decide +kernel) (by decide +kernel)
set_option maxRecDepth 20000 in
theorem gX2_alarmAt_X1_minuteNumber : GoodIn wsX2_alarmAt (wsV RX2 123 RX1 yX1_minuteNumber wsX1_minuteNumber) := goodIn_app (goodIn_of _ (by decide +kernel)) ggX2_alarmAt_X1_minuteNumber
set_option maxRecDepth 20000 in
theorem ggX2_alarmAt_X0_nextFit : GoodIn wsX2_alarmAt wsX0_nextFit := goodIn_r _ [25, 26, 27, 28, 29, 30, 31, 32, 10, 11, 12, 13, 14, 33, 34, 35, 36, 37, 38, 39, 40, 41, 42, 43, 44, 45, 46, 47, 76, 77, 78, 79, 80] (by decide +kernel) (by decide +kernel)
set_option maxRecDepth 20000 in
theorem gX2_alarmAt_X0_nextFit : GoodIn wsX2_alarmAt (wsV RX2 163 RX0 yX0_nextFit wsX0_nextFit) := goodIn_app (goodIn_of _ (by decide +kernel)) ggX2_alarmAt_X0_nextFit
theorem dX2_alarmAt_0 : decode cX2_alarmAt 0 = .ok (.aload_n 0, 1) := by decide +kernel
theorem dX2_alarmAt_1 : decode cX2_alarmAt 1 = .ok (.getfield 10, 3) := by decide +kernel
theorem dX2_alarmAt_4 : decode cX2_alarmAt 4 = .ok (.getfield 91, 3) := by decide +kernel
theorem dX2_alarmAt_7 : decode cX2_alarmAt 7 = .ok (.astore_n 3, 1) := by decide +kernel
theorem dX2_alarmAt_8 : decode cX2_alarmAt 8 = .ok (.aload_n 3, 1) := by decide +kernel
theorem dX2_alarmAt_9 : decode cX2_alarmAt 9 = .ok (.iload_n 1, 1) := by decide +kernel
theorem dX2_alarmAt_10 : decode cX2_alarmAt 10 = .ok (.invokevirtual 148, 3) := by decide +kernel
theorem dX2_alarmAt_13 : decode cX2_alarmAt 13 = .ok (.ifCond .ne 6, 3) := by decide +kernel
theorem dX2_alarmAt_16 : decode cX2_alarmAt 16 = .ok (.ldc 140, 2) := by decide +kernel
theorem dX2_alarmAt_18 : decode cX2_alarmAt 18 = .ok (.ireturn, 1) := by decide +kernel
theorem dX2_alarmAt_19 : decode cX2_alarmAt 19 = .ok (.iload_n 2, 1) := by decide +kernel
theorem dX2_alarmAt_20 : decode cX2_alarmAt 20 = .ok (.tableswitch 78 0 4 #[36, 43, 50, 57, 64], 36) := by decide +kernel
theorem dX2_alarmAt_56 : decode cX2_alarmAt 56 = .ok (.aload_n 3, 1) := by decide +kernel
theorem dX2_alarmAt_57 : decode cX2_alarmAt 57 = .ok (.getfield 151, 3) := by decide +kernel
theorem dX2_alarmAt_60 : decode cX2_alarmAt 60 = .ok (.iload_n 1, 1) := by decide +kernel
theorem dX2_alarmAt_61 : decode cX2_alarmAt 61 = .ok (.iaload, 1) := by decide +kernel
theorem dX2_alarmAt_62 : decode cX2_alarmAt 62 = .ok (.ireturn, 1) := by decide +kernel
theorem dX2_alarmAt_63 : decode cX2_alarmAt 63 = .ok (.aload_n 3, 1) := by decide +kernel
theorem dX2_alarmAt_64 : decode cX2_alarmAt 64 = .ok (.getfield 154, 3) := by decide +kernel
theorem dX2_alarmAt_67 : decode cX2_alarmAt 67 = .ok (.iload_n 1, 1) := by decide +kernel
theorem dX2_alarmAt_68 : decode cX2_alarmAt 68 = .ok (.iaload, 1) := by decide +kernel
theorem dX2_alarmAt_69 : decode cX2_alarmAt 69 = .ok (.ireturn, 1) := by decide +kernel
theorem dX2_alarmAt_70 : decode cX2_alarmAt 70 = .ok (.aload_n 3, 1) := by decide +kernel
theorem dX2_alarmAt_71 : decode cX2_alarmAt 71 = .ok (.getfield 157, 3) := by decide +kernel
theorem dX2_alarmAt_74 : decode cX2_alarmAt 74 = .ok (.iload_n 1, 1) := by decide +kernel
theorem dX2_alarmAt_75 : decode cX2_alarmAt 75 = .ok (.iaload, 1) := by decide +kernel
theorem dX2_alarmAt_76 : decode cX2_alarmAt 76 = .ok (.ireturn, 1) := by decide +kernel
theorem dX2_alarmAt_77 : decode cX2_alarmAt 77 = .ok (.aload_n 3, 1) := by decide +kernel
theorem dX2_alarmAt_78 : decode cX2_alarmAt 78 = .ok (.getfield 160, 3) := by decide +kernel
theorem dX2_alarmAt_81 : decode cX2_alarmAt 81 = .ok (.iload_n 1, 1) := by decide +kernel
theorem dX2_alarmAt_82 : decode cX2_alarmAt 82 = .ok (.iaload, 1) := by decide +kernel
theorem dX2_alarmAt_83 : decode cX2_alarmAt 83 = .ok (.ireturn, 1) := by decide +kernel
theorem dX2_alarmAt_84 : decode cX2_alarmAt 84 = .ok (.aload_n 3, 1) := by decide +kernel
theorem dX2_alarmAt_85 : decode cX2_alarmAt 85 = .ok (.iload_n 1, 1) := by decide +kernel
theorem dX2_alarmAt_86 : decode cX2_alarmAt 86 = .ok (.aload_n 0, 1) := by decide +kernel
theorem dX2_alarmAt_87 : decode cX2_alarmAt 87 = .ok (.getfield 10, 3) := by decide +kernel
theorem dX2_alarmAt_90 : decode cX2_alarmAt 90 = .ok (.invokevirtual 123, 3) := by decide +kernel
theorem dX2_alarmAt_93 : decode cX2_alarmAt 93 = .ok (.invokevirtual 163, 3) := by decide +kernel
theorem dX2_alarmAt_96 : decode cX2_alarmAt 96 = .ok (.l2i, 1) := by decide +kernel
theorem dX2_alarmAt_97 : decode cX2_alarmAt 97 = .ok (.ireturn, 1) := by decide +kernel
theorem dX2_alarmAt_98 : decode cX2_alarmAt 98 = .ok (.ldc 110, 2) := by decide +kernel
theorem dX2_alarmAt_100 : decode cX2_alarmAt 100 = .ok (.ireturn, 1) := by decide +kernel
set_option maxRecDepth 20000 in
theorem ggX2_tick_X2_isWithin : GoodIn wsX2_tick wsX2_isWithin := goodIn_r _ [6] (by decide +kernel) (by decide +kernel)
set_option maxRecDepth 20000 in
theorem gX2_tick_X2_isWithin : GoodIn wsX2_tick (va_wsS RX2 167 yX2_isWithin wsX2_isWithin) := goodIn_app (goodIn_of _ (by decide +kernel)) ggX2_tick_X2_isWithin
set_option maxRecDepth 20000 in
theorem ggX2_tick_X2_remember : GoodIn wsX2_tick wsX2_remember := goodIn_r _ [10, 11, 12, 2, 13, 14, 15, 16, 17, 18, 19, 20, 21, 22, 23, 24, 25, 26, 27, 28, 29, 30, 31, 32, 33, 34, 35, 36, 37, 38, 39, 40, 41, 42, 43, 44, 45, 46, 47, 48, 49, 50, 51, 52, 53, 54, 55, 56, 57, 58, 59, 158, 159, 160, 161, 162, 163, 164, 165, 166, 167, 168, 169, 170, 171, 172, 173, 174, 175, 176, 177, 178, 179, 180, 181, 182, 183, 184, 185, 186, 187, 188, 189, 190] (by decide +kernel) (by decide +kernel)
set_option maxRecDepth 20000 in
theorem gX2_tick_X2_remember : GoodIn wsX2_tick (wsV RX2 171 RX2 yX2_remember wsX2_remember) := goodIn_app (goodIn_of _ (by decide +kernel)) ggX2_tick_X2_remember
set_option maxRecDepth 20000 in
theorem ggX2_tick_X1_pass : GoodIn wsX2_tick wsX1_pass := goodIn_r _ [63, 23, 64, 24, 34, 25, 65, 30, 32, 66, 67, 68, 16, 69, 44, 70, 71, 72, 21, 73, 74, 75, 76, 77, 26, 36, 37, 38, 78, 5, 79, 80, 81, 82, 83, 84, 85, 86, 87, 27, 29, 28, 88, 89, 90, 91, 92, 93, 94, 95, 39, 96, 97, 98, 99, 58, 100, 101, 102, 103, 104, 31, 105, 106, 107, 108, 109, 110, 111, 112, 113, 114, 115, 116, 117, 33, 118, 119, 120, 48, 121, 50, 55, 122, 123, 15, 17, 124, 125, 126, 127, 128, 129, 130, 131, 132, 51, 133, 53, 134, 135, 54, 136, 137, 138, 139, 140, 141, 142, 143, 144, 145, 146, 147, 148, 149, 150, 151, 152, 153, 154, 155, 156, 157, 168, 169, 170, 171, 172, 173, 174, 175, 176, 177, 178, 179, 180, 181, 182, 183, 184, 185, 186, 187, 188, 189, 190] (by decide +kernel) (by decide +kernel)
set_option maxRecDepth 20000 in
theorem gX2_tick_X1_pass : GoodIn wsX2_tick (wsV RX2 174 RX1 yX1_pass wsX1_pass) := goodIn_app (goodIn_of _ (by decide +kernel)) ggX2_tick_X1_pass
theorem dX2_tick_0 : decode cX2_tick 0 = .ok (.iload_n 1, 1) := by decide +kernel
theorem dX2_tick_1 : decode cX2_tick 1 = .ok (.iconst 1, 1) := by decide +kernel
theorem dX2_tick_2 : decode cX2_tick 2 = .ok (.sipush 2000, 3) := by decide +kernel
theorem dX2_tick_5 : decode cX2_tick 5 = .ok (.invokestatic 167, 3) := by decide +kernel
theorem dX2_tick_8 : decode cX2_tick 8 = .ok (.ifCond .ne 6, 3) := by decide +kernel
theorem dX2_tick_11 : decode cX2_tick 11 = .ok (.ldc 110, 2) := by decide +kernel
theorem dX2_tick_13 : decode cX2_tick 13 = .ok (.ireturn, 1) := by decide +kernel
theorem dX2_tick_14 : decode cX2_tick 14 = .ok (.aload_n 0, 1) := by decide +kernel
theorem dX2_tick_15 : decode cX2_tick 15 = .ok (.invokevirtual 171, 3) := by decide +kernel
theorem dX2_tick_18 : decode cX2_tick 18 = .ok (.aload_n 0, 1) := by decide +kernel
theorem dX2_tick_19 : decode cX2_tick 19 = .ok (.getfield 10, 3) := by decide +kernel
theorem dX2_tick_22 : decode cX2_tick 22 = .ok (.iload_n 1, 1) := by decide +kernel
theorem dX2_tick_23 : decode cX2_tick 23 = .ok (.invokevirtual 174, 3) := by decide +kernel
theorem dX2_tick_26 : decode cX2_tick 26 = .ok (.ireturn, 1) := by decide +kernel
set_option maxRecDepth 20000 in
theorem ggX2_warm_X2_isWithin : GoodIn wsX2_warm wsX2_isWithin := goodIn_r _ [7] (by decide +kernel) (by decide +kernel)
set_option maxRecDepth 20000 in
theorem gX2_warm_X2_isWithin : GoodIn wsX2_warm (va_wsS RX2 167 yX2_isWithin wsX2_isWithin) := goodIn_app (goodIn_of _ (by decide +kernel)) ggX2_warm_X2_isWithin
set_option maxRecDepth 20000 in
theorem ggX2_warm_X2_remember : GoodIn wsX2_warm wsX2_remember := goodIn_r _ [11, 12, 13, 2, 14, 15, 16, 17, 18, 19, 20, 21, 22, 23, 24, 25, 26, 27, 28, 29, 30, 31, 32, 33, 34, 35, 36, 37, 38, 39, 40, 41, 42, 43, 44, 45, 46, 47, 48, 49, 50, 51, 52, 53, 54, 55, 56, 57, 58, 59, 60, 61, 62, 63, 64, 65, 66, 67, 68, 69, 70, 71, 72, 73, 74, 75, 76, 77, 78, 79, 80, 81, 82, 83, 84, 85, 86, 87, 88, 89, 90, 91, 92, 93] (by decide +kernel) (by decide +kernel)
set_option maxRecDepth 20000 in
theorem gX2_warm_X2_remember : GoodIn wsX2_warm (wsV RX2 171 RX2 yX2_remember wsX2_remember) := goodIn_app (goodIn_of _ (by decide +kernel)) ggX2_warm_X2_remember
theorem dX2_warm_0 : decode cX2_warm 0 = .ok (.iload_n 1, 1) := by decide +kernel
theorem dX2_warm_1 : decode cX2_warm 1 = .ok (.bipush (-20), 2) := by decide +kernel
theorem dX2_warm_3 : decode cX2_warm 3 = .ok (.bipush 69, 2) := by decide +kernel
theorem dX2_warm_5 : decode cX2_warm 5 = .ok (.invokestatic 167, 3) := by decide +kernel
theorem dX2_warm_8 : decode cX2_warm 8 = .ok (.ifCond .ne 6, 3) := by decide +kernel
theorem dX2_warm_11 : decode cX2_warm 11 = .ok (.ldc 110, 2) := by decide +kernel
theorem dX2_warm_13 : decode cX2_warm 13 = .ok (.ireturn, 1) := by decide +kernel
theorem dX2_warm_14 : decode cX2_warm 14 = .ok (.aload_n 0, 1) := by decide +kernel
theorem dX2_warm_15 : decode cX2_warm 15 = .ok (.invokevirtual 171, 3) := by decide +kernel
theorem dX2_warm_18 : decode cX2_warm 18 = .ok (.aload_n 0, 1) := by decide +kernel
theorem dX2_warm_19 : decode cX2_warm 19 = .ok (.getfield 10, 3) := by decide +kernel
theorem dX2_warm_22 : decode cX2_warm 22 = .ok (.getfield 47, 3) := by decide +kernel
theorem dX2_warm_25 : decode cX2_warm 25 = .ok (.istore_n 2, 1) := by decide +kernel
theorem dX2_warm_26 : decode cX2_warm 26 = .ok (.aload_n 0, 1) := by decide +kernel
theorem dX2_warm_27 : decode cX2_warm 27 = .ok (.getfield 10, 3) := by decide +kernel
theorem dX2_warm_30 : decode cX2_warm 30 = .ok (.iload_n 1, 1) := by decide +kernel
theorem dX2_warm_31 : decode cX2_warm 31 = .ok (.putfield 47, 3) := by decide +kernel
theorem dX2_warm_34 : decode cX2_warm 34 = .ok (.iload_n 2, 1) := by decide +kernel
theorem dX2_warm_35 : decode cX2_warm 35 = .ok (.bipush 20, 2) := by decide +kernel
theorem dX2_warm_37 : decode cX2_warm 37 = .ok (.iadd, 1) := by decide +kernel
theorem dX2_warm_38 : decode cX2_warm 38 = .ok (.ireturn, 1) := by decide +kernel
set_option maxRecDepth 20000 in
theorem ggX2_crystal_X2_isWithin : GoodIn wsX2_crystal wsX2_isWithin := goodIn_r _ [10] (by decide +kernel) (by decide +kernel)
set_option maxRecDepth 20000 in
theorem gX2_crystal_X2_isWithin : GoodIn wsX2_crystal (va_wsS RX2 167 yX2_isWithin wsX2_isWithin) := goodIn_app (goodIn_of _ (by decide +kernel)) ggX2_crystal_X2_isWithin
set_option maxRecDepth 20000 in
theorem ggX2_crystal_X2_remember : GoodIn wsX2_crystal wsX2_remember := goodIn_r _ [14, 15, 16, 2, 17, 18, 19, 20, 21, 22, 23, 24, 25, 26, 27, 28, 29, 30, 31, 32, 33, 34, 35, 36, 37, 38, 39, 40, 41, 42, 43, 44, 45, 46, 47, 48, 49, 50, 51, 52, 53, 54, 55, 56, 57, 58, 59, 60, 61, 62, 63, 68, 69, 70, 71, 72, 73, 74, 75, 76, 77, 78, 79, 80, 81, 82, 83, 84, 85, 86, 87, 88, 89, 90, 91, 92, 93, 94, 95, 96, 97, 98, 99, 100] (by decide +kernel) (by decide +kernel)
set_option maxRecDepth 20000 in
theorem gX2_crystal_X2_remember : GoodIn wsX2_crystal (wsV RX2 171 RX2 yX2_remember wsX2_remember) := goodIn_app (goodIn_of _ (by decide +kernel)) ggX2_crystal_X2_remember
set_option maxRecDepth 20000 in
theorem ggX2_crystal_X1_offAt : GoodIn wsX2_crystal wsX1_offAt := goodIn_r _ [67, 31, 33, 32, 78, 79, 80, 81, 82, 83, 84, 85, 86, 87, 88, 89, 90, 91, 92, 93, 94, 95] (by decide +kernel) (by decide +kernel)
set_option maxRecDepth 20000 in
theorem gX2_crystal_X1_offAt : GoodIn wsX2_crystal (wsV RX2 54 RX1 yX1_offAt wsX1_offAt) := goodIn_app (goodIn_of _ (by decide +kernel)) ggX2_crystal_X1_offAt
theorem dX2_crystal_0 : decode cX2_crystal 0 = .ok (.iload_n 1, 1) := by decide +kernel
theorem dX2_crystal_1 : decode cX2_crystal 1 = .ok (.iconst 0, 1) := by decide +kernel
theorem dX2_crystal_2 : decode cX2_crystal 2 = .ok (.bipush 40, 2) := by decide +kernel
theorem dX2_crystal_4 : decode cX2_crystal 4 = .ok (.invokestatic 167, 3) := by decide +kernel
theorem dX2_crystal_7 : decode cX2_crystal 7 = .ok (.ifCond .eq 24, 3) := by decide +kernel
theorem dX2_crystal_10 : decode cX2_crystal 10 = .ok (.iload_n 2, 1) := by decide +kernel
theorem dX2_crystal_11 : decode cX2_crystal 11 = .ok (.iconst 0, 1) := by decide +kernel
theorem dX2_crystal_12 : decode cX2_crystal 12 = .ok (.bipush 20, 2) := by decide +kernel
theorem dX2_crystal_14 : decode cX2_crystal 14 = .ok (.invokestatic 167, 3) := by decide +kernel
theorem dX2_crystal_17 : decode cX2_crystal 17 = .ok (.ifCond .eq 14, 3) := by decide +kernel
theorem dX2_crystal_20 : decode cX2_crystal 20 = .ok (.iload_n 3, 1) := by decide +kernel
theorem dX2_crystal_21 : decode cX2_crystal 21 = .ok (.bipush (-9), 2) := by decide +kernel
theorem dX2_crystal_23 : decode cX2_crystal 23 = .ok (.bipush 9, 2) := by decide +kernel
theorem dX2_crystal_25 : decode cX2_crystal 25 = .ok (.invokestatic 167, 3) := by decide +kernel
theorem dX2_crystal_28 : decode cX2_crystal 28 = .ok (.ifCond .ne 6, 3) := by decide +kernel
theorem dX2_crystal_31 : decode cX2_crystal 31 = .ok (.ldc 110, 2) := by decide +kernel
theorem dX2_crystal_33 : decode cX2_crystal 33 = .ok (.ireturn, 1) := by decide +kernel
theorem dX2_crystal_34 : decode cX2_crystal 34 = .ok (.aload_n 0, 1) := by decide +kernel
theorem dX2_crystal_35 : decode cX2_crystal 35 = .ok (.invokevirtual 171, 3) := by decide +kernel
theorem dX2_crystal_38 : decode cX2_crystal 38 = .ok (.aload_n 0, 1) := by decide +kernel
theorem dX2_crystal_39 : decode cX2_crystal 39 = .ok (.getfield 10, 3) := by decide +kernel
theorem dX2_crystal_42 : decode cX2_crystal 42 = .ok (.iload_n 1, 1) := by decide +kernel
theorem dX2_crystal_43 : decode cX2_crystal 43 = .ok (.putfield 177, 3) := by decide +kernel
theorem dX2_crystal_46 : decode cX2_crystal 46 = .ok (.aload_n 0, 1) := by decide +kernel
theorem dX2_crystal_47 : decode cX2_crystal 47 = .ok (.getfield 10, 3) := by decide +kernel
theorem dX2_crystal_50 : decode cX2_crystal 50 = .ok (.iload_n 2, 1) := by decide +kernel
theorem dX2_crystal_51 : decode cX2_crystal 51 = .ok (.putfield 180, 3) := by decide +kernel
theorem dX2_crystal_54 : decode cX2_crystal 54 = .ok (.aload_n 0, 1) := by decide +kernel
theorem dX2_crystal_55 : decode cX2_crystal 55 = .ok (.getfield 10, 3) := by decide +kernel
theorem dX2_crystal_58 : decode cX2_crystal 58 = .ok (.iload_n 3, 1) := by decide +kernel
theorem dX2_crystal_59 : decode cX2_crystal 59 = .ok (.putfield 183, 3) := by decide +kernel
theorem dX2_crystal_62 : decode cX2_crystal 62 = .ok (.aload_n 0, 1) := by decide +kernel
theorem dX2_crystal_63 : decode cX2_crystal 63 = .ok (.getfield 10, 3) := by decide +kernel
theorem dX2_crystal_66 : decode cX2_crystal 66 = .ok (.aload_n 0, 1) := by decide +kernel
theorem dX2_crystal_67 : decode cX2_crystal 67 = .ok (.getfield 10, 3) := by decide +kernel
theorem dX2_crystal_70 : decode cX2_crystal 70 = .ok (.getfield 47, 3) := by decide +kernel
theorem dX2_crystal_73 : decode cX2_crystal 73 = .ok (.invokevirtual 54, 3) := by decide +kernel
theorem dX2_crystal_76 : decode cX2_crystal 76 = .ok (.sipush 10000, 3) := by decide +kernel
theorem dX2_crystal_79 : decode cX2_crystal 79 = .ok (.iadd, 1) := by decide +kernel
theorem dX2_crystal_80 : decode cX2_crystal 80 = .ok (.ireturn, 1) := by decide +kernel
set_option maxRecDepth 20000 in
theorem ggX2_bound_X2_changeStep : GoodIn wsX2_bound wsX2_changeStep := goodIn_r _ [6, 1, 7, 8, 9, 10, 5, 11, 12, 13, 14, 15, 16, 17, 18, 19, 20, 21, 22, 23, 24, 25, 26, 27, 28, 29, 30, 31, 32, 33, 34, 35, 36, 37, 38, 39, 40, 41, 42, 43, 44, 45, 46, 47, 48, 49, 50, 51, 52, 53, 54, 55, 56, 57, 58, 59, 60, 61, 62, 63, 64, 70, 71, 72, 73, 74, 75, 76, 77, 78, 79, 80, 81, 82, 83, 84, 85, 86, 87, 88, 89, 90, 91, 92, 93, 94, 95, 96, 97, 98, 99, 100, 101, 102] (by decide +kernel) (by decide +kernel)
set_option maxRecDepth 20000 in
theorem gX2_bound_X2_changeStep : GoodIn wsX2_bound (wsV RX2 186 RX2 yX2_changeStep wsX2_changeStep) := goodIn_app (goodIn_of _ (by decide +kernel)) ggX2_bound_X2_changeStep
set_option maxRecDepth 20000 in
theorem ggX2_bound_X2_changeWider : GoodIn wsX2_bound wsX2_changeWider := goodIn_r _ [68, 1, 7, 69, 9, 10, 5, 11, 12, 13, 14, 15, 16, 17, 18, 19, 20, 21, 22, 23, 24, 25, 26, 27, 28, 29, 30, 31, 32, 33, 34, 35, 36, 37, 38, 39, 40, 41, 42, 43, 44, 45, 46, 47, 48, 49, 50, 51, 52, 53, 54, 55, 56, 57, 58, 59, 60, 61, 62, 63, 64, 70, 71, 72, 73, 74, 75, 76, 77, 78, 79, 80, 81, 82, 83, 84, 85, 86, 87, 88, 89, 90, 91, 92, 93, 94, 95, 96, 97, 98, 99, 100, 101, 102] (by decide +kernel) (by decide +kernel)
set_option maxRecDepth 20000 in
theorem gX2_bound_X2_changeWider : GoodIn wsX2_bound (wsV RX2 189 RX2 yX2_changeWider wsX2_changeWider) := goodIn_app (goodIn_of _ (by decide +kernel)) ggX2_bound_X2_changeWider
theorem dX2_bound_0 : decode cX2_bound 0 = .ok (.iload_n 1, 1) := by decide +kernel
theorem dX2_bound_1 : decode cX2_bound 1 = .ok (.lookupswitch 39 #[(0, 27), (1, 33)], 27) := by decide +kernel
theorem dX2_bound_28 : decode cX2_bound 28 = .ok (.aload_n 0, 1) := by decide +kernel
theorem dX2_bound_29 : decode cX2_bound 29 = .ok (.iload_n 2, 1) := by decide +kernel
theorem dX2_bound_30 : decode cX2_bound 30 = .ok (.invokevirtual 186, 3) := by decide +kernel
theorem dX2_bound_33 : decode cX2_bound 33 = .ok (.ireturn, 1) := by decide +kernel
theorem dX2_bound_34 : decode cX2_bound 34 = .ok (.aload_n 0, 1) := by decide +kernel
theorem dX2_bound_35 : decode cX2_bound 35 = .ok (.iload_n 2, 1) := by decide +kernel
theorem dX2_bound_36 : decode cX2_bound 36 = .ok (.invokevirtual 189, 3) := by decide +kernel
theorem dX2_bound_39 : decode cX2_bound 39 = .ok (.ireturn, 1) := by decide +kernel
theorem dX2_bound_40 : decode cX2_bound 40 = .ok (.ldc 110, 2) := by decide +kernel
theorem dX2_bound_42 : decode cX2_bound 42 = .ok (.ireturn, 1) := by decide +kernel
set_option maxRecDepth 20000 in
theorem ggX2_power_X2_remember : GoodIn wsX2_power wsX2_remember := goodIn_r _ [7, 8, 9, 1, 10, 11, 12, 13, 14, 15, 16, 17, 18, 19, 20, 21, 22, 23, 24, 25, 26, 27, 28, 29, 30, 31, 32, 33, 34, 35, 36, 37, 38, 39, 40, 41, 42, 43, 44, 45, 46, 47, 48, 49, 50, 51, 52, 53, 54, 55, 56, 60, 61, 62, 63, 64, 65, 66, 67, 68, 69, 70, 71, 72, 73, 74, 75, 76, 77, 78, 79, 80, 81, 82, 83, 84, 85, 86, 87, 88, 89, 90, 91, 92] (by decide +kernel) (by decide +kernel)
set_option maxRecDepth 20000 in
theorem gX2_power_X2_remember : GoodIn wsX2_power (wsV RX2 171 RX2 yX2_remember wsX2_remember) := goodIn_app (goodIn_of _ (by decide +kernel)) ggX2_power_X2_remember
set_option maxRecDepth 20000 in
theorem ggX2_power_X2_asInt : GoodIn wsX2_power wsX2_asInt := goodIn_r _ [59] (by decide +kernel) (by decide +kernel)
set_option maxRecDepth 20000 in
theorem gX2_power_X2_asInt : GoodIn wsX2_power (va_wsS RX2 64 yX2_asInt wsX2_asInt) := goodIn_app (goodIn_of _ (by decide +kernel)) ggX2_power_X2_asInt
theorem dX2_power_0 : decode cX2_power 0 = .ok (.aload_n 0, 1) := by decide +kernel
theorem dX2_power_1 : decode cX2_power 1 = .ok (.invokevirtual 171, 3) := by decide +kernel
theorem dX2_power_4 : decode cX2_power 4 = .ok (.aload_n 0, 1) := by decide +kernel
theorem dX2_power_5 : decode cX2_power 5 = .ok (.getfield 10, 3) := by decide +kernel
theorem dX2_power_8 : decode cX2_power 8 = .ok (.getfield 77, 3) := by decide +kernel
theorem dX2_power_11 : decode cX2_power 11 = .ok (.invokestatic 64, 3) := by decide +kernel
theorem dX2_power_14 : decode cX2_power 14 = .ok (.istore_n 2, 1) := by decide +kernel
theorem dX2_power_15 : decode cX2_power 15 = .ok (.aload_n 0, 1) := by decide +kernel
theorem dX2_power_16 : decode cX2_power 16 = .ok (.getfield 10, 3) := by decide +kernel
theorem dX2_power_19 : decode cX2_power 19 = .ok (.iload_n 1, 1) := by decide +kernel
theorem dX2_power_20 : decode cX2_power 20 = .ok (.putfield 77, 3) := by decide +kernel
theorem dX2_power_23 : decode cX2_power 23 = .ok (.iload_n 2, 1) := by decide +kernel
theorem dX2_power_24 : decode cX2_power 24 = .ok (.ireturn, 1) := by decide +kernel
set_option maxRecDepth 20000 in
theorem ggX2_hear_X2_isWithin : GoodIn wsX2_hear wsX2_isWithin := goodIn_r _ [6] (by decide +kernel) (by decide +kernel)
set_option maxRecDepth 20000 in
theorem gX2_hear_X2_isWithin : GoodIn wsX2_hear (va_wsS RX2 167 yX2_isWithin wsX2_isWithin) := goodIn_app (goodIn_of _ (by decide +kernel)) ggX2_hear_X2_isWithin
set_option maxRecDepth 20000 in
theorem ggX2_hear_X2_remember : GoodIn wsX2_hear wsX2_remember := goodIn_r _ [10, 11, 12, 2, 13, 14, 15, 16, 17, 18, 19, 20, 21, 22, 23, 24, 25, 26, 27, 28, 29, 30, 31, 32, 33, 34, 35, 36, 37, 38, 39, 40, 41, 42, 43, 44, 45, 46, 47, 48, 49, 50, 51, 52, 53, 54, 55, 56, 57, 58, 59, 99, 100, 101, 102, 103, 104, 105, 106, 107, 108, 109, 110, 111, 112, 113, 114, 115, 116, 117, 118, 119, 120, 121, 122, 123, 124, 125, 126, 127, 128, 129, 130, 131] (by decide +kernel) (by decide +kernel)
set_option maxRecDepth 20000 in
theorem gX2_hear_X2_remember : GoodIn wsX2_hear (wsV RX2 171 RX2 yX2_remember wsX2_remember) := goodIn_app (goodIn_of _ (by decide +kernel)) ggX2_hear_X2_remember
set_option maxRecDepth 20000 in
theorem ggX2_hear_X1_takeIn : GoodIn wsX2_hear wsX1_takeIn := goodIn_r _ [63, 23, 64, 32, 65, 66, 16, 67, 68, 69, 70, 35, 36, 71, 72, 73, 21, 74, 38, 37, 75, 39, 76, 77, 78, 5, 79, 80, 81, 82, 83, 24, 25, 84, 85, 86, 87, 88, 89, 90, 91, 92, 93, 94, 58, 95, 109, 110, 111, 112, 113, 114, 115, 116, 117, 118, 119, 120, 121, 122, 123, 124, 125, 126] (by decide +kernel) (by decide +kernel)
set_option maxRecDepth 20000 in
theorem gX2_hear_X1_takeIn : GoodIn wsX2_hear (wsV RX2 192 RX1 yX1_takeIn wsX1_takeIn) := goodIn_app (goodIn_of _ (by decide +kernel)) ggX2_hear_X1_takeIn
set_option maxRecDepth 20000 in
theorem ggX2_hear_X2_asInt : GoodIn wsX2_hear wsX2_asInt := goodIn_r _ [98] (by decide +kernel) (by decide +kernel)
set_option maxRecDepth 20000 in
theorem gX2_hear_X2_asInt : GoodIn wsX2_hear (va_wsS RX2 64 yX2_asInt wsX2_asInt) := goodIn_app (goodIn_of _ (by decide +kernel)) ggX2_hear_X2_asInt
theorem dX2_hear_0 : decode cX2_hear 0 = .ok (.iload_n 1, 1) := by decide +kernel
theorem dX2_hear_1 : decode cX2_hear 1 = .ok (.sipush (-9999), 3) := by decide +kernel
theorem dX2_hear_4 : decode cX2_hear 4 = .ok (.sipush 9999, 3) := by decide +kernel
theorem dX2_hear_7 : decode cX2_hear 7 = .ok (.invokestatic 167, 3) := by decide +kernel
theorem dX2_hear_10 : decode cX2_hear 10 = .ok (.ifCond .eq 14, 3) := by decide +kernel
theorem dX2_hear_13 : decode cX2_hear 13 = .ok (.iload_n 2, 1) := by decide +kernel
theorem dX2_hear_14 : decode cX2_hear 14 = .ok (.iconst 0, 1) := by decide +kernel
theorem dX2_hear_15 : decode cX2_hear 15 = .ok (.sipush 5000, 3) := by decide +kernel
theorem dX2_hear_18 : decode cX2_hear 18 = .ok (.invokestatic 167, 3) := by decide +kernel
theorem dX2_hear_21 : decode cX2_hear 21 = .ok (.ifCond .ne 6, 3) := by decide +kernel
theorem dX2_hear_24 : decode cX2_hear 24 = .ok (.ldc 110, 2) := by decide +kernel
theorem dX2_hear_26 : decode cX2_hear 26 = .ok (.ireturn, 1) := by decide +kernel
theorem dX2_hear_27 : decode cX2_hear 27 = .ok (.aload_n 0, 1) := by decide +kernel
theorem dX2_hear_28 : decode cX2_hear 28 = .ok (.invokevirtual 171, 3) := by decide +kernel
theorem dX2_hear_31 : decode cX2_hear 31 = .ok (.aload_n 0, 1) := by decide +kernel
theorem dX2_hear_32 : decode cX2_hear 32 = .ok (.getfield 10, 3) := by decide +kernel
theorem dX2_hear_35 : decode cX2_hear 35 = .ok (.iload_n 1, 1) := by decide +kernel
theorem dX2_hear_36 : decode cX2_hear 36 = .ok (.iload_n 2, 1) := by decide +kernel
theorem dX2_hear_37 : decode cX2_hear 37 = .ok (.invokevirtual 192, 3) := by decide +kernel
theorem dX2_hear_40 : decode cX2_hear 40 = .ok (.invokestatic 64, 3) := by decide +kernel
theorem dX2_hear_43 : decode cX2_hear 43 = .ok (.ireturn, 1) := by decide +kernel
set_option maxRecDepth 20000 in
theorem ggX2_alarm_X2_isWithin : GoodIn wsX2_alarm wsX2_isWithin := goodIn_r _ [9] (by decide +kernel) (by decide +kernel)
set_option maxRecDepth 20000 in
theorem gX2_alarm_X2_isWithin : GoodIn wsX2_alarm (va_wsS RX2 167 yX2_isWithin wsX2_isWithin) := goodIn_app (goodIn_of _ (by decide +kernel)) ggX2_alarm_X2_isWithin
set_option maxRecDepth 20000 in
theorem ggX2_alarm_X2_remember : GoodIn wsX2_alarm wsX2_remember := goodIn_r _ [13, 14, 15, 2, 16, 17, 18, 19, 20, 21, 22, 23, 24, 25, 26, 27, 28, 29, 30, 31, 32, 33, 34, 35, 36, 37, 38, 39, 40, 41, 42, 43, 44, 45, 46, 47, 48, 49, 50, 51, 52, 53, 54, 55, 56, 57, 58, 59, 60, 61, 62, 68, 69, 70, 71, 72, 73, 74, 75, 76, 77, 78, 79, 80, 81, 82, 83, 84, 85, 86, 87, 88, 89, 90, 91, 92, 93, 94, 95, 96, 97, 98, 99, 100] (by decide +kernel) (by decide +kernel)
set_option maxRecDepth 20000 in
theorem gX2_alarm_X2_remember : GoodIn wsX2_alarm (wsV RX2 171 RX2 yX2_remember wsX2_remember) := goodIn_app (goodIn_of _ (by decide +kernel)) ggX2_alarm_X2_remember
set_option maxRecDepth 20000 in
theorem ggX2_alarm_X0_add : GoodIn wsX2_alarm wsX0_add := goodIn_r _ [66, 53, 67, 54, 56, 57, 58, 96, 97, 98, 99, 100] (by decide +kernel) (by decide +kernel)
set_option maxRecDepth 20000 in
theorem gX2_alarm_X0_add : GoodIn wsX2_alarm (wsV RX2 197 RX0 yX0_add wsX0_add) := goodIn_app (goodIn_of _ (by decide +kernel)) ggX2_alarm_X0_add
theorem dX2_alarm_0 : decode cX2_alarm 0 = .ok (.iload_n 1, 1) := by decide +kernel
theorem dX2_alarm_1 : decode cX2_alarm 1 = .ok (.iconst (-1), 1) := by decide +kernel
theorem dX2_alarm_2 : decode cX2_alarm 2 = .ok (.bipush 59, 2) := by decide +kernel
theorem dX2_alarm_4 : decode cX2_alarm 4 = .ok (.invokestatic 167, 3) := by decide +kernel
theorem dX2_alarm_7 : decode cX2_alarm 7 = .ok (.ifCond .eq 23, 3) := by decide +kernel
theorem dX2_alarm_10 : decode cX2_alarm 10 = .ok (.iload_n 2, 1) := by decide +kernel
theorem dX2_alarm_11 : decode cX2_alarm 11 = .ok (.iconst (-1), 1) := by decide +kernel
theorem dX2_alarm_12 : decode cX2_alarm 12 = .ok (.bipush 23, 2) := by decide +kernel
theorem dX2_alarm_14 : decode cX2_alarm 14 = .ok (.invokestatic 167, 3) := by decide +kernel
theorem dX2_alarm_17 : decode cX2_alarm 17 = .ok (.ifCond .eq 13, 3) := by decide +kernel
theorem dX2_alarm_20 : decode cX2_alarm 20 = .ok (.iload_n 3, 1) := by decide +kernel
theorem dX2_alarm_21 : decode cX2_alarm 21 = .ok (.iconst (-1), 1) := by decide +kernel
theorem dX2_alarm_22 : decode cX2_alarm 22 = .ok (.bipush 6, 2) := by decide +kernel
theorem dX2_alarm_24 : decode cX2_alarm 24 = .ok (.invokestatic 167, 3) := by decide +kernel
theorem dX2_alarm_27 : decode cX2_alarm 27 = .ok (.ifCond .ne 6, 3) := by decide +kernel
theorem dX2_alarm_30 : decode cX2_alarm 30 = .ok (.ldc 110, 2) := by decide +kernel
theorem dX2_alarm_32 : decode cX2_alarm 32 = .ok (.ireturn, 1) := by decide +kernel
theorem dX2_alarm_33 : decode cX2_alarm 33 = .ok (.aload_n 0, 1) := by decide +kernel
theorem dX2_alarm_34 : decode cX2_alarm 34 = .ok (.getfield 10, 3) := by decide +kernel
theorem dX2_alarm_37 : decode cX2_alarm 37 = .ok (.getfield 91, 3) := by decide +kernel
theorem dX2_alarm_40 : decode cX2_alarm 40 = .ok (.getfield 95, 3) := by decide +kernel
theorem dX2_alarm_43 : decode cX2_alarm 43 = .ok (.bipush 6, 2) := by decide +kernel
theorem dX2_alarm_45 : decode cX2_alarm 45 = .ok (.if_icmp .lt 6, 3) := by decide +kernel
theorem dX2_alarm_48 : decode cX2_alarm 48 = .ok (.ldc 196, 2) := by decide +kernel
theorem dX2_alarm_50 : decode cX2_alarm 50 = .ok (.ireturn, 1) := by decide +kernel
theorem dX2_alarm_51 : decode cX2_alarm 51 = .ok (.aload_n 0, 1) := by decide +kernel
theorem dX2_alarm_52 : decode cX2_alarm 52 = .ok (.invokevirtual 171, 3) := by decide +kernel
theorem dX2_alarm_55 : decode cX2_alarm 55 = .ok (.aload_n 0, 1) := by decide +kernel
theorem dX2_alarm_56 : decode cX2_alarm 56 = .ok (.getfield 10, 3) := by decide +kernel
theorem dX2_alarm_59 : decode cX2_alarm 59 = .ok (.getfield 91, 3) := by decide +kernel
theorem dX2_alarm_62 : decode cX2_alarm 62 = .ok (.iload_n 1, 1) := by decide +kernel
theorem dX2_alarm_63 : decode cX2_alarm 63 = .ok (.iload_n 2, 1) := by decide +kernel
theorem dX2_alarm_64 : decode cX2_alarm 64 = .ok (.iload_n 3, 1) := by decide +kernel
theorem dX2_alarm_65 : decode cX2_alarm 65 = .ok (.invokevirtual 197, 3) := by decide +kernel
theorem dX2_alarm_68 : decode cX2_alarm 68 = .ok (.ireturn, 1) := by decide +kernel
set_option maxRecDepth 20000 in
theorem ggX2_drop_X0_has : GoodIn wsX2_drop wsX0_has := goodIn_r _ [9, 10, 96, 97, 98, 99, 100] (by decide +kernel) (by decide +kernel)
set_option maxRecDepth 20000 in
theorem gX2_drop_X0_has : GoodIn wsX2_drop (wsV RX2 148 RX0 yX0_has wsX0_has) := goodIn_app (goodIn_of _ (by decide +kernel)) ggX2_drop_X0_has
set_option maxRecDepth 20000 in
theorem ggX2_drop_X2_remember : GoodIn wsX2_drop wsX2_remember := goodIn_r _ [15, 16, 17, 1, 18, 19, 20, 21, 22, 23, 24, 25, 26, 27, 28, 29, 30, 31, 32, 33, 34, 35, 36, 37, 38, 39, 40, 41, 42, 43, 44, 45, 46, 47, 48, 49, 50, 51, 52, 8, 53, 10, 54, 55, 56, 57, 58, 59, 60, 61, 62, 68, 69, 70, 71, 72, 73, 74, 75, 76, 77, 78, 79, 80, 81, 82, 83, 84, 85, 86, 87, 88, 89, 90, 91, 92, 93, 94, 95, 96, 97, 98, 99, 100] (by decide +kernel) (by decide +kernel)
set_option maxRecDepth 20000 in
theorem gX2_drop_X2_remember : GoodIn wsX2_drop (wsV RX2 171 RX2 yX2_remember wsX2_remember) := goodIn_app (goodIn_of _ (by decide +kernel)) ggX2_drop_X2_remember
set_option maxRecDepth 20000 in
theorem ggX2_drop_X0_remove : GoodIn wsX2_drop wsX0_remove := goodIn_r _ [66, 10, 54, 56, 57, 58, 67, 6, 7, 8, 9, 96, 97, 98, 99, 100] (by decide +kernel) (by decide +kernel)
set_option maxRecDepth 20000 in
theorem gX2_drop_X0_remove : GoodIn wsX2_drop (wsV RX2 201 RX0 yX0_remove wsX0_remove) := goodIn_app (goodIn_of _ (by decide +kernel)) ggX2_drop_X0_remove
theorem dX2_drop_0 : decode cX2_drop 0 = .ok (.aload_n 0, 1) := by decide +kernel
theorem dX2_drop_1 : decode cX2_drop 1 = .ok (.getfield 10, 3) := by decide +kernel
theorem dX2_drop_4 : decode cX2_drop 4 = .ok (.getfield 91, 3) := by decide +kernel
theorem dX2_drop_7 : decode cX2_drop 7 = .ok (.iload_n 1, 1) := by decide +kernel
theorem dX2_drop_8 : decode cX2_drop 8 = .ok (.invokevirtual 148, 3) := by decide +kernel
theorem dX2_drop_11 : decode cX2_drop 11 = .ok (.ifCond .ne 6, 3) := by decide +kernel
theorem dX2_drop_14 : decode cX2_drop 14 = .ok (.ldc 140, 2) := by decide +kernel
theorem dX2_drop_16 : decode cX2_drop 16 = .ok (.ireturn, 1) := by decide +kernel
theorem dX2_drop_17 : decode cX2_drop 17 = .ok (.aload_n 0, 1) := by decide +kernel
theorem dX2_drop_18 : decode cX2_drop 18 = .ok (.invokevirtual 171, 3) := by decide +kernel
theorem dX2_drop_21 : decode cX2_drop 21 = .ok (.aload_n 0, 1) := by decide +kernel
theorem dX2_drop_22 : decode cX2_drop 22 = .ok (.getfield 10, 3) := by decide +kernel
theorem dX2_drop_25 : decode cX2_drop 25 = .ok (.getfield 91, 3) := by decide +kernel
theorem dX2_drop_28 : decode cX2_drop 28 = .ok (.iload_n 1, 1) := by decide +kernel
theorem dX2_drop_29 : decode cX2_drop 29 = .ok (.invokevirtual 201, 3) := by decide +kernel
theorem dX2_drop_32 : decode cX2_drop 32 = .ok (.aload_n 0, 1) := by decide +kernel
theorem dX2_drop_33 : decode cX2_drop 33 = .ok (.getfield 10, 3) := by decide +kernel
theorem dX2_drop_36 : decode cX2_drop 36 = .ok (.getfield 91, 3) := by decide +kernel
theorem dX2_drop_39 : decode cX2_drop 39 = .ok (.getfield 95, 3) := by decide +kernel
theorem dX2_drop_42 : decode cX2_drop 42 = .ok (.ireturn, 1) := by decide +kernel
set_option maxRecDepth 20000 in
theorem ggX2_learn_X2_isSpan : GoodIn wsX2_learn wsX2_isSpan := goodIn_r _ [8] (by decide +kernel) (by decide +kernel)
set_option maxRecDepth 20000 in
theorem gX2_learn_X2_isSpan : GoodIn wsX2_learn (va_wsS RX2 136 yX2_isSpan wsX2_isSpan) := goodIn_app (goodIn_of _ (by decide +kernel)) ggX2_learn_X2_isSpan
set_option maxRecDepth 20000 in
theorem ggX2_learn_X2_isWithin : GoodIn wsX2_learn wsX2_isWithin := goodIn_r _ [11] (by decide +kernel) (by decide +kernel)
set_option maxRecDepth 20000 in
theorem gX2_learn_X2_isWithin : GoodIn wsX2_learn (va_wsS RX2 167 yX2_isWithin wsX2_isWithin) := goodIn_app (goodIn_of _ (by decide +kernel)) ggX2_learn_X2_isWithin
set_option maxRecDepth 20000 in
theorem ggX2_learn_X2_remember : GoodIn wsX2_learn wsX2_remember := goodIn_r _ [15, 16, 17, 3, 18, 19, 20, 21, 22, 23, 24, 25, 26, 27, 28, 29, 30, 31, 32, 33, 34, 35, 36, 37, 38, 39, 40, 41, 42, 43, 44, 45, 46, 47, 48, 49, 50, 51, 52, 53, 54, 55, 56, 57, 58, 59, 60, 61, 62, 63, 64, 65, 66, 67, 68, 69, 70, 71, 72, 73, 74, 75, 76, 77, 78, 79, 80, 81, 82, 83, 84, 85, 86, 87, 88, 89, 90, 91, 92, 93, 94, 95, 96, 97] (by decide +kernel) (by decide +kernel)
set_option maxRecDepth 20000 in
theorem gX2_learn_X2_remember : GoodIn wsX2_learn (wsV RX2 171 RX2 yX2_remember wsX2_remember) := goodIn_app (goodIn_of _ (by decide +kernel)) ggX2_learn_X2_remember
theorem dX2_learn_0 : decode cX2_learn 0 = .ok (.iload_n 1, 1) := by decide +kernel
theorem dX2_learn_1 : decode cX2_learn 1 = .ok (.invokestatic 136, 3) := by decide +kernel
theorem dX2_learn_4 : decode cX2_learn 4 = .ok (.ifCond .ne 6, 3) := by decide +kernel
theorem dX2_learn_7 : decode cX2_learn 7 = .ok (.ldc 140, 2) := by decide +kernel
theorem dX2_learn_9 : decode cX2_learn 9 = .ok (.ireturn, 1) := by decide +kernel
theorem dX2_learn_10 : decode cX2_learn 10 = .ok (.iload_n 2, 1) := by decide +kernel
theorem dX2_learn_11 : decode cX2_learn 11 = .ok (.sipush (-9999), 3) := by decide +kernel
theorem dX2_learn_14 : decode cX2_learn 14 = .ok (.sipush 9999, 3) := by decide +kernel
theorem dX2_learn_17 : decode cX2_learn 17 = .ok (.invokestatic 167, 3) := by decide +kernel
theorem dX2_learn_20 : decode cX2_learn 20 = .ok (.ifCond .ne 6, 3) := by decide +kernel
theorem dX2_learn_23 : decode cX2_learn 23 = .ok (.ldc 110, 2) := by decide +kernel
theorem dX2_learn_25 : decode cX2_learn 25 = .ok (.ireturn, 1) := by decide +kernel
theorem dX2_learn_26 : decode cX2_learn 26 = .ok (.aload_n 0, 1) := by decide +kernel
theorem dX2_learn_27 : decode cX2_learn 27 = .ok (.invokevirtual 171, 3) := by decide +kernel
theorem dX2_learn_30 : decode cX2_learn 30 = .ok (.aload_n 0, 1) := by decide +kernel
theorem dX2_learn_31 : decode cX2_learn 31 = .ok (.getfield 10, 3) := by decide +kernel
theorem dX2_learn_34 : decode cX2_learn 34 = .ok (.getfield 141, 3) := by decide +kernel
theorem dX2_learn_37 : decode cX2_learn 37 = .ok (.iload_n 1, 1) := by decide +kernel
theorem dX2_learn_38 : decode cX2_learn 38 = .ok (.iaload, 1) := by decide +kernel
theorem dX2_learn_39 : decode cX2_learn 39 = .ok (.istore_n 3, 1) := by decide +kernel
theorem dX2_learn_40 : decode cX2_learn 40 = .ok (.aload_n 0, 1) := by decide +kernel
theorem dX2_learn_41 : decode cX2_learn 41 = .ok (.getfield 10, 3) := by decide +kernel
theorem dX2_learn_44 : decode cX2_learn 44 = .ok (.getfield 141, 3) := by decide +kernel
theorem dX2_learn_47 : decode cX2_learn 47 = .ok (.iload_n 1, 1) := by decide +kernel
theorem dX2_learn_48 : decode cX2_learn 48 = .ok (.iload_n 2, 1) := by decide +kernel
theorem dX2_learn_49 : decode cX2_learn 49 = .ok (.iastore, 1) := by decide +kernel
theorem dX2_learn_50 : decode cX2_learn 50 = .ok (.iload_n 3, 1) := by decide +kernel
theorem dX2_learn_51 : decode cX2_learn 51 = .ok (.sipush 10000, 3) := by decide +kernel
theorem dX2_learn_54 : decode cX2_learn 54 = .ok (.iadd, 1) := by decide +kernel
theorem dX2_learn_55 : decode cX2_learn 55 = .ok (.ireturn, 1) := by decide +kernel
set_option maxRecDepth 20000 in
theorem ggX2_drift_X2_isWithin : GoodIn wsX2_drift wsX2_isWithin := goodIn_r _ [7] (by decide +kernel) (by decide +kernel)
set_option maxRecDepth 20000 in
theorem gX2_drift_X2_isWithin : GoodIn wsX2_drift (va_wsS RX2 167 yX2_isWithin wsX2_isWithin) := goodIn_app (goodIn_of _ (by decide +kernel)) ggX2_drift_X2_isWithin
set_option maxRecDepth 20000 in
theorem ggX2_drift_X2_actByDraws : GoodIn wsX2_drift wsX2_actByDraws := goodIn_r _ [11, 2, 12, 13, 14, 15, 6, 16, 17, 18, 19, 20, 21, 22, 23, 24, 25, 26, 27, 28, 29, 30, 31, 32, 33, 34, 35, 36, 37, 38, 39, 40, 41, 42, 43, 44, 45, 46, 47, 48, 49, 50, 51, 52, 53, 54, 55, 56, 57, 58, 59, 60, 61, 62, 63, 64, 65, 66, 67, 68, 69, 70, 71, 72, 73, 74, 75, 76, 77, 78, 79, 80, 81, 82, 83, 84, 85, 86, 87, 88, 89, 90, 91, 92, 93, 94, 95, 96, 97, 98, 99, 100, 101, 102, 103, 104, 105, 106, 107, 108, 109, 110, 111, 112, 113, 114, 115, 116, 117, 118, 119, 120, 121, 122, 123, 124, 125, 126, 127, 128, 129, 130, 131, 132, 133, 134, 135, 136, 137, 138, 139, 140, 141, 142, 143, 144, 145, 146, 147, 148, 149, 150, 151, 152, 153, 154, 155, 156, 157, 158, 159, 160, 161, 162, 163, 164, 165, 166, 167, 168, 169, 170, 171, 172, 173, 174, 175, 176, 177, 178, 179, 180, 181, 182, 183, 184, 185, 186, 187, 188, 189, 190, 191, 192, 193, 198, 199, 200, 201, 202, 203, 204, 205, 206, 207, 208, 209, 210, 211, 212, 213, 214, 215, 216, 217, 218, 219, 220, 221, 222, 223, 224, 225, 226, 227, 228, 229, 230] (by decide +kernel) (by decide +kernel)
set_option maxRecDepth 20000 in
theorem gX2_drift_X2_actByDraws : GoodIn wsX2_drift (wsV RX2 205 RX2 yX2_actByDraws wsX2_actByDraws) := goodIn_app (goodIn_of _ (by decide +kernel)) ggX2_drift_X2_actByDraws
set_option maxRecDepth 20000 in
theorem ggX2_drift_X0_totalRings : GoodIn wsX2_drift wsX0_totalRings := goodIn_r _ [197, 56, 61, 226, 227, 228, 229, 230] (by decide +kernel) (by decide +kernel)
set_option maxRecDepth 20000 in
theorem gX2_drift_X0_totalRings : GoodIn wsX2_drift (wsV RX2 100 RX0 yX0_totalRings wsX0_totalRings) := goodIn_app (goodIn_of _ (by decide +kernel)) ggX2_drift_X0_totalRings
theorem dX2_drift_0 : decode cX2_drift 0 = .ok (.iload_n 1, 1) := by decide +kernel
theorem dX2_drift_1 : decode cX2_drift 1 = .ok (.iconst 1, 1) := by decide +kernel
theorem dX2_drift_2 : decode cX2_drift 2 = .ok (.bipush 20, 2) := by decide +kernel
theorem dX2_drift_4 : decode cX2_drift 4 = .ok (.invokestatic 167, 3) := by decide +kernel
theorem dX2_drift_7 : decode cX2_drift 7 = .ok (.ifCond .ne 6, 3) := by decide +kernel
theorem dX2_drift_10 : decode cX2_drift 10 = .ok (.ldc 110, 2) := by decide +kernel
theorem dX2_drift_12 : decode cX2_drift 12 = .ok (.ireturn, 1) := by decide +kernel
theorem dX2_drift_13 : decode cX2_drift 13 = .ok (.iconst 0, 1) := by decide +kernel
theorem dX2_drift_14 : decode cX2_drift 14 = .ok (.istore_n 2, 1) := by decide +kernel
theorem dX2_drift_15 : decode cX2_drift 15 = .ok (.iload_n 2, 1) := by decide +kernel
theorem dX2_drift_16 : decode cX2_drift 16 = .ok (.iload_n 1, 1) := by decide +kernel
theorem dX2_drift_17 : decode cX2_drift 17 = .ok (.if_icmp .ge 13, 3) := by decide +kernel
theorem dX2_drift_20 : decode cX2_drift 20 = .ok (.aload_n 0, 1) := by decide +kernel
theorem dX2_drift_21 : decode cX2_drift 21 = .ok (.invokevirtual 205, 3) := by decide +kernel
theorem dX2_drift_24 : decode cX2_drift 24 = .ok (.iinc 2 1, 3) := by decide +kernel
theorem dX2_drift_27 : decode cX2_drift 27 = .ok (.goto (-12), 3) := by decide +kernel
theorem dX2_drift_30 : decode cX2_drift 30 = .ok (.aload_n 0, 1) := by decide +kernel
theorem dX2_drift_31 : decode cX2_drift 31 = .ok (.getfield 10, 3) := by decide +kernel
theorem dX2_drift_34 : decode cX2_drift 34 = .ok (.getfield 91, 3) := by decide +kernel
theorem dX2_drift_37 : decode cX2_drift 37 = .ok (.invokevirtual 100, 3) := by decide +kernel
theorem dX2_drift_40 : decode cX2_drift 40 = .ok (.ireturn, 1) := by decide +kernel
set_option maxRecDepth 20000 in
theorem ggX2_undo_X2_isWithin : GoodIn wsX2_undo wsX2_isWithin := goodIn_r _ [10] (by decide +kernel) (by decide +kernel)
set_option maxRecDepth 20000 in
theorem gX2_undo_X2_isWithin : GoodIn wsX2_undo (va_wsS RX2 167 yX2_isWithin wsX2_isWithin) := goodIn_app (goodIn_of _ (by decide +kernel)) ggX2_undo_X2_isWithin
set_option maxRecDepth 20000 in
theorem ggX2_undo_J9_floorMod_7cf53 : GoodIn wsX2_undo wsJ9_floorMod_7cf53 := goodIn_r _ [14] (by decide +kernel) (by decide +kernel)
set_option maxRecDepth 20000 in
theorem gX2_undo_J9_floorMod_7cf53 : GoodIn wsX2_undo (va_wsS RX2 209 yJ9_floorMod_7cf53 wsJ9_floorMod_7cf53) := goodIn_app (goodIn_of _ (by decide +kernel)) ggX2_undo_J9_floorMod_7cf53
set_option maxRecDepth 20000 in
theorem ggX2_undo_X1_copyFrom : GoodIn wsX2_undo wsX1_copyFrom := goodIn_r _ [19, 20, 21, 22, 23, 24, 25, 26, 27, 28, 29, 30, 31, 32, 33, 34, 35, 36, 37, 38, 39, 40, 41, 42, 43, 44, 45, 46, 47, 48, 49, 50, 51, 52, 63, 64, 65, 66, 67, 68, 69, 70, 71, 72, 73, 74, 75, 76, 77, 78, 79, 80, 81, 82, 83, 84, 85] (by decide +kernel) (by decide +kernel)
set_option maxRecDepth 20000 in
theorem gX2_undo_X1_copyFrom : GoodIn wsX2_undo (wsV RX2 215 RX1 yX1_copyFrom wsX1_copyFrom) := goodIn_app (goodIn_of _ (by decide +kernel)) ggX2_undo_X1_copyFrom
theorem dX2_undo_0 : decode cX2_undo 0 = .ok (.iload_n 1, 1) := by decide +kernel
theorem dX2_undo_1 : decode cX2_undo 1 = .ok (.iconst 1, 1) := by decide +kernel
theorem dX2_undo_2 : decode cX2_undo 2 = .ok (.bipush 20, 2) := by decide +kernel
theorem dX2_undo_4 : decode cX2_undo 4 = .ok (.invokestatic 167, 3) := by decide +kernel
theorem dX2_undo_7 : decode cX2_undo 7 = .ok (.ifCond .ne 6, 3) := by decide +kernel
theorem dX2_undo_10 : decode cX2_undo 10 = .ok (.ldc 110, 2) := by decide +kernel
theorem dX2_undo_12 : decode cX2_undo 12 = .ok (.ireturn, 1) := by decide +kernel
theorem dX2_undo_13 : decode cX2_undo 13 = .ok (.iload_n 1, 1) := by decide +kernel
theorem dX2_undo_14 : decode cX2_undo 14 = .ok (.aload_n 0, 1) := by decide +kernel
theorem dX2_undo_15 : decode cX2_undo 15 = .ok (.getfield 27, 3) := by decide +kernel
theorem dX2_undo_18 : decode cX2_undo 18 = .ok (.if_icmp .le 6, 3) := by decide +kernel
theorem dX2_undo_21 : decode cX2_undo 21 = .ok (.ldc 208, 2) := by decide +kernel
theorem dX2_undo_23 : decode cX2_undo 23 = .ok (.ireturn, 1) := by decide +kernel
theorem dX2_undo_24 : decode cX2_undo 24 = .ok (.aload_n 0, 1) := by decide +kernel
theorem dX2_undo_25 : decode cX2_undo 25 = .ok (.aload_n 0, 1) := by decide +kernel
theorem dX2_undo_26 : decode cX2_undo 26 = .ok (.getfield 24, 3) := by decide +kernel
theorem dX2_undo_29 : decode cX2_undo 29 = .ok (.iload_n 1, 1) := by decide +kernel
theorem dX2_undo_30 : decode cX2_undo 30 = .ok (.isub, 1) := by decide +kernel
theorem dX2_undo_31 : decode cX2_undo 31 = .ok (.bipush 20, 2) := by decide +kernel
theorem dX2_undo_33 : decode cX2_undo 33 = .ok (.invokestatic 209, 3) := by decide +kernel
theorem dX2_undo_36 : decode cX2_undo 36 = .ok (.putfield 24, 3) := by decide +kernel
theorem dX2_undo_39 : decode cX2_undo 39 = .ok (.aload_n 0, 1) := by decide +kernel
theorem dX2_undo_40 : decode cX2_undo 40 = .ok (.getfield 10, 3) := by decide +kernel
theorem dX2_undo_43 : decode cX2_undo 43 = .ok (.aload_n 0, 1) := by decide +kernel
theorem dX2_undo_44 : decode cX2_undo 44 = .ok (.getfield 20, 3) := by decide +kernel
theorem dX2_undo_47 : decode cX2_undo 47 = .ok (.aload_n 0, 1) := by decide +kernel
theorem dX2_undo_48 : decode cX2_undo 48 = .ok (.getfield 24, 3) := by decide +kernel
theorem dX2_undo_51 : decode cX2_undo 51 = .ok (.aaload, 1) := by decide +kernel
theorem dX2_undo_52 : decode cX2_undo 52 = .ok (.invokevirtual 215, 3) := by decide +kernel
theorem dX2_undo_55 : decode cX2_undo 55 = .ok (.aload_n 0, 1) := by decide +kernel
theorem dX2_undo_56 : decode cX2_undo 56 = .ok (.dup, 1) := by decide +kernel
theorem dX2_undo_57 : decode cX2_undo 57 = .ok (.getfield 27, 3) := by decide +kernel
theorem dX2_undo_60 : decode cX2_undo 60 = .ok (.iload_n 1, 1) := by decide +kernel
theorem dX2_undo_61 : decode cX2_undo 61 = .ok (.isub, 1) := by decide +kernel
theorem dX2_undo_62 : decode cX2_undo 62 = .ok (.putfield 27, 3) := by decide +kernel
theorem dX2_undo_65 : decode cX2_undo 65 = .ok (.aload_n 0, 1) := by decide +kernel
theorem dX2_undo_66 : decode cX2_undo 66 = .ok (.getfield 27, 3) := by decide +kernel
theorem dX2_undo_69 : decode cX2_undo 69 = .ok (.ireturn, 1) := by decide +kernel
set_option maxRecDepth 20000 in
theorem ggX2_evenly_X2_isWithin : GoodIn wsX2_evenly wsX2_isWithin := goodIn_r _ [5] (by decide +kernel) (by decide +kernel)
set_option maxRecDepth 20000 in
theorem gX2_evenly_X2_isWithin : GoodIn wsX2_evenly (va_wsS RX2 167 yX2_isWithin wsX2_isWithin) := goodIn_app (goodIn_of _ (by decide +kernel)) ggX2_evenly_X2_isWithin
set_option maxRecDepth 20000 in
theorem ggX2_evenly_X2_asInt : GoodIn wsX2_evenly wsX2_asInt := goodIn_r _ [8] (by decide +kernel) (by decide +kernel)
set_option maxRecDepth 20000 in
theorem gX2_evenly_X2_asInt : GoodIn wsX2_evenly (va_wsS RX2 64 yX2_asInt wsX2_asInt) := goodIn_app (goodIn_of _ (by decide +kernel)) ggX2_evenly_X2_asInt
theorem dX2_evenly_0 : decode cX2_evenly 0 = .ok (.iload_n 1, 1) := by decide +kernel
theorem dX2_evenly_1 : decode cX2_evenly 1 = .ok (.iconst 1, 1) := by decide +kernel
theorem dX2_evenly_2 : decode cX2_evenly 2 = .ok (.sipush 999, 3) := by decide +kernel
theorem dX2_evenly_5 : decode cX2_evenly 5 = .ok (.invokestatic 167, 3) := by decide +kernel
theorem dX2_evenly_8 : decode cX2_evenly 8 = .ok (.ifCond .eq 23, 3) := by decide +kernel
theorem dX2_evenly_11 : decode cX2_evenly 11 = .ok (.iload_n 2, 1) := by decide +kernel
theorem dX2_evenly_12 : decode cX2_evenly 12 = .ok (.iconst 0, 1) := by decide +kernel
theorem dX2_evenly_13 : decode cX2_evenly 13 = .ok (.iload_n 1, 1) := by decide +kernel
theorem dX2_evenly_14 : decode cX2_evenly 14 = .ok (.invokestatic 167, 3) := by decide +kernel
theorem dX2_evenly_17 : decode cX2_evenly 17 = .ok (.ifCond .eq 14, 3) := by decide +kernel
theorem dX2_evenly_20 : decode cX2_evenly 20 = .ok (.iload_n 3, 1) := by decide +kernel
theorem dX2_evenly_21 : decode cX2_evenly 21 = .ok (.iconst 0, 1) := by decide +kernel
theorem dX2_evenly_22 : decode cX2_evenly 22 = .ok (.iload_n 1, 1) := by decide +kernel
theorem dX2_evenly_23 : decode cX2_evenly 23 = .ok (.iconst 1, 1) := by decide +kernel
theorem dX2_evenly_24 : decode cX2_evenly 24 = .ok (.isub, 1) := by decide +kernel
theorem dX2_evenly_25 : decode cX2_evenly 25 = .ok (.invokestatic 167, 3) := by decide +kernel
theorem dX2_evenly_28 : decode cX2_evenly 28 = .ok (.ifCond .ne 6, 3) := by decide +kernel
theorem dX2_evenly_31 : decode cX2_evenly 31 = .ok (.ldc 110, 2) := by decide +kernel
theorem dX2_evenly_33 : decode cX2_evenly 33 = .ok (.ireturn, 1) := by decide +kernel
theorem dX2_evenly_34 : decode cX2_evenly 34 = .ok (.iload_n 3, 1) := by decide +kernel
theorem dX2_evenly_35 : decode cX2_evenly 35 = .ok (.iconst 1, 1) := by decide +kernel
theorem dX2_evenly_36 : decode cX2_evenly 36 = .ok (.iadd, 1) := by decide +kernel
theorem dX2_evenly_37 : decode cX2_evenly 37 = .ok (.iload_n 2, 1) := by decide +kernel
theorem dX2_evenly_38 : decode cX2_evenly 38 = .ok (.imul, 1) := by decide +kernel
theorem dX2_evenly_39 : decode cX2_evenly 39 = .ok (.iload_n 1, 1) := by decide +kernel
theorem dX2_evenly_40 : decode cX2_evenly 40 = .ok (.idiv, 1) := by decide +kernel
theorem dX2_evenly_41 : decode cX2_evenly 41 = .ok (.iload_n 3, 1) := by decide +kernel
theorem dX2_evenly_42 : decode cX2_evenly 42 = .ok (.iload_n 2, 1) := by decide +kernel
theorem dX2_evenly_43 : decode cX2_evenly 43 = .ok (.imul, 1) := by decide +kernel
theorem dX2_evenly_44 : decode cX2_evenly 44 = .ok (.iload_n 1, 1) := by decide +kernel
theorem dX2_evenly_45 : decode cX2_evenly 45 = .ok (.idiv, 1) := by decide +kernel
theorem dX2_evenly_46 : decode cX2_evenly 46 = .ok (.if_icmp .le 7, 3) := by decide +kernel
theorem dX2_evenly_49 : decode cX2_evenly 49 = .ok (.iconst 1, 1) := by decide +kernel
theorem dX2_evenly_50 : decode cX2_evenly 50 = .ok (.goto 4, 3) := by decide +kernel
theorem dX2_evenly_53 : decode cX2_evenly 53 = .ok (.iconst 0, 1) := by decide +kernel
theorem dX2_evenly_54 : decode cX2_evenly 54 = .ok (.invokestatic 64, 3) := by decide +kernel
theorem dX2_evenly_57 : decode cX2_evenly 57 = .ok (.ireturn, 1) := by decide +kernel
set_option maxRecDepth 20000 in
theorem ggX2_after_X2_isWithin : GoodIn wsX2_after wsX2_isWithin := goodIn_r _ [6] (by decide +kernel) (by decide +kernel)
set_option maxRecDepth 20000 in
theorem gX2_after_X2_isWithin : GoodIn wsX2_after (va_wsS RX2 167 yX2_isWithin wsX2_isWithin) := goodIn_app (goodIn_of _ (by decide +kernel)) ggX2_after_X2_isWithin
set_option maxRecDepth 20000 in
theorem ggX2_after_X1_boardTimeAfter : GoodIn wsX2_after wsX1_boardTimeAfter := goodIn_r _ [11, 12, 13, 14, 15, 16, 17, 18, 19, 10, 20, 21, 22, 23, 24, 25, 26, 27, 28, 29, 5, 30, 31, 32, 33, 34, 35, 36, 37, 38, 39, 40, 41, 42, 43, 44, 45, 46, 47, 48, 49, 50, 51, 52, 53, 54, 55, 56, 67, 68, 69, 70, 71, 72, 73, 74, 75, 76, 77, 78, 79, 80, 81, 82, 83, 84] (by decide +kernel) (by decide +kernel)
set_option maxRecDepth 20000 in
theorem gX2_after_X1_boardTimeAfter : GoodIn wsX2_after (wsV RX2 219 RX1 yX1_boardTimeAfter wsX1_boardTimeAfter) := goodIn_app (goodIn_of _ (by decide +kernel)) ggX2_after_X1_boardTimeAfter
theorem dX2_after_0 : decode cX2_after 0 = .ok (.iload_n 1, 1) := by decide +kernel
theorem dX2_after_1 : decode cX2_after 1 = .ok (.iconst 0, 1) := by decide +kernel
theorem dX2_after_2 : decode cX2_after 2 = .ok (.sipush 2000, 3) := by decide +kernel
theorem dX2_after_5 : decode cX2_after 5 = .ok (.invokestatic 167, 3) := by decide +kernel
theorem dX2_after_8 : decode cX2_after 8 = .ok (.ifCond .ne 7, 3) := by decide +kernel
theorem dX2_after_11 : decode cX2_after 11 = .ok (.ldc2_w 121, 3) := by decide +kernel
theorem dX2_after_14 : decode cX2_after 14 = .ok (.lreturn, 1) := by decide +kernel
theorem dX2_after_15 : decode cX2_after 15 = .ok (.aload_n 0, 1) := by decide +kernel
theorem dX2_after_16 : decode cX2_after 16 = .ok (.getfield 10, 3) := by decide +kernel
theorem dX2_after_19 : decode cX2_after 19 = .ok (.iload_n 1, 1) := by decide +kernel
theorem dX2_after_20 : decode cX2_after 20 = .ok (.invokevirtual 219, 3) := by decide +kernel
theorem dX2_after_23 : decode cX2_after 23 = .ok (.lreturn, 1) := by decide +kernel
set_option maxRecDepth 20000 in
theorem ggX2_rings_X2_isWithin : GoodIn wsX2_rings wsX2_isWithin := goodIn_r _ [8] (by decide +kernel) (by decide +kernel)
set_option maxRecDepth 20000 in
theorem gX2_rings_X2_isWithin : GoodIn wsX2_rings (va_wsS RX2 167 yX2_isWithin wsX2_isWithin) := goodIn_app (goodIn_of _ (by decide +kernel)) ggX2_rings_X2_isWithin
set_option maxRecDepth 20000 in
theorem ggX2_rings_X1_minuteNumber : GoodIn wsX2_rings wsX1_minuteNumber := goodIn_r _ [13, 14, 15, 121, 122, 123, 124, 125, 126, 127, 128, 129, 130, 131, 132, 133, 134, 135, 136, 137, 138] (by decide +kernel) (by decide +kernel)
set_option maxRecDepth 20000 in
theorem gX2_rings_X1_minuteNumber : GoodIn wsX2_rings (wsV RX2 123 RX1 yX1_minuteNumber wsX1_minuteNumber) := goodIn_app (goodIn_of _ (by decide +kernel)) ggX2_rings_X1_minuteNumber
set_option maxRecDepth 20000 in
theorem ggX2_rings_X1_boardTimeAfter : GoodIn wsX2_rings wsX1_boardTimeAfter := goodIn_r _ [19, 14, 15, 20, 21, 22, 23, 24, 25, 12, 26, 27, 28, 29, 30, 31, 32, 33, 34, 35, 7, 36, 37, 38, 39, 40, 41, 42, 43, 44, 45, 46, 47, 48, 49, 50, 51, 52, 53, 54, 55, 56, 57, 58, 59, 60, 61, 62, 121, 122, 123, 124, 125, 126, 127, 128, 129, 130, 131, 132, 133, 134, 135, 136, 137, 138] (by decide +kernel) (by decide +kernel)
set_option maxRecDepth 20000 in
theorem gX2_rings_X1_boardTimeAfter : GoodIn wsX2_rings (wsV RX2 219 RX1 yX1_boardTimeAfter wsX1_boardTimeAfter) := goodIn_app (goodIn_of _ (by decide +kernel)) ggX2_rings_X1_boardTimeAfter
set_option maxRecDepth 20000 in
theorem ggX2_rings_X0_ringsToCome : GoodIn wsX2_rings wsX0_ringsToCome := goodIn_r _ [67, 68, 69, 70, 71, 72, 58, 73, 74, 75, 76, 66, 77, 78, 79, 80, 81, 82, 83, 84, 85, 86, 87, 88, 89, 90, 91, 92, 93, 94, 95, 96, 97, 7, 98, 99, 100, 101, 102, 103, 104, 105, 106, 107, 108, 109, 110, 139, 140, 141, 142, 143] (by decide +kernel) (by decide +kernel)
set_option maxRecDepth 20000 in
theorem gX2_rings_X0_ringsToCome : GoodIn wsX2_rings (wsV RX2 225 RX0 yX0_ringsToCome wsX0_ringsToCome) := goodIn_app (goodIn_of _ (by decide +kernel)) ggX2_rings_X0_ringsToCome
theorem dX2_rings_0 : decode cX2_rings 0 = .ok (.iload_n 1, 1) := by decide +kernel
theorem dX2_rings_1 : decode cX2_rings 1 = .ok (.iconst 0, 1) := by decide +kernel
theorem dX2_rings_2 : decode cX2_rings 2 = .ok (.sipush 2000, 3) := by decide +kernel
theorem dX2_rings_5 : decode cX2_rings 5 = .ok (.invokestatic 167, 3) := by decide +kernel
theorem dX2_rings_8 : decode cX2_rings 8 = .ok (.ifCond .ne 6, 3) := by decide +kernel
theorem dX2_rings_11 : decode cX2_rings 11 = .ok (.ldc 110, 2) := by decide +kernel
theorem dX2_rings_13 : decode cX2_rings 13 = .ok (.ireturn, 1) := by decide +kernel
theorem dX2_rings_14 : decode cX2_rings 14 = .ok (.aload_n 0, 1) := by decide +kernel
theorem dX2_rings_15 : decode cX2_rings 15 = .ok (.getfield 10, 3) := by decide +kernel
theorem dX2_rings_18 : decode cX2_rings 18 = .ok (.getfield 91, 3) := by decide +kernel
theorem dX2_rings_21 : decode cX2_rings 21 = .ok (.aload_n 0, 1) := by decide +kernel
theorem dX2_rings_22 : decode cX2_rings 22 = .ok (.getfield 10, 3) := by decide +kernel
theorem dX2_rings_25 : decode cX2_rings 25 = .ok (.invokevirtual 123, 3) := by decide +kernel
theorem dX2_rings_28 : decode cX2_rings 28 = .ok (.aload_n 0, 1) := by decide +kernel
theorem dX2_rings_29 : decode cX2_rings 29 = .ok (.getfield 10, 3) := by decide +kernel
theorem dX2_rings_32 : decode cX2_rings 32 = .ok (.iload_n 1, 1) := by decide +kernel
theorem dX2_rings_33 : decode cX2_rings 33 = .ok (.invokevirtual 219, 3) := by decide +kernel
theorem dX2_rings_36 : decode cX2_rings 36 = .ok (.ldc2_w 223, 3) := by decide +kernel
theorem dX2_rings_39 : decode cX2_rings 39 = .ok (.ldiv, 1) := by decide +kernel
theorem dX2_rings_40 : decode cX2_rings 40 = .ok (.invokevirtual 225, 3) := by decide +kernel
theorem dX2_rings_43 : decode cX2_rings 43 = .ok (.ireturn, 1) := by decide +kernel
set_option maxRecDepth 20000 in
theorem ggX2_untilWide_X2_isWithin : GoodIn wsX2_untilWide wsX2_isWithin := goodIn_r _ [8] (by decide +kernel) (by decide +kernel)
set_option maxRecDepth 20000 in
theorem gX2_untilWide_X2_isWithin : GoodIn wsX2_untilWide (va_wsS RX2 167 yX2_isWithin wsX2_isWithin) := goodIn_app (goodIn_of _ (by decide +kernel)) ggX2_untilWide_X2_isWithin
set_option maxRecDepth 20000 in
theorem ggX2_untilWide_X1_ticksUntilWide : GoodIn wsX2_untilWide wsX1_ticksUntilWide := goodIn_r _ [13, 14, 15, 16, 17, 12, 18, 19, 20, 31, 32, 33, 34, 35, 36, 37, 38, 39, 40, 41, 42, 43, 44, 45, 46, 47, 48] (by decide +kernel) (by decide +kernel)
set_option maxRecDepth 20000 in
theorem gX2_untilWide_X1_ticksUntilWide : GoodIn wsX2_untilWide (wsV RX2 232 RX1 yX1_ticksUntilWide wsX1_ticksUntilWide) := goodIn_app (goodIn_of _ (by decide +kernel)) ggX2_untilWide_X1_ticksUntilWide
theorem dX2_untilWide_0 : decode cX2_untilWide 0 = .ok (.iload_n 1, 1) := by decide +kernel
theorem dX2_untilWide_1 : decode cX2_untilWide 1 = .ok (.iconst 0, 1) := by decide +kernel
theorem dX2_untilWide_2 : decode cX2_untilWide 2 = .ok (.ldc 229, 2) := by decide +kernel
theorem dX2_untilWide_4 : decode cX2_untilWide 4 = .ok (.invokestatic 167, 3) := by decide +kernel
theorem dX2_untilWide_7 : decode cX2_untilWide 7 = .ok (.ifCond .ne 6, 3) := by decide +kernel
theorem dX2_untilWide_10 : decode cX2_untilWide 10 = .ok (.ldc 110, 2) := by decide +kernel
theorem dX2_untilWide_12 : decode cX2_untilWide 12 = .ok (.ireturn, 1) := by decide +kernel
theorem dX2_untilWide_13 : decode cX2_untilWide 13 = .ok (.aload_n 0, 1) := by decide +kernel
theorem dX2_untilWide_14 : decode cX2_untilWide 14 = .ok (.getfield 10, 3) := by decide +kernel
theorem dX2_untilWide_17 : decode cX2_untilWide 17 = .ok (.iload_n 1, 1) := by decide +kernel
theorem dX2_untilWide_18 : decode cX2_untilWide 18 = .ok (.i2l, 1) := by decide +kernel
theorem dX2_untilWide_19 : decode cX2_untilWide 19 = .ok (.ldc2_w 230, 3) := by decide +kernel
theorem dX2_untilWide_22 : decode cX2_untilWide 22 = .ok (.lmul, 1) := by decide +kernel
theorem dX2_untilWide_23 : decode cX2_untilWide 23 = .ok (.invokevirtual 232, 3) := by decide +kernel
theorem dX2_untilWide_26 : decode cX2_untilWide 26 = .ok (.ireturn, 1) := by decide +kernel
theorem dX2_write_0 : decode cX2_write 0 = .ok (.aload_n 0, 1) := by decide +kernel
theorem dX2_write_1 : decode cX2_write 1 = .ok (.getfield 44, 3) := by decide +kernel
theorem dX2_write_4 : decode cX2_write 4 = .ok (.bipush 20, 2) := by decide +kernel
theorem dX2_write_6 : decode cX2_write 6 = .ok (.if_icmp .lt 6, 3) := by decide +kernel
theorem dX2_write_9 : decode cX2_write 9 = .ok (.ldc 196, 2) := by decide +kernel
theorem dX2_write_11 : decode cX2_write 11 = .ok (.ireturn, 1) := by decide +kernel
theorem dX2_write_12 : decode cX2_write 12 = .ok (.aload_n 0, 1) := by decide +kernel
theorem dX2_write_13 : decode cX2_write 13 = .ok (.getfield 41, 3) := by decide +kernel
theorem dX2_write_16 : decode cX2_write 16 = .ok (.aload_n 0, 1) := by decide +kernel
theorem dX2_write_17 : decode cX2_write 17 = .ok (.getfield 44, 3) := by decide +kernel
theorem dX2_write_20 : decode cX2_write 20 = .ok (.iload_n 1, 1) := by decide +kernel
theorem dX2_write_21 : decode cX2_write 21 = .ok (.iastore, 1) := by decide +kernel
theorem dX2_write_22 : decode cX2_write 22 = .ok (.aload_n 0, 1) := by decide +kernel
theorem dX2_write_23 : decode cX2_write 23 = .ok (.dup, 1) := by decide +kernel
theorem dX2_write_24 : decode cX2_write 24 = .ok (.getfield 44, 3) := by decide +kernel
theorem dX2_write_27 : decode cX2_write 27 = .ok (.iconst 1, 1) := by decide +kernel
theorem dX2_write_28 : decode cX2_write 28 = .ok (.iadd, 1) := by decide +kernel
theorem dX2_write_29 : decode cX2_write 29 = .ok (.putfield 44, 3) := by decide +kernel
theorem dX2_write_32 : decode cX2_write 32 = .ok (.aload_n 0, 1) := by decide +kernel
theorem dX2_write_33 : decode cX2_write 33 = .ok (.getfield 44, 3) := by decide +kernel
theorem dX2_write_36 : decode cX2_write 36 = .ok (.ireturn, 1) := by decide +kernel
theorem dX2_tear_0 : decode cX2_tear 0 = .ok (.aload_n 0, 1) := by decide +kernel
theorem dX2_tear_1 : decode cX2_tear 1 = .ok (.getfield 44, 3) := by decide +kernel
theorem dX2_tear_4 : decode cX2_tear 4 = .ok (.istore_n 1, 1) := by decide +kernel
theorem dX2_tear_5 : decode cX2_tear 5 = .ok (.aload_n 0, 1) := by decide +kernel
theorem dX2_tear_6 : decode cX2_tear 6 = .ok (.iconst 0, 1) := by decide +kernel
theorem dX2_tear_7 : decode cX2_tear 7 = .ok (.putfield 44, 3) := by decide +kernel
theorem dX2_tear_10 : decode cX2_tear 10 = .ok (.iload_n 1, 1) := by decide +kernel
theorem dX2_tear_11 : decode cX2_tear 11 = .ok (.ireturn, 1) := by decide +kernel
theorem dX2_seed_0 : decode cX2_seed 0 = .ok (.iload_n 1, 1) := by decide +kernel
theorem dX2_seed_1 : decode cX2_seed 1 = .ok (.ifCond .ge 6, 3) := by decide +kernel
theorem dX2_seed_4 : decode cX2_seed 4 = .ok (.ldc 110, 2) := by decide +kernel
theorem dX2_seed_6 : decode cX2_seed 6 = .ok (.ireturn, 1) := by decide +kernel
theorem dX2_seed_7 : decode cX2_seed 7 = .ok (.aload_n 0, 1) := by decide +kernel
theorem dX2_seed_8 : decode cX2_seed 8 = .ok (.getfield 16, 3) := by decide +kernel
theorem dX2_seed_11 : decode cX2_seed 11 = .ok (.istore_n 2, 1) := by decide +kernel
theorem dX2_seed_12 : decode cX2_seed 12 = .ok (.aload_n 0, 1) := by decide +kernel
theorem dX2_seed_13 : decode cX2_seed 13 = .ok (.iload_n 1, 1) := by decide +kernel
theorem dX2_seed_14 : decode cX2_seed 14 = .ok (.putfield 16, 3) := by decide +kernel
theorem dX2_seed_17 : decode cX2_seed 17 = .ok (.iload_n 2, 1) := by decide +kernel
theorem dX2_seed_18 : decode cX2_seed 18 = .ok (.ireturn, 1) := by decide +kernel
set_option maxRecDepth 20000 in
theorem ggX2_keep_X2_isWithin : GoodIn wsX2_keep wsX2_isWithin := goodIn_r _ [11] (by decide +kernel) (by decide +kernel)
set_option maxRecDepth 20000 in
theorem gX2_keep_X2_isWithin : GoodIn wsX2_keep (va_wsS RX2 167 yX2_isWithin wsX2_isWithin) := goodIn_app (goodIn_of _ (by decide +kernel)) ggX2_keep_X2_isWithin
set_option maxRecDepth 20000 in
theorem ggX2_keep_X1_copyFrom : GoodIn wsX2_keep wsX1_copyFrom := goodIn_r _ [16, 17, 18, 19, 20, 21, 22, 23, 24, 25, 26, 27, 28, 29, 30, 31, 32, 33, 34, 35, 36, 37, 38, 39, 40, 41, 42, 43, 44, 45, 46, 47, 48, 49, 60, 61, 62, 63, 64, 65, 66, 67, 68, 69, 70, 71, 72, 73, 74, 75, 76, 77, 78, 79, 80, 81, 82] (by decide +kernel) (by decide +kernel)
set_option maxRecDepth 20000 in
theorem gX2_keep_X1_copyFrom : GoodIn wsX2_keep (wsV RX2 215 RX1 yX1_copyFrom wsX1_copyFrom) := goodIn_app (goodIn_of _ (by decide +kernel)) ggX2_keep_X1_copyFrom
theorem dX2_keep_0 : decode cX2_keep 0 = .ok (.iload_n 1, 1) := by decide +kernel
theorem dX2_keep_1 : decode cX2_keep 1 = .ok (.iconst 0, 1) := by decide +kernel
theorem dX2_keep_2 : decode cX2_keep 2 = .ok (.iconst 1, 1) := by decide +kernel
theorem dX2_keep_3 : decode cX2_keep 3 = .ok (.invokestatic 167, 3) := by decide +kernel
theorem dX2_keep_6 : decode cX2_keep 6 = .ok (.ifCond .ne 6, 3) := by decide +kernel
theorem dX2_keep_9 : decode cX2_keep 9 = .ok (.ldc 140, 2) := by decide +kernel
theorem dX2_keep_11 : decode cX2_keep 11 = .ok (.ireturn, 1) := by decide +kernel
theorem dX2_keep_12 : decode cX2_keep 12 = .ok (.aload_n 0, 1) := by decide +kernel
theorem dX2_keep_13 : decode cX2_keep 13 = .ok (.getfield 30, 3) := by decide +kernel
theorem dX2_keep_16 : decode cX2_keep 16 = .ok (.iload_n 1, 1) := by decide +kernel
theorem dX2_keep_17 : decode cX2_keep 17 = .ok (.aaload, 1) := by decide +kernel
theorem dX2_keep_18 : decode cX2_keep 18 = .ok (.aload_n 0, 1) := by decide +kernel
theorem dX2_keep_19 : decode cX2_keep 19 = .ok (.getfield 10, 3) := by decide +kernel
theorem dX2_keep_22 : decode cX2_keep 22 = .ok (.invokevirtual 215, 3) := by decide +kernel
theorem dX2_keep_25 : decode cX2_keep 25 = .ok (.aload_n 0, 1) := by decide +kernel
theorem dX2_keep_26 : decode cX2_keep 26 = .ok (.getfield 33, 3) := by decide +kernel
theorem dX2_keep_29 : decode cX2_keep 29 = .ok (.iload_n 1, 1) := by decide +kernel
theorem dX2_keep_30 : decode cX2_keep 30 = .ok (.aload_n 0, 1) := by decide +kernel
theorem dX2_keep_31 : decode cX2_keep 31 = .ok (.getfield 16, 3) := by decide +kernel
theorem dX2_keep_34 : decode cX2_keep 34 = .ok (.iastore, 1) := by decide +kernel
theorem dX2_keep_35 : decode cX2_keep 35 = .ok (.aload_n 0, 1) := by decide +kernel
theorem dX2_keep_36 : decode cX2_keep 36 = .ok (.getfield 37, 3) := by decide +kernel
theorem dX2_keep_39 : decode cX2_keep 39 = .ok (.iload_n 1, 1) := by decide +kernel
theorem dX2_keep_40 : decode cX2_keep 40 = .ok (.iconst 1, 1) := by decide +kernel
theorem dX2_keep_41 : decode cX2_keep 41 = .ok (.bastore, 1) := by decide +kernel
theorem dX2_keep_42 : decode cX2_keep 42 = .ok (.aload_n 0, 1) := by decide +kernel
theorem dX2_keep_43 : decode cX2_keep 43 = .ok (.iconst 0, 1) := by decide +kernel
theorem dX2_keep_44 : decode cX2_keep 44 = .ok (.putfield 27, 3) := by decide +kernel
theorem dX2_keep_47 : decode cX2_keep 47 = .ok (.iconst 1, 1) := by decide +kernel
theorem dX2_keep_48 : decode cX2_keep 48 = .ok (.ireturn, 1) := by decide +kernel
set_option maxRecDepth 20000 in
theorem ggX2_goBack_X2_isWithin : GoodIn wsX2_goBack wsX2_isWithin := goodIn_r _ [12] (by decide +kernel) (by decide +kernel)
set_option maxRecDepth 20000 in
theorem gX2_goBack_X2_isWithin : GoodIn wsX2_goBack (va_wsS RX2 167 yX2_isWithin wsX2_isWithin) := goodIn_app (goodIn_of _ (by decide +kernel)) ggX2_goBack_X2_isWithin
set_option maxRecDepth 20000 in
theorem ggX2_goBack_X1_copyFrom : GoodIn wsX2_goBack wsX1_copyFrom := goodIn_r _ [17, 18, 19, 20, 21, 22, 23, 24, 25, 26, 27, 28, 29, 30, 31, 32, 33, 34, 35, 36, 37, 38, 39, 40, 41, 42, 43, 44, 45, 46, 47, 48, 49, 50, 61, 62, 63, 64, 65, 66, 67, 68, 69, 70, 71, 72, 73, 74, 75, 76, 77, 78, 79, 80, 81, 82, 83] (by decide +kernel) (by decide +kernel)
set_option maxRecDepth 20000 in
theorem gX2_goBack_X1_copyFrom : GoodIn wsX2_goBack (wsV RX2 215 RX1 yX1_copyFrom wsX1_copyFrom) := goodIn_app (goodIn_of _ (by decide +kernel)) ggX2_goBack_X1_copyFrom
theorem dX2_goBack_0 : decode cX2_goBack 0 = .ok (.iload_n 1, 1) := by decide +kernel
theorem dX2_goBack_1 : decode cX2_goBack 1 = .ok (.iconst 0, 1) := by decide +kernel
theorem dX2_goBack_2 : decode cX2_goBack 2 = .ok (.iconst 1, 1) := by decide +kernel
theorem dX2_goBack_3 : decode cX2_goBack 3 = .ok (.invokestatic 167, 3) := by decide +kernel
theorem dX2_goBack_6 : decode cX2_goBack 6 = .ok (.ifCond .ne 6, 3) := by decide +kernel
theorem dX2_goBack_9 : decode cX2_goBack 9 = .ok (.ldc 140, 2) := by decide +kernel
theorem dX2_goBack_11 : decode cX2_goBack 11 = .ok (.ireturn, 1) := by decide +kernel
theorem dX2_goBack_12 : decode cX2_goBack 12 = .ok (.aload_n 0, 1) := by decide +kernel
theorem dX2_goBack_13 : decode cX2_goBack 13 = .ok (.getfield 37, 3) := by decide +kernel
theorem dX2_goBack_16 : decode cX2_goBack 16 = .ok (.iload_n 1, 1) := by decide +kernel
theorem dX2_goBack_17 : decode cX2_goBack 17 = .ok (.baload, 1) := by decide +kernel
theorem dX2_goBack_18 : decode cX2_goBack 18 = .ok (.ifCond .ne 6, 3) := by decide +kernel
theorem dX2_goBack_21 : decode cX2_goBack 21 = .ok (.ldc 208, 2) := by decide +kernel
theorem dX2_goBack_23 : decode cX2_goBack 23 = .ok (.ireturn, 1) := by decide +kernel
theorem dX2_goBack_24 : decode cX2_goBack 24 = .ok (.aload_n 0, 1) := by decide +kernel
theorem dX2_goBack_25 : decode cX2_goBack 25 = .ok (.getfield 10, 3) := by decide +kernel
theorem dX2_goBack_28 : decode cX2_goBack 28 = .ok (.aload_n 0, 1) := by decide +kernel
theorem dX2_goBack_29 : decode cX2_goBack 29 = .ok (.getfield 30, 3) := by decide +kernel
theorem dX2_goBack_32 : decode cX2_goBack 32 = .ok (.iload_n 1, 1) := by decide +kernel
theorem dX2_goBack_33 : decode cX2_goBack 33 = .ok (.aaload, 1) := by decide +kernel
theorem dX2_goBack_34 : decode cX2_goBack 34 = .ok (.invokevirtual 215, 3) := by decide +kernel
theorem dX2_goBack_37 : decode cX2_goBack 37 = .ok (.aload_n 0, 1) := by decide +kernel
theorem dX2_goBack_38 : decode cX2_goBack 38 = .ok (.aload_n 0, 1) := by decide +kernel
theorem dX2_goBack_39 : decode cX2_goBack 39 = .ok (.getfield 33, 3) := by decide +kernel
theorem dX2_goBack_42 : decode cX2_goBack 42 = .ok (.iload_n 1, 1) := by decide +kernel
theorem dX2_goBack_43 : decode cX2_goBack 43 = .ok (.iaload, 1) := by decide +kernel
theorem dX2_goBack_44 : decode cX2_goBack 44 = .ok (.putfield 16, 3) := by decide +kernel
theorem dX2_goBack_47 : decode cX2_goBack 47 = .ok (.aload_n 0, 1) := by decide +kernel
theorem dX2_goBack_48 : decode cX2_goBack 48 = .ok (.iconst 0, 1) := by decide +kernel
theorem dX2_goBack_49 : decode cX2_goBack 49 = .ok (.putfield 27, 3) := by decide +kernel
theorem dX2_goBack_52 : decode cX2_goBack 52 = .ok (.iconst 1, 1) := by decide +kernel
theorem dX2_goBack_53 : decode cX2_goBack 53 = .ok (.ireturn, 1) := by decide +kernel
set_option maxRecDepth 20000 in
theorem ggX2_remember_X1_copyFrom : GoodIn wsX2_remember wsX1_copyFrom := goodIn_r _ [13, 14, 15, 16, 17, 18, 19, 20, 21, 22, 23, 24, 25, 26, 27, 28, 29, 30, 31, 32, 33, 34, 35, 36, 37, 38, 39, 40, 41, 42, 43, 44, 45, 46, 61, 62, 63, 64, 65, 66, 67, 68, 69, 70, 71, 72, 73, 74, 75, 76, 77, 78, 79, 80, 81, 82, 83] (by decide +kernel) (by decide +kernel)
set_option maxRecDepth 20000 in
theorem gX2_remember_X1_copyFrom : GoodIn wsX2_remember (wsV RX2 215 RX1 yX1_copyFrom wsX1_copyFrom) := goodIn_app (goodIn_of _ (by decide +kernel)) ggX2_remember_X1_copyFrom
set_option maxRecDepth 20000 in
theorem ggX2_remember_J9_floorMod_7cf53 : GoodIn wsX2_remember wsJ9_floorMod_7cf53 := goodIn_r _ [50] (by decide +kernel) (by decide +kernel)
set_option maxRecDepth 20000 in
theorem gX2_remember_J9_floorMod_7cf53 : GoodIn wsX2_remember (va_wsS RX2 209 yJ9_floorMod_7cf53 wsJ9_floorMod_7cf53) := goodIn_app (goodIn_of _ (by decide +kernel)) ggX2_remember_J9_floorMod_7cf53
theorem dX2_remember_0 : decode cX2_remember 0 = .ok (.aload_n 0, 1) := by decide +kernel
theorem dX2_remember_1 : decode cX2_remember 1 = .ok (.getfield 20, 3) := by decide +kernel
theorem dX2_remember_4 : decode cX2_remember 4 = .ok (.aload_n 0, 1) := by decide +kernel
theorem dX2_remember_5 : decode cX2_remember 5 = .ok (.getfield 24, 3) := by decide +kernel
theorem dX2_remember_8 : decode cX2_remember 8 = .ok (.aaload, 1) := by decide +kernel
theorem dX2_remember_9 : decode cX2_remember 9 = .ok (.aload_n 0, 1) := by decide +kernel
theorem dX2_remember_10 : decode cX2_remember 10 = .ok (.getfield 10, 3) := by decide +kernel
theorem dX2_remember_13 : decode cX2_remember 13 = .ok (.invokevirtual 215, 3) := by decide +kernel
theorem dX2_remember_16 : decode cX2_remember 16 = .ok (.aload_n 0, 1) := by decide +kernel
theorem dX2_remember_17 : decode cX2_remember 17 = .ok (.aload_n 0, 1) := by decide +kernel
theorem dX2_remember_18 : decode cX2_remember 18 = .ok (.getfield 24, 3) := by decide +kernel
theorem dX2_remember_21 : decode cX2_remember 21 = .ok (.iconst 1, 1) := by decide +kernel
theorem dX2_remember_22 : decode cX2_remember 22 = .ok (.iadd, 1) := by decide +kernel
theorem dX2_remember_23 : decode cX2_remember 23 = .ok (.bipush 20, 2) := by decide +kernel
theorem dX2_remember_25 : decode cX2_remember 25 = .ok (.invokestatic 209, 3) := by decide +kernel
theorem dX2_remember_28 : decode cX2_remember 28 = .ok (.putfield 24, 3) := by decide +kernel
theorem dX2_remember_31 : decode cX2_remember 31 = .ok (.aload_n 0, 1) := by decide +kernel
theorem dX2_remember_32 : decode cX2_remember 32 = .ok (.aload_n 0, 1) := by decide +kernel
theorem dX2_remember_33 : decode cX2_remember 33 = .ok (.getfield 27, 3) := by decide +kernel
theorem dX2_remember_36 : decode cX2_remember 36 = .ok (.iconst 1, 1) := by decide +kernel
theorem dX2_remember_37 : decode cX2_remember 37 = .ok (.iadd, 1) := by decide +kernel
theorem dX2_remember_38 : decode cX2_remember 38 = .ok (.bipush 20, 2) := by decide +kernel
theorem dX2_remember_40 : decode cX2_remember 40 = .ok (.invokestatic 235, 3) := by decide +kernel
theorem dX2_remember_43 : decode cX2_remember 43 = .ok (.putfield 27, 3) := by decide +kernel
theorem dX2_remember_46 : decode cX2_remember 46 = .ok (.return_, 1) := by decide +kernel
set_option maxRecDepth 20000 in
theorem ggX2_changeStep_X2_isWithin : GoodIn wsX2_changeStep wsX2_isWithin := goodIn_r _ [7] (by decide +kernel) (by decide +kernel)
set_option maxRecDepth 20000 in
theorem gX2_changeStep_X2_isWithin : GoodIn wsX2_changeStep (va_wsS RX2 167 yX2_isWithin wsX2_isWithin) := goodIn_app (goodIn_of _ (by decide +kernel)) ggX2_changeStep_X2_isWithin
set_option maxRecDepth 20000 in
theorem ggX2_changeStep_X2_remember : GoodIn wsX2_changeStep wsX2_remember := goodIn_r _ [11, 12, 13, 2, 14, 15, 16, 17, 18, 19, 20, 21, 22, 23, 24, 25, 26, 27, 28, 29, 30, 31, 32, 33, 34, 35, 36, 37, 38, 39, 40, 41, 42, 43, 44, 45, 46, 47, 48, 49, 50, 51, 52, 53, 54, 55, 56, 57, 58, 59, 60, 61, 62, 63, 64, 65, 66, 67, 68, 69, 70, 71, 72, 73, 74, 75, 76, 77, 78, 79, 80, 81, 82, 83, 84, 85, 86, 87, 88, 89, 90, 91, 92, 93] (by decide +kernel) (by decide +kernel)
set_option maxRecDepth 20000 in
theorem gX2_changeStep_X2_remember : GoodIn wsX2_changeStep (wsV RX2 171 RX2 yX2_remember wsX2_remember) := goodIn_app (goodIn_of _ (by decide +kernel)) ggX2_changeStep_X2_remember
theorem dX2_changeStep_0 : decode cX2_changeStep 0 = .ok (.iload_n 1, 1) := by decide +kernel
theorem dX2_changeStep_1 : decode cX2_changeStep 1 = .ok (.iconst 1, 1) := by decide +kernel
theorem dX2_changeStep_2 : decode cX2_changeStep 2 = .ok (.sipush 200, 3) := by decide +kernel
theorem dX2_changeStep_5 : decode cX2_changeStep 5 = .ok (.invokestatic 167, 3) := by decide +kernel
theorem dX2_changeStep_8 : decode cX2_changeStep 8 = .ok (.ifCond .ne 6, 3) := by decide +kernel
theorem dX2_changeStep_11 : decode cX2_changeStep 11 = .ok (.ldc 110, 2) := by decide +kernel
theorem dX2_changeStep_13 : decode cX2_changeStep 13 = .ok (.ireturn, 1) := by decide +kernel
theorem dX2_changeStep_14 : decode cX2_changeStep 14 = .ok (.aload_n 0, 1) := by decide +kernel
theorem dX2_changeStep_15 : decode cX2_changeStep 15 = .ok (.invokevirtual 171, 3) := by decide +kernel
theorem dX2_changeStep_18 : decode cX2_changeStep 18 = .ok (.aload_n 0, 1) := by decide +kernel
theorem dX2_changeStep_19 : decode cX2_changeStep 19 = .ok (.getfield 10, 3) := by decide +kernel
theorem dX2_changeStep_22 : decode cX2_changeStep 22 = .ok (.getfield 71, 3) := by decide +kernel
theorem dX2_changeStep_25 : decode cX2_changeStep 25 = .ok (.istore_n 2, 1) := by decide +kernel
theorem dX2_changeStep_26 : decode cX2_changeStep 26 = .ok (.aload_n 0, 1) := by decide +kernel
theorem dX2_changeStep_27 : decode cX2_changeStep 27 = .ok (.getfield 10, 3) := by decide +kernel
theorem dX2_changeStep_30 : decode cX2_changeStep 30 = .ok (.iload_n 1, 1) := by decide +kernel
theorem dX2_changeStep_31 : decode cX2_changeStep 31 = .ok (.putfield 71, 3) := by decide +kernel
theorem dX2_changeStep_34 : decode cX2_changeStep 34 = .ok (.iload_n 2, 1) := by decide +kernel
theorem dX2_changeStep_35 : decode cX2_changeStep 35 = .ok (.ireturn, 1) := by decide +kernel
set_option maxRecDepth 20000 in
theorem ggX2_changeWider_X2_isWithin : GoodIn wsX2_changeWider wsX2_isWithin := goodIn_r _ [7] (by decide +kernel) (by decide +kernel)
set_option maxRecDepth 20000 in
theorem gX2_changeWider_X2_isWithin : GoodIn wsX2_changeWider (va_wsS RX2 167 yX2_isWithin wsX2_isWithin) := goodIn_app (goodIn_of _ (by decide +kernel)) ggX2_changeWider_X2_isWithin
set_option maxRecDepth 20000 in
theorem ggX2_changeWider_X2_remember : GoodIn wsX2_changeWider wsX2_remember := goodIn_r _ [11, 12, 13, 2, 14, 15, 16, 17, 18, 19, 20, 21, 22, 23, 24, 25, 26, 27, 28, 29, 30, 31, 32, 33, 34, 35, 36, 37, 38, 39, 40, 41, 42, 43, 44, 45, 46, 47, 48, 49, 50, 51, 52, 53, 54, 55, 56, 57, 58, 59, 60, 61, 62, 63, 64, 65, 66, 67, 68, 69, 70, 71, 72, 73, 74, 75, 76, 77, 78, 79, 80, 81, 82, 83, 84, 85, 86, 87, 88, 89, 90, 91, 92, 93] (by decide +kernel) (by decide +kernel)
set_option maxRecDepth 20000 in
theorem gX2_changeWider_X2_remember : GoodIn wsX2_changeWider (wsV RX2 171 RX2 yX2_remember wsX2_remember) := goodIn_app (goodIn_of _ (by decide +kernel)) ggX2_changeWider_X2_remember
theorem dX2_changeWider_0 : decode cX2_changeWider 0 = .ok (.iload_n 1, 1) := by decide +kernel
theorem dX2_changeWider_1 : decode cX2_changeWider 1 = .ok (.iconst 0, 1) := by decide +kernel
theorem dX2_changeWider_2 : decode cX2_changeWider 2 = .ok (.sipush 999, 3) := by decide +kernel
theorem dX2_changeWider_5 : decode cX2_changeWider 5 = .ok (.invokestatic 167, 3) := by decide +kernel
theorem dX2_changeWider_8 : decode cX2_changeWider 8 = .ok (.ifCond .ne 6, 3) := by decide +kernel
theorem dX2_changeWider_11 : decode cX2_changeWider 11 = .ok (.ldc 110, 2) := by decide +kernel
theorem dX2_changeWider_13 : decode cX2_changeWider 13 = .ok (.ireturn, 1) := by decide +kernel
theorem dX2_changeWider_14 : decode cX2_changeWider 14 = .ok (.aload_n 0, 1) := by decide +kernel
theorem dX2_changeWider_15 : decode cX2_changeWider 15 = .ok (.invokevirtual 171, 3) := by decide +kernel
theorem dX2_changeWider_18 : decode cX2_changeWider 18 = .ok (.aload_n 0, 1) := by decide +kernel
theorem dX2_changeWider_19 : decode cX2_changeWider 19 = .ok (.getfield 10, 3) := by decide +kernel
theorem dX2_changeWider_22 : decode cX2_changeWider 22 = .ok (.getfield 74, 3) := by decide +kernel
theorem dX2_changeWider_25 : decode cX2_changeWider 25 = .ok (.istore_n 2, 1) := by decide +kernel
theorem dX2_changeWider_26 : decode cX2_changeWider 26 = .ok (.aload_n 0, 1) := by decide +kernel
theorem dX2_changeWider_27 : decode cX2_changeWider 27 = .ok (.getfield 10, 3) := by decide +kernel
theorem dX2_changeWider_30 : decode cX2_changeWider 30 = .ok (.iload_n 1, 1) := by decide +kernel
theorem dX2_changeWider_31 : decode cX2_changeWider 31 = .ok (.putfield 74, 3) := by decide +kernel
theorem dX2_changeWider_34 : decode cX2_changeWider 34 = .ok (.iload_n 2, 1) := by decide +kernel
theorem dX2_changeWider_35 : decode cX2_changeWider 35 = .ok (.ireturn, 1) := by decide +kernel
set_option maxRecDepth 20000 in
theorem ggX2_actByDraws_X2_remember : GoodIn wsX2_actByDraws wsX2_remember := goodIn_r _ [7, 8, 9, 1, 10, 11, 12, 13, 14, 15, 16, 17, 18, 19, 20, 21, 22, 23, 24, 25, 26, 27, 28, 29, 30, 31, 32, 33, 34, 35, 36, 37, 38, 39, 40, 41, 42, 43, 44, 45, 46, 47, 48, 49, 50, 51, 52, 53, 54, 55, 56, 185, 186, 187, 188, 189, 190, 191, 192, 193, 194, 195, 196, 197, 198, 199, 200, 201, 202, 203, 204, 205, 206, 207, 208, 209, 210, 211, 212, 213, 214, 215, 216, 217] (by decide +kernel) (by decide +kernel)
set_option maxRecDepth 20000 in
theorem gX2_actByDraws_X2_remember : GoodIn wsX2_actByDraws (wsV RX2 171 RX2 yX2_remember wsX2_remember) := goodIn_app (goodIn_of _ (by decide +kernel)) ggX2_actByDraws_X2_remember
set_option maxRecDepth 20000 in
theorem ggX2_actByDraws_X2_draw : GoodIn wsX2_actByDraws wsX2_draw := goodIn_r _ [60, 61, 62, 63, 64, 65, 185, 186, 187, 188, 189, 190, 191, 192, 193, 194] (by decide +kernel) (by decide +kernel)
set_option maxRecDepth 20000 in
theorem gX2_actByDraws_X2_draw : GoodIn wsX2_actByDraws (wsV RX2 238 RX2 yX2_draw wsX2_draw) := goodIn_app (goodIn_of _ (by decide +kernel)) ggX2_actByDraws_X2_draw
set_option maxRecDepth 20000 in
theorem ggX2_actByDraws_X1_takeIn : GoodIn wsX2_actByDraws wsX1_takeIn := goodIn_r _ [69, 20, 70, 29, 71, 72, 13, 73, 74, 75, 76, 32, 33, 77, 78, 79, 18, 80, 35, 34, 81, 36, 82, 83, 84, 6, 85, 86, 87, 88, 89, 21, 22, 90, 91, 92, 93, 94, 95, 96, 97, 98, 99, 100, 55, 101, 195, 196, 197, 198, 199, 200, 201, 202, 203, 204, 205, 206, 207, 208, 209, 210, 211, 212] (by decide +kernel) (by decide +kernel)
set_option maxRecDepth 20000 in
theorem gX2_actByDraws_X1_takeIn : GoodIn wsX2_actByDraws (wsV RX2 192 RX1 yX1_takeIn wsX1_takeIn) := goodIn_app (goodIn_of _ (by decide +kernel)) ggX2_actByDraws_X1_takeIn
set_option maxRecDepth 20000 in
theorem ggX2_actByDraws_X1_pass : GoodIn wsX2_actByDraws wsX1_pass := goodIn_r _ [105, 20, 106, 21, 31, 22, 70, 27, 29, 107, 74, 75, 13, 76, 41, 108, 109, 110, 18, 111, 112, 113, 114, 115, 23, 33, 34, 35, 116, 6, 117, 118, 119, 120, 121, 122, 123, 124, 125, 24, 26, 25, 126, 127, 128, 129, 130, 131, 132, 133, 36, 84, 85, 99, 100, 55, 101, 134, 135, 136, 137, 28, 90, 91, 92, 93, 72, 73, 138, 139, 140, 141, 142, 143, 144, 30, 145, 146, 147, 45, 148, 47, 52, 149, 150, 12, 14, 151, 152, 153, 154, 155, 156, 157, 158, 159, 48, 160, 50, 161, 162, 51, 163, 164, 165, 166, 167, 168, 169, 170, 171, 172, 173, 174, 175, 176, 177, 178, 179, 180, 181, 182, 183, 184, 195, 196, 197, 198, 199, 200, 201, 202, 203, 204, 205, 206, 207, 208, 209, 210, 211, 212, 213, 214, 215, 216, 217] (by decide +kernel) (by decide +kernel)
set_option maxRecDepth 20000 in
theorem gX2_actByDraws_X1_pass : GoodIn wsX2_actByDraws (wsV RX2 174 RX1 yX1_pass wsX1_pass) := goodIn_app (goodIn_of _ (by decide +kernel)) ggX2_actByDraws_X1_pass
theorem dX2_actByDraws_0 : decode cX2_actByDraws 0 = .ok (.aload_n 0, 1) := by decide +kernel
theorem dX2_actByDraws_1 : decode cX2_actByDraws 1 = .ok (.invokevirtual 171, 3) := by decide +kernel
theorem dX2_actByDraws_4 : decode cX2_actByDraws 4 = .ok (.aload_n 0, 1) := by decide +kernel
theorem dX2_actByDraws_5 : decode cX2_actByDraws 5 = .ok (.bipush 8, 2) := by decide +kernel
theorem dX2_actByDraws_7 : decode cX2_actByDraws 7 = .ok (.invokevirtual 238, 3) := by decide +kernel
theorem dX2_actByDraws_10 : decode cX2_actByDraws 10 = .ok (.istore_n 1, 1) := by decide +kernel
theorem dX2_actByDraws_11 : decode cX2_actByDraws 11 = .ok (.aload_n 0, 1) := by decide +kernel
theorem dX2_actByDraws_12 : decode cX2_actByDraws 12 = .ok (.bipush 90, 2) := by decide +kernel
theorem dX2_actByDraws_14 : decode cX2_actByDraws 14 = .ok (.invokevirtual 238, 3) := by decide +kernel
theorem dX2_actByDraws_17 : decode cX2_actByDraws 17 = .ok (.bipush 20, 2) := by decide +kernel
theorem dX2_actByDraws_19 : decode cX2_actByDraws 19 = .ok (.isub, 1) := by decide +kernel
theorem dX2_actByDraws_20 : decode cX2_actByDraws 20 = .ok (.istore_n 2, 1) := by decide +kernel
theorem dX2_actByDraws_21 : decode cX2_actByDraws 21 = .ok (.aload_n 0, 1) := by decide +kernel
theorem dX2_actByDraws_22 : decode cX2_actByDraws 22 = .ok (.sipush 1001, 3) := by decide +kernel
theorem dX2_actByDraws_25 : decode cX2_actByDraws 25 = .ok (.invokevirtual 238, 3) := by decide +kernel
theorem dX2_actByDraws_28 : decode cX2_actByDraws 28 = .ok (.sipush 500, 3) := by decide +kernel
theorem dX2_actByDraws_31 : decode cX2_actByDraws 31 = .ok (.isub, 1) := by decide +kernel
theorem dX2_actByDraws_32 : decode cX2_actByDraws 32 = .ok (.istore_n 3, 1) := by decide +kernel
theorem dX2_actByDraws_33 : decode cX2_actByDraws 33 = .ok (.iload_n 1, 1) := by decide +kernel
theorem dX2_actByDraws_34 : decode cX2_actByDraws 34 = .ok (.ifCond .ne 14, 3) := by decide +kernel
theorem dX2_actByDraws_37 : decode cX2_actByDraws 37 = .ok (.aload_n 0, 1) := by decide +kernel
theorem dX2_actByDraws_38 : decode cX2_actByDraws 38 = .ok (.getfield 10, 3) := by decide +kernel
theorem dX2_actByDraws_41 : decode cX2_actByDraws 41 = .ok (.iload_n 2, 1) := by decide +kernel
theorem dX2_actByDraws_42 : decode cX2_actByDraws 42 = .ok (.putfield 47, 3) := by decide +kernel
theorem dX2_actByDraws_45 : decode cX2_actByDraws 45 = .ok (.goto 32, 3) := by decide +kernel
theorem dX2_actByDraws_48 : decode cX2_actByDraws 48 = .ok (.iload_n 1, 1) := by decide +kernel
theorem dX2_actByDraws_49 : decode cX2_actByDraws 49 = .ok (.iconst 1, 1) := by decide +kernel
theorem dX2_actByDraws_50 : decode cX2_actByDraws 50 = .ok (.if_icmp .ne 18, 3) := by decide +kernel
theorem dX2_actByDraws_53 : decode cX2_actByDraws 53 = .ok (.aload_n 0, 1) := by decide +kernel
theorem dX2_actByDraws_54 : decode cX2_actByDraws 54 = .ok (.getfield 10, 3) := by decide +kernel
theorem dX2_actByDraws_57 : decode cX2_actByDraws 57 = .ok (.iload_n 3, 1) := by decide +kernel
theorem dX2_actByDraws_58 : decode cX2_actByDraws 58 = .ok (.sipush 500, 3) := by decide +kernel
theorem dX2_actByDraws_61 : decode cX2_actByDraws 61 = .ok (.invokevirtual 192, 3) := by decide +kernel
theorem dX2_actByDraws_64 : decode cX2_actByDraws 64 = .ok (.pop, 1) := by decide +kernel
theorem dX2_actByDraws_65 : decode cX2_actByDraws 65 = .ok (.goto 12, 3) := by decide +kernel
theorem dX2_actByDraws_68 : decode cX2_actByDraws 68 = .ok (.aload_n 0, 1) := by decide +kernel
theorem dX2_actByDraws_69 : decode cX2_actByDraws 69 = .ok (.getfield 10, 3) := by decide +kernel
theorem dX2_actByDraws_72 : decode cX2_actByDraws 72 = .ok (.iconst 1, 1) := by decide +kernel
theorem dX2_actByDraws_73 : decode cX2_actByDraws 73 = .ok (.invokevirtual 174, 3) := by decide +kernel
theorem dX2_actByDraws_76 : decode cX2_actByDraws 76 = .ok (.pop, 1) := by decide +kernel
theorem dX2_actByDraws_77 : decode cX2_actByDraws 77 = .ok (.return_, 1) := by decide +kernel
theorem dX2_draw_0 : decode cX2_draw 0 = .ok (.aload_n 0, 1) := by decide +kernel
theorem dX2_draw_1 : decode cX2_draw 1 = .ok (.aload_n 0, 1) := by decide +kernel
theorem dX2_draw_2 : decode cX2_draw 2 = .ok (.getfield 16, 3) := by decide +kernel
theorem dX2_draw_5 : decode cX2_draw 5 = .ok (.i2l, 1) := by decide +kernel
theorem dX2_draw_6 : decode cX2_draw 6 = .ok (.ldc2_w 241, 3) := by decide +kernel
theorem dX2_draw_9 : decode cX2_draw 9 = .ok (.lmul, 1) := by decide +kernel
theorem dX2_draw_10 : decode cX2_draw 10 = .ok (.ldc2_w 243, 3) := by decide +kernel
theorem dX2_draw_13 : decode cX2_draw 13 = .ok (.ladd, 1) := by decide +kernel
theorem dX2_draw_14 : decode cX2_draw 14 = .ok (.ldc2_w 245, 3) := by decide +kernel
theorem dX2_draw_17 : decode cX2_draw 17 = .ok (.land, 1) := by decide +kernel
theorem dX2_draw_18 : decode cX2_draw 18 = .ok (.l2i, 1) := by decide +kernel
theorem dX2_draw_19 : decode cX2_draw 19 = .ok (.putfield 16, 3) := by decide +kernel
theorem dX2_draw_22 : decode cX2_draw 22 = .ok (.iload_n 1, 1) := by decide +kernel
theorem dX2_draw_23 : decode cX2_draw 23 = .ok (.ifCond .le 15, 3) := by decide +kernel
theorem dX2_draw_26 : decode cX2_draw 26 = .ok (.aload_n 0, 1) := by decide +kernel
theorem dX2_draw_27 : decode cX2_draw 27 = .ok (.getfield 16, 3) := by decide +kernel
theorem dX2_draw_30 : decode cX2_draw 30 = .ok (.ldc 247, 2) := by decide +kernel
theorem dX2_draw_32 : decode cX2_draw 32 = .ok (.idiv, 1) := by decide +kernel
theorem dX2_draw_33 : decode cX2_draw 33 = .ok (.iload_n 1, 1) := by decide +kernel
theorem dX2_draw_34 : decode cX2_draw 34 = .ok (.irem, 1) := by decide +kernel
theorem dX2_draw_35 : decode cX2_draw 35 = .ok (.goto 4, 3) := by decide +kernel
theorem dX2_draw_38 : decode cX2_draw 38 = .ok (.iconst 0, 1) := by decide +kernel
theorem dX2_draw_39 : decode cX2_draw 39 = .ok (.ireturn, 1) := by decide +kernel
set_option maxRecDepth 20000 in
theorem ggX2_firstWrong_X1_minuteNumber : GoodIn wsX2_firstWrong wsX1_minuteNumber := goodIn_r _ [8, 9, 10, 21, 22, 23, 24, 25, 26, 27, 28, 29, 30, 31, 32, 33, 34, 35, 36, 37, 38] (by decide +kernel) (by decide +kernel)
set_option maxRecDepth 20000 in
theorem gX2_firstWrong_X1_minuteNumber : GoodIn wsX2_firstWrong (wsV RX2 123 RX1 yX1_minuteNumber wsX1_minuteNumber) := goodIn_app (goodIn_of _ (by decide +kernel)) ggX2_firstWrong_X1_minuteNumber
theorem dX2_firstWrong_0 : decode cX2_firstWrong 0 = .ok (.aload_n 0, 1) := by decide +kernel
theorem dX2_firstWrong_1 : decode cX2_firstWrong 1 = .ok (.getfield 10, 3) := by decide +kernel
theorem dX2_firstWrong_4 : decode cX2_firstWrong 4 = .ok (.invokevirtual 123, 3) := by decide +kernel
theorem dX2_firstWrong_7 : decode cX2_firstWrong 7 = .ok (.lstore_n 1, 1) := by decide +kernel
theorem dX2_firstWrong_8 : decode cX2_firstWrong 8 = .ok (.iconst 0, 1) := by decide +kernel
theorem dX2_firstWrong_9 : decode cX2_firstWrong 9 = .ok (.istore_n 3, 1) := by decide +kernel
theorem dX2_firstWrong_10 : decode cX2_firstWrong 10 = .ok (.iload_n 3, 1) := by decide +kernel
theorem dX2_firstWrong_11 : decode cX2_firstWrong 11 = .ok (.aload_n 0, 1) := by decide +kernel
theorem dX2_firstWrong_12 : decode cX2_firstWrong 12 = .ok (.getfield 44, 3) := by decide +kernel
theorem dX2_firstWrong_15 : decode cX2_firstWrong 15 = .ok (.if_icmp .ge 29, 3) := by decide +kernel
theorem dX2_firstWrong_18 : decode cX2_firstWrong 18 = .ok (.iload_n 3, 1) := by decide +kernel
theorem dX2_firstWrong_19 : decode cX2_firstWrong 19 = .ok (.bipush 20, 2) := by decide +kernel
theorem dX2_firstWrong_21 : decode cX2_firstWrong 21 = .ok (.if_icmp .ge 23, 3) := by decide +kernel
theorem dX2_firstWrong_24 : decode cX2_firstWrong 24 = .ok (.aload_n 0, 1) := by decide +kernel
theorem dX2_firstWrong_25 : decode cX2_firstWrong 25 = .ok (.getfield 41, 3) := by decide +kernel
theorem dX2_firstWrong_28 : decode cX2_firstWrong 28 = .ok (.iload_n 3, 1) := by decide +kernel
theorem dX2_firstWrong_29 : decode cX2_firstWrong 29 = .ok (.iaload, 1) := by decide +kernel
theorem dX2_firstWrong_30 : decode cX2_firstWrong 30 = .ok (.i2l, 1) := by decide +kernel
theorem dX2_firstWrong_31 : decode cX2_firstWrong 31 = .ok (.lload_n 1, 1) := by decide +kernel
theorem dX2_firstWrong_32 : decode cX2_firstWrong 32 = .ok (.lcmp, 1) := by decide +kernel
theorem dX2_firstWrong_33 : decode cX2_firstWrong 33 = .ok (.ifCond .eq 5, 3) := by decide +kernel
theorem dX2_firstWrong_36 : decode cX2_firstWrong 36 = .ok (.iload_n 3, 1) := by decide +kernel
theorem dX2_firstWrong_37 : decode cX2_firstWrong 37 = .ok (.ireturn, 1) := by decide +kernel
theorem dX2_firstWrong_38 : decode cX2_firstWrong 38 = .ok (.iinc 3 1, 3) := by decide +kernel
theorem dX2_firstWrong_41 : decode cX2_firstWrong 41 = .ok (.goto (-31), 3) := by decide +kernel
