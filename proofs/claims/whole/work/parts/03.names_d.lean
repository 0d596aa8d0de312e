theorem dX2_firstWrong_44 : decode cX2_firstWrong 44 = .ok (.iconst (-1), 1) := by decide +kernel
theorem dX2_firstWrong_45 : decode cX2_firstWrong 45 = .ok (.ireturn, 1) := by decide +kernel
theorem dX2_asInt_0 : decode cX2_asInt 0 = .ok (.iload_n 0, 1) := by decide +kernel
theorem dX2_asInt_1 : decode cX2_asInt 1 = .ok (.ifCond .eq 7, 3) := by decide +kernel
theorem dX2_asInt_4 : decode cX2_asInt 4 = .ok (.iconst 1, 1) := by decide +kernel
theorem dX2_asInt_5 : decode cX2_asInt 5 = .ok (.goto 4, 3) := by decide +kernel
theorem dX2_asInt_8 : decode cX2_asInt 8 = .ok (.iconst 0, 1) := by decide +kernel
theorem dX2_asInt_9 : decode cX2_asInt 9 = .ok (.ireturn, 1) := by decide +kernel
theorem dX2_isWithin_0 : decode cX2_isWithin 0 = .ok (.iload_n 0, 1) := by decide +kernel
theorem dX2_isWithin_1 : decode cX2_isWithin 1 = .ok (.iload_n 1, 1) := by decide +kernel
theorem dX2_isWithin_2 : decode cX2_isWithin 2 = .ok (.if_icmp .lt 12, 3) := by decide +kernel
theorem dX2_isWithin_5 : decode cX2_isWithin 5 = .ok (.iload_n 0, 1) := by decide +kernel
theorem dX2_isWithin_6 : decode cX2_isWithin 6 = .ok (.iload_n 2, 1) := by decide +kernel
theorem dX2_isWithin_7 : decode cX2_isWithin 7 = .ok (.if_icmp .gt 7, 3) := by decide +kernel
theorem dX2_isWithin_10 : decode cX2_isWithin 10 = .ok (.iconst 1, 1) := by decide +kernel
theorem dX2_isWithin_11 : decode cX2_isWithin 11 = .ok (.goto 4, 3) := by decide +kernel
theorem dX2_isWithin_14 : decode cX2_isWithin 14 = .ok (.iconst 0, 1) := by decide +kernel
theorem dX2_isWithin_15 : decode cX2_isWithin 15 = .ok (.ireturn, 1) := by decide +kernel
theorem dX2_heldBetween_0 : decode cX2_heldBetween 0 = .ok (.lload_n 2, 1) := by decide +kernel
theorem dX2_heldBetween_1 : decode cX2_heldBetween 1 = .ok (.lload_n 0, 1) := by decide +kernel
theorem dX2_heldBetween_2 : decode cX2_heldBetween 2 = .ok (.lload 4, 2) := by decide +kernel
theorem dX2_heldBetween_4 : decode cX2_heldBetween 4 = .ok (.invokestatic 248, 3) := by decide +kernel
theorem dX2_heldBetween_7 : decode cX2_heldBetween 7 = .ok (.invokestatic 251, 3) := by decide +kernel
theorem dX2_heldBetween_10 : decode cX2_heldBetween 10 = .ok (.lreturn, 1) := by decide +kernel
theorem dX2_isSpan_0 : decode cX2_isSpan 0 = .ok (.iload_n 0, 1) := by decide +kernel
theorem dX2_isSpan_1 : decode cX2_isSpan 1 = .ok (.ifCond .lt 13, 3) := by decide +kernel
theorem dX2_isSpan_4 : decode cX2_isSpan 4 = .ok (.iload_n 0, 1) := by decide +kernel
theorem dX2_isSpan_5 : decode cX2_isSpan 5 = .ok (.bipush 9, 2) := by decide +kernel
theorem dX2_isSpan_7 : decode cX2_isSpan 7 = .ok (.if_icmp .ge 7, 3) := by decide +kernel
theorem dX2_isSpan_10 : decode cX2_isSpan 10 = .ok (.iconst 1, 1) := by decide +kernel
theorem dX2_isSpan_11 : decode cX2_isSpan 11 = .ok (.goto 4, 3) := by decide +kernel
theorem dX2_isSpan_14 : decode cX2_isSpan 14 = .ok (.iconst 0, 1) := by decide +kernel
theorem dX2_isSpan_15 : decode cX2_isSpan 15 = .ok (.ireturn, 1) := by decide +kernel
theorem dX2_spanOf_0 : decode cX2_spanOf 0 = .ok (.iload_n 0, 1) := by decide +kernel
theorem dX2_spanOf_1 : decode cX2_spanOf 1 = .ok (.bipush (-20), 2) := by decide +kernel
theorem dX2_spanOf_3 : decode cX2_spanOf 3 = .ok (.isub, 1) := by decide +kernel
theorem dX2_spanOf_4 : decode cX2_spanOf 4 = .ok (.bipush 10, 2) := by decide +kernel
theorem dX2_spanOf_6 : decode cX2_spanOf 6 = .ok (.idiv, 1) := by decide +kernel
theorem dX2_spanOf_7 : decode cX2_spanOf 7 = .ok (.ireturn, 1) := by decide +kernel
theorem dX2_minuteOf_0 : decode cX2_minuteOf 0 = .ok (.lload_n 0, 1) := by decide +kernel
theorem dX2_minuteOf_1 : decode cX2_minuteOf 1 = .ok (.ldc2_w 254, 3) := by decide +kernel
theorem dX2_minuteOf_4 : decode cX2_minuteOf 4 = .ok (.lrem, 1) := by decide +kernel
theorem dX2_minuteOf_5 : decode cX2_minuteOf 5 = .ok (.l2i, 1) := by decide +kernel
theorem dX2_minuteOf_6 : decode cX2_minuteOf 6 = .ok (.ireturn, 1) := by decide +kernel
theorem dX2_hourOf_0 : decode cX2_hourOf 0 = .ok (.lload_n 0, 1) := by decide +kernel
theorem dX2_hourOf_1 : decode cX2_hourOf 1 = .ok (.ldc2_w 254, 3) := by decide +kernel
theorem dX2_hourOf_4 : decode cX2_hourOf 4 = .ok (.ldiv, 1) := by decide +kernel
theorem dX2_hourOf_5 : decode cX2_hourOf 5 = .ok (.ldc2_w 256, 3) := by decide +kernel
theorem dX2_hourOf_8 : decode cX2_hourOf 8 = .ok (.lrem, 1) := by decide +kernel
theorem dX2_hourOf_9 : decode cX2_hourOf 9 = .ok (.l2i, 1) := by decide +kernel
theorem dX2_hourOf_10 : decode cX2_hourOf 10 = .ok (.ireturn, 1) := by decide +kernel
theorem dX2_weekdayOf_0 : decode cX2_weekdayOf 0 = .ok (.lload_n 0, 1) := by decide +kernel
theorem dX2_weekdayOf_1 : decode cX2_weekdayOf 1 = .ok (.ldc2_w 258, 3) := by decide +kernel
theorem dX2_weekdayOf_4 : decode cX2_weekdayOf 4 = .ok (.ldiv, 1) := by decide +kernel
theorem dX2_weekdayOf_5 : decode cX2_weekdayOf 5 = .ok (.ldc2_w 260, 3) := by decide +kernel
theorem dX2_weekdayOf_8 : decode cX2_weekdayOf 8 = .ok (.lrem, 1) := by decide +kernel
theorem dX2_weekdayOf_9 : decode cX2_weekdayOf 9 = .ok (.l2i, 1) := by decide +kernel
theorem dX2_weekdayOf_10 : decode cX2_weekdayOf 10 = .ok (.ireturn, 1) := by decide +kernel
theorem dX3_init_0 : decode cX3_init 0 = .ok (.aload_n 0, 1) := by decide +kernel
theorem dX3_init_1 : decode cX3_init 1 = .ok (.invokespecial 1, 3) := by decide +kernel
theorem dX3_init_4 : decode cX3_init 4 = .ok (.aload_n 0, 1) := by decide +kernel
theorem dX3_init_5 : decode cX3_init 5 = .ok (.bipush 49, 2) := by decide +kernel
theorem dX3_init_7 : decode cX3_init 7 = .ok (.newarray .long, 2) := by decide +kernel
theorem dX3_init_9 : decode cX3_init 9 = .ok (.putfield 7, 3) := by decide +kernel
theorem dX3_init_12 : decode cX3_init 12 = .ok (.aload_n 0, 1) := by decide +kernel
theorem dX3_init_13 : decode cX3_init 13 = .ok (.sipush 980, 3) := by decide +kernel
theorem dX3_init_16 : decode cX3_init 16 = .ok (.newarray .long, 2) := by decide +kernel
theorem dX3_init_18 : decode cX3_init 18 = .ok (.putfield 13, 3) := by decide +kernel
theorem dX3_init_21 : decode cX3_init 21 = .ok (.aload_n 0, 1) := by decide +kernel
theorem dX3_init_22 : decode cX3_init 22 = .ok (.bipush 100, 2) := by decide +kernel
theorem dX3_init_24 : decode cX3_init 24 = .ok (.newarray .long, 2) := by decide +kernel
theorem dX3_init_26 : decode cX3_init 26 = .ok (.putfield 16, 3) := by decide +kernel
theorem dX3_init_29 : decode cX3_init 29 = .ok (.aload_n 0, 1) := by decide +kernel
theorem dX3_init_30 : decode cX3_init 30 = .ok (.iconst 2, 1) := by decide +kernel
theorem dX3_init_31 : decode cX3_init 31 = .ok (.newarray .boolean, 2) := by decide +kernel
theorem dX3_init_33 : decode cX3_init 33 = .ok (.putfield 19, 3) := by decide +kernel
theorem dX3_init_36 : decode cX3_init 36 = .ok (.aload_n 0, 1) := by decide +kernel
theorem dX3_init_37 : decode cX3_init 37 = .ok (.bipush 20, 2) := by decide +kernel
theorem dX3_init_39 : decode cX3_init 39 = .ok (.newarray .int, 2) := by decide +kernel
theorem dX3_init_41 : decode cX3_init 41 = .ok (.putfield 23, 3) := by decide +kernel
theorem dX3_init_44 : decode cX3_init 44 = .ok (.aload_n 0, 1) := by decide +kernel
theorem dX3_init_45 : decode cX3_init 45 = .ok (.getfield 7, 3) := by decide +kernel
theorem dX3_init_48 : decode cX3_init 48 = .ok (.iconst 4, 1) := by decide +kernel
theorem dX3_init_49 : decode cX3_init 49 = .ok (.ldc2_w 27, 3) := by decide +kernel
theorem dX3_init_52 : decode cX3_init 52 = .ok (.lastore, 1) := by decide +kernel
theorem dX3_init_53 : decode cX3_init 53 = .ok (.aload_n 0, 1) := by decide +kernel
theorem dX3_init_54 : decode cX3_init 54 = .ok (.getfield 7, 3) := by decide +kernel
theorem dX3_init_57 : decode cX3_init 57 = .ok (.iconst 5, 1) := by decide +kernel
theorem dX3_init_58 : decode cX3_init 58 = .ok (.ldc2_w 27, 3) := by decide +kernel
theorem dX3_init_61 : decode cX3_init 61 = .ok (.lastore, 1) := by decide +kernel
theorem dX3_init_62 : decode cX3_init 62 = .ok (.aload_n 0, 1) := by decide +kernel
theorem dX3_init_63 : decode cX3_init 63 = .ok (.getfield 7, 3) := by decide +kernel
theorem dX3_init_66 : decode cX3_init 66 = .ok (.bipush 6, 2) := by decide +kernel
theorem dX3_init_68 : decode cX3_init 68 = .ok (.ldc2_w 29, 3) := by decide +kernel
theorem dX3_init_71 : decode cX3_init 71 = .ok (.lastore, 1) := by decide +kernel
theorem dX3_init_72 : decode cX3_init 72 = .ok (.aload_n 0, 1) := by decide +kernel
theorem dX3_init_73 : decode cX3_init 73 = .ok (.getfield 7, 3) := by decide +kernel
theorem dX3_init_76 : decode cX3_init 76 = .ok (.bipush 9, 2) := by decide +kernel
theorem dX3_init_78 : decode cX3_init 78 = .ok (.ldc2_w 31, 3) := by decide +kernel
theorem dX3_init_81 : decode cX3_init 81 = .ok (.lastore, 1) := by decide +kernel
theorem dX3_init_82 : decode cX3_init 82 = .ok (.aload_n 0, 1) := by decide +kernel
theorem dX3_init_83 : decode cX3_init 83 = .ok (.getfield 7, 3) := by decide +kernel
theorem dX3_init_86 : decode cX3_init 86 = .ok (.bipush 10, 2) := by decide +kernel
theorem dX3_init_88 : decode cX3_init 88 = .ok (.ldc2_w 33, 3) := by decide +kernel
theorem dX3_init_91 : decode cX3_init 91 = .ok (.lastore, 1) := by decide +kernel
theorem dX3_init_92 : decode cX3_init 92 = .ok (.aload_n 0, 1) := by decide +kernel
theorem dX3_init_93 : decode cX3_init 93 = .ok (.getfield 7, 3) := by decide +kernel
theorem dX3_init_96 : decode cX3_init 96 = .ok (.bipush 11, 2) := by decide +kernel
theorem dX3_init_98 : decode cX3_init 98 = .ok (.lconst 1, 1) := by decide +kernel
theorem dX3_init_99 : decode cX3_init 99 = .ok (.lastore, 1) := by decide +kernel
theorem dX3_init_100 : decode cX3_init 100 = .ok (.aload_n 0, 1) := by decide +kernel
theorem dX3_init_101 : decode cX3_init 101 = .ok (.getfield 7, 3) := by decide +kernel
theorem dX3_init_104 : decode cX3_init 104 = .ok (.bipush 13, 2) := by decide +kernel
theorem dX3_init_106 : decode cX3_init 106 = .ok (.ldc2_w 35, 3) := by decide +kernel
theorem dX3_init_109 : decode cX3_init 109 = .ok (.lastore, 1) := by decide +kernel
theorem dX3_init_110 : decode cX3_init 110 = .ok (.return_, 1) := by decide +kernel
theorem dX3_in_0 : decode cX3_in 0 = .ok (.lload_n 0, 1) := by decide +kernel
theorem dX3_in_1 : decode cX3_in 1 = .ok (.lload_n 2, 1) := by decide +kernel
theorem dX3_in_2 : decode cX3_in 2 = .ok (.lcmp, 1) := by decide +kernel
theorem dX3_in_3 : decode cX3_in 3 = .ok (.ifCond .lt 14, 3) := by decide +kernel
theorem dX3_in_6 : decode cX3_in 6 = .ok (.lload_n 0, 1) := by decide +kernel
theorem dX3_in_7 : decode cX3_in 7 = .ok (.lload 4, 2) := by decide +kernel
theorem dX3_in_9 : decode cX3_in 9 = .ok (.lcmp, 1) := by decide +kernel
theorem dX3_in_10 : decode cX3_in 10 = .ok (.ifCond .gt 7, 3) := by decide +kernel
theorem dX3_in_13 : decode cX3_in 13 = .ok (.iconst 1, 1) := by decide +kernel
theorem dX3_in_14 : decode cX3_in 14 = .ok (.goto 4, 3) := by decide +kernel
theorem dX3_in_17 : decode cX3_in 17 = .ok (.iconst 0, 1) := by decide +kernel
theorem dX3_in_18 : decode cX3_in 18 = .ok (.ireturn, 1) := by decide +kernel
theorem dX3_bring_0 : decode cX3_bring 0 = .ok (.iconst 0, 1) := by decide +kernel
theorem dX3_bring_1 : decode cX3_bring 1 = .ok (.istore 5, 2) := by decide +kernel
theorem dX3_bring_3 : decode cX3_bring 3 = .ok (.iload 5, 2) := by decide +kernel
theorem dX3_bring_5 : decode cX3_bring 5 = .ok (.iload 4, 2) := by decide +kernel
theorem dX3_bring_7 : decode cX3_bring 7 = .ok (.if_icmp .ge 21, 3) := by decide +kernel
theorem dX3_bring_10 : decode cX3_bring 10 = .ok (.aload_n 2, 1) := by decide +kernel
theorem dX3_bring_11 : decode cX3_bring 11 = .ok (.iload_n 3, 1) := by decide +kernel
theorem dX3_bring_12 : decode cX3_bring 12 = .ok (.iload 5, 2) := by decide +kernel
theorem dX3_bring_14 : decode cX3_bring 14 = .ok (.iadd, 1) := by decide +kernel
theorem dX3_bring_15 : decode cX3_bring 15 = .ok (.aload_n 0, 1) := by decide +kernel
theorem dX3_bring_16 : decode cX3_bring 16 = .ok (.iload_n 1, 1) := by decide +kernel
theorem dX3_bring_17 : decode cX3_bring 17 = .ok (.iload 5, 2) := by decide +kernel
theorem dX3_bring_19 : decode cX3_bring 19 = .ok (.iadd, 1) := by decide +kernel
theorem dX3_bring_20 : decode cX3_bring 20 = .ok (.laload, 1) := by decide +kernel
theorem dX3_bring_21 : decode cX3_bring 21 = .ok (.lastore, 1) := by decide +kernel
theorem dX3_bring_22 : decode cX3_bring 22 = .ok (.iinc 5 1, 3) := by decide +kernel
theorem dX3_bring_25 : decode cX3_bring 25 = .ok (.goto (-22), 3) := by decide +kernel
theorem dX3_bring_28 : decode cX3_bring 28 = .ok (.return_, 1) := by decide +kernel
theorem dX3_down_0 : decode cX3_down 0 = .ok (.lload_n 0, 1) := by decide +kernel
theorem dX3_down_1 : decode cX3_down 1 = .ok (.lload_n 2, 1) := by decide +kernel
theorem dX3_down_2 : decode cX3_down 2 = .ok (.ldiv, 1) := by decide +kernel
theorem dX3_down_3 : decode cX3_down 3 = .ok (.lstore 4, 2) := by decide +kernel
theorem dX3_down_5 : decode cX3_down 5 = .ok (.lload_n 0, 1) := by decide +kernel
theorem dX3_down_6 : decode cX3_down 6 = .ok (.lload_n 2, 1) := by decide +kernel
theorem dX3_down_7 : decode cX3_down 7 = .ok (.lrem, 1) := by decide +kernel
theorem dX3_down_8 : decode cX3_down 8 = .ok (.lconst 0, 1) := by decide +kernel
theorem dX3_down_9 : decode cX3_down 9 = .ok (.lcmp, 1) := by decide +kernel
theorem dX3_down_10 : decode cX3_down 10 = .ok (.ifCond .ge 10, 3) := by decide +kernel
theorem dX3_down_13 : decode cX3_down 13 = .ok (.lload 4, 2) := by decide +kernel
theorem dX3_down_15 : decode cX3_down 15 = .ok (.lconst 1, 1) := by decide +kernel
theorem dX3_down_16 : decode cX3_down 16 = .ok (.lsub, 1) := by decide +kernel
theorem dX3_down_17 : decode cX3_down 17 = .ok (.goto 5, 3) := by decide +kernel
theorem dX3_down_20 : decode cX3_down 20 = .ok (.lload 4, 2) := by decide +kernel
theorem dX3_down_22 : decode cX3_down 22 = .ok (.lreturn, 1) := by decide +kernel
theorem dX3_lesser_0 : decode cX3_lesser 0 = .ok (.lload_n 0, 1) := by decide +kernel
theorem dX3_lesser_1 : decode cX3_lesser 1 = .ok (.lload_n 2, 1) := by decide +kernel
theorem dX3_lesser_2 : decode cX3_lesser 2 = .ok (.lcmp, 1) := by decide +kernel
theorem dX3_lesser_3 : decode cX3_lesser 3 = .ok (.ifCond .ge 7, 3) := by decide +kernel
theorem dX3_lesser_6 : decode cX3_lesser 6 = .ok (.lload_n 0, 1) := by decide +kernel
theorem dX3_lesser_7 : decode cX3_lesser 7 = .ok (.goto 4, 3) := by decide +kernel
theorem dX3_lesser_10 : decode cX3_lesser 10 = .ok (.lload_n 2, 1) := by decide +kernel
theorem dX3_lesser_11 : decode cX3_lesser 11 = .ok (.lreturn, 1) := by decide +kernel
theorem dX3_greater_0 : decode cX3_greater 0 = .ok (.lload_n 0, 1) := by decide +kernel
theorem dX3_greater_1 : decode cX3_greater 1 = .ok (.lload_n 2, 1) := by decide +kernel
theorem dX3_greater_2 : decode cX3_greater 2 = .ok (.lcmp, 1) := by decide +kernel
theorem dX3_greater_3 : decode cX3_greater 3 = .ok (.ifCond .le 7, 3) := by decide +kernel
theorem dX3_greater_6 : decode cX3_greater 6 = .ok (.lload_n 0, 1) := by decide +kernel
theorem dX3_greater_7 : decode cX3_greater 7 = .ok (.goto 4, 3) := by decide +kernel
theorem dX3_greater_10 : decode cX3_greater 10 = .ok (.lload_n 2, 1) := by decide +kernel
theorem dX3_greater_11 : decode cX3_greater 11 = .ok (.lreturn, 1) := by decide +kernel
theorem dX3_size_0 : decode cX3_size 0 = .ok (.lload_n 0, 1) := by decide +kernel
theorem dX3_size_1 : decode cX3_size 1 = .ok (.lconst 0, 1) := by decide +kernel
theorem dX3_size_2 : decode cX3_size 2 = .ok (.lcmp, 1) := by decide +kernel
theorem dX3_size_3 : decode cX3_size 3 = .ok (.ifCond .ge 8, 3) := by decide +kernel
theorem dX3_size_6 : decode cX3_size 6 = .ok (.lload_n 0, 1) := by decide +kernel
theorem dX3_size_7 : decode cX3_size 7 = .ok (.lneg, 1) := by decide +kernel
theorem dX3_size_8 : decode cX3_size 8 = .ok (.goto 4, 3) := by decide +kernel
theorem dX3_size_11 : decode cX3_size 11 = .ok (.lload_n 0, 1) := by decide +kernel
theorem dX3_size_12 : decode cX3_size 12 = .ok (.lreturn, 1) := by decide +kernel
theorem dX3_offAt_0 : decode cX3_offAt 0 = .ok (.lload_n 1, 1) := by decide +kernel
theorem dX3_offAt_1 : decode cX3_offAt 1 = .ok (.aload_n 0, 1) := by decide +kernel
theorem dX3_offAt_2 : decode cX3_offAt 2 = .ok (.getfield 7, 3) := by decide +kernel
theorem dX3_offAt_5 : decode cX3_offAt 5 = .ok (.iconst 5, 1) := by decide +kernel
theorem dX3_offAt_6 : decode cX3_offAt 6 = .ok (.laload, 1) := by decide +kernel
theorem dX3_offAt_7 : decode cX3_offAt 7 = .ok (.lsub, 1) := by decide +kernel
theorem dX3_offAt_8 : decode cX3_offAt 8 = .ok (.lstore_n 3, 1) := by decide +kernel
theorem dX3_offAt_9 : decode cX3_offAt 9 = .ok (.aload_n 0, 1) := by decide +kernel
theorem dX3_offAt_10 : decode cX3_offAt 10 = .ok (.getfield 7, 3) := by decide +kernel
theorem dX3_offAt_13 : decode cX3_offAt 13 = .ok (.bipush 7, 2) := by decide +kernel
theorem dX3_offAt_15 : decode cX3_offAt 15 = .ok (.laload, 1) := by decide +kernel
theorem dX3_offAt_16 : decode cX3_offAt 16 = .ok (.aload_n 0, 1) := by decide +kernel
theorem dX3_offAt_17 : decode cX3_offAt 17 = .ok (.getfield 7, 3) := by decide +kernel
theorem dX3_offAt_20 : decode cX3_offAt 20 = .ok (.bipush 6, 2) := by decide +kernel
theorem dX3_offAt_22 : decode cX3_offAt 22 = .ok (.laload, 1) := by decide +kernel
theorem dX3_offAt_23 : decode cX3_offAt 23 = .ok (.lload_n 3, 1) := by decide +kernel
theorem dX3_offAt_24 : decode cX3_offAt 24 = .ok (.lmul, 1) := by decide +kernel
theorem dX3_offAt_25 : decode cX3_offAt 25 = .ok (.lload_n 3, 1) := by decide +kernel
theorem dX3_offAt_26 : decode cX3_offAt 26 = .ok (.lmul, 1) := by decide +kernel
theorem dX3_offAt_27 : decode cX3_offAt 27 = .ok (.ldc2_w 37, 3) := by decide +kernel
theorem dX3_offAt_30 : decode cX3_offAt 30 = .ok (.ldiv, 1) := by decide +kernel
theorem dX3_offAt_31 : decode cX3_offAt 31 = .ok (.lsub, 1) := by decide +kernel
theorem dX3_offAt_32 : decode cX3_offAt 32 = .ok (.lreturn, 1) := by decide +kernel
theorem dX3_spanNow_0 : decode cX3_spanNow 0 = .ok (.aload_n 0, 1) := by decide +kernel
theorem dX3_spanNow_1 : decode cX3_spanNow 1 = .ok (.getfield 7, 3) := by decide +kernel
theorem dX3_spanNow_4 : decode cX3_spanNow 4 = .ok (.iconst 4, 1) := by decide +kernel
theorem dX3_spanNow_5 : decode cX3_spanNow 5 = .ok (.laload, 1) := by decide +kernel
theorem dX3_spanNow_6 : decode cX3_spanNow 6 = .ok (.ldc2_w 31, 3) := by decide +kernel
theorem dX3_spanNow_9 : decode cX3_spanNow 9 = .ok (.ladd, 1) := by decide +kernel
theorem dX3_spanNow_10 : decode cX3_spanNow 10 = .ok (.ldc2_w 39, 3) := by decide +kernel
theorem dX3_spanNow_13 : decode cX3_spanNow 13 = .ok (.ldiv, 1) := by decide +kernel
theorem dX3_spanNow_14 : decode cX3_spanNow 14 = .ok (.l2i, 1) := by decide +kernel
theorem dX3_spanNow_15 : decode cX3_spanNow 15 = .ok (.ireturn, 1) := by decide +kernel
theorem dX3_aim_0 : decode cX3_aim 0 = .ok (.aload_n 0, 1) := by decide +kernel
theorem dX3_aim_1 : decode cX3_aim 1 = .ok (.getfield 7, 3) := by decide +kernel
theorem dX3_aim_4 : decode cX3_aim 4 = .ok (.iconst 1, 1) := by decide +kernel
theorem dX3_aim_5 : decode cX3_aim 5 = .ok (.laload, 1) := by decide +kernel
theorem dX3_aim_6 : decode cX3_aim 6 = .ok (.aload_n 0, 1) := by decide +kernel
theorem dX3_aim_7 : decode cX3_aim 7 = .ok (.getfield 7, 3) := by decide +kernel
theorem dX3_aim_10 : decode cX3_aim 10 = .ok (.iconst 2, 1) := by decide +kernel
theorem dX3_aim_11 : decode cX3_aim 11 = .ok (.laload, 1) := by decide +kernel
theorem dX3_aim_12 : decode cX3_aim 12 = .ok (.ladd, 1) := by decide +kernel
theorem dX3_aim_13 : decode cX3_aim 13 = .ok (.lreturn, 1) := by decide +kernel
set_option maxRecDepth 20000 in
theorem ggX3_spread_X3_spanNow : GoodIn wsX3_spread wsX3_spanNow := goodIn_r _ [7, 1, 8, 9, 13, 14, 15, 16, 17, 18, 19, 20] (by decide +kernel) (by decide +kernel)
set_option maxRecDepth 20000 in
theorem gX3_spread_X3_spanNow : GoodIn wsX3_spread (wsV RX3 41 RX3 yX3_spanNow wsX3_spanNow) := goodIn_app (goodIn_of _ (by decide +kernel)) ggX3_spread_X3_spanNow
set_option maxRecDepth 20000 in
theorem ggX3_spread_X3_down : GoodIn wsX3_spread wsX3_down := goodIn_r _ [12] (by decide +kernel) (by decide +kernel)
set_option maxRecDepth 20000 in
theorem gX3_spread_X3_down : GoodIn wsX3_spread (va_wsS RX3 47 yX3_down wsX3_down) := goodIn_app (goodIn_of _ (by decide +kernel)) ggX3_spread_X3_down
theorem dX3_spread_0 : decode cX3_spread 0 = .ok (.aload_n 0, 1) := by decide +kernel
theorem dX3_spread_1 : decode cX3_spread 1 = .ok (.getfield 7, 3) := by decide +kernel
theorem dX3_spread_4 : decode cX3_spread 4 = .ok (.bipush 8, 2) := by decide +kernel
theorem dX3_spread_6 : decode cX3_spread 6 = .ok (.laload, 1) := by decide +kernel
theorem dX3_spread_7 : decode cX3_spread 7 = .ok (.iload_n 1, 1) := by decide +kernel
theorem dX3_spread_8 : decode cX3_spread 8 = .ok (.i2l, 1) := by decide +kernel
theorem dX3_spread_9 : decode cX3_spread 9 = .ok (.aload_n 0, 1) := by decide +kernel
theorem dX3_spread_10 : decode cX3_spread 10 = .ok (.getfield 7, 3) := by decide +kernel
theorem dX3_spread_13 : decode cX3_spread 13 = .ok (.bipush 15, 2) := by decide +kernel
theorem dX3_spread_15 : decode cX3_spread 15 = .ok (.aload_n 0, 1) := by decide +kernel
theorem dX3_spread_16 : decode cX3_spread 16 = .ok (.invokevirtual 41, 3) := by decide +kernel
theorem dX3_spread_19 : decode cX3_spread 19 = .ok (.iadd, 1) := by decide +kernel
theorem dX3_spread_20 : decode cX3_spread 20 = .ok (.laload, 1) := by decide +kernel
theorem dX3_spread_21 : decode cX3_spread 21 = .ok (.lmul, 1) := by decide +kernel
theorem dX3_spread_22 : decode cX3_spread 22 = .ok (.lsub, 1) := by decide +kernel
theorem dX3_spread_23 : decode cX3_spread 23 = .ok (.ldc2_w 45, 3) := by decide +kernel
theorem dX3_spread_26 : decode cX3_spread 26 = .ok (.invokestatic 47, 3) := by decide +kernel
theorem dX3_spread_29 : decode cX3_spread 29 = .ok (.lreturn, 1) := by decide +kernel
set_option maxRecDepth 20000 in
theorem ggX3_restAfter_X3_spanNow : GoodIn wsX3_restAfter wsX3_spanNow := goodIn_r _ [7, 1, 8, 9, 17, 18, 19, 20, 21, 22, 23, 24] (by decide +kernel) (by decide +kernel)
set_option maxRecDepth 20000 in
theorem gX3_restAfter_X3_spanNow : GoodIn wsX3_restAfter (wsV RX3 41 RX3 yX3_spanNow wsX3_spanNow) := goodIn_app (goodIn_of _ (by decide +kernel)) ggX3_restAfter_X3_spanNow
set_option maxRecDepth 20000 in
theorem ggX3_restAfter_X3_spread : GoodIn wsX3_restAfter wsX3_spread := goodIn_r _ [13, 1, 2, 3, 4, 5, 6, 7, 8, 9, 14, 15, 16, 17, 18, 19, 20, 21, 22, 23, 24] (by decide +kernel) (by decide +kernel)
set_option maxRecDepth 20000 in
theorem gX3_restAfter_X3_spread : GoodIn wsX3_restAfter (wsV RX3 51 RX3 yX3_spread wsX3_spread) := goodIn_app (goodIn_of _ (by decide +kernel)) ggX3_restAfter_X3_spread
theorem dX3_restAfter_0 : decode cX3_restAfter 0 = .ok (.aload_n 0, 1) := by decide +kernel
theorem dX3_restAfter_1 : decode cX3_restAfter 1 = .ok (.getfield 7, 3) := by decide +kernel
theorem dX3_restAfter_4 : decode cX3_restAfter 4 = .ok (.bipush 8, 2) := by decide +kernel
theorem dX3_restAfter_6 : decode cX3_restAfter 6 = .ok (.laload, 1) := by decide +kernel
theorem dX3_restAfter_7 : decode cX3_restAfter 7 = .ok (.iload_n 1, 1) := by decide +kernel
theorem dX3_restAfter_8 : decode cX3_restAfter 8 = .ok (.i2l, 1) := by decide +kernel
theorem dX3_restAfter_9 : decode cX3_restAfter 9 = .ok (.aload_n 0, 1) := by decide +kernel
theorem dX3_restAfter_10 : decode cX3_restAfter 10 = .ok (.getfield 7, 3) := by decide +kernel
theorem dX3_restAfter_13 : decode cX3_restAfter 13 = .ok (.bipush 15, 2) := by decide +kernel
theorem dX3_restAfter_15 : decode cX3_restAfter 15 = .ok (.aload_n 0, 1) := by decide +kernel
theorem dX3_restAfter_16 : decode cX3_restAfter 16 = .ok (.invokevirtual 41, 3) := by decide +kernel
theorem dX3_restAfter_19 : decode cX3_restAfter 19 = .ok (.iadd, 1) := by decide +kernel
theorem dX3_restAfter_20 : decode cX3_restAfter 20 = .ok (.laload, 1) := by decide +kernel
theorem dX3_restAfter_21 : decode cX3_restAfter 21 = .ok (.lmul, 1) := by decide +kernel
theorem dX3_restAfter_22 : decode cX3_restAfter 22 = .ok (.lsub, 1) := by decide +kernel
theorem dX3_restAfter_23 : decode cX3_restAfter 23 = .ok (.ldc2_w 45, 3) := by decide +kernel
theorem dX3_restAfter_26 : decode cX3_restAfter 26 = .ok (.aload_n 0, 1) := by decide +kernel
theorem dX3_restAfter_27 : decode cX3_restAfter 27 = .ok (.iload_n 1, 1) := by decide +kernel
theorem dX3_restAfter_28 : decode cX3_restAfter 28 = .ok (.invokevirtual 51, 3) := by decide +kernel
theorem dX3_restAfter_31 : decode cX3_restAfter 31 = .ok (.lmul, 1) := by decide +kernel
theorem dX3_restAfter_32 : decode cX3_restAfter 32 = .ok (.lsub, 1) := by decide +kernel
theorem dX3_restAfter_33 : decode cX3_restAfter 33 = .ok (.lreturn, 1) := by decide +kernel
set_option maxRecDepth 20000 in
theorem ggX3_gone_X3_size : GoodIn wsX3_gone wsX3_size := goodIn_r _ [5] (by decide +kernel) (by decide +kernel)
set_option maxRecDepth 20000 in
theorem gX3_gone_X3_size : GoodIn wsX3_gone (va_wsS RX3 55 yX3_size wsX3_size) := goodIn_app (goodIn_of _ (by decide +kernel)) ggX3_gone_X3_size
set_option maxRecDepth 20000 in
theorem ggX3_gone_X3_lesser : GoodIn wsX3_gone wsX3_lesser := goodIn_r _ [8] (by decide +kernel) (by decide +kernel)
set_option maxRecDepth 20000 in
theorem gX3_gone_X3_lesser : GoodIn wsX3_gone (va_wsS RX3 59 yX3_lesser wsX3_lesser) := goodIn_app (goodIn_of _ (by decide +kernel)) ggX3_gone_X3_lesser
theorem dX3_gone_0 : decode cX3_gone 0 = .ok (.aload_n 0, 1) := by decide +kernel
theorem dX3_gone_1 : decode cX3_gone 1 = .ok (.getfield 7, 3) := by decide +kernel
theorem dX3_gone_4 : decode cX3_gone 4 = .ok (.iconst 2, 1) := by decide +kernel
theorem dX3_gone_5 : decode cX3_gone 5 = .ok (.laload, 1) := by decide +kernel
theorem dX3_gone_6 : decode cX3_gone 6 = .ok (.invokestatic 55, 3) := by decide +kernel
theorem dX3_gone_9 : decode cX3_gone 9 = .ok (.iload_n 1, 1) := by decide +kernel
theorem dX3_gone_10 : decode cX3_gone 10 = .ok (.i2l, 1) := by decide +kernel
theorem dX3_gone_11 : decode cX3_gone 11 = .ok (.aload_n 0, 1) := by decide +kernel
theorem dX3_gone_12 : decode cX3_gone 12 = .ok (.getfield 7, 3) := by decide +kernel
theorem dX3_gone_15 : decode cX3_gone 15 = .ok (.bipush 9, 2) := by decide +kernel
theorem dX3_gone_17 : decode cX3_gone 17 = .ok (.laload, 1) := by decide +kernel
theorem dX3_gone_18 : decode cX3_gone 18 = .ok (.lmul, 1) := by decide +kernel
theorem dX3_gone_19 : decode cX3_gone 19 = .ok (.invokestatic 59, 3) := by decide +kernel
theorem dX3_gone_22 : decode cX3_gone 22 = .ok (.lstore_n 2, 1) := by decide +kernel
theorem dX3_gone_23 : decode cX3_gone 23 = .ok (.aload_n 0, 1) := by decide +kernel
theorem dX3_gone_24 : decode cX3_gone 24 = .ok (.getfield 7, 3) := by decide +kernel
theorem dX3_gone_27 : decode cX3_gone 27 = .ok (.iconst 2, 1) := by decide +kernel
theorem dX3_gone_28 : decode cX3_gone 28 = .ok (.laload, 1) := by decide +kernel
theorem dX3_gone_29 : decode cX3_gone 29 = .ok (.lconst 0, 1) := by decide +kernel
theorem dX3_gone_30 : decode cX3_gone 30 = .ok (.lcmp, 1) := by decide +kernel
theorem dX3_gone_31 : decode cX3_gone 31 = .ok (.ifCond .ge 8, 3) := by decide +kernel
theorem dX3_gone_34 : decode cX3_gone 34 = .ok (.lload_n 2, 1) := by decide +kernel
theorem dX3_gone_35 : decode cX3_gone 35 = .ok (.lneg, 1) := by decide +kernel
theorem dX3_gone_36 : decode cX3_gone 36 = .ok (.goto 4, 3) := by decide +kernel
theorem dX3_gone_39 : decode cX3_gone 39 = .ok (.lload_n 2, 1) := by decide +kernel
theorem dX3_gone_40 : decode cX3_gone 40 = .ok (.lreturn, 1) := by decide +kernel
set_option maxRecDepth 20000 in
theorem ggX3_boardAfter_X3_offAt : GoodIn wsX3_boardAfter wsX3_offAt := goodIn_r _ [7, 1, 8, 33, 34, 35, 36, 37, 38, 39, 40] (by decide +kernel) (by decide +kernel)
set_option maxRecDepth 20000 in
theorem gX3_boardAfter_X3_offAt : GoodIn wsX3_boardAfter (wsV RX3 64 RX3 yX3_offAt wsX3_offAt) := goodIn_app (goodIn_of _ (by decide +kernel)) ggX3_boardAfter_X3_offAt
set_option maxRecDepth 20000 in
theorem ggX3_boardAfter_X3_spread : GoodIn wsX3_boardAfter wsX3_spread := goodIn_r _ [12, 1, 13, 14, 15, 16, 6, 17, 18, 19, 20, 21, 22, 33, 34, 35, 36, 37, 38, 39, 40] (by decide +kernel) (by decide +kernel)
set_option maxRecDepth 20000 in
theorem gX3_boardAfter_X3_spread : GoodIn wsX3_boardAfter (wsV RX3 51 RX3 yX3_spread wsX3_spread) := goodIn_app (goodIn_of _ (by decide +kernel)) ggX3_boardAfter_X3_spread
set_option maxRecDepth 20000 in
theorem ggX3_boardAfter_X3_gone : GoodIn wsX3_boardAfter wsX3_gone := goodIn_r _ [26, 1, 27, 28, 6, 29, 30, 31, 32, 33, 34, 35, 36, 37, 38, 39, 40] (by decide +kernel) (by decide +kernel)
set_option maxRecDepth 20000 in
theorem gX3_boardAfter_X3_gone : GoodIn wsX3_boardAfter (wsV RX3 67 RX3 yX3_gone wsX3_gone) := goodIn_app (goodIn_of _ (by decide +kernel)) ggX3_boardAfter_X3_gone
theorem dX3_boardAfter_0 : decode cX3_boardAfter 0 = .ok (.aload_n 0, 1) := by decide +kernel
theorem dX3_boardAfter_1 : decode cX3_boardAfter 1 = .ok (.getfield 7, 3) := by decide +kernel
theorem dX3_boardAfter_4 : decode cX3_boardAfter 4 = .ok (.iconst 1, 1) := by decide +kernel
theorem dX3_boardAfter_5 : decode cX3_boardAfter 5 = .ok (.laload, 1) := by decide +kernel
theorem dX3_boardAfter_6 : decode cX3_boardAfter 6 = .ok (.iload_n 1, 1) := by decide +kernel
theorem dX3_boardAfter_7 : decode cX3_boardAfter 7 = .ok (.i2l, 1) := by decide +kernel
theorem dX3_boardAfter_8 : decode cX3_boardAfter 8 = .ok (.ldc2_w 62, 3) := by decide +kernel
theorem dX3_boardAfter_11 : decode cX3_boardAfter 11 = .ok (.aload_n 0, 1) := by decide +kernel
theorem dX3_boardAfter_12 : decode cX3_boardAfter 12 = .ok (.aload_n 0, 1) := by decide +kernel
theorem dX3_boardAfter_13 : decode cX3_boardAfter 13 = .ok (.getfield 7, 3) := by decide +kernel
theorem dX3_boardAfter_16 : decode cX3_boardAfter 16 = .ok (.iconst 4, 1) := by decide +kernel
theorem dX3_boardAfter_17 : decode cX3_boardAfter 17 = .ok (.laload, 1) := by decide +kernel
theorem dX3_boardAfter_18 : decode cX3_boardAfter 18 = .ok (.invokevirtual 64, 3) := by decide +kernel
theorem dX3_boardAfter_21 : decode cX3_boardAfter 21 = .ok (.ladd, 1) := by decide +kernel
theorem dX3_boardAfter_22 : decode cX3_boardAfter 22 = .ok (.lmul, 1) := by decide +kernel
theorem dX3_boardAfter_23 : decode cX3_boardAfter 23 = .ok (.ladd, 1) := by decide +kernel
theorem dX3_boardAfter_24 : decode cX3_boardAfter 24 = .ok (.lstore_n 2, 1) := by decide +kernel
theorem dX3_boardAfter_25 : decode cX3_boardAfter 25 = .ok (.aload_n 0, 1) := by decide +kernel
theorem dX3_boardAfter_26 : decode cX3_boardAfter 26 = .ok (.getfield 7, 3) := by decide +kernel
theorem dX3_boardAfter_29 : decode cX3_boardAfter 29 = .ok (.bipush 11, 2) := by decide +kernel
theorem dX3_boardAfter_31 : decode cX3_boardAfter 31 = .ok (.laload, 1) := by decide +kernel
theorem dX3_boardAfter_32 : decode cX3_boardAfter 32 = .ok (.lconst 1, 1) := by decide +kernel
theorem dX3_boardAfter_33 : decode cX3_boardAfter 33 = .ok (.lcmp, 1) := by decide +kernel
theorem dX3_boardAfter_34 : decode cX3_boardAfter 34 = .ok (.ifCond .ne 19, 3) := by decide +kernel
theorem dX3_boardAfter_37 : decode cX3_boardAfter 37 = .ok (.lload_n 2, 1) := by decide +kernel
theorem dX3_boardAfter_38 : decode cX3_boardAfter 38 = .ok (.aload_n 0, 1) := by decide +kernel
theorem dX3_boardAfter_39 : decode cX3_boardAfter 39 = .ok (.iload_n 1, 1) := by decide +kernel
theorem dX3_boardAfter_40 : decode cX3_boardAfter 40 = .ok (.invokevirtual 51, 3) := by decide +kernel
theorem dX3_boardAfter_43 : decode cX3_boardAfter 43 = .ok (.ladd, 1) := by decide +kernel
theorem dX3_boardAfter_44 : decode cX3_boardAfter 44 = .ok (.aload_n 0, 1) := by decide +kernel
theorem dX3_boardAfter_45 : decode cX3_boardAfter 45 = .ok (.iload_n 1, 1) := by decide +kernel
theorem dX3_boardAfter_46 : decode cX3_boardAfter 46 = .ok (.invokevirtual 67, 3) := by decide +kernel
theorem dX3_boardAfter_49 : decode cX3_boardAfter 49 = .ok (.ladd, 1) := by decide +kernel
theorem dX3_boardAfter_50 : decode cX3_boardAfter 50 = .ok (.goto 4, 3) := by decide +kernel
theorem dX3_boardAfter_53 : decode cX3_boardAfter 53 = .ok (.lload_n 2, 1) := by decide +kernel
theorem dX3_boardAfter_54 : decode cX3_boardAfter 54 = .ok (.lreturn, 1) := by decide +kernel
theorem dX3_wider_0 : decode cX3_wider 0 = .ok (.aload_n 0, 1) := by decide +kernel
theorem dX3_wider_1 : decode cX3_wider 1 = .ok (.getfield 7, 3) := by decide +kernel
theorem dX3_wider_4 : decode cX3_wider 4 = .ok (.bipush 11, 2) := by decide +kernel
theorem dX3_wider_6 : decode cX3_wider 6 = .ok (.laload, 1) := by decide +kernel
theorem dX3_wider_7 : decode cX3_wider 7 = .ok (.lconst 1, 1) := by decide +kernel
theorem dX3_wider_8 : decode cX3_wider 8 = .ok (.lcmp, 1) := by decide +kernel
theorem dX3_wider_9 : decode cX3_wider 9 = .ok (.ifCond .ne 13, 3) := by decide +kernel
theorem dX3_wider_12 : decode cX3_wider 12 = .ok (.aload_n 0, 1) := by decide +kernel
theorem dX3_wider_13 : decode cX3_wider 13 = .ok (.getfield 7, 3) := by decide +kernel
theorem dX3_wider_16 : decode cX3_wider 16 = .ok (.bipush 10, 2) := by decide +kernel
theorem dX3_wider_18 : decode cX3_wider 18 = .ok (.laload, 1) := by decide +kernel
theorem dX3_wider_19 : decode cX3_wider 19 = .ok (.goto 14, 3) := by decide +kernel
theorem dX3_wider_22 : decode cX3_wider 22 = .ok (.ldc2_w 70, 3) := by decide +kernel
theorem dX3_wider_25 : decode cX3_wider 25 = .ok (.aload_n 0, 1) := by decide +kernel
theorem dX3_wider_26 : decode cX3_wider 26 = .ok (.getfield 7, 3) := by decide +kernel
theorem dX3_wider_29 : decode cX3_wider 29 = .ok (.bipush 10, 2) := by decide +kernel
theorem dX3_wider_31 : decode cX3_wider 31 = .ok (.laload, 1) := by decide +kernel
theorem dX3_wider_32 : decode cX3_wider 32 = .ok (.lmul, 1) := by decide +kernel
theorem dX3_wider_33 : decode cX3_wider 33 = .ok (.lreturn, 1) := by decide +kernel
theorem dX3_fitsIn_0 : decode cX3_fitsIn 0 = .ok (.lload_n 0, 1) := by decide +kernel
theorem dX3_fitsIn_1 : decode cX3_fitsIn 1 = .ok (.ldc2_w 35, 3) := by decide +kernel
theorem dX3_fitsIn_4 : decode cX3_fitsIn 4 = .ok (.lcmp, 1) := by decide +kernel
theorem dX3_fitsIn_5 : decode cX3_fitsIn 5 = .ok (.ifCond .eq 9, 3) := by decide +kernel
theorem dX3_fitsIn_8 : decode cX3_fitsIn 8 = .ok (.lload_n 0, 1) := by decide +kernel
theorem dX3_fitsIn_9 : decode cX3_fitsIn 9 = .ok (.lload_n 2, 1) := by decide +kernel
theorem dX3_fitsIn_10 : decode cX3_fitsIn 10 = .ok (.lcmp, 1) := by decide +kernel
theorem dX3_fitsIn_11 : decode cX3_fitsIn 11 = .ok (.ifCond .ne 7, 3) := by decide +kernel
theorem dX3_fitsIn_14 : decode cX3_fitsIn 14 = .ok (.iconst 1, 1) := by decide +kernel
theorem dX3_fitsIn_15 : decode cX3_fitsIn 15 = .ok (.goto 4, 3) := by decide +kernel
theorem dX3_fitsIn_18 : decode cX3_fitsIn 18 = .ok (.iconst 0, 1) := by decide +kernel
theorem dX3_fitsIn_19 : decode cX3_fitsIn 19 = .ok (.ireturn, 1) := by decide +kernel
set_option maxRecDepth 20000 in
theorem ggX3_fits_X3_fitsIn : GoodIn wsX3_fits wsX3_fitsIn := goodIn_r _ [9, 10] (by decide +kernel) (by decide +kernel)
set_option maxRecDepth 20000 in
theorem gX3_fits_X3_fitsIn : GoodIn wsX3_fits (va_wsS RX3 74 yX3_fitsIn wsX3_fitsIn) := goodIn_app (goodIn_of _ (by decide +kernel)) ggX3_fits_X3_fitsIn
theorem dX3_fits_0 : decode cX3_fits 0 = .ok (.bipush 25, 2) := by decide +kernel
theorem dX3_fits_2 : decode cX3_fits 2 = .ok (.iconst 4, 1) := by decide +kernel
theorem dX3_fits_3 : decode cX3_fits 3 = .ok (.iload_n 1, 1) := by decide +kernel
theorem dX3_fits_4 : decode cX3_fits 4 = .ok (.imul, 1) := by decide +kernel
theorem dX3_fits_5 : decode cX3_fits 5 = .ok (.iadd, 1) := by decide +kernel
theorem dX3_fits_6 : decode cX3_fits 6 = .ok (.istore 4, 2) := by decide +kernel
theorem dX3_fits_8 : decode cX3_fits 8 = .ok (.aload_n 0, 1) := by decide +kernel
theorem dX3_fits_9 : decode cX3_fits 9 = .ok (.getfield 7, 3) := by decide +kernel
theorem dX3_fits_12 : decode cX3_fits 12 = .ok (.iload 4, 2) := by decide +kernel
theorem dX3_fits_14 : decode cX3_fits 14 = .ok (.laload, 1) := by decide +kernel
theorem dX3_fits_15 : decode cX3_fits 15 = .ok (.lload_n 2, 1) := by decide +kernel
theorem dX3_fits_16 : decode cX3_fits 16 = .ok (.ldc2_w 72, 3) := by decide +kernel
theorem dX3_fits_19 : decode cX3_fits 19 = .ok (.lrem, 1) := by decide +kernel
theorem dX3_fits_20 : decode cX3_fits 20 = .ok (.invokestatic 74, 3) := by decide +kernel
theorem dX3_fits_23 : decode cX3_fits 23 = .ok (.ifCond .eq 55, 3) := by decide +kernel
theorem dX3_fits_26 : decode cX3_fits 26 = .ok (.aload_n 0, 1) := by decide +kernel
theorem dX3_fits_27 : decode cX3_fits 27 = .ok (.getfield 7, 3) := by decide +kernel
theorem dX3_fits_30 : decode cX3_fits 30 = .ok (.iload 4, 2) := by decide +kernel
theorem dX3_fits_32 : decode cX3_fits 32 = .ok (.iconst 1, 1) := by decide +kernel
theorem dX3_fits_33 : decode cX3_fits 33 = .ok (.iadd, 1) := by decide +kernel
theorem dX3_fits_34 : decode cX3_fits 34 = .ok (.laload, 1) := by decide +kernel
theorem dX3_fits_35 : decode cX3_fits 35 = .ok (.lload_n 2, 1) := by decide +kernel
theorem dX3_fits_36 : decode cX3_fits 36 = .ok (.ldc2_w 72, 3) := by decide +kernel
theorem dX3_fits_39 : decode cX3_fits 39 = .ok (.ldiv, 1) := by decide +kernel
theorem dX3_fits_40 : decode cX3_fits 40 = .ok (.ldc2_w 78, 3) := by decide +kernel
theorem dX3_fits_43 : decode cX3_fits 43 = .ok (.lrem, 1) := by decide +kernel
theorem dX3_fits_44 : decode cX3_fits 44 = .ok (.invokestatic 74, 3) := by decide +kernel
theorem dX3_fits_47 : decode cX3_fits 47 = .ok (.ifCond .eq 31, 3) := by decide +kernel
theorem dX3_fits_50 : decode cX3_fits 50 = .ok (.aload_n 0, 1) := by decide +kernel
theorem dX3_fits_51 : decode cX3_fits 51 = .ok (.getfield 7, 3) := by decide +kernel
theorem dX3_fits_54 : decode cX3_fits 54 = .ok (.iload 4, 2) := by decide +kernel
theorem dX3_fits_56 : decode cX3_fits 56 = .ok (.iconst 2, 1) := by decide +kernel
theorem dX3_fits_57 : decode cX3_fits 57 = .ok (.iadd, 1) := by decide +kernel
theorem dX3_fits_58 : decode cX3_fits 58 = .ok (.laload, 1) := by decide +kernel
theorem dX3_fits_59 : decode cX3_fits 59 = .ok (.lload_n 2, 1) := by decide +kernel
theorem dX3_fits_60 : decode cX3_fits 60 = .ok (.ldc2_w 80, 3) := by decide +kernel
theorem dX3_fits_63 : decode cX3_fits 63 = .ok (.ldiv, 1) := by decide +kernel
theorem dX3_fits_64 : decode cX3_fits 64 = .ok (.ldc2_w 82, 3) := by decide +kernel
theorem dX3_fits_67 : decode cX3_fits 67 = .ok (.lrem, 1) := by decide +kernel
theorem dX3_fits_68 : decode cX3_fits 68 = .ok (.invokestatic 74, 3) := by decide +kernel
theorem dX3_fits_71 : decode cX3_fits 71 = .ok (.ifCond .eq 7, 3) := by decide +kernel
theorem dX3_fits_74 : decode cX3_fits 74 = .ok (.iconst 1, 1) := by decide +kernel
theorem dX3_fits_75 : decode cX3_fits 75 = .ok (.goto 4, 3) := by decide +kernel
theorem dX3_fits_78 : decode cX3_fits 78 = .ok (.iconst 0, 1) := by decide +kernel
theorem dX3_fits_79 : decode cX3_fits 79 = .ok (.ireturn, 1) := by decide +kernel
theorem dX3_minuteNow_0 : decode cX3_minuteNow 0 = .ok (.aload_n 0, 1) := by decide +kernel
theorem dX3_minuteNow_1 : decode cX3_minuteNow 1 = .ok (.getfield 7, 3) := by decide +kernel
theorem dX3_minuteNow_4 : decode cX3_minuteNow 4 = .ok (.iconst 1, 1) := by decide +kernel
theorem dX3_minuteNow_5 : decode cX3_minuteNow 5 = .ok (.laload, 1) := by decide +kernel
theorem dX3_minuteNow_6 : decode cX3_minuteNow 6 = .ok (.ldc2_w 62, 3) := by decide +kernel
theorem dX3_minuteNow_9 : decode cX3_minuteNow 9 = .ok (.ldiv, 1) := by decide +kernel
theorem dX3_minuteNow_10 : decode cX3_minuteNow 10 = .ok (.lreturn, 1) := by decide +kernel
set_option maxRecDepth 20000 in
theorem ggX3_between_X3_minuteNow : GoodIn wsX3_between wsX3_minuteNow := goodIn_r _ [6, 7, 1, 20, 21, 22, 23, 24, 25, 26, 27] (by decide +kernel) (by decide +kernel)
set_option maxRecDepth 20000 in
theorem gX3_between_X3_minuteNow : GoodIn wsX3_between (wsV RX3 84 RX3 yX3_minuteNow wsX3_minuteNow) := goodIn_app (goodIn_of _ (by decide +kernel)) ggX3_between_X3_minuteNow
set_option maxRecDepth 20000 in
theorem ggX3_between_X3_fits : GoodIn wsX3_between wsX3_fits := goodIn_r _ [11, 7, 12, 13, 14, 15, 16, 17, 5, 18, 19, 20, 21, 22, 23, 24, 25, 26, 27] (by decide +kernel) (by decide +kernel)
set_option maxRecDepth 20000 in
theorem gX3_between_X3_fits : GoodIn wsX3_between (wsV RX3 88 RX3 yX3_fits wsX3_fits) := goodIn_app (goodIn_of _ (by decide +kernel)) ggX3_between_X3_fits
theorem dX3_between_0 : decode cX3_between 0 = .ok (.lconst 0, 1) := by decide +kernel
theorem dX3_between_1 : decode cX3_between 1 = .ok (.lstore 4, 2) := by decide +kernel
theorem dX3_between_3 : decode cX3_between 3 = .ok (.aload_n 0, 1) := by decide +kernel
theorem dX3_between_4 : decode cX3_between 4 = .ok (.invokevirtual 84, 3) := by decide +kernel
theorem dX3_between_7 : decode cX3_between 7 = .ok (.lconst 1, 1) := by decide +kernel
theorem dX3_between_8 : decode cX3_between 8 = .ok (.ladd, 1) := by decide +kernel
theorem dX3_between_9 : decode cX3_between 9 = .ok (.lstore 6, 2) := by decide +kernel
theorem dX3_between_11 : decode cX3_between 11 = .ok (.lload 6, 2) := by decide +kernel
theorem dX3_between_13 : decode cX3_between 13 = .ok (.lload_n 2, 1) := by decide +kernel
theorem dX3_between_14 : decode cX3_between 14 = .ok (.ldc2_w 62, 3) := by decide +kernel
theorem dX3_between_17 : decode cX3_between 17 = .ok (.ldiv, 1) := by decide +kernel
theorem dX3_between_18 : decode cX3_between 18 = .ok (.lcmp, 1) := by decide +kernel
theorem dX3_between_19 : decode cX3_between 19 = .ok (.ifCond .gt 32, 3) := by decide +kernel
theorem dX3_between_22 : decode cX3_between 22 = .ok (.lload 4, 2) := by decide +kernel
theorem dX3_between_24 : decode cX3_between 24 = .ok (.aload_n 0, 1) := by decide +kernel
theorem dX3_between_25 : decode cX3_between 25 = .ok (.iload_n 1, 1) := by decide +kernel
theorem dX3_between_26 : decode cX3_between 26 = .ok (.lload 6, 2) := by decide +kernel
theorem dX3_between_28 : decode cX3_between 28 = .ok (.invokevirtual 88, 3) := by decide +kernel
theorem dX3_between_31 : decode cX3_between 31 = .ok (.ifCond .eq 7, 3) := by decide +kernel
theorem dX3_between_34 : decode cX3_between 34 = .ok (.lconst 1, 1) := by decide +kernel
theorem dX3_between_35 : decode cX3_between 35 = .ok (.goto 4, 3) := by decide +kernel
theorem dX3_between_38 : decode cX3_between 38 = .ok (.lconst 0, 1) := by decide +kernel
theorem dX3_between_39 : decode cX3_between 39 = .ok (.ladd, 1) := by decide +kernel
theorem dX3_between_40 : decode cX3_between 40 = .ok (.lstore 4, 2) := by decide +kernel
theorem dX3_between_42 : decode cX3_between 42 = .ok (.lload 6, 2) := by decide +kernel
theorem dX3_between_44 : decode cX3_between 44 = .ok (.lconst 1, 1) := by decide +kernel
theorem dX3_between_45 : decode cX3_between 45 = .ok (.ladd, 1) := by decide +kernel
theorem dX3_between_46 : decode cX3_between 46 = .ok (.lstore 6, 2) := by decide +kernel
theorem dX3_between_48 : decode cX3_between 48 = .ok (.goto (-37), 3) := by decide +kernel
theorem dX3_between_51 : decode cX3_between 51 = .ok (.lload 4, 2) := by decide +kernel
theorem dX3_between_53 : decode cX3_between 53 = .ok (.lreturn, 1) := by decide +kernel
theorem dX3_ringsAt_0 : decode cX3_ringsAt 0 = .ok (.aload_n 0, 1) := by decide +kernel
theorem dX3_ringsAt_1 : decode cX3_ringsAt 1 = .ok (.getfield 7, 3) := by decide +kernel
theorem dX3_ringsAt_4 : decode cX3_ringsAt 4 = .ok (.bipush 25, 2) := by decide +kernel
theorem dX3_ringsAt_6 : decode cX3_ringsAt 6 = .ok (.iconst 4, 1) := by decide +kernel
theorem dX3_ringsAt_7 : decode cX3_ringsAt 7 = .ok (.iload_n 1, 1) := by decide +kernel
theorem dX3_ringsAt_8 : decode cX3_ringsAt 8 = .ok (.imul, 1) := by decide +kernel
theorem dX3_ringsAt_9 : decode cX3_ringsAt 9 = .ok (.iadd, 1) := by decide +kernel
theorem dX3_ringsAt_10 : decode cX3_ringsAt 10 = .ok (.iconst 3, 1) := by decide +kernel
theorem dX3_ringsAt_11 : decode cX3_ringsAt 11 = .ok (.iadd, 1) := by decide +kernel
theorem dX3_ringsAt_12 : decode cX3_ringsAt 12 = .ok (.laload, 1) := by decide +kernel
theorem dX3_ringsAt_13 : decode cX3_ringsAt 13 = .ok (.lreturn, 1) := by decide +kernel
set_option maxRecDepth 20000 in
theorem ggX3_goes_X3_boardAfter : GoodIn wsX3_goes wsX3_boardAfter := goodIn_r _ [10, 1, 3, 11, 12, 13, 9, 14, 15, 16, 17, 18, 19, 20, 21, 22, 23, 24, 25, 26, 27, 28, 29, 30, 31, 32, 33, 34, 35, 36, 37, 38, 39, 73, 74, 75, 76, 77, 78, 79, 80] (by decide +kernel) (by decide +kernel)
set_option maxRecDepth 20000 in
theorem gX3_goes_X3_boardAfter : GoodIn wsX3_goes (wsV RX3 92 RX3 yX3_boardAfter wsX3_boardAfter) := goodIn_app (goodIn_of _ (by decide +kernel)) ggX3_goes_X3_boardAfter
set_option maxRecDepth 20000 in
theorem ggX3_goes_X3_between : GoodIn wsX3_goes wsX3_between := goodIn_r _ [43, 3, 44, 45, 46, 9, 47, 1, 48, 49, 50, 51, 52, 53, 54, 55, 56, 57, 58, 59, 73, 74, 75, 76, 77, 78, 79, 80] (by decide +kernel) (by decide +kernel)
set_option maxRecDepth 20000 in
theorem gX3_goes_X3_between : GoodIn wsX3_goes (wsV RX3 95 RX3 yX3_between wsX3_between) := goodIn_app (goodIn_of _ (by decide +kernel)) ggX3_goes_X3_between
set_option maxRecDepth 20000 in
theorem ggX3_goes_X3_ringsAt : GoodIn wsX3_goes wsX3_ringsAt := goodIn_r _ [63, 1, 73, 74, 75, 76, 77, 78, 79, 80] (by decide +kernel) (by decide +kernel)
set_option maxRecDepth 20000 in
theorem gX3_goes_X3_ringsAt : GoodIn wsX3_goes (wsV RX3 101 RX3 yX3_ringsAt wsX3_ringsAt) := goodIn_app (goodIn_of _ (by decide +kernel)) ggX3_goes_X3_ringsAt
set_option maxRecDepth 20000 in
theorem ggX3_goes_X3_lesser : GoodIn wsX3_goes wsX3_lesser := goodIn_r _ [39] (by decide +kernel) (by decide +kernel)
set_option maxRecDepth 20000 in
theorem gX3_goes_X3_lesser : GoodIn wsX3_goes (va_wsS RX3 59 yX3_lesser wsX3_lesser) := goodIn_app (goodIn_of _ (by decide +kernel)) ggX3_goes_X3_lesser
set_option maxRecDepth 20000 in
theorem ggX3_goes_X3_restAfter : GoodIn wsX3_goes wsX3_restAfter := goodIn_r _ [67, 1, 20, 21, 22, 23, 9, 24, 25, 26, 16, 17, 18, 19, 27, 28, 29, 73, 74, 75, 76, 77, 78, 79, 80] (by decide +kernel) (by decide +kernel)
set_option maxRecDepth 20000 in
theorem gX3_goes_X3_restAfter : GoodIn wsX3_goes (wsV RX3 104 RX3 yX3_restAfter wsX3_restAfter) := goodIn_app (goodIn_of _ (by decide +kernel)) ggX3_goes_X3_restAfter
set_option maxRecDepth 20000 in
theorem ggX3_goes_X3_gone : GoodIn wsX3_goes wsX3_gone := goodIn_r _ [33, 1, 34, 35, 9, 36, 37, 38, 39, 73, 74, 75, 76, 77, 78, 79, 80] (by decide +kernel) (by decide +kernel)
set_option maxRecDepth 20000 in
theorem gX3_goes_X3_gone : GoodIn wsX3_goes (wsV RX3 67 RX3 yX3_gone wsX3_gone) := goodIn_app (goodIn_of _ (by decide +kernel)) ggX3_goes_X3_gone
set_option maxRecDepth 20000 in
theorem ggX3_goes_X3_wider : GoodIn wsX3_goes wsX3_wider := goodIn_r _ [71, 1, 72, 73, 74, 75, 76, 77, 78, 79, 80] (by decide +kernel) (by decide +kernel)
set_option maxRecDepth 20000 in
theorem gX3_goes_X3_wider : GoodIn wsX3_goes (wsV RX3 109 RX3 yX3_wider wsX3_wider) := goodIn_app (goodIn_of _ (by decide +kernel)) ggX3_goes_X3_wider
set_option maxRecDepth 20000 in
theorem ggX3_goes_X3_spanNow : GoodIn wsX3_goes wsX3_spanNow := goodIn_r _ [24, 1, 25, 26, 73, 74, 75, 76, 77, 78, 79, 80] (by decide +kernel) (by decide +kernel)
set_option maxRecDepth 20000 in
theorem gX3_goes_X3_spanNow : GoodIn wsX3_goes (wsV RX3 41 RX3 yX3_spanNow wsX3_spanNow) := goodIn_app (goodIn_of _ (by decide +kernel)) ggX3_goes_X3_spanNow
theorem dX3_goes_0 : decode cX3_goes 0 = .ok (.aload_n 0, 1) := by decide +kernel
theorem dX3_goes_1 : decode cX3_goes 1 = .ok (.iload_n 1, 1) := by decide +kernel
theorem dX3_goes_2 : decode cX3_goes 2 = .ok (.invokevirtual 92, 3) := by decide +kernel
theorem dX3_goes_5 : decode cX3_goes 5 = .ok (.lstore_n 2, 1) := by decide +kernel
theorem dX3_goes_6 : decode cX3_goes 6 = .ok (.iconst 0, 1) := by decide +kernel
theorem dX3_goes_7 : decode cX3_goes 7 = .ok (.istore 4, 2) := by decide +kernel
theorem dX3_goes_9 : decode cX3_goes 9 = .ok (.iconst 0, 1) := by decide +kernel
theorem dX3_goes_10 : decode cX3_goes 10 = .ok (.istore 5, 2) := by decide +kernel
theorem dX3_goes_12 : decode cX3_goes 12 = .ok (.iload 5, 2) := by decide +kernel
theorem dX3_goes_14 : decode cX3_goes 14 = .ok (.i2l, 1) := by decide +kernel
theorem dX3_goes_15 : decode cX3_goes 15 = .ok (.aload_n 0, 1) := by decide +kernel
theorem dX3_goes_16 : decode cX3_goes 16 = .ok (.getfield 7, 3) := by decide +kernel
theorem dX3_goes_19 : decode cX3_goes 19 = .ok (.bipush 24, 2) := by decide +kernel
theorem dX3_goes_21 : decode cX3_goes 21 = .ok (.laload, 1) := by decide +kernel
theorem dX3_goes_22 : decode cX3_goes 22 = .ok (.lcmp, 1) := by decide +kernel
theorem dX3_goes_23 : decode cX3_goes 23 = .ok (.ifCond .ge 67, 3) := by decide +kernel
theorem dX3_goes_26 : decode cX3_goes 26 = .ok (.aload_n 0, 1) := by decide +kernel
theorem dX3_goes_27 : decode cX3_goes 27 = .ok (.iload 5, 2) := by decide +kernel
theorem dX3_goes_29 : decode cX3_goes 29 = .ok (.lload_n 2, 1) := by decide +kernel
theorem dX3_goes_30 : decode cX3_goes 30 = .ok (.invokevirtual 95, 3) := by decide +kernel
theorem dX3_goes_33 : decode cX3_goes 33 = .ok (.lstore 6, 2) := by decide +kernel
theorem dX3_goes_35 : decode cX3_goes 35 = .ok (.iload 4, 2) := by decide +kernel
theorem dX3_goes_37 : decode cX3_goes 37 = .ok (.lload 6, 2) := by decide +kernel
theorem dX3_goes_39 : decode cX3_goes 39 = .ok (.lconst 0, 1) := by decide +kernel
theorem dX3_goes_40 : decode cX3_goes 40 = .ok (.lcmp, 1) := by decide +kernel
theorem dX3_goes_41 : decode cX3_goes 41 = .ok (.ifCond .le 10, 3) := by decide +kernel
theorem dX3_goes_44 : decode cX3_goes 44 = .ok (.iconst 1, 1) := by decide +kernel
theorem dX3_goes_45 : decode cX3_goes 45 = .ok (.iload 5, 2) := by decide +kernel
theorem dX3_goes_47 : decode cX3_goes 47 = .ok (.ishl, 1) := by decide +kernel
theorem dX3_goes_48 : decode cX3_goes 48 = .ok (.goto 4, 3) := by decide +kernel
theorem dX3_goes_51 : decode cX3_goes 51 = .ok (.iconst 0, 1) := by decide +kernel
theorem dX3_goes_52 : decode cX3_goes 52 = .ok (.ior, 1) := by decide +kernel
theorem dX3_goes_53 : decode cX3_goes 53 = .ok (.istore 4, 2) := by decide +kernel
theorem dX3_goes_55 : decode cX3_goes 55 = .ok (.aload_n 0, 1) := by decide +kernel
theorem dX3_goes_56 : decode cX3_goes 56 = .ok (.getfield 7, 3) := by decide +kernel
theorem dX3_goes_59 : decode cX3_goes 59 = .ok (.bipush 25, 2) := by decide +kernel
theorem dX3_goes_61 : decode cX3_goes 61 = .ok (.iconst 4, 1) := by decide +kernel
theorem dX3_goes_62 : decode cX3_goes 62 = .ok (.iload 5, 2) := by decide +kernel
theorem dX3_goes_64 : decode cX3_goes 64 = .ok (.imul, 1) := by decide +kernel
theorem dX3_goes_65 : decode cX3_goes 65 = .ok (.iadd, 1) := by decide +kernel
theorem dX3_goes_66 : decode cX3_goes 66 = .ok (.iconst 3, 1) := by decide +kernel
theorem dX3_goes_67 : decode cX3_goes 67 = .ok (.iadd, 1) := by decide +kernel
theorem dX3_goes_68 : decode cX3_goes 68 = .ok (.ldc2_w 99, 3) := by decide +kernel
theorem dX3_goes_71 : decode cX3_goes 71 = .ok (.aload_n 0, 1) := by decide +kernel
theorem dX3_goes_72 : decode cX3_goes 72 = .ok (.iload 5, 2) := by decide +kernel
theorem dX3_goes_74 : decode cX3_goes 74 = .ok (.invokevirtual 101, 3) := by decide +kernel
theorem dX3_goes_77 : decode cX3_goes 77 = .ok (.lload 6, 2) := by decide +kernel
theorem dX3_goes_79 : decode cX3_goes 79 = .ok (.ladd, 1) := by decide +kernel
theorem dX3_goes_80 : decode cX3_goes 80 = .ok (.invokestatic 59, 3) := by decide +kernel
theorem dX3_goes_83 : decode cX3_goes 83 = .ok (.lastore, 1) := by decide +kernel
theorem dX3_goes_84 : decode cX3_goes 84 = .ok (.iinc 5 1, 3) := by decide +kernel
theorem dX3_goes_87 : decode cX3_goes 87 = .ok (.goto (-75), 3) := by decide +kernel
theorem dX3_goes_90 : decode cX3_goes 90 = .ok (.aload_n 0, 1) := by decide +kernel
theorem dX3_goes_91 : decode cX3_goes 91 = .ok (.getfield 7, 3) := by decide +kernel
theorem dX3_goes_94 : decode cX3_goes 94 = .ok (.bipush 11, 2) := by decide +kernel
theorem dX3_goes_96 : decode cX3_goes 96 = .ok (.laload, 1) := by decide +kernel
theorem dX3_goes_97 : decode cX3_goes 97 = .ok (.lconst 1, 1) := by decide +kernel
theorem dX3_goes_98 : decode cX3_goes 98 = .ok (.lcmp, 1) := by decide +kernel
theorem dX3_goes_99 : decode cX3_goes 99 = .ok (.ifCond .ne 33, 3) := by decide +kernel
theorem dX3_goes_102 : decode cX3_goes 102 = .ok (.aload_n 0, 1) := by decide +kernel
theorem dX3_goes_103 : decode cX3_goes 103 = .ok (.iload_n 1, 1) := by decide +kernel
theorem dX3_goes_104 : decode cX3_goes 104 = .ok (.invokevirtual 104, 3) := by decide +kernel
theorem dX3_goes_107 : decode cX3_goes 107 = .ok (.lstore 5, 2) := by decide +kernel
theorem dX3_goes_109 : decode cX3_goes 109 = .ok (.aload_n 0, 1) := by decide +kernel
theorem dX3_goes_110 : decode cX3_goes 110 = .ok (.getfield 7, 3) := by decide +kernel
theorem dX3_goes_113 : decode cX3_goes 113 = .ok (.iconst 2, 1) := by decide +kernel
theorem dX3_goes_114 : decode cX3_goes 114 = .ok (.dup2, 1) := by decide +kernel
theorem dX3_goes_115 : decode cX3_goes 115 = .ok (.laload, 1) := by decide +kernel
theorem dX3_goes_116 : decode cX3_goes 116 = .ok (.aload_n 0, 1) := by decide +kernel
theorem dX3_goes_117 : decode cX3_goes 117 = .ok (.iload_n 1, 1) := by decide +kernel
theorem dX3_goes_118 : decode cX3_goes 118 = .ok (.invokevirtual 67, 3) := by decide +kernel
theorem dX3_goes_121 : decode cX3_goes 121 = .ok (.lsub, 1) := by decide +kernel
theorem dX3_goes_122 : decode cX3_goes 122 = .ok (.lastore, 1) := by decide +kernel
theorem dX3_goes_123 : decode cX3_goes 123 = .ok (.aload_n 0, 1) := by decide +kernel
theorem dX3_goes_124 : decode cX3_goes 124 = .ok (.getfield 7, 3) := by decide +kernel
theorem dX3_goes_127 : decode cX3_goes 127 = .ok (.bipush 8, 2) := by decide +kernel
theorem dX3_goes_129 : decode cX3_goes 129 = .ok (.lload 5, 2) := by decide +kernel
theorem dX3_goes_131 : decode cX3_goes 131 = .ok (.lastore, 1) := by decide +kernel
theorem dX3_goes_132 : decode cX3_goes 132 = .ok (.aload_n 0, 1) := by decide +kernel
theorem dX3_goes_133 : decode cX3_goes 133 = .ok (.getfield 7, 3) := by decide +kernel
theorem dX3_goes_136 : decode cX3_goes 136 = .ok (.iconst 1, 1) := by decide +kernel
theorem dX3_goes_137 : decode cX3_goes 137 = .ok (.lload_n 2, 1) := by decide +kernel
theorem dX3_goes_138 : decode cX3_goes 138 = .ok (.lastore, 1) := by decide +kernel
theorem dX3_goes_139 : decode cX3_goes 139 = .ok (.aload_n 0, 1) := by decide +kernel
theorem dX3_goes_140 : decode cX3_goes 140 = .ok (.getfield 7, 3) := by decide +kernel
theorem dX3_goes_143 : decode cX3_goes 143 = .ok (.iconst 0, 1) := by decide +kernel
theorem dX3_goes_144 : decode cX3_goes 144 = .ok (.dup2, 1) := by decide +kernel
theorem dX3_goes_145 : decode cX3_goes 145 = .ok (.laload, 1) := by decide +kernel
theorem dX3_goes_146 : decode cX3_goes 146 = .ok (.iload_n 1, 1) := by decide +kernel
theorem dX3_goes_147 : decode cX3_goes 147 = .ok (.i2l, 1) := by decide +kernel
theorem dX3_goes_148 : decode cX3_goes 148 = .ok (.ldc2_w 62, 3) := by decide +kernel
theorem dX3_goes_151 : decode cX3_goes 151 = .ok (.lmul, 1) := by decide +kernel
theorem dX3_goes_152 : decode cX3_goes 152 = .ok (.ladd, 1) := by decide +kernel
theorem dX3_goes_153 : decode cX3_goes 153 = .ok (.lastore, 1) := by decide +kernel
theorem dX3_goes_154 : decode cX3_goes 154 = .ok (.aload_n 0, 1) := by decide +kernel
theorem dX3_goes_155 : decode cX3_goes 155 = .ok (.getfield 7, 3) := by decide +kernel
theorem dX3_goes_158 : decode cX3_goes 158 = .ok (.iconst 3, 1) := by decide +kernel
theorem dX3_goes_159 : decode cX3_goes 159 = .ok (.ldc2_w 107, 3) := by decide +kernel
theorem dX3_goes_162 : decode cX3_goes 162 = .ok (.aload_n 0, 1) := by decide +kernel
theorem dX3_goes_163 : decode cX3_goes 163 = .ok (.getfield 7, 3) := by decide +kernel
theorem dX3_goes_166 : decode cX3_goes 166 = .ok (.iconst 3, 1) := by decide +kernel
theorem dX3_goes_167 : decode cX3_goes 167 = .ok (.laload, 1) := by decide +kernel
theorem dX3_goes_168 : decode cX3_goes 168 = .ok (.iload_n 1, 1) := by decide +kernel
theorem dX3_goes_169 : decode cX3_goes 169 = .ok (.i2l, 1) := by decide +kernel
theorem dX3_goes_170 : decode cX3_goes 170 = .ok (.aload_n 0, 1) := by decide +kernel
theorem dX3_goes_171 : decode cX3_goes 171 = .ok (.invokevirtual 109, 3) := by decide +kernel
theorem dX3_goes_174 : decode cX3_goes 174 = .ok (.lmul, 1) := by decide +kernel
theorem dX3_goes_175 : decode cX3_goes 175 = .ok (.ladd, 1) := by decide +kernel
theorem dX3_goes_176 : decode cX3_goes 176 = .ok (.invokestatic 59, 3) := by decide +kernel
theorem dX3_goes_179 : decode cX3_goes 179 = .ok (.lastore, 1) := by decide +kernel
theorem dX3_goes_180 : decode cX3_goes 180 = .ok (.aload_n 0, 1) := by decide +kernel
theorem dX3_goes_181 : decode cX3_goes 181 = .ok (.getfield 7, 3) := by decide +kernel
theorem dX3_goes_184 : decode cX3_goes 184 = .ok (.bipush 11, 2) := by decide +kernel
theorem dX3_goes_186 : decode cX3_goes 186 = .ok (.laload, 1) := by decide +kernel
theorem dX3_goes_187 : decode cX3_goes 187 = .ok (.lconst 1, 1) := by decide +kernel
theorem dX3_goes_188 : decode cX3_goes 188 = .ok (.lcmp, 1) := by decide +kernel
theorem dX3_goes_189 : decode cX3_goes 189 = .ok (.ifCond .ne 35, 3) := by decide +kernel
theorem dX3_goes_192 : decode cX3_goes 192 = .ok (.aload_n 0, 1) := by decide +kernel
theorem dX3_goes_193 : decode cX3_goes 193 = .ok (.getfield 7, 3) := by decide +kernel
theorem dX3_goes_196 : decode cX3_goes 196 = .ok (.bipush 12, 2) := by decide +kernel
theorem dX3_goes_198 : decode cX3_goes 198 = .ok (.laload, 1) := by decide +kernel
theorem dX3_goes_199 : decode cX3_goes 199 = .ok (.lconst 0, 1) := by decide +kernel
theorem dX3_goes_200 : decode cX3_goes 200 = .ok (.lcmp, 1) := by decide +kernel
theorem dX3_goes_201 : decode cX3_goes 201 = .ok (.ifCond .eq 19, 3) := by decide +kernel
theorem dX3_goes_204 : decode cX3_goes 204 = .ok (.aload_n 0, 1) := by decide +kernel
theorem dX3_goes_205 : decode cX3_goes 205 = .ok (.getfield 7, 3) := by decide +kernel
theorem dX3_goes_208 : decode cX3_goes 208 = .ok (.bipush 13, 2) := by decide +kernel
theorem dX3_goes_210 : decode cX3_goes 210 = .ok (.laload, 1) := by decide +kernel
theorem dX3_goes_211 : decode cX3_goes 211 = .ok (.aload_n 0, 1) := by decide +kernel
theorem dX3_goes_212 : decode cX3_goes 212 = .ok (.invokevirtual 41, 3) := by decide +kernel
theorem dX3_goes_215 : decode cX3_goes 215 = .ok (.i2l, 1) := by decide +kernel
theorem dX3_goes_216 : decode cX3_goes 216 = .ok (.lcmp, 1) := by decide +kernel
theorem dX3_goes_217 : decode cX3_goes 217 = .ok (.ifCond .ne 7, 3) := by decide +kernel
theorem dX3_goes_220 : decode cX3_goes 220 = .ok (.iconst 1, 1) := by decide +kernel
theorem dX3_goes_221 : decode cX3_goes 221 = .ok (.goto 4, 3) := by decide +kernel
theorem dX3_goes_224 : decode cX3_goes 224 = .ok (.iconst 0, 1) := by decide +kernel
theorem dX3_goes_225 : decode cX3_goes 225 = .ok (.istore 5, 2) := by decide +kernel
theorem dX3_goes_227 : decode cX3_goes 227 = .ok (.aload_n 0, 1) := by decide +kernel
theorem dX3_goes_228 : decode cX3_goes 228 = .ok (.getfield 7, 3) := by decide +kernel
theorem dX3_goes_231 : decode cX3_goes 231 = .ok (.bipush 13, 2) := by decide +kernel
theorem dX3_goes_233 : decode cX3_goes 233 = .ok (.iload 5, 2) := by decide +kernel
theorem dX3_goes_235 : decode cX3_goes 235 = .ok (.ifCond .eq 11, 3) := by decide +kernel
theorem dX3_goes_238 : decode cX3_goes 238 = .ok (.aload_n 0, 1) := by decide +kernel
theorem dX3_goes_239 : decode cX3_goes 239 = .ok (.invokevirtual 41, 3) := by decide +kernel
theorem dX3_goes_242 : decode cX3_goes 242 = .ok (.i2l, 1) := by decide +kernel
theorem dX3_goes_243 : decode cX3_goes 243 = .ok (.goto 6, 3) := by decide +kernel
theorem dX3_goes_246 : decode cX3_goes 246 = .ok (.ldc2_w 112, 3) := by decide +kernel
theorem dX3_goes_249 : decode cX3_goes 249 = .ok (.lastore, 1) := by decide +kernel
theorem dX3_goes_250 : decode cX3_goes 250 = .ok (.aload_n 0, 1) := by decide +kernel
theorem dX3_goes_251 : decode cX3_goes 251 = .ok (.getfield 7, 3) := by decide +kernel
theorem dX3_goes_254 : decode cX3_goes 254 = .ok (.bipush 12, 2) := by decide +kernel
theorem dX3_goes_256 : decode cX3_goes 256 = .ok (.dup2, 1) := by decide +kernel
theorem dX3_goes_257 : decode cX3_goes 257 = .ok (.laload, 1) := by decide +kernel
theorem dX3_goes_258 : decode cX3_goes 258 = .ok (.iload_n 1, 1) := by decide +kernel
theorem dX3_goes_259 : decode cX3_goes 259 = .ok (.i2l, 1) := by decide +kernel
theorem dX3_goes_260 : decode cX3_goes 260 = .ok (.ladd, 1) := by decide +kernel
theorem dX3_goes_261 : decode cX3_goes 261 = .ok (.lastore, 1) := by decide +kernel
theorem dX3_goes_262 : decode cX3_goes 262 = .ok (.iload 4, 2) := by decide +kernel
theorem dX3_goes_264 : decode cX3_goes 264 = .ok (.ireturn, 1) := by decide +kernel
set_option maxRecDepth 20000 in
theorem ggX3_learns_X3_aim : GoodIn wsX3_learns wsX3_aim := goodIn_r _ [11, 1, 18, 19, 20, 21, 22, 23, 24, 25] (by decide +kernel) (by decide +kernel)
set_option maxRecDepth 20000 in
theorem gX3_learns_X3_aim : GoodIn wsX3_learns (wsV RX3 114 RX3 yX3_aim wsX3_aim) := goodIn_app (goodIn_of _ (by decide +kernel)) ggX3_learns_X3_aim
set_option maxRecDepth 20000 in
theorem ggX3_learns_X3_lesser : GoodIn wsX3_learns wsX3_lesser := goodIn_r _ [14] (by decide +kernel) (by decide +kernel)
set_option maxRecDepth 20000 in
theorem gX3_learns_X3_lesser : GoodIn wsX3_learns (va_wsS RX3 59 yX3_lesser wsX3_lesser) := goodIn_app (goodIn_of _ (by decide +kernel)) ggX3_learns_X3_lesser
set_option maxRecDepth 20000 in
theorem ggX3_learns_X3_greater : GoodIn wsX3_learns wsX3_greater := goodIn_r _ [17] (by decide +kernel) (by decide +kernel)
set_option maxRecDepth 20000 in
theorem gX3_learns_X3_greater : GoodIn wsX3_learns (va_wsS RX3 123 yX3_greater wsX3_greater) := goodIn_app (goodIn_of _ (by decide +kernel)) ggX3_learns_X3_greater
theorem dX3_learns_0 : decode cX3_learns 0 = .ok (.aload_n 0, 1) := by decide +kernel
theorem dX3_learns_1 : decode cX3_learns 1 = .ok (.getfield 7, 3) := by decide +kernel
theorem dX3_learns_4 : decode cX3_learns 4 = .ok (.bipush 12, 2) := by decide +kernel
theorem dX3_learns_6 : decode cX3_learns 6 = .ok (.laload, 1) := by decide +kernel
theorem dX3_learns_7 : decode cX3_learns 7 = .ok (.lconst 0, 1) := by decide +kernel
theorem dX3_learns_8 : decode cX3_learns 8 = .ok (.lcmp, 1) := by decide +kernel
theorem dX3_learns_9 : decode cX3_learns 9 = .ok (.ifCond .le 80, 3) := by decide +kernel
theorem dX3_learns_12 : decode cX3_learns 12 = .ok (.aload_n 0, 1) := by decide +kernel
theorem dX3_learns_13 : decode cX3_learns 13 = .ok (.getfield 7, 3) := by decide +kernel
theorem dX3_learns_16 : decode cX3_learns 16 = .ok (.bipush 13, 2) := by decide +kernel
theorem dX3_learns_18 : decode cX3_learns 18 = .ok (.laload, 1) := by decide +kernel
theorem dX3_learns_19 : decode cX3_learns 19 = .ok (.ldc2_w 112, 3) := by decide +kernel
theorem dX3_learns_22 : decode cX3_learns 22 = .ok (.lcmp, 1) := by decide +kernel
theorem dX3_learns_23 : decode cX3_learns 23 = .ok (.ifCond .eq 66, 3) := by decide +kernel
theorem dX3_learns_26 : decode cX3_learns 26 = .ok (.bipush 15, 2) := by decide +kernel
theorem dX3_learns_28 : decode cX3_learns 28 = .ok (.aload_n 0, 1) := by decide +kernel
theorem dX3_learns_29 : decode cX3_learns 29 = .ok (.getfield 7, 3) := by decide +kernel
theorem dX3_learns_32 : decode cX3_learns 32 = .ok (.bipush 13, 2) := by decide +kernel
theorem dX3_learns_34 : decode cX3_learns 34 = .ok (.laload, 1) := by decide +kernel
theorem dX3_learns_35 : decode cX3_learns 35 = .ok (.l2i, 1) := by decide +kernel
theorem dX3_learns_36 : decode cX3_learns 36 = .ok (.iadd, 1) := by decide +kernel
theorem dX3_learns_37 : decode cX3_learns 37 = .ok (.istore_n 3, 1) := by decide +kernel
theorem dX3_learns_38 : decode cX3_learns 38 = .ok (.aload_n 0, 1) := by decide +kernel
theorem dX3_learns_39 : decode cX3_learns 39 = .ok (.getfield 7, 3) := by decide +kernel
theorem dX3_learns_42 : decode cX3_learns 42 = .ok (.iload_n 3, 1) := by decide +kernel
theorem dX3_learns_43 : decode cX3_learns 43 = .ok (.laload, 1) := by decide +kernel
theorem dX3_learns_44 : decode cX3_learns 44 = .ok (.aload_n 0, 1) := by decide +kernel
theorem dX3_learns_45 : decode cX3_learns 45 = .ok (.invokevirtual 114, 3) := by decide +kernel
theorem dX3_learns_48 : decode cX3_learns 48 = .ok (.lload_n 1, 1) := by decide +kernel
theorem dX3_learns_49 : decode cX3_learns 49 = .ok (.lsub, 1) := by decide +kernel
theorem dX3_learns_50 : decode cX3_learns 50 = .ok (.ldc2_w 45, 3) := by decide +kernel
theorem dX3_learns_53 : decode cX3_learns 53 = .ok (.lmul, 1) := by decide +kernel
theorem dX3_learns_54 : decode cX3_learns 54 = .ok (.ldc2_w 117, 3) := by decide +kernel
theorem dX3_learns_57 : decode cX3_learns 57 = .ok (.aload_n 0, 1) := by decide +kernel
theorem dX3_learns_58 : decode cX3_learns 58 = .ok (.getfield 7, 3) := by decide +kernel
theorem dX3_learns_61 : decode cX3_learns 61 = .ok (.bipush 12, 2) := by decide +kernel
theorem dX3_learns_63 : decode cX3_learns 63 = .ok (.laload, 1) := by decide +kernel
theorem dX3_learns_64 : decode cX3_learns 64 = .ok (.lmul, 1) := by decide +kernel
theorem dX3_learns_65 : decode cX3_learns 65 = .ok (.ldiv, 1) := by decide +kernel
theorem dX3_learns_66 : decode cX3_learns 66 = .ok (.ladd, 1) := by decide +kernel
theorem dX3_learns_67 : decode cX3_learns 67 = .ok (.lstore 4, 2) := by decide +kernel
theorem dX3_learns_69 : decode cX3_learns 69 = .ok (.aload_n 0, 1) := by decide +kernel
theorem dX3_learns_70 : decode cX3_learns 70 = .ok (.getfield 7, 3) := by decide +kernel
theorem dX3_learns_73 : decode cX3_learns 73 = .ok (.iload_n 3, 1) := by decide +kernel
theorem dX3_learns_74 : decode cX3_learns 74 = .ok (.ldc2_w 119, 3) := by decide +kernel
theorem dX3_learns_77 : decode cX3_learns 77 = .ok (.ldc2_w 121, 3) := by decide +kernel
theorem dX3_learns_80 : decode cX3_learns 80 = .ok (.lload 4, 2) := by decide +kernel
theorem dX3_learns_82 : decode cX3_learns 82 = .ok (.invokestatic 59, 3) := by decide +kernel
theorem dX3_learns_85 : decode cX3_learns 85 = .ok (.invokestatic 123, 3) := by decide +kernel
theorem dX3_learns_88 : decode cX3_learns 88 = .ok (.lastore, 1) := by decide +kernel
theorem dX3_learns_89 : decode cX3_learns 89 = .ok (.return_, 1) := by decide +kernel
set_option maxRecDepth 20000 in
theorem ggX3_hears_X3_learns : GoodIn wsX3_hears wsX3_learns := goodIn_r _ [9, 1, 10, 2, 11, 12, 13, 14, 15, 16, 8, 17, 18, 19, 20, 21, 22, 23, 30, 31, 32, 33, 34, 35, 36, 37] (by decide +kernel) (by decide +kernel)
set_option maxRecDepth 20000 in
theorem gX3_hears_X3_learns : GoodIn wsX3_hears (wsV RX3 126 RX3 yX3_learns wsX3_learns) := goodIn_app (goodIn_of _ (by decide +kernel)) ggX3_hears_X3_learns
set_option maxRecDepth 20000 in
theorem ggX3_hears_X3_aim : GoodIn wsX3_hears wsX3_aim := goodIn_r _ [17, 1, 30, 31, 32, 33, 34, 35, 36, 37] (by decide +kernel) (by decide +kernel)
set_option maxRecDepth 20000 in
theorem gX3_hears_X3_aim : GoodIn wsX3_hears (wsV RX3 114 RX3 yX3_aim wsX3_aim) := goodIn_app (goodIn_of _ (by decide +kernel)) ggX3_hears_X3_aim
set_option maxRecDepth 20000 in
theorem ggX3_hears_X3_greater : GoodIn wsX3_hears wsX3_greater := goodIn_r _ [23] (by decide +kernel) (by decide +kernel)
set_option maxRecDepth 20000 in
theorem gX3_hears_X3_greater : GoodIn wsX3_hears (va_wsS RX3 123 yX3_greater wsX3_greater) := goodIn_app (goodIn_of _ (by decide +kernel)) ggX3_hears_X3_greater
set_option maxRecDepth 20000 in
theorem ggX3_hears_X3_lesser : GoodIn wsX3_hears wsX3_lesser := goodIn_r _ [20] (by decide +kernel) (by decide +kernel)
set_option maxRecDepth 20000 in
theorem gX3_hears_X3_lesser : GoodIn wsX3_hears (va_wsS RX3 59 yX3_lesser wsX3_lesser) := goodIn_app (goodIn_of _ (by decide +kernel)) ggX3_hears_X3_lesser
set_option maxRecDepth 20000 in
theorem ggX3_hears_X3_down : GoodIn wsX3_hears wsX3_down := goodIn_r _ [26] (by decide +kernel) (by decide +kernel)
set_option maxRecDepth 20000 in
theorem gX3_hears_X3_down : GoodIn wsX3_hears (va_wsS RX3 47 yX3_down wsX3_down) := goodIn_app (goodIn_of _ (by decide +kernel)) ggX3_hears_X3_down
set_option maxRecDepth 20000 in
theorem ggX3_hears_X3_size : GoodIn wsX3_hears wsX3_size := goodIn_r _ [29] (by decide +kernel) (by decide +kernel)
set_option maxRecDepth 20000 in
theorem gX3_hears_X3_size : GoodIn wsX3_hears (va_wsS RX3 55 yX3_size wsX3_size) := goodIn_app (goodIn_of _ (by decide +kernel)) ggX3_hears_X3_size
theorem dX3_hears_0 : decode cX3_hears 0 = .ok (.aload_n 0, 1) := by decide +kernel
theorem dX3_hears_1 : decode cX3_hears 1 = .ok (.getfield 7, 3) := by decide +kernel
theorem dX3_hears_4 : decode cX3_hears 4 = .ok (.iconst 0, 1) := by decide +kernel
theorem dX3_hears_5 : decode cX3_hears 5 = .ok (.laload, 1) := by decide +kernel
theorem dX3_hears_6 : decode cX3_hears 6 = .ok (.lload_n 1, 1) := by decide +kernel
theorem dX3_hears_7 : decode cX3_hears 7 = .ok (.ladd, 1) := by decide +kernel
theorem dX3_hears_8 : decode cX3_hears 8 = .ok (.lstore 5, 2) := by decide +kernel
theorem dX3_hears_10 : decode cX3_hears 10 = .ok (.aload_n 0, 1) := by decide +kernel
theorem dX3_hears_11 : decode cX3_hears 11 = .ok (.lload 5, 2) := by decide +kernel
theorem dX3_hears_13 : decode cX3_hears 13 = .ok (.invokevirtual 126, 3) := by decide +kernel
theorem dX3_hears_16 : decode cX3_hears 16 = .ok (.ldc2_w 45, 3) := by decide +kernel
theorem dX3_hears_19 : decode cX3_hears 19 = .ok (.lload 5, 2) := by decide +kernel
theorem dX3_hears_21 : decode cX3_hears 21 = .ok (.lload_n 3, 1) := by decide +kernel
theorem dX3_hears_22 : decode cX3_hears 22 = .ok (.lsub, 1) := by decide +kernel
theorem dX3_hears_23 : decode cX3_hears 23 = .ok (.lmul, 1) := by decide +kernel
theorem dX3_hears_24 : decode cX3_hears 24 = .ok (.ldc2_w 45, 3) := by decide +kernel
theorem dX3_hears_27 : decode cX3_hears 27 = .ok (.aload_n 0, 1) := by decide +kernel
theorem dX3_hears_28 : decode cX3_hears 28 = .ok (.invokevirtual 114, 3) := by decide +kernel
theorem dX3_hears_31 : decode cX3_hears 31 = .ok (.lmul, 1) := by decide +kernel
theorem dX3_hears_32 : decode cX3_hears 32 = .ok (.aload_n 0, 1) := by decide +kernel
theorem dX3_hears_33 : decode cX3_hears 33 = .ok (.getfield 7, 3) := by decide +kernel
theorem dX3_hears_36 : decode cX3_hears 36 = .ok (.iconst 3, 1) := by decide +kernel
theorem dX3_hears_37 : decode cX3_hears 37 = .ok (.laload, 1) := by decide +kernel
theorem dX3_hears_38 : decode cX3_hears 38 = .ok (.lsub, 1) := by decide +kernel
theorem dX3_hears_39 : decode cX3_hears 39 = .ok (.invokestatic 123, 3) := by decide +kernel
theorem dX3_hears_42 : decode cX3_hears 42 = .ok (.lstore 7, 2) := by decide +kernel
theorem dX3_hears_44 : decode cX3_hears 44 = .ok (.ldc2_w 45, 3) := by decide +kernel
theorem dX3_hears_47 : decode cX3_hears 47 = .ok (.lload 5, 2) := by decide +kernel
theorem dX3_hears_49 : decode cX3_hears 49 = .ok (.lload_n 3, 1) := by decide +kernel
theorem dX3_hears_50 : decode cX3_hears 50 = .ok (.ladd, 1) := by decide +kernel
theorem dX3_hears_51 : decode cX3_hears 51 = .ok (.lmul, 1) := by decide +kernel
theorem dX3_hears_52 : decode cX3_hears 52 = .ok (.ldc2_w 45, 3) := by decide +kernel
theorem dX3_hears_55 : decode cX3_hears 55 = .ok (.aload_n 0, 1) := by decide +kernel
theorem dX3_hears_56 : decode cX3_hears 56 = .ok (.invokevirtual 114, 3) := by decide +kernel
theorem dX3_hears_59 : decode cX3_hears 59 = .ok (.lmul, 1) := by decide +kernel
theorem dX3_hears_60 : decode cX3_hears 60 = .ok (.aload_n 0, 1) := by decide +kernel
theorem dX3_hears_61 : decode cX3_hears 61 = .ok (.getfield 7, 3) := by decide +kernel
theorem dX3_hears_64 : decode cX3_hears 64 = .ok (.iconst 3, 1) := by decide +kernel
theorem dX3_hears_65 : decode cX3_hears 65 = .ok (.laload, 1) := by decide +kernel
theorem dX3_hears_66 : decode cX3_hears 66 = .ok (.ladd, 1) := by decide +kernel
theorem dX3_hears_67 : decode cX3_hears 67 = .ok (.invokestatic 59, 3) := by decide +kernel
theorem dX3_hears_70 : decode cX3_hears 70 = .ok (.lstore 9, 2) := by decide +kernel
theorem dX3_hears_72 : decode cX3_hears 72 = .ok (.lload 7, 2) := by decide +kernel
theorem dX3_hears_74 : decode cX3_hears 74 = .ok (.lload 9, 2) := by decide +kernel
theorem dX3_hears_76 : decode cX3_hears 76 = .ok (.lcmp, 1) := by decide +kernel
theorem dX3_hears_77 : decode cX3_hears 77 = .ok (.ifCond .le 7, 3) := by decide +kernel
theorem dX3_hears_80 : decode cX3_hears 80 = .ok (.iconst 1, 1) := by decide +kernel
theorem dX3_hears_81 : decode cX3_hears 81 = .ok (.goto 4, 3) := by decide +kernel
theorem dX3_hears_84 : decode cX3_hears 84 = .ok (.iconst 0, 1) := by decide +kernel
theorem dX3_hears_85 : decode cX3_hears 85 = .ok (.istore 11, 2) := by decide +kernel
theorem dX3_hears_87 : decode cX3_hears 87 = .ok (.iload 11, 2) := by decide +kernel
theorem dX3_hears_89 : decode cX3_hears 89 = .ok (.iconst 1, 1) := by decide +kernel
theorem dX3_hears_90 : decode cX3_hears 90 = .ok (.if_icmp .ne 23, 3) := by decide +kernel
theorem dX3_hears_93 : decode cX3_hears 93 = .ok (.ldc2_w 45, 3) := by decide +kernel
theorem dX3_hears_96 : decode cX3_hears 96 = .ok (.lload 5, 2) := by decide +kernel
theorem dX3_hears_98 : decode cX3_hears 98 = .ok (.lload_n 3, 1) := by decide +kernel
theorem dX3_hears_99 : decode cX3_hears 99 = .ok (.lsub, 1) := by decide +kernel
theorem dX3_hears_100 : decode cX3_hears 100 = .ok (.lmul, 1) := by decide +kernel
theorem dX3_hears_101 : decode cX3_hears 101 = .ok (.lstore 7, 2) := by decide +kernel
theorem dX3_hears_103 : decode cX3_hears 103 = .ok (.ldc2_w 45, 3) := by decide +kernel
theorem dX3_hears_106 : decode cX3_hears 106 = .ok (.lload 5, 2) := by decide +kernel
theorem dX3_hears_108 : decode cX3_hears 108 = .ok (.lload_n 3, 1) := by decide +kernel
theorem dX3_hears_109 : decode cX3_hears 109 = .ok (.ladd, 1) := by decide +kernel
theorem dX3_hears_110 : decode cX3_hears 110 = .ok (.lmul, 1) := by decide +kernel
theorem dX3_hears_111 : decode cX3_hears 111 = .ok (.lstore 9, 2) := by decide +kernel
theorem dX3_hears_113 : decode cX3_hears 113 = .ok (.lload 7, 2) := by decide +kernel
theorem dX3_hears_115 : decode cX3_hears 115 = .ok (.lload 9, 2) := by decide +kernel
theorem dX3_hears_117 : decode cX3_hears 117 = .ok (.ladd, 1) := by decide +kernel
theorem dX3_hears_118 : decode cX3_hears 118 = .ok (.ldc2_w 130, 3) := by decide +kernel
theorem dX3_hears_121 : decode cX3_hears 121 = .ok (.invokestatic 47, 3) := by decide +kernel
theorem dX3_hears_124 : decode cX3_hears 124 = .ok (.lstore 12, 2) := by decide +kernel
theorem dX3_hears_126 : decode cX3_hears 126 = .ok (.aload_n 0, 1) := by decide +kernel
theorem dX3_hears_127 : decode cX3_hears 127 = .ok (.getfield 7, 3) := by decide +kernel
theorem dX3_hears_130 : decode cX3_hears 130 = .ok (.bipush 14, 2) := by decide +kernel
theorem dX3_hears_132 : decode cX3_hears 132 = .ok (.dup2, 1) := by decide +kernel
theorem dX3_hears_133 : decode cX3_hears 133 = .ok (.laload, 1) := by decide +kernel
theorem dX3_hears_134 : decode cX3_hears 134 = .ok (.iload 11, 2) := by decide +kernel
theorem dX3_hears_136 : decode cX3_hears 136 = .ok (.i2l, 1) := by decide +kernel
theorem dX3_hears_137 : decode cX3_hears 137 = .ok (.ladd, 1) := by decide +kernel
theorem dX3_hears_138 : decode cX3_hears 138 = .ok (.lastore, 1) := by decide +kernel
theorem dX3_hears_139 : decode cX3_hears 139 = .ok (.aload_n 0, 1) := by decide +kernel
theorem dX3_hears_140 : decode cX3_hears 140 = .ok (.getfield 7, 3) := by decide +kernel
theorem dX3_hears_143 : decode cX3_hears 143 = .ok (.iconst 2, 1) := by decide +kernel
theorem dX3_hears_144 : decode cX3_hears 144 = .ok (.lload 12, 2) := by decide +kernel
theorem dX3_hears_146 : decode cX3_hears 146 = .ok (.aload_n 0, 1) := by decide +kernel
theorem dX3_hears_147 : decode cX3_hears 147 = .ok (.getfield 7, 3) := by decide +kernel
theorem dX3_hears_150 : decode cX3_hears 150 = .ok (.iconst 1, 1) := by decide +kernel
theorem dX3_hears_151 : decode cX3_hears 151 = .ok (.laload, 1) := by decide +kernel
theorem dX3_hears_152 : decode cX3_hears 152 = .ok (.lsub, 1) := by decide +kernel
theorem dX3_hears_153 : decode cX3_hears 153 = .ok (.lastore, 1) := by decide +kernel
theorem dX3_hears_154 : decode cX3_hears 154 = .ok (.aload_n 0, 1) := by decide +kernel
theorem dX3_hears_155 : decode cX3_hears 155 = .ok (.getfield 7, 3) := by decide +kernel
theorem dX3_hears_158 : decode cX3_hears 158 = .ok (.iconst 3, 1) := by decide +kernel
theorem dX3_hears_159 : decode cX3_hears 159 = .ok (.lload 7, 2) := by decide +kernel
theorem dX3_hears_161 : decode cX3_hears 161 = .ok (.ldc2_w 45, 3) := by decide +kernel
theorem dX3_hears_164 : decode cX3_hears 164 = .ok (.lload 12, 2) := by decide +kernel
theorem dX3_hears_166 : decode cX3_hears 166 = .ok (.lmul, 1) := by decide +kernel
theorem dX3_hears_167 : decode cX3_hears 167 = .ok (.lsub, 1) := by decide +kernel
theorem dX3_hears_168 : decode cX3_hears 168 = .ok (.invokestatic 55, 3) := by decide +kernel
theorem dX3_hears_171 : decode cX3_hears 171 = .ok (.lload 9, 2) := by decide +kernel
theorem dX3_hears_173 : decode cX3_hears 173 = .ok (.ldc2_w 45, 3) := by decide +kernel
theorem dX3_hears_176 : decode cX3_hears 176 = .ok (.lload 12, 2) := by decide +kernel
theorem dX3_hears_178 : decode cX3_hears 178 = .ok (.lmul, 1) := by decide +kernel
theorem dX3_hears_179 : decode cX3_hears 179 = .ok (.lsub, 1) := by decide +kernel
theorem dX3_hears_180 : decode cX3_hears 180 = .ok (.invokestatic 55, 3) := by decide +kernel
theorem dX3_hears_183 : decode cX3_hears 183 = .ok (.invokestatic 123, 3) := by decide +kernel
theorem dX3_hears_186 : decode cX3_hears 186 = .ok (.lastore, 1) := by decide +kernel
theorem dX3_hears_187 : decode cX3_hears 187 = .ok (.aload_n 0, 1) := by decide +kernel
theorem dX3_hears_188 : decode cX3_hears 188 = .ok (.getfield 7, 3) := by decide +kernel
theorem dX3_hears_191 : decode cX3_hears 191 = .ok (.bipush 12, 2) := by decide +kernel
theorem dX3_hears_193 : decode cX3_hears 193 = .ok (.lconst 0, 1) := by decide +kernel
theorem dX3_hears_194 : decode cX3_hears 194 = .ok (.lastore, 1) := by decide +kernel
theorem dX3_hears_195 : decode cX3_hears 195 = .ok (.aload_n 0, 1) := by decide +kernel
theorem dX3_hears_196 : decode cX3_hears 196 = .ok (.getfield 7, 3) := by decide +kernel
theorem dX3_hears_199 : decode cX3_hears 199 = .ok (.bipush 13, 2) := by decide +kernel
theorem dX3_hears_201 : decode cX3_hears 201 = .ok (.ldc2_w 35, 3) := by decide +kernel
theorem dX3_hears_204 : decode cX3_hears 204 = .ok (.lastore, 1) := by decide +kernel
theorem dX3_hears_205 : decode cX3_hears 205 = .ok (.iload 11, 2) := by decide +kernel
theorem dX3_hears_207 : decode cX3_hears 207 = .ok (.ireturn, 1) := by decide +kernel
set_option maxRecDepth 20000 in
theorem ggX3_allRings_X3_ringsAt : GoodIn wsX3_allRings wsX3_ringsAt := goodIn_r _ [6, 1, 7, 8, 9, 10, 11, 12, 13, 14] (by decide +kernel) (by decide +kernel)
set_option maxRecDepth 20000 in
theorem gX3_allRings_X3_ringsAt : GoodIn wsX3_allRings (wsV RX3 101 RX3 yX3_ringsAt wsX3_ringsAt) := goodIn_app (goodIn_of _ (by decide +kernel)) ggX3_allRings_X3_ringsAt
theorem dX3_allRings_0 : decode cX3_allRings 0 = .ok (.lconst 0, 1) := by decide +kernel
theorem dX3_allRings_1 : decode cX3_allRings 1 = .ok (.lstore_n 1, 1) := by decide +kernel
theorem dX3_allRings_2 : decode cX3_allRings 2 = .ok (.iconst 0, 1) := by decide +kernel
theorem dX3_allRings_3 : decode cX3_allRings 3 = .ok (.istore_n 3, 1) := by decide +kernel
theorem dX3_allRings_4 : decode cX3_allRings 4 = .ok (.iload_n 3, 1) := by decide +kernel
theorem dX3_allRings_5 : decode cX3_allRings 5 = .ok (.i2l, 1) := by decide +kernel
theorem dX3_allRings_6 : decode cX3_allRings 6 = .ok (.aload_n 0, 1) := by decide +kernel
theorem dX3_allRings_7 : decode cX3_allRings 7 = .ok (.getfield 7, 3) := by decide +kernel
theorem dX3_allRings_10 : decode cX3_allRings 10 = .ok (.bipush 24, 2) := by decide +kernel
theorem dX3_allRings_12 : decode cX3_allRings 12 = .ok (.laload, 1) := by decide +kernel
theorem dX3_allRings_13 : decode cX3_allRings 13 = .ok (.lcmp, 1) := by decide +kernel
theorem dX3_allRings_14 : decode cX3_allRings 14 = .ok (.ifCond .ge 17, 3) := by decide +kernel
theorem dX3_allRings_17 : decode cX3_allRings 17 = .ok (.lload_n 1, 1) := by decide +kernel
theorem dX3_allRings_18 : decode cX3_allRings 18 = .ok (.aload_n 0, 1) := by decide +kernel
theorem dX3_allRings_19 : decode cX3_allRings 19 = .ok (.iload_n 3, 1) := by decide +kernel
theorem dX3_allRings_20 : decode cX3_allRings 20 = .ok (.invokevirtual 101, 3) := by decide +kernel
theorem dX3_allRings_23 : decode cX3_allRings 23 = .ok (.ladd, 1) := by decide +kernel
theorem dX3_allRings_24 : decode cX3_allRings 24 = .ok (.lstore_n 1, 1) := by decide +kernel
theorem dX3_allRings_25 : decode cX3_allRings 25 = .ok (.iinc 3 1, 3) := by decide +kernel
theorem dX3_allRings_28 : decode cX3_allRings 28 = .ok (.goto (-24), 3) := by decide +kernel
theorem dX3_allRings_31 : decode cX3_allRings 31 = .ok (.lload_n 1, 1) := by decide +kernel
theorem dX3_allRings_32 : decode cX3_allRings 32 = .ok (.lreturn, 1) := by decide +kernel
set_option maxRecDepth 20000 in
theorem ggX3_untilDone_X3_size : GoodIn wsX3_untilDone wsX3_size := goodIn_r _ [6] (by decide +kernel) (by decide +kernel)
set_option maxRecDepth 20000 in
theorem gX3_untilDone_X3_size : GoodIn wsX3_untilDone (va_wsS RX3 55 yX3_size wsX3_size) := goodIn_app (goodIn_of _ (by decide +kernel)) ggX3_untilDone_X3_size
theorem dX3_untilDone_0 : decode cX3_untilDone 0 = .ok (.aload_n 0, 1) := by decide +kernel
theorem dX3_untilDone_1 : decode cX3_untilDone 1 = .ok (.getfield 7, 3) := by decide +kernel
theorem dX3_untilDone_4 : decode cX3_untilDone 4 = .ok (.iconst 2, 1) := by decide +kernel
theorem dX3_untilDone_5 : decode cX3_untilDone 5 = .ok (.laload, 1) := by decide +kernel
theorem dX3_untilDone_6 : decode cX3_untilDone 6 = .ok (.invokestatic 55, 3) := by decide +kernel
theorem dX3_untilDone_9 : decode cX3_untilDone 9 = .ok (.lstore_n 1, 1) := by decide +kernel
theorem dX3_untilDone_10 : decode cX3_untilDone 10 = .ok (.lload_n 1, 1) := by decide +kernel
theorem dX3_untilDone_11 : decode cX3_untilDone 11 = .ok (.lconst 0, 1) := by decide +kernel
theorem dX3_untilDone_12 : decode cX3_untilDone 12 = .ok (.lcmp, 1) := by decide +kernel
theorem dX3_untilDone_13 : decode cX3_untilDone 13 = .ok (.ifCond .ne 5, 3) := by decide +kernel
theorem dX3_untilDone_16 : decode cX3_untilDone 16 = .ok (.iconst 0, 1) := by decide +kernel
theorem dX3_untilDone_17 : decode cX3_untilDone 17 = .ok (.ireturn, 1) := by decide +kernel
theorem dX3_untilDone_18 : decode cX3_untilDone 18 = .ok (.lload_n 1, 1) := by decide +kernel
theorem dX3_untilDone_19 : decode cX3_untilDone 19 = .ok (.aload_n 0, 1) := by decide +kernel
theorem dX3_untilDone_20 : decode cX3_untilDone 20 = .ok (.getfield 7, 3) := by decide +kernel
theorem dX3_untilDone_23 : decode cX3_untilDone 23 = .ok (.bipush 9, 2) := by decide +kernel
theorem dX3_untilDone_25 : decode cX3_untilDone 25 = .ok (.laload, 1) := by decide +kernel
theorem dX3_untilDone_26 : decode cX3_untilDone 26 = .ok (.ladd, 1) := by decide +kernel
theorem dX3_untilDone_27 : decode cX3_untilDone 27 = .ok (.lconst 1, 1) := by decide +kernel
theorem dX3_untilDone_28 : decode cX3_untilDone 28 = .ok (.lsub, 1) := by decide +kernel
theorem dX3_untilDone_29 : decode cX3_untilDone 29 = .ok (.aload_n 0, 1) := by decide +kernel
theorem dX3_untilDone_30 : decode cX3_untilDone 30 = .ok (.getfield 7, 3) := by decide +kernel
theorem dX3_untilDone_33 : decode cX3_untilDone 33 = .ok (.bipush 9, 2) := by decide +kernel
theorem dX3_untilDone_35 : decode cX3_untilDone 35 = .ok (.laload, 1) := by decide +kernel
theorem dX3_untilDone_36 : decode cX3_untilDone 36 = .ok (.ldiv, 1) := by decide +kernel
theorem dX3_untilDone_37 : decode cX3_untilDone 37 = .ok (.lstore_n 3, 1) := by decide +kernel
theorem dX3_untilDone_38 : decode cX3_untilDone 38 = .ok (.aload_n 0, 1) := by decide +kernel
theorem dX3_untilDone_39 : decode cX3_untilDone 39 = .ok (.getfield 7, 3) := by decide +kernel
theorem dX3_untilDone_42 : decode cX3_untilDone 42 = .ok (.bipush 11, 2) := by decide +kernel
theorem dX3_untilDone_44 : decode cX3_untilDone 44 = .ok (.laload, 1) := by decide +kernel
theorem dX3_untilDone_45 : decode cX3_untilDone 45 = .ok (.lconst 1, 1) := by decide +kernel
theorem dX3_untilDone_46 : decode cX3_untilDone 46 = .ok (.lcmp, 1) := by decide +kernel
theorem dX3_untilDone_47 : decode cX3_untilDone 47 = .ok (.ifCond .ne 16, 3) := by decide +kernel
theorem dX3_untilDone_50 : decode cX3_untilDone 50 = .ok (.lload_n 3, 1) := by decide +kernel
theorem dX3_untilDone_51 : decode cX3_untilDone 51 = .ok (.ldc2_w 132, 3) := by decide +kernel
theorem dX3_untilDone_54 : decode cX3_untilDone 54 = .ok (.lcmp, 1) := by decide +kernel
theorem dX3_untilDone_55 : decode cX3_untilDone 55 = .ok (.ifCond .gt 8, 3) := by decide +kernel
theorem dX3_untilDone_58 : decode cX3_untilDone 58 = .ok (.lload_n 3, 1) := by decide +kernel
theorem dX3_untilDone_59 : decode cX3_untilDone 59 = .ok (.l2i, 1) := by decide +kernel
theorem dX3_untilDone_60 : decode cX3_untilDone 60 = .ok (.goto 4, 3) := by decide +kernel
theorem dX3_untilDone_63 : decode cX3_untilDone 63 = .ok (.iconst (-1), 1) := by decide +kernel
theorem dX3_untilDone_64 : decode cX3_untilDone 64 = .ok (.ireturn, 1) := by decide +kernel
set_option maxRecDepth 20000 in
theorem ggX3_wrong_X3_minuteNow : GoodIn wsX3_wrong wsX3_minuteNow := goodIn_r _ [7, 8, 9, 10, 11, 12, 13, 14, 15, 16, 17] (by decide +kernel) (by decide +kernel)
set_option maxRecDepth 20000 in
theorem gX3_wrong_X3_minuteNow : GoodIn wsX3_wrong (wsV RX3 84 RX3 yX3_minuteNow wsX3_minuteNow) := goodIn_app (goodIn_of _ (by decide +kernel)) ggX3_wrong_X3_minuteNow
theorem dX3_wrong_0 : decode cX3_wrong 0 = .ok (.iconst 0, 1) := by decide +kernel
theorem dX3_wrong_1 : decode cX3_wrong 1 = .ok (.istore_n 1, 1) := by decide +kernel
theorem dX3_wrong_2 : decode cX3_wrong 2 = .ok (.iload_n 1, 1) := by decide +kernel
theorem dX3_wrong_3 : decode cX3_wrong 3 = .ok (.aload_n 0, 1) := by decide +kernel
theorem dX3_wrong_4 : decode cX3_wrong 4 = .ok (.getfield 134, 3) := by decide +kernel
theorem dX3_wrong_7 : decode cX3_wrong 7 = .ok (.if_icmp .ge 26, 3) := by decide +kernel
theorem dX3_wrong_10 : decode cX3_wrong 10 = .ok (.aload_n 0, 1) := by decide +kernel
theorem dX3_wrong_11 : decode cX3_wrong 11 = .ok (.getfield 23, 3) := by decide +kernel
theorem dX3_wrong_14 : decode cX3_wrong 14 = .ok (.iload_n 1, 1) := by decide +kernel
theorem dX3_wrong_15 : decode cX3_wrong 15 = .ok (.iaload, 1) := by decide +kernel
theorem dX3_wrong_16 : decode cX3_wrong 16 = .ok (.i2l, 1) := by decide +kernel
theorem dX3_wrong_17 : decode cX3_wrong 17 = .ok (.aload_n 0, 1) := by decide +kernel
theorem dX3_wrong_18 : decode cX3_wrong 18 = .ok (.invokevirtual 84, 3) := by decide +kernel
theorem dX3_wrong_21 : decode cX3_wrong 21 = .ok (.lcmp, 1) := by decide +kernel
theorem dX3_wrong_22 : decode cX3_wrong 22 = .ok (.ifCond .eq 5, 3) := by decide +kernel
theorem dX3_wrong_25 : decode cX3_wrong 25 = .ok (.iload_n 1, 1) := by decide +kernel
theorem dX3_wrong_26 : decode cX3_wrong 26 = .ok (.ireturn, 1) := by decide +kernel
theorem dX3_wrong_27 : decode cX3_wrong 27 = .ok (.iinc 1 1, 3) := by decide +kernel
theorem dX3_wrong_30 : decode cX3_wrong 30 = .ok (.goto (-28), 3) := by decide +kernel
theorem dX3_wrong_33 : decode cX3_wrong 33 = .ok (.iconst (-1), 1) := by decide +kernel
theorem dX3_wrong_34 : decode cX3_wrong 34 = .ok (.ireturn, 1) := by decide +kernel
set_option maxRecDepth 20000 in
theorem ggX3_holds_X3_aim : GoodIn wsX3_holds wsX3_aim := goodIn_r _ [7, 2, 11, 12, 13, 14, 15, 16, 17, 18] (by decide +kernel) (by decide +kernel)
set_option maxRecDepth 20000 in
theorem gX3_holds_X3_aim : GoodIn wsX3_holds (wsV RX3 114 RX3 yX3_aim wsX3_aim) := goodIn_app (goodIn_of _ (by decide +kernel)) ggX3_holds_X3_aim
set_option maxRecDepth 20000 in
theorem ggX3_holds_X3_size : GoodIn wsX3_holds wsX3_size := goodIn_r _ [10] (by decide +kernel) (by decide +kernel)
set_option maxRecDepth 20000 in
theorem gX3_holds_X3_size : GoodIn wsX3_holds (va_wsS RX3 55 yX3_size wsX3_size) := goodIn_app (goodIn_of _ (by decide +kernel)) ggX3_holds_X3_size
theorem dX3_holds_0 : decode cX3_holds 0 = .ok (.ldc2_w 45, 3) := by decide +kernel
theorem dX3_holds_3 : decode cX3_holds 3 = .ok (.aload_n 0, 1) := by decide +kernel
theorem dX3_holds_4 : decode cX3_holds 4 = .ok (.getfield 7, 3) := by decide +kernel
theorem dX3_holds_7 : decode cX3_holds 7 = .ok (.iconst 0, 1) := by decide +kernel
theorem dX3_holds_8 : decode cX3_holds 8 = .ok (.laload, 1) := by decide +kernel
theorem dX3_holds_9 : decode cX3_holds 9 = .ok (.aload_n 0, 1) := by decide +kernel
theorem dX3_holds_10 : decode cX3_holds 10 = .ok (.invokevirtual 114, 3) := by decide +kernel
theorem dX3_holds_13 : decode cX3_holds 13 = .ok (.lsub, 1) := by decide +kernel
theorem dX3_holds_14 : decode cX3_holds 14 = .ok (.invokestatic 55, 3) := by decide +kernel
theorem dX3_holds_17 : decode cX3_holds 17 = .ok (.lmul, 1) := by decide +kernel
theorem dX3_holds_18 : decode cX3_holds 18 = .ok (.aload_n 0, 1) := by decide +kernel
theorem dX3_holds_19 : decode cX3_holds 19 = .ok (.getfield 7, 3) := by decide +kernel
theorem dX3_holds_22 : decode cX3_holds 22 = .ok (.iconst 3, 1) := by decide +kernel
theorem dX3_holds_23 : decode cX3_holds 23 = .ok (.laload, 1) := by decide +kernel
theorem dX3_holds_24 : decode cX3_holds 24 = .ok (.lcmp, 1) := by decide +kernel
theorem dX3_holds_25 : decode cX3_holds 25 = .ok (.ifCond .gt 7, 3) := by decide +kernel
theorem dX3_holds_28 : decode cX3_holds 28 = .ok (.iconst 1, 1) := by decide +kernel
theorem dX3_holds_29 : decode cX3_holds 29 = .ok (.goto 4, 3) := by decide +kernel
theorem dX3_holds_32 : decode cX3_holds 32 = .ok (.iconst 0, 1) := by decide +kernel
theorem dX3_holds_33 : decode cX3_holds 33 = .ok (.ireturn, 1) := by decide +kernel
set_option maxRecDepth 20000 in
theorem ggX3_told_X3_spanNow : GoodIn wsX3_told wsX3_spanNow := goodIn_r _ [9, 1, 10, 11, 52, 53, 54, 55, 56, 57, 58, 59] (by decide +kernel) (by decide +kernel)
set_option maxRecDepth 20000 in
theorem gX3_told_X3_spanNow : GoodIn wsX3_told (wsV RX3 41 RX3 yX3_spanNow wsX3_spanNow) := goodIn_app (goodIn_of _ (by decide +kernel)) ggX3_told_X3_spanNow
set_option maxRecDepth 20000 in
theorem ggX3_told_X3_offAt : GoodIn wsX3_told wsX3_offAt := goodIn_r _ [15, 1, 16, 52, 53, 54, 55, 56, 57, 58, 59] (by decide +kernel) (by decide +kernel)
set_option maxRecDepth 20000 in
theorem gX3_told_X3_offAt : GoodIn wsX3_told (wsV RX3 64 RX3 yX3_offAt wsX3_offAt) := goodIn_app (goodIn_of _ (by decide +kernel)) ggX3_told_X3_offAt
set_option maxRecDepth 20000 in
theorem ggX3_told_X3_holds : GoodIn wsX3_told wsX3_holds := goodIn_r _ [20, 21, 1, 22, 23, 24, 8, 25, 26, 27, 28, 52, 53, 54, 55, 56, 57, 58, 59] (by decide +kernel) (by decide +kernel)
set_option maxRecDepth 20000 in
theorem gX3_told_X3_holds : GoodIn wsX3_told (wsV RX3 138 RX3 yX3_holds wsX3_holds) := goodIn_app (goodIn_of _ (by decide +kernel)) ggX3_told_X3_holds
set_option maxRecDepth 20000 in
theorem ggX3_told_X3_allRings : GoodIn wsX3_told wsX3_allRings := goodIn_r _ [32, 1, 33, 34, 35, 8, 36, 52, 53, 54, 55, 56, 57, 58, 59] (by decide +kernel) (by decide +kernel)
set_option maxRecDepth 20000 in
theorem gX3_told_X3_allRings : GoodIn wsX3_told (wsV RX3 142 RX3 yX3_allRings wsX3_allRings) := goodIn_app (goodIn_of _ (by decide +kernel)) ggX3_told_X3_allRings
set_option maxRecDepth 20000 in
theorem ggX3_told_X3_untilDone : GoodIn wsX3_told wsX3_untilDone := goodIn_r _ [40, 1, 41, 26, 27, 8, 28, 52, 53, 54, 55, 56, 57, 58, 59] (by decide +kernel) (by decide +kernel)
set_option maxRecDepth 20000 in
theorem gX3_told_X3_untilDone : GoodIn wsX3_told (wsV RX3 145 RX3 yX3_untilDone wsX3_untilDone) := goodIn_app (goodIn_of _ (by decide +kernel)) ggX3_told_X3_untilDone
set_option maxRecDepth 20000 in
theorem ggX3_told_X3_wrong : GoodIn wsX3_told wsX3_wrong := goodIn_r _ [45, 2, 46, 47, 48, 49, 8, 50, 1, 51, 52, 53, 54, 55, 56, 57, 58, 59] (by decide +kernel) (by decide +kernel)
set_option maxRecDepth 20000 in
theorem gX3_told_X3_wrong : GoodIn wsX3_told (wsV RX3 148 RX3 yX3_wrong wsX3_wrong) := goodIn_app (goodIn_of _ (by decide +kernel)) ggX3_told_X3_wrong
theorem dX3_told_0 : decode cX3_told 0 = .ok (.iload_n 1, 1) := by decide +kernel
theorem dX3_told_1 : decode cX3_told 1 = .ok (.tableswitch 246 0 17 #[87, 98, 103, 119, 128, 145, 153, 162, 171, 180, 189, 198, 211, 220, 226, 231, 236, 241], 87) := by decide +kernel
theorem dX3_told_88 : decode cX3_told 88 = .ok (.aload_n 0, 1) := by decide +kernel
theorem dX3_told_89 : decode cX3_told 89 = .ok (.getfield 7, 3) := by decide +kernel
theorem dX3_told_92 : decode cX3_told 92 = .ok (.iconst 4, 1) := by decide +kernel
theorem dX3_told_93 : decode cX3_told 93 = .ok (.laload, 1) := by decide +kernel
theorem dX3_told_94 : decode cX3_told 94 = .ok (.l2i, 1) := by decide +kernel
theorem dX3_told_95 : decode cX3_told 95 = .ok (.bipush 20, 2) := by decide +kernel
theorem dX3_told_97 : decode cX3_told 97 = .ok (.iadd, 1) := by decide +kernel
theorem dX3_told_98 : decode cX3_told 98 = .ok (.ireturn, 1) := by decide +kernel
theorem dX3_told_99 : decode cX3_told 99 = .ok (.aload_n 0, 1) := by decide +kernel
theorem dX3_told_100 : decode cX3_told 100 = .ok (.invokevirtual 41, 3) := by decide +kernel
theorem dX3_told_103 : decode cX3_told 103 = .ok (.ireturn, 1) := by decide +kernel
theorem dX3_told_104 : decode cX3_told 104 = .ok (.aload_n 0, 1) := by decide +kernel
theorem dX3_told_105 : decode cX3_told 105 = .ok (.aload_n 0, 1) := by decide +kernel
theorem dX3_told_106 : decode cX3_told 106 = .ok (.getfield 7, 3) := by decide +kernel
theorem dX3_told_109 : decode cX3_told 109 = .ok (.iconst 4, 1) := by decide +kernel
theorem dX3_told_110 : decode cX3_told 110 = .ok (.laload, 1) := by decide +kernel
theorem dX3_told_111 : decode cX3_told 111 = .ok (.invokevirtual 64, 3) := by decide +kernel
theorem dX3_told_114 : decode cX3_told 114 = .ok (.l2i, 1) := by decide +kernel
theorem dX3_told_115 : decode cX3_told 115 = .ok (.sipush 10000, 3) := by decide +kernel
theorem dX3_told_118 : decode cX3_told 118 = .ok (.iadd, 1) := by decide +kernel
theorem dX3_told_119 : decode cX3_told 119 = .ok (.ireturn, 1) := by decide +kernel
theorem dX3_told_120 : decode cX3_told 120 = .ok (.aload_n 0, 1) := by decide +kernel
theorem dX3_told_121 : decode cX3_told 121 = .ok (.getfield 7, 3) := by decide +kernel
theorem dX3_told_124 : decode cX3_told 124 = .ok (.bipush 8, 2) := by decide +kernel
theorem dX3_told_126 : decode cX3_told 126 = .ok (.laload, 1) := by decide +kernel
theorem dX3_told_127 : decode cX3_told 127 = .ok (.l2i, 1) := by decide +kernel
theorem dX3_told_128 : decode cX3_told 128 = .ok (.ireturn, 1) := by decide +kernel
theorem dX3_told_129 : decode cX3_told 129 = .ok (.aload_n 0, 1) := by decide +kernel
theorem dX3_told_130 : decode cX3_told 130 = .ok (.getfield 7, 3) := by decide +kernel
theorem dX3_told_133 : decode cX3_told 133 = .ok (.iconst 2, 1) := by decide +kernel
theorem dX3_told_134 : decode cX3_told 134 = .ok (.laload, 1) := by decide +kernel
theorem dX3_told_135 : decode cX3_told 135 = .ok (.lconst 0, 1) := by decide +kernel
theorem dX3_told_136 : decode cX3_told 136 = .ok (.lcmp, 1) := by decide +kernel
theorem dX3_told_137 : decode cX3_told 137 = .ok (.ifCond .ne 7, 3) := by decide +kernel
theorem dX3_told_140 : decode cX3_told 140 = .ok (.iconst 1, 1) := by decide +kernel
theorem dX3_told_141 : decode cX3_told 141 = .ok (.goto 4, 3) := by decide +kernel
theorem dX3_told_144 : decode cX3_told 144 = .ok (.iconst 0, 1) := by decide +kernel
theorem dX3_told_145 : decode cX3_told 145 = .ok (.ireturn, 1) := by decide +kernel
theorem dX3_told_146 : decode cX3_told 146 = .ok (.aload_n 0, 1) := by decide +kernel
theorem dX3_told_147 : decode cX3_told 147 = .ok (.getfield 7, 3) := by decide +kernel
theorem dX3_told_150 : decode cX3_told 150 = .ok (.iconst 3, 1) := by decide +kernel
theorem dX3_told_151 : decode cX3_told 151 = .ok (.laload, 1) := by decide +kernel
theorem dX3_told_152 : decode cX3_told 152 = .ok (.l2i, 1) := by decide +kernel
theorem dX3_told_153 : decode cX3_told 153 = .ok (.ireturn, 1) := by decide +kernel
theorem dX3_told_154 : decode cX3_told 154 = .ok (.aload_n 0, 1) := by decide +kernel
theorem dX3_told_155 : decode cX3_told 155 = .ok (.getfield 7, 3) := by decide +kernel
theorem dX3_told_158 : decode cX3_told 158 = .ok (.bipush 9, 2) := by decide +kernel
theorem dX3_told_160 : decode cX3_told 160 = .ok (.laload, 1) := by decide +kernel
theorem dX3_told_161 : decode cX3_told 161 = .ok (.l2i, 1) := by decide +kernel
theorem dX3_told_162 : decode cX3_told 162 = .ok (.ireturn, 1) := by decide +kernel
theorem dX3_told_163 : decode cX3_told 163 = .ok (.aload_n 0, 1) := by decide +kernel
theorem dX3_told_164 : decode cX3_told 164 = .ok (.getfield 7, 3) := by decide +kernel
theorem dX3_told_167 : decode cX3_told 167 = .ok (.bipush 10, 2) := by decide +kernel
theorem dX3_told_169 : decode cX3_told 169 = .ok (.laload, 1) := by decide +kernel
theorem dX3_told_170 : decode cX3_told 170 = .ok (.l2i, 1) := by decide +kernel
theorem dX3_told_171 : decode cX3_told 171 = .ok (.ireturn, 1) := by decide +kernel
theorem dX3_told_172 : decode cX3_told 172 = .ok (.aload_n 0, 1) := by decide +kernel
theorem dX3_told_173 : decode cX3_told 173 = .ok (.getfield 7, 3) := by decide +kernel
theorem dX3_told_176 : decode cX3_told 176 = .ok (.bipush 11, 2) := by decide +kernel
theorem dX3_told_178 : decode cX3_told 178 = .ok (.laload, 1) := by decide +kernel
theorem dX3_told_179 : decode cX3_told 179 = .ok (.l2i, 1) := by decide +kernel
theorem dX3_told_180 : decode cX3_told 180 = .ok (.ireturn, 1) := by decide +kernel
theorem dX3_told_181 : decode cX3_told 181 = .ok (.aload_n 0, 1) := by decide +kernel
theorem dX3_told_182 : decode cX3_told 182 = .ok (.getfield 7, 3) := by decide +kernel
theorem dX3_told_185 : decode cX3_told 185 = .ok (.bipush 12, 2) := by decide +kernel
theorem dX3_told_187 : decode cX3_told 187 = .ok (.laload, 1) := by decide +kernel
theorem dX3_told_188 : decode cX3_told 188 = .ok (.l2i, 1) := by decide +kernel
theorem dX3_told_189 : decode cX3_told 189 = .ok (.ireturn, 1) := by decide +kernel
theorem dX3_told_190 : decode cX3_told 190 = .ok (.aload_n 0, 1) := by decide +kernel
theorem dX3_told_191 : decode cX3_told 191 = .ok (.getfield 7, 3) := by decide +kernel
theorem dX3_told_194 : decode cX3_told 194 = .ok (.bipush 14, 2) := by decide +kernel
theorem dX3_told_196 : decode cX3_told 196 = .ok (.laload, 1) := by decide +kernel
theorem dX3_told_197 : decode cX3_told 197 = .ok (.l2i, 1) := by decide +kernel
theorem dX3_told_198 : decode cX3_told 198 = .ok (.ireturn, 1) := by decide +kernel
theorem dX3_told_199 : decode cX3_told 199 = .ok (.aload_n 0, 1) := by decide +kernel
theorem dX3_told_200 : decode cX3_told 200 = .ok (.invokevirtual 138, 3) := by decide +kernel
theorem dX3_told_203 : decode cX3_told 203 = .ok (.ifCond .eq 7, 3) := by decide +kernel
theorem dX3_told_206 : decode cX3_told 206 = .ok (.iconst 1, 1) := by decide +kernel
theorem dX3_told_207 : decode cX3_told 207 = .ok (.goto 4, 3) := by decide +kernel
theorem dX3_told_210 : decode cX3_told 210 = .ok (.iconst 0, 1) := by decide +kernel
theorem dX3_told_211 : decode cX3_told 211 = .ok (.ireturn, 1) := by decide +kernel
theorem dX3_told_212 : decode cX3_told 212 = .ok (.aload_n 0, 1) := by decide +kernel
theorem dX3_told_213 : decode cX3_told 213 = .ok (.getfield 7, 3) := by decide +kernel
theorem dX3_told_216 : decode cX3_told 216 = .ok (.bipush 24, 2) := by decide +kernel
theorem dX3_told_218 : decode cX3_told 218 = .ok (.laload, 1) := by decide +kernel
theorem dX3_told_219 : decode cX3_told 219 = .ok (.l2i, 1) := by decide +kernel
theorem dX3_told_220 : decode cX3_told 220 = .ok (.ireturn, 1) := by decide +kernel
theorem dX3_told_221 : decode cX3_told 221 = .ok (.aload_n 0, 1) := by decide +kernel
theorem dX3_told_222 : decode cX3_told 222 = .ok (.invokevirtual 142, 3) := by decide +kernel
theorem dX3_told_225 : decode cX3_told 225 = .ok (.l2i, 1) := by decide +kernel
theorem dX3_told_226 : decode cX3_told 226 = .ok (.ireturn, 1) := by decide +kernel
theorem dX3_told_227 : decode cX3_told 227 = .ok (.aload_n 0, 1) := by decide +kernel
theorem dX3_told_228 : decode cX3_told 228 = .ok (.invokevirtual 145, 3) := by decide +kernel
theorem dX3_told_231 : decode cX3_told 231 = .ok (.ireturn, 1) := by decide +kernel
theorem dX3_told_232 : decode cX3_told 232 = .ok (.aload_n 0, 1) := by decide +kernel
theorem dX3_told_233 : decode cX3_told 233 = .ok (.getfield 134, 3) := by decide +kernel
theorem dX3_told_236 : decode cX3_told 236 = .ok (.ireturn, 1) := by decide +kernel
theorem dX3_told_237 : decode cX3_told 237 = .ok (.aload_n 0, 1) := by decide +kernel
theorem dX3_told_238 : decode cX3_told 238 = .ok (.invokevirtual 148, 3) := by decide +kernel
theorem dX3_told_241 : decode cX3_told 241 = .ok (.ireturn, 1) := by decide +kernel
theorem dX3_told_242 : decode cX3_told 242 = .ok (.aload_n 0, 1) := by decide +kernel
theorem dX3_told_243 : decode cX3_told 243 = .ok (.getfield 151, 3) := by decide +kernel
theorem dX3_told_246 : decode cX3_told 246 = .ok (.ireturn, 1) := by decide +kernel
theorem dX3_told_247 : decode cX3_told 247 = .ok (.ldc 154, 2) := by decide +kernel
theorem dX3_told_249 : decode cX3_told 249 = .ok (.ireturn, 1) := by decide +kernel
set_option maxRecDepth 20000 in
theorem ggX3_time_X3_aim : GoodIn wsX3_time wsX3_aim := goodIn_r _ [7, 1, 8, 9, 10, 11, 12, 13, 14, 15] (by decide +kernel) (by decide +kernel)
set_option maxRecDepth 20000 in
theorem gX3_time_X3_aim : GoodIn wsX3_time (wsV RX3 114 RX3 yX3_aim wsX3_aim) := goodIn_app (goodIn_of _ (by decide +kernel)) ggX3_time_X3_aim
theorem dX3_time_0 : decode cX3_time 0 = .ok (.iload_n 1, 1) := by decide +kernel
theorem dX3_time_1 : decode cX3_time 1 = .ok (.tableswitch 46 0 2 #[27, 34, 41], 27) := by decide +kernel
theorem dX3_time_28 : decode cX3_time 28 = .ok (.aload_n 0, 1) := by decide +kernel
theorem dX3_time_29 : decode cX3_time 29 = .ok (.getfield 7, 3) := by decide +kernel
