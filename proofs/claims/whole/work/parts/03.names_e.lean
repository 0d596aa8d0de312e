theorem dX3_time_32 : decode cX3_time 32 = .ok (.iconst 0, 1) := by decide +kernel
theorem dX3_time_33 : decode cX3_time 33 = .ok (.laload, 1) := by decide +kernel
theorem dX3_time_34 : decode cX3_time 34 = .ok (.lreturn, 1) := by decide +kernel
theorem dX3_time_35 : decode cX3_time 35 = .ok (.aload_n 0, 1) := by decide +kernel
theorem dX3_time_36 : decode cX3_time 36 = .ok (.getfield 7, 3) := by decide +kernel
theorem dX3_time_39 : decode cX3_time 39 = .ok (.iconst 1, 1) := by decide +kernel
theorem dX3_time_40 : decode cX3_time 40 = .ok (.laload, 1) := by decide +kernel
theorem dX3_time_41 : decode cX3_time 41 = .ok (.lreturn, 1) := by decide +kernel
theorem dX3_time_42 : decode cX3_time 42 = .ok (.aload_n 0, 1) := by decide +kernel
theorem dX3_time_43 : decode cX3_time 43 = .ok (.invokevirtual 114, 3) := by decide +kernel
theorem dX3_time_46 : decode cX3_time 46 = .ok (.lreturn, 1) := by decide +kernel
theorem dX3_time_47 : decode cX3_time 47 = .ok (.ldc2_w 35, 3) := by decide +kernel
theorem dX3_time_50 : decode cX3_time 50 = .ok (.lreturn, 1) := by decide +kernel
set_option maxRecDepth 20000 in
theorem ggX3_calendar_X3_minuteNow : GoodIn wsX3_calendar wsX3_minuteNow := goodIn_r _ [6, 7, 8, 9, 10, 11, 12, 13, 14, 15, 16] (by decide +kernel) (by decide +kernel)
set_option maxRecDepth 20000 in
theorem gX3_calendar_X3_minuteNow : GoodIn wsX3_calendar (wsV RX3 84 RX3 yX3_minuteNow wsX3_minuteNow) := goodIn_app (goodIn_of _ (by decide +kernel)) ggX3_calendar_X3_minuteNow
theorem dX3_calendar_0 : decode cX3_calendar 0 = .ok (.aload_n 0, 1) := by decide +kernel
theorem dX3_calendar_1 : decode cX3_calendar 1 = .ok (.invokevirtual 84, 3) := by decide +kernel
theorem dX3_calendar_4 : decode cX3_calendar 4 = .ok (.l2i, 1) := by decide +kernel
theorem dX3_calendar_5 : decode cX3_calendar 5 = .ok (.istore_n 2, 1) := by decide +kernel
theorem dX3_calendar_6 : decode cX3_calendar 6 = .ok (.iload_n 1, 1) := by decide +kernel
theorem dX3_calendar_7 : decode cX3_calendar 7 = .ok (.tableswitch 53 0 3 #[29, 31, 36, 44], 29) := by decide +kernel
theorem dX3_calendar_36 : decode cX3_calendar 36 = .ok (.iload_n 2, 1) := by decide +kernel
theorem dX3_calendar_37 : decode cX3_calendar 37 = .ok (.ireturn, 1) := by decide +kernel
theorem dX3_calendar_38 : decode cX3_calendar 38 = .ok (.iload_n 2, 1) := by decide +kernel
theorem dX3_calendar_39 : decode cX3_calendar 39 = .ok (.bipush 60, 2) := by decide +kernel
theorem dX3_calendar_41 : decode cX3_calendar 41 = .ok (.irem, 1) := by decide +kernel
theorem dX3_calendar_42 : decode cX3_calendar 42 = .ok (.ireturn, 1) := by decide +kernel
theorem dX3_calendar_43 : decode cX3_calendar 43 = .ok (.iload_n 2, 1) := by decide +kernel
theorem dX3_calendar_44 : decode cX3_calendar 44 = .ok (.bipush 60, 2) := by decide +kernel
theorem dX3_calendar_46 : decode cX3_calendar 46 = .ok (.idiv, 1) := by decide +kernel
theorem dX3_calendar_47 : decode cX3_calendar 47 = .ok (.bipush 24, 2) := by decide +kernel
theorem dX3_calendar_49 : decode cX3_calendar 49 = .ok (.irem, 1) := by decide +kernel
theorem dX3_calendar_50 : decode cX3_calendar 50 = .ok (.ireturn, 1) := by decide +kernel
theorem dX3_calendar_51 : decode cX3_calendar 51 = .ok (.iload_n 2, 1) := by decide +kernel
theorem dX3_calendar_52 : decode cX3_calendar 52 = .ok (.sipush 1440, 3) := by decide +kernel
theorem dX3_calendar_55 : decode cX3_calendar 55 = .ok (.idiv, 1) := by decide +kernel
theorem dX3_calendar_56 : decode cX3_calendar 56 = .ok (.bipush 7, 2) := by decide +kernel
theorem dX3_calendar_58 : decode cX3_calendar 58 = .ok (.irem, 1) := by decide +kernel
theorem dX3_calendar_59 : decode cX3_calendar 59 = .ok (.ireturn, 1) := by decide +kernel
theorem dX3_calendar_60 : decode cX3_calendar 60 = .ok (.ldc 154, 2) := by decide +kernel
theorem dX3_calendar_62 : decode cX3_calendar 62 = .ok (.ireturn, 1) := by decide +kernel
set_option maxRecDepth 20000 in
theorem ggX3_span_X3_in : GoodIn wsX3_span wsX3_in := goodIn_r _ [13] (by decide +kernel) (by decide +kernel)
set_option maxRecDepth 20000 in
theorem gX3_span_X3_in : GoodIn wsX3_span (va_wsS RX3 157 yX3_in wsX3_in) := goodIn_app (goodIn_of _ (by decide +kernel)) ggX3_span_X3_in
set_option maxRecDepth 20000 in
theorem ggX3_span_X3_offAt : GoodIn wsX3_span wsX3_offAt := goodIn_r _ [17, 4, 18, 19, 20, 21, 22, 23, 24, 25, 26] (by decide +kernel) (by decide +kernel)
set_option maxRecDepth 20000 in
theorem gX3_span_X3_offAt : GoodIn wsX3_span (wsV RX3 64 RX3 yX3_offAt wsX3_offAt) := goodIn_app (goodIn_of _ (by decide +kernel)) ggX3_span_X3_offAt
theorem dX3_span_0 : decode cX3_span 0 = .ok (.iload_n 1, 1) := by decide +kernel
theorem dX3_span_1 : decode cX3_span 1 = .ok (.i2l, 1) := by decide +kernel
theorem dX3_span_2 : decode cX3_span 2 = .ok (.lconst 0, 1) := by decide +kernel
theorem dX3_span_3 : decode cX3_span 3 = .ok (.ldc2_w 155, 3) := by decide +kernel
theorem dX3_span_6 : decode cX3_span 6 = .ok (.invokestatic 157, 3) := by decide +kernel
theorem dX3_span_9 : decode cX3_span 9 = .ok (.ifCond .ne 6, 3) := by decide +kernel
theorem dX3_span_12 : decode cX3_span 12 = .ok (.ldc 161, 2) := by decide +kernel
theorem dX3_span_14 : decode cX3_span 14 = .ok (.ireturn, 1) := by decide +kernel
theorem dX3_span_15 : decode cX3_span 15 = .ok (.iload_n 2, 1) := by decide +kernel
theorem dX3_span_16 : decode cX3_span 16 = .ok (.i2l, 1) := by decide +kernel
theorem dX3_span_17 : decode cX3_span 17 = .ok (.lconst 0, 1) := by decide +kernel
theorem dX3_span_18 : decode cX3_span 18 = .ok (.lconst 1, 1) := by decide +kernel
theorem dX3_span_19 : decode cX3_span 19 = .ok (.invokestatic 157, 3) := by decide +kernel
theorem dX3_span_22 : decode cX3_span 22 = .ok (.ifCond .ne 6, 3) := by decide +kernel
theorem dX3_span_25 : decode cX3_span 25 = .ok (.ldc 154, 2) := by decide +kernel
theorem dX3_span_27 : decode cX3_span 27 = .ok (.ireturn, 1) := by decide +kernel
theorem dX3_span_28 : decode cX3_span 28 = .ok (.aload_n 0, 1) := by decide +kernel
theorem dX3_span_29 : decode cX3_span 29 = .ok (.getfield 7, 3) := by decide +kernel
theorem dX3_span_32 : decode cX3_span 32 = .ok (.bipush 15, 2) := by decide +kernel
theorem dX3_span_34 : decode cX3_span 34 = .ok (.iload_n 1, 1) := by decide +kernel
theorem dX3_span_35 : decode cX3_span 35 = .ok (.iadd, 1) := by decide +kernel
theorem dX3_span_36 : decode cX3_span 36 = .ok (.laload, 1) := by decide +kernel
theorem dX3_span_37 : decode cX3_span 37 = .ok (.lstore_n 3, 1) := by decide +kernel
theorem dX3_span_38 : decode cX3_span 38 = .ok (.iload_n 2, 1) := by decide +kernel
theorem dX3_span_39 : decode cX3_span 39 = .ok (.ifCond .ne 11, 3) := by decide +kernel
theorem dX3_span_42 : decode cX3_span 42 = .ok (.lload_n 3, 1) := by decide +kernel
theorem dX3_span_43 : decode cX3_span 43 = .ok (.ldc2_w 162, 3) := by decide +kernel
theorem dX3_span_46 : decode cX3_span 46 = .ok (.ladd, 1) := by decide +kernel
theorem dX3_span_47 : decode cX3_span 47 = .ok (.goto 27, 3) := by decide +kernel
theorem dX3_span_50 : decode cX3_span 50 = .ok (.lload_n 3, 1) := by decide +kernel
theorem dX3_span_51 : decode cX3_span 51 = .ok (.ldc2_w 45, 3) := by decide +kernel
theorem dX3_span_54 : decode cX3_span 54 = .ok (.aload_n 0, 1) := by decide +kernel
theorem dX3_span_55 : decode cX3_span 55 = .ok (.ldc2_w 39, 3) := by decide +kernel
theorem dX3_span_58 : decode cX3_span 58 = .ok (.iload_n 1, 1) := by decide +kernel
theorem dX3_span_59 : decode cX3_span 59 = .ok (.i2l, 1) := by decide +kernel
theorem dX3_span_60 : decode cX3_span 60 = .ok (.lmul, 1) := by decide +kernel
theorem dX3_span_61 : decode cX3_span 61 = .ok (.ldc2_w 164, 3) := by decide +kernel
theorem dX3_span_64 : decode cX3_span 64 = .ok (.lsub, 1) := by decide +kernel
theorem dX3_span_65 : decode cX3_span 65 = .ok (.invokevirtual 64, 3) := by decide +kernel
theorem dX3_span_68 : decode cX3_span 68 = .ok (.lmul, 1) := by decide +kernel
theorem dX3_span_69 : decode cX3_span 69 = .ok (.lsub, 1) := by decide +kernel
theorem dX3_span_70 : decode cX3_span 70 = .ok (.ldc2_w 166, 3) := by decide +kernel
theorem dX3_span_73 : decode cX3_span 73 = .ok (.ladd, 1) := by decide +kernel
theorem dX3_span_74 : decode cX3_span 74 = .ok (.l2i, 1) := by decide +kernel
theorem dX3_span_75 : decode cX3_span 75 = .ok (.ireturn, 1) := by decide +kernel
set_option maxRecDepth 20000 in
theorem ggX3_next_X3_minuteNow : GoodIn wsX3_next wsX3_minuteNow := goodIn_r _ [5, 6, 7, 20, 21, 22, 23, 24, 25, 26, 27] (by decide +kernel) (by decide +kernel)
set_option maxRecDepth 20000 in
theorem gX3_next_X3_minuteNow : GoodIn wsX3_next (wsV RX3 84 RX3 yX3_minuteNow wsX3_minuteNow) := goodIn_app (goodIn_of _ (by decide +kernel)) ggX3_next_X3_minuteNow
set_option maxRecDepth 20000 in
theorem ggX3_next_X3_fits : GoodIn wsX3_next wsX3_fits := goodIn_r _ [11, 6, 12, 13, 14, 15, 16, 17, 4, 18, 19, 20, 21, 22, 23, 24, 25, 26, 27] (by decide +kernel) (by decide +kernel)
set_option maxRecDepth 20000 in
theorem gX3_next_X3_fits : GoodIn wsX3_next (wsV RX3 88 RX3 yX3_fits wsX3_fits) := goodIn_app (goodIn_of _ (by decide +kernel)) ggX3_next_X3_fits
theorem dX3_next_0 : decode cX3_next 0 = .ok (.aload_n 0, 1) := by decide +kernel
theorem dX3_next_1 : decode cX3_next 1 = .ok (.invokevirtual 84, 3) := by decide +kernel
theorem dX3_next_4 : decode cX3_next 4 = .ok (.lconst 1, 1) := by decide +kernel
theorem dX3_next_5 : decode cX3_next 5 = .ok (.ladd, 1) := by decide +kernel
theorem dX3_next_6 : decode cX3_next 6 = .ok (.lstore_n 2, 1) := by decide +kernel
theorem dX3_next_7 : decode cX3_next 7 = .ok (.iconst 0, 1) := by decide +kernel
theorem dX3_next_8 : decode cX3_next 8 = .ok (.istore 4, 2) := by decide +kernel
theorem dX3_next_10 : decode cX3_next 10 = .ok (.iload 4, 2) := by decide +kernel
theorem dX3_next_12 : decode cX3_next 12 = .ok (.sipush 10080, 3) := by decide +kernel
theorem dX3_next_15 : decode cX3_next 15 = .ok (.if_icmp .ge 22, 3) := by decide +kernel
theorem dX3_next_18 : decode cX3_next 18 = .ok (.aload_n 0, 1) := by decide +kernel
theorem dX3_next_19 : decode cX3_next 19 = .ok (.iload_n 1, 1) := by decide +kernel
theorem dX3_next_20 : decode cX3_next 20 = .ok (.lload_n 2, 1) := by decide +kernel
theorem dX3_next_21 : decode cX3_next 21 = .ok (.invokevirtual 88, 3) := by decide +kernel
theorem dX3_next_24 : decode cX3_next 24 = .ok (.ifCond .ne 13, 3) := by decide +kernel
theorem dX3_next_27 : decode cX3_next 27 = .ok (.lload_n 2, 1) := by decide +kernel
theorem dX3_next_28 : decode cX3_next 28 = .ok (.lconst 1, 1) := by decide +kernel
theorem dX3_next_29 : decode cX3_next 29 = .ok (.ladd, 1) := by decide +kernel
theorem dX3_next_30 : decode cX3_next 30 = .ok (.lstore_n 2, 1) := by decide +kernel
theorem dX3_next_31 : decode cX3_next 31 = .ok (.iinc 4 1, 3) := by decide +kernel
theorem dX3_next_34 : decode cX3_next 34 = .ok (.goto (-24), 3) := by decide +kernel
theorem dX3_next_37 : decode cX3_next 37 = .ok (.lload_n 2, 1) := by decide +kernel
theorem dX3_next_38 : decode cX3_next 38 = .ok (.lreturn, 1) := by decide +kernel
set_option maxRecDepth 20000 in
theorem ggX3_isAlarm_X3_in : GoodIn wsX3_isAlarm wsX3_in := goodIn_r _ [5] (by decide +kernel) (by decide +kernel)
set_option maxRecDepth 20000 in
theorem gX3_isAlarm_X3_in : GoodIn wsX3_isAlarm (va_wsS RX3 157 yX3_in wsX3_in) := goodIn_app (goodIn_of _ (by decide +kernel)) ggX3_isAlarm_X3_in
theorem dX3_isAlarm_0 : decode cX3_isAlarm 0 = .ok (.iload_n 1, 1) := by decide +kernel
theorem dX3_isAlarm_1 : decode cX3_isAlarm 1 = .ok (.i2l, 1) := by decide +kernel
theorem dX3_isAlarm_2 : decode cX3_isAlarm 2 = .ok (.lconst 0, 1) := by decide +kernel
theorem dX3_isAlarm_3 : decode cX3_isAlarm 3 = .ok (.aload_n 0, 1) := by decide +kernel
theorem dX3_isAlarm_4 : decode cX3_isAlarm 4 = .ok (.getfield 7, 3) := by decide +kernel
theorem dX3_isAlarm_7 : decode cX3_isAlarm 7 = .ok (.bipush 24, 2) := by decide +kernel
theorem dX3_isAlarm_9 : decode cX3_isAlarm 9 = .ok (.laload, 1) := by decide +kernel
theorem dX3_isAlarm_10 : decode cX3_isAlarm 10 = .ok (.lconst 1, 1) := by decide +kernel
theorem dX3_isAlarm_11 : decode cX3_isAlarm 11 = .ok (.lsub, 1) := by decide +kernel
theorem dX3_isAlarm_12 : decode cX3_isAlarm 12 = .ok (.invokestatic 157, 3) := by decide +kernel
theorem dX3_isAlarm_15 : decode cX3_isAlarm 15 = .ok (.ireturn, 1) := by decide +kernel
set_option maxRecDepth 20000 in
theorem ggX3_alarmAt_X3_isAlarm : GoodIn wsX3_alarmAt wsX3_isAlarm := goodIn_r _ [9, 4, 10, 11, 8, 12, 34, 35, 36, 37, 38, 39, 40, 41] (by decide +kernel) (by decide +kernel)
set_option maxRecDepth 20000 in
theorem gX3_alarmAt_X3_isAlarm : GoodIn wsX3_alarmAt (wsV RX3 168 RX3 yX3_isAlarm wsX3_isAlarm) := goodIn_app (goodIn_of _ (by decide +kernel)) ggX3_alarmAt_X3_isAlarm
set_option maxRecDepth 20000 in
theorem ggX3_alarmAt_X3_in : GoodIn wsX3_alarmAt wsX3_in := goodIn_r _ [12] (by decide +kernel) (by decide +kernel)
set_option maxRecDepth 20000 in
theorem gX3_alarmAt_X3_in : GoodIn wsX3_alarmAt (va_wsS RX3 157 yX3_in wsX3_in) := goodIn_app (goodIn_of _ (by decide +kernel)) ggX3_alarmAt_X3_in
set_option maxRecDepth 20000 in
theorem ggX3_alarmAt_X3_next : GoodIn wsX3_alarmAt wsX3_next := goodIn_r _ [16, 17, 18, 19, 8, 20, 4, 21, 22, 23, 24, 25, 26, 27, 28, 29, 30, 31, 32, 33, 34, 35, 36, 37, 38, 39, 40, 41] (by decide +kernel) (by decide +kernel)
set_option maxRecDepth 20000 in
theorem gX3_alarmAt_X3_next : GoodIn wsX3_alarmAt (wsV RX3 172 RX3 yX3_next wsX3_next) := goodIn_app (goodIn_of _ (by decide +kernel)) ggX3_alarmAt_X3_next
theorem dX3_alarmAt_0 : decode cX3_alarmAt 0 = .ok (.aload_n 0, 1) := by decide +kernel
theorem dX3_alarmAt_1 : decode cX3_alarmAt 1 = .ok (.iload_n 1, 1) := by decide +kernel
theorem dX3_alarmAt_2 : decode cX3_alarmAt 2 = .ok (.invokevirtual 168, 3) := by decide +kernel
theorem dX3_alarmAt_5 : decode cX3_alarmAt 5 = .ok (.ifCond .ne 6, 3) := by decide +kernel
theorem dX3_alarmAt_8 : decode cX3_alarmAt 8 = .ok (.ldc 161, 2) := by decide +kernel
theorem dX3_alarmAt_10 : decode cX3_alarmAt 10 = .ok (.ireturn, 1) := by decide +kernel
theorem dX3_alarmAt_11 : decode cX3_alarmAt 11 = .ok (.iload_n 2, 1) := by decide +kernel
theorem dX3_alarmAt_12 : decode cX3_alarmAt 12 = .ok (.i2l, 1) := by decide +kernel
theorem dX3_alarmAt_13 : decode cX3_alarmAt 13 = .ok (.lconst 0, 1) := by decide +kernel
theorem dX3_alarmAt_14 : decode cX3_alarmAt 14 = .ok (.ldc2_w 70, 3) := by decide +kernel
theorem dX3_alarmAt_17 : decode cX3_alarmAt 17 = .ok (.invokestatic 157, 3) := by decide +kernel
theorem dX3_alarmAt_20 : decode cX3_alarmAt 20 = .ok (.ifCond .ne 6, 3) := by decide +kernel
theorem dX3_alarmAt_23 : decode cX3_alarmAt 23 = .ok (.ldc 154, 2) := by decide +kernel
theorem dX3_alarmAt_25 : decode cX3_alarmAt 25 = .ok (.ireturn, 1) := by decide +kernel
theorem dX3_alarmAt_26 : decode cX3_alarmAt 26 = .ok (.iload_n 2, 1) := by decide +kernel
theorem dX3_alarmAt_27 : decode cX3_alarmAt 27 = .ok (.iconst 4, 1) := by decide +kernel
theorem dX3_alarmAt_28 : decode cX3_alarmAt 28 = .ok (.if_icmp .ne 11, 3) := by decide +kernel
theorem dX3_alarmAt_31 : decode cX3_alarmAt 31 = .ok (.aload_n 0, 1) := by decide +kernel
theorem dX3_alarmAt_32 : decode cX3_alarmAt 32 = .ok (.iload_n 1, 1) := by decide +kernel
theorem dX3_alarmAt_33 : decode cX3_alarmAt 33 = .ok (.invokevirtual 172, 3) := by decide +kernel
theorem dX3_alarmAt_36 : decode cX3_alarmAt 36 = .ok (.goto 16, 3) := by decide +kernel
theorem dX3_alarmAt_39 : decode cX3_alarmAt 39 = .ok (.aload_n 0, 1) := by decide +kernel
theorem dX3_alarmAt_40 : decode cX3_alarmAt 40 = .ok (.getfield 7, 3) := by decide +kernel
theorem dX3_alarmAt_43 : decode cX3_alarmAt 43 = .ok (.bipush 25, 2) := by decide +kernel
theorem dX3_alarmAt_45 : decode cX3_alarmAt 45 = .ok (.iconst 4, 1) := by decide +kernel
theorem dX3_alarmAt_46 : decode cX3_alarmAt 46 = .ok (.iload_n 1, 1) := by decide +kernel
theorem dX3_alarmAt_47 : decode cX3_alarmAt 47 = .ok (.imul, 1) := by decide +kernel
theorem dX3_alarmAt_48 : decode cX3_alarmAt 48 = .ok (.iadd, 1) := by decide +kernel
theorem dX3_alarmAt_49 : decode cX3_alarmAt 49 = .ok (.iload_n 2, 1) := by decide +kernel
theorem dX3_alarmAt_50 : decode cX3_alarmAt 50 = .ok (.iadd, 1) := by decide +kernel
theorem dX3_alarmAt_51 : decode cX3_alarmAt 51 = .ok (.laload, 1) := by decide +kernel
theorem dX3_alarmAt_52 : decode cX3_alarmAt 52 = .ok (.l2i, 1) := by decide +kernel
theorem dX3_alarmAt_53 : decode cX3_alarmAt 53 = .ok (.ireturn, 1) := by decide +kernel
set_option maxRecDepth 20000 in
theorem ggX3_notes_X3_bring : GoodIn wsX3_notes wsX3_bring := goodIn_r _ [7] (by decide +kernel) (by decide +kernel)
set_option maxRecDepth 20000 in
theorem gX3_notes_X3_bring : GoodIn wsX3_notes (va_wsS RX3 175 yX3_bring wsX3_bring) := goodIn_app (goodIn_of _ (by decide +kernel)) ggX3_notes_X3_bring
theorem dX3_notes_0 : decode cX3_notes 0 = .ok (.aload_n 0, 1) := by decide +kernel
theorem dX3_notes_1 : decode cX3_notes 1 = .ok (.getfield 151, 3) := by decide +kernel
theorem dX3_notes_4 : decode cX3_notes 4 = .ok (.bipush 20, 2) := by decide +kernel
theorem dX3_notes_6 : decode cX3_notes 6 = .ok (.if_icmp .ne 30, 3) := by decide +kernel
theorem dX3_notes_9 : decode cX3_notes 9 = .ok (.aload_n 0, 1) := by decide +kernel
theorem dX3_notes_10 : decode cX3_notes 10 = .ok (.getfield 13, 3) := by decide +kernel
theorem dX3_notes_13 : decode cX3_notes 13 = .ok (.bipush 49, 2) := by decide +kernel
theorem dX3_notes_15 : decode cX3_notes 15 = .ok (.aload_n 0, 1) := by decide +kernel
theorem dX3_notes_16 : decode cX3_notes 16 = .ok (.getfield 13, 3) := by decide +kernel
theorem dX3_notes_19 : decode cX3_notes 19 = .ok (.iconst 0, 1) := by decide +kernel
theorem dX3_notes_20 : decode cX3_notes 20 = .ok (.sipush 931, 3) := by decide +kernel
theorem dX3_notes_23 : decode cX3_notes 23 = .ok (.invokestatic 175, 3) := by decide +kernel
theorem dX3_notes_26 : decode cX3_notes 26 = .ok (.aload_n 0, 1) := by decide +kernel
theorem dX3_notes_27 : decode cX3_notes 27 = .ok (.dup, 1) := by decide +kernel
theorem dX3_notes_28 : decode cX3_notes 28 = .ok (.getfield 151, 3) := by decide +kernel
theorem dX3_notes_31 : decode cX3_notes 31 = .ok (.iconst 1, 1) := by decide +kernel
theorem dX3_notes_32 : decode cX3_notes 32 = .ok (.isub, 1) := by decide +kernel
theorem dX3_notes_33 : decode cX3_notes 33 = .ok (.putfield 151, 3) := by decide +kernel
theorem dX3_notes_36 : decode cX3_notes 36 = .ok (.aload_n 0, 1) := by decide +kernel
theorem dX3_notes_37 : decode cX3_notes 37 = .ok (.getfield 7, 3) := by decide +kernel
theorem dX3_notes_40 : decode cX3_notes 40 = .ok (.iconst 0, 1) := by decide +kernel
theorem dX3_notes_41 : decode cX3_notes 41 = .ok (.aload_n 0, 1) := by decide +kernel
theorem dX3_notes_42 : decode cX3_notes 42 = .ok (.getfield 13, 3) := by decide +kernel
theorem dX3_notes_45 : decode cX3_notes 45 = .ok (.bipush 49, 2) := by decide +kernel
theorem dX3_notes_47 : decode cX3_notes 47 = .ok (.aload_n 0, 1) := by decide +kernel
theorem dX3_notes_48 : decode cX3_notes 48 = .ok (.getfield 151, 3) := by decide +kernel
theorem dX3_notes_51 : decode cX3_notes 51 = .ok (.imul, 1) := by decide +kernel
theorem dX3_notes_52 : decode cX3_notes 52 = .ok (.bipush 49, 2) := by decide +kernel
theorem dX3_notes_54 : decode cX3_notes 54 = .ok (.invokestatic 175, 3) := by decide +kernel
theorem dX3_notes_57 : decode cX3_notes 57 = .ok (.aload_n 0, 1) := by decide +kernel
theorem dX3_notes_58 : decode cX3_notes 58 = .ok (.dup, 1) := by decide +kernel
theorem dX3_notes_59 : decode cX3_notes 59 = .ok (.getfield 151, 3) := by decide +kernel
theorem dX3_notes_62 : decode cX3_notes 62 = .ok (.iconst 1, 1) := by decide +kernel
theorem dX3_notes_63 : decode cX3_notes 63 = .ok (.iadd, 1) := by decide +kernel
theorem dX3_notes_64 : decode cX3_notes 64 = .ok (.putfield 151, 3) := by decide +kernel
theorem dX3_notes_67 : decode cX3_notes 67 = .ok (.return_, 1) := by decide +kernel
set_option maxRecDepth 20000 in
theorem ggX3_tick_X3_in : GoodIn wsX3_tick wsX3_in := goodIn_r _ [6] (by decide +kernel) (by decide +kernel)
set_option maxRecDepth 20000 in
theorem gX3_tick_X3_in : GoodIn wsX3_tick (va_wsS RX3 157 yX3_in wsX3_in) := goodIn_app (goodIn_of _ (by decide +kernel)) ggX3_tick_X3_in
set_option maxRecDepth 20000 in
theorem ggX3_tick_X3_notes : GoodIn wsX3_tick wsX3_notes := goodIn_r _ [10, 11, 12, 13, 14, 15, 5, 16, 91, 92, 93, 94, 95, 96, 97, 98] (by decide +kernel) (by decide +kernel)
set_option maxRecDepth 20000 in
theorem gX3_tick_X3_notes : GoodIn wsX3_tick (wsV RX3 179 RX3 yX3_notes wsX3_notes) := goodIn_app (goodIn_of _ (by decide +kernel)) ggX3_tick_X3_notes
set_option maxRecDepth 20000 in
theorem ggX3_tick_X3_goes : GoodIn wsX3_tick wsX3_goes := goodIn_r _ [20, 13, 21, 22, 23, 24, 25, 26, 27, 5, 28, 29, 30, 31, 32, 33, 34, 35, 36, 37, 38, 39, 40, 41, 42, 43, 44, 45, 46, 47, 48, 49, 50, 51, 52, 53, 54, 55, 56, 57, 58, 59, 60, 61, 62, 63, 64, 65, 66, 67, 68, 69, 70, 71, 72, 73, 74, 75, 76, 77, 78, 79, 80, 81, 82, 83, 84, 85, 86, 87, 88, 89, 90, 91, 92, 93, 94, 95, 96, 97, 98] (by decide +kernel) (by decide +kernel)
set_option maxRecDepth 20000 in
theorem gX3_tick_X3_goes : GoodIn wsX3_tick (wsV RX3 182 RX3 yX3_goes wsX3_goes) := goodIn_app (goodIn_of _ (by decide +kernel)) ggX3_tick_X3_goes
theorem dX3_tick_0 : decode cX3_tick 0 = .ok (.iload_n 1, 1) := by decide +kernel
theorem dX3_tick_1 : decode cX3_tick 1 = .ok (.i2l, 1) := by decide +kernel
theorem dX3_tick_2 : decode cX3_tick 2 = .ok (.lconst 1, 1) := by decide +kernel
theorem dX3_tick_3 : decode cX3_tick 3 = .ok (.ldc2_w 132, 3) := by decide +kernel
theorem dX3_tick_6 : decode cX3_tick 6 = .ok (.invokestatic 157, 3) := by decide +kernel
theorem dX3_tick_9 : decode cX3_tick 9 = .ok (.ifCond .ne 6, 3) := by decide +kernel
theorem dX3_tick_12 : decode cX3_tick 12 = .ok (.ldc 154, 2) := by decide +kernel
theorem dX3_tick_14 : decode cX3_tick 14 = .ok (.ireturn, 1) := by decide +kernel
theorem dX3_tick_15 : decode cX3_tick 15 = .ok (.aload_n 0, 1) := by decide +kernel
theorem dX3_tick_16 : decode cX3_tick 16 = .ok (.invokevirtual 179, 3) := by decide +kernel
theorem dX3_tick_19 : decode cX3_tick 19 = .ok (.aload_n 0, 1) := by decide +kernel
theorem dX3_tick_20 : decode cX3_tick 20 = .ok (.iload_n 1, 1) := by decide +kernel
theorem dX3_tick_21 : decode cX3_tick 21 = .ok (.invokevirtual 182, 3) := by decide +kernel
theorem dX3_tick_24 : decode cX3_tick 24 = .ok (.ireturn, 1) := by decide +kernel
set_option maxRecDepth 20000 in
theorem ggX3_warm_X3_in : GoodIn wsX3_warm wsX3_in := goodIn_r _ [8] (by decide +kernel) (by decide +kernel)
set_option maxRecDepth 20000 in
theorem gX3_warm_X3_in : GoodIn wsX3_warm (va_wsS RX3 157 yX3_in wsX3_in) := goodIn_app (goodIn_of _ (by decide +kernel)) ggX3_warm_X3_in
set_option maxRecDepth 20000 in
theorem ggX3_warm_X3_notes : GoodIn wsX3_warm wsX3_notes := goodIn_r _ [12, 13, 14, 4, 15, 16, 7, 17, 18, 19, 20, 21, 22, 23, 24, 25] (by decide +kernel) (by decide +kernel)
set_option maxRecDepth 20000 in
theorem gX3_warm_X3_notes : GoodIn wsX3_warm (wsV RX3 179 RX3 yX3_notes wsX3_notes) := goodIn_app (goodIn_of _ (by decide +kernel)) ggX3_warm_X3_notes
theorem dX3_warm_0 : decode cX3_warm 0 = .ok (.iload_n 1, 1) := by decide +kernel
theorem dX3_warm_1 : decode cX3_warm 1 = .ok (.i2l, 1) := by decide +kernel
theorem dX3_warm_2 : decode cX3_warm 2 = .ok (.ldc2_w 186, 3) := by decide +kernel
theorem dX3_warm_5 : decode cX3_warm 5 = .ok (.ldc2_w 188, 3) := by decide +kernel
theorem dX3_warm_8 : decode cX3_warm 8 = .ok (.invokestatic 157, 3) := by decide +kernel
theorem dX3_warm_11 : decode cX3_warm 11 = .ok (.ifCond .ne 6, 3) := by decide +kernel
theorem dX3_warm_14 : decode cX3_warm 14 = .ok (.ldc 154, 2) := by decide +kernel
theorem dX3_warm_16 : decode cX3_warm 16 = .ok (.ireturn, 1) := by decide +kernel
theorem dX3_warm_17 : decode cX3_warm 17 = .ok (.aload_n 0, 1) := by decide +kernel
theorem dX3_warm_18 : decode cX3_warm 18 = .ok (.getfield 7, 3) := by decide +kernel
theorem dX3_warm_21 : decode cX3_warm 21 = .ok (.iconst 4, 1) := by decide +kernel
theorem dX3_warm_22 : decode cX3_warm 22 = .ok (.laload, 1) := by decide +kernel
theorem dX3_warm_23 : decode cX3_warm 23 = .ok (.l2i, 1) := by decide +kernel
theorem dX3_warm_24 : decode cX3_warm 24 = .ok (.istore_n 2, 1) := by decide +kernel
theorem dX3_warm_25 : decode cX3_warm 25 = .ok (.aload_n 0, 1) := by decide +kernel
theorem dX3_warm_26 : decode cX3_warm 26 = .ok (.invokevirtual 179, 3) := by decide +kernel
theorem dX3_warm_29 : decode cX3_warm 29 = .ok (.aload_n 0, 1) := by decide +kernel
theorem dX3_warm_30 : decode cX3_warm 30 = .ok (.getfield 7, 3) := by decide +kernel
theorem dX3_warm_33 : decode cX3_warm 33 = .ok (.iconst 4, 1) := by decide +kernel
theorem dX3_warm_34 : decode cX3_warm 34 = .ok (.iload_n 1, 1) := by decide +kernel
theorem dX3_warm_35 : decode cX3_warm 35 = .ok (.i2l, 1) := by decide +kernel
theorem dX3_warm_36 : decode cX3_warm 36 = .ok (.lastore, 1) := by decide +kernel
theorem dX3_warm_37 : decode cX3_warm 37 = .ok (.iload_n 2, 1) := by decide +kernel
theorem dX3_warm_38 : decode cX3_warm 38 = .ok (.bipush 20, 2) := by decide +kernel
theorem dX3_warm_40 : decode cX3_warm 40 = .ok (.iadd, 1) := by decide +kernel
theorem dX3_warm_41 : decode cX3_warm 41 = .ok (.ireturn, 1) := by decide +kernel
set_option maxRecDepth 20000 in
theorem ggX3_crystal_X3_in : GoodIn wsX3_crystal wsX3_in := goodIn_r _ [10] (by decide +kernel) (by decide +kernel)
set_option maxRecDepth 20000 in
theorem gX3_crystal_X3_in : GoodIn wsX3_crystal (va_wsS RX3 157 yX3_in wsX3_in) := goodIn_app (goodIn_of _ (by decide +kernel)) ggX3_crystal_X3_in
set_option maxRecDepth 20000 in
theorem ggX3_crystal_X3_notes : GoodIn wsX3_crystal wsX3_notes := goodIn_r _ [14, 15, 16, 6, 17, 18, 9, 19, 25, 26, 27, 28, 29, 30, 31, 32] (by decide +kernel) (by decide +kernel)
set_option maxRecDepth 20000 in
theorem gX3_crystal_X3_notes : GoodIn wsX3_crystal (wsV RX3 179 RX3 yX3_notes wsX3_notes) := goodIn_app (goodIn_of _ (by decide +kernel)) ggX3_crystal_X3_notes
set_option maxRecDepth 20000 in
theorem ggX3_crystal_X3_offAt : GoodIn wsX3_crystal wsX3_offAt := goodIn_r _ [23, 6, 24, 25, 26, 27, 28, 29, 30, 31, 32] (by decide +kernel) (by decide +kernel)
set_option maxRecDepth 20000 in
theorem gX3_crystal_X3_offAt : GoodIn wsX3_crystal (wsV RX3 64 RX3 yX3_offAt wsX3_offAt) := goodIn_app (goodIn_of _ (by decide +kernel)) ggX3_crystal_X3_offAt
theorem dX3_crystal_0 : decode cX3_crystal 0 = .ok (.iload_n 1, 1) := by decide +kernel
theorem dX3_crystal_1 : decode cX3_crystal 1 = .ok (.i2l, 1) := by decide +kernel
theorem dX3_crystal_2 : decode cX3_crystal 2 = .ok (.lconst 0, 1) := by decide +kernel
theorem dX3_crystal_3 : decode cX3_crystal 3 = .ok (.ldc2_w 190, 3) := by decide +kernel
theorem dX3_crystal_6 : decode cX3_crystal 6 = .ok (.invokestatic 157, 3) := by decide +kernel
theorem dX3_crystal_9 : decode cX3_crystal 9 = .ok (.ifCond .eq 29, 3) := by decide +kernel
theorem dX3_crystal_12 : decode cX3_crystal 12 = .ok (.iload_n 2, 1) := by decide +kernel
theorem dX3_crystal_13 : decode cX3_crystal 13 = .ok (.i2l, 1) := by decide +kernel
theorem dX3_crystal_14 : decode cX3_crystal 14 = .ok (.lconst 0, 1) := by decide +kernel
theorem dX3_crystal_15 : decode cX3_crystal 15 = .ok (.ldc2_w 31, 3) := by decide +kernel
theorem dX3_crystal_18 : decode cX3_crystal 18 = .ok (.invokestatic 157, 3) := by decide +kernel
theorem dX3_crystal_21 : decode cX3_crystal 21 = .ok (.ifCond .eq 17, 3) := by decide +kernel
theorem dX3_crystal_24 : decode cX3_crystal 24 = .ok (.iload_n 3, 1) := by decide +kernel
theorem dX3_crystal_25 : decode cX3_crystal 25 = .ok (.i2l, 1) := by decide +kernel
theorem dX3_crystal_26 : decode cX3_crystal 26 = .ok (.ldc2_w 192, 3) := by decide +kernel
theorem dX3_crystal_29 : decode cX3_crystal 29 = .ok (.ldc2_w 112, 3) := by decide +kernel
theorem dX3_crystal_32 : decode cX3_crystal 32 = .ok (.invokestatic 157, 3) := by decide +kernel
theorem dX3_crystal_35 : decode cX3_crystal 35 = .ok (.ifCond .ne 6, 3) := by decide +kernel
theorem dX3_crystal_38 : decode cX3_crystal 38 = .ok (.ldc 154, 2) := by decide +kernel
theorem dX3_crystal_40 : decode cX3_crystal 40 = .ok (.ireturn, 1) := by decide +kernel
theorem dX3_crystal_41 : decode cX3_crystal 41 = .ok (.aload_n 0, 1) := by decide +kernel
theorem dX3_crystal_42 : decode cX3_crystal 42 = .ok (.invokevirtual 179, 3) := by decide +kernel
theorem dX3_crystal_45 : decode cX3_crystal 45 = .ok (.aload_n 0, 1) := by decide +kernel
theorem dX3_crystal_46 : decode cX3_crystal 46 = .ok (.getfield 7, 3) := by decide +kernel
theorem dX3_crystal_49 : decode cX3_crystal 49 = .ok (.iconst 5, 1) := by decide +kernel
theorem dX3_crystal_50 : decode cX3_crystal 50 = .ok (.iload_n 1, 1) := by decide +kernel
theorem dX3_crystal_51 : decode cX3_crystal 51 = .ok (.i2l, 1) := by decide +kernel
theorem dX3_crystal_52 : decode cX3_crystal 52 = .ok (.lastore, 1) := by decide +kernel
theorem dX3_crystal_53 : decode cX3_crystal 53 = .ok (.aload_n 0, 1) := by decide +kernel
theorem dX3_crystal_54 : decode cX3_crystal 54 = .ok (.getfield 7, 3) := by decide +kernel
theorem dX3_crystal_57 : decode cX3_crystal 57 = .ok (.bipush 6, 2) := by decide +kernel
theorem dX3_crystal_59 : decode cX3_crystal 59 = .ok (.iload_n 2, 1) := by decide +kernel
theorem dX3_crystal_60 : decode cX3_crystal 60 = .ok (.i2l, 1) := by decide +kernel
theorem dX3_crystal_61 : decode cX3_crystal 61 = .ok (.lastore, 1) := by decide +kernel
theorem dX3_crystal_62 : decode cX3_crystal 62 = .ok (.aload_n 0, 1) := by decide +kernel
theorem dX3_crystal_63 : decode cX3_crystal 63 = .ok (.getfield 7, 3) := by decide +kernel
theorem dX3_crystal_66 : decode cX3_crystal 66 = .ok (.bipush 7, 2) := by decide +kernel
theorem dX3_crystal_68 : decode cX3_crystal 68 = .ok (.iload_n 3, 1) := by decide +kernel
theorem dX3_crystal_69 : decode cX3_crystal 69 = .ok (.i2l, 1) := by decide +kernel
theorem dX3_crystal_70 : decode cX3_crystal 70 = .ok (.lastore, 1) := by decide +kernel
theorem dX3_crystal_71 : decode cX3_crystal 71 = .ok (.aload_n 0, 1) := by decide +kernel
theorem dX3_crystal_72 : decode cX3_crystal 72 = .ok (.aload_n 0, 1) := by decide +kernel
theorem dX3_crystal_73 : decode cX3_crystal 73 = .ok (.getfield 7, 3) := by decide +kernel
theorem dX3_crystal_76 : decode cX3_crystal 76 = .ok (.iconst 4, 1) := by decide +kernel
theorem dX3_crystal_77 : decode cX3_crystal 77 = .ok (.laload, 1) := by decide +kernel
theorem dX3_crystal_78 : decode cX3_crystal 78 = .ok (.invokevirtual 64, 3) := by decide +kernel
theorem dX3_crystal_81 : decode cX3_crystal 81 = .ok (.l2i, 1) := by decide +kernel
theorem dX3_crystal_82 : decode cX3_crystal 82 = .ok (.sipush 10000, 3) := by decide +kernel
theorem dX3_crystal_85 : decode cX3_crystal 85 = .ok (.iadd, 1) := by decide +kernel
theorem dX3_crystal_86 : decode cX3_crystal 86 = .ok (.ireturn, 1) := by decide +kernel
set_option maxRecDepth 20000 in
theorem ggX3_bound_X3_in : GoodIn wsX3_bound wsX3_in := goodIn_r _ [8] (by decide +kernel) (by decide +kernel)
set_option maxRecDepth 20000 in
theorem gX3_bound_X3_in : GoodIn wsX3_bound (va_wsS RX3 157 yX3_in wsX3_in) := goodIn_app (goodIn_of _ (by decide +kernel)) ggX3_bound_X3_in
set_option maxRecDepth 20000 in
theorem ggX3_bound_X3_notes : GoodIn wsX3_bound wsX3_notes := goodIn_r _ [12, 13, 14, 4, 15, 16, 7, 17, 18, 19, 20, 21, 22, 23, 24, 25] (by decide +kernel) (by decide +kernel)
set_option maxRecDepth 20000 in
theorem gX3_bound_X3_notes : GoodIn wsX3_bound (wsV RX3 179 RX3 yX3_notes wsX3_notes) := goodIn_app (goodIn_of _ (by decide +kernel)) ggX3_bound_X3_notes
theorem dX3_bound_0 : decode cX3_bound 0 = .ok (.iload_n 1, 1) := by decide +kernel
theorem dX3_bound_1 : decode cX3_bound 1 = .ok (.i2l, 1) := by decide +kernel
theorem dX3_bound_2 : decode cX3_bound 2 = .ok (.lconst 0, 1) := by decide +kernel
theorem dX3_bound_3 : decode cX3_bound 3 = .ok (.lconst 1, 1) := by decide +kernel
theorem dX3_bound_4 : decode cX3_bound 4 = .ok (.invokestatic 157, 3) := by decide +kernel
theorem dX3_bound_7 : decode cX3_bound 7 = .ok (.ifCond .eq 28, 3) := by decide +kernel
theorem dX3_bound_10 : decode cX3_bound 10 = .ok (.iload_n 2, 1) := by decide +kernel
theorem dX3_bound_11 : decode cX3_bound 11 = .ok (.i2l, 1) := by decide +kernel
theorem dX3_bound_12 : decode cX3_bound 12 = .ok (.iconst 1, 1) := by decide +kernel
theorem dX3_bound_13 : decode cX3_bound 13 = .ok (.iload_n 1, 1) := by decide +kernel
theorem dX3_bound_14 : decode cX3_bound 14 = .ok (.isub, 1) := by decide +kernel
theorem dX3_bound_15 : decode cX3_bound 15 = .ok (.i2l, 1) := by decide +kernel
theorem dX3_bound_16 : decode cX3_bound 16 = .ok (.iload_n 1, 1) := by decide +kernel
theorem dX3_bound_17 : decode cX3_bound 17 = .ok (.ifCond .ne 9, 3) := by decide +kernel
theorem dX3_bound_20 : decode cX3_bound 20 = .ok (.ldc2_w 194, 3) := by decide +kernel
theorem dX3_bound_23 : decode cX3_bound 23 = .ok (.goto 6, 3) := by decide +kernel
theorem dX3_bound_26 : decode cX3_bound 26 = .ok (.ldc2_w 196, 3) := by decide +kernel
theorem dX3_bound_29 : decode cX3_bound 29 = .ok (.invokestatic 157, 3) := by decide +kernel
theorem dX3_bound_32 : decode cX3_bound 32 = .ok (.ifCond .ne 6, 3) := by decide +kernel
theorem dX3_bound_35 : decode cX3_bound 35 = .ok (.ldc 154, 2) := by decide +kernel
theorem dX3_bound_37 : decode cX3_bound 37 = .ok (.ireturn, 1) := by decide +kernel
theorem dX3_bound_38 : decode cX3_bound 38 = .ok (.aload_n 0, 1) := by decide +kernel
theorem dX3_bound_39 : decode cX3_bound 39 = .ok (.getfield 7, 3) := by decide +kernel
theorem dX3_bound_42 : decode cX3_bound 42 = .ok (.bipush 9, 2) := by decide +kernel
theorem dX3_bound_44 : decode cX3_bound 44 = .ok (.iload_n 1, 1) := by decide +kernel
theorem dX3_bound_45 : decode cX3_bound 45 = .ok (.iadd, 1) := by decide +kernel
theorem dX3_bound_46 : decode cX3_bound 46 = .ok (.laload, 1) := by decide +kernel
theorem dX3_bound_47 : decode cX3_bound 47 = .ok (.l2i, 1) := by decide +kernel
theorem dX3_bound_48 : decode cX3_bound 48 = .ok (.istore_n 3, 1) := by decide +kernel
theorem dX3_bound_49 : decode cX3_bound 49 = .ok (.aload_n 0, 1) := by decide +kernel
theorem dX3_bound_50 : decode cX3_bound 50 = .ok (.invokevirtual 179, 3) := by decide +kernel
theorem dX3_bound_53 : decode cX3_bound 53 = .ok (.aload_n 0, 1) := by decide +kernel
theorem dX3_bound_54 : decode cX3_bound 54 = .ok (.getfield 7, 3) := by decide +kernel
theorem dX3_bound_57 : decode cX3_bound 57 = .ok (.bipush 9, 2) := by decide +kernel
theorem dX3_bound_59 : decode cX3_bound 59 = .ok (.iload_n 1, 1) := by decide +kernel
theorem dX3_bound_60 : decode cX3_bound 60 = .ok (.iadd, 1) := by decide +kernel
theorem dX3_bound_61 : decode cX3_bound 61 = .ok (.iload_n 2, 1) := by decide +kernel
theorem dX3_bound_62 : decode cX3_bound 62 = .ok (.i2l, 1) := by decide +kernel
theorem dX3_bound_63 : decode cX3_bound 63 = .ok (.lastore, 1) := by decide +kernel
theorem dX3_bound_64 : decode cX3_bound 64 = .ok (.iload_n 3, 1) := by decide +kernel
theorem dX3_bound_65 : decode cX3_bound 65 = .ok (.ireturn, 1) := by decide +kernel
set_option maxRecDepth 20000 in
theorem ggX3_power_X3_notes : GoodIn wsX3_power wsX3_notes := goodIn_r _ [6, 7, 8, 1, 9, 10, 5, 11, 12, 13, 14, 15, 16, 17, 18, 19] (by decide +kernel) (by decide +kernel)
set_option maxRecDepth 20000 in
theorem gX3_power_X3_notes : GoodIn wsX3_power (wsV RX3 179 RX3 yX3_notes wsX3_notes) := goodIn_app (goodIn_of _ (by decide +kernel)) ggX3_power_X3_notes
theorem dX3_power_0 : decode cX3_power 0 = .ok (.aload_n 0, 1) := by decide +kernel
theorem dX3_power_1 : decode cX3_power 1 = .ok (.getfield 7, 3) := by decide +kernel
theorem dX3_power_4 : decode cX3_power 4 = .ok (.bipush 11, 2) := by decide +kernel
theorem dX3_power_6 : decode cX3_power 6 = .ok (.laload, 1) := by decide +kernel
theorem dX3_power_7 : decode cX3_power 7 = .ok (.l2i, 1) := by decide +kernel
theorem dX3_power_8 : decode cX3_power 8 = .ok (.istore_n 2, 1) := by decide +kernel
theorem dX3_power_9 : decode cX3_power 9 = .ok (.aload_n 0, 1) := by decide +kernel
theorem dX3_power_10 : decode cX3_power 10 = .ok (.invokevirtual 179, 3) := by decide +kernel
theorem dX3_power_13 : decode cX3_power 13 = .ok (.aload_n 0, 1) := by decide +kernel
theorem dX3_power_14 : decode cX3_power 14 = .ok (.getfield 7, 3) := by decide +kernel
theorem dX3_power_17 : decode cX3_power 17 = .ok (.bipush 11, 2) := by decide +kernel
theorem dX3_power_19 : decode cX3_power 19 = .ok (.iload_n 1, 1) := by decide +kernel
theorem dX3_power_20 : decode cX3_power 20 = .ok (.ifCond .eq 7, 3) := by decide +kernel
theorem dX3_power_23 : decode cX3_power 23 = .ok (.lconst 1, 1) := by decide +kernel
theorem dX3_power_24 : decode cX3_power 24 = .ok (.goto 4, 3) := by decide +kernel
theorem dX3_power_27 : decode cX3_power 27 = .ok (.lconst 0, 1) := by decide +kernel
theorem dX3_power_28 : decode cX3_power 28 = .ok (.lastore, 1) := by decide +kernel
theorem dX3_power_29 : decode cX3_power 29 = .ok (.iload_n 2, 1) := by decide +kernel
theorem dX3_power_30 : decode cX3_power 30 = .ok (.ireturn, 1) := by decide +kernel
set_option maxRecDepth 20000 in
theorem ggX3_hear_X3_in : GoodIn wsX3_hear wsX3_in := goodIn_r _ [8] (by decide +kernel) (by decide +kernel)
set_option maxRecDepth 20000 in
theorem gX3_hear_X3_in : GoodIn wsX3_hear (va_wsS RX3 157 yX3_in wsX3_in) := goodIn_app (goodIn_of _ (by decide +kernel)) ggX3_hear_X3_in
set_option maxRecDepth 20000 in
theorem ggX3_hear_X3_notes : GoodIn wsX3_hear wsX3_notes := goodIn_r _ [12, 13, 14, 15, 16, 17, 7, 18, 48, 49, 50, 51, 52, 53, 54, 55] (by decide +kernel) (by decide +kernel)
set_option maxRecDepth 20000 in
theorem gX3_hear_X3_notes : GoodIn wsX3_hear (wsV RX3 179 RX3 yX3_notes wsX3_notes) := goodIn_app (goodIn_of _ (by decide +kernel)) ggX3_hear_X3_notes
set_option maxRecDepth 20000 in
theorem ggX3_hear_X3_hears : GoodIn wsX3_hear wsX3_hears := goodIn_r _ [22, 15, 23, 24, 25, 26, 27, 28, 7, 29, 30, 31, 1, 2, 32, 33, 34, 35, 36, 37, 38, 39, 40, 41, 42, 43, 44, 45, 46, 47, 48, 49, 50, 51, 52, 53, 54, 55] (by decide +kernel) (by decide +kernel)
set_option maxRecDepth 20000 in
theorem gX3_hear_X3_hears : GoodIn wsX3_hear (wsV RX3 200 RX3 yX3_hears wsX3_hears) := goodIn_app (goodIn_of _ (by decide +kernel)) ggX3_hear_X3_hears
theorem dX3_hear_0 : decode cX3_hear 0 = .ok (.iload_n 1, 1) := by decide +kernel
theorem dX3_hear_1 : decode cX3_hear 1 = .ok (.i2l, 1) := by decide +kernel
theorem dX3_hear_2 : decode cX3_hear 2 = .ok (.ldc2_w 119, 3) := by decide +kernel
theorem dX3_hear_5 : decode cX3_hear 5 = .ok (.ldc2_w 121, 3) := by decide +kernel
theorem dX3_hear_8 : decode cX3_hear 8 = .ok (.invokestatic 157, 3) := by decide +kernel
theorem dX3_hear_11 : decode cX3_hear 11 = .ok (.ifCond .eq 15, 3) := by decide +kernel
theorem dX3_hear_14 : decode cX3_hear 14 = .ok (.iload_n 2, 1) := by decide +kernel
theorem dX3_hear_15 : decode cX3_hear 15 = .ok (.i2l, 1) := by decide +kernel
theorem dX3_hear_16 : decode cX3_hear 16 = .ok (.lconst 0, 1) := by decide +kernel
theorem dX3_hear_17 : decode cX3_hear 17 = .ok (.ldc2_w 198, 3) := by decide +kernel
theorem dX3_hear_20 : decode cX3_hear 20 = .ok (.invokestatic 157, 3) := by decide +kernel
theorem dX3_hear_23 : decode cX3_hear 23 = .ok (.ifCond .ne 6, 3) := by decide +kernel
theorem dX3_hear_26 : decode cX3_hear 26 = .ok (.ldc 154, 2) := by decide +kernel
theorem dX3_hear_28 : decode cX3_hear 28 = .ok (.ireturn, 1) := by decide +kernel
theorem dX3_hear_29 : decode cX3_hear 29 = .ok (.aload_n 0, 1) := by decide +kernel
theorem dX3_hear_30 : decode cX3_hear 30 = .ok (.invokevirtual 179, 3) := by decide +kernel
theorem dX3_hear_33 : decode cX3_hear 33 = .ok (.aload_n 0, 1) := by decide +kernel
theorem dX3_hear_34 : decode cX3_hear 34 = .ok (.iload_n 1, 1) := by decide +kernel
theorem dX3_hear_35 : decode cX3_hear 35 = .ok (.i2l, 1) := by decide +kernel
theorem dX3_hear_36 : decode cX3_hear 36 = .ok (.iload_n 2, 1) := by decide +kernel
theorem dX3_hear_37 : decode cX3_hear 37 = .ok (.i2l, 1) := by decide +kernel
theorem dX3_hear_38 : decode cX3_hear 38 = .ok (.invokevirtual 200, 3) := by decide +kernel
theorem dX3_hear_41 : decode cX3_hear 41 = .ok (.ireturn, 1) := by decide +kernel
set_option maxRecDepth 20000 in
theorem ggX3_alarm_X3_in : GoodIn wsX3_alarm wsX3_in := goodIn_r _ [11] (by decide +kernel) (by decide +kernel)
set_option maxRecDepth 20000 in
theorem gX3_alarm_X3_in : GoodIn wsX3_alarm (va_wsS RX3 157 yX3_in wsX3_in) := goodIn_app (goodIn_of _ (by decide +kernel)) ggX3_alarm_X3_in
set_option maxRecDepth 20000 in
theorem ggX3_alarm_X3_notes : GoodIn wsX3_alarm wsX3_notes := goodIn_r _ [15, 16, 17, 6, 18, 19, 10, 20, 21, 22, 23, 24, 25, 26, 27, 28] (by decide +kernel) (by decide +kernel)
set_option maxRecDepth 20000 in
theorem gX3_alarm_X3_notes : GoodIn wsX3_alarm (wsV RX3 179 RX3 yX3_notes wsX3_notes) := goodIn_app (goodIn_of _ (by decide +kernel)) ggX3_alarm_X3_notes
theorem dX3_alarm_0 : decode cX3_alarm 0 = .ok (.iload_n 1, 1) := by decide +kernel
theorem dX3_alarm_1 : decode cX3_alarm 1 = .ok (.i2l, 1) := by decide +kernel
theorem dX3_alarm_2 : decode cX3_alarm 2 = .ok (.ldc2_w 35, 3) := by decide +kernel
theorem dX3_alarm_5 : decode cX3_alarm 5 = .ok (.ldc2_w 204, 3) := by decide +kernel
theorem dX3_alarm_8 : decode cX3_alarm 8 = .ok (.invokestatic 157, 3) := by decide +kernel
theorem dX3_alarm_11 : decode cX3_alarm 11 = .ok (.ifCond .eq 31, 3) := by decide +kernel
theorem dX3_alarm_14 : decode cX3_alarm 14 = .ok (.iload_n 2, 1) := by decide +kernel
theorem dX3_alarm_15 : decode cX3_alarm 15 = .ok (.i2l, 1) := by decide +kernel
theorem dX3_alarm_16 : decode cX3_alarm 16 = .ok (.ldc2_w 35, 3) := by decide +kernel
theorem dX3_alarm_19 : decode cX3_alarm 19 = .ok (.ldc2_w 206, 3) := by decide +kernel
theorem dX3_alarm_22 : decode cX3_alarm 22 = .ok (.invokestatic 157, 3) := by decide +kernel
theorem dX3_alarm_25 : decode cX3_alarm 25 = .ok (.ifCond .eq 17, 3) := by decide +kernel
theorem dX3_alarm_28 : decode cX3_alarm 28 = .ok (.iload_n 3, 1) := by decide +kernel
theorem dX3_alarm_29 : decode cX3_alarm 29 = .ok (.i2l, 1) := by decide +kernel
theorem dX3_alarm_30 : decode cX3_alarm 30 = .ok (.ldc2_w 35, 3) := by decide +kernel
theorem dX3_alarm_33 : decode cX3_alarm 33 = .ok (.ldc2_w 208, 3) := by decide +kernel
theorem dX3_alarm_36 : decode cX3_alarm 36 = .ok (.invokestatic 157, 3) := by decide +kernel
theorem dX3_alarm_39 : decode cX3_alarm 39 = .ok (.ifCond .ne 6, 3) := by decide +kernel
theorem dX3_alarm_42 : decode cX3_alarm 42 = .ok (.ldc 154, 2) := by decide +kernel
theorem dX3_alarm_44 : decode cX3_alarm 44 = .ok (.ireturn, 1) := by decide +kernel
theorem dX3_alarm_45 : decode cX3_alarm 45 = .ok (.aload_n 0, 1) := by decide +kernel
theorem dX3_alarm_46 : decode cX3_alarm 46 = .ok (.getfield 7, 3) := by decide +kernel
theorem dX3_alarm_49 : decode cX3_alarm 49 = .ok (.bipush 24, 2) := by decide +kernel
theorem dX3_alarm_51 : decode cX3_alarm 51 = .ok (.laload, 1) := by decide +kernel
theorem dX3_alarm_52 : decode cX3_alarm 52 = .ok (.ldc2_w 208, 3) := by decide +kernel
theorem dX3_alarm_55 : decode cX3_alarm 55 = .ok (.lcmp, 1) := by decide +kernel
theorem dX3_alarm_56 : decode cX3_alarm 56 = .ok (.ifCond .ne 6, 3) := by decide +kernel
theorem dX3_alarm_59 : decode cX3_alarm 59 = .ok (.ldc 210, 2) := by decide +kernel
theorem dX3_alarm_61 : decode cX3_alarm 61 = .ok (.ireturn, 1) := by decide +kernel
theorem dX3_alarm_62 : decode cX3_alarm 62 = .ok (.aload_n 0, 1) := by decide +kernel
theorem dX3_alarm_63 : decode cX3_alarm 63 = .ok (.invokevirtual 179, 3) := by decide +kernel
theorem dX3_alarm_66 : decode cX3_alarm 66 = .ok (.aload_n 0, 1) := by decide +kernel
theorem dX3_alarm_67 : decode cX3_alarm 67 = .ok (.getfield 7, 3) := by decide +kernel
theorem dX3_alarm_70 : decode cX3_alarm 70 = .ok (.bipush 24, 2) := by decide +kernel
theorem dX3_alarm_72 : decode cX3_alarm 72 = .ok (.laload, 1) := by decide +kernel
theorem dX3_alarm_73 : decode cX3_alarm 73 = .ok (.l2i, 1) := by decide +kernel
theorem dX3_alarm_74 : decode cX3_alarm 74 = .ok (.istore 4, 2) := by decide +kernel
theorem dX3_alarm_76 : decode cX3_alarm 76 = .ok (.bipush 25, 2) := by decide +kernel
theorem dX3_alarm_78 : decode cX3_alarm 78 = .ok (.iconst 4, 1) := by decide +kernel
theorem dX3_alarm_79 : decode cX3_alarm 79 = .ok (.iload 4, 2) := by decide +kernel
theorem dX3_alarm_81 : decode cX3_alarm 81 = .ok (.imul, 1) := by decide +kernel
theorem dX3_alarm_82 : decode cX3_alarm 82 = .ok (.iadd, 1) := by decide +kernel
theorem dX3_alarm_83 : decode cX3_alarm 83 = .ok (.istore 5, 2) := by decide +kernel
theorem dX3_alarm_85 : decode cX3_alarm 85 = .ok (.aload_n 0, 1) := by decide +kernel
theorem dX3_alarm_86 : decode cX3_alarm 86 = .ok (.getfield 7, 3) := by decide +kernel
theorem dX3_alarm_89 : decode cX3_alarm 89 = .ok (.iload 5, 2) := by decide +kernel
theorem dX3_alarm_91 : decode cX3_alarm 91 = .ok (.iload_n 1, 1) := by decide +kernel
theorem dX3_alarm_92 : decode cX3_alarm 92 = .ok (.i2l, 1) := by decide +kernel
theorem dX3_alarm_93 : decode cX3_alarm 93 = .ok (.lastore, 1) := by decide +kernel
theorem dX3_alarm_94 : decode cX3_alarm 94 = .ok (.aload_n 0, 1) := by decide +kernel
theorem dX3_alarm_95 : decode cX3_alarm 95 = .ok (.getfield 7, 3) := by decide +kernel
theorem dX3_alarm_98 : decode cX3_alarm 98 = .ok (.iload 5, 2) := by decide +kernel
theorem dX3_alarm_100 : decode cX3_alarm 100 = .ok (.iconst 1, 1) := by decide +kernel
theorem dX3_alarm_101 : decode cX3_alarm 101 = .ok (.iadd, 1) := by decide +kernel
theorem dX3_alarm_102 : decode cX3_alarm 102 = .ok (.iload_n 2, 1) := by decide +kernel
theorem dX3_alarm_103 : decode cX3_alarm 103 = .ok (.i2l, 1) := by decide +kernel
theorem dX3_alarm_104 : decode cX3_alarm 104 = .ok (.lastore, 1) := by decide +kernel
theorem dX3_alarm_105 : decode cX3_alarm 105 = .ok (.aload_n 0, 1) := by decide +kernel
theorem dX3_alarm_106 : decode cX3_alarm 106 = .ok (.getfield 7, 3) := by decide +kernel
theorem dX3_alarm_109 : decode cX3_alarm 109 = .ok (.iload 5, 2) := by decide +kernel
theorem dX3_alarm_111 : decode cX3_alarm 111 = .ok (.iconst 2, 1) := by decide +kernel
theorem dX3_alarm_112 : decode cX3_alarm 112 = .ok (.iadd, 1) := by decide +kernel
theorem dX3_alarm_113 : decode cX3_alarm 113 = .ok (.iload_n 3, 1) := by decide +kernel
theorem dX3_alarm_114 : decode cX3_alarm 114 = .ok (.i2l, 1) := by decide +kernel
theorem dX3_alarm_115 : decode cX3_alarm 115 = .ok (.lastore, 1) := by decide +kernel
theorem dX3_alarm_116 : decode cX3_alarm 116 = .ok (.aload_n 0, 1) := by decide +kernel
theorem dX3_alarm_117 : decode cX3_alarm 117 = .ok (.getfield 7, 3) := by decide +kernel
theorem dX3_alarm_120 : decode cX3_alarm 120 = .ok (.iload 5, 2) := by decide +kernel
theorem dX3_alarm_122 : decode cX3_alarm 122 = .ok (.iconst 3, 1) := by decide +kernel
theorem dX3_alarm_123 : decode cX3_alarm 123 = .ok (.iadd, 1) := by decide +kernel
theorem dX3_alarm_124 : decode cX3_alarm 124 = .ok (.lconst 0, 1) := by decide +kernel
theorem dX3_alarm_125 : decode cX3_alarm 125 = .ok (.lastore, 1) := by decide +kernel
theorem dX3_alarm_126 : decode cX3_alarm 126 = .ok (.aload_n 0, 1) := by decide +kernel
theorem dX3_alarm_127 : decode cX3_alarm 127 = .ok (.getfield 7, 3) := by decide +kernel
theorem dX3_alarm_130 : decode cX3_alarm 130 = .ok (.bipush 24, 2) := by decide +kernel
theorem dX3_alarm_132 : decode cX3_alarm 132 = .ok (.dup2, 1) := by decide +kernel
theorem dX3_alarm_133 : decode cX3_alarm 133 = .ok (.laload, 1) := by decide +kernel
theorem dX3_alarm_134 : decode cX3_alarm 134 = .ok (.lconst 1, 1) := by decide +kernel
theorem dX3_alarm_135 : decode cX3_alarm 135 = .ok (.ladd, 1) := by decide +kernel
theorem dX3_alarm_136 : decode cX3_alarm 136 = .ok (.lastore, 1) := by decide +kernel
theorem dX3_alarm_137 : decode cX3_alarm 137 = .ok (.iload 4, 2) := by decide +kernel
theorem dX3_alarm_139 : decode cX3_alarm 139 = .ok (.ireturn, 1) := by decide +kernel
set_option maxRecDepth 20000 in
theorem ggX3_drop_X3_isAlarm : GoodIn wsX3_drop wsX3_isAlarm := goodIn_r _ [7, 2, 8, 9, 6, 10, 20, 21, 22, 23, 24, 25, 26, 27] (by decide +kernel) (by decide +kernel)
set_option maxRecDepth 20000 in
theorem gX3_drop_X3_isAlarm : GoodIn wsX3_drop (wsV RX3 168 RX3 yX3_isAlarm wsX3_isAlarm) := goodIn_app (goodIn_of _ (by decide +kernel)) ggX3_drop_X3_isAlarm
set_option maxRecDepth 20000 in
theorem ggX3_drop_X3_notes : GoodIn wsX3_drop wsX3_notes := goodIn_r _ [14, 15, 16, 2, 17, 18, 6, 19, 20, 21, 22, 23, 24, 25, 26, 27] (by decide +kernel) (by decide +kernel)
set_option maxRecDepth 20000 in
theorem gX3_drop_X3_notes : GoodIn wsX3_drop (wsV RX3 179 RX3 yX3_notes wsX3_notes) := goodIn_app (goodIn_of _ (by decide +kernel)) ggX3_drop_X3_notes
set_option maxRecDepth 20000 in
theorem ggX3_drop_X3_bring : GoodIn wsX3_drop wsX3_bring := goodIn_r _ [19] (by decide +kernel) (by decide +kernel)
set_option maxRecDepth 20000 in
theorem gX3_drop_X3_bring : GoodIn wsX3_drop (va_wsS RX3 175 yX3_bring wsX3_bring) := goodIn_app (goodIn_of _ (by decide +kernel)) ggX3_drop_X3_bring
theorem dX3_drop_0 : decode cX3_drop 0 = .ok (.aload_n 0, 1) := by decide +kernel
theorem dX3_drop_1 : decode cX3_drop 1 = .ok (.iload_n 1, 1) := by decide +kernel
theorem dX3_drop_2 : decode cX3_drop 2 = .ok (.invokevirtual 168, 3) := by decide +kernel
theorem dX3_drop_5 : decode cX3_drop 5 = .ok (.ifCond .ne 6, 3) := by decide +kernel
theorem dX3_drop_8 : decode cX3_drop 8 = .ok (.ldc 161, 2) := by decide +kernel
theorem dX3_drop_10 : decode cX3_drop 10 = .ok (.ireturn, 1) := by decide +kernel
theorem dX3_drop_11 : decode cX3_drop 11 = .ok (.aload_n 0, 1) := by decide +kernel
theorem dX3_drop_12 : decode cX3_drop 12 = .ok (.invokevirtual 179, 3) := by decide +kernel
theorem dX3_drop_15 : decode cX3_drop 15 = .ok (.aload_n 0, 1) := by decide +kernel
theorem dX3_drop_16 : decode cX3_drop 16 = .ok (.getfield 7, 3) := by decide +kernel
theorem dX3_drop_19 : decode cX3_drop 19 = .ok (.bipush 24, 2) := by decide +kernel
theorem dX3_drop_21 : decode cX3_drop 21 = .ok (.dup2, 1) := by decide +kernel
theorem dX3_drop_22 : decode cX3_drop 22 = .ok (.laload, 1) := by decide +kernel
theorem dX3_drop_23 : decode cX3_drop 23 = .ok (.lconst 1, 1) := by decide +kernel
theorem dX3_drop_24 : decode cX3_drop 24 = .ok (.lsub, 1) := by decide +kernel
theorem dX3_drop_25 : decode cX3_drop 25 = .ok (.lastore, 1) := by decide +kernel
theorem dX3_drop_26 : decode cX3_drop 26 = .ok (.aload_n 0, 1) := by decide +kernel
theorem dX3_drop_27 : decode cX3_drop 27 = .ok (.getfield 7, 3) := by decide +kernel
theorem dX3_drop_30 : decode cX3_drop 30 = .ok (.bipush 24, 2) := by decide +kernel
theorem dX3_drop_32 : decode cX3_drop 32 = .ok (.laload, 1) := by decide +kernel
theorem dX3_drop_33 : decode cX3_drop 33 = .ok (.l2i, 1) := by decide +kernel
theorem dX3_drop_34 : decode cX3_drop 34 = .ok (.istore_n 2, 1) := by decide +kernel
theorem dX3_drop_35 : decode cX3_drop 35 = .ok (.bipush 25, 2) := by decide +kernel
theorem dX3_drop_37 : decode cX3_drop 37 = .ok (.iconst 4, 1) := by decide +kernel
theorem dX3_drop_38 : decode cX3_drop 38 = .ok (.iload_n 1, 1) := by decide +kernel
theorem dX3_drop_39 : decode cX3_drop 39 = .ok (.imul, 1) := by decide +kernel
theorem dX3_drop_40 : decode cX3_drop 40 = .ok (.iadd, 1) := by decide +kernel
theorem dX3_drop_41 : decode cX3_drop 41 = .ok (.istore_n 3, 1) := by decide +kernel
theorem dX3_drop_42 : decode cX3_drop 42 = .ok (.aload_n 0, 1) := by decide +kernel
theorem dX3_drop_43 : decode cX3_drop 43 = .ok (.getfield 7, 3) := by decide +kernel
theorem dX3_drop_46 : decode cX3_drop 46 = .ok (.iload_n 3, 1) := by decide +kernel
theorem dX3_drop_47 : decode cX3_drop 47 = .ok (.iconst 4, 1) := by decide +kernel
theorem dX3_drop_48 : decode cX3_drop 48 = .ok (.iadd, 1) := by decide +kernel
theorem dX3_drop_49 : decode cX3_drop 49 = .ok (.aload_n 0, 1) := by decide +kernel
theorem dX3_drop_50 : decode cX3_drop 50 = .ok (.getfield 7, 3) := by decide +kernel
theorem dX3_drop_53 : decode cX3_drop 53 = .ok (.iload_n 3, 1) := by decide +kernel
theorem dX3_drop_54 : decode cX3_drop 54 = .ok (.iconst 4, 1) := by decide +kernel
theorem dX3_drop_55 : decode cX3_drop 55 = .ok (.iload_n 2, 1) := by decide +kernel
theorem dX3_drop_56 : decode cX3_drop 56 = .ok (.iload_n 1, 1) := by decide +kernel
theorem dX3_drop_57 : decode cX3_drop 57 = .ok (.isub, 1) := by decide +kernel
theorem dX3_drop_58 : decode cX3_drop 58 = .ok (.imul, 1) := by decide +kernel
theorem dX3_drop_59 : decode cX3_drop 59 = .ok (.invokestatic 175, 3) := by decide +kernel
theorem dX3_drop_62 : decode cX3_drop 62 = .ok (.iload_n 2, 1) := by decide +kernel
theorem dX3_drop_63 : decode cX3_drop 63 = .ok (.ireturn, 1) := by decide +kernel
set_option maxRecDepth 20000 in
theorem ggX3_learn_X3_in : GoodIn wsX3_learn wsX3_in := goodIn_r _ [10] (by decide +kernel) (by decide +kernel)
set_option maxRecDepth 20000 in
theorem gX3_learn_X3_in : GoodIn wsX3_learn (va_wsS RX3 157 yX3_in wsX3_in) := goodIn_app (goodIn_of _ (by decide +kernel)) ggX3_learn_X3_in
set_option maxRecDepth 20000 in
theorem ggX3_learn_X3_notes : GoodIn wsX3_learn wsX3_notes := goodIn_r _ [14, 15, 16, 6, 17, 18, 9, 19, 20, 21, 22, 23, 24, 25, 26, 27] (by decide +kernel) (by decide +kernel)
set_option maxRecDepth 20000 in
theorem gX3_learn_X3_notes : GoodIn wsX3_learn (wsV RX3 179 RX3 yX3_notes wsX3_notes) := goodIn_app (goodIn_of _ (by decide +kernel)) ggX3_learn_X3_notes
theorem dX3_learn_0 : decode cX3_learn 0 = .ok (.iload_n 1, 1) := by decide +kernel
theorem dX3_learn_1 : decode cX3_learn 1 = .ok (.i2l, 1) := by decide +kernel
theorem dX3_learn_2 : decode cX3_learn 2 = .ok (.lconst 0, 1) := by decide +kernel
theorem dX3_learn_3 : decode cX3_learn 3 = .ok (.ldc2_w 155, 3) := by decide +kernel
theorem dX3_learn_6 : decode cX3_learn 6 = .ok (.invokestatic 157, 3) := by decide +kernel
theorem dX3_learn_9 : decode cX3_learn 9 = .ok (.ifCond .ne 6, 3) := by decide +kernel
theorem dX3_learn_12 : decode cX3_learn 12 = .ok (.ldc 161, 2) := by decide +kernel
theorem dX3_learn_14 : decode cX3_learn 14 = .ok (.ireturn, 1) := by decide +kernel
theorem dX3_learn_15 : decode cX3_learn 15 = .ok (.iload_n 2, 1) := by decide +kernel
theorem dX3_learn_16 : decode cX3_learn 16 = .ok (.i2l, 1) := by decide +kernel
theorem dX3_learn_17 : decode cX3_learn 17 = .ok (.ldc2_w 119, 3) := by decide +kernel
theorem dX3_learn_20 : decode cX3_learn 20 = .ok (.ldc2_w 121, 3) := by decide +kernel
theorem dX3_learn_23 : decode cX3_learn 23 = .ok (.invokestatic 157, 3) := by decide +kernel
theorem dX3_learn_26 : decode cX3_learn 26 = .ok (.ifCond .ne 6, 3) := by decide +kernel
theorem dX3_learn_29 : decode cX3_learn 29 = .ok (.ldc 154, 2) := by decide +kernel
theorem dX3_learn_31 : decode cX3_learn 31 = .ok (.ireturn, 1) := by decide +kernel
theorem dX3_learn_32 : decode cX3_learn 32 = .ok (.aload_n 0, 1) := by decide +kernel
theorem dX3_learn_33 : decode cX3_learn 33 = .ok (.getfield 7, 3) := by decide +kernel
theorem dX3_learn_36 : decode cX3_learn 36 = .ok (.bipush 15, 2) := by decide +kernel
theorem dX3_learn_38 : decode cX3_learn 38 = .ok (.iload_n 1, 1) := by decide +kernel
theorem dX3_learn_39 : decode cX3_learn 39 = .ok (.iadd, 1) := by decide +kernel
theorem dX3_learn_40 : decode cX3_learn 40 = .ok (.laload, 1) := by decide +kernel
theorem dX3_learn_41 : decode cX3_learn 41 = .ok (.l2i, 1) := by decide +kernel
theorem dX3_learn_42 : decode cX3_learn 42 = .ok (.istore_n 3, 1) := by decide +kernel
theorem dX3_learn_43 : decode cX3_learn 43 = .ok (.aload_n 0, 1) := by decide +kernel
theorem dX3_learn_44 : decode cX3_learn 44 = .ok (.invokevirtual 179, 3) := by decide +kernel
theorem dX3_learn_47 : decode cX3_learn 47 = .ok (.aload_n 0, 1) := by decide +kernel
theorem dX3_learn_48 : decode cX3_learn 48 = .ok (.getfield 7, 3) := by decide +kernel
theorem dX3_learn_51 : decode cX3_learn 51 = .ok (.bipush 15, 2) := by decide +kernel
theorem dX3_learn_53 : decode cX3_learn 53 = .ok (.iload_n 1, 1) := by decide +kernel
theorem dX3_learn_54 : decode cX3_learn 54 = .ok (.iadd, 1) := by decide +kernel
theorem dX3_learn_55 : decode cX3_learn 55 = .ok (.iload_n 2, 1) := by decide +kernel
theorem dX3_learn_56 : decode cX3_learn 56 = .ok (.i2l, 1) := by decide +kernel
theorem dX3_learn_57 : decode cX3_learn 57 = .ok (.lastore, 1) := by decide +kernel
theorem dX3_learn_58 : decode cX3_learn 58 = .ok (.iload_n 3, 1) := by decide +kernel
theorem dX3_learn_59 : decode cX3_learn 59 = .ok (.sipush 10000, 3) := by decide +kernel
theorem dX3_learn_62 : decode cX3_learn 62 = .ok (.iadd, 1) := by decide +kernel
theorem dX3_learn_63 : decode cX3_learn 63 = .ok (.ireturn, 1) := by decide +kernel
theorem dX3_draw_0 : decode cX3_draw 0 = .ok (.aload_n 0, 1) := by decide +kernel
theorem dX3_draw_1 : decode cX3_draw 1 = .ok (.aload_n 0, 1) := by decide +kernel
theorem dX3_draw_2 : decode cX3_draw 2 = .ok (.getfield 211, 3) := by decide +kernel
theorem dX3_draw_5 : decode cX3_draw 5 = .ok (.ldc2_w 215, 3) := by decide +kernel
theorem dX3_draw_8 : decode cX3_draw 8 = .ok (.lmul, 1) := by decide +kernel
theorem dX3_draw_9 : decode cX3_draw 9 = .ok (.ldc2_w 217, 3) := by decide +kernel
theorem dX3_draw_12 : decode cX3_draw 12 = .ok (.ladd, 1) := by decide +kernel
theorem dX3_draw_13 : decode cX3_draw 13 = .ok (.ldc2_w 219, 3) := by decide +kernel
theorem dX3_draw_16 : decode cX3_draw 16 = .ok (.lrem, 1) := by decide +kernel
theorem dX3_draw_17 : decode cX3_draw 17 = .ok (.putfield 211, 3) := by decide +kernel
theorem dX3_draw_20 : decode cX3_draw 20 = .ok (.aload_n 0, 1) := by decide +kernel
theorem dX3_draw_21 : decode cX3_draw 21 = .ok (.getfield 211, 3) := by decide +kernel
theorem dX3_draw_24 : decode cX3_draw 24 = .ok (.ldc2_w 221, 3) := by decide +kernel
theorem dX3_draw_27 : decode cX3_draw 27 = .ok (.ldiv, 1) := by decide +kernel
theorem dX3_draw_28 : decode cX3_draw 28 = .ok (.iload_n 1, 1) := by decide +kernel
theorem dX3_draw_29 : decode cX3_draw 29 = .ok (.i2l, 1) := by decide +kernel
theorem dX3_draw_30 : decode cX3_draw 30 = .ok (.lrem, 1) := by decide +kernel
theorem dX3_draw_31 : decode cX3_draw 31 = .ok (.lreturn, 1) := by decide +kernel
set_option maxRecDepth 20000 in
theorem ggX3_drift_X3_in : GoodIn wsX3_drift wsX3_in := goodIn_r _ [8] (by decide +kernel) (by decide +kernel)
set_option maxRecDepth 20000 in
theorem gX3_drift_X3_in : GoodIn wsX3_drift (va_wsS RX3 157 yX3_in wsX3_in) := goodIn_app (goodIn_of _ (by decide +kernel)) ggX3_drift_X3_in
set_option maxRecDepth 20000 in
theorem ggX3_drift_X3_draw : GoodIn wsX3_drift wsX3_draw := goodIn_r _ [12, 13, 14, 15, 16, 17, 123, 124, 125, 126, 127, 128, 129, 130] (by decide +kernel) (by decide +kernel)
set_option maxRecDepth 20000 in
theorem gX3_drift_X3_draw : GoodIn wsX3_drift (wsV RX3 223 RX3 yX3_draw wsX3_draw) := goodIn_app (goodIn_of _ (by decide +kernel)) ggX3_drift_X3_draw
set_option maxRecDepth 20000 in
theorem ggX3_drift_X3_notes : GoodIn wsX3_drift wsX3_notes := goodIn_r _ [21, 22, 23, 4, 24, 25, 7, 26, 123, 124, 125, 126, 127, 128, 129, 130] (by decide +kernel) (by decide +kernel)
set_option maxRecDepth 20000 in
theorem gX3_drift_X3_notes : GoodIn wsX3_drift (wsV RX3 179 RX3 yX3_notes wsX3_notes) := goodIn_app (goodIn_of _ (by decide +kernel)) ggX3_drift_X3_notes
set_option maxRecDepth 20000 in
theorem ggX3_drift_X3_hears : GoodIn wsX3_drift wsX3_hears := goodIn_r _ [30, 4, 31, 32, 33, 34, 35, 36, 7, 37, 38, 39, 40, 41, 42, 43, 44, 45, 46, 47, 48, 49, 50, 51, 52, 53, 54, 55, 56, 57, 123, 124, 125, 126, 127, 128, 129, 130] (by decide +kernel) (by decide +kernel)
set_option maxRecDepth 20000 in
theorem gX3_drift_X3_hears : GoodIn wsX3_drift (wsV RX3 200 RX3 yX3_hears wsX3_hears) := goodIn_app (goodIn_of _ (by decide +kernel)) ggX3_drift_X3_hears
set_option maxRecDepth 20000 in
theorem ggX3_drift_X3_goes : GoodIn wsX3_drift wsX3_goes := goodIn_r _ [61, 4, 62, 63, 64, 38, 65, 66, 67, 7, 68, 69, 70, 71, 72, 73, 74, 75, 76, 77, 31, 78, 79, 80, 81, 1, 82, 52, 53, 54, 83, 84, 85, 86, 55, 56, 57, 46, 47, 48, 87, 88, 89, 90, 91, 92, 93, 94, 95, 96, 97, 98, 99, 100, 101, 102, 103, 104, 105, 33, 106, 107, 108, 109, 110, 111, 112, 113, 114, 115, 116, 117, 118, 123, 124, 125, 126, 127, 128, 129, 130] (by decide +kernel) (by decide +kernel)
set_option maxRecDepth 20000 in
theorem gX3_drift_X3_goes : GoodIn wsX3_drift (wsV RX3 182 RX3 yX3_goes wsX3_goes) := goodIn_app (goodIn_of _ (by decide +kernel)) ggX3_drift_X3_goes
set_option maxRecDepth 20000 in
theorem ggX3_drift_X3_allRings : GoodIn wsX3_drift wsX3_allRings := goodIn_r _ [122, 4, 106, 107, 108, 7, 109, 123, 124, 125, 126, 127, 128, 129, 130] (by decide +kernel) (by decide +kernel)
set_option maxRecDepth 20000 in
theorem gX3_drift_X3_allRings : GoodIn wsX3_drift (wsV RX3 142 RX3 yX3_allRings wsX3_allRings) := goodIn_app (goodIn_of _ (by decide +kernel)) ggX3_drift_X3_allRings
theorem dX3_drift_0 : decode cX3_drift 0 = .ok (.iload_n 1, 1) := by decide +kernel
theorem dX3_drift_1 : decode cX3_drift 1 = .ok (.i2l, 1) := by decide +kernel
theorem dX3_drift_2 : decode cX3_drift 2 = .ok (.lconst 1, 1) := by decide +kernel
theorem dX3_drift_3 : decode cX3_drift 3 = .ok (.ldc2_w 31, 3) := by decide +kernel
theorem dX3_drift_6 : decode cX3_drift 6 = .ok (.invokestatic 157, 3) := by decide +kernel
theorem dX3_drift_9 : decode cX3_drift 9 = .ok (.ifCond .ne 6, 3) := by decide +kernel
theorem dX3_drift_12 : decode cX3_drift 12 = .ok (.ldc 154, 2) := by decide +kernel
theorem dX3_drift_14 : decode cX3_drift 14 = .ok (.ireturn, 1) := by decide +kernel
theorem dX3_drift_15 : decode cX3_drift 15 = .ok (.iconst 0, 1) := by decide +kernel
theorem dX3_drift_16 : decode cX3_drift 16 = .ok (.istore_n 2, 1) := by decide +kernel
theorem dX3_drift_17 : decode cX3_drift 17 = .ok (.iload_n 2, 1) := by decide +kernel
theorem dX3_drift_18 : decode cX3_drift 18 = .ok (.iload_n 1, 1) := by decide +kernel
theorem dX3_drift_19 : decode cX3_drift 19 = .ok (.if_icmp .ge 87, 3) := by decide +kernel
theorem dX3_drift_22 : decode cX3_drift 22 = .ok (.aload_n 0, 1) := by decide +kernel
theorem dX3_drift_23 : decode cX3_drift 23 = .ok (.bipush 8, 2) := by decide +kernel
theorem dX3_drift_25 : decode cX3_drift 25 = .ok (.invokevirtual 223, 3) := by decide +kernel
theorem dX3_drift_28 : decode cX3_drift 28 = .ok (.lstore_n 3, 1) := by decide +kernel
theorem dX3_drift_29 : decode cX3_drift 29 = .ok (.aload_n 0, 1) := by decide +kernel
theorem dX3_drift_30 : decode cX3_drift 30 = .ok (.bipush 90, 2) := by decide +kernel
theorem dX3_drift_32 : decode cX3_drift 32 = .ok (.invokevirtual 223, 3) := by decide +kernel
theorem dX3_drift_35 : decode cX3_drift 35 = .ok (.ldc2_w 31, 3) := by decide +kernel
theorem dX3_drift_38 : decode cX3_drift 38 = .ok (.lsub, 1) := by decide +kernel
theorem dX3_drift_39 : decode cX3_drift 39 = .ok (.lstore 5, 2) := by decide +kernel
theorem dX3_drift_41 : decode cX3_drift 41 = .ok (.aload_n 0, 1) := by decide +kernel
theorem dX3_drift_42 : decode cX3_drift 42 = .ok (.sipush 1001, 3) := by decide +kernel
theorem dX3_drift_45 : decode cX3_drift 45 = .ok (.invokevirtual 223, 3) := by decide +kernel
theorem dX3_drift_48 : decode cX3_drift 48 = .ok (.ldc2_w 226, 3) := by decide +kernel
theorem dX3_drift_51 : decode cX3_drift 51 = .ok (.lsub, 1) := by decide +kernel
theorem dX3_drift_52 : decode cX3_drift 52 = .ok (.lstore 7, 2) := by decide +kernel
theorem dX3_drift_54 : decode cX3_drift 54 = .ok (.aload_n 0, 1) := by decide +kernel
theorem dX3_drift_55 : decode cX3_drift 55 = .ok (.invokevirtual 179, 3) := by decide +kernel
theorem dX3_drift_58 : decode cX3_drift 58 = .ok (.lload_n 3, 1) := by decide +kernel
theorem dX3_drift_59 : decode cX3_drift 59 = .ok (.lconst 0, 1) := by decide +kernel
theorem dX3_drift_60 : decode cX3_drift 60 = .ok (.lcmp, 1) := by decide +kernel
theorem dX3_drift_61 : decode cX3_drift 61 = .ok (.ifCond .ne 14, 3) := by decide +kernel
theorem dX3_drift_64 : decode cX3_drift 64 = .ok (.aload_n 0, 1) := by decide +kernel
theorem dX3_drift_65 : decode cX3_drift 65 = .ok (.getfield 7, 3) := by decide +kernel
theorem dX3_drift_68 : decode cX3_drift 68 = .ok (.iconst 4, 1) := by decide +kernel
theorem dX3_drift_69 : decode cX3_drift 69 = .ok (.lload 5, 2) := by decide +kernel
theorem dX3_drift_71 : decode cX3_drift 71 = .ok (.lastore, 1) := by decide +kernel
theorem dX3_drift_72 : decode cX3_drift 72 = .ok (.goto 28, 3) := by decide +kernel
theorem dX3_drift_75 : decode cX3_drift 75 = .ok (.lload_n 3, 1) := by decide +kernel
theorem dX3_drift_76 : decode cX3_drift 76 = .ok (.lconst 1, 1) := by decide +kernel
theorem dX3_drift_77 : decode cX3_drift 77 = .ok (.lcmp, 1) := by decide +kernel
theorem dX3_drift_78 : decode cX3_drift 78 = .ok (.ifCond .ne 16, 3) := by decide +kernel
theorem dX3_drift_81 : decode cX3_drift 81 = .ok (.aload_n 0, 1) := by decide +kernel
theorem dX3_drift_82 : decode cX3_drift 82 = .ok (.lload 7, 2) := by decide +kernel
theorem dX3_drift_84 : decode cX3_drift 84 = .ok (.ldc2_w 226, 3) := by decide +kernel
theorem dX3_drift_87 : decode cX3_drift 87 = .ok (.invokevirtual 200, 3) := by decide +kernel
theorem dX3_drift_90 : decode cX3_drift 90 = .ok (.pop, 1) := by decide +kernel
theorem dX3_drift_91 : decode cX3_drift 91 = .ok (.goto 9, 3) := by decide +kernel
theorem dX3_drift_94 : decode cX3_drift 94 = .ok (.aload_n 0, 1) := by decide +kernel
theorem dX3_drift_95 : decode cX3_drift 95 = .ok (.iconst 1, 1) := by decide +kernel
theorem dX3_drift_96 : decode cX3_drift 96 = .ok (.invokevirtual 182, 3) := by decide +kernel
theorem dX3_drift_99 : decode cX3_drift 99 = .ok (.pop, 1) := by decide +kernel
theorem dX3_drift_100 : decode cX3_drift 100 = .ok (.iinc 2 1, 3) := by decide +kernel
theorem dX3_drift_103 : decode cX3_drift 103 = .ok (.goto (-86), 3) := by decide +kernel
theorem dX3_drift_106 : decode cX3_drift 106 = .ok (.aload_n 0, 1) := by decide +kernel
theorem dX3_drift_107 : decode cX3_drift 107 = .ok (.invokevirtual 142, 3) := by decide +kernel
theorem dX3_drift_110 : decode cX3_drift 110 = .ok (.l2i, 1) := by decide +kernel
theorem dX3_drift_111 : decode cX3_drift 111 = .ok (.ireturn, 1) := by decide +kernel
set_option maxRecDepth 20000 in
theorem ggX3_undo_X3_in : GoodIn wsX3_undo wsX3_in := goodIn_r _ [10] (by decide +kernel) (by decide +kernel)
set_option maxRecDepth 20000 in
theorem gX3_undo_X3_in : GoodIn wsX3_undo (va_wsS RX3 157 yX3_in wsX3_in) := goodIn_app (goodIn_of _ (by decide +kernel)) ggX3_undo_X3_in
set_option maxRecDepth 20000 in
theorem ggX3_undo_X3_bring : GoodIn wsX3_undo wsX3_bring := goodIn_r _ [13] (by decide +kernel) (by decide +kernel)
set_option maxRecDepth 20000 in
theorem gX3_undo_X3_bring : GoodIn wsX3_undo (va_wsS RX3 175 yX3_bring wsX3_bring) := goodIn_app (goodIn_of _ (by decide +kernel)) ggX3_undo_X3_bring
theorem dX3_undo_0 : decode cX3_undo 0 = .ok (.iload_n 1, 1) := by decide +kernel
theorem dX3_undo_1 : decode cX3_undo 1 = .ok (.i2l, 1) := by decide +kernel
theorem dX3_undo_2 : decode cX3_undo 2 = .ok (.lconst 1, 1) := by decide +kernel
theorem dX3_undo_3 : decode cX3_undo 3 = .ok (.ldc2_w 31, 3) := by decide +kernel
theorem dX3_undo_6 : decode cX3_undo 6 = .ok (.invokestatic 157, 3) := by decide +kernel
theorem dX3_undo_9 : decode cX3_undo 9 = .ok (.ifCond .ne 6, 3) := by decide +kernel
theorem dX3_undo_12 : decode cX3_undo 12 = .ok (.ldc 154, 2) := by decide +kernel
theorem dX3_undo_14 : decode cX3_undo 14 = .ok (.ireturn, 1) := by decide +kernel
theorem dX3_undo_15 : decode cX3_undo 15 = .ok (.iload_n 1, 1) := by decide +kernel
theorem dX3_undo_16 : decode cX3_undo 16 = .ok (.aload_n 0, 1) := by decide +kernel
theorem dX3_undo_17 : decode cX3_undo 17 = .ok (.getfield 151, 3) := by decide +kernel
theorem dX3_undo_20 : decode cX3_undo 20 = .ok (.if_icmp .le 6, 3) := by decide +kernel
theorem dX3_undo_23 : decode cX3_undo 23 = .ok (.ldc 228, 2) := by decide +kernel
theorem dX3_undo_25 : decode cX3_undo 25 = .ok (.ireturn, 1) := by decide +kernel
theorem dX3_undo_26 : decode cX3_undo 26 = .ok (.aload_n 0, 1) := by decide +kernel
theorem dX3_undo_27 : decode cX3_undo 27 = .ok (.dup, 1) := by decide +kernel
theorem dX3_undo_28 : decode cX3_undo 28 = .ok (.getfield 151, 3) := by decide +kernel
theorem dX3_undo_31 : decode cX3_undo 31 = .ok (.iload_n 1, 1) := by decide +kernel
theorem dX3_undo_32 : decode cX3_undo 32 = .ok (.isub, 1) := by decide +kernel
theorem dX3_undo_33 : decode cX3_undo 33 = .ok (.putfield 151, 3) := by decide +kernel
theorem dX3_undo_36 : decode cX3_undo 36 = .ok (.aload_n 0, 1) := by decide +kernel
theorem dX3_undo_37 : decode cX3_undo 37 = .ok (.getfield 13, 3) := by decide +kernel
theorem dX3_undo_40 : decode cX3_undo 40 = .ok (.bipush 49, 2) := by decide +kernel
theorem dX3_undo_42 : decode cX3_undo 42 = .ok (.aload_n 0, 1) := by decide +kernel
theorem dX3_undo_43 : decode cX3_undo 43 = .ok (.getfield 151, 3) := by decide +kernel
theorem dX3_undo_46 : decode cX3_undo 46 = .ok (.imul, 1) := by decide +kernel
theorem dX3_undo_47 : decode cX3_undo 47 = .ok (.aload_n 0, 1) := by decide +kernel
theorem dX3_undo_48 : decode cX3_undo 48 = .ok (.getfield 7, 3) := by decide +kernel
theorem dX3_undo_51 : decode cX3_undo 51 = .ok (.iconst 0, 1) := by decide +kernel
theorem dX3_undo_52 : decode cX3_undo 52 = .ok (.bipush 49, 2) := by decide +kernel
theorem dX3_undo_54 : decode cX3_undo 54 = .ok (.invokestatic 175, 3) := by decide +kernel
theorem dX3_undo_57 : decode cX3_undo 57 = .ok (.aload_n 0, 1) := by decide +kernel
theorem dX3_undo_58 : decode cX3_undo 58 = .ok (.getfield 151, 3) := by decide +kernel
theorem dX3_undo_61 : decode cX3_undo 61 = .ok (.ireturn, 1) := by decide +kernel
set_option maxRecDepth 20000 in
theorem ggX3_evenly_X3_in : GoodIn wsX3_evenly wsX3_in := goodIn_r _ [6] (by decide +kernel) (by decide +kernel)
set_option maxRecDepth 20000 in
theorem gX3_evenly_X3_in : GoodIn wsX3_evenly (va_wsS RX3 157 yX3_in wsX3_in) := goodIn_app (goodIn_of _ (by decide +kernel)) ggX3_evenly_X3_in
theorem dX3_evenly_0 : decode cX3_evenly 0 = .ok (.iload_n 1, 1) := by decide +kernel
theorem dX3_evenly_1 : decode cX3_evenly 1 = .ok (.i2l, 1) := by decide +kernel
theorem dX3_evenly_2 : decode cX3_evenly 2 = .ok (.lconst 1, 1) := by decide +kernel
theorem dX3_evenly_3 : decode cX3_evenly 3 = .ok (.ldc2_w 196, 3) := by decide +kernel
theorem dX3_evenly_6 : decode cX3_evenly 6 = .ok (.invokestatic 157, 3) := by decide +kernel
theorem dX3_evenly_9 : decode cX3_evenly 9 = .ok (.ifCond .eq 27, 3) := by decide +kernel
theorem dX3_evenly_12 : decode cX3_evenly 12 = .ok (.iload_n 2, 1) := by decide +kernel
theorem dX3_evenly_13 : decode cX3_evenly 13 = .ok (.i2l, 1) := by decide +kernel
theorem dX3_evenly_14 : decode cX3_evenly 14 = .ok (.lconst 0, 1) := by decide +kernel
theorem dX3_evenly_15 : decode cX3_evenly 15 = .ok (.iload_n 1, 1) := by decide +kernel
theorem dX3_evenly_16 : decode cX3_evenly 16 = .ok (.i2l, 1) := by decide +kernel
theorem dX3_evenly_17 : decode cX3_evenly 17 = .ok (.invokestatic 157, 3) := by decide +kernel
theorem dX3_evenly_20 : decode cX3_evenly 20 = .ok (.ifCond .eq 16, 3) := by decide +kernel
theorem dX3_evenly_23 : decode cX3_evenly 23 = .ok (.iload_n 3, 1) := by decide +kernel
theorem dX3_evenly_24 : decode cX3_evenly 24 = .ok (.i2l, 1) := by decide +kernel
theorem dX3_evenly_25 : decode cX3_evenly 25 = .ok (.lconst 0, 1) := by decide +kernel
theorem dX3_evenly_26 : decode cX3_evenly 26 = .ok (.iload_n 1, 1) := by decide +kernel
theorem dX3_evenly_27 : decode cX3_evenly 27 = .ok (.iconst 1, 1) := by decide +kernel
theorem dX3_evenly_28 : decode cX3_evenly 28 = .ok (.isub, 1) := by decide +kernel
theorem dX3_evenly_29 : decode cX3_evenly 29 = .ok (.i2l, 1) := by decide +kernel
theorem dX3_evenly_30 : decode cX3_evenly 30 = .ok (.invokestatic 157, 3) := by decide +kernel
theorem dX3_evenly_33 : decode cX3_evenly 33 = .ok (.ifCond .ne 6, 3) := by decide +kernel
theorem dX3_evenly_36 : decode cX3_evenly 36 = .ok (.ldc 154, 2) := by decide +kernel
theorem dX3_evenly_38 : decode cX3_evenly 38 = .ok (.ireturn, 1) := by decide +kernel
theorem dX3_evenly_39 : decode cX3_evenly 39 = .ok (.iload_n 3, 1) := by decide +kernel
theorem dX3_evenly_40 : decode cX3_evenly 40 = .ok (.iload_n 2, 1) := by decide +kernel
theorem dX3_evenly_41 : decode cX3_evenly 41 = .ok (.imul, 1) := by decide +kernel
theorem dX3_evenly_42 : decode cX3_evenly 42 = .ok (.iload_n 1, 1) := by decide +kernel
theorem dX3_evenly_43 : decode cX3_evenly 43 = .ok (.irem, 1) := by decide +kernel
theorem dX3_evenly_44 : decode cX3_evenly 44 = .ok (.iload_n 2, 1) := by decide +kernel
theorem dX3_evenly_45 : decode cX3_evenly 45 = .ok (.iadd, 1) := by decide +kernel
theorem dX3_evenly_46 : decode cX3_evenly 46 = .ok (.iload_n 1, 1) := by decide +kernel
theorem dX3_evenly_47 : decode cX3_evenly 47 = .ok (.if_icmp .lt 7, 3) := by decide +kernel
theorem dX3_evenly_50 : decode cX3_evenly 50 = .ok (.iconst 1, 1) := by decide +kernel
theorem dX3_evenly_51 : decode cX3_evenly 51 = .ok (.goto 4, 3) := by decide +kernel
theorem dX3_evenly_54 : decode cX3_evenly 54 = .ok (.iconst 0, 1) := by decide +kernel
theorem dX3_evenly_55 : decode cX3_evenly 55 = .ok (.ireturn, 1) := by decide +kernel
set_option maxRecDepth 20000 in
theorem ggX3_after_X3_in : GoodIn wsX3_after wsX3_in := goodIn_r _ [6] (by decide +kernel) (by decide +kernel)
set_option maxRecDepth 20000 in
theorem gX3_after_X3_in : GoodIn wsX3_after (va_wsS RX3 157 yX3_in wsX3_in) := goodIn_app (goodIn_of _ (by decide +kernel)) ggX3_after_X3_in
set_option maxRecDepth 20000 in
theorem ggX3_after_X3_boardAfter : GoodIn wsX3_after wsX3_boardAfter := goodIn_r _ [10, 11, 12, 13, 14, 15, 5, 16, 17, 18, 19, 20, 21, 22, 23, 24, 25, 26, 27, 28, 29, 30, 31, 32, 33, 34, 35, 36, 37, 38, 39, 40, 41, 42, 43, 44, 45, 46, 47, 48, 49] (by decide +kernel) (by decide +kernel)
set_option maxRecDepth 20000 in
theorem gX3_after_X3_boardAfter : GoodIn wsX3_after (wsV RX3 92 RX3 yX3_boardAfter wsX3_boardAfter) := goodIn_app (goodIn_of _ (by decide +kernel)) ggX3_after_X3_boardAfter
theorem dX3_after_0 : decode cX3_after 0 = .ok (.iload_n 1, 1) := by decide +kernel
theorem dX3_after_1 : decode cX3_after 1 = .ok (.i2l, 1) := by decide +kernel
theorem dX3_after_2 : decode cX3_after 2 = .ok (.lconst 0, 1) := by decide +kernel
theorem dX3_after_3 : decode cX3_after 3 = .ok (.ldc2_w 132, 3) := by decide +kernel
theorem dX3_after_6 : decode cX3_after 6 = .ok (.invokestatic 157, 3) := by decide +kernel
theorem dX3_after_9 : decode cX3_after 9 = .ok (.ifCond .eq 11, 3) := by decide +kernel
theorem dX3_after_12 : decode cX3_after 12 = .ok (.aload_n 0, 1) := by decide +kernel
theorem dX3_after_13 : decode cX3_after 13 = .ok (.iload_n 1, 1) := by decide +kernel
theorem dX3_after_14 : decode cX3_after 14 = .ok (.invokevirtual 92, 3) := by decide +kernel
theorem dX3_after_17 : decode cX3_after 17 = .ok (.goto 6, 3) := by decide +kernel
theorem dX3_after_20 : decode cX3_after 20 = .ok (.ldc2_w 35, 3) := by decide +kernel
theorem dX3_after_23 : decode cX3_after 23 = .ok (.lreturn, 1) := by decide +kernel
set_option maxRecDepth 20000 in
theorem ggX3_rings_X3_in : GoodIn wsX3_rings wsX3_in := goodIn_r _ [8] (by decide +kernel) (by decide +kernel)
set_option maxRecDepth 20000 in
theorem gX3_rings_X3_in : GoodIn wsX3_rings (va_wsS RX3 157 yX3_in wsX3_in) := goodIn_app (goodIn_of _ (by decide +kernel)) ggX3_rings_X3_in
set_option maxRecDepth 20000 in
theorem ggX3_rings_X3_boardAfter : GoodIn wsX3_rings wsX3_boardAfter := goodIn_r _ [12, 3, 13, 14, 15, 16, 7, 17, 18, 19, 20, 21, 22, 23, 24, 25, 26, 27, 28, 29, 30, 31, 32, 33, 34, 35, 36, 37, 38, 39, 40, 41, 42, 67, 68, 69, 70, 71, 72, 73, 74] (by decide +kernel) (by decide +kernel)
set_option maxRecDepth 20000 in
theorem gX3_rings_X3_boardAfter : GoodIn wsX3_rings (wsV RX3 92 RX3 yX3_boardAfter wsX3_boardAfter) := goodIn_app (goodIn_of _ (by decide +kernel)) ggX3_rings_X3_boardAfter
set_option maxRecDepth 20000 in
theorem ggX3_rings_X3_ringsAt : GoodIn wsX3_rings wsX3_ringsAt := goodIn_r _ [46, 3, 67, 68, 69, 70, 71, 72, 73, 74] (by decide +kernel) (by decide +kernel)
set_option maxRecDepth 20000 in
theorem gX3_rings_X3_ringsAt : GoodIn wsX3_rings (wsV RX3 101 RX3 yX3_ringsAt wsX3_ringsAt) := goodIn_app (goodIn_of _ (by decide +kernel)) ggX3_rings_X3_ringsAt
set_option maxRecDepth 20000 in
theorem ggX3_rings_X3_between : GoodIn wsX3_rings wsX3_between := goodIn_r _ [50, 13, 51, 52, 53, 7, 54, 3, 55, 56, 57, 58, 59, 60, 61, 62, 63, 64, 65, 66, 67, 68, 69, 70, 71, 72, 73, 74] (by decide +kernel) (by decide +kernel)
set_option maxRecDepth 20000 in
theorem gX3_rings_X3_between : GoodIn wsX3_rings (wsV RX3 95 RX3 yX3_between wsX3_between) := goodIn_app (goodIn_of _ (by decide +kernel)) ggX3_rings_X3_between
set_option maxRecDepth 20000 in
theorem ggX3_rings_X3_lesser : GoodIn wsX3_rings wsX3_lesser := goodIn_r _ [42] (by decide +kernel) (by decide +kernel)
set_option maxRecDepth 20000 in
theorem gX3_rings_X3_lesser : GoodIn wsX3_rings (va_wsS RX3 59 yX3_lesser wsX3_lesser) := goodIn_app (goodIn_of _ (by decide +kernel)) ggX3_rings_X3_lesser
theorem dX3_rings_0 : decode cX3_rings 0 = .ok (.iload_n 1, 1) := by decide +kernel
theorem dX3_rings_1 : decode cX3_rings 1 = .ok (.i2l, 1) := by decide +kernel
theorem dX3_rings_2 : decode cX3_rings 2 = .ok (.lconst 0, 1) := by decide +kernel
theorem dX3_rings_3 : decode cX3_rings 3 = .ok (.ldc2_w 132, 3) := by decide +kernel
theorem dX3_rings_6 : decode cX3_rings 6 = .ok (.invokestatic 157, 3) := by decide +kernel
theorem dX3_rings_9 : decode cX3_rings 9 = .ok (.ifCond .ne 6, 3) := by decide +kernel
theorem dX3_rings_12 : decode cX3_rings 12 = .ok (.ldc 154, 2) := by decide +kernel
theorem dX3_rings_14 : decode cX3_rings 14 = .ok (.ireturn, 1) := by decide +kernel
theorem dX3_rings_15 : decode cX3_rings 15 = .ok (.aload_n 0, 1) := by decide +kernel
theorem dX3_rings_16 : decode cX3_rings 16 = .ok (.iload_n 1, 1) := by decide +kernel
theorem dX3_rings_17 : decode cX3_rings 17 = .ok (.invokevirtual 92, 3) := by decide +kernel
theorem dX3_rings_20 : decode cX3_rings 20 = .ok (.lstore_n 2, 1) := by decide +kernel
theorem dX3_rings_21 : decode cX3_rings 21 = .ok (.lconst 0, 1) := by decide +kernel
theorem dX3_rings_22 : decode cX3_rings 22 = .ok (.lstore 4, 2) := by decide +kernel
theorem dX3_rings_24 : decode cX3_rings 24 = .ok (.iconst 0, 1) := by decide +kernel
theorem dX3_rings_25 : decode cX3_rings 25 = .ok (.istore 6, 2) := by decide +kernel
theorem dX3_rings_27 : decode cX3_rings 27 = .ok (.iload 6, 2) := by decide +kernel
theorem dX3_rings_29 : decode cX3_rings 29 = .ok (.i2l, 1) := by decide +kernel
theorem dX3_rings_30 : decode cX3_rings 30 = .ok (.aload_n 0, 1) := by decide +kernel
theorem dX3_rings_31 : decode cX3_rings 31 = .ok (.getfield 7, 3) := by decide +kernel
theorem dX3_rings_34 : decode cX3_rings 34 = .ok (.bipush 24, 2) := by decide +kernel
theorem dX3_rings_36 : decode cX3_rings 36 = .ok (.laload, 1) := by decide +kernel
theorem dX3_rings_37 : decode cX3_rings 37 = .ok (.lcmp, 1) := by decide +kernel
theorem dX3_rings_38 : decode cX3_rings 38 = .ok (.ifCond .ge 34, 3) := by decide +kernel
theorem dX3_rings_41 : decode cX3_rings 41 = .ok (.lload 4, 2) := by decide +kernel
theorem dX3_rings_43 : decode cX3_rings 43 = .ok (.ldc2_w 99, 3) := by decide +kernel
theorem dX3_rings_46 : decode cX3_rings 46 = .ok (.aload_n 0, 1) := by decide +kernel
theorem dX3_rings_47 : decode cX3_rings 47 = .ok (.iload 6, 2) := by decide +kernel
theorem dX3_rings_49 : decode cX3_rings 49 = .ok (.invokevirtual 101, 3) := by decide +kernel
theorem dX3_rings_52 : decode cX3_rings 52 = .ok (.lsub, 1) := by decide +kernel
theorem dX3_rings_53 : decode cX3_rings 53 = .ok (.aload_n 0, 1) := by decide +kernel
theorem dX3_rings_54 : decode cX3_rings 54 = .ok (.iload 6, 2) := by decide +kernel
theorem dX3_rings_56 : decode cX3_rings 56 = .ok (.lload_n 2, 1) := by decide +kernel
theorem dX3_rings_57 : decode cX3_rings 57 = .ok (.invokevirtual 95, 3) := by decide +kernel
theorem dX3_rings_60 : decode cX3_rings 60 = .ok (.invokestatic 59, 3) := by decide +kernel
theorem dX3_rings_63 : decode cX3_rings 63 = .ok (.ladd, 1) := by decide +kernel
theorem dX3_rings_64 : decode cX3_rings 64 = .ok (.lstore 4, 2) := by decide +kernel
theorem dX3_rings_66 : decode cX3_rings 66 = .ok (.iinc 6 1, 3) := by decide +kernel
theorem dX3_rings_69 : decode cX3_rings 69 = .ok (.goto (-42), 3) := by decide +kernel
theorem dX3_rings_72 : decode cX3_rings 72 = .ok (.lload 4, 2) := by decide +kernel
theorem dX3_rings_74 : decode cX3_rings 74 = .ok (.l2i, 1) := by decide +kernel
theorem dX3_rings_75 : decode cX3_rings 75 = .ok (.ireturn, 1) := by decide +kernel
set_option maxRecDepth 20000 in
theorem ggX3_untilWide_X3_in : GoodIn wsX3_untilWide wsX3_in := goodIn_r _ [8] (by decide +kernel) (by decide +kernel)
set_option maxRecDepth 20000 in
theorem gX3_untilWide_X3_in : GoodIn wsX3_untilWide (va_wsS RX3 157 yX3_in wsX3_in) := goodIn_app (goodIn_of _ (by decide +kernel)) ggX3_untilWide_X3_in
set_option maxRecDepth 20000 in
theorem ggX3_untilWide_X3_wider : GoodIn wsX3_untilWide wsX3_wider := goodIn_r _ [12, 4, 13, 14, 15, 16, 17, 18, 19, 20, 21] (by decide +kernel) (by decide +kernel)
set_option maxRecDepth 20000 in
theorem gX3_untilWide_X3_wider : GoodIn wsX3_untilWide (wsV RX3 109 RX3 yX3_wider wsX3_wider) := goodIn_app (goodIn_of _ (by decide +kernel)) ggX3_untilWide_X3_wider
theorem dX3_untilWide_0 : decode cX3_untilWide 0 = .ok (.iload_n 1, 1) := by decide +kernel
theorem dX3_untilWide_1 : decode cX3_untilWide 1 = .ok (.i2l, 1) := by decide +kernel
theorem dX3_untilWide_2 : decode cX3_untilWide 2 = .ok (.lconst 0, 1) := by decide +kernel
theorem dX3_untilWide_3 : decode cX3_untilWide 3 = .ok (.ldc2_w 99, 3) := by decide +kernel
theorem dX3_untilWide_6 : decode cX3_untilWide 6 = .ok (.invokestatic 157, 3) := by decide +kernel
theorem dX3_untilWide_9 : decode cX3_untilWide 9 = .ok (.ifCond .ne 6, 3) := by decide +kernel
theorem dX3_untilWide_12 : decode cX3_untilWide 12 = .ok (.ldc 154, 2) := by decide +kernel
theorem dX3_untilWide_14 : decode cX3_untilWide 14 = .ok (.ireturn, 1) := by decide +kernel
theorem dX3_untilWide_15 : decode cX3_untilWide 15 = .ok (.ldc2_w 45, 3) := by decide +kernel
theorem dX3_untilWide_18 : decode cX3_untilWide 18 = .ok (.iload_n 1, 1) := by decide +kernel
theorem dX3_untilWide_19 : decode cX3_untilWide 19 = .ok (.i2l, 1) := by decide +kernel
theorem dX3_untilWide_20 : decode cX3_untilWide 20 = .ok (.lmul, 1) := by decide +kernel
theorem dX3_untilWide_21 : decode cX3_untilWide 21 = .ok (.aload_n 0, 1) := by decide +kernel
theorem dX3_untilWide_22 : decode cX3_untilWide 22 = .ok (.getfield 7, 3) := by decide +kernel
theorem dX3_untilWide_25 : decode cX3_untilWide 25 = .ok (.iconst 3, 1) := by decide +kernel
theorem dX3_untilWide_26 : decode cX3_untilWide 26 = .ok (.laload, 1) := by decide +kernel
theorem dX3_untilWide_27 : decode cX3_untilWide 27 = .ok (.lsub, 1) := by decide +kernel
theorem dX3_untilWide_28 : decode cX3_untilWide 28 = .ok (.lstore_n 2, 1) := by decide +kernel
theorem dX3_untilWide_29 : decode cX3_untilWide 29 = .ok (.lload_n 2, 1) := by decide +kernel
theorem dX3_untilWide_30 : decode cX3_untilWide 30 = .ok (.lconst 0, 1) := by decide +kernel
theorem dX3_untilWide_31 : decode cX3_untilWide 31 = .ok (.lcmp, 1) := by decide +kernel
theorem dX3_untilWide_32 : decode cX3_untilWide 32 = .ok (.ifCond .ge 5, 3) := by decide +kernel
theorem dX3_untilWide_35 : decode cX3_untilWide 35 = .ok (.iconst 0, 1) := by decide +kernel
theorem dX3_untilWide_36 : decode cX3_untilWide 36 = .ok (.ireturn, 1) := by decide +kernel
theorem dX3_untilWide_37 : decode cX3_untilWide 37 = .ok (.aload_n 0, 1) := by decide +kernel
theorem dX3_untilWide_38 : decode cX3_untilWide 38 = .ok (.invokevirtual 109, 3) := by decide +kernel
theorem dX3_untilWide_41 : decode cX3_untilWide 41 = .ok (.lconst 0, 1) := by decide +kernel
theorem dX3_untilWide_42 : decode cX3_untilWide 42 = .ok (.lcmp, 1) := by decide +kernel
theorem dX3_untilWide_43 : decode cX3_untilWide 43 = .ok (.ifCond .ne 7, 3) := by decide +kernel
theorem dX3_untilWide_46 : decode cX3_untilWide 46 = .ok (.iconst (-1), 1) := by decide +kernel
theorem dX3_untilWide_47 : decode cX3_untilWide 47 = .ok (.goto 12, 3) := by decide +kernel
theorem dX3_untilWide_50 : decode cX3_untilWide 50 = .ok (.lload_n 2, 1) := by decide +kernel
theorem dX3_untilWide_51 : decode cX3_untilWide 51 = .ok (.aload_n 0, 1) := by decide +kernel
theorem dX3_untilWide_52 : decode cX3_untilWide 52 = .ok (.invokevirtual 109, 3) := by decide +kernel
theorem dX3_untilWide_55 : decode cX3_untilWide 55 = .ok (.ldiv, 1) := by decide +kernel
theorem dX3_untilWide_56 : decode cX3_untilWide 56 = .ok (.l2i, 1) := by decide +kernel
theorem dX3_untilWide_57 : decode cX3_untilWide 57 = .ok (.iconst 1, 1) := by decide +kernel
theorem dX3_untilWide_58 : decode cX3_untilWide 58 = .ok (.iadd, 1) := by decide +kernel
theorem dX3_untilWide_59 : decode cX3_untilWide 59 = .ok (.ireturn, 1) := by decide +kernel
theorem dX3_write_0 : decode cX3_write 0 = .ok (.aload_n 0, 1) := by decide +kernel
theorem dX3_write_1 : decode cX3_write 1 = .ok (.getfield 134, 3) := by decide +kernel
theorem dX3_write_4 : decode cX3_write 4 = .ok (.bipush 20, 2) := by decide +kernel
theorem dX3_write_6 : decode cX3_write 6 = .ok (.if_icmp .ne 6, 3) := by decide +kernel
theorem dX3_write_9 : decode cX3_write 9 = .ok (.ldc 210, 2) := by decide +kernel
theorem dX3_write_11 : decode cX3_write 11 = .ok (.ireturn, 1) := by decide +kernel
theorem dX3_write_12 : decode cX3_write 12 = .ok (.aload_n 0, 1) := by decide +kernel
theorem dX3_write_13 : decode cX3_write 13 = .ok (.getfield 23, 3) := by decide +kernel
theorem dX3_write_16 : decode cX3_write 16 = .ok (.aload_n 0, 1) := by decide +kernel
theorem dX3_write_17 : decode cX3_write 17 = .ok (.getfield 134, 3) := by decide +kernel
theorem dX3_write_20 : decode cX3_write 20 = .ok (.iload_n 1, 1) := by decide +kernel
theorem dX3_write_21 : decode cX3_write 21 = .ok (.iastore, 1) := by decide +kernel
theorem dX3_write_22 : decode cX3_write 22 = .ok (.aload_n 0, 1) := by decide +kernel
theorem dX3_write_23 : decode cX3_write 23 = .ok (.dup, 1) := by decide +kernel
theorem dX3_write_24 : decode cX3_write 24 = .ok (.getfield 134, 3) := by decide +kernel
theorem dX3_write_27 : decode cX3_write 27 = .ok (.iconst 1, 1) := by decide +kernel
theorem dX3_write_28 : decode cX3_write 28 = .ok (.iadd, 1) := by decide +kernel
theorem dX3_write_29 : decode cX3_write 29 = .ok (.putfield 134, 3) := by decide +kernel
theorem dX3_write_32 : decode cX3_write 32 = .ok (.aload_n 0, 1) := by decide +kernel
theorem dX3_write_33 : decode cX3_write 33 = .ok (.getfield 134, 3) := by decide +kernel
theorem dX3_write_36 : decode cX3_write 36 = .ok (.ireturn, 1) := by decide +kernel
theorem dX3_tear_0 : decode cX3_tear 0 = .ok (.aload_n 0, 1) := by decide +kernel
theorem dX3_tear_1 : decode cX3_tear 1 = .ok (.getfield 134, 3) := by decide +kernel
theorem dX3_tear_4 : decode cX3_tear 4 = .ok (.istore_n 1, 1) := by decide +kernel
theorem dX3_tear_5 : decode cX3_tear 5 = .ok (.aload_n 0, 1) := by decide +kernel
theorem dX3_tear_6 : decode cX3_tear 6 = .ok (.iconst 0, 1) := by decide +kernel
theorem dX3_tear_7 : decode cX3_tear 7 = .ok (.putfield 134, 3) := by decide +kernel
theorem dX3_tear_10 : decode cX3_tear 10 = .ok (.iload_n 1, 1) := by decide +kernel
theorem dX3_tear_11 : decode cX3_tear 11 = .ok (.ireturn, 1) := by decide +kernel
theorem dX3_seed_0 : decode cX3_seed 0 = .ok (.iload_n 1, 1) := by decide +kernel
theorem dX3_seed_1 : decode cX3_seed 1 = .ok (.ifCond .ge 6, 3) := by decide +kernel
theorem dX3_seed_4 : decode cX3_seed 4 = .ok (.ldc 154, 2) := by decide +kernel
theorem dX3_seed_6 : decode cX3_seed 6 = .ok (.ireturn, 1) := by decide +kernel
theorem dX3_seed_7 : decode cX3_seed 7 = .ok (.aload_n 0, 1) := by decide +kernel
theorem dX3_seed_8 : decode cX3_seed 8 = .ok (.getfield 211, 3) := by decide +kernel
theorem dX3_seed_11 : decode cX3_seed 11 = .ok (.l2i, 1) := by decide +kernel
theorem dX3_seed_12 : decode cX3_seed 12 = .ok (.istore_n 2, 1) := by decide +kernel
theorem dX3_seed_13 : decode cX3_seed 13 = .ok (.aload_n 0, 1) := by decide +kernel
theorem dX3_seed_14 : decode cX3_seed 14 = .ok (.iload_n 1, 1) := by decide +kernel
theorem dX3_seed_15 : decode cX3_seed 15 = .ok (.i2l, 1) := by decide +kernel
theorem dX3_seed_16 : decode cX3_seed 16 = .ok (.putfield 211, 3) := by decide +kernel
theorem dX3_seed_19 : decode cX3_seed 19 = .ok (.iload_n 2, 1) := by decide +kernel
theorem dX3_seed_20 : decode cX3_seed 20 = .ok (.ireturn, 1) := by decide +kernel
set_option maxRecDepth 20000 in
theorem ggX3_keep_X3_in : GoodIn wsX3_keep wsX3_in := goodIn_r _ [10] (by decide +kernel) (by decide +kernel)
set_option maxRecDepth 20000 in
theorem gX3_keep_X3_in : GoodIn wsX3_keep (va_wsS RX3 157 yX3_in wsX3_in) := goodIn_app (goodIn_of _ (by decide +kernel)) ggX3_keep_X3_in
set_option maxRecDepth 20000 in
theorem ggX3_keep_X3_bring : GoodIn wsX3_keep wsX3_bring := goodIn_r _ [13] (by decide +kernel) (by decide +kernel)
set_option maxRecDepth 20000 in
theorem gX3_keep_X3_bring : GoodIn wsX3_keep (va_wsS RX3 175 yX3_bring wsX3_bring) := goodIn_app (goodIn_of _ (by decide +kernel)) ggX3_keep_X3_bring
theorem dX3_keep_0 : decode cX3_keep 0 = .ok (.iload_n 1, 1) := by decide +kernel
theorem dX3_keep_1 : decode cX3_keep 1 = .ok (.i2l, 1) := by decide +kernel
theorem dX3_keep_2 : decode cX3_keep 2 = .ok (.lconst 0, 1) := by decide +kernel
theorem dX3_keep_3 : decode cX3_keep 3 = .ok (.lconst 1, 1) := by decide +kernel
theorem dX3_keep_4 : decode cX3_keep 4 = .ok (.invokestatic 157, 3) := by decide +kernel
theorem dX3_keep_7 : decode cX3_keep 7 = .ok (.ifCond .ne 6, 3) := by decide +kernel
theorem dX3_keep_10 : decode cX3_keep 10 = .ok (.ldc 161, 2) := by decide +kernel
theorem dX3_keep_12 : decode cX3_keep 12 = .ok (.ireturn, 1) := by decide +kernel
theorem dX3_keep_13 : decode cX3_keep 13 = .ok (.aload_n 0, 1) := by decide +kernel
theorem dX3_keep_14 : decode cX3_keep 14 = .ok (.getfield 19, 3) := by decide +kernel
theorem dX3_keep_17 : decode cX3_keep 17 = .ok (.iload_n 1, 1) := by decide +kernel
theorem dX3_keep_18 : decode cX3_keep 18 = .ok (.iconst 1, 1) := by decide +kernel
theorem dX3_keep_19 : decode cX3_keep 19 = .ok (.bastore, 1) := by decide +kernel
theorem dX3_keep_20 : decode cX3_keep 20 = .ok (.aload_n 0, 1) := by decide +kernel
theorem dX3_keep_21 : decode cX3_keep 21 = .ok (.getfield 7, 3) := by decide +kernel
theorem dX3_keep_24 : decode cX3_keep 24 = .ok (.iconst 0, 1) := by decide +kernel
theorem dX3_keep_25 : decode cX3_keep 25 = .ok (.aload_n 0, 1) := by decide +kernel
theorem dX3_keep_26 : decode cX3_keep 26 = .ok (.getfield 16, 3) := by decide +kernel
theorem dX3_keep_29 : decode cX3_keep 29 = .ok (.bipush 50, 2) := by decide +kernel
theorem dX3_keep_31 : decode cX3_keep 31 = .ok (.iload_n 1, 1) := by decide +kernel
theorem dX3_keep_32 : decode cX3_keep 32 = .ok (.imul, 1) := by decide +kernel
theorem dX3_keep_33 : decode cX3_keep 33 = .ok (.bipush 49, 2) := by decide +kernel
theorem dX3_keep_35 : decode cX3_keep 35 = .ok (.invokestatic 175, 3) := by decide +kernel
theorem dX3_keep_38 : decode cX3_keep 38 = .ok (.aload_n 0, 1) := by decide +kernel
theorem dX3_keep_39 : decode cX3_keep 39 = .ok (.getfield 16, 3) := by decide +kernel
theorem dX3_keep_42 : decode cX3_keep 42 = .ok (.bipush 50, 2) := by decide +kernel
theorem dX3_keep_44 : decode cX3_keep 44 = .ok (.iload_n 1, 1) := by decide +kernel
theorem dX3_keep_45 : decode cX3_keep 45 = .ok (.imul, 1) := by decide +kernel
theorem dX3_keep_46 : decode cX3_keep 46 = .ok (.bipush 49, 2) := by decide +kernel
theorem dX3_keep_48 : decode cX3_keep 48 = .ok (.iadd, 1) := by decide +kernel
theorem dX3_keep_49 : decode cX3_keep 49 = .ok (.aload_n 0, 1) := by decide +kernel
theorem dX3_keep_50 : decode cX3_keep 50 = .ok (.getfield 211, 3) := by decide +kernel
theorem dX3_keep_53 : decode cX3_keep 53 = .ok (.lastore, 1) := by decide +kernel
theorem dX3_keep_54 : decode cX3_keep 54 = .ok (.aload_n 0, 1) := by decide +kernel
theorem dX3_keep_55 : decode cX3_keep 55 = .ok (.iconst 0, 1) := by decide +kernel
theorem dX3_keep_56 : decode cX3_keep 56 = .ok (.putfield 151, 3) := by decide +kernel
theorem dX3_keep_59 : decode cX3_keep 59 = .ok (.iconst 1, 1) := by decide +kernel
theorem dX3_keep_60 : decode cX3_keep 60 = .ok (.ireturn, 1) := by decide +kernel
set_option maxRecDepth 20000 in
theorem ggX3_goBack_X3_in : GoodIn wsX3_goBack wsX3_in := goodIn_r _ [11] (by decide +kernel) (by decide +kernel)
set_option maxRecDepth 20000 in
theorem gX3_goBack_X3_in : GoodIn wsX3_goBack (va_wsS RX3 157 yX3_in wsX3_in) := goodIn_app (goodIn_of _ (by decide +kernel)) ggX3_goBack_X3_in
set_option maxRecDepth 20000 in
theorem ggX3_goBack_X3_bring : GoodIn wsX3_goBack wsX3_bring := goodIn_r _ [14] (by decide +kernel) (by decide +kernel)
set_option maxRecDepth 20000 in
theorem gX3_goBack_X3_bring : GoodIn wsX3_goBack (va_wsS RX3 175 yX3_bring wsX3_bring) := goodIn_app (goodIn_of _ (by decide +kernel)) ggX3_goBack_X3_bring
theorem dX3_goBack_0 : decode cX3_goBack 0 = .ok (.iload_n 1, 1) := by decide +kernel
theorem dX3_goBack_1 : decode cX3_goBack 1 = .ok (.i2l, 1) := by decide +kernel
theorem dX3_goBack_2 : decode cX3_goBack 2 = .ok (.lconst 0, 1) := by decide +kernel
theorem dX3_goBack_3 : decode cX3_goBack 3 = .ok (.lconst 1, 1) := by decide +kernel
theorem dX3_goBack_4 : decode cX3_goBack 4 = .ok (.invokestatic 157, 3) := by decide +kernel
theorem dX3_goBack_7 : decode cX3_goBack 7 = .ok (.ifCond .ne 6, 3) := by decide +kernel
theorem dX3_goBack_10 : decode cX3_goBack 10 = .ok (.ldc 161, 2) := by decide +kernel
theorem dX3_goBack_12 : decode cX3_goBack 12 = .ok (.ireturn, 1) := by decide +kernel
theorem dX3_goBack_13 : decode cX3_goBack 13 = .ok (.aload_n 0, 1) := by decide +kernel
theorem dX3_goBack_14 : decode cX3_goBack 14 = .ok (.getfield 19, 3) := by decide +kernel
theorem dX3_goBack_17 : decode cX3_goBack 17 = .ok (.iload_n 1, 1) := by decide +kernel
theorem dX3_goBack_18 : decode cX3_goBack 18 = .ok (.baload, 1) := by decide +kernel
theorem dX3_goBack_19 : decode cX3_goBack 19 = .ok (.ifCond .ne 6, 3) := by decide +kernel
theorem dX3_goBack_22 : decode cX3_goBack 22 = .ok (.ldc 228, 2) := by decide +kernel
theorem dX3_goBack_24 : decode cX3_goBack 24 = .ok (.ireturn, 1) := by decide +kernel
theorem dX3_goBack_25 : decode cX3_goBack 25 = .ok (.aload_n 0, 1) := by decide +kernel
theorem dX3_goBack_26 : decode cX3_goBack 26 = .ok (.getfield 16, 3) := by decide +kernel
theorem dX3_goBack_29 : decode cX3_goBack 29 = .ok (.bipush 50, 2) := by decide +kernel
theorem dX3_goBack_31 : decode cX3_goBack 31 = .ok (.iload_n 1, 1) := by decide +kernel
theorem dX3_goBack_32 : decode cX3_goBack 32 = .ok (.imul, 1) := by decide +kernel
theorem dX3_goBack_33 : decode cX3_goBack 33 = .ok (.aload_n 0, 1) := by decide +kernel
theorem dX3_goBack_34 : decode cX3_goBack 34 = .ok (.getfield 7, 3) := by decide +kernel
theorem dX3_goBack_37 : decode cX3_goBack 37 = .ok (.iconst 0, 1) := by decide +kernel
theorem dX3_goBack_38 : decode cX3_goBack 38 = .ok (.bipush 49, 2) := by decide +kernel
theorem dX3_goBack_40 : decode cX3_goBack 40 = .ok (.invokestatic 175, 3) := by decide +kernel
theorem dX3_goBack_43 : decode cX3_goBack 43 = .ok (.aload_n 0, 1) := by decide +kernel
theorem dX3_goBack_44 : decode cX3_goBack 44 = .ok (.aload_n 0, 1) := by decide +kernel
theorem dX3_goBack_45 : decode cX3_goBack 45 = .ok (.getfield 16, 3) := by decide +kernel
theorem dX3_goBack_48 : decode cX3_goBack 48 = .ok (.bipush 50, 2) := by decide +kernel
theorem dX3_goBack_50 : decode cX3_goBack 50 = .ok (.iload_n 1, 1) := by decide +kernel
theorem dX3_goBack_51 : decode cX3_goBack 51 = .ok (.imul, 1) := by decide +kernel
theorem dX3_goBack_52 : decode cX3_goBack 52 = .ok (.bipush 49, 2) := by decide +kernel
theorem dX3_goBack_54 : decode cX3_goBack 54 = .ok (.iadd, 1) := by decide +kernel
theorem dX3_goBack_55 : decode cX3_goBack 55 = .ok (.laload, 1) := by decide +kernel
theorem dX3_goBack_56 : decode cX3_goBack 56 = .ok (.putfield 211, 3) := by decide +kernel
theorem dX3_goBack_59 : decode cX3_goBack 59 = .ok (.aload_n 0, 1) := by decide +kernel
theorem dX3_goBack_60 : decode cX3_goBack 60 = .ok (.iconst 0, 1) := by decide +kernel
theorem dX3_goBack_61 : decode cX3_goBack 61 = .ok (.putfield 151, 3) := by decide +kernel
theorem dX3_goBack_64 : decode cX3_goBack 64 = .ok (.iconst 1, 1) := by decide +kernel
theorem dX3_goBack_65 : decode cX3_goBack 65 = .ok (.ireturn, 1) := by decide +kernel
theorem dJ9_floorDiv_f86c9_0 : decode cJ9_floorDiv_f86c9 0 = .ok (.lload_n 0, 1) := by decide +kernel
theorem dJ9_floorDiv_f86c9_1 : decode cJ9_floorDiv_f86c9 1 = .ok (.lload_n 2, 1) := by decide +kernel
theorem dJ9_floorDiv_f86c9_2 : decode cJ9_floorDiv_f86c9 2 = .ok (.ldiv, 1) := by decide +kernel
theorem dJ9_floorDiv_f86c9_3 : decode cJ9_floorDiv_f86c9 3 = .ok (.lstore 4, 2) := by decide +kernel
theorem dJ9_floorDiv_f86c9_5 : decode cJ9_floorDiv_f86c9 5 = .ok (.lload_n 0, 1) := by decide +kernel
theorem dJ9_floorDiv_f86c9_6 : decode cJ9_floorDiv_f86c9 6 = .ok (.lload_n 2, 1) := by decide +kernel
theorem dJ9_floorDiv_f86c9_7 : decode cJ9_floorDiv_f86c9 7 = .ok (.lxor, 1) := by decide +kernel
theorem dJ9_floorDiv_f86c9_8 : decode cJ9_floorDiv_f86c9 8 = .ok (.lconst 0, 1) := by decide +kernel
theorem dJ9_floorDiv_f86c9_9 : decode cJ9_floorDiv_f86c9 9 = .ok (.lcmp, 1) := by decide +kernel
theorem dJ9_floorDiv_f86c9_10 : decode cJ9_floorDiv_f86c9 10 = .ok (.ifCond .ge 17, 3) := by decide +kernel
theorem dJ9_floorDiv_f86c9_13 : decode cJ9_floorDiv_f86c9 13 = .ok (.lload 4, 2) := by decide +kernel
theorem dJ9_floorDiv_f86c9_15 : decode cJ9_floorDiv_f86c9 15 = .ok (.lload_n 2, 1) := by decide +kernel
theorem dJ9_floorDiv_f86c9_16 : decode cJ9_floorDiv_f86c9 16 = .ok (.lmul, 1) := by decide +kernel
theorem dJ9_floorDiv_f86c9_17 : decode cJ9_floorDiv_f86c9 17 = .ok (.lload_n 0, 1) := by decide +kernel
theorem dJ9_floorDiv_f86c9_18 : decode cJ9_floorDiv_f86c9 18 = .ok (.lcmp, 1) := by decide +kernel
theorem dJ9_floorDiv_f86c9_19 : decode cJ9_floorDiv_f86c9 19 = .ok (.ifCond .eq 8, 3) := by decide +kernel
theorem dJ9_floorDiv_f86c9_22 : decode cJ9_floorDiv_f86c9 22 = .ok (.lload 4, 2) := by decide +kernel
theorem dJ9_floorDiv_f86c9_24 : decode cJ9_floorDiv_f86c9 24 = .ok (.lconst 1, 1) := by decide +kernel
theorem dJ9_floorDiv_f86c9_25 : decode cJ9_floorDiv_f86c9 25 = .ok (.lsub, 1) := by decide +kernel
theorem dJ9_floorDiv_f86c9_26 : decode cJ9_floorDiv_f86c9 26 = .ok (.lreturn, 1) := by decide +kernel
theorem dJ9_floorDiv_f86c9_27 : decode cJ9_floorDiv_f86c9 27 = .ok (.lload 4, 2) := by decide +kernel
theorem dJ9_floorDiv_f86c9_29 : decode cJ9_floorDiv_f86c9 29 = .ok (.lreturn, 1) := by decide +kernel
theorem dJ9_floorMod_7cf53_0 : decode cJ9_floorMod_7cf53 0 = .ok (.iload_n 0, 1) := by decide +kernel
theorem dJ9_floorMod_7cf53_1 : decode cJ9_floorMod_7cf53 1 = .ok (.iload_n 1, 1) := by decide +kernel
theorem dJ9_floorMod_7cf53_2 : decode cJ9_floorMod_7cf53 2 = .ok (.irem, 1) := by decide +kernel
theorem dJ9_floorMod_7cf53_3 : decode cJ9_floorMod_7cf53 3 = .ok (.istore_n 2, 1) := by decide +kernel
theorem dJ9_floorMod_7cf53_4 : decode cJ9_floorMod_7cf53 4 = .ok (.iload_n 0, 1) := by decide +kernel
theorem dJ9_floorMod_7cf53_5 : decode cJ9_floorMod_7cf53 5 = .ok (.iload_n 1, 1) := by decide +kernel
theorem dJ9_floorMod_7cf53_6 : decode cJ9_floorMod_7cf53 6 = .ok (.ixor, 1) := by decide +kernel
theorem dJ9_floorMod_7cf53_7 : decode cJ9_floorMod_7cf53 7 = .ok (.ifCond .ge 11, 3) := by decide +kernel
theorem dJ9_floorMod_7cf53_10 : decode cJ9_floorMod_7cf53 10 = .ok (.iload_n 2, 1) := by decide +kernel
theorem dJ9_floorMod_7cf53_11 : decode cJ9_floorMod_7cf53 11 = .ok (.ifCond .eq 7, 3) := by decide +kernel
theorem dJ9_floorMod_7cf53_14 : decode cJ9_floorMod_7cf53 14 = .ok (.iload_n 2, 1) := by decide +kernel
theorem dJ9_floorMod_7cf53_15 : decode cJ9_floorMod_7cf53 15 = .ok (.iload_n 1, 1) := by decide +kernel
theorem dJ9_floorMod_7cf53_16 : decode cJ9_floorMod_7cf53 16 = .ok (.iadd, 1) := by decide +kernel
theorem dJ9_floorMod_7cf53_17 : decode cJ9_floorMod_7cf53 17 = .ok (.ireturn, 1) := by decide +kernel
theorem dJ9_floorMod_7cf53_18 : decode cJ9_floorMod_7cf53 18 = .ok (.iload_n 2, 1) := by decide +kernel
theorem dJ9_floorMod_7cf53_19 : decode cJ9_floorMod_7cf53 19 = .ok (.ireturn, 1) := by decide +kernel
theorem dJ9_floorMod_f86c9_0 : decode cJ9_floorMod_f86c9 0 = .ok (.lload_n 0, 1) := by decide +kernel
theorem dJ9_floorMod_f86c9_1 : decode cJ9_floorMod_f86c9 1 = .ok (.lload_n 2, 1) := by decide +kernel
theorem dJ9_floorMod_f86c9_2 : decode cJ9_floorMod_f86c9 2 = .ok (.lrem, 1) := by decide +kernel
theorem dJ9_floorMod_f86c9_3 : decode cJ9_floorMod_f86c9 3 = .ok (.lstore 4, 2) := by decide +kernel
theorem dJ9_floorMod_f86c9_5 : decode cJ9_floorMod_f86c9 5 = .ok (.lload_n 0, 1) := by decide +kernel
theorem dJ9_floorMod_f86c9_6 : decode cJ9_floorMod_f86c9 6 = .ok (.lload_n 2, 1) := by decide +kernel
theorem dJ9_floorMod_f86c9_7 : decode cJ9_floorMod_f86c9 7 = .ok (.lxor, 1) := by decide +kernel
theorem dJ9_floorMod_f86c9_8 : decode cJ9_floorMod_f86c9 8 = .ok (.lconst 0, 1) := by decide +kernel
theorem dJ9_floorMod_f86c9_9 : decode cJ9_floorMod_f86c9 9 = .ok (.lcmp, 1) := by decide +kernel
theorem dJ9_floorMod_f86c9_10 : decode cJ9_floorMod_f86c9 10 = .ok (.ifCond .ge 15, 3) := by decide +kernel
theorem dJ9_floorMod_f86c9_13 : decode cJ9_floorMod_f86c9 13 = .ok (.lload 4, 2) := by decide +kernel
theorem dJ9_floorMod_f86c9_15 : decode cJ9_floorMod_f86c9 15 = .ok (.lconst 0, 1) := by decide +kernel
theorem dJ9_floorMod_f86c9_16 : decode cJ9_floorMod_f86c9 16 = .ok (.lcmp, 1) := by decide +kernel
theorem dJ9_floorMod_f86c9_17 : decode cJ9_floorMod_f86c9 17 = .ok (.ifCond .eq 8, 3) := by decide +kernel
theorem dJ9_floorMod_f86c9_20 : decode cJ9_floorMod_f86c9 20 = .ok (.lload 4, 2) := by decide +kernel
theorem dJ9_floorMod_f86c9_22 : decode cJ9_floorMod_f86c9 22 = .ok (.lload_n 2, 1) := by decide +kernel
theorem dJ9_floorMod_f86c9_23 : decode cJ9_floorMod_f86c9 23 = .ok (.ladd, 1) := by decide +kernel
theorem dJ9_floorMod_f86c9_24 : decode cJ9_floorMod_f86c9 24 = .ok (.lreturn, 1) := by decide +kernel
theorem dJ9_floorMod_f86c9_25 : decode cJ9_floorMod_f86c9 25 = .ok (.lload 4, 2) := by decide +kernel
theorem dJ9_floorMod_f86c9_27 : decode cJ9_floorMod_f86c9 27 = .ok (.lreturn, 1) := by decide +kernel
theorem dJ9_abs_067f4_0 : decode cJ9_abs_067f4 0 = .ok (.lload_n 0, 1) := by decide +kernel
theorem dJ9_abs_067f4_1 : decode cJ9_abs_067f4 1 = .ok (.lconst 0, 1) := by decide +kernel
theorem dJ9_abs_067f4_2 : decode cJ9_abs_067f4 2 = .ok (.lcmp, 1) := by decide +kernel
theorem dJ9_abs_067f4_3 : decode cJ9_abs_067f4 3 = .ok (.ifCond .ge 8, 3) := by decide +kernel
theorem dJ9_abs_067f4_6 : decode cJ9_abs_067f4 6 = .ok (.lload_n 0, 1) := by decide +kernel
theorem dJ9_abs_067f4_7 : decode cJ9_abs_067f4 7 = .ok (.lneg, 1) := by decide +kernel
theorem dJ9_abs_067f4_8 : decode cJ9_abs_067f4 8 = .ok (.goto 4, 3) := by decide +kernel
theorem dJ9_abs_067f4_11 : decode cJ9_abs_067f4 11 = .ok (.lload_n 0, 1) := by decide +kernel
theorem dJ9_abs_067f4_12 : decode cJ9_abs_067f4 12 = .ok (.lreturn, 1) := by decide +kernel
theorem dJ9_max_f86c9_0 : decode cJ9_max_f86c9 0 = .ok (.lload_n 0, 1) := by decide +kernel
theorem dJ9_max_f86c9_1 : decode cJ9_max_f86c9 1 = .ok (.lload_n 2, 1) := by decide +kernel
theorem dJ9_max_f86c9_2 : decode cJ9_max_f86c9 2 = .ok (.lcmp, 1) := by decide +kernel
theorem dJ9_max_f86c9_3 : decode cJ9_max_f86c9 3 = .ok (.ifCond .lt 7, 3) := by decide +kernel
theorem dJ9_max_f86c9_6 : decode cJ9_max_f86c9 6 = .ok (.lload_n 0, 1) := by decide +kernel
theorem dJ9_max_f86c9_7 : decode cJ9_max_f86c9 7 = .ok (.goto 4, 3) := by decide +kernel
theorem dJ9_max_f86c9_10 : decode cJ9_max_f86c9 10 = .ok (.lload_n 2, 1) := by decide +kernel
theorem dJ9_max_f86c9_11 : decode cJ9_max_f86c9 11 = .ok (.lreturn, 1) := by decide +kernel
theorem dJ9_min_7cf53_0 : decode cJ9_min_7cf53 0 = .ok (.iload_n 0, 1) := by decide +kernel
theorem dJ9_min_7cf53_1 : decode cJ9_min_7cf53 1 = .ok (.iload_n 1, 1) := by decide +kernel
theorem dJ9_min_7cf53_2 : decode cJ9_min_7cf53 2 = .ok (.if_icmp .gt 7, 3) := by decide +kernel
theorem dJ9_min_7cf53_5 : decode cJ9_min_7cf53 5 = .ok (.iload_n 0, 1) := by decide +kernel
theorem dJ9_min_7cf53_6 : decode cJ9_min_7cf53 6 = .ok (.goto 4, 3) := by decide +kernel
theorem dJ9_min_7cf53_9 : decode cJ9_min_7cf53 9 = .ok (.iload_n 1, 1) := by decide +kernel
theorem dJ9_min_7cf53_10 : decode cJ9_min_7cf53 10 = .ok (.ireturn, 1) := by decide +kernel
theorem dJ9_min_f86c9_0 : decode cJ9_min_f86c9 0 = .ok (.lload_n 0, 1) := by decide +kernel
theorem dJ9_min_f86c9_1 : decode cJ9_min_f86c9 1 = .ok (.lload_n 2, 1) := by decide +kernel
theorem dJ9_min_f86c9_2 : decode cJ9_min_f86c9 2 = .ok (.lcmp, 1) := by decide +kernel
theorem dJ9_min_f86c9_3 : decode cJ9_min_f86c9 3 = .ok (.ifCond .gt 7, 3) := by decide +kernel
theorem dJ9_min_f86c9_6 : decode cJ9_min_f86c9 6 = .ok (.lload_n 0, 1) := by decide +kernel
theorem dJ9_min_f86c9_7 : decode cJ9_min_f86c9 7 = .ok (.goto 4, 3) := by decide +kernel
theorem dJ9_min_f86c9_10 : decode cJ9_min_f86c9 10 = .ok (.lload_n 2, 1) := by decide +kernel
theorem dJ9_min_f86c9_11 : decode cJ9_min_f86c9 11 = .ok (.lreturn, 1) := by decide +kernel
abbrev vwCl : List vw_C := [(RX0, TX0, 5), (RX1, TX1, 18), (RX2, TX2, 10), (RX3, TX3, 8)]
