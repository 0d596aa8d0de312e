theorem dX0_init_0 : decode cX0_init 0 = .ok (.aload_n 0, 1) := by decide +kernel
theorem dX0_init_1 : decode cX0_init 1 = .ok (.invokespecial 3, 3) := by decide +kernel
theorem dX0_init_4 : decode cX0_init 4 = .ok (.aload_n 0, 1) := by decide +kernel
theorem dX0_init_5 : decode cX0_init 5 = .ok (.iconst 0, 1) := by decide +kernel
theorem dX0_init_6 : decode cX0_init 6 = .ok (.putfield 9, 3) := by decide +kernel
theorem dX0_init_9 : decode cX0_init 9 = .ok (.aload_n 0, 1) := by decide +kernel
theorem dX0_init_10 : decode cX0_init 10 = .ok (.bipush 6, 2) := by decide +kernel
theorem dX0_init_12 : decode cX0_init 12 = .ok (.newarray .int, 2) := by decide +kernel
theorem dX0_init_14 : decode cX0_init 14 = .ok (.putfield 15, 3) := by decide +kernel
theorem dX0_init_17 : decode cX0_init 17 = .ok (.aload_n 0, 1) := by decide +kernel
theorem dX0_init_18 : decode cX0_init 18 = .ok (.bipush 6, 2) := by decide +kernel
theorem dX0_init_20 : decode cX0_init 20 = .ok (.newarray .int, 2) := by decide +kernel
theorem dX0_init_22 : decode cX0_init 22 = .ok (.putfield 19, 3) := by decide +kernel
theorem dX0_init_25 : decode cX0_init 25 = .ok (.aload_n 0, 1) := by decide +kernel
theorem dX0_init_26 : decode cX0_init 26 = .ok (.bipush 6, 2) := by decide +kernel
theorem dX0_init_28 : decode cX0_init 28 = .ok (.newarray .int, 2) := by decide +kernel
theorem dX0_init_30 : decode cX0_init 30 = .ok (.putfield 22, 3) := by decide +kernel
theorem dX0_init_33 : decode cX0_init 33 = .ok (.aload_n 0, 1) := by decide +kernel
theorem dX0_init_34 : decode cX0_init 34 = .ok (.bipush 6, 2) := by decide +kernel
theorem dX0_init_36 : decode cX0_init 36 = .ok (.newarray .int, 2) := by decide +kernel
theorem dX0_init_38 : decode cX0_init 38 = .ok (.putfield 25, 3) := by decide +kernel
theorem dX0_init_41 : decode cX0_init 41 = .ok (.return_, 1) := by decide +kernel
theorem dX0_copyFrom_0 : decode cX0_copyFrom 0 = .ok (.aload_n 0, 1) := by decide +kernel
theorem dX0_copyFrom_1 : decode cX0_copyFrom 1 = .ok (.aload_n 1, 1) := by decide +kernel
theorem dX0_copyFrom_2 : decode cX0_copyFrom 2 = .ok (.getfield 9, 3) := by decide +kernel
theorem dX0_copyFrom_5 : decode cX0_copyFrom 5 = .ok (.putfield 9, 3) := by decide +kernel
theorem dX0_copyFrom_8 : decode cX0_copyFrom 8 = .ok (.aload_n 1, 1) := by decide +kernel
theorem dX0_copyFrom_9 : decode cX0_copyFrom 9 = .ok (.getfield 15, 3) := by decide +kernel
theorem dX0_copyFrom_12 : decode cX0_copyFrom 12 = .ok (.iconst 0, 1) := by decide +kernel
theorem dX0_copyFrom_13 : decode cX0_copyFrom 13 = .ok (.aload_n 0, 1) := by decide +kernel
theorem dX0_copyFrom_14 : decode cX0_copyFrom 14 = .ok (.getfield 15, 3) := by decide +kernel
theorem dX0_copyFrom_17 : decode cX0_copyFrom 17 = .ok (.iconst 0, 1) := by decide +kernel
theorem dX0_copyFrom_18 : decode cX0_copyFrom 18 = .ok (.bipush 6, 2) := by decide +kernel
theorem dX0_copyFrom_20 : decode cX0_copyFrom 20 = .ok (.invokestatic 28, 3) := by decide +kernel
theorem dX0_copyFrom_23 : decode cX0_copyFrom 23 = .ok (.aload_n 1, 1) := by decide +kernel
theorem dX0_copyFrom_24 : decode cX0_copyFrom 24 = .ok (.getfield 19, 3) := by decide +kernel
theorem dX0_copyFrom_27 : decode cX0_copyFrom 27 = .ok (.iconst 0, 1) := by decide +kernel
theorem dX0_copyFrom_28 : decode cX0_copyFrom 28 = .ok (.aload_n 0, 1) := by decide +kernel
theorem dX0_copyFrom_29 : decode cX0_copyFrom 29 = .ok (.getfield 19, 3) := by decide +kernel
theorem dX0_copyFrom_32 : decode cX0_copyFrom 32 = .ok (.iconst 0, 1) := by decide +kernel
theorem dX0_copyFrom_33 : decode cX0_copyFrom 33 = .ok (.bipush 6, 2) := by decide +kernel
theorem dX0_copyFrom_35 : decode cX0_copyFrom 35 = .ok (.invokestatic 28, 3) := by decide +kernel
theorem dX0_copyFrom_38 : decode cX0_copyFrom 38 = .ok (.aload_n 1, 1) := by decide +kernel
theorem dX0_copyFrom_39 : decode cX0_copyFrom 39 = .ok (.getfield 22, 3) := by decide +kernel
theorem dX0_copyFrom_42 : decode cX0_copyFrom 42 = .ok (.iconst 0, 1) := by decide +kernel
theorem dX0_copyFrom_43 : decode cX0_copyFrom 43 = .ok (.aload_n 0, 1) := by decide +kernel
theorem dX0_copyFrom_44 : decode cX0_copyFrom 44 = .ok (.getfield 22, 3) := by decide +kernel
theorem dX0_copyFrom_47 : decode cX0_copyFrom 47 = .ok (.iconst 0, 1) := by decide +kernel
theorem dX0_copyFrom_48 : decode cX0_copyFrom 48 = .ok (.bipush 6, 2) := by decide +kernel
theorem dX0_copyFrom_50 : decode cX0_copyFrom 50 = .ok (.invokestatic 28, 3) := by decide +kernel
theorem dX0_copyFrom_53 : decode cX0_copyFrom 53 = .ok (.aload_n 1, 1) := by decide +kernel
theorem dX0_copyFrom_54 : decode cX0_copyFrom 54 = .ok (.getfield 25, 3) := by decide +kernel
theorem dX0_copyFrom_57 : decode cX0_copyFrom 57 = .ok (.iconst 0, 1) := by decide +kernel
theorem dX0_copyFrom_58 : decode cX0_copyFrom 58 = .ok (.aload_n 0, 1) := by decide +kernel
theorem dX0_copyFrom_59 : decode cX0_copyFrom 59 = .ok (.getfield 25, 3) := by decide +kernel
theorem dX0_copyFrom_62 : decode cX0_copyFrom 62 = .ok (.iconst 0, 1) := by decide +kernel
theorem dX0_copyFrom_63 : decode cX0_copyFrom 63 = .ok (.bipush 6, 2) := by decide +kernel
theorem dX0_copyFrom_65 : decode cX0_copyFrom 65 = .ok (.invokestatic 28, 3) := by decide +kernel
theorem dX0_copyFrom_68 : decode cX0_copyFrom 68 = .ok (.return_, 1) := by decide +kernel
theorem dX0_has_0 : decode cX0_has 0 = .ok (.iload_n 1, 1) := by decide +kernel
theorem dX0_has_1 : decode cX0_has 1 = .ok (.ifCond .lt 21, 3) := by decide +kernel
theorem dX0_has_4 : decode cX0_has 4 = .ok (.iload_n 1, 1) := by decide +kernel
theorem dX0_has_5 : decode cX0_has 5 = .ok (.aload_n 0, 1) := by decide +kernel
theorem dX0_has_6 : decode cX0_has 6 = .ok (.getfield 9, 3) := by decide +kernel
theorem dX0_has_9 : decode cX0_has 9 = .ok (.if_icmp .ge 13, 3) := by decide +kernel
theorem dX0_has_12 : decode cX0_has 12 = .ok (.iload_n 1, 1) := by decide +kernel
theorem dX0_has_13 : decode cX0_has 13 = .ok (.bipush 6, 2) := by decide +kernel
theorem dX0_has_15 : decode cX0_has 15 = .ok (.if_icmp .ge 7, 3) := by decide +kernel
theorem dX0_has_18 : decode cX0_has 18 = .ok (.iconst 1, 1) := by decide +kernel
theorem dX0_has_19 : decode cX0_has 19 = .ok (.goto 4, 3) := by decide +kernel
theorem dX0_has_22 : decode cX0_has 22 = .ok (.iconst 0, 1) := by decide +kernel
theorem dX0_has_23 : decode cX0_has 23 = .ok (.ireturn, 1) := by decide +kernel
theorem dX0_add_0 : decode cX0_add 0 = .ok (.aload_n 0, 1) := by decide +kernel
theorem dX0_add_1 : decode cX0_add 1 = .ok (.getfield 9, 3) := by decide +kernel
theorem dX0_add_4 : decode cX0_add 4 = .ok (.ifCond .lt 12, 3) := by decide +kernel
theorem dX0_add_7 : decode cX0_add 7 = .ok (.aload_n 0, 1) := by decide +kernel
theorem dX0_add_8 : decode cX0_add 8 = .ok (.getfield 9, 3) := by decide +kernel
theorem dX0_add_11 : decode cX0_add 11 = .ok (.bipush 6, 2) := by decide +kernel
theorem dX0_add_13 : decode cX0_add 13 = .ok (.if_icmp .lt 6, 3) := by decide +kernel
theorem dX0_add_16 : decode cX0_add 16 = .ok (.ldc 34, 2) := by decide +kernel
theorem dX0_add_18 : decode cX0_add 18 = .ok (.ireturn, 1) := by decide +kernel
theorem dX0_add_19 : decode cX0_add 19 = .ok (.aload_n 0, 1) := by decide +kernel
theorem dX0_add_20 : decode cX0_add 20 = .ok (.getfield 9, 3) := by decide +kernel
theorem dX0_add_23 : decode cX0_add 23 = .ok (.istore 4, 2) := by decide +kernel
theorem dX0_add_25 : decode cX0_add 25 = .ok (.aload_n 0, 1) := by decide +kernel
theorem dX0_add_26 : decode cX0_add 26 = .ok (.getfield 15, 3) := by decide +kernel
theorem dX0_add_29 : decode cX0_add 29 = .ok (.iload 4, 2) := by decide +kernel
theorem dX0_add_31 : decode cX0_add 31 = .ok (.iload_n 1, 1) := by decide +kernel
theorem dX0_add_32 : decode cX0_add 32 = .ok (.iastore, 1) := by decide +kernel
theorem dX0_add_33 : decode cX0_add 33 = .ok (.aload_n 0, 1) := by decide +kernel
theorem dX0_add_34 : decode cX0_add 34 = .ok (.getfield 19, 3) := by decide +kernel
theorem dX0_add_37 : decode cX0_add 37 = .ok (.iload 4, 2) := by decide +kernel
theorem dX0_add_39 : decode cX0_add 39 = .ok (.iload_n 2, 1) := by decide +kernel
theorem dX0_add_40 : decode cX0_add 40 = .ok (.iastore, 1) := by decide +kernel
theorem dX0_add_41 : decode cX0_add 41 = .ok (.aload_n 0, 1) := by decide +kernel
theorem dX0_add_42 : decode cX0_add 42 = .ok (.getfield 22, 3) := by decide +kernel
theorem dX0_add_45 : decode cX0_add 45 = .ok (.iload 4, 2) := by decide +kernel
theorem dX0_add_47 : decode cX0_add 47 = .ok (.iload_n 3, 1) := by decide +kernel
theorem dX0_add_48 : decode cX0_add 48 = .ok (.iastore, 1) := by decide +kernel
theorem dX0_add_49 : decode cX0_add 49 = .ok (.aload_n 0, 1) := by decide +kernel
theorem dX0_add_50 : decode cX0_add 50 = .ok (.getfield 25, 3) := by decide +kernel
theorem dX0_add_53 : decode cX0_add 53 = .ok (.iload 4, 2) := by decide +kernel
theorem dX0_add_55 : decode cX0_add 55 = .ok (.iconst 0, 1) := by decide +kernel
theorem dX0_add_56 : decode cX0_add 56 = .ok (.iastore, 1) := by decide +kernel
theorem dX0_add_57 : decode cX0_add 57 = .ok (.aload_n 0, 1) := by decide +kernel
theorem dX0_add_58 : decode cX0_add 58 = .ok (.dup, 1) := by decide +kernel
theorem dX0_add_59 : decode cX0_add 59 = .ok (.getfield 9, 3) := by decide +kernel
theorem dX0_add_62 : decode cX0_add 62 = .ok (.iconst 1, 1) := by decide +kernel
theorem dX0_add_63 : decode cX0_add 63 = .ok (.iadd, 1) := by decide +kernel
theorem dX0_add_64 : decode cX0_add 64 = .ok (.putfield 9, 3) := by decide +kernel
theorem dX0_add_67 : decode cX0_add 67 = .ok (.iload 4, 2) := by decide +kernel
theorem dX0_add_69 : decode cX0_add 69 = .ok (.ireturn, 1) := by decide +kernel
set_option maxRecDepth 20000 in
theorem ggX0_remove_X0_has : GoodIn wsX0_remove wsX0_has := goodIn_r _ [10, 1, 11, 12, 13, 14, 15] (by decide +kernel) (by decide +kernel)
set_option maxRecDepth 20000 in
theorem gX0_remove_X0_has : GoodIn wsX0_remove (wsV RX0 35 RX0 yX0_has wsX0_has) := goodIn_app (goodIn_of _ (by decide +kernel)) ggX0_remove_X0_has
theorem dX0_remove_0 : decode cX0_remove 0 = .ok (.aload_n 0, 1) := by decide +kernel
theorem dX0_remove_1 : decode cX0_remove 1 = .ok (.iload_n 1, 1) := by decide +kernel
theorem dX0_remove_2 : decode cX0_remove 2 = .ok (.invokevirtual 35, 3) := by decide +kernel
theorem dX0_remove_5 : decode cX0_remove 5 = .ok (.ifCond .ne 4, 3) := by decide +kernel
theorem dX0_remove_8 : decode cX0_remove 8 = .ok (.return_, 1) := by decide +kernel
theorem dX0_remove_9 : decode cX0_remove 9 = .ok (.aload_n 0, 1) := by decide +kernel
theorem dX0_remove_10 : decode cX0_remove 10 = .ok (.dup, 1) := by decide +kernel
theorem dX0_remove_11 : decode cX0_remove 11 = .ok (.getfield 9, 3) := by decide +kernel
theorem dX0_remove_14 : decode cX0_remove 14 = .ok (.iconst 1, 1) := by decide +kernel
theorem dX0_remove_15 : decode cX0_remove 15 = .ok (.isub, 1) := by decide +kernel
theorem dX0_remove_16 : decode cX0_remove 16 = .ok (.putfield 9, 3) := by decide +kernel
theorem dX0_remove_19 : decode cX0_remove 19 = .ok (.iload_n 1, 1) := by decide +kernel
theorem dX0_remove_20 : decode cX0_remove 20 = .ok (.istore_n 2, 1) := by decide +kernel
theorem dX0_remove_21 : decode cX0_remove 21 = .ok (.iload_n 2, 1) := by decide +kernel
theorem dX0_remove_22 : decode cX0_remove 22 = .ok (.aload_n 0, 1) := by decide +kernel
theorem dX0_remove_23 : decode cX0_remove 23 = .ok (.getfield 9, 3) := by decide +kernel
theorem dX0_remove_26 : decode cX0_remove 26 = .ok (.if_icmp .ge 73, 3) := by decide +kernel
theorem dX0_remove_29 : decode cX0_remove 29 = .ok (.iload_n 2, 1) := by decide +kernel
theorem dX0_remove_30 : decode cX0_remove 30 = .ok (.iconst 1, 1) := by decide +kernel
theorem dX0_remove_31 : decode cX0_remove 31 = .ok (.iadd, 1) := by decide +kernel
theorem dX0_remove_32 : decode cX0_remove 32 = .ok (.bipush 6, 2) := by decide +kernel
theorem dX0_remove_34 : decode cX0_remove 34 = .ok (.if_icmp .ge 65, 3) := by decide +kernel
theorem dX0_remove_37 : decode cX0_remove 37 = .ok (.aload_n 0, 1) := by decide +kernel
theorem dX0_remove_38 : decode cX0_remove 38 = .ok (.getfield 15, 3) := by decide +kernel
theorem dX0_remove_41 : decode cX0_remove 41 = .ok (.iload_n 2, 1) := by decide +kernel
theorem dX0_remove_42 : decode cX0_remove 42 = .ok (.aload_n 0, 1) := by decide +kernel
theorem dX0_remove_43 : decode cX0_remove 43 = .ok (.getfield 15, 3) := by decide +kernel
theorem dX0_remove_46 : decode cX0_remove 46 = .ok (.iload_n 2, 1) := by decide +kernel
theorem dX0_remove_47 : decode cX0_remove 47 = .ok (.iconst 1, 1) := by decide +kernel
theorem dX0_remove_48 : decode cX0_remove 48 = .ok (.iadd, 1) := by decide +kernel
theorem dX0_remove_49 : decode cX0_remove 49 = .ok (.iaload, 1) := by decide +kernel
theorem dX0_remove_50 : decode cX0_remove 50 = .ok (.iastore, 1) := by decide +kernel
theorem dX0_remove_51 : decode cX0_remove 51 = .ok (.aload_n 0, 1) := by decide +kernel
theorem dX0_remove_52 : decode cX0_remove 52 = .ok (.getfield 19, 3) := by decide +kernel
theorem dX0_remove_55 : decode cX0_remove 55 = .ok (.iload_n 2, 1) := by decide +kernel
theorem dX0_remove_56 : decode cX0_remove 56 = .ok (.aload_n 0, 1) := by decide +kernel
theorem dX0_remove_57 : decode cX0_remove 57 = .ok (.getfield 19, 3) := by decide +kernel
theorem dX0_remove_60 : decode cX0_remove 60 = .ok (.iload_n 2, 1) := by decide +kernel
theorem dX0_remove_61 : decode cX0_remove 61 = .ok (.iconst 1, 1) := by decide +kernel
theorem dX0_remove_62 : decode cX0_remove 62 = .ok (.iadd, 1) := by decide +kernel
theorem dX0_remove_63 : decode cX0_remove 63 = .ok (.iaload, 1) := by decide +kernel
theorem dX0_remove_64 : decode cX0_remove 64 = .ok (.iastore, 1) := by decide +kernel
theorem dX0_remove_65 : decode cX0_remove 65 = .ok (.aload_n 0, 1) := by decide +kernel
theorem dX0_remove_66 : decode cX0_remove 66 = .ok (.getfield 22, 3) := by decide +kernel
theorem dX0_remove_69 : decode cX0_remove 69 = .ok (.iload_n 2, 1) := by decide +kernel
theorem dX0_remove_70 : decode cX0_remove 70 = .ok (.aload_n 0, 1) := by decide +kernel
theorem dX0_remove_71 : decode cX0_remove 71 = .ok (.getfield 22, 3) := by decide +kernel
theorem dX0_remove_74 : decode cX0_remove 74 = .ok (.iload_n 2, 1) := by decide +kernel
theorem dX0_remove_75 : decode cX0_remove 75 = .ok (.iconst 1, 1) := by decide +kernel
theorem dX0_remove_76 : decode cX0_remove 76 = .ok (.iadd, 1) := by decide +kernel
theorem dX0_remove_77 : decode cX0_remove 77 = .ok (.iaload, 1) := by decide +kernel
theorem dX0_remove_78 : decode cX0_remove 78 = .ok (.iastore, 1) := by decide +kernel
theorem dX0_remove_79 : decode cX0_remove 79 = .ok (.aload_n 0, 1) := by decide +kernel
theorem dX0_remove_80 : decode cX0_remove 80 = .ok (.getfield 25, 3) := by decide +kernel
theorem dX0_remove_83 : decode cX0_remove 83 = .ok (.iload_n 2, 1) := by decide +kernel
theorem dX0_remove_84 : decode cX0_remove 84 = .ok (.aload_n 0, 1) := by decide +kernel
theorem dX0_remove_85 : decode cX0_remove 85 = .ok (.getfield 25, 3) := by decide +kernel
theorem dX0_remove_88 : decode cX0_remove 88 = .ok (.iload_n 2, 1) := by decide +kernel
theorem dX0_remove_89 : decode cX0_remove 89 = .ok (.iconst 1, 1) := by decide +kernel
theorem dX0_remove_90 : decode cX0_remove 90 = .ok (.iadd, 1) := by decide +kernel
theorem dX0_remove_91 : decode cX0_remove 91 = .ok (.iaload, 1) := by decide +kernel
theorem dX0_remove_92 : decode cX0_remove 92 = .ok (.iastore, 1) := by decide +kernel
theorem dX0_remove_93 : decode cX0_remove 93 = .ok (.iinc 2 1, 3) := by decide +kernel
theorem dX0_remove_96 : decode cX0_remove 96 = .ok (.goto (-75), 3) := by decide +kernel
theorem dX0_remove_99 : decode cX0_remove 99 = .ok (.return_, 1) := by decide +kernel
theorem dX0_totalRings_0 : decode cX0_totalRings 0 = .ok (.iconst 0, 1) := by decide +kernel
theorem dX0_totalRings_1 : decode cX0_totalRings 1 = .ok (.istore_n 1, 1) := by decide +kernel
theorem dX0_totalRings_2 : decode cX0_totalRings 2 = .ok (.iconst 0, 1) := by decide +kernel
theorem dX0_totalRings_3 : decode cX0_totalRings 3 = .ok (.istore_n 2, 1) := by decide +kernel
theorem dX0_totalRings_4 : decode cX0_totalRings 4 = .ok (.iload_n 2, 1) := by decide +kernel
theorem dX0_totalRings_5 : decode cX0_totalRings 5 = .ok (.aload_n 0, 1) := by decide +kernel
theorem dX0_totalRings_6 : decode cX0_totalRings 6 = .ok (.getfield 9, 3) := by decide +kernel
theorem dX0_totalRings_9 : decode cX0_totalRings 9 = .ok (.if_icmp .ge 24, 3) := by decide +kernel
theorem dX0_totalRings_12 : decode cX0_totalRings 12 = .ok (.iload_n 2, 1) := by decide +kernel
theorem dX0_totalRings_13 : decode cX0_totalRings 13 = .ok (.bipush 6, 2) := by decide +kernel
theorem dX0_totalRings_15 : decode cX0_totalRings 15 = .ok (.if_icmp .ge 18, 3) := by decide +kernel
theorem dX0_totalRings_18 : decode cX0_totalRings 18 = .ok (.iload_n 1, 1) := by decide +kernel
theorem dX0_totalRings_19 : decode cX0_totalRings 19 = .ok (.aload_n 0, 1) := by decide +kernel
theorem dX0_totalRings_20 : decode cX0_totalRings 20 = .ok (.getfield 25, 3) := by decide +kernel
theorem dX0_totalRings_23 : decode cX0_totalRings 23 = .ok (.iload_n 2, 1) := by decide +kernel
theorem dX0_totalRings_24 : decode cX0_totalRings 24 = .ok (.iaload, 1) := by decide +kernel
theorem dX0_totalRings_25 : decode cX0_totalRings 25 = .ok (.iadd, 1) := by decide +kernel
theorem dX0_totalRings_26 : decode cX0_totalRings 26 = .ok (.istore_n 1, 1) := by decide +kernel
theorem dX0_totalRings_27 : decode cX0_totalRings 27 = .ok (.iinc 2 1, 3) := by decide +kernel
theorem dX0_totalRings_30 : decode cX0_totalRings 30 = .ok (.goto (-26), 3) := by decide +kernel
theorem dX0_totalRings_33 : decode cX0_totalRings 33 = .ok (.iload_n 1, 1) := by decide +kernel
theorem dX0_totalRings_34 : decode cX0_totalRings 34 = .ok (.ireturn, 1) := by decide +kernel
set_option maxRecDepth 20000 in
theorem ggX0_ring_X0_countFitting : GoodIn wsX0_ring wsX0_countFitting := goodIn_r _ [12, 13, 14, 15, 11, 16, 17, 18, 19, 20, 21, 22, 23, 24, 25, 26, 27, 1, 28, 29, 30, 31, 32, 33, 34, 35, 36, 37, 38, 39, 40, 41, 42, 43, 44, 45, 46, 47, 48, 49, 50, 51] (by decide +kernel) (by decide +kernel)
set_option maxRecDepth 20000 in
theorem gX0_ring_X0_countFitting : GoodIn wsX0_ring (wsV RX0 39 RX0 yX0_countFitting wsX0_countFitting) := goodIn_app (goodIn_of _ (by decide +kernel)) ggX0_ring_X0_countFitting
theorem dX0_ring_0 : decode cX0_ring 0 = .ok (.iconst 0, 1) := by decide +kernel
theorem dX0_ring_1 : decode cX0_ring 1 = .ok (.istore 5, 2) := by decide +kernel
theorem dX0_ring_3 : decode cX0_ring 3 = .ok (.iconst 0, 1) := by decide +kernel
theorem dX0_ring_4 : decode cX0_ring 4 = .ok (.istore 6, 2) := by decide +kernel
theorem dX0_ring_6 : decode cX0_ring 6 = .ok (.iload 6, 2) := by decide +kernel
theorem dX0_ring_8 : decode cX0_ring 8 = .ok (.aload_n 0, 1) := by decide +kernel
theorem dX0_ring_9 : decode cX0_ring 9 = .ok (.getfield 9, 3) := by decide +kernel
theorem dX0_ring_12 : decode cX0_ring 12 = .ok (.if_icmp .ge 62, 3) := by decide +kernel
theorem dX0_ring_15 : decode cX0_ring 15 = .ok (.iload 6, 2) := by decide +kernel
theorem dX0_ring_17 : decode cX0_ring 17 = .ok (.bipush 6, 2) := by decide +kernel
theorem dX0_ring_19 : decode cX0_ring 19 = .ok (.if_icmp .ge 55, 3) := by decide +kernel
theorem dX0_ring_22 : decode cX0_ring 22 = .ok (.aload_n 0, 1) := by decide +kernel
theorem dX0_ring_23 : decode cX0_ring 23 = .ok (.iload 6, 2) := by decide +kernel
theorem dX0_ring_25 : decode cX0_ring 25 = .ok (.lload_n 1, 1) := by decide +kernel
theorem dX0_ring_26 : decode cX0_ring 26 = .ok (.lload_n 3, 1) := by decide +kernel
theorem dX0_ring_27 : decode cX0_ring 27 = .ok (.invokevirtual 39, 3) := by decide +kernel
theorem dX0_ring_30 : decode cX0_ring 30 = .ok (.istore 7, 2) := by decide +kernel
theorem dX0_ring_32 : decode cX0_ring 32 = .ok (.iload 7, 2) := by decide +kernel
theorem dX0_ring_34 : decode cX0_ring 34 = .ok (.ifCond .le 34, 3) := by decide +kernel
theorem dX0_ring_37 : decode cX0_ring 37 = .ok (.iload 5, 2) := by decide +kernel
theorem dX0_ring_39 : decode cX0_ring 39 = .ok (.iconst 1, 1) := by decide +kernel
theorem dX0_ring_40 : decode cX0_ring 40 = .ok (.iload 6, 2) := by decide +kernel
theorem dX0_ring_42 : decode cX0_ring 42 = .ok (.ishl, 1) := by decide +kernel
theorem dX0_ring_43 : decode cX0_ring 43 = .ok (.ior, 1) := by decide +kernel
theorem dX0_ring_44 : decode cX0_ring 44 = .ok (.istore 5, 2) := by decide +kernel
theorem dX0_ring_46 : decode cX0_ring 46 = .ok (.aload_n 0, 1) := by decide +kernel
theorem dX0_ring_47 : decode cX0_ring 47 = .ok (.getfield 25, 3) := by decide +kernel
theorem dX0_ring_50 : decode cX0_ring 50 = .ok (.iload 6, 2) := by decide +kernel
theorem dX0_ring_52 : decode cX0_ring 52 = .ok (.aload_n 0, 1) := by decide +kernel
theorem dX0_ring_53 : decode cX0_ring 53 = .ok (.getfield 25, 3) := by decide +kernel
theorem dX0_ring_56 : decode cX0_ring 56 = .ok (.iload 6, 2) := by decide +kernel
theorem dX0_ring_58 : decode cX0_ring 58 = .ok (.iaload, 1) := by decide +kernel
theorem dX0_ring_59 : decode cX0_ring 59 = .ok (.iload 7, 2) := by decide +kernel
theorem dX0_ring_61 : decode cX0_ring 61 = .ok (.iadd, 1) := by decide +kernel
theorem dX0_ring_62 : decode cX0_ring 62 = .ok (.ldc 43, 2) := by decide +kernel
theorem dX0_ring_64 : decode cX0_ring 64 = .ok (.invokestatic 44, 3) := by decide +kernel
theorem dX0_ring_67 : decode cX0_ring 67 = .ok (.iastore, 1) := by decide +kernel
theorem dX0_ring_68 : decode cX0_ring 68 = .ok (.iinc 6 1, 3) := by decide +kernel
theorem dX0_ring_71 : decode cX0_ring 71 = .ok (.goto (-65), 3) := by decide +kernel
theorem dX0_ring_74 : decode cX0_ring 74 = .ok (.iload 5, 2) := by decide +kernel
theorem dX0_ring_76 : decode cX0_ring 76 = .ok (.ireturn, 1) := by decide +kernel
set_option maxRecDepth 20000 in
theorem ggX0_ringsToCome_X0_countFitting : GoodIn wsX0_ringsToCome wsX0_countFitting := goodIn_r _ [12, 13, 14, 15, 11, 16, 17, 18, 19, 20, 21, 22, 23, 24, 25, 26, 27, 1, 28, 29, 30, 31, 32, 33, 34, 35, 36, 37, 38, 39, 40, 41, 42, 43, 44, 45, 46, 47, 48, 49, 50, 51] (by decide +kernel) (by decide +kernel)
set_option maxRecDepth 20000 in
theorem gX0_ringsToCome_X0_countFitting : GoodIn wsX0_ringsToCome (wsV RX0 39 RX0 yX0_countFitting wsX0_countFitting) := goodIn_app (goodIn_of _ (by decide +kernel)) ggX0_ringsToCome_X0_countFitting
theorem dX0_ringsToCome_0 : decode cX0_ringsToCome 0 = .ok (.iconst 0, 1) := by decide +kernel
theorem dX0_ringsToCome_1 : decode cX0_ringsToCome 1 = .ok (.istore 5, 2) := by decide +kernel
theorem dX0_ringsToCome_3 : decode cX0_ringsToCome 3 = .ok (.iconst 0, 1) := by decide +kernel
theorem dX0_ringsToCome_4 : decode cX0_ringsToCome 4 = .ok (.istore 6, 2) := by decide +kernel
theorem dX0_ringsToCome_6 : decode cX0_ringsToCome 6 = .ok (.iload 6, 2) := by decide +kernel
theorem dX0_ringsToCome_8 : decode cX0_ringsToCome 8 = .ok (.aload_n 0, 1) := by decide +kernel
theorem dX0_ringsToCome_9 : decode cX0_ringsToCome 9 = .ok (.getfield 9, 3) := by decide +kernel
theorem dX0_ringsToCome_12 : decode cX0_ringsToCome 12 = .ok (.if_icmp .ge 42, 3) := by decide +kernel
theorem dX0_ringsToCome_15 : decode cX0_ringsToCome 15 = .ok (.iload 6, 2) := by decide +kernel
theorem dX0_ringsToCome_17 : decode cX0_ringsToCome 17 = .ok (.bipush 6, 2) := by decide +kernel
theorem dX0_ringsToCome_19 : decode cX0_ringsToCome 19 = .ok (.if_icmp .ge 35, 3) := by decide +kernel
theorem dX0_ringsToCome_22 : decode cX0_ringsToCome 22 = .ok (.iload 5, 2) := by decide +kernel
theorem dX0_ringsToCome_24 : decode cX0_ringsToCome 24 = .ok (.aload_n 0, 1) := by decide +kernel
theorem dX0_ringsToCome_25 : decode cX0_ringsToCome 25 = .ok (.iload 6, 2) := by decide +kernel
theorem dX0_ringsToCome_27 : decode cX0_ringsToCome 27 = .ok (.lload_n 1, 1) := by decide +kernel
theorem dX0_ringsToCome_28 : decode cX0_ringsToCome 28 = .ok (.lload_n 3, 1) := by decide +kernel
theorem dX0_ringsToCome_29 : decode cX0_ringsToCome 29 = .ok (.invokevirtual 39, 3) := by decide +kernel
theorem dX0_ringsToCome_32 : decode cX0_ringsToCome 32 = .ok (.ldc 43, 2) := by decide +kernel
theorem dX0_ringsToCome_34 : decode cX0_ringsToCome 34 = .ok (.aload_n 0, 1) := by decide +kernel
theorem dX0_ringsToCome_35 : decode cX0_ringsToCome 35 = .ok (.getfield 25, 3) := by decide +kernel
theorem dX0_ringsToCome_38 : decode cX0_ringsToCome 38 = .ok (.iload 6, 2) := by decide +kernel
theorem dX0_ringsToCome_40 : decode cX0_ringsToCome 40 = .ok (.iaload, 1) := by decide +kernel
theorem dX0_ringsToCome_41 : decode cX0_ringsToCome 41 = .ok (.isub, 1) := by decide +kernel
theorem dX0_ringsToCome_42 : decode cX0_ringsToCome 42 = .ok (.invokestatic 44, 3) := by decide +kernel
theorem dX0_ringsToCome_45 : decode cX0_ringsToCome 45 = .ok (.iadd, 1) := by decide +kernel
theorem dX0_ringsToCome_46 : decode cX0_ringsToCome 46 = .ok (.istore 5, 2) := by decide +kernel
theorem dX0_ringsToCome_48 : decode cX0_ringsToCome 48 = .ok (.iinc 6 1, 3) := by decide +kernel
theorem dX0_ringsToCome_51 : decode cX0_ringsToCome 51 = .ok (.goto (-45), 3) := by decide +kernel
theorem dX0_ringsToCome_54 : decode cX0_ringsToCome 54 = .ok (.iload 5, 2) := by decide +kernel
theorem dX0_ringsToCome_56 : decode cX0_ringsToCome 56 = .ok (.ireturn, 1) := by decide +kernel
set_option maxRecDepth 20000 in
theorem ggX0_countFitting_X0_fittingAheadOf : GoodIn wsX0_countFitting wsX0_fittingAheadOf := goodIn_r _ [5, 6, 7, 8, 9, 10, 11, 12, 13, 14, 15, 4, 16, 17, 18, 19, 20, 21, 22, 23, 24, 25, 26, 27, 28, 29, 30, 31, 32, 33, 34, 35, 36, 37, 38, 39, 40, 41] (by decide +kernel) (by decide +kernel)
set_option maxRecDepth 20000 in
theorem gX0_countFitting_X0_fittingAheadOf : GoodIn wsX0_countFitting (wsV RX0 50 RX0 yX0_fittingAheadOf wsX0_fittingAheadOf) := goodIn_app (goodIn_of _ (by decide +kernel)) ggX0_countFitting_X0_fittingAheadOf
theorem dX0_countFitting_0 : decode cX0_countFitting 0 = .ok (.aload_n 0, 1) := by decide +kernel
theorem dX0_countFitting_1 : decode cX0_countFitting 1 = .ok (.iload_n 1, 1) := by decide +kernel
theorem dX0_countFitting_2 : decode cX0_countFitting 2 = .ok (.lload 4, 2) := by decide +kernel
theorem dX0_countFitting_4 : decode cX0_countFitting 4 = .ok (.lconst 1, 1) := by decide +kernel
theorem dX0_countFitting_5 : decode cX0_countFitting 5 = .ok (.ladd, 1) := by decide +kernel
theorem dX0_countFitting_6 : decode cX0_countFitting 6 = .ok (.invokevirtual 50, 3) := by decide +kernel
theorem dX0_countFitting_9 : decode cX0_countFitting 9 = .ok (.aload_n 0, 1) := by decide +kernel
theorem dX0_countFitting_10 : decode cX0_countFitting 10 = .ok (.iload_n 1, 1) := by decide +kernel
theorem dX0_countFitting_11 : decode cX0_countFitting 11 = .ok (.lload_n 2, 1) := by decide +kernel
theorem dX0_countFitting_12 : decode cX0_countFitting 12 = .ok (.lconst 1, 1) := by decide +kernel
theorem dX0_countFitting_13 : decode cX0_countFitting 13 = .ok (.ladd, 1) := by decide +kernel
theorem dX0_countFitting_14 : decode cX0_countFitting 14 = .ok (.invokevirtual 50, 3) := by decide +kernel
theorem dX0_countFitting_17 : decode cX0_countFitting 17 = .ok (.lsub, 1) := by decide +kernel
theorem dX0_countFitting_18 : decode cX0_countFitting 18 = .ok (.l2i, 1) := by decide +kernel
theorem dX0_countFitting_19 : decode cX0_countFitting 19 = .ok (.ireturn, 1) := by decide +kernel
set_option maxRecDepth 20000 in
theorem ggX0_fittingAheadOf_X0_has : GoodIn wsX0_fittingAheadOf wsX0_has := goodIn_r _ [12, 13, 33, 34, 35, 36, 37] (by decide +kernel) (by decide +kernel)
set_option maxRecDepth 20000 in
theorem gX0_fittingAheadOf_X0_has : GoodIn wsX0_fittingAheadOf (wsV RX0 35 RX0 yX0_has wsX0_has) := goodIn_app (goodIn_of _ (by decide +kernel)) ggX0_fittingAheadOf_X0_has
set_option maxRecDepth 20000 in
theorem ggX0_fittingAheadOf_X0_fittingBelow : GoodIn wsX0_fittingAheadOf wsX0_fittingBelow := goodIn_r _ [17] (by decide +kernel) (by decide +kernel)
set_option maxRecDepth 20000 in
theorem gX0_fittingAheadOf_X0_fittingBelow : GoodIn wsX0_fittingAheadOf (wsV RX0 58 RX0 yX0_fittingBelow wsX0_fittingBelow) := goodIn_app (goodIn_of _ (by decide +kernel)) ggX0_fittingAheadOf_X0_fittingBelow
set_option maxRecDepth 20000 in
theorem ggX0_fittingAheadOf_X2_weekdayOf : GoodIn wsX0_fittingAheadOf wsX2_weekdayOf := goodIn_r _ [20, 21, 22] (by decide +kernel) (by decide +kernel)
set_option maxRecDepth 20000 in
theorem gX0_fittingAheadOf_X2_weekdayOf_n65 : GoodIn wsX0_fittingAheadOf (wsX2_weekdayOf) := ggX0_fittingAheadOf_X2_weekdayOf
set_option maxRecDepth 20000 in
theorem ggX0_fittingAheadOf_X0_fits : GoodIn wsX0_fittingAheadOf wsX0_fits := goodIn_r _ [26] (by decide +kernel) (by decide +kernel)
set_option maxRecDepth 20000 in
theorem gX0_fittingAheadOf_X0_fits : GoodIn wsX0_fittingAheadOf (wsV RX0 69 RX0 yX0_fits wsX0_fits) := goodIn_app (goodIn_of _ (by decide +kernel)) ggX0_fittingAheadOf_X0_fits
set_option maxRecDepth 20000 in
theorem ggX0_fittingAheadOf_X2_hourOf : GoodIn wsX0_fittingAheadOf wsX2_hourOf := goodIn_r _ [28, 29, 30] (by decide +kernel) (by decide +kernel)
set_option maxRecDepth 20000 in
theorem gX0_fittingAheadOf_X2_hourOf_n73 : GoodIn wsX0_fittingAheadOf (wsX2_hourOf) := ggX0_fittingAheadOf_X2_hourOf
set_option maxRecDepth 20000 in
theorem ggX0_fittingAheadOf_X2_minuteOf : GoodIn wsX0_fittingAheadOf wsX2_minuteOf := goodIn_r _ [32, 29] (by decide +kernel) (by decide +kernel)
set_option maxRecDepth 20000 in
theorem gX0_fittingAheadOf_X2_minuteOf_n76 : GoodIn wsX0_fittingAheadOf (wsX2_minuteOf) := ggX0_fittingAheadOf_X2_minuteOf
theorem dX0_fittingAheadOf_0 : decode cX0_fittingAheadOf 0 = .ok (.aload_n 0, 1) := by decide +kernel
theorem dX0_fittingAheadOf_1 : decode cX0_fittingAheadOf 1 = .ok (.iload_n 1, 1) := by decide +kernel
theorem dX0_fittingAheadOf_2 : decode cX0_fittingAheadOf 2 = .ok (.invokevirtual 35, 3) := by decide +kernel
theorem dX0_fittingAheadOf_5 : decode cX0_fittingAheadOf 5 = .ok (.ifCond .ne 5, 3) := by decide +kernel
theorem dX0_fittingAheadOf_8 : decode cX0_fittingAheadOf 8 = .ok (.lconst 0, 1) := by decide +kernel
theorem dX0_fittingAheadOf_9 : decode cX0_fittingAheadOf 9 = .ok (.lreturn, 1) := by decide +kernel
theorem dX0_fittingAheadOf_10 : decode cX0_fittingAheadOf 10 = .ok (.lload_n 2, 1) := by decide +kernel
theorem dX0_fittingAheadOf_11 : decode cX0_fittingAheadOf 11 = .ok (.ldc2_w 54, 3) := by decide +kernel
theorem dX0_fittingAheadOf_14 : decode cX0_fittingAheadOf 14 = .ok (.ldiv, 1) := by decide +kernel
theorem dX0_fittingAheadOf_15 : decode cX0_fittingAheadOf 15 = .ok (.lstore 4, 2) := by decide +kernel
theorem dX0_fittingAheadOf_17 : decode cX0_fittingAheadOf 17 = .ok (.aload_n 0, 1) := by decide +kernel
theorem dX0_fittingAheadOf_18 : decode cX0_fittingAheadOf 18 = .ok (.aload_n 0, 1) := by decide +kernel
theorem dX0_fittingAheadOf_19 : decode cX0_fittingAheadOf 19 = .ok (.getfield 15, 3) := by decide +kernel
theorem dX0_fittingAheadOf_22 : decode cX0_fittingAheadOf 22 = .ok (.iload_n 1, 1) := by decide +kernel
theorem dX0_fittingAheadOf_23 : decode cX0_fittingAheadOf 23 = .ok (.iaload, 1) := by decide +kernel
theorem dX0_fittingAheadOf_24 : decode cX0_fittingAheadOf 24 = .ok (.ldc2_w 56, 3) := by decide +kernel
theorem dX0_fittingAheadOf_27 : decode cX0_fittingAheadOf 27 = .ok (.invokevirtual 58, 3) := by decide +kernel
theorem dX0_fittingAheadOf_30 : decode cX0_fittingAheadOf 30 = .ok (.lstore 6, 2) := by decide +kernel
theorem dX0_fittingAheadOf_32 : decode cX0_fittingAheadOf 32 = .ok (.aload_n 0, 1) := by decide +kernel
theorem dX0_fittingAheadOf_33 : decode cX0_fittingAheadOf 33 = .ok (.aload_n 0, 1) := by decide +kernel
theorem dX0_fittingAheadOf_34 : decode cX0_fittingAheadOf 34 = .ok (.getfield 19, 3) := by decide +kernel
theorem dX0_fittingAheadOf_37 : decode cX0_fittingAheadOf 37 = .ok (.iload_n 1, 1) := by decide +kernel
theorem dX0_fittingAheadOf_38 : decode cX0_fittingAheadOf 38 = .ok (.iaload, 1) := by decide +kernel
theorem dX0_fittingAheadOf_39 : decode cX0_fittingAheadOf 39 = .ok (.ldc2_w 61, 3) := by decide +kernel
theorem dX0_fittingAheadOf_42 : decode cX0_fittingAheadOf 42 = .ok (.invokevirtual 58, 3) := by decide +kernel
theorem dX0_fittingAheadOf_45 : decode cX0_fittingAheadOf 45 = .ok (.lload 6, 2) := by decide +kernel
theorem dX0_fittingAheadOf_47 : decode cX0_fittingAheadOf 47 = .ok (.lmul, 1) := by decide +kernel
theorem dX0_fittingAheadOf_48 : decode cX0_fittingAheadOf 48 = .ok (.lstore 8, 2) := by decide +kernel
theorem dX0_fittingAheadOf_50 : decode cX0_fittingAheadOf 50 = .ok (.lload 4, 2) := by decide +kernel
theorem dX0_fittingAheadOf_52 : decode cX0_fittingAheadOf 52 = .ok (.ldc2_w 63, 3) := by decide +kernel
theorem dX0_fittingAheadOf_55 : decode cX0_fittingAheadOf 55 = .ok (.ldiv, 1) := by decide +kernel
theorem dX0_fittingAheadOf_56 : decode cX0_fittingAheadOf 56 = .ok (.aload_n 0, 1) := by decide +kernel
theorem dX0_fittingAheadOf_57 : decode cX0_fittingAheadOf 57 = .ok (.aload_n 0, 1) := by decide +kernel
theorem dX0_fittingAheadOf_58 : decode cX0_fittingAheadOf 58 = .ok (.getfield 22, 3) := by decide +kernel
theorem dX0_fittingAheadOf_61 : decode cX0_fittingAheadOf 61 = .ok (.iload_n 1, 1) := by decide +kernel
theorem dX0_fittingAheadOf_62 : decode cX0_fittingAheadOf 62 = .ok (.iaload, 1) := by decide +kernel
theorem dX0_fittingAheadOf_63 : decode cX0_fittingAheadOf 63 = .ok (.ldc2_w 63, 3) := by decide +kernel
theorem dX0_fittingAheadOf_66 : decode cX0_fittingAheadOf 66 = .ok (.invokevirtual 58, 3) := by decide +kernel
theorem dX0_fittingAheadOf_69 : decode cX0_fittingAheadOf 69 = .ok (.lmul, 1) := by decide +kernel
theorem dX0_fittingAheadOf_70 : decode cX0_fittingAheadOf 70 = .ok (.aload_n 0, 1) := by decide +kernel
theorem dX0_fittingAheadOf_71 : decode cX0_fittingAheadOf 71 = .ok (.aload_n 0, 1) := by decide +kernel
theorem dX0_fittingAheadOf_72 : decode cX0_fittingAheadOf 72 = .ok (.getfield 22, 3) := by decide +kernel
theorem dX0_fittingAheadOf_75 : decode cX0_fittingAheadOf 75 = .ok (.iload_n 1, 1) := by decide +kernel
theorem dX0_fittingAheadOf_76 : decode cX0_fittingAheadOf 76 = .ok (.iaload, 1) := by decide +kernel
theorem dX0_fittingAheadOf_77 : decode cX0_fittingAheadOf 77 = .ok (.lload 4, 2) := by decide +kernel
theorem dX0_fittingAheadOf_79 : decode cX0_fittingAheadOf 79 = .ok (.ldc2_w 63, 3) := by decide +kernel
theorem dX0_fittingAheadOf_82 : decode cX0_fittingAheadOf 82 = .ok (.lrem, 1) := by decide +kernel
theorem dX0_fittingAheadOf_83 : decode cX0_fittingAheadOf 83 = .ok (.invokevirtual 58, 3) := by decide +kernel
theorem dX0_fittingAheadOf_86 : decode cX0_fittingAheadOf 86 = .ok (.ladd, 1) := by decide +kernel
theorem dX0_fittingAheadOf_87 : decode cX0_fittingAheadOf 87 = .ok (.lstore 10, 2) := by decide +kernel
theorem dX0_fittingAheadOf_89 : decode cX0_fittingAheadOf 89 = .ok (.lload 10, 2) := by decide +kernel
theorem dX0_fittingAheadOf_91 : decode cX0_fittingAheadOf 91 = .ok (.lload 8, 2) := by decide +kernel
theorem dX0_fittingAheadOf_93 : decode cX0_fittingAheadOf 93 = .ok (.lmul, 1) := by decide +kernel
theorem dX0_fittingAheadOf_94 : decode cX0_fittingAheadOf 94 = .ok (.lstore 12, 2) := by decide +kernel
theorem dX0_fittingAheadOf_96 : decode cX0_fittingAheadOf 96 = .ok (.aload_n 0, 1) := by decide +kernel
theorem dX0_fittingAheadOf_97 : decode cX0_fittingAheadOf 97 = .ok (.aload_n 0, 1) := by decide +kernel
theorem dX0_fittingAheadOf_98 : decode cX0_fittingAheadOf 98 = .ok (.getfield 22, 3) := by decide +kernel
theorem dX0_fittingAheadOf_101 : decode cX0_fittingAheadOf 101 = .ok (.iload_n 1, 1) := by decide +kernel
theorem dX0_fittingAheadOf_102 : decode cX0_fittingAheadOf 102 = .ok (.iaload, 1) := by decide +kernel
theorem dX0_fittingAheadOf_103 : decode cX0_fittingAheadOf 103 = .ok (.lload_n 2, 1) := by decide +kernel
theorem dX0_fittingAheadOf_104 : decode cX0_fittingAheadOf 104 = .ok (.invokestatic 65, 3) := by decide +kernel
theorem dX0_fittingAheadOf_107 : decode cX0_fittingAheadOf 107 = .ok (.invokevirtual 69, 3) := by decide +kernel
theorem dX0_fittingAheadOf_110 : decode cX0_fittingAheadOf 110 = .ok (.ifCond .eq 63, 3) := by decide +kernel
theorem dX0_fittingAheadOf_113 : decode cX0_fittingAheadOf 113 = .ok (.lload 12, 2) := by decide +kernel
theorem dX0_fittingAheadOf_115 : decode cX0_fittingAheadOf 115 = .ok (.aload_n 0, 1) := by decide +kernel
theorem dX0_fittingAheadOf_116 : decode cX0_fittingAheadOf 116 = .ok (.aload_n 0, 1) := by decide +kernel
theorem dX0_fittingAheadOf_117 : decode cX0_fittingAheadOf 117 = .ok (.getfield 19, 3) := by decide +kernel
theorem dX0_fittingAheadOf_120 : decode cX0_fittingAheadOf 120 = .ok (.iload_n 1, 1) := by decide +kernel
theorem dX0_fittingAheadOf_121 : decode cX0_fittingAheadOf 121 = .ok (.iaload, 1) := by decide +kernel
theorem dX0_fittingAheadOf_122 : decode cX0_fittingAheadOf 122 = .ok (.lload_n 2, 1) := by decide +kernel
theorem dX0_fittingAheadOf_123 : decode cX0_fittingAheadOf 123 = .ok (.invokestatic 73, 3) := by decide +kernel
theorem dX0_fittingAheadOf_126 : decode cX0_fittingAheadOf 126 = .ok (.i2l, 1) := by decide +kernel
theorem dX0_fittingAheadOf_127 : decode cX0_fittingAheadOf 127 = .ok (.invokevirtual 58, 3) := by decide +kernel
theorem dX0_fittingAheadOf_130 : decode cX0_fittingAheadOf 130 = .ok (.lload 6, 2) := by decide +kernel
theorem dX0_fittingAheadOf_132 : decode cX0_fittingAheadOf 132 = .ok (.lmul, 1) := by decide +kernel
theorem dX0_fittingAheadOf_133 : decode cX0_fittingAheadOf 133 = .ok (.ladd, 1) := by decide +kernel
theorem dX0_fittingAheadOf_134 : decode cX0_fittingAheadOf 134 = .ok (.lstore 12, 2) := by decide +kernel
theorem dX0_fittingAheadOf_136 : decode cX0_fittingAheadOf 136 = .ok (.aload_n 0, 1) := by decide +kernel
theorem dX0_fittingAheadOf_137 : decode cX0_fittingAheadOf 137 = .ok (.aload_n 0, 1) := by decide +kernel
theorem dX0_fittingAheadOf_138 : decode cX0_fittingAheadOf 138 = .ok (.getfield 19, 3) := by decide +kernel
theorem dX0_fittingAheadOf_141 : decode cX0_fittingAheadOf 141 = .ok (.iload_n 1, 1) := by decide +kernel
theorem dX0_fittingAheadOf_142 : decode cX0_fittingAheadOf 142 = .ok (.iaload, 1) := by decide +kernel
theorem dX0_fittingAheadOf_143 : decode cX0_fittingAheadOf 143 = .ok (.lload_n 2, 1) := by decide +kernel
theorem dX0_fittingAheadOf_144 : decode cX0_fittingAheadOf 144 = .ok (.invokestatic 73, 3) := by decide +kernel
theorem dX0_fittingAheadOf_147 : decode cX0_fittingAheadOf 147 = .ok (.invokevirtual 69, 3) := by decide +kernel
theorem dX0_fittingAheadOf_150 : decode cX0_fittingAheadOf 150 = .ok (.ifCond .eq 23, 3) := by decide +kernel
theorem dX0_fittingAheadOf_153 : decode cX0_fittingAheadOf 153 = .ok (.lload 12, 2) := by decide +kernel
theorem dX0_fittingAheadOf_155 : decode cX0_fittingAheadOf 155 = .ok (.aload_n 0, 1) := by decide +kernel
theorem dX0_fittingAheadOf_156 : decode cX0_fittingAheadOf 156 = .ok (.aload_n 0, 1) := by decide +kernel
theorem dX0_fittingAheadOf_157 : decode cX0_fittingAheadOf 157 = .ok (.getfield 15, 3) := by decide +kernel
theorem dX0_fittingAheadOf_160 : decode cX0_fittingAheadOf 160 = .ok (.iload_n 1, 1) := by decide +kernel
theorem dX0_fittingAheadOf_161 : decode cX0_fittingAheadOf 161 = .ok (.iaload, 1) := by decide +kernel
theorem dX0_fittingAheadOf_162 : decode cX0_fittingAheadOf 162 = .ok (.lload_n 2, 1) := by decide +kernel
theorem dX0_fittingAheadOf_163 : decode cX0_fittingAheadOf 163 = .ok (.invokestatic 76, 3) := by decide +kernel
theorem dX0_fittingAheadOf_166 : decode cX0_fittingAheadOf 166 = .ok (.i2l, 1) := by decide +kernel
theorem dX0_fittingAheadOf_167 : decode cX0_fittingAheadOf 167 = .ok (.invokevirtual 58, 3) := by decide +kernel
theorem dX0_fittingAheadOf_170 : decode cX0_fittingAheadOf 170 = .ok (.ladd, 1) := by decide +kernel
theorem dX0_fittingAheadOf_171 : decode cX0_fittingAheadOf 171 = .ok (.lstore 12, 2) := by decide +kernel
theorem dX0_fittingAheadOf_173 : decode cX0_fittingAheadOf 173 = .ok (.lload 12, 2) := by decide +kernel
theorem dX0_fittingAheadOf_175 : decode cX0_fittingAheadOf 175 = .ok (.lreturn, 1) := by decide +kernel
theorem dX0_fits_0 : decode cX0_fits 0 = .ok (.iload_n 1, 1) := by decide +kernel
theorem dX0_fits_1 : decode cX0_fits 1 = .ok (.iconst (-1), 1) := by decide +kernel
theorem dX0_fits_2 : decode cX0_fits 2 = .ok (.if_icmp .eq 8, 3) := by decide +kernel
theorem dX0_fits_5 : decode cX0_fits 5 = .ok (.iload_n 1, 1) := by decide +kernel
theorem dX0_fits_6 : decode cX0_fits 6 = .ok (.iload_n 2, 1) := by decide +kernel
theorem dX0_fits_7 : decode cX0_fits 7 = .ok (.if_icmp .ne 7, 3) := by decide +kernel
theorem dX0_fits_10 : decode cX0_fits 10 = .ok (.iconst 1, 1) := by decide +kernel
theorem dX0_fits_11 : decode cX0_fits 11 = .ok (.goto 4, 3) := by decide +kernel
theorem dX0_fits_14 : decode cX0_fits 14 = .ok (.iconst 0, 1) := by decide +kernel
theorem dX0_fits_15 : decode cX0_fits 15 = .ok (.ireturn, 1) := by decide +kernel
theorem dX0_fittingBelow_0 : decode cX0_fittingBelow 0 = .ok (.iload_n 1, 1) := by decide +kernel
theorem dX0_fittingBelow_1 : decode cX0_fittingBelow 1 = .ok (.iconst (-1), 1) := by decide +kernel
theorem dX0_fittingBelow_2 : decode cX0_fittingBelow 2 = .ok (.if_icmp .ne 5, 3) := by decide +kernel
theorem dX0_fittingBelow_5 : decode cX0_fittingBelow 5 = .ok (.lload_n 2, 1) := by decide +kernel
theorem dX0_fittingBelow_6 : decode cX0_fittingBelow 6 = .ok (.lreturn, 1) := by decide +kernel
theorem dX0_fittingBelow_7 : decode cX0_fittingBelow 7 = .ok (.iload_n 1, 1) := by decide +kernel
theorem dX0_fittingBelow_8 : decode cX0_fittingBelow 8 = .ok (.i2l, 1) := by decide +kernel
theorem dX0_fittingBelow_9 : decode cX0_fittingBelow 9 = .ok (.lload_n 2, 1) := by decide +kernel
theorem dX0_fittingBelow_10 : decode cX0_fittingBelow 10 = .ok (.lcmp, 1) := by decide +kernel
theorem dX0_fittingBelow_11 : decode cX0_fittingBelow 11 = .ok (.ifCond .ge 7, 3) := by decide +kernel
theorem dX0_fittingBelow_14 : decode cX0_fittingBelow 14 = .ok (.lconst 1, 1) := by decide +kernel
theorem dX0_fittingBelow_15 : decode cX0_fittingBelow 15 = .ok (.goto 4, 3) := by decide +kernel
theorem dX0_fittingBelow_18 : decode cX0_fittingBelow 18 = .ok (.lconst 0, 1) := by decide +kernel
theorem dX0_fittingBelow_19 : decode cX0_fittingBelow 19 = .ok (.lreturn, 1) := by decide +kernel
set_option maxRecDepth 20000 in
theorem ggX0_nextFit_X0_has : GoodIn wsX0_nextFit wsX0_has := goodIn_r _ [11, 12, 28, 29, 30, 31, 32] (by decide +kernel) (by decide +kernel)
set_option maxRecDepth 20000 in
theorem gX0_nextFit_X0_has : GoodIn wsX0_nextFit (wsV RX0 35 RX0 yX0_has wsX0_has) := goodIn_app (goodIn_of _ (by decide +kernel)) ggX0_nextFit_X0_has
set_option maxRecDepth 20000 in
theorem ggX0_nextFit_X2_weekdayOf : GoodIn wsX0_nextFit wsX2_weekdayOf := goodIn_r _ [15, 16, 17] (by decide +kernel) (by decide +kernel)
set_option maxRecDepth 20000 in
theorem gX0_nextFit_X2_weekdayOf_n65 : GoodIn wsX0_nextFit (wsX2_weekdayOf) := ggX0_nextFit_X2_weekdayOf
set_option maxRecDepth 20000 in
theorem ggX0_nextFit_X0_fits : GoodIn wsX0_nextFit wsX0_fits := goodIn_r _ [21] (by decide +kernel) (by decide +kernel)
set_option maxRecDepth 20000 in
theorem gX0_nextFit_X0_fits : GoodIn wsX0_nextFit (wsV RX0 69 RX0 yX0_fits wsX0_fits) := goodIn_app (goodIn_of _ (by decide +kernel)) ggX0_nextFit_X0_fits
set_option maxRecDepth 20000 in
theorem ggX0_nextFit_X2_hourOf : GoodIn wsX0_nextFit wsX2_hourOf := goodIn_r _ [23, 24, 25] (by decide +kernel) (by decide +kernel)
set_option maxRecDepth 20000 in
theorem gX0_nextFit_X2_hourOf_n73 : GoodIn wsX0_nextFit (wsX2_hourOf) := ggX0_nextFit_X2_hourOf
set_option maxRecDepth 20000 in
theorem ggX0_nextFit_X2_minuteOf : GoodIn wsX0_nextFit wsX2_minuteOf := goodIn_r _ [27, 24] (by decide +kernel) (by decide +kernel)
set_option maxRecDepth 20000 in
theorem gX0_nextFit_X2_minuteOf_n76 : GoodIn wsX0_nextFit (wsX2_minuteOf) := ggX0_nextFit_X2_minuteOf
theorem dX0_nextFit_0 : decode cX0_nextFit 0 = .ok (.aload_n 0, 1) := by decide +kernel
theorem dX0_nextFit_1 : decode cX0_nextFit 1 = .ok (.iload_n 1, 1) := by decide +kernel
theorem dX0_nextFit_2 : decode cX0_nextFit 2 = .ok (.invokevirtual 35, 3) := by decide +kernel
theorem dX0_nextFit_5 : decode cX0_nextFit 5 = .ok (.ifCond .ne 7, 3) := by decide +kernel
theorem dX0_nextFit_8 : decode cX0_nextFit 8 = .ok (.ldc2_w 79, 3) := by decide +kernel
theorem dX0_nextFit_11 : decode cX0_nextFit 11 = .ok (.lreturn, 1) := by decide +kernel
theorem dX0_nextFit_12 : decode cX0_nextFit 12 = .ok (.lload_n 2, 1) := by decide +kernel
theorem dX0_nextFit_13 : decode cX0_nextFit 13 = .ok (.lconst 1, 1) := by decide +kernel
theorem dX0_nextFit_14 : decode cX0_nextFit 14 = .ok (.ladd, 1) := by decide +kernel
theorem dX0_nextFit_15 : decode cX0_nextFit 15 = .ok (.lstore 4, 2) := by decide +kernel
theorem dX0_nextFit_17 : decode cX0_nextFit 17 = .ok (.iconst 0, 1) := by decide +kernel
theorem dX0_nextFit_18 : decode cX0_nextFit 18 = .ok (.istore 6, 2) := by decide +kernel
theorem dX0_nextFit_20 : decode cX0_nextFit 20 = .ok (.iload 6, 2) := by decide +kernel
theorem dX0_nextFit_22 : decode cX0_nextFit 22 = .ok (.sipush 1000, 3) := by decide +kernel
theorem dX0_nextFit_25 : decode cX0_nextFit 25 = .ok (.if_icmp .ge 109, 3) := by decide +kernel
theorem dX0_nextFit_28 : decode cX0_nextFit 28 = .ok (.aload_n 0, 1) := by decide +kernel
theorem dX0_nextFit_29 : decode cX0_nextFit 29 = .ok (.aload_n 0, 1) := by decide +kernel
theorem dX0_nextFit_30 : decode cX0_nextFit 30 = .ok (.getfield 22, 3) := by decide +kernel
theorem dX0_nextFit_33 : decode cX0_nextFit 33 = .ok (.iload_n 1, 1) := by decide +kernel
theorem dX0_nextFit_34 : decode cX0_nextFit 34 = .ok (.iaload, 1) := by decide +kernel
theorem dX0_nextFit_35 : decode cX0_nextFit 35 = .ok (.lload 4, 2) := by decide +kernel
theorem dX0_nextFit_37 : decode cX0_nextFit 37 = .ok (.invokestatic 65, 3) := by decide +kernel
theorem dX0_nextFit_40 : decode cX0_nextFit 40 = .ok (.invokevirtual 69, 3) := by decide +kernel
theorem dX0_nextFit_43 : decode cX0_nextFit 43 = .ok (.ifCond .ne 20, 3) := by decide +kernel
theorem dX0_nextFit_46 : decode cX0_nextFit 46 = .ok (.lload 4, 2) := by decide +kernel
theorem dX0_nextFit_48 : decode cX0_nextFit 48 = .ok (.ldc2_w 54, 3) := by decide +kernel
theorem dX0_nextFit_51 : decode cX0_nextFit 51 = .ok (.ldiv, 1) := by decide +kernel
theorem dX0_nextFit_52 : decode cX0_nextFit 52 = .ok (.lconst 1, 1) := by decide +kernel
theorem dX0_nextFit_53 : decode cX0_nextFit 53 = .ok (.ladd, 1) := by decide +kernel
theorem dX0_nextFit_54 : decode cX0_nextFit 54 = .ok (.ldc2_w 54, 3) := by decide +kernel
theorem dX0_nextFit_57 : decode cX0_nextFit 57 = .ok (.lmul, 1) := by decide +kernel
theorem dX0_nextFit_58 : decode cX0_nextFit 58 = .ok (.lstore 4, 2) := by decide +kernel
theorem dX0_nextFit_60 : decode cX0_nextFit 60 = .ok (.goto 68, 3) := by decide +kernel
theorem dX0_nextFit_63 : decode cX0_nextFit 63 = .ok (.aload_n 0, 1) := by decide +kernel
theorem dX0_nextFit_64 : decode cX0_nextFit 64 = .ok (.aload_n 0, 1) := by decide +kernel
theorem dX0_nextFit_65 : decode cX0_nextFit 65 = .ok (.getfield 19, 3) := by decide +kernel
theorem dX0_nextFit_68 : decode cX0_nextFit 68 = .ok (.iload_n 1, 1) := by decide +kernel
theorem dX0_nextFit_69 : decode cX0_nextFit 69 = .ok (.iaload, 1) := by decide +kernel
theorem dX0_nextFit_70 : decode cX0_nextFit 70 = .ok (.lload 4, 2) := by decide +kernel
theorem dX0_nextFit_72 : decode cX0_nextFit 72 = .ok (.invokestatic 73, 3) := by decide +kernel
theorem dX0_nextFit_75 : decode cX0_nextFit 75 = .ok (.invokevirtual 69, 3) := by decide +kernel
theorem dX0_nextFit_78 : decode cX0_nextFit 78 = .ok (.ifCond .ne 20, 3) := by decide +kernel
theorem dX0_nextFit_81 : decode cX0_nextFit 81 = .ok (.lload 4, 2) := by decide +kernel
theorem dX0_nextFit_83 : decode cX0_nextFit 83 = .ok (.ldc2_w 56, 3) := by decide +kernel
theorem dX0_nextFit_86 : decode cX0_nextFit 86 = .ok (.ldiv, 1) := by decide +kernel
theorem dX0_nextFit_87 : decode cX0_nextFit 87 = .ok (.lconst 1, 1) := by decide +kernel
theorem dX0_nextFit_88 : decode cX0_nextFit 88 = .ok (.ladd, 1) := by decide +kernel
theorem dX0_nextFit_89 : decode cX0_nextFit 89 = .ok (.ldc2_w 56, 3) := by decide +kernel
theorem dX0_nextFit_92 : decode cX0_nextFit 92 = .ok (.lmul, 1) := by decide +kernel
theorem dX0_nextFit_93 : decode cX0_nextFit 93 = .ok (.lstore 4, 2) := by decide +kernel
theorem dX0_nextFit_95 : decode cX0_nextFit 95 = .ok (.goto 33, 3) := by decide +kernel
theorem dX0_nextFit_98 : decode cX0_nextFit 98 = .ok (.aload_n 0, 1) := by decide +kernel
theorem dX0_nextFit_99 : decode cX0_nextFit 99 = .ok (.aload_n 0, 1) := by decide +kernel
theorem dX0_nextFit_100 : decode cX0_nextFit 100 = .ok (.getfield 15, 3) := by decide +kernel
theorem dX0_nextFit_103 : decode cX0_nextFit 103 = .ok (.iload_n 1, 1) := by decide +kernel
theorem dX0_nextFit_104 : decode cX0_nextFit 104 = .ok (.iaload, 1) := by decide +kernel
theorem dX0_nextFit_105 : decode cX0_nextFit 105 = .ok (.lload 4, 2) := by decide +kernel
theorem dX0_nextFit_107 : decode cX0_nextFit 107 = .ok (.invokestatic 76, 3) := by decide +kernel
theorem dX0_nextFit_110 : decode cX0_nextFit 110 = .ok (.invokevirtual 69, 3) := by decide +kernel
theorem dX0_nextFit_113 : decode cX0_nextFit 113 = .ok (.ifCond .ne 12, 3) := by decide +kernel
theorem dX0_nextFit_116 : decode cX0_nextFit 116 = .ok (.lload 4, 2) := by decide +kernel
theorem dX0_nextFit_118 : decode cX0_nextFit 118 = .ok (.lconst 1, 1) := by decide +kernel
theorem dX0_nextFit_119 : decode cX0_nextFit 119 = .ok (.ladd, 1) := by decide +kernel
theorem dX0_nextFit_120 : decode cX0_nextFit 120 = .ok (.lstore 4, 2) := by decide +kernel
theorem dX0_nextFit_122 : decode cX0_nextFit 122 = .ok (.goto 6, 3) := by decide +kernel
theorem dX0_nextFit_125 : decode cX0_nextFit 125 = .ok (.lload 4, 2) := by decide +kernel
theorem dX0_nextFit_127 : decode cX0_nextFit 127 = .ok (.lreturn, 1) := by decide +kernel
theorem dX0_nextFit_128 : decode cX0_nextFit 128 = .ok (.iinc 6 1, 3) := by decide +kernel
theorem dX0_nextFit_131 : decode cX0_nextFit 131 = .ok (.goto (-111), 3) := by decide +kernel
theorem dX0_nextFit_134 : decode cX0_nextFit 134 = .ok (.ldc2_w 79, 3) := by decide +kernel
theorem dX0_nextFit_137 : decode cX0_nextFit 137 = .ok (.lreturn, 1) := by decide +kernel
set_option maxRecDepth 20000 in
theorem ggX1_init_X0_init : GoodIn wsX1_init wsX0_init := goodIn_r _ [27, 28, 2, 3, 29, 20, 30, 31, 32, 33, 52, 53, 54, 55, 56] (by decide +kernel) (by decide +kernel)
set_option maxRecDepth 20000 in
theorem gX1_init_X0_init_n68 : GoodIn wsX1_init (wsX0_init) := ggX1_init_X0_init
theorem dX1_init_0 : decode cX1_init 0 = .ok (.aload_n 0, 1) := by decide +kernel
theorem dX1_init_1 : decode cX1_init 1 = .ok (.invokespecial 3, 3) := by decide +kernel
theorem dX1_init_4 : decode cX1_init 4 = .ok (.aload_n 0, 1) := by decide +kernel
theorem dX1_init_5 : decode cX1_init 5 = .ok (.lconst 0, 1) := by decide +kernel
theorem dX1_init_6 : decode cX1_init 6 = .ok (.putfield 9, 3) := by decide +kernel
theorem dX1_init_9 : decode cX1_init 9 = .ok (.aload_n 0, 1) := by decide +kernel
theorem dX1_init_10 : decode cX1_init 10 = .ok (.lconst 0, 1) := by decide +kernel
theorem dX1_init_11 : decode cX1_init 11 = .ok (.putfield 15, 3) := by decide +kernel
theorem dX1_init_14 : decode cX1_init 14 = .ok (.aload_n 0, 1) := by decide +kernel
theorem dX1_init_15 : decode cX1_init 15 = .ok (.lconst 0, 1) := by decide +kernel
theorem dX1_init_16 : decode cX1_init 16 = .ok (.putfield 18, 3) := by decide +kernel
theorem dX1_init_19 : decode cX1_init 19 = .ok (.aload_n 0, 1) := by decide +kernel
theorem dX1_init_20 : decode cX1_init 20 = .ok (.bipush 25, 2) := by decide +kernel
theorem dX1_init_22 : decode cX1_init 22 = .ok (.putfield 21, 3) := by decide +kernel
theorem dX1_init_25 : decode cX1_init 25 = .ok (.aload_n 0, 1) := by decide +kernel
theorem dX1_init_26 : decode cX1_init 26 = .ok (.bipush 25, 2) := by decide +kernel
theorem dX1_init_28 : decode cX1_init 28 = .ok (.putfield 25, 3) := by decide +kernel
theorem dX1_init_31 : decode cX1_init 31 = .ok (.aload_n 0, 1) := by decide +kernel
theorem dX1_init_32 : decode cX1_init 32 = .ok (.iconst 3, 1) := by decide +kernel
theorem dX1_init_33 : decode cX1_init 33 = .ok (.putfield 28, 3) := by decide +kernel
theorem dX1_init_36 : decode cX1_init 36 = .ok (.aload_n 0, 1) := by decide +kernel
theorem dX1_init_37 : decode cX1_init 37 = .ok (.iconst 0, 1) := by decide +kernel
theorem dX1_init_38 : decode cX1_init 38 = .ok (.putfield 31, 3) := by decide +kernel
theorem dX1_init_41 : decode cX1_init 41 = .ok (.aload_n 0, 1) := by decide +kernel
theorem dX1_init_42 : decode cX1_init 42 = .ok (.iconst 0, 1) := by decide +kernel
theorem dX1_init_43 : decode cX1_init 43 = .ok (.putfield 34, 3) := by decide +kernel
theorem dX1_init_46 : decode cX1_init 46 = .ok (.aload_n 0, 1) := by decide +kernel
theorem dX1_init_47 : decode cX1_init 47 = .ok (.bipush 20, 2) := by decide +kernel
theorem dX1_init_49 : decode cX1_init 49 = .ok (.putfield 37, 3) := by decide +kernel
theorem dX1_init_52 : decode cX1_init 52 = .ok (.aload_n 0, 1) := by decide +kernel
theorem dX1_init_53 : decode cX1_init 53 = .ok (.iconst 0, 1) := by decide +kernel
theorem dX1_init_54 : decode cX1_init 54 = .ok (.putfield 40, 3) := by decide +kernel
theorem dX1_init_57 : decode cX1_init 57 = .ok (.aload_n 0, 1) := by decide +kernel
theorem dX1_init_58 : decode cX1_init 58 = .ok (.sipush 160, 3) := by decide +kernel
theorem dX1_init_61 : decode cX1_init 61 = .ok (.putfield 43, 3) := by decide +kernel
theorem dX1_init_64 : decode cX1_init 64 = .ok (.aload_n 0, 1) := by decide +kernel
theorem dX1_init_65 : decode cX1_init 65 = .ok (.iconst 1, 1) := by decide +kernel
theorem dX1_init_66 : decode cX1_init 66 = .ok (.putfield 46, 3) := by decide +kernel
theorem dX1_init_69 : decode cX1_init 69 = .ok (.aload_n 0, 1) := by decide +kernel
theorem dX1_init_70 : decode cX1_init 70 = .ok (.iconst 0, 1) := by decide +kernel
theorem dX1_init_71 : decode cX1_init 71 = .ok (.putfield 50, 3) := by decide +kernel
theorem dX1_init_74 : decode cX1_init 74 = .ok (.aload_n 0, 1) := by decide +kernel
theorem dX1_init_75 : decode cX1_init 75 = .ok (.iconst 0, 1) := by decide +kernel
theorem dX1_init_76 : decode cX1_init 76 = .ok (.putfield 53, 3) := by decide +kernel
theorem dX1_init_79 : decode cX1_init 79 = .ok (.aload_n 0, 1) := by decide +kernel
theorem dX1_init_80 : decode cX1_init 80 = .ok (.iconst 0, 1) := by decide +kernel
theorem dX1_init_81 : decode cX1_init 81 = .ok (.putfield 56, 3) := by decide +kernel
theorem dX1_init_84 : decode cX1_init 84 = .ok (.aload_n 0, 1) := by decide +kernel
theorem dX1_init_85 : decode cX1_init 85 = .ok (.iconst 0, 1) := by decide +kernel
theorem dX1_init_86 : decode cX1_init 86 = .ok (.putfield 59, 3) := by decide +kernel
theorem dX1_init_89 : decode cX1_init 89 = .ok (.aload_n 0, 1) := by decide +kernel
theorem dX1_init_90 : decode cX1_init 90 = .ok (.bipush 9, 2) := by decide +kernel
theorem dX1_init_92 : decode cX1_init 92 = .ok (.newarray .int, 2) := by decide +kernel
theorem dX1_init_94 : decode cX1_init 94 = .ok (.putfield 62, 3) := by decide +kernel
theorem dX1_init_97 : decode cX1_init 97 = .ok (.aload_n 0, 1) := by decide +kernel
theorem dX1_init_98 : decode cX1_init 98 = .ok (.new 66, 3) := by decide +kernel
theorem dX1_init_101 : decode cX1_init 101 = .ok (.dup, 1) := by decide +kernel
theorem dX1_init_102 : decode cX1_init 102 = .ok (.invokespecial 68, 3) := by decide +kernel
theorem dX1_init_105 : decode cX1_init 105 = .ok (.putfield 69, 3) := by decide +kernel
theorem dX1_init_108 : decode cX1_init 108 = .ok (.return_, 1) := by decide +kernel
set_option maxRecDepth 20000 in
theorem ggX1_copyFrom_X0_copyFrom : GoodIn wsX1_copyFrom wsX0_copyFrom := goodIn_r _ [27, 28, 29, 30, 19, 20, 21, 31, 32, 33, 52, 53, 54, 55, 56] (by decide +kernel) (by decide +kernel)
set_option maxRecDepth 20000 in
theorem gX1_copyFrom_X0_copyFrom : GoodIn wsX1_copyFrom (wsV RX1 79 RX0 yX0_copyFrom wsX0_copyFrom) := goodIn_app (goodIn_of _ (by decide +kernel)) ggX1_copyFrom_X0_copyFrom
theorem dX1_copyFrom_0 : decode cX1_copyFrom 0 = .ok (.aload_n 0, 1) := by decide +kernel
theorem dX1_copyFrom_1 : decode cX1_copyFrom 1 = .ok (.aload_n 1, 1) := by decide +kernel
theorem dX1_copyFrom_2 : decode cX1_copyFrom 2 = .ok (.getfield 9, 3) := by decide +kernel
theorem dX1_copyFrom_5 : decode cX1_copyFrom 5 = .ok (.putfield 9, 3) := by decide +kernel
theorem dX1_copyFrom_8 : decode cX1_copyFrom 8 = .ok (.aload_n 0, 1) := by decide +kernel
theorem dX1_copyFrom_9 : decode cX1_copyFrom 9 = .ok (.aload_n 1, 1) := by decide +kernel
theorem dX1_copyFrom_10 : decode cX1_copyFrom 10 = .ok (.getfield 15, 3) := by decide +kernel
theorem dX1_copyFrom_13 : decode cX1_copyFrom 13 = .ok (.putfield 15, 3) := by decide +kernel
theorem dX1_copyFrom_16 : decode cX1_copyFrom 16 = .ok (.aload_n 0, 1) := by decide +kernel
theorem dX1_copyFrom_17 : decode cX1_copyFrom 17 = .ok (.aload_n 1, 1) := by decide +kernel
theorem dX1_copyFrom_18 : decode cX1_copyFrom 18 = .ok (.getfield 18, 3) := by decide +kernel
theorem dX1_copyFrom_21 : decode cX1_copyFrom 21 = .ok (.putfield 18, 3) := by decide +kernel
theorem dX1_copyFrom_24 : decode cX1_copyFrom 24 = .ok (.aload_n 0, 1) := by decide +kernel
theorem dX1_copyFrom_25 : decode cX1_copyFrom 25 = .ok (.aload_n 1, 1) := by decide +kernel
theorem dX1_copyFrom_26 : decode cX1_copyFrom 26 = .ok (.getfield 21, 3) := by decide +kernel
theorem dX1_copyFrom_29 : decode cX1_copyFrom 29 = .ok (.putfield 21, 3) := by decide +kernel
theorem dX1_copyFrom_32 : decode cX1_copyFrom 32 = .ok (.aload_n 0, 1) := by decide +kernel
theorem dX1_copyFrom_33 : decode cX1_copyFrom 33 = .ok (.aload_n 1, 1) := by decide +kernel
theorem dX1_copyFrom_34 : decode cX1_copyFrom 34 = .ok (.getfield 25, 3) := by decide +kernel
theorem dX1_copyFrom_37 : decode cX1_copyFrom 37 = .ok (.putfield 25, 3) := by decide +kernel
theorem dX1_copyFrom_40 : decode cX1_copyFrom 40 = .ok (.aload_n 0, 1) := by decide +kernel
theorem dX1_copyFrom_41 : decode cX1_copyFrom 41 = .ok (.aload_n 1, 1) := by decide +kernel
theorem dX1_copyFrom_42 : decode cX1_copyFrom 42 = .ok (.getfield 28, 3) := by decide +kernel
theorem dX1_copyFrom_45 : decode cX1_copyFrom 45 = .ok (.putfield 28, 3) := by decide +kernel
theorem dX1_copyFrom_48 : decode cX1_copyFrom 48 = .ok (.aload_n 0, 1) := by decide +kernel
theorem dX1_copyFrom_49 : decode cX1_copyFrom 49 = .ok (.aload_n 1, 1) := by decide +kernel
theorem dX1_copyFrom_50 : decode cX1_copyFrom 50 = .ok (.getfield 31, 3) := by decide +kernel
theorem dX1_copyFrom_53 : decode cX1_copyFrom 53 = .ok (.putfield 31, 3) := by decide +kernel
theorem dX1_copyFrom_56 : decode cX1_copyFrom 56 = .ok (.aload_n 0, 1) := by decide +kernel
theorem dX1_copyFrom_57 : decode cX1_copyFrom 57 = .ok (.aload_n 1, 1) := by decide +kernel
theorem dX1_copyFrom_58 : decode cX1_copyFrom 58 = .ok (.getfield 34, 3) := by decide +kernel
theorem dX1_copyFrom_61 : decode cX1_copyFrom 61 = .ok (.putfield 34, 3) := by decide +kernel
theorem dX1_copyFrom_64 : decode cX1_copyFrom 64 = .ok (.aload_n 0, 1) := by decide +kernel
theorem dX1_copyFrom_65 : decode cX1_copyFrom 65 = .ok (.aload_n 1, 1) := by decide +kernel
theorem dX1_copyFrom_66 : decode cX1_copyFrom 66 = .ok (.getfield 37, 3) := by decide +kernel
theorem dX1_copyFrom_69 : decode cX1_copyFrom 69 = .ok (.putfield 37, 3) := by decide +kernel
theorem dX1_copyFrom_72 : decode cX1_copyFrom 72 = .ok (.aload_n 0, 1) := by decide +kernel
theorem dX1_copyFrom_73 : decode cX1_copyFrom 73 = .ok (.aload_n 1, 1) := by decide +kernel
theorem dX1_copyFrom_74 : decode cX1_copyFrom 74 = .ok (.getfield 40, 3) := by decide +kernel
theorem dX1_copyFrom_77 : decode cX1_copyFrom 77 = .ok (.putfield 40, 3) := by decide +kernel
theorem dX1_copyFrom_80 : decode cX1_copyFrom 80 = .ok (.aload_n 0, 1) := by decide +kernel
theorem dX1_copyFrom_81 : decode cX1_copyFrom 81 = .ok (.aload_n 1, 1) := by decide +kernel
theorem dX1_copyFrom_82 : decode cX1_copyFrom 82 = .ok (.getfield 43, 3) := by decide +kernel
theorem dX1_copyFrom_85 : decode cX1_copyFrom 85 = .ok (.putfield 43, 3) := by decide +kernel
theorem dX1_copyFrom_88 : decode cX1_copyFrom 88 = .ok (.aload_n 0, 1) := by decide +kernel
theorem dX1_copyFrom_89 : decode cX1_copyFrom 89 = .ok (.aload_n 1, 1) := by decide +kernel
theorem dX1_copyFrom_90 : decode cX1_copyFrom 90 = .ok (.getfield 46, 3) := by decide +kernel
theorem dX1_copyFrom_93 : decode cX1_copyFrom 93 = .ok (.putfield 46, 3) := by decide +kernel
theorem dX1_copyFrom_96 : decode cX1_copyFrom 96 = .ok (.aload_n 0, 1) := by decide +kernel
theorem dX1_copyFrom_97 : decode cX1_copyFrom 97 = .ok (.aload_n 1, 1) := by decide +kernel
theorem dX1_copyFrom_98 : decode cX1_copyFrom 98 = .ok (.getfield 50, 3) := by decide +kernel
theorem dX1_copyFrom_101 : decode cX1_copyFrom 101 = .ok (.putfield 50, 3) := by decide +kernel
theorem dX1_copyFrom_104 : decode cX1_copyFrom 104 = .ok (.aload_n 0, 1) := by decide +kernel
theorem dX1_copyFrom_105 : decode cX1_copyFrom 105 = .ok (.aload_n 1, 1) := by decide +kernel
theorem dX1_copyFrom_106 : decode cX1_copyFrom 106 = .ok (.getfield 53, 3) := by decide +kernel
theorem dX1_copyFrom_109 : decode cX1_copyFrom 109 = .ok (.putfield 53, 3) := by decide +kernel
theorem dX1_copyFrom_112 : decode cX1_copyFrom 112 = .ok (.aload_n 0, 1) := by decide +kernel
theorem dX1_copyFrom_113 : decode cX1_copyFrom 113 = .ok (.aload_n 1, 1) := by decide +kernel
theorem dX1_copyFrom_114 : decode cX1_copyFrom 114 = .ok (.getfield 56, 3) := by decide +kernel
theorem dX1_copyFrom_117 : decode cX1_copyFrom 117 = .ok (.putfield 56, 3) := by decide +kernel
theorem dX1_copyFrom_120 : decode cX1_copyFrom 120 = .ok (.aload_n 0, 1) := by decide +kernel
theorem dX1_copyFrom_121 : decode cX1_copyFrom 121 = .ok (.aload_n 1, 1) := by decide +kernel
theorem dX1_copyFrom_122 : decode cX1_copyFrom 122 = .ok (.getfield 59, 3) := by decide +kernel
theorem dX1_copyFrom_125 : decode cX1_copyFrom 125 = .ok (.putfield 59, 3) := by decide +kernel
theorem dX1_copyFrom_128 : decode cX1_copyFrom 128 = .ok (.aload_n 1, 1) := by decide +kernel
theorem dX1_copyFrom_129 : decode cX1_copyFrom 129 = .ok (.getfield 62, 3) := by decide +kernel
theorem dX1_copyFrom_132 : decode cX1_copyFrom 132 = .ok (.iconst 0, 1) := by decide +kernel
theorem dX1_copyFrom_133 : decode cX1_copyFrom 133 = .ok (.aload_n 0, 1) := by decide +kernel
theorem dX1_copyFrom_134 : decode cX1_copyFrom 134 = .ok (.getfield 62, 3) := by decide +kernel
theorem dX1_copyFrom_137 : decode cX1_copyFrom 137 = .ok (.iconst 0, 1) := by decide +kernel
theorem dX1_copyFrom_138 : decode cX1_copyFrom 138 = .ok (.bipush 9, 2) := by decide +kernel
theorem dX1_copyFrom_140 : decode cX1_copyFrom 140 = .ok (.invokestatic 73, 3) := by decide +kernel
theorem dX1_copyFrom_143 : decode cX1_copyFrom 143 = .ok (.aload_n 0, 1) := by decide +kernel
theorem dX1_copyFrom_144 : decode cX1_copyFrom 144 = .ok (.getfield 69, 3) := by decide +kernel
theorem dX1_copyFrom_147 : decode cX1_copyFrom 147 = .ok (.aload_n 1, 1) := by decide +kernel
theorem dX1_copyFrom_148 : decode cX1_copyFrom 148 = .ok (.getfield 69, 3) := by decide +kernel
theorem dX1_copyFrom_151 : decode cX1_copyFrom 151 = .ok (.invokevirtual 79, 3) := by decide +kernel
theorem dX1_copyFrom_154 : decode cX1_copyFrom 154 = .ok (.return_, 1) := by decide +kernel
theorem dX1_aim_0 : decode cX1_aim 0 = .ok (.aload_n 0, 1) := by decide +kernel
theorem dX1_aim_1 : decode cX1_aim 1 = .ok (.getfield 15, 3) := by decide +kernel
theorem dX1_aim_4 : decode cX1_aim 4 = .ok (.aload_n 0, 1) := by decide +kernel
theorem dX1_aim_5 : decode cX1_aim 5 = .ok (.getfield 18, 3) := by decide +kernel
theorem dX1_aim_8 : decode cX1_aim 8 = .ok (.ladd, 1) := by decide +kernel
theorem dX1_aim_9 : decode cX1_aim 9 = .ok (.lreturn, 1) := by decide +kernel
theorem dX1_minuteNumber_0 : decode cX1_minuteNumber 0 = .ok (.aload_n 0, 1) := by decide +kernel
theorem dX1_minuteNumber_1 : decode cX1_minuteNumber 1 = .ok (.getfield 15, 3) := by decide +kernel
theorem dX1_minuteNumber_4 : decode cX1_minuteNumber 4 = .ok (.ldc2_w 83, 3) := by decide +kernel
theorem dX1_minuteNumber_7 : decode cX1_minuteNumber 7 = .ok (.ldiv, 1) := by decide +kernel
theorem dX1_minuteNumber_8 : decode cX1_minuteNumber 8 = .ok (.lreturn, 1) := by decide +kernel
theorem dX1_offAt_0 : decode cX1_offAt 0 = .ok (.iload_n 1, 1) := by decide +kernel
theorem dX1_offAt_1 : decode cX1_offAt 1 = .ok (.aload_n 0, 1) := by decide +kernel
theorem dX1_offAt_2 : decode cX1_offAt 2 = .ok (.getfield 25, 3) := by decide +kernel
theorem dX1_offAt_5 : decode cX1_offAt 5 = .ok (.isub, 1) := by decide +kernel
theorem dX1_offAt_6 : decode cX1_offAt 6 = .ok (.istore_n 2, 1) := by decide +kernel
theorem dX1_offAt_7 : decode cX1_offAt 7 = .ok (.aload_n 0, 1) := by decide +kernel
theorem dX1_offAt_8 : decode cX1_offAt 8 = .ok (.getfield 31, 3) := by decide +kernel
theorem dX1_offAt_11 : decode cX1_offAt 11 = .ok (.aload_n 0, 1) := by decide +kernel
theorem dX1_offAt_12 : decode cX1_offAt 12 = .ok (.getfield 28, 3) := by decide +kernel
theorem dX1_offAt_15 : decode cX1_offAt 15 = .ok (.iload_n 2, 1) := by decide +kernel
theorem dX1_offAt_16 : decode cX1_offAt 16 = .ok (.imul, 1) := by decide +kernel
theorem dX1_offAt_17 : decode cX1_offAt 17 = .ok (.iload_n 2, 1) := by decide +kernel
theorem dX1_offAt_18 : decode cX1_offAt 18 = .ok (.imul, 1) := by decide +kernel
theorem dX1_offAt_19 : decode cX1_offAt 19 = .ok (.bipush 100, 2) := by decide +kernel
theorem dX1_offAt_21 : decode cX1_offAt 21 = .ok (.idiv, 1) := by decide +kernel
theorem dX1_offAt_22 : decode cX1_offAt 22 = .ok (.isub, 1) := by decide +kernel
theorem dX1_offAt_23 : decode cX1_offAt 23 = .ok (.ireturn, 1) := by decide +kernel
set_option maxRecDepth 20000 in
theorem ggX1_fitOf_X1_learnedOf : GoodIn wsX1_fitOf wsX1_learnedOf := goodIn_r _ [5, 6, 7, 8, 9, 17, 18, 19, 20, 21, 22, 23, 24, 25, 26, 27, 28, 29, 30, 31, 32, 33, 34] (by decide +kernel) (by decide +kernel)
set_option maxRecDepth 20000 in
theorem gX1_fitOf_X1_learnedOf : GoodIn wsX1_fitOf (wsV RX1 85 RX1 yX1_learnedOf wsX1_learnedOf) := goodIn_app (goodIn_of _ (by decide +kernel)) ggX1_fitOf_X1_learnedOf
set_option maxRecDepth 20000 in
theorem ggX1_fitOf_X1_offAt : GoodIn wsX1_fitOf wsX1_offAt := goodIn_r _ [13, 14, 15, 16, 17, 18, 19, 20, 21, 22, 23, 24, 25, 26, 27, 28, 29, 30, 31, 32, 33, 34] (by decide +kernel) (by decide +kernel)
set_option maxRecDepth 20000 in
theorem gX1_fitOf_X1_offAt : GoodIn wsX1_fitOf (wsV RX1 89 RX1 yX1_offAt wsX1_offAt) := goodIn_app (goodIn_of _ (by decide +kernel)) ggX1_fitOf_X1_offAt
theorem dX1_fitOf_0 : decode cX1_fitOf 0 = .ok (.bipush (-20), 2) := by decide +kernel
theorem dX1_fitOf_2 : decode cX1_fitOf 2 = .ok (.iload_n 1, 1) := by decide +kernel
theorem dX1_fitOf_3 : decode cX1_fitOf 3 = .ok (.bipush 10, 2) := by decide +kernel
theorem dX1_fitOf_5 : decode cX1_fitOf 5 = .ok (.imul, 1) := by decide +kernel
theorem dX1_fitOf_6 : decode cX1_fitOf 6 = .ok (.iadd, 1) := by decide +kernel
theorem dX1_fitOf_7 : decode cX1_fitOf 7 = .ok (.iconst 5, 1) := by decide +kernel
theorem dX1_fitOf_8 : decode cX1_fitOf 8 = .ok (.iadd, 1) := by decide +kernel
theorem dX1_fitOf_9 : decode cX1_fitOf 9 = .ok (.istore_n 2, 1) := by decide +kernel
theorem dX1_fitOf_10 : decode cX1_fitOf 10 = .ok (.aload_n 0, 1) := by decide +kernel
theorem dX1_fitOf_11 : decode cX1_fitOf 11 = .ok (.iload_n 1, 1) := by decide +kernel
theorem dX1_fitOf_12 : decode cX1_fitOf 12 = .ok (.invokevirtual 85, 3) := by decide +kernel
theorem dX1_fitOf_15 : decode cX1_fitOf 15 = .ok (.bipush 16, 2) := by decide +kernel
theorem dX1_fitOf_17 : decode cX1_fitOf 17 = .ok (.aload_n 0, 1) := by decide +kernel
theorem dX1_fitOf_18 : decode cX1_fitOf 18 = .ok (.iload_n 2, 1) := by decide +kernel
theorem dX1_fitOf_19 : decode cX1_fitOf 19 = .ok (.invokevirtual 89, 3) := by decide +kernel
theorem dX1_fitOf_22 : decode cX1_fitOf 22 = .ok (.imul, 1) := by decide +kernel
theorem dX1_fitOf_23 : decode cX1_fitOf 23 = .ok (.isub, 1) := by decide +kernel
theorem dX1_fitOf_24 : decode cX1_fitOf 24 = .ok (.ireturn, 1) := by decide +kernel
set_option maxRecDepth 20000 in
theorem ggX1_learnedOf_X2_isSpan : GoodIn wsX1_learnedOf wsX2_isSpan := goodIn_r _ [4] (by decide +kernel) (by decide +kernel)
set_option maxRecDepth 20000 in
theorem gX1_learnedOf_X2_isSpan_n92 : GoodIn wsX1_learnedOf (wsX2_isSpan) := ggX1_learnedOf_X2_isSpan
theorem dX1_learnedOf_0 : decode cX1_learnedOf 0 = .ok (.iload_n 1, 1) := by decide +kernel
theorem dX1_learnedOf_1 : decode cX1_learnedOf 1 = .ok (.invokestatic 92, 3) := by decide +kernel
theorem dX1_learnedOf_4 : decode cX1_learnedOf 4 = .ok (.ifCond .eq 12, 3) := by decide +kernel
theorem dX1_learnedOf_7 : decode cX1_learnedOf 7 = .ok (.aload_n 0, 1) := by decide +kernel
theorem dX1_learnedOf_8 : decode cX1_learnedOf 8 = .ok (.getfield 62, 3) := by decide +kernel
theorem dX1_learnedOf_11 : decode cX1_learnedOf 11 = .ok (.iload_n 1, 1) := by decide +kernel
theorem dX1_learnedOf_12 : decode cX1_learnedOf 12 = .ok (.iaload, 1) := by decide +kernel
theorem dX1_learnedOf_13 : decode cX1_learnedOf 13 = .ok (.goto 4, 3) := by decide +kernel
theorem dX1_learnedOf_16 : decode cX1_learnedOf 16 = .ok (.iconst 0, 1) := by decide +kernel
theorem dX1_learnedOf_17 : decode cX1_learnedOf 17 = .ok (.ireturn, 1) := by decide +kernel
set_option maxRecDepth 20000 in
theorem ggX1_isWithinBounds_X1_aim : GoodIn wsX1_isWithinBounds wsX1_aim := goodIn_r _ [12, 13, 14, 15, 16, 17, 18, 19, 20, 21, 22, 23, 24, 25, 26, 27, 28, 29, 30, 31, 32] (by decide +kernel) (by decide +kernel)
set_option maxRecDepth 20000 in
theorem gX1_isWithinBounds_X1_aim : GoodIn wsX1_isWithinBounds (wsV RX1 96 RX1 yX1_aim wsX1_aim) := goodIn_app (goodIn_of _ (by decide +kernel)) ggX1_isWithinBounds_X1_aim
theorem dX1_isWithinBounds_0 : decode cX1_isWithinBounds 0 = .ok (.aload_n 0, 1) := by decide +kernel
theorem dX1_isWithinBounds_1 : decode cX1_isWithinBounds 1 = .ok (.getfield 9, 3) := by decide +kernel
theorem dX1_isWithinBounds_4 : decode cX1_isWithinBounds 4 = .ok (.aload_n 0, 1) := by decide +kernel
theorem dX1_isWithinBounds_5 : decode cX1_isWithinBounds 5 = .ok (.invokevirtual 96, 3) := by decide +kernel
theorem dX1_isWithinBounds_8 : decode cX1_isWithinBounds 8 = .ok (.lsub, 1) := by decide +kernel
theorem dX1_isWithinBounds_9 : decode cX1_isWithinBounds 9 = .ok (.invokestatic 100, 3) := by decide +kernel
theorem dX1_isWithinBounds_12 : decode cX1_isWithinBounds 12 = .ok (.ldc2_w 106, 3) := by decide +kernel
theorem dX1_isWithinBounds_15 : decode cX1_isWithinBounds 15 = .ok (.lmul, 1) := by decide +kernel
theorem dX1_isWithinBounds_16 : decode cX1_isWithinBounds 16 = .ok (.aload_n 0, 1) := by decide +kernel
theorem dX1_isWithinBounds_17 : decode cX1_isWithinBounds 17 = .ok (.getfield 40, 3) := by decide +kernel
theorem dX1_isWithinBounds_20 : decode cX1_isWithinBounds 20 = .ok (.i2l, 1) := by decide +kernel
theorem dX1_isWithinBounds_21 : decode cX1_isWithinBounds 21 = .ok (.lcmp, 1) := by decide +kernel
theorem dX1_isWithinBounds_22 : decode cX1_isWithinBounds 22 = .ok (.ifCond .gt 7, 3) := by decide +kernel
theorem dX1_isWithinBounds_25 : decode cX1_isWithinBounds 25 = .ok (.iconst 1, 1) := by decide +kernel
theorem dX1_isWithinBounds_26 : decode cX1_isWithinBounds 26 = .ok (.goto 4, 3) := by decide +kernel
theorem dX1_isWithinBounds_29 : decode cX1_isWithinBounds 29 = .ok (.iconst 0, 1) := by decide +kernel
theorem dX1_isWithinBounds_30 : decode cX1_isWithinBounds 30 = .ok (.ireturn, 1) := by decide +kernel
set_option maxRecDepth 20000 in
theorem ggX1_sixteenthsAfter_X2_spanOf : GoodIn wsX1_sixteenthsAfter wsX2_spanOf := goodIn_r _ [5] (by decide +kernel) (by decide +kernel)
set_option maxRecDepth 20000 in
theorem gX1_sixteenthsAfter_X2_spanOf_n108 : GoodIn wsX1_sixteenthsAfter (wsX2_spanOf) := ggX1_sixteenthsAfter_X2_spanOf
set_option maxRecDepth 20000 in
theorem ggX1_sixteenthsAfter_X1_learnedOf : GoodIn wsX1_sixteenthsAfter wsX1_learnedOf := goodIn_r _ [10, 11, 12, 4, 13, 14, 15, 16, 17, 18, 19, 20, 21, 22, 23, 24, 25, 26, 27, 28, 29, 30, 31] (by decide +kernel) (by decide +kernel)
set_option maxRecDepth 20000 in
theorem gX1_sixteenthsAfter_X1_learnedOf : GoodIn wsX1_sixteenthsAfter (wsV RX1 85 RX1 yX1_learnedOf wsX1_learnedOf) := goodIn_app (goodIn_of _ (by decide +kernel)) ggX1_sixteenthsAfter_X1_learnedOf
theorem dX1_sixteenthsAfter_0 : decode cX1_sixteenthsAfter 0 = .ok (.aload_n 0, 1) := by decide +kernel
theorem dX1_sixteenthsAfter_1 : decode cX1_sixteenthsAfter 1 = .ok (.getfield 34, 3) := by decide +kernel
theorem dX1_sixteenthsAfter_4 : decode cX1_sixteenthsAfter 4 = .ok (.i2l, 1) := by decide +kernel
theorem dX1_sixteenthsAfter_5 : decode cX1_sixteenthsAfter 5 = .ok (.iload_n 1, 1) := by decide +kernel
theorem dX1_sixteenthsAfter_6 : decode cX1_sixteenthsAfter 6 = .ok (.i2l, 1) := by decide +kernel
theorem dX1_sixteenthsAfter_7 : decode cX1_sixteenthsAfter 7 = .ok (.aload_n 0, 1) := by decide +kernel
theorem dX1_sixteenthsAfter_8 : decode cX1_sixteenthsAfter 8 = .ok (.aload_n 0, 1) := by decide +kernel
theorem dX1_sixteenthsAfter_9 : decode cX1_sixteenthsAfter 9 = .ok (.getfield 21, 3) := by decide +kernel
theorem dX1_sixteenthsAfter_12 : decode cX1_sixteenthsAfter 12 = .ok (.invokestatic 108, 3) := by decide +kernel
theorem dX1_sixteenthsAfter_15 : decode cX1_sixteenthsAfter 15 = .ok (.invokevirtual 85, 3) := by decide +kernel
theorem dX1_sixteenthsAfter_18 : decode cX1_sixteenthsAfter 18 = .ok (.i2l, 1) := by decide +kernel
theorem dX1_sixteenthsAfter_19 : decode cX1_sixteenthsAfter 19 = .ok (.lmul, 1) := by decide +kernel
theorem dX1_sixteenthsAfter_20 : decode cX1_sixteenthsAfter 20 = .ok (.lsub, 1) := by decide +kernel
theorem dX1_sixteenthsAfter_21 : decode cX1_sixteenthsAfter 21 = .ok (.lreturn, 1) := by decide +kernel
set_option maxRecDepth 20000 in
theorem ggX1_stepsAfter_X2_heldBetween : GoodIn wsX1_stepsAfter wsX2_heldBetween := goodIn_r _ [5, 6, 7, 8, 9, 10, 11, 12] (by decide +kernel) (by decide +kernel)
set_option maxRecDepth 20000 in
theorem gX1_stepsAfter_X2_heldBetween_n111 : GoodIn wsX1_stepsAfter (wsX2_heldBetween) := ggX1_stepsAfter_X2_heldBetween
theorem dX1_stepsAfter_0 : decode cX1_stepsAfter 0 = .ok (.iload_n 1, 1) := by decide +kernel
theorem dX1_stepsAfter_1 : decode cX1_stepsAfter 1 = .ok (.i2l, 1) := by decide +kernel
theorem dX1_stepsAfter_2 : decode cX1_stepsAfter 2 = .ok (.aload_n 0, 1) := by decide +kernel
theorem dX1_stepsAfter_3 : decode cX1_stepsAfter 3 = .ok (.getfield 37, 3) := by decide +kernel
theorem dX1_stepsAfter_6 : decode cX1_stepsAfter 6 = .ok (.i2l, 1) := by decide +kernel
theorem dX1_stepsAfter_7 : decode cX1_stepsAfter 7 = .ok (.lmul, 1) := by decide +kernel
theorem dX1_stepsAfter_8 : decode cX1_stepsAfter 8 = .ok (.lstore_n 2, 1) := by decide +kernel
theorem dX1_stepsAfter_9 : decode cX1_stepsAfter 9 = .ok (.aload_n 0, 1) := by decide +kernel
theorem dX1_stepsAfter_10 : decode cX1_stepsAfter 10 = .ok (.getfield 18, 3) := by decide +kernel
theorem dX1_stepsAfter_13 : decode cX1_stepsAfter 13 = .ok (.lload_n 2, 1) := by decide +kernel
theorem dX1_stepsAfter_14 : decode cX1_stepsAfter 14 = .ok (.lneg, 1) := by decide +kernel
theorem dX1_stepsAfter_15 : decode cX1_stepsAfter 15 = .ok (.lload_n 2, 1) := by decide +kernel
theorem dX1_stepsAfter_16 : decode cX1_stepsAfter 16 = .ok (.invokestatic 111, 3) := by decide +kernel
theorem dX1_stepsAfter_19 : decode cX1_stepsAfter 19 = .ok (.lreturn, 1) := by decide +kernel
set_option maxRecDepth 20000 in
theorem ggX1_boardTimeAfter_X1_offAt : GoodIn wsX1_boardTimeAfter wsX1_offAt := goodIn_r _ [10, 11, 12, 13, 48, 49, 50, 51, 52, 53, 54, 55, 56, 57, 58, 59, 60, 61, 62, 63, 64, 65] (by decide +kernel) (by decide +kernel)
set_option maxRecDepth 20000 in
theorem gX1_boardTimeAfter_X1_offAt : GoodIn wsX1_boardTimeAfter (wsV RX1 89 RX1 yX1_offAt wsX1_offAt) := goodIn_app (goodIn_of _ (by decide +kernel)) ggX1_boardTimeAfter_X1_offAt
set_option maxRecDepth 20000 in
theorem ggX1_boardTimeAfter_X1_sixteenthsAfter : GoodIn wsX1_boardTimeAfter wsX1_sixteenthsAfter := goodIn_r _ [17, 18, 3, 19, 20, 21, 22, 23, 24, 9, 25, 26, 27, 28, 48, 49, 50, 51, 52, 53, 54, 55, 56, 57, 58, 59, 60, 61, 62, 63, 64, 65] (by decide +kernel) (by decide +kernel)
set_option maxRecDepth 20000 in
theorem gX1_boardTimeAfter_X1_sixteenthsAfter : GoodIn wsX1_boardTimeAfter (wsV RX1 115 RX1 yX1_sixteenthsAfter wsX1_sixteenthsAfter) := goodIn_app (goodIn_of _ (by decide +kernel)) ggX1_boardTimeAfter_X1_sixteenthsAfter
set_option maxRecDepth 20000 in
theorem ggX1_boardTimeAfter_J9_floorDiv_f86c9 : GoodIn wsX1_boardTimeAfter wsJ9_floorDiv_f86c9 := goodIn_r _ [32] (by decide +kernel) (by decide +kernel)
set_option maxRecDepth 20000 in
theorem gX1_boardTimeAfter_J9_floorDiv_f86c9 : GoodIn wsX1_boardTimeAfter (va_wsS RX1 119 yJ9_floorDiv_f86c9 wsJ9_floorDiv_f86c9) := goodIn_app (goodIn_of _ (by decide +kernel)) ggX1_boardTimeAfter_J9_floorDiv_f86c9
set_option maxRecDepth 20000 in
theorem ggX1_boardTimeAfter_X1_stepsAfter : GoodIn wsX1_boardTimeAfter wsX1_stepsAfter := goodIn_r _ [36, 37, 38, 39, 20, 40, 41, 42, 43, 44, 45, 46, 47, 48, 49, 50, 51, 52, 53, 54, 55, 56, 57, 58, 59, 60, 61, 62, 63, 64, 65] (by decide +kernel) (by decide +kernel)
set_option maxRecDepth 20000 in
theorem gX1_boardTimeAfter_X1_stepsAfter : GoodIn wsX1_boardTimeAfter (wsV RX1 123 RX1 yX1_stepsAfter wsX1_stepsAfter) := goodIn_app (goodIn_of _ (by decide +kernel)) ggX1_boardTimeAfter_X1_stepsAfter
theorem dX1_boardTimeAfter_0 : decode cX1_boardTimeAfter 0 = .ok (.aload_n 0, 1) := by decide +kernel
theorem dX1_boardTimeAfter_1 : decode cX1_boardTimeAfter 1 = .ok (.getfield 15, 3) := by decide +kernel
theorem dX1_boardTimeAfter_4 : decode cX1_boardTimeAfter 4 = .ok (.iload_n 1, 1) := by decide +kernel
theorem dX1_boardTimeAfter_5 : decode cX1_boardTimeAfter 5 = .ok (.i2l, 1) := by decide +kernel
theorem dX1_boardTimeAfter_6 : decode cX1_boardTimeAfter 6 = .ok (.ldc2_w 83, 3) := by decide +kernel
theorem dX1_boardTimeAfter_9 : decode cX1_boardTimeAfter 9 = .ok (.aload_n 0, 1) := by decide +kernel
theorem dX1_boardTimeAfter_10 : decode cX1_boardTimeAfter 10 = .ok (.aload_n 0, 1) := by decide +kernel
theorem dX1_boardTimeAfter_11 : decode cX1_boardTimeAfter 11 = .ok (.getfield 21, 3) := by decide +kernel
theorem dX1_boardTimeAfter_14 : decode cX1_boardTimeAfter 14 = .ok (.invokevirtual 89, 3) := by decide +kernel
theorem dX1_boardTimeAfter_17 : decode cX1_boardTimeAfter 17 = .ok (.i2l, 1) := by decide +kernel
theorem dX1_boardTimeAfter_18 : decode cX1_boardTimeAfter 18 = .ok (.ladd, 1) := by decide +kernel
theorem dX1_boardTimeAfter_19 : decode cX1_boardTimeAfter 19 = .ok (.lmul, 1) := by decide +kernel
theorem dX1_boardTimeAfter_20 : decode cX1_boardTimeAfter 20 = .ok (.ladd, 1) := by decide +kernel
theorem dX1_boardTimeAfter_21 : decode cX1_boardTimeAfter 21 = .ok (.lstore_n 2, 1) := by decide +kernel
theorem dX1_boardTimeAfter_22 : decode cX1_boardTimeAfter 22 = .ok (.aload_n 0, 1) := by decide +kernel
theorem dX1_boardTimeAfter_23 : decode cX1_boardTimeAfter 23 = .ok (.getfield 46, 3) := by decide +kernel
theorem dX1_boardTimeAfter_26 : decode cX1_boardTimeAfter 26 = .ok (.ifCond .ne 5, 3) := by decide +kernel
theorem dX1_boardTimeAfter_29 : decode cX1_boardTimeAfter 29 = .ok (.lload_n 2, 1) := by decide +kernel
theorem dX1_boardTimeAfter_30 : decode cX1_boardTimeAfter 30 = .ok (.lreturn, 1) := by decide +kernel
theorem dX1_boardTimeAfter_31 : decode cX1_boardTimeAfter 31 = .ok (.lload_n 2, 1) := by decide +kernel
theorem dX1_boardTimeAfter_32 : decode cX1_boardTimeAfter 32 = .ok (.aload_n 0, 1) := by decide +kernel
theorem dX1_boardTimeAfter_33 : decode cX1_boardTimeAfter 33 = .ok (.iload_n 1, 1) := by decide +kernel
theorem dX1_boardTimeAfter_34 : decode cX1_boardTimeAfter 34 = .ok (.invokevirtual 115, 3) := by decide +kernel
theorem dX1_boardTimeAfter_37 : decode cX1_boardTimeAfter 37 = .ok (.ldc2_w 106, 3) := by decide +kernel
theorem dX1_boardTimeAfter_40 : decode cX1_boardTimeAfter 40 = .ok (.invokestatic 119, 3) := by decide +kernel
theorem dX1_boardTimeAfter_43 : decode cX1_boardTimeAfter 43 = .ok (.ladd, 1) := by decide +kernel
theorem dX1_boardTimeAfter_44 : decode cX1_boardTimeAfter 44 = .ok (.aload_n 0, 1) := by decide +kernel
theorem dX1_boardTimeAfter_45 : decode cX1_boardTimeAfter 45 = .ok (.iload_n 1, 1) := by decide +kernel
theorem dX1_boardTimeAfter_46 : decode cX1_boardTimeAfter 46 = .ok (.invokevirtual 123, 3) := by decide +kernel
theorem dX1_boardTimeAfter_49 : decode cX1_boardTimeAfter 49 = .ok (.ladd, 1) := by decide +kernel
theorem dX1_boardTimeAfter_50 : decode cX1_boardTimeAfter 50 = .ok (.lreturn, 1) := by decide +kernel
theorem dX1_widthPerTick_0 : decode cX1_widthPerTick 0 = .ok (.aload_n 0, 1) := by decide +kernel
theorem dX1_widthPerTick_1 : decode cX1_widthPerTick 1 = .ok (.getfield 46, 3) := by decide +kernel
theorem dX1_widthPerTick_4 : decode cX1_widthPerTick 4 = .ok (.ifCond .eq 10, 3) := by decide +kernel
theorem dX1_widthPerTick_7 : decode cX1_widthPerTick 7 = .ok (.aload_n 0, 1) := by decide +kernel
theorem dX1_widthPerTick_8 : decode cX1_widthPerTick 8 = .ok (.getfield 43, 3) := by decide +kernel
theorem dX1_widthPerTick_11 : decode cX1_widthPerTick 11 = .ok (.goto 9, 3) := by decide +kernel
theorem dX1_widthPerTick_14 : decode cX1_widthPerTick 14 = .ok (.iconst 4, 1) := by decide +kernel
theorem dX1_widthPerTick_15 : decode cX1_widthPerTick 15 = .ok (.aload_n 0, 1) := by decide +kernel
theorem dX1_widthPerTick_16 : decode cX1_widthPerTick 16 = .ok (.getfield 43, 3) := by decide +kernel
theorem dX1_widthPerTick_19 : decode cX1_widthPerTick 19 = .ok (.imul, 1) := by decide +kernel
theorem dX1_widthPerTick_20 : decode cX1_widthPerTick 20 = .ok (.ireturn, 1) := by decide +kernel
set_option maxRecDepth 20000 in
theorem ggX1_pass_X1_minuteNumber : GoodIn wsX1_pass wsX1_minuteNumber := goodIn_r _ [19, 3, 2, 124, 125, 126, 127, 128, 129, 130, 131, 132, 133, 134, 135, 136, 137, 138, 139, 140, 141] (by decide +kernel) (by decide +kernel)
set_option maxRecDepth 20000 in
theorem gX1_pass_X1_minuteNumber : GoodIn wsX1_pass (wsV RX1 126 RX1 yX1_minuteNumber wsX1_minuteNumber) := goodIn_app (goodIn_of _ (by decide +kernel)) ggX1_pass_X1_minuteNumber
set_option maxRecDepth 20000 in
theorem ggX1_pass_X1_noteTicks : GoodIn wsX1_pass wsX1_noteTicks := goodIn_r _ [23, 24, 25, 26, 4, 27, 28, 29, 30, 124, 125, 126, 127, 128, 129, 130, 131, 132, 133, 134, 135, 136, 137, 138, 139, 140, 141] (by decide +kernel) (by decide +kernel)
set_option maxRecDepth 20000 in
theorem gX1_pass_X1_noteTicks : GoodIn wsX1_pass (wsV RX1 129 RX1 yX1_noteTicks wsX1_noteTicks) := goodIn_app (goodIn_of _ (by decide +kernel)) ggX1_pass_X1_noteTicks
set_option maxRecDepth 20000 in
theorem ggX1_pass_X1_boardTimeAfter : GoodIn wsX1_pass wsX1_boardTimeAfter := goodIn_r _ [34, 3, 2, 24, 4, 6, 35, 36, 37, 18, 38, 39, 40, 41, 42, 43, 44, 45, 7, 28, 29, 30, 46, 47, 48, 49, 50, 51, 52, 53, 54, 55, 56, 57, 58, 59, 60, 61, 5, 62, 63, 64, 11, 12, 13, 65, 66, 67, 124, 125, 126, 127, 128, 129, 130, 131, 132, 133, 134, 135, 136, 137, 138, 139, 140, 141] (by decide +kernel) (by decide +kernel)
set_option maxRecDepth 20000 in
theorem gX1_pass_X1_boardTimeAfter : GoodIn wsX1_pass (wsV RX1 133 RX1 yX1_boardTimeAfter wsX1_boardTimeAfter) := goodIn_app (goodIn_of _ (by decide +kernel)) ggX1_pass_X1_boardTimeAfter
set_option maxRecDepth 20000 in
theorem ggX1_pass_X1_stepsAfter : GoodIn wsX1_pass wsX1_stepsAfter := goodIn_r _ [60, 61, 5, 62, 29, 63, 64, 11, 12, 13, 65, 66, 67, 124, 125, 126, 127, 128, 129, 130, 131, 132, 133, 134, 135, 136, 137, 138, 139, 140, 141] (by decide +kernel) (by decide +kernel)
set_option maxRecDepth 20000 in
theorem gX1_pass_X1_stepsAfter : GoodIn wsX1_pass (wsV RX1 123 RX1 yX1_stepsAfter wsX1_stepsAfter) := goodIn_app (goodIn_of _ (by decide +kernel)) ggX1_pass_X1_stepsAfter
set_option maxRecDepth 20000 in
theorem ggX1_pass_X1_sixteenthsAfter : GoodIn wsX1_pass wsX1_sixteenthsAfter := goodIn_r _ [45, 7, 24, 28, 29, 30, 46, 47, 48, 18, 49, 50, 51, 52, 124, 125, 126, 127, 128, 129, 130, 131, 132, 133, 134, 135, 136, 137, 138, 139, 140, 141] (by decide +kernel) (by decide +kernel)
set_option maxRecDepth 20000 in
theorem gX1_pass_X1_sixteenthsAfter : GoodIn wsX1_pass (wsV RX1 115 RX1 yX1_sixteenthsAfter wsX1_sixteenthsAfter) := goodIn_app (goodIn_of _ (by decide +kernel)) ggX1_pass_X1_sixteenthsAfter
set_option maxRecDepth 20000 in
theorem ggX1_pass_J9_floorMod_f86c9 : GoodIn wsX1_pass wsJ9_floorMod_f86c9 := goodIn_r _ [70] (by decide +kernel) (by decide +kernel)
set_option maxRecDepth 20000 in
theorem gX1_pass_J9_floorMod_f86c9 : GoodIn wsX1_pass (va_wsS RX1 136 yJ9_floorMod_f86c9 wsJ9_floorMod_f86c9) := goodIn_app (goodIn_of _ (by decide +kernel)) ggX1_pass_J9_floorMod_f86c9
set_option maxRecDepth 20000 in
theorem ggX1_pass_X1_widthPerTick : GoodIn wsX1_pass wsX1_widthPerTick := goodIn_r _ [74, 4, 75, 124, 125, 126, 127, 128, 129, 130, 131, 132, 133, 134, 135, 136, 137, 138, 139, 140, 141] (by decide +kernel) (by decide +kernel)
set_option maxRecDepth 20000 in
theorem gX1_pass_X1_widthPerTick : GoodIn wsX1_pass (wsV RX1 139 RX1 yX1_widthPerTick wsX1_widthPerTick) := goodIn_app (goodIn_of _ (by decide +kernel)) ggX1_pass_X1_widthPerTick
set_option maxRecDepth 20000 in
theorem ggX1_pass_X0_ring : GoodIn wsX1_pass wsX0_ring := goodIn_r _ [80, 81, 82, 83, 84, 85, 12, 86, 87, 88, 89, 79, 90, 91, 92, 93, 94, 95, 96, 97, 98, 99, 100, 101, 102, 103, 104, 105, 106, 107, 108, 109, 110, 29, 111, 112, 113, 114, 115, 116, 117, 118, 119, 120, 121, 122, 123, 142, 143, 144, 145, 146] (by decide +kernel) (by decide +kernel)
set_option maxRecDepth 20000 in
theorem gX1_pass_X0_ring : GoodIn wsX1_pass (wsV RX1 148 RX0 yX0_ring wsX0_ring) := goodIn_app (goodIn_of _ (by decide +kernel)) ggX1_pass_X0_ring
theorem dX1_pass_0 : decode cX1_pass 0 = .ok (.aload_n 0, 1) := by decide +kernel
theorem dX1_pass_1 : decode cX1_pass 1 = .ok (.invokevirtual 126, 3) := by decide +kernel
theorem dX1_pass_4 : decode cX1_pass 4 = .ok (.lstore_n 2, 1) := by decide +kernel
theorem dX1_pass_5 : decode cX1_pass 5 = .ok (.aload_n 0, 1) := by decide +kernel
theorem dX1_pass_6 : decode cX1_pass 6 = .ok (.iload_n 1, 1) := by decide +kernel
theorem dX1_pass_7 : decode cX1_pass 7 = .ok (.invokevirtual 129, 3) := by decide +kernel
theorem dX1_pass_10 : decode cX1_pass 10 = .ok (.aload_n 0, 1) := by decide +kernel
theorem dX1_pass_11 : decode cX1_pass 11 = .ok (.dup, 1) := by decide +kernel
theorem dX1_pass_12 : decode cX1_pass 12 = .ok (.getfield 9, 3) := by decide +kernel
theorem dX1_pass_15 : decode cX1_pass 15 = .ok (.iload_n 1, 1) := by decide +kernel
theorem dX1_pass_16 : decode cX1_pass 16 = .ok (.i2l, 1) := by decide +kernel
theorem dX1_pass_17 : decode cX1_pass 17 = .ok (.ldc2_w 83, 3) := by decide +kernel
theorem dX1_pass_20 : decode cX1_pass 20 = .ok (.lmul, 1) := by decide +kernel
theorem dX1_pass_21 : decode cX1_pass 21 = .ok (.ladd, 1) := by decide +kernel
theorem dX1_pass_22 : decode cX1_pass 22 = .ok (.putfield 9, 3) := by decide +kernel
theorem dX1_pass_25 : decode cX1_pass 25 = .ok (.aload_n 0, 1) := by decide +kernel
theorem dX1_pass_26 : decode cX1_pass 26 = .ok (.aload_n 0, 1) := by decide +kernel
theorem dX1_pass_27 : decode cX1_pass 27 = .ok (.iload_n 1, 1) := by decide +kernel
theorem dX1_pass_28 : decode cX1_pass 28 = .ok (.invokevirtual 133, 3) := by decide +kernel
theorem dX1_pass_31 : decode cX1_pass 31 = .ok (.putfield 15, 3) := by decide +kernel
theorem dX1_pass_34 : decode cX1_pass 34 = .ok (.aload_n 0, 1) := by decide +kernel
theorem dX1_pass_35 : decode cX1_pass 35 = .ok (.getfield 46, 3) := by decide +kernel
theorem dX1_pass_38 : decode cX1_pass 38 = .ok (.ifCond .eq 33, 3) := by decide +kernel
theorem dX1_pass_41 : decode cX1_pass 41 = .ok (.aload_n 0, 1) := by decide +kernel
theorem dX1_pass_42 : decode cX1_pass 42 = .ok (.dup, 1) := by decide +kernel
theorem dX1_pass_43 : decode cX1_pass 43 = .ok (.getfield 18, 3) := by decide +kernel
theorem dX1_pass_46 : decode cX1_pass 46 = .ok (.aload_n 0, 1) := by decide +kernel
theorem dX1_pass_47 : decode cX1_pass 47 = .ok (.iload_n 1, 1) := by decide +kernel
theorem dX1_pass_48 : decode cX1_pass 48 = .ok (.invokevirtual 123, 3) := by decide +kernel
theorem dX1_pass_51 : decode cX1_pass 51 = .ok (.lsub, 1) := by decide +kernel
theorem dX1_pass_52 : decode cX1_pass 52 = .ok (.putfield 18, 3) := by decide +kernel
theorem dX1_pass_55 : decode cX1_pass 55 = .ok (.aload_n 0, 1) := by decide +kernel
theorem dX1_pass_56 : decode cX1_pass 56 = .ok (.aload_n 0, 1) := by decide +kernel
theorem dX1_pass_57 : decode cX1_pass 57 = .ok (.iload_n 1, 1) := by decide +kernel
theorem dX1_pass_58 : decode cX1_pass 58 = .ok (.invokevirtual 115, 3) := by decide +kernel
theorem dX1_pass_61 : decode cX1_pass 61 = .ok (.ldc2_w 106, 3) := by decide +kernel
theorem dX1_pass_64 : decode cX1_pass 64 = .ok (.invokestatic 136, 3) := by decide +kernel
theorem dX1_pass_67 : decode cX1_pass 67 = .ok (.l2i, 1) := by decide +kernel
theorem dX1_pass_68 : decode cX1_pass 68 = .ok (.putfield 34, 3) := by decide +kernel
theorem dX1_pass_71 : decode cX1_pass 71 = .ok (.aload_n 0, 1) := by decide +kernel
theorem dX1_pass_72 : decode cX1_pass 72 = .ok (.aload_n 0, 1) := by decide +kernel
theorem dX1_pass_73 : decode cX1_pass 73 = .ok (.getfield 40, 3) := by decide +kernel
theorem dX1_pass_76 : decode cX1_pass 76 = .ok (.i2l, 1) := by decide +kernel
theorem dX1_pass_77 : decode cX1_pass 77 = .ok (.iload_n 1, 1) := by decide +kernel
theorem dX1_pass_78 : decode cX1_pass 78 = .ok (.i2l, 1) := by decide +kernel
theorem dX1_pass_79 : decode cX1_pass 79 = .ok (.aload_n 0, 1) := by decide +kernel
theorem dX1_pass_80 : decode cX1_pass 80 = .ok (.invokevirtual 139, 3) := by decide +kernel
theorem dX1_pass_83 : decode cX1_pass 83 = .ok (.i2l, 1) := by decide +kernel
theorem dX1_pass_84 : decode cX1_pass 84 = .ok (.lmul, 1) := by decide +kernel
theorem dX1_pass_85 : decode cX1_pass 85 = .ok (.ladd, 1) := by decide +kernel
theorem dX1_pass_86 : decode cX1_pass 86 = .ok (.ldc2_w 143, 3) := by decide +kernel
theorem dX1_pass_89 : decode cX1_pass 89 = .ok (.invokestatic 145, 3) := by decide +kernel
theorem dX1_pass_92 : decode cX1_pass 92 = .ok (.l2i, 1) := by decide +kernel
theorem dX1_pass_93 : decode cX1_pass 93 = .ok (.putfield 40, 3) := by decide +kernel
theorem dX1_pass_96 : decode cX1_pass 96 = .ok (.aload_n 0, 1) := by decide +kernel
theorem dX1_pass_97 : decode cX1_pass 97 = .ok (.getfield 69, 3) := by decide +kernel
theorem dX1_pass_100 : decode cX1_pass 100 = .ok (.lload_n 2, 1) := by decide +kernel
theorem dX1_pass_101 : decode cX1_pass 101 = .ok (.aload_n 0, 1) := by decide +kernel
theorem dX1_pass_102 : decode cX1_pass 102 = .ok (.invokevirtual 126, 3) := by decide +kernel
theorem dX1_pass_105 : decode cX1_pass 105 = .ok (.invokevirtual 148, 3) := by decide +kernel
theorem dX1_pass_108 : decode cX1_pass 108 = .ok (.ireturn, 1) := by decide +kernel
set_option maxRecDepth 20000 in
theorem ggX1_noteTicks_X2_spanOf : GoodIn wsX1_noteTicks wsX2_spanOf := goodIn_r _ [8] (by decide +kernel) (by decide +kernel)
set_option maxRecDepth 20000 in
theorem gX1_noteTicks_X2_spanOf_n108 : GoodIn wsX1_noteTicks (wsX2_spanOf) := ggX1_noteTicks_X2_spanOf
theorem dX1_noteTicks_0 : decode cX1_noteTicks 0 = .ok (.aload_n 0, 1) := by decide +kernel
theorem dX1_noteTicks_1 : decode cX1_noteTicks 1 = .ok (.getfield 21, 3) := by decide +kernel
theorem dX1_noteTicks_4 : decode cX1_noteTicks 4 = .ok (.invokestatic 108, 3) := by decide +kernel
theorem dX1_noteTicks_7 : decode cX1_noteTicks 7 = .ok (.istore_n 2, 1) := by decide +kernel
theorem dX1_noteTicks_8 : decode cX1_noteTicks 8 = .ok (.aload_n 0, 1) := by decide +kernel
theorem dX1_noteTicks_9 : decode cX1_noteTicks 9 = .ok (.getfield 53, 3) := by decide +kernel
theorem dX1_noteTicks_12 : decode cX1_noteTicks 12 = .ok (.ifCond .ne 19, 3) := by decide +kernel
theorem dX1_noteTicks_15 : decode cX1_noteTicks 15 = .ok (.aload_n 0, 1) := by decide +kernel
theorem dX1_noteTicks_16 : decode cX1_noteTicks 16 = .ok (.iload_n 2, 1) := by decide +kernel
theorem dX1_noteTicks_17 : decode cX1_noteTicks 17 = .ok (.putfield 56, 3) := by decide +kernel
theorem dX1_noteTicks_20 : decode cX1_noteTicks 20 = .ok (.aload_n 0, 1) := by decide +kernel
theorem dX1_noteTicks_21 : decode cX1_noteTicks 21 = .ok (.aload_n 0, 1) := by decide +kernel
theorem dX1_noteTicks_22 : decode cX1_noteTicks 22 = .ok (.getfield 46, 3) := by decide +kernel
theorem dX1_noteTicks_25 : decode cX1_noteTicks 25 = .ok (.putfield 59, 3) := by decide +kernel
theorem dX1_noteTicks_28 : decode cX1_noteTicks 28 = .ok (.goto 23, 3) := by decide +kernel
theorem dX1_noteTicks_31 : decode cX1_noteTicks 31 = .ok (.aload_n 0, 1) := by decide +kernel
theorem dX1_noteTicks_32 : decode cX1_noteTicks 32 = .ok (.getfield 56, 3) := by decide +kernel
theorem dX1_noteTicks_35 : decode cX1_noteTicks 35 = .ok (.iload_n 2, 1) := by decide +kernel
theorem dX1_noteTicks_36 : decode cX1_noteTicks 36 = .ok (.if_icmp .ne 10, 3) := by decide +kernel
theorem dX1_noteTicks_39 : decode cX1_noteTicks 39 = .ok (.aload_n 0, 1) := by decide +kernel
theorem dX1_noteTicks_40 : decode cX1_noteTicks 40 = .ok (.getfield 46, 3) := by decide +kernel
theorem dX1_noteTicks_43 : decode cX1_noteTicks 43 = .ok (.ifCond .ne 8, 3) := by decide +kernel
theorem dX1_noteTicks_46 : decode cX1_noteTicks 46 = .ok (.aload_n 0, 1) := by decide +kernel
theorem dX1_noteTicks_47 : decode cX1_noteTicks 47 = .ok (.iconst 0, 1) := by decide +kernel
theorem dX1_noteTicks_48 : decode cX1_noteTicks 48 = .ok (.putfield 59, 3) := by decide +kernel
theorem dX1_noteTicks_51 : decode cX1_noteTicks 51 = .ok (.aload_n 0, 1) := by decide +kernel
theorem dX1_noteTicks_52 : decode cX1_noteTicks 52 = .ok (.dup, 1) := by decide +kernel
theorem dX1_noteTicks_53 : decode cX1_noteTicks 53 = .ok (.getfield 53, 3) := by decide +kernel
theorem dX1_noteTicks_56 : decode cX1_noteTicks 56 = .ok (.iload_n 1, 1) := by decide +kernel
theorem dX1_noteTicks_57 : decode cX1_noteTicks 57 = .ok (.iadd, 1) := by decide +kernel
theorem dX1_noteTicks_58 : decode cX1_noteTicks 58 = .ok (.putfield 53, 3) := by decide +kernel
theorem dX1_noteTicks_61 : decode cX1_noteTicks 61 = .ok (.return_, 1) := by decide +kernel
set_option maxRecDepth 20000 in
theorem ggX1_takeIn_X1_learnFrom : GoodIn wsX1_takeIn wsX1_learnFrom := goodIn_r _ [17, 12, 18, 19, 2, 20, 21, 22, 23, 24, 25, 26, 27, 28, 29, 16, 30, 31, 32, 33, 34, 35, 9, 6, 10, 36, 5, 7, 46, 47, 48, 49, 50, 51, 52, 53, 54, 55, 56, 57, 58, 59, 60, 61, 62, 63] (by decide +kernel) (by decide +kernel)
set_option maxRecDepth 20000 in
theorem gX1_takeIn_X1_learnFrom : GoodIn wsX1_takeIn (wsV RX1 152 RX1 yX1_learnFrom wsX1_learnFrom) := goodIn_app (goodIn_of _ (by decide +kernel)) ggX1_takeIn_X1_learnFrom
set_option maxRecDepth 20000 in
theorem ggX1_takeIn_X1_aim : GoodIn wsX1_takeIn wsX1_aim := goodIn_r _ [30, 31, 32, 46, 47, 48, 49, 50, 51, 52, 53, 54, 55, 56, 57, 58, 59, 60, 61, 62, 63] (by decide +kernel) (by decide +kernel)
set_option maxRecDepth 20000 in
theorem gX1_takeIn_X1_aim : GoodIn wsX1_takeIn (wsV RX1 96 RX1 yX1_aim wsX1_aim) := goodIn_app (goodIn_of _ (by decide +kernel)) ggX1_takeIn_X1_aim
set_option maxRecDepth 20000 in
theorem ggX1_takeIn_X1_aimBetween : GoodIn wsX1_takeIn wsX1_aimBetween := goodIn_r _ [40, 41, 2, 4, 5, 6, 7, 3, 31, 32, 42, 43, 44, 45, 46, 47, 48, 49, 50, 51, 52, 53, 54, 55, 56, 57, 58, 59, 60, 61, 62, 63] (by decide +kernel) (by decide +kernel)
set_option maxRecDepth 20000 in
theorem gX1_takeIn_X1_aimBetween : GoodIn wsX1_takeIn (wsV RX1 159 RX1 yX1_aimBetween wsX1_aimBetween) := goodIn_app (goodIn_of _ (by decide +kernel)) ggX1_takeIn_X1_aimBetween
theorem dX1_takeIn_0 : decode cX1_takeIn 0 = .ok (.aload_n 0, 1) := by decide +kernel
theorem dX1_takeIn_1 : decode cX1_takeIn 1 = .ok (.getfield 9, 3) := by decide +kernel
theorem dX1_takeIn_4 : decode cX1_takeIn 4 = .ok (.iload_n 1, 1) := by decide +kernel
theorem dX1_takeIn_5 : decode cX1_takeIn 5 = .ok (.i2l, 1) := by decide +kernel
theorem dX1_takeIn_6 : decode cX1_takeIn 6 = .ok (.ladd, 1) := by decide +kernel
theorem dX1_takeIn_7 : decode cX1_takeIn 7 = .ok (.lstore_n 3, 1) := by decide +kernel
theorem dX1_takeIn_8 : decode cX1_takeIn 8 = .ok (.aload_n 0, 1) := by decide +kernel
theorem dX1_takeIn_9 : decode cX1_takeIn 9 = .ok (.lload_n 3, 1) := by decide +kernel
theorem dX1_takeIn_10 : decode cX1_takeIn 10 = .ok (.invokevirtual 152, 3) := by decide +kernel
theorem dX1_takeIn_13 : decode cX1_takeIn 13 = .ok (.lload_n 3, 1) := by decide +kernel
theorem dX1_takeIn_14 : decode cX1_takeIn 14 = .ok (.iload_n 2, 1) := by decide +kernel
theorem dX1_takeIn_15 : decode cX1_takeIn 15 = .ok (.i2l, 1) := by decide +kernel
theorem dX1_takeIn_16 : decode cX1_takeIn 16 = .ok (.lsub, 1) := by decide +kernel
theorem dX1_takeIn_17 : decode cX1_takeIn 17 = .ok (.ldc2_w 106, 3) := by decide +kernel
theorem dX1_takeIn_20 : decode cX1_takeIn 20 = .ok (.lmul, 1) := by decide +kernel
theorem dX1_takeIn_21 : decode cX1_takeIn 21 = .ok (.lstore 5, 2) := by decide +kernel
theorem dX1_takeIn_23 : decode cX1_takeIn 23 = .ok (.lload_n 3, 1) := by decide +kernel
theorem dX1_takeIn_24 : decode cX1_takeIn 24 = .ok (.iload_n 2, 1) := by decide +kernel
theorem dX1_takeIn_25 : decode cX1_takeIn 25 = .ok (.i2l, 1) := by decide +kernel
theorem dX1_takeIn_26 : decode cX1_takeIn 26 = .ok (.ladd, 1) := by decide +kernel
theorem dX1_takeIn_27 : decode cX1_takeIn 27 = .ok (.ldc2_w 106, 3) := by decide +kernel
theorem dX1_takeIn_30 : decode cX1_takeIn 30 = .ok (.lmul, 1) := by decide +kernel
theorem dX1_takeIn_31 : decode cX1_takeIn 31 = .ok (.lstore 7, 2) := by decide +kernel
theorem dX1_takeIn_33 : decode cX1_takeIn 33 = .ok (.lload 5, 2) := by decide +kernel
theorem dX1_takeIn_35 : decode cX1_takeIn 35 = .ok (.aload_n 0, 1) := by decide +kernel
theorem dX1_takeIn_36 : decode cX1_takeIn 36 = .ok (.invokevirtual 96, 3) := by decide +kernel
theorem dX1_takeIn_39 : decode cX1_takeIn 39 = .ok (.ldc2_w 106, 3) := by decide +kernel
theorem dX1_takeIn_42 : decode cX1_takeIn 42 = .ok (.lmul, 1) := by decide +kernel
theorem dX1_takeIn_43 : decode cX1_takeIn 43 = .ok (.aload_n 0, 1) := by decide +kernel
theorem dX1_takeIn_44 : decode cX1_takeIn 44 = .ok (.getfield 40, 3) := by decide +kernel
theorem dX1_takeIn_47 : decode cX1_takeIn 47 = .ok (.i2l, 1) := by decide +kernel
theorem dX1_takeIn_48 : decode cX1_takeIn 48 = .ok (.lsub, 1) := by decide +kernel
theorem dX1_takeIn_49 : decode cX1_takeIn 49 = .ok (.invokestatic 156, 3) := by decide +kernel
theorem dX1_takeIn_52 : decode cX1_takeIn 52 = .ok (.lstore 9, 2) := by decide +kernel
theorem dX1_takeIn_54 : decode cX1_takeIn 54 = .ok (.lload 7, 2) := by decide +kernel
theorem dX1_takeIn_56 : decode cX1_takeIn 56 = .ok (.aload_n 0, 1) := by decide +kernel
theorem dX1_takeIn_57 : decode cX1_takeIn 57 = .ok (.invokevirtual 96, 3) := by decide +kernel
theorem dX1_takeIn_60 : decode cX1_takeIn 60 = .ok (.ldc2_w 106, 3) := by decide +kernel
theorem dX1_takeIn_63 : decode cX1_takeIn 63 = .ok (.lmul, 1) := by decide +kernel
theorem dX1_takeIn_64 : decode cX1_takeIn 64 = .ok (.aload_n 0, 1) := by decide +kernel
theorem dX1_takeIn_65 : decode cX1_takeIn 65 = .ok (.getfield 40, 3) := by decide +kernel
theorem dX1_takeIn_68 : decode cX1_takeIn 68 = .ok (.i2l, 1) := by decide +kernel
theorem dX1_takeIn_69 : decode cX1_takeIn 69 = .ok (.ladd, 1) := by decide +kernel
theorem dX1_takeIn_70 : decode cX1_takeIn 70 = .ok (.invokestatic 145, 3) := by decide +kernel
theorem dX1_takeIn_73 : decode cX1_takeIn 73 = .ok (.lstore 11, 2) := by decide +kernel
theorem dX1_takeIn_75 : decode cX1_takeIn 75 = .ok (.lload 9, 2) := by decide +kernel
theorem dX1_takeIn_77 : decode cX1_takeIn 77 = .ok (.lload 11, 2) := by decide +kernel
theorem dX1_takeIn_79 : decode cX1_takeIn 79 = .ok (.lcmp, 1) := by decide +kernel
theorem dX1_takeIn_80 : decode cX1_takeIn 80 = .ok (.ifCond .le 7, 3) := by decide +kernel
theorem dX1_takeIn_83 : decode cX1_takeIn 83 = .ok (.iconst 1, 1) := by decide +kernel
theorem dX1_takeIn_84 : decode cX1_takeIn 84 = .ok (.goto 4, 3) := by decide +kernel
theorem dX1_takeIn_87 : decode cX1_takeIn 87 = .ok (.iconst 0, 1) := by decide +kernel
theorem dX1_takeIn_88 : decode cX1_takeIn 88 = .ok (.istore 13, 2) := by decide +kernel
theorem dX1_takeIn_90 : decode cX1_takeIn 90 = .ok (.iload 13, 2) := by decide +kernel
theorem dX1_takeIn_92 : decode cX1_takeIn 92 = .ok (.ifCond .eq 24, 3) := by decide +kernel
theorem dX1_takeIn_95 : decode cX1_takeIn 95 = .ok (.aload_n 0, 1) := by decide +kernel
theorem dX1_takeIn_96 : decode cX1_takeIn 96 = .ok (.dup, 1) := by decide +kernel
theorem dX1_takeIn_97 : decode cX1_takeIn 97 = .ok (.getfield 50, 3) := by decide +kernel
theorem dX1_takeIn_100 : decode cX1_takeIn 100 = .ok (.iconst 1, 1) := by decide +kernel
theorem dX1_takeIn_101 : decode cX1_takeIn 101 = .ok (.iadd, 1) := by decide +kernel
theorem dX1_takeIn_102 : decode cX1_takeIn 102 = .ok (.putfield 50, 3) := by decide +kernel
theorem dX1_takeIn_105 : decode cX1_takeIn 105 = .ok (.aload_n 0, 1) := by decide +kernel
theorem dX1_takeIn_106 : decode cX1_takeIn 106 = .ok (.lload 5, 2) := by decide +kernel
theorem dX1_takeIn_108 : decode cX1_takeIn 108 = .ok (.lload 7, 2) := by decide +kernel
theorem dX1_takeIn_110 : decode cX1_takeIn 110 = .ok (.invokevirtual 159, 3) := by decide +kernel
theorem dX1_takeIn_113 : decode cX1_takeIn 113 = .ok (.goto 11, 3) := by decide +kernel
theorem dX1_takeIn_116 : decode cX1_takeIn 116 = .ok (.aload_n 0, 1) := by decide +kernel
theorem dX1_takeIn_117 : decode cX1_takeIn 117 = .ok (.lload 9, 2) := by decide +kernel
theorem dX1_takeIn_119 : decode cX1_takeIn 119 = .ok (.lload 11, 2) := by decide +kernel
theorem dX1_takeIn_121 : decode cX1_takeIn 121 = .ok (.invokevirtual 159, 3) := by decide +kernel
theorem dX1_takeIn_124 : decode cX1_takeIn 124 = .ok (.aload_n 0, 1) := by decide +kernel
theorem dX1_takeIn_125 : decode cX1_takeIn 125 = .ok (.iconst 0, 1) := by decide +kernel
theorem dX1_takeIn_126 : decode cX1_takeIn 126 = .ok (.putfield 53, 3) := by decide +kernel
theorem dX1_takeIn_129 : decode cX1_takeIn 129 = .ok (.iload 13, 2) := by decide +kernel
theorem dX1_takeIn_131 : decode cX1_takeIn 131 = .ok (.ireturn, 1) := by decide +kernel
set_option maxRecDepth 20000 in
theorem ggX1_learnFrom_X2_isSpan : GoodIn wsX1_learnFrom wsX2_isSpan := goodIn_r _ [11] (by decide +kernel) (by decide +kernel)
set_option maxRecDepth 20000 in
theorem gX1_learnFrom_X2_isSpan_n92 : GoodIn wsX1_learnFrom (wsX2_isSpan) := ggX1_learnFrom_X2_isSpan
set_option maxRecDepth 20000 in
theorem ggX1_learnFrom_X1_aim : GoodIn wsX1_learnFrom wsX1_aim := goodIn_r _ [16, 17, 18, 28, 29, 30, 31, 32, 33, 34, 35, 36, 37, 38, 39, 40, 41, 42, 43, 44, 45] (by decide +kernel) (by decide +kernel)
set_option maxRecDepth 20000 in
theorem gX1_learnFrom_X1_aim : GoodIn wsX1_learnFrom (wsV RX1 96 RX1 yX1_aim wsX1_aim) := goodIn_app (goodIn_of _ (by decide +kernel)) ggX1_learnFrom_X1_aim
set_option maxRecDepth 20000 in
theorem ggX1_learnFrom_X2_heldBetween : GoodIn wsX1_learnFrom wsX2_heldBetween := goodIn_r _ [20, 21, 22, 23, 24, 25, 26, 27] (by decide +kernel) (by decide +kernel)
set_option maxRecDepth 20000 in
theorem gX1_learnFrom_X2_heldBetween_n111 : GoodIn wsX1_learnFrom (wsX2_heldBetween) := ggX1_learnFrom_X2_heldBetween
theorem dX1_learnFrom_0 : decode cX1_learnFrom 0 = .ok (.aload_n 0, 1) := by decide +kernel
theorem dX1_learnFrom_1 : decode cX1_learnFrom 1 = .ok (.getfield 53, 3) := by decide +kernel
theorem dX1_learnFrom_4 : decode cX1_learnFrom 4 = .ok (.ifCond .le 72, 3) := by decide +kernel
theorem dX1_learnFrom_7 : decode cX1_learnFrom 7 = .ok (.aload_n 0, 1) := by decide +kernel
theorem dX1_learnFrom_8 : decode cX1_learnFrom 8 = .ok (.getfield 59, 3) := by decide +kernel
theorem dX1_learnFrom_11 : decode cX1_learnFrom 11 = .ok (.ifCond .eq 65, 3) := by decide +kernel
theorem dX1_learnFrom_14 : decode cX1_learnFrom 14 = .ok (.aload_n 0, 1) := by decide +kernel
theorem dX1_learnFrom_15 : decode cX1_learnFrom 15 = .ok (.getfield 56, 3) := by decide +kernel
theorem dX1_learnFrom_18 : decode cX1_learnFrom 18 = .ok (.invokestatic 92, 3) := by decide +kernel
theorem dX1_learnFrom_21 : decode cX1_learnFrom 21 = .ok (.ifCond .eq 55, 3) := by decide +kernel
theorem dX1_learnFrom_24 : decode cX1_learnFrom 24 = .ok (.aload_n 0, 1) := by decide +kernel
theorem dX1_learnFrom_25 : decode cX1_learnFrom 25 = .ok (.invokevirtual 96, 3) := by decide +kernel
theorem dX1_learnFrom_28 : decode cX1_learnFrom 28 = .ok (.lload_n 1, 1) := by decide +kernel
theorem dX1_learnFrom_29 : decode cX1_learnFrom 29 = .ok (.lsub, 1) := by decide +kernel
theorem dX1_learnFrom_30 : decode cX1_learnFrom 30 = .ok (.ldc2_w 106, 3) := by decide +kernel
theorem dX1_learnFrom_33 : decode cX1_learnFrom 33 = .ok (.lmul, 1) := by decide +kernel
theorem dX1_learnFrom_34 : decode cX1_learnFrom 34 = .ok (.ldc2_w 163, 3) := by decide +kernel
theorem dX1_learnFrom_37 : decode cX1_learnFrom 37 = .ok (.aload_n 0, 1) := by decide +kernel
theorem dX1_learnFrom_38 : decode cX1_learnFrom 38 = .ok (.getfield 53, 3) := by decide +kernel
theorem dX1_learnFrom_41 : decode cX1_learnFrom 41 = .ok (.i2l, 1) := by decide +kernel
theorem dX1_learnFrom_42 : decode cX1_learnFrom 42 = .ok (.lmul, 1) := by decide +kernel
theorem dX1_learnFrom_43 : decode cX1_learnFrom 43 = .ok (.ldiv, 1) := by decide +kernel
theorem dX1_learnFrom_44 : decode cX1_learnFrom 44 = .ok (.lstore_n 3, 1) := by decide +kernel
theorem dX1_learnFrom_45 : decode cX1_learnFrom 45 = .ok (.aload_n 0, 1) := by decide +kernel
theorem dX1_learnFrom_46 : decode cX1_learnFrom 46 = .ok (.getfield 62, 3) := by decide +kernel
theorem dX1_learnFrom_49 : decode cX1_learnFrom 49 = .ok (.aload_n 0, 1) := by decide +kernel
theorem dX1_learnFrom_50 : decode cX1_learnFrom 50 = .ok (.getfield 56, 3) := by decide +kernel
theorem dX1_learnFrom_53 : decode cX1_learnFrom 53 = .ok (.aload_n 0, 1) := by decide +kernel
theorem dX1_learnFrom_54 : decode cX1_learnFrom 54 = .ok (.getfield 62, 3) := by decide +kernel
theorem dX1_learnFrom_57 : decode cX1_learnFrom 57 = .ok (.aload_n 0, 1) := by decide +kernel
theorem dX1_learnFrom_58 : decode cX1_learnFrom 58 = .ok (.getfield 56, 3) := by decide +kernel
theorem dX1_learnFrom_61 : decode cX1_learnFrom 61 = .ok (.iaload, 1) := by decide +kernel
theorem dX1_learnFrom_62 : decode cX1_learnFrom 62 = .ok (.i2l, 1) := by decide +kernel
theorem dX1_learnFrom_63 : decode cX1_learnFrom 63 = .ok (.lload_n 3, 1) := by decide +kernel
theorem dX1_learnFrom_64 : decode cX1_learnFrom 64 = .ok (.ladd, 1) := by decide +kernel
theorem dX1_learnFrom_65 : decode cX1_learnFrom 65 = .ok (.ldc2_w 165, 3) := by decide +kernel
theorem dX1_learnFrom_68 : decode cX1_learnFrom 68 = .ok (.ldc2_w 167, 3) := by decide +kernel
theorem dX1_learnFrom_71 : decode cX1_learnFrom 71 = .ok (.invokestatic 111, 3) := by decide +kernel
theorem dX1_learnFrom_74 : decode cX1_learnFrom 74 = .ok (.l2i, 1) := by decide +kernel
theorem dX1_learnFrom_75 : decode cX1_learnFrom 75 = .ok (.iastore, 1) := by decide +kernel
theorem dX1_learnFrom_76 : decode cX1_learnFrom 76 = .ok (.return_, 1) := by decide +kernel
set_option maxRecDepth 20000 in
theorem ggX1_aimBetween_J9_floorDiv_f86c9 : GoodIn wsX1_aimBetween wsJ9_floorDiv_f86c9 := goodIn_r _ [13] (by decide +kernel) (by decide +kernel)
set_option maxRecDepth 20000 in
theorem gX1_aimBetween_J9_floorDiv_f86c9 : GoodIn wsX1_aimBetween (va_wsS RX1 119 yJ9_floorDiv_f86c9 wsJ9_floorDiv_f86c9) := goodIn_app (goodIn_of _ (by decide +kernel)) ggX1_aimBetween_J9_floorDiv_f86c9
theorem dX1_aimBetween_0 : decode cX1_aimBetween 0 = .ok (.lload_n 1, 1) := by decide +kernel
theorem dX1_aimBetween_1 : decode cX1_aimBetween 1 = .ok (.lload_n 3, 1) := by decide +kernel
theorem dX1_aimBetween_2 : decode cX1_aimBetween 2 = .ok (.ladd, 1) := by decide +kernel
theorem dX1_aimBetween_3 : decode cX1_aimBetween 3 = .ok (.ldc2_w 169, 3) := by decide +kernel
theorem dX1_aimBetween_6 : decode cX1_aimBetween 6 = .ok (.invokestatic 119, 3) := by decide +kernel
theorem dX1_aimBetween_9 : decode cX1_aimBetween 9 = .ok (.lstore 5, 2) := by decide +kernel
theorem dX1_aimBetween_11 : decode cX1_aimBetween 11 = .ok (.aload_n 0, 1) := by decide +kernel
theorem dX1_aimBetween_12 : decode cX1_aimBetween 12 = .ok (.lload_n 3, 1) := by decide +kernel
theorem dX1_aimBetween_13 : decode cX1_aimBetween 13 = .ok (.lload 5, 2) := by decide +kernel
theorem dX1_aimBetween_15 : decode cX1_aimBetween 15 = .ok (.ldc2_w 106, 3) := by decide +kernel
theorem dX1_aimBetween_18 : decode cX1_aimBetween 18 = .ok (.lmul, 1) := by decide +kernel
theorem dX1_aimBetween_19 : decode cX1_aimBetween 19 = .ok (.lsub, 1) := by decide +kernel
theorem dX1_aimBetween_20 : decode cX1_aimBetween 20 = .ok (.lload 5, 2) := by decide +kernel
theorem dX1_aimBetween_22 : decode cX1_aimBetween 22 = .ok (.ldc2_w 106, 3) := by decide +kernel
theorem dX1_aimBetween_25 : decode cX1_aimBetween 25 = .ok (.lmul, 1) := by decide +kernel
theorem dX1_aimBetween_26 : decode cX1_aimBetween 26 = .ok (.lload_n 1, 1) := by decide +kernel
theorem dX1_aimBetween_27 : decode cX1_aimBetween 27 = .ok (.lsub, 1) := by decide +kernel
theorem dX1_aimBetween_28 : decode cX1_aimBetween 28 = .ok (.invokestatic 156, 3) := by decide +kernel
theorem dX1_aimBetween_31 : decode cX1_aimBetween 31 = .ok (.l2i, 1) := by decide +kernel
theorem dX1_aimBetween_32 : decode cX1_aimBetween 32 = .ok (.putfield 40, 3) := by decide +kernel
theorem dX1_aimBetween_35 : decode cX1_aimBetween 35 = .ok (.aload_n 0, 1) := by decide +kernel
theorem dX1_aimBetween_36 : decode cX1_aimBetween 36 = .ok (.lload 5, 2) := by decide +kernel
theorem dX1_aimBetween_38 : decode cX1_aimBetween 38 = .ok (.aload_n 0, 1) := by decide +kernel
theorem dX1_aimBetween_39 : decode cX1_aimBetween 39 = .ok (.getfield 15, 3) := by decide +kernel
theorem dX1_aimBetween_42 : decode cX1_aimBetween 42 = .ok (.lsub, 1) := by decide +kernel
theorem dX1_aimBetween_43 : decode cX1_aimBetween 43 = .ok (.putfield 18, 3) := by decide +kernel
