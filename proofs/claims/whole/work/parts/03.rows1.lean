theorem dX4_init_9 : decode cX4_init 9 = .ok (.aload_n 0, 1) := by decide +kernel
theorem dX4_init_10 : decode cX4_init 10 = .ok (.iload_n 2, 1) := by decide +kernel
theorem dX4_init_11 : decode cX4_init 11 = .ok (.putfield 13, 3) := by decide +kernel
theorem dX4_init_14 : decode cX4_init 14 = .ok (.aload_n 0, 1) := by decide +kernel
theorem dX4_init_15 : decode cX4_init 15 = .ok (.iload_n 3, 1) := by decide +kernel
theorem dX4_init_16 : decode cX4_init 16 = .ok (.putfield 16, 3) := by decide +kernel
theorem dX4_init_19 : decode cX4_init 19 = .ok (.return_, 1) := by decide +kernel
theorem dX4_mirrors_0 : decode cX4_mirrors 0 = .ok (.aload_n 0, 1) := by decide +kernel
theorem dX4_mirrors_1 : decode cX4_mirrors 1 = .ok (.getfield 13, 3) := by decide +kernel
theorem dX4_mirrors_4 : decode cX4_mirrors 4 = .ok (.ifCond .le 30, 3) := by decide +kernel
theorem dX4_mirrors_7 : decode cX4_mirrors 7 = .ok (.aload_n 1, 1) := by decide +kernel
theorem dX4_mirrors_8 : decode cX4_mirrors 8 = .ok (.getfield 13, 3) := by decide +kernel
theorem dX4_mirrors_11 : decode cX4_mirrors 11 = .ok (.aload_n 0, 1) := by decide +kernel
theorem dX4_mirrors_12 : decode cX4_mirrors 12 = .ok (.getfield 13, 3) := by decide +kernel
theorem dX4_mirrors_15 : decode cX4_mirrors 15 = .ok (.ineg, 1) := by decide +kernel
theorem dX4_mirrors_16 : decode cX4_mirrors 16 = .ok (.if_icmp .ne 18, 3) := by decide +kernel
theorem dX4_mirrors_19 : decode cX4_mirrors 19 = .ok (.aload_n 1, 1) := by decide +kernel
theorem dX4_mirrors_20 : decode cX4_mirrors 20 = .ok (.getfield 7, 3) := by decide +kernel
theorem dX4_mirrors_23 : decode cX4_mirrors 23 = .ok (.aload_n 0, 1) := by decide +kernel
theorem dX4_mirrors_24 : decode cX4_mirrors 24 = .ok (.getfield 7, 3) := by decide +kernel
theorem dX4_mirrors_27 : decode cX4_mirrors 27 = .ok (.if_icmp .ne 7, 3) := by decide +kernel
theorem dX4_mirrors_30 : decode cX4_mirrors 30 = .ok (.iconst 1, 1) := by decide +kernel
theorem dX4_mirrors_31 : decode cX4_mirrors 31 = .ok (.goto 4, 3) := by decide +kernel
theorem dX4_mirrors_34 : decode cX4_mirrors 34 = .ok (.iconst 0, 1) := by decide +kernel
theorem dX4_mirrors_35 : decode cX4_mirrors 35 = .ok (.ireturn, 1) := by decide +kernel
theorem dX5_init_0 : decode cX5_init 0 = .ok (.aload_n 0, 1) := by decide +kernel
theorem dX5_init_1 : decode cX5_init 1 = .ok (.invokespecial 1, 3) := by decide +kernel
theorem dX5_init_4 : decode cX5_init 4 = .ok (.aload_n 0, 1) := by decide +kernel
theorem dX5_init_5 : decode cX5_init 5 = .ok (.iload_n 1, 1) := by decide +kernel
theorem dX5_init_6 : decode cX5_init 6 = .ok (.putfield 7, 3) := by decide +kernel
theorem dX5_init_9 : decode cX5_init 9 = .ok (.aload_n 0, 1) := by decide +kernel
theorem dX5_init_10 : decode cX5_init 10 = .ok (.iload_n 2, 1) := by decide +kernel
theorem dX5_init_11 : decode cX5_init 11 = .ok (.putfield 13, 3) := by decide +kernel
theorem dX5_init_14 : decode cX5_init 14 = .ok (.return_, 1) := by decide +kernel
theorem dX5_currentWith_0 : decode cX5_currentWith 0 = .ok (.aload_n 0, 1) := by decide +kernel
theorem dX5_currentWith_1 : decode cX5_currentWith 1 = .ok (.getfield 7, 3) := by decide +kernel
theorem dX5_currentWith_4 : decode cX5_currentWith 4 = .ok (.ifCond .ne 7, 3) := by decide +kernel
theorem dX5_currentWith_7 : decode cX5_currentWith 7 = .ok (.iconst 0, 1) := by decide +kernel
theorem dX5_currentWith_8 : decode cX5_currentWith 8 = .ok (.goto 18, 3) := by decide +kernel
theorem dX5_currentWith_11 : decode cX5_currentWith 11 = .ok (.sipush 1000, 3) := by decide +kernel
theorem dX5_currentWith_14 : decode cX5_currentWith 14 = .ok (.iload_n 1, 1) := by decide +kernel
theorem dX5_currentWith_15 : decode cX5_currentWith 15 = .ok (.imul, 1) := by decide +kernel
theorem dX5_currentWith_16 : decode cX5_currentWith 16 = .ok (.aload_n 0, 1) := by decide +kernel
theorem dX5_currentWith_17 : decode cX5_currentWith 17 = .ok (.getfield 16, 3) := by decide +kernel
theorem dX5_currentWith_20 : decode cX5_currentWith 20 = .ok (.isub, 1) := by decide +kernel
theorem dX5_currentWith_21 : decode cX5_currentWith 21 = .ok (.aload_n 0, 1) := by decide +kernel
theorem dX5_currentWith_22 : decode cX5_currentWith 22 = .ok (.getfield 7, 3) := by decide +kernel
theorem dX5_currentWith_25 : decode cX5_currentWith 25 = .ok (.idiv, 1) := by decide +kernel
theorem dX5_currentWith_26 : decode cX5_currentWith 26 = .ok (.ireturn, 1) := by decide +kernel
set_option maxRecDepth 20000 in
theorem ggX5_settle_X5_currentWith : GoodIn wsX5_settle wsX5_currentWith := goodIn_r _ [13, 14, 15, 16, 17, 18, 19, 20] (by decide +kernel) (by decide +kernel)
set_option maxRecDepth 20000 in
theorem gX5_settle_X5_currentWith : GoodIn wsX5_settle (wsV RX5 23 RX5 yX5_currentWith wsX5_currentWith) := goodIn_app (goodIn_of _ (by decide +kernel)) ggX5_settle_X5_currentWith
theorem dX5_settle_0 : decode cX5_settle 0 = .ok (.aload_n 0, 1) := by decide +kernel
theorem dX5_settle_1 : decode cX5_settle 1 = .ok (.getfield 19, 3) := by decide +kernel
theorem dX5_settle_4 : decode cX5_settle 4 = .ok (.istore_n 1, 1) := by decide +kernel
theorem dX5_settle_5 : decode cX5_settle 5 = .ok (.iconst 0, 1) := by decide +kernel
theorem dX5_settle_6 : decode cX5_settle 6 = .ok (.istore_n 2, 1) := by decide +kernel
theorem dX5_settle_7 : decode cX5_settle 7 = .ok (.iload_n 2, 1) := by decide +kernel
theorem dX5_settle_8 : decode cX5_settle 8 = .ok (.ldc 22, 2) := by decide +kernel
theorem dX5_settle_10 : decode cX5_settle 10 = .ok (.if_icmp .ge 85, 3) := by decide +kernel
theorem dX5_settle_13 : decode cX5_settle 13 = .ok (.aload_n 0, 1) := by decide +kernel
theorem dX5_settle_14 : decode cX5_settle 14 = .ok (.aload_n 0, 1) := by decide +kernel
theorem dX5_settle_15 : decode cX5_settle 15 = .ok (.getfield 19, 3) := by decide +kernel
theorem dX5_settle_18 : decode cX5_settle 18 = .ok (.invokevirtual 23, 3) := by decide +kernel
theorem dX5_settle_21 : decode cX5_settle 21 = .ok (.istore_n 3, 1) := by decide +kernel
theorem dX5_settle_22 : decode cX5_settle 22 = .ok (.iload_n 3, 1) := by decide +kernel
theorem dX5_settle_23 : decode cX5_settle 23 = .ok (.ifCond .le 12, 3) := by decide +kernel
theorem dX5_settle_26 : decode cX5_settle 26 = .ok (.aload_n 0, 1) := by decide +kernel
theorem dX5_settle_27 : decode cX5_settle 27 = .ok (.getfield 19, 3) := by decide +kernel
theorem dX5_settle_30 : decode cX5_settle 30 = .ok (.iconst 1, 1) := by decide +kernel
theorem dX5_settle_31 : decode cX5_settle 31 = .ok (.isub, 1) := by decide +kernel
theorem dX5_settle_32 : decode cX5_settle 32 = .ok (.goto 9, 3) := by decide +kernel
theorem dX5_settle_35 : decode cX5_settle 35 = .ok (.aload_n 0, 1) := by decide +kernel
theorem dX5_settle_36 : decode cX5_settle 36 = .ok (.getfield 19, 3) := by decide +kernel
theorem dX5_settle_39 : decode cX5_settle 39 = .ok (.iconst 1, 1) := by decide +kernel
theorem dX5_settle_40 : decode cX5_settle 40 = .ok (.iadd, 1) := by decide +kernel
theorem dX5_settle_41 : decode cX5_settle 41 = .ok (.istore 4, 2) := by decide +kernel
theorem dX5_settle_43 : decode cX5_settle 43 = .ok (.iload_n 3, 1) := by decide +kernel
theorem dX5_settle_44 : decode cX5_settle 44 = .ok (.invokestatic 27, 3) := by decide +kernel
theorem dX5_settle_47 : decode cX5_settle 47 = .ok (.aload_n 0, 1) := by decide +kernel
theorem dX5_settle_48 : decode cX5_settle 48 = .ok (.getfield 13, 3) := by decide +kernel
theorem dX5_settle_51 : decode cX5_settle 51 = .ok (.if_icmp .le 44, 3) := by decide +kernel
theorem dX5_settle_54 : decode cX5_settle 54 = .ok (.aload_n 0, 1) := by decide +kernel
theorem dX5_settle_55 : decode cX5_settle 55 = .ok (.iload 4, 2) := by decide +kernel
theorem dX5_settle_57 : decode cX5_settle 57 = .ok (.invokevirtual 23, 3) := by decide +kernel
theorem dX5_settle_60 : decode cX5_settle 60 = .ok (.invokestatic 27, 3) := by decide +kernel
theorem dX5_settle_63 : decode cX5_settle 63 = .ok (.iload_n 3, 1) := by decide +kernel
theorem dX5_settle_64 : decode cX5_settle 64 = .ok (.invokestatic 27, 3) := by decide +kernel
theorem dX5_settle_67 : decode cX5_settle 67 = .ok (.if_icmp .lt 6, 3) := by decide +kernel
theorem dX5_settle_70 : decode cX5_settle 70 = .ok (.goto 25, 3) := by decide +kernel
theorem dX5_settle_73 : decode cX5_settle 73 = .ok (.aload_n 0, 1) := by decide +kernel
theorem dX5_settle_74 : decode cX5_settle 74 = .ok (.iload 4, 2) := by decide +kernel
theorem dX5_settle_76 : decode cX5_settle 76 = .ok (.putfield 19, 3) := by decide +kernel
theorem dX5_settle_79 : decode cX5_settle 79 = .ok (.aload_n 0, 1) := by decide +kernel
theorem dX5_settle_80 : decode cX5_settle 80 = .ok (.dup, 1) := by decide +kernel
theorem dX5_settle_81 : decode cX5_settle 81 = .ok (.getfield 32, 3) := by decide +kernel
theorem dX5_settle_84 : decode cX5_settle 84 = .ok (.iconst 1, 1) := by decide +kernel
theorem dX5_settle_85 : decode cX5_settle 85 = .ok (.iadd, 1) := by decide +kernel
theorem dX5_settle_86 : decode cX5_settle 86 = .ok (.putfield 32, 3) := by decide +kernel
theorem dX5_settle_89 : decode cX5_settle 89 = .ok (.iinc 2 1, 3) := by decide +kernel
theorem dX5_settle_92 : decode cX5_settle 92 = .ok (.goto (-85), 3) := by decide +kernel
theorem dX5_settle_95 : decode cX5_settle 95 = .ok (.aload_n 0, 1) := by decide +kernel
theorem dX5_settle_96 : decode cX5_settle 96 = .ok (.getfield 19, 3) := by decide +kernel
theorem dX5_settle_99 : decode cX5_settle 99 = .ok (.iload_n 1, 1) := by decide +kernel
theorem dX5_settle_100 : decode cX5_settle 100 = .ok (.isub, 1) := by decide +kernel
theorem dX5_settle_101 : decode cX5_settle 101 = .ok (.ireturn, 1) := by decide +kernel
set_option maxRecDepth 20000 in
theorem ggX5_nearestNumber_J9_floorDiv_7cf53 : GoodIn wsX5_nearestNumber wsJ9_floorDiv_7cf53 := goodIn_r _ [5] (by decide +kernel) (by decide +kernel)
set_option maxRecDepth 20000 in
theorem gX5_nearestNumber_J9_floorDiv_7cf53 : GoodIn wsX5_nearestNumber (va_wsS RX5 35 yJ9_floorDiv_7cf53 wsJ9_floorDiv_7cf53) := goodIn_app (goodIn_of _ (by decide +kernel)) ggX5_nearestNumber_J9_floorDiv_7cf53
theorem dX5_nearestNumber_0 : decode cX5_nearestNumber 0 = .ok (.aload_n 0, 1) := by decide +kernel
theorem dX5_nearestNumber_1 : decode cX5_nearestNumber 1 = .ok (.getfield 16, 3) := by decide +kernel
theorem dX5_nearestNumber_4 : decode cX5_nearestNumber 4 = .ok (.sipush 500, 3) := by decide +kernel
theorem dX5_nearestNumber_7 : decode cX5_nearestNumber 7 = .ok (.iadd, 1) := by decide +kernel
theorem dX5_nearestNumber_8 : decode cX5_nearestNumber 8 = .ok (.sipush 1000, 3) := by decide +kernel
theorem dX5_nearestNumber_11 : decode cX5_nearestNumber 11 = .ok (.invokestatic 35, 3) := by decide +kernel
theorem dX5_nearestNumber_14 : decode cX5_nearestNumber 14 = .ok (.ireturn, 1) := by decide +kernel
theorem dX6_init_0 : decode cX6_init 0 = .ok (.aload_n 0, 1) := by decide +kernel
theorem dX6_init_1 : decode cX6_init 1 = .ok (.invokespecial 3, 3) := by decide +kernel
theorem dX6_init_4 : decode cX6_init 4 = .ok (.aload_n 0, 1) := by decide +kernel
theorem dX6_init_5 : decode cX6_init 5 = .ok (.iload_n 1, 1) := by decide +kernel
theorem dX6_init_6 : decode cX6_init 6 = .ok (.putfield 9, 3) := by decide +kernel
theorem dX6_init_9 : decode cX6_init 9 = .ok (.aload_n 0, 1) := by decide +kernel
theorem dX6_init_10 : decode cX6_init 10 = .ok (.iload_n 2, 1) := by decide +kernel
theorem dX6_init_11 : decode cX6_init 11 = .ok (.putfield 15, 3) := by decide +kernel
theorem dX6_init_14 : decode cX6_init 14 = .ok (.aload_n 0, 1) := by decide +kernel
theorem dX6_init_15 : decode cX6_init 15 = .ok (.iload_n 3, 1) := by decide +kernel
theorem dX6_init_16 : decode cX6_init 16 = .ok (.putfield 18, 3) := by decide +kernel
theorem dX6_init_19 : decode cX6_init 19 = .ok (.return_, 1) := by decide +kernel
set_option maxRecDepth 20000 in
theorem ggX6_phase_X6_boundOf : GoodIn wsX6_phase wsX6_boundOf := goodIn_r _ [14, 9, 8, 15, 16, 17, 18, 19] (by decide +kernel) (by decide +kernel)
set_option maxRecDepth 20000 in
theorem gX6_phase_X6_boundOf : GoodIn wsX6_phase (wsV RX6 33 RX6 yX6_boundOf wsX6_boundOf) := goodIn_app (goodIn_of _ (by decide +kernel)) ggX6_phase_X6_boundOf
theorem dX6_phase_0 : decode cX6_phase 0 = .ok (.aload_n 0, 1) := by decide +kernel
theorem dX6_phase_1 : decode cX6_phase 1 = .ok (.getfield 15, 3) := by decide +kernel
theorem dX6_phase_4 : decode cX6_phase 4 = .ok (.aload_n 0, 1) := by decide +kernel
theorem dX6_phase_5 : decode cX6_phase 5 = .ok (.getfield 18, 3) := by decide +kernel
theorem dX6_phase_8 : decode cX6_phase 8 = .ok (.if_icmp .lt 7, 3) := by decide +kernel
theorem dX6_phase_11 : decode cX6_phase 11 = .ok (.iconst 1, 1) := by decide +kernel
theorem dX6_phase_12 : decode cX6_phase 12 = .ok (.goto 4, 3) := by decide +kernel
theorem dX6_phase_15 : decode cX6_phase 15 = .ok (.iconst 0, 1) := by decide +kernel
theorem dX6_phase_16 : decode cX6_phase 16 = .ok (.istore_n 1, 1) := by decide +kernel
theorem dX6_phase_17 : decode cX6_phase 17 = .ok (.aload_n 0, 1) := by decide +kernel
theorem dX6_phase_18 : decode cX6_phase 18 = .ok (.getfield 21, 3) := by decide +kernel
theorem dX6_phase_21 : decode cX6_phase 21 = .ok (.invokestatic 24, 3) := by decide +kernel
theorem dX6_phase_24 : decode cX6_phase 24 = .ok (.istore_n 2, 1) := by decide +kernel
theorem dX6_phase_25 : decode cX6_phase 25 = .ok (.aload_n 0, 1) := by decide +kernel
theorem dX6_phase_26 : decode cX6_phase 26 = .ok (.getfield 30, 3) := by decide +kernel
theorem dX6_phase_29 : decode cX6_phase 29 = .ok (.aload_n 0, 1) := by decide +kernel
theorem dX6_phase_30 : decode cX6_phase 30 = .ok (.getfield 9, 3) := by decide +kernel
theorem dX6_phase_33 : decode cX6_phase 33 = .ok (.if_icmp .ge 26, 3) := by decide +kernel
theorem dX6_phase_36 : decode cX6_phase 36 = .ok (.iload_n 2, 1) := by decide +kernel
theorem dX6_phase_37 : decode cX6_phase 37 = .ok (.aload_n 0, 1) := by decide +kernel
theorem dX6_phase_38 : decode cX6_phase 38 = .ok (.iload_n 1, 1) := by decide +kernel
theorem dX6_phase_39 : decode cX6_phase 39 = .ok (.ifCond .eq 10, 3) := by decide +kernel
theorem dX6_phase_42 : decode cX6_phase 42 = .ok (.aload_n 0, 1) := by decide +kernel
theorem dX6_phase_43 : decode cX6_phase 43 = .ok (.getfield 15, 3) := by decide +kernel
theorem dX6_phase_46 : decode cX6_phase 46 = .ok (.goto 7, 3) := by decide +kernel
theorem dX6_phase_49 : decode cX6_phase 49 = .ok (.aload_n 0, 1) := by decide +kernel
theorem dX6_phase_50 : decode cX6_phase 50 = .ok (.getfield 18, 3) := by decide +kernel
theorem dX6_phase_53 : decode cX6_phase 53 = .ok (.invokevirtual 33, 3) := by decide +kernel
theorem dX6_phase_56 : decode cX6_phase 56 = .ok (.if_icmp .lt 5, 3) := by decide +kernel
theorem dX6_phase_59 : decode cX6_phase 59 = .ok (.iconst 0, 1) := by decide +kernel
theorem dX6_phase_60 : decode cX6_phase 60 = .ok (.ireturn, 1) := by decide +kernel
theorem dX6_phase_61 : decode cX6_phase 61 = .ok (.iload_n 1, 1) := by decide +kernel
theorem dX6_phase_62 : decode cX6_phase 62 = .ok (.ifCond .ne 19, 3) := by decide +kernel
theorem dX6_phase_65 : decode cX6_phase 65 = .ok (.iload_n 2, 1) := by decide +kernel
theorem dX6_phase_66 : decode cX6_phase 66 = .ok (.aload_n 0, 1) := by decide +kernel
theorem dX6_phase_67 : decode cX6_phase 67 = .ok (.aload_n 0, 1) := by decide +kernel
theorem dX6_phase_68 : decode cX6_phase 68 = .ok (.getfield 15, 3) := by decide +kernel
theorem dX6_phase_71 : decode cX6_phase 71 = .ok (.invokevirtual 33, 3) := by decide +kernel
theorem dX6_phase_74 : decode cX6_phase 74 = .ok (.if_icmp .lt 7, 3) := by decide +kernel
theorem dX6_phase_77 : decode cX6_phase 77 = .ok (.iconst 1, 1) := by decide +kernel
theorem dX6_phase_78 : decode cX6_phase 78 = .ok (.goto 4, 3) := by decide +kernel
theorem dX6_phase_81 : decode cX6_phase 81 = .ok (.iconst 2, 1) := by decide +kernel
theorem dX6_phase_82 : decode cX6_phase 82 = .ok (.ireturn, 1) := by decide +kernel
theorem dX6_boundOf_0 : decode cX6_boundOf 0 = .ok (.aload_n 0, 1) := by decide +kernel
theorem dX6_boundOf_1 : decode cX6_boundOf 1 = .ok (.getfield 9, 3) := by decide +kernel
theorem dX6_boundOf_4 : decode cX6_boundOf 4 = .ok (.aload_n 0, 1) := by decide +kernel
theorem dX6_boundOf_5 : decode cX6_boundOf 5 = .ok (.getfield 9, 3) := by decide +kernel
theorem dX6_boundOf_8 : decode cX6_boundOf 8 = .ok (.imul, 1) := by decide +kernel
theorem dX6_boundOf_9 : decode cX6_boundOf 9 = .ok (.istore_n 2, 1) := by decide +kernel
theorem dX6_boundOf_10 : decode cX6_boundOf 10 = .ok (.iload_n 2, 1) := by decide +kernel
theorem dX6_boundOf_11 : decode cX6_boundOf 11 = .ok (.ifCond .ne 7, 3) := by decide +kernel
theorem dX6_boundOf_14 : decode cX6_boundOf 14 = .ok (.iconst 0, 1) := by decide +kernel
theorem dX6_boundOf_15 : decode cX6_boundOf 15 = .ok (.goto 18, 3) := by decide +kernel
theorem dX6_boundOf_18 : decode cX6_boundOf 18 = .ok (.iload_n 1, 1) := by decide +kernel
theorem dX6_boundOf_19 : decode cX6_boundOf 19 = .ok (.iload_n 2, 1) := by decide +kernel
theorem dX6_boundOf_20 : decode cX6_boundOf 20 = .ok (.aload_n 0, 1) := by decide +kernel
theorem dX6_boundOf_21 : decode cX6_boundOf 21 = .ok (.getfield 30, 3) := by decide +kernel
theorem dX6_boundOf_24 : decode cX6_boundOf 24 = .ok (.aload_n 0, 1) := by decide +kernel
theorem dX6_boundOf_25 : decode cX6_boundOf 25 = .ok (.getfield 30, 3) := by decide +kernel
theorem dX6_boundOf_28 : decode cX6_boundOf 28 = .ok (.imul, 1) := by decide +kernel
theorem dX6_boundOf_29 : decode cX6_boundOf 29 = .ok (.isub, 1) := by decide +kernel
theorem dX6_boundOf_30 : decode cX6_boundOf 30 = .ok (.imul, 1) := by decide +kernel
theorem dX6_boundOf_31 : decode cX6_boundOf 31 = .ok (.iload_n 2, 1) := by decide +kernel
theorem dX6_boundOf_32 : decode cX6_boundOf 32 = .ok (.idiv, 1) := by decide +kernel
theorem dX6_boundOf_33 : decode cX6_boundOf 33 = .ok (.ireturn, 1) := by decide +kernel
theorem dX6_penetration_0 : decode cX6_penetration 0 = .ok (.aload_n 0, 1) := by decide +kernel
theorem dX6_penetration_1 : decode cX6_penetration 1 = .ok (.getfield 30, 3) := by decide +kernel
theorem dX6_penetration_4 : decode cX6_penetration 4 = .ok (.aload_n 0, 1) := by decide +kernel
theorem dX6_penetration_5 : decode cX6_penetration 5 = .ok (.getfield 9, 3) := by decide +kernel
theorem dX6_penetration_8 : decode cX6_penetration 8 = .ok (.if_icmp .ge 10, 3) := by decide +kernel
theorem dX6_penetration_11 : decode cX6_penetration 11 = .ok (.aload_n 0, 1) := by decide +kernel
theorem dX6_penetration_12 : decode cX6_penetration 12 = .ok (.getfield 9, 3) := by decide +kernel
theorem dX6_penetration_15 : decode cX6_penetration 15 = .ok (.ifCond .ne 5, 3) := by decide +kernel
theorem dX6_penetration_18 : decode cX6_penetration 18 = .ok (.dconst 0, 1) := by decide +kernel
theorem dX6_penetration_19 : decode cX6_penetration 19 = .ok (.dreturn, 1) := by decide +kernel
theorem dX6_penetration_20 : decode cX6_penetration 20 = .ok (.aload_n 0, 1) := by decide +kernel
theorem dX6_penetration_21 : decode cX6_penetration 21 = .ok (.getfield 30, 3) := by decide +kernel
theorem dX6_penetration_24 : decode cX6_penetration 24 = .ok (.i2d, 1) := by decide +kernel
theorem dX6_penetration_25 : decode cX6_penetration 25 = .ok (.aload_n 0, 1) := by decide +kernel
theorem dX6_penetration_26 : decode cX6_penetration 26 = .ok (.getfield 9, 3) := by decide +kernel
theorem dX6_penetration_29 : decode cX6_penetration 29 = .ok (.i2d, 1) := by decide +kernel
theorem dX6_penetration_30 : decode cX6_penetration 30 = .ok (.ddiv, 1) := by decide +kernel
theorem dX6_penetration_31 : decode cX6_penetration 31 = .ok (.dstore_n 1, 1) := by decide +kernel
theorem dX6_penetration_32 : decode cX6_penetration 32 = .ok (.dload_n 1, 1) := by decide +kernel
theorem dX6_penetration_33 : decode cX6_penetration 33 = .ok (.dload_n 1, 1) := by decide +kernel
theorem dX6_penetration_34 : decode cX6_penetration 34 = .ok (.dmul, 1) := by decide +kernel
theorem dX6_penetration_35 : decode cX6_penetration 35 = .ok (.dstore_n 3, 1) := by decide +kernel
theorem dX6_penetration_36 : decode cX6_penetration 36 = .ok (.ldc2_w 36, 3) := by decide +kernel
theorem dX6_penetration_39 : decode cX6_penetration 39 = .ok (.dconst 1, 1) := by decide +kernel
theorem dX6_penetration_40 : decode cX6_penetration 40 = .ok (.dload_n 3, 1) := by decide +kernel
theorem dX6_penetration_41 : decode cX6_penetration 41 = .ok (.dload_n 3, 1) := by decide +kernel
theorem dX6_penetration_42 : decode cX6_penetration 42 = .ok (.dmul, 1) := by decide +kernel
theorem dX6_penetration_43 : decode cX6_penetration 43 = .ok (.dsub, 1) := by decide +kernel
theorem dX6_penetration_44 : decode cX6_penetration 44 = .ok (.ddiv, 1) := by decide +kernel
theorem dX6_penetration_45 : decode cX6_penetration 45 = .ok (.dreturn, 1) := by decide +kernel
set_option maxRecDepth 20000 in
theorem ggX7_init_Jx4a65c_init_da8c8 : GoodIn wsX7_init wsJx4a65c_init_da8c8 := goodIn_r _ [25, 26, 27, 28, 29, 30, 31, 32, 33, 34, 35, 36, 37, 2, 3, 57, 58, 59] (by decide +kernel) (by decide +kernel)
set_option maxRecDepth 20000 in
theorem gX7_init_Jx4a65c_init_da8c8 : GoodIn wsX7_init (wsJx4a65c_init_da8c8) := ggX7_init_Jx4a65c_init_da8c8
set_option maxRecDepth 20000 in
theorem ggX7_init_X3_init : GoodIn wsX7_init wsX3_init := goodIn_r _ [40, 41, 2, 3, 42, 43, 44, 67, 68, 69, 70, 71] (by decide +kernel) (by decide +kernel)
set_option maxRecDepth 20000 in
theorem gX7_init_X3_init : GoodIn wsX7_init (wsX3_init) := ggX7_init_X3_init
set_option maxRecDepth 20000 in
theorem ggX7_init_X1_init : GoodIn wsX7_init wsX1_init := goodIn_r _ [47, 48, 2, 3, 42, 49, 50, 72, 73, 74, 75, 76, 77, 78] (by decide +kernel) (by decide +kernel)
set_option maxRecDepth 20000 in
theorem gX7_init_X1_init : GoodIn wsX7_init (wsX1_init) := ggX7_init_X1_init
set_option maxRecDepth 20000 in
theorem ggX7_init_X2_init : GoodIn wsX7_init wsX2_init := goodIn_r _ [53, 54, 2, 3, 55, 56, 79, 80, 81] (by decide +kernel) (by decide +kernel)
set_option maxRecDepth 20000 in
theorem gX7_init_X2_init : GoodIn wsX7_init (wsX2_init) := ggX7_init_X2_init
theorem dX7_init_0 : decode cX7_init 0 = .ok (.aload_n 0, 1) := by decide +kernel
theorem dX7_init_1 : decode cX7_init 1 = .ok (.invokespecial 1, 3) := by decide +kernel
theorem dX7_init_4 : decode cX7_init 4 = .ok (.aload_n 0, 1) := by decide +kernel
theorem dX7_init_5 : decode cX7_init 5 = .ok (.new 7, 3) := by decide +kernel
theorem dX7_init_8 : decode cX7_init 8 = .ok (.dup, 1) := by decide +kernel
theorem dX7_init_9 : decode cX7_init 9 = .ok (.invokespecial 9, 3) := by decide +kernel
theorem dX7_init_12 : decode cX7_init 12 = .ok (.putfield 10, 3) := by decide +kernel
theorem dX7_init_15 : decode cX7_init 15 = .ok (.aload_n 0, 1) := by decide +kernel
theorem dX7_init_16 : decode cX7_init 16 = .ok (.new 16, 3) := by decide +kernel
theorem dX7_init_19 : decode cX7_init 19 = .ok (.dup, 1) := by decide +kernel
theorem dX7_init_20 : decode cX7_init 20 = .ok (.invokespecial 18, 3) := by decide +kernel
theorem dX7_init_23 : decode cX7_init 23 = .ok (.putfield 19, 3) := by decide +kernel
theorem dX7_init_26 : decode cX7_init 26 = .ok (.aload_n 0, 1) := by decide +kernel
theorem dX7_init_27 : decode cX7_init 27 = .ok (.new 7, 3) := by decide +kernel
theorem dX7_init_30 : decode cX7_init 30 = .ok (.dup, 1) := by decide +kernel
theorem dX7_init_31 : decode cX7_init 31 = .ok (.invokespecial 9, 3) := by decide +kernel
theorem dX7_init_34 : decode cX7_init 34 = .ok (.putfield 23, 3) := by decide +kernel
theorem dX7_init_37 : decode cX7_init 37 = .ok (.aload_n 0, 1) := by decide +kernel
theorem dX7_init_38 : decode cX7_init 38 = .ok (.new 26, 3) := by decide +kernel
theorem dX7_init_41 : decode cX7_init 41 = .ok (.dup, 1) := by decide +kernel
theorem dX7_init_42 : decode cX7_init 42 = .ok (.invokespecial 28, 3) := by decide +kernel
theorem dX7_init_45 : decode cX7_init 45 = .ok (.putfield 29, 3) := by decide +kernel
theorem dX7_init_48 : decode cX7_init 48 = .ok (.aload_n 0, 1) := by decide +kernel
theorem dX7_init_49 : decode cX7_init 49 = .ok (.new 33, 3) := by decide +kernel
theorem dX7_init_52 : decode cX7_init 52 = .ok (.dup, 1) := by decide +kernel
theorem dX7_init_53 : decode cX7_init 53 = .ok (.invokespecial 35, 3) := by decide +kernel
theorem dX7_init_56 : decode cX7_init 56 = .ok (.putfield 36, 3) := by decide +kernel
theorem dX7_init_59 : decode cX7_init 59 = .ok (.aload_n 0, 1) := by decide +kernel
theorem dX7_init_60 : decode cX7_init 60 = .ok (.new 7, 3) := by decide +kernel
theorem dX7_init_63 : decode cX7_init 63 = .ok (.dup, 1) := by decide +kernel
theorem dX7_init_64 : decode cX7_init 64 = .ok (.invokespecial 9, 3) := by decide +kernel
theorem dX7_init_67 : decode cX7_init 67 = .ok (.putfield 40, 3) := by decide +kernel
theorem dX7_init_70 : decode cX7_init 70 = .ok (.aload_n 0, 1) := by decide +kernel
theorem dX7_init_71 : decode cX7_init 71 = .ok (.new 7, 3) := by decide +kernel
theorem dX7_init_74 : decode cX7_init 74 = .ok (.dup, 1) := by decide +kernel
theorem dX7_init_75 : decode cX7_init 75 = .ok (.invokespecial 9, 3) := by decide +kernel
theorem dX7_init_78 : decode cX7_init 78 = .ok (.putfield 43, 3) := by decide +kernel
theorem dX7_init_81 : decode cX7_init 81 = .ok (.return_, 1) := by decide +kernel
set_option maxRecDepth 20000 in
theorem ggX7_sample_X7_refuseOutside : GoodIn wsX7_sample wsX7_refuseOutside := goodIn_ca (goodIn_r _ [8, 9, 10] (by decide +kernel) (by decide +kernel)) (goodIn_sub (fun _ h => List.mem_cons_of_mem _ (List.mem_append_left _ (List.mem_append_right _ h))) (by decide +kernel))
set_option maxRecDepth 20000 in
theorem gX7_sample_X7_refuseOutside : GoodIn wsX7_sample (va_wsS RX7 46 yX7_refuseOutside wsX7_refuseOutside) := goodIn_app (goodIn_of _ (by decide +kernel)) ggX7_sample_X7_refuseOutside
set_option maxRecDepth 20000 in
theorem ggX7_sample_Jx4a65c_size_8abf5 : GoodIn wsX7_sample wsJx4a65c_size_8abf5 := goodIn_r _ [15, 16, 97, 98, 99] (by decide +kernel) (by decide +kernel)
set_option maxRecDepth 20000 in
theorem gX7_sample_Jx4a65c_size_8abf5 : GoodIn wsX7_sample (wsV RX7 50 RJx4a65c yJx4a65c_size_8abf5 wsJx4a65c_size_8abf5) := goodIn_app (goodIn_of _ (by decide +kernel)) ggX7_sample_Jx4a65c_size_8abf5
set_option maxRecDepth 20000 in
theorem ggX7_sample_X7_refuseFull : GoodIn wsX7_sample wsX7_refuseFull := goodIn_ca (goodIn_r _ [19, 20, 21] (by decide +kernel) (by decide +kernel)) (goodIn_sub (fun _ h => List.mem_cons_of_mem _ (List.mem_append_right _ h)) (by decide +kernel))
set_option maxRecDepth 20000 in
theorem gX7_sample_X7_refuseFull : GoodIn wsX7_sample (va_wsS RX7 54 yX7_refuseFull wsX7_refuseFull) := goodIn_app (goodIn_of _ (by decide +kernel)) ggX7_sample_X7_refuseFull
set_option maxRecDepth 20000 in
theorem ggX7_sample_X6_init : GoodIn wsX7_sample wsX6_init := goodIn_r _ [24, 25, 26, 27, 28, 29, 30, 92, 93, 94, 95, 96] (by decide +kernel) (by decide +kernel)
set_option maxRecDepth 20000 in
theorem gX7_sample_X6_init : GoodIn wsX7_sample (wsX6_init) := ggX7_sample_X6_init
set_option maxRecDepth 20000 in
theorem ggX7_sample_Jx4a65c_add_9ea2d : GoodIn wsX7_sample wsJx4a65c_add_9ea2d := goodIn_r _ [34, 35, 36, 37, 16, 38, 39, 40, 14, 41, 42, 43, 44, 45, 46, 47, 48, 49, 50, 51, 52, 53, 54, 55, 56, 57, 58, 59, 60, 61, 62, 63, 64, 65, 66, 67, 68, 69, 70, 71, 72, 73, 74, 75, 76, 77, 78, 79, 80, 81, 82, 83, 84, 97, 98, 99] (by decide +kernel) (by decide +kernel)
set_option maxRecDepth 20000 in
theorem gX7_sample_Jx4a65c_add_9ea2d : GoodIn wsX7_sample (wsV RX7 62 RJx4a65c yJx4a65c_add_9ea2d wsJx4a65c_add_9ea2d) := goodIn_app (goodIn_of _ (by decide +kernel)) ggX7_sample_Jx4a65c_add_9ea2d
theorem dX7_sample_0 : decode cX7_sample 0 = .ok (.iload_n 1, 1) := by decide +kernel
theorem dX7_sample_1 : decode cX7_sample 1 = .ok (.iconst 1, 1) := by decide +kernel
theorem dX7_sample_2 : decode cX7_sample 2 = .ok (.sipush 200, 3) := by decide +kernel
theorem dX7_sample_5 : decode cX7_sample 5 = .ok (.invokestatic 46, 3) := by decide +kernel
theorem dX7_sample_8 : decode cX7_sample 8 = .ok (.iload_n 2, 1) := by decide +kernel
theorem dX7_sample_9 : decode cX7_sample 9 = .ok (.iconst 1, 1) := by decide +kernel
theorem dX7_sample_10 : decode cX7_sample 10 = .ok (.sipush 1000, 3) := by decide +kernel
theorem dX7_sample_13 : decode cX7_sample 13 = .ok (.invokestatic 46, 3) := by decide +kernel
theorem dX7_sample_16 : decode cX7_sample 16 = .ok (.iload_n 3, 1) := by decide +kernel
theorem dX7_sample_17 : decode cX7_sample 17 = .ok (.iconst 1, 1) := by decide +kernel
theorem dX7_sample_18 : decode cX7_sample 18 = .ok (.sipush 1000, 3) := by decide +kernel
theorem dX7_sample_21 : decode cX7_sample 21 = .ok (.invokestatic 46, 3) := by decide +kernel
theorem dX7_sample_24 : decode cX7_sample 24 = .ok (.aload_n 0, 1) := by decide +kernel
theorem dX7_sample_25 : decode cX7_sample 25 = .ok (.getfield 10, 3) := by decide +kernel
theorem dX7_sample_28 : decode cX7_sample 28 = .ok (.invokevirtual 50, 3) := by decide +kernel
theorem dX7_sample_31 : decode cX7_sample 31 = .ok (.bipush 8, 2) := by decide +kernel
theorem dX7_sample_33 : decode cX7_sample 33 = .ok (.invokestatic 54, 3) := by decide +kernel
theorem dX7_sample_36 : decode cX7_sample 36 = .ok (.aload_n 0, 1) := by decide +kernel
theorem dX7_sample_37 : decode cX7_sample 37 = .ok (.getfield 10, 3) := by decide +kernel
theorem dX7_sample_40 : decode cX7_sample 40 = .ok (.new 58, 3) := by decide +kernel
theorem dX7_sample_43 : decode cX7_sample 43 = .ok (.dup, 1) := by decide +kernel
theorem dX7_sample_44 : decode cX7_sample 44 = .ok (.iload_n 1, 1) := by decide +kernel
theorem dX7_sample_45 : decode cX7_sample 45 = .ok (.iload_n 2, 1) := by decide +kernel
theorem dX7_sample_46 : decode cX7_sample 46 = .ok (.iload_n 3, 1) := by decide +kernel
theorem dX7_sample_47 : decode cX7_sample 47 = .ok (.invokespecial 60, 3) := by decide +kernel
theorem dX7_sample_50 : decode cX7_sample 50 = .ok (.invokevirtual 62, 3) := by decide +kernel
theorem dX7_sample_53 : decode cX7_sample 53 = .ok (.pop, 1) := by decide +kernel
theorem dX7_sample_54 : decode cX7_sample 54 = .ok (.aload_n 0, 1) := by decide +kernel
theorem dX7_sample_55 : decode cX7_sample 55 = .ok (.getfield 10, 3) := by decide +kernel
theorem dX7_sample_58 : decode cX7_sample 58 = .ok (.invokevirtual 50, 3) := by decide +kernel
theorem dX7_sample_61 : decode cX7_sample 61 = .ok (.iconst 1, 1) := by decide +kernel
theorem dX7_sample_62 : decode cX7_sample 62 = .ok (.isub, 1) := by decide +kernel
theorem dX7_sample_63 : decode cX7_sample 63 = .ok (.ireturn, 1) := by decide +kernel
set_option maxRecDepth 20000 in
theorem ggX7_set_Jx4a65c_size_8abf5 : GoodIn wsX7_set wsJx4a65c_size_8abf5 := goodIn_r _ [9, 10, 69, 70, 71] (by decide +kernel) (by decide +kernel)
set_option maxRecDepth 20000 in
theorem gX7_set_Jx4a65c_size_8abf5 : GoodIn wsX7_set (wsV RX7 50 RJx4a65c yJx4a65c_size_8abf5 wsJx4a65c_size_8abf5) := goodIn_app (goodIn_of _ (by decide +kernel)) ggX7_set_Jx4a65c_size_8abf5
set_option maxRecDepth 20000 in
theorem ggX7_set_X7_refuseUnknown : GoodIn wsX7_set wsX7_refuseUnknown := goodIn_ca (goodIn_r _ [14, 15, 16] (by decide +kernel) (by decide +kernel)) (goodIn_sub (fun _ h => List.mem_cons_of_mem _ (List.mem_append_left _ (List.mem_append_right _ h))) (by decide +kernel))
set_option maxRecDepth 20000 in
theorem gX7_set_X7_refuseUnknown : GoodIn wsX7_set (va_wsS RX7 66 yX7_refuseUnknown wsX7_refuseUnknown) := goodIn_app (goodIn_of _ (by decide +kernel)) ggX7_set_X7_refuseUnknown
set_option maxRecDepth 20000 in
theorem ggX7_set_X7_refuseOutside : GoodIn wsX7_set wsX7_refuseOutside := goodIn_ca (goodIn_r _ [19, 20, 21] (by decide +kernel) (by decide +kernel)) (goodIn_sub (fun _ h => List.mem_cons_of_mem _ (List.mem_append_right _ h)) (by decide +kernel))
set_option maxRecDepth 20000 in
theorem gX7_set_X7_refuseOutside : GoodIn wsX7_set (va_wsS RX7 46 yX7_refuseOutside wsX7_refuseOutside) := goodIn_app (goodIn_of _ (by decide +kernel)) ggX7_set_X7_refuseOutside
set_option maxRecDepth 20000 in
theorem ggX7_set_Jx4a65c_get_915e3 : GoodIn wsX7_set wsJx4a65c_get_915e3 := goodIn_r _ [25, 10, 26, 27, 28, 29, 30, 31, 32, 33, 34, 35, 36, 8, 37, 38, 69, 70, 71] (by decide +kernel) (by decide +kernel)
set_option maxRecDepth 20000 in
theorem gX7_set_Jx4a65c_get_915e3 : GoodIn wsX7_set (wsV RX7 69 RJx4a65c yJx4a65c_get_915e3 wsJx4a65c_get_915e3) := goodIn_app (goodIn_of _ (by decide +kernel)) ggX7_set_Jx4a65c_get_915e3
set_option maxRecDepth 20000 in
theorem ggX7_set_X6_phase : GoodIn wsX7_set wsX6_phase := goodIn_r _ [43, 44, 45, 46, 47, 48, 49, 50, 51, 52, 53, 54, 55, 42, 56, 64, 65, 66, 67, 68] (by decide +kernel) (by decide +kernel)
set_option maxRecDepth 20000 in
theorem gX7_set_X6_phase : GoodIn wsX7_set (wsV RX7 80 RX6 yX6_phase wsX6_phase) := goodIn_app (goodIn_of _ (by decide +kernel)) ggX7_set_X6_phase
theorem dX7_set_0 : decode cX7_set 0 = .ok (.iload_n 1, 1) := by decide +kernel
theorem dX7_set_1 : decode cX7_set 1 = .ok (.aload_n 0, 1) := by decide +kernel
theorem dX7_set_2 : decode cX7_set 2 = .ok (.getfield 10, 3) := by decide +kernel
theorem dX7_set_5 : decode cX7_set 5 = .ok (.invokevirtual 50, 3) := by decide +kernel
theorem dX7_set_8 : decode cX7_set 8 = .ok (.invokestatic 66, 3) := by decide +kernel
theorem dX7_set_11 : decode cX7_set 11 = .ok (.iload_n 2, 1) := by decide +kernel
theorem dX7_set_12 : decode cX7_set 12 = .ok (.iconst 0, 1) := by decide +kernel
theorem dX7_set_13 : decode cX7_set 13 = .ok (.sipush 300, 3) := by decide +kernel
theorem dX7_set_16 : decode cX7_set 16 = .ok (.invokestatic 46, 3) := by decide +kernel
theorem dX7_set_19 : decode cX7_set 19 = .ok (.iload_n 3, 1) := by decide +kernel
theorem dX7_set_20 : decode cX7_set 20 = .ok (.sipush (-1000), 3) := by decide +kernel
theorem dX7_set_23 : decode cX7_set 23 = .ok (.sipush 1000, 3) := by decide +kernel
theorem dX7_set_26 : decode cX7_set 26 = .ok (.invokestatic 46, 3) := by decide +kernel
theorem dX7_set_29 : decode cX7_set 29 = .ok (.aload_n 0, 1) := by decide +kernel
theorem dX7_set_30 : decode cX7_set 30 = .ok (.getfield 10, 3) := by decide +kernel
theorem dX7_set_33 : decode cX7_set 33 = .ok (.iload_n 1, 1) := by decide +kernel
theorem dX7_set_34 : decode cX7_set 34 = .ok (.invokevirtual 69, 3) := by decide +kernel
theorem dX7_set_37 : decode cX7_set 37 = .ok (.checkcast 58, 3) := by decide +kernel
theorem dX7_set_40 : decode cX7_set 40 = .ok (.astore 4, 2) := by decide +kernel
theorem dX7_set_42 : decode cX7_set 42 = .ok (.aload 4, 2) := by decide +kernel
theorem dX7_set_44 : decode cX7_set 44 = .ok (.iload_n 2, 1) := by decide +kernel
theorem dX7_set_45 : decode cX7_set 45 = .ok (.putfield 73, 3) := by decide +kernel
theorem dX7_set_48 : decode cX7_set 48 = .ok (.aload 4, 2) := by decide +kernel
theorem dX7_set_50 : decode cX7_set 50 = .ok (.iload_n 3, 1) := by decide +kernel
theorem dX7_set_51 : decode cX7_set 51 = .ok (.putfield 77, 3) := by decide +kernel
theorem dX7_set_54 : decode cX7_set 54 = .ok (.aload 4, 2) := by decide +kernel
theorem dX7_set_56 : decode cX7_set 56 = .ok (.invokevirtual 80, 3) := by decide +kernel
theorem dX7_set_59 : decode cX7_set 59 = .ok (.ireturn, 1) := by decide +kernel
set_option maxRecDepth 20000 in
theorem ggX7_deep_Jx4a65c_size_8abf5 : GoodIn wsX7_deep wsJx4a65c_size_8abf5 := goodIn_r _ [7, 8, 47, 48, 49] (by decide +kernel) (by decide +kernel)
set_option maxRecDepth 20000 in
theorem gX7_deep_Jx4a65c_size_8abf5 : GoodIn wsX7_deep (wsV RX7 50 RJx4a65c yJx4a65c_size_8abf5 wsJx4a65c_size_8abf5) := goodIn_app (goodIn_of _ (by decide +kernel)) ggX7_deep_Jx4a65c_size_8abf5
set_option maxRecDepth 20000 in
theorem ggX7_deep_X7_refuseUnknown : GoodIn wsX7_deep wsX7_refuseUnknown := goodIn_ca (goodIn_r _ [12, 13, 14] (by decide +kernel) (by decide +kernel)) (goodIn_sub (fun _ h => List.mem_cons_of_mem _ (List.mem_append_right _ h)) (by decide +kernel))
set_option maxRecDepth 20000 in
theorem gX7_deep_X7_refuseUnknown : GoodIn wsX7_deep (va_wsS RX7 66 yX7_refuseUnknown wsX7_refuseUnknown) := goodIn_app (goodIn_of _ (by decide +kernel)) ggX7_deep_X7_refuseUnknown
set_option maxRecDepth 20000 in
theorem ggX7_deep_Jx4a65c_get_915e3 : GoodIn wsX7_deep wsJx4a65c_get_915e3 := goodIn_r _ [18, 8, 19, 20, 21, 22, 23, 24, 25, 26, 27, 28, 29, 6, 30, 31, 47, 48, 49] (by decide +kernel) (by decide +kernel)
set_option maxRecDepth 20000 in
theorem gX7_deep_Jx4a65c_get_915e3 : GoodIn wsX7_deep (wsV RX7 69 RJx4a65c yJx4a65c_get_915e3 wsJx4a65c_get_915e3) := goodIn_app (goodIn_of _ (by decide +kernel)) ggX7_deep_Jx4a65c_get_915e3
set_option maxRecDepth 20000 in
theorem ggX7_deep_X6_penetration : GoodIn wsX7_deep wsX6_penetration := goodIn_r _ [36, 37, 38, 39, 50, 51, 52, 53, 54] (by decide +kernel) (by decide +kernel)
set_option maxRecDepth 20000 in
theorem gX7_deep_X6_penetration : GoodIn wsX7_deep (wsV RX7 83 RX6 yX6_penetration wsX6_penetration) := goodIn_app (goodIn_of _ (by decide +kernel)) ggX7_deep_X6_penetration
theorem dX7_deep_0 : decode cX7_deep 0 = .ok (.iload_n 1, 1) := by decide +kernel
theorem dX7_deep_1 : decode cX7_deep 1 = .ok (.aload_n 0, 1) := by decide +kernel
theorem dX7_deep_2 : decode cX7_deep 2 = .ok (.getfield 10, 3) := by decide +kernel
theorem dX7_deep_5 : decode cX7_deep 5 = .ok (.invokevirtual 50, 3) := by decide +kernel
theorem dX7_deep_8 : decode cX7_deep 8 = .ok (.invokestatic 66, 3) := by decide +kernel
theorem dX7_deep_11 : decode cX7_deep 11 = .ok (.aload_n 0, 1) := by decide +kernel
theorem dX7_deep_12 : decode cX7_deep 12 = .ok (.getfield 10, 3) := by decide +kernel
theorem dX7_deep_15 : decode cX7_deep 15 = .ok (.iload_n 1, 1) := by decide +kernel
theorem dX7_deep_16 : decode cX7_deep 16 = .ok (.invokevirtual 69, 3) := by decide +kernel
theorem dX7_deep_19 : decode cX7_deep 19 = .ok (.checkcast 58, 3) := by decide +kernel
theorem dX7_deep_22 : decode cX7_deep 22 = .ok (.invokevirtual 83, 3) := by decide +kernel
theorem dX7_deep_25 : decode cX7_deep 25 = .ok (.dreturn, 1) := by decide +kernel
set_option maxRecDepth 20000 in
theorem ggX7_pin_X7_refuseUnknown : GoodIn wsX7_pin wsX7_refuseUnknown := goodIn_ca (goodIn_r _ [6, 7, 8] (by decide +kernel) (by decide +kernel)) (goodIn_sub (fun _ h => List.mem_cons_of_mem _ (List.mem_append_left _ (List.mem_append_right _ h))) (by decide +kernel))
set_option maxRecDepth 20000 in
theorem gX7_pin_X7_refuseUnknown : GoodIn wsX7_pin (va_wsS RX7 66 yX7_refuseUnknown wsX7_refuseUnknown) := goodIn_app (goodIn_of _ (by decide +kernel)) ggX7_pin_X7_refuseUnknown
set_option maxRecDepth 20000 in
theorem ggX7_pin_X7_refuseOutside : GoodIn wsX7_pin wsX7_refuseOutside := goodIn_ca (goodIn_r _ [11, 12, 13] (by decide +kernel) (by decide +kernel)) (goodIn_sub (fun _ h => List.mem_cons_of_mem _ (List.mem_append_right _ h)) (by decide +kernel))
set_option maxRecDepth 20000 in
theorem gX7_pin_X7_refuseOutside : GoodIn wsX7_pin (va_wsS RX7 46 yX7_refuseOutside wsX7_refuseOutside) := goodIn_app (goodIn_of _ (by decide +kernel)) ggX7_pin_X7_refuseOutside
theorem dX7_pin_0 : decode cX7_pin 0 = .ok (.iload_n 1, 1) := by decide +kernel
theorem dX7_pin_1 : decode cX7_pin 1 = .ok (.bipush 48, 2) := by decide +kernel
theorem dX7_pin_3 : decode cX7_pin 3 = .ok (.invokestatic 66, 3) := by decide +kernel
theorem dX7_pin_6 : decode cX7_pin 6 = .ok (.iload_n 2, 1) := by decide +kernel
theorem dX7_pin_7 : decode cX7_pin 7 = .ok (.iconst 0, 1) := by decide +kernel
theorem dX7_pin_8 : decode cX7_pin 8 = .ok (.bipush 50, 2) := by decide +kernel
theorem dX7_pin_10 : decode cX7_pin 10 = .ok (.invokestatic 46, 3) := by decide +kernel
theorem dX7_pin_13 : decode cX7_pin 13 = .ok (.aload_n 0, 1) := by decide +kernel
theorem dX7_pin_14 : decode cX7_pin 14 = .ok (.getfield 19, 3) := by decide +kernel
theorem dX7_pin_17 : decode cX7_pin 17 = .ok (.getfield 87, 3) := by decide +kernel
theorem dX7_pin_20 : decode cX7_pin 20 = .ok (.iload_n 1, 1) := by decide +kernel
theorem dX7_pin_21 : decode cX7_pin 21 = .ok (.iaload, 1) := by decide +kernel
theorem dX7_pin_22 : decode cX7_pin 22 = .ok (.istore_n 3, 1) := by decide +kernel
theorem dX7_pin_23 : decode cX7_pin 23 = .ok (.aload_n 0, 1) := by decide +kernel
theorem dX7_pin_24 : decode cX7_pin 24 = .ok (.getfield 19, 3) := by decide +kernel
theorem dX7_pin_27 : decode cX7_pin 27 = .ok (.getfield 87, 3) := by decide +kernel
theorem dX7_pin_30 : decode cX7_pin 30 = .ok (.iload_n 1, 1) := by decide +kernel
theorem dX7_pin_31 : decode cX7_pin 31 = .ok (.iload_n 2, 1) := by decide +kernel
theorem dX7_pin_32 : decode cX7_pin 32 = .ok (.iastore, 1) := by decide +kernel
theorem dX7_pin_33 : decode cX7_pin 33 = .ok (.iload_n 3, 1) := by decide +kernel
theorem dX7_pin_34 : decode cX7_pin 34 = .ok (.ireturn, 1) := by decide +kernel
set_option maxRecDepth 20000 in
theorem ggX7_drive_X7_refuseOutside : GoodIn wsX7_drive wsX7_refuseOutside := goodIn_ca (goodIn_r _ [7, 8, 9] (by decide +kernel) (by decide +kernel)) (goodIn_sub (fun _ h => List.mem_cons_of_mem _ (List.mem_append_right _ h)) (by decide +kernel))
set_option maxRecDepth 20000 in
theorem gX7_drive_X7_refuseOutside : GoodIn wsX7_drive (va_wsS RX7 46 yX7_refuseOutside wsX7_refuseOutside) := goodIn_app (goodIn_of _ (by decide +kernel)) ggX7_drive_X7_refuseOutside
theorem dX7_drive_0 : decode cX7_drive 0 = .ok (.iload_n 1, 1) := by decide +kernel
theorem dX7_drive_1 : decode cX7_drive 1 = .ok (.bipush (-9), 2) := by decide +kernel
theorem dX7_drive_3 : decode cX7_drive 3 = .ok (.bipush 9, 2) := by decide +kernel
theorem dX7_drive_5 : decode cX7_drive 5 = .ok (.invokestatic 46, 3) := by decide +kernel
theorem dX7_drive_8 : decode cX7_drive 8 = .ok (.iload_n 2, 1) := by decide +kernel
theorem dX7_drive_9 : decode cX7_drive 9 = .ok (.iconst 0, 1) := by decide +kernel
theorem dX7_drive_10 : decode cX7_drive 10 = .ok (.bipush 30, 2) := by decide +kernel
theorem dX7_drive_12 : decode cX7_drive 12 = .ok (.invokestatic 46, 3) := by decide +kernel
theorem dX7_drive_15 : decode cX7_drive 15 = .ok (.aload_n 0, 1) := by decide +kernel
theorem dX7_drive_16 : decode cX7_drive 16 = .ok (.getfield 19, 3) := by decide +kernel
theorem dX7_drive_19 : decode cX7_drive 19 = .ok (.iload_n 1, 1) := by decide +kernel
theorem dX7_drive_20 : decode cX7_drive 20 = .ok (.putfield 91, 3) := by decide +kernel
theorem dX7_drive_23 : decode cX7_drive 23 = .ok (.aload_n 0, 1) := by decide +kernel
theorem dX7_drive_24 : decode cX7_drive 24 = .ok (.getfield 19, 3) := by decide +kernel
theorem dX7_drive_27 : decode cX7_drive 27 = .ok (.iload_n 2, 1) := by decide +kernel
theorem dX7_drive_28 : decode cX7_drive 28 = .ok (.putfield 94, 3) := by decide +kernel
theorem dX7_drive_31 : decode cX7_drive 31 = .ok (.return_, 1) := by decide +kernel
set_option maxRecDepth 20000 in
theorem ggX7_enter_X7_refuseOutside : GoodIn wsX7_enter wsX7_refuseOutside := goodIn_ca (goodIn_r _ [7, 8, 9] (by decide +kernel) (by decide +kernel)) (goodIn_sub (fun _ h => List.mem_cons_of_mem _ (List.mem_append_left _ (List.mem_append_right _ h))) (by decide +kernel))
set_option maxRecDepth 20000 in
theorem gX7_enter_X7_refuseOutside : GoodIn wsX7_enter (va_wsS RX7 46 yX7_refuseOutside wsX7_refuseOutside) := goodIn_app (goodIn_of _ (by decide +kernel)) ggX7_enter_X7_refuseOutside
set_option maxRecDepth 20000 in
theorem ggX7_enter_X7_refuseFull : GoodIn wsX7_enter wsX7_refuseFull := goodIn_ca (goodIn_r _ [12, 13, 14] (by decide +kernel) (by decide +kernel)) (goodIn_sub (fun _ h => List.mem_cons_of_mem _ (List.mem_append_right _ h)) (by decide +kernel))
set_option maxRecDepth 20000 in
theorem gX7_enter_X7_refuseFull : GoodIn wsX7_enter (va_wsS RX7 54 yX7_refuseFull wsX7_refuseFull) := goodIn_app (goodIn_of _ (by decide +kernel)) ggX7_enter_X7_refuseFull
set_option maxRecDepth 20000 in
theorem ggX7_enter_X3_calmestEntry : GoodIn wsX7_enter wsX3_calmestEntry := goodIn_r _ [19, 20, 21, 22, 18, 23, 24, 25, 26, 27, 28, 29, 30, 31, 32, 33, 34, 35, 36, 37, 38, 39, 40, 41, 50, 51, 52, 53, 54] (by decide +kernel) (by decide +kernel)
set_option maxRecDepth 20000 in
theorem gX7_enter_X3_calmestEntry : GoodIn wsX7_enter (wsV RX7 100 RX3 yX3_calmestEntry wsX3_calmestEntry) := goodIn_app (goodIn_of _ (by decide +kernel)) ggX7_enter_X3_calmestEntry
set_option maxRecDepth 20000 in
theorem ggX7_enter_X3_energyAt : GoodIn wsX7_enter wsX3_energyAt := goodIn_r _ [28, 24, 29, 30, 31, 18, 32, 33, 34, 35, 36, 37, 38, 39, 40, 41, 50, 51, 52, 53, 54] (by decide +kernel) (by decide +kernel)
set_option maxRecDepth 20000 in
theorem gX7_enter_X3_energyAt : GoodIn wsX7_enter (wsV RX7 104 RX3 yX3_energyAt wsX3_energyAt) := goodIn_app (goodIn_of _ (by decide +kernel)) ggX7_enter_X3_energyAt
theorem dX7_enter_0 : decode cX7_enter 0 = .ok (.iload_n 1, 1) := by decide +kernel
theorem dX7_enter_1 : decode cX7_enter 1 = .ok (.bipush (-100), 2) := by decide +kernel
theorem dX7_enter_3 : decode cX7_enter 3 = .ok (.sipush 1000, 3) := by decide +kernel
theorem dX7_enter_6 : decode cX7_enter 6 = .ok (.invokestatic 46, 3) := by decide +kernel
theorem dX7_enter_9 : decode cX7_enter 9 = .ok (.aload_n 0, 1) := by decide +kernel
theorem dX7_enter_10 : decode cX7_enter 10 = .ok (.getfield 19, 3) := by decide +kernel
theorem dX7_enter_13 : decode cX7_enter 13 = .ok (.getfield 97, 3) := by decide +kernel
theorem dX7_enter_16 : decode cX7_enter 16 = .ok (.bipush 20, 2) := by decide +kernel
theorem dX7_enter_18 : decode cX7_enter 18 = .ok (.invokestatic 54, 3) := by decide +kernel
theorem dX7_enter_21 : decode cX7_enter 21 = .ok (.aload_n 0, 1) := by decide +kernel
theorem dX7_enter_22 : decode cX7_enter 22 = .ok (.getfield 19, 3) := by decide +kernel
theorem dX7_enter_25 : decode cX7_enter 25 = .ok (.getfield 97, 3) := by decide +kernel
theorem dX7_enter_28 : decode cX7_enter 28 = .ok (.istore_n 2, 1) := by decide +kernel
theorem dX7_enter_29 : decode cX7_enter 29 = .ok (.aload_n 0, 1) := by decide +kernel
theorem dX7_enter_30 : decode cX7_enter 30 = .ok (.getfield 19, 3) := by decide +kernel
theorem dX7_enter_33 : decode cX7_enter 33 = .ok (.iload_n 2, 1) := by decide +kernel
theorem dX7_enter_34 : decode cX7_enter 34 = .ok (.invokevirtual 100, 3) := by decide +kernel
theorem dX7_enter_37 : decode cX7_enter 37 = .ok (.istore_n 3, 1) := by decide +kernel
theorem dX7_enter_38 : decode cX7_enter 38 = .ok (.iload_n 3, 1) := by decide +kernel
theorem dX7_enter_39 : decode cX7_enter 39 = .ok (.iconst (-1), 1) := by decide +kernel
theorem dX7_enter_40 : decode cX7_enter 40 = .ok (.if_icmp .eq 16, 3) := by decide +kernel
theorem dX7_enter_43 : decode cX7_enter 43 = .ok (.aload_n 0, 1) := by decide +kernel
theorem dX7_enter_44 : decode cX7_enter 44 = .ok (.getfield 19, 3) := by decide +kernel
theorem dX7_enter_47 : decode cX7_enter 47 = .ok (.iload_n 2, 1) := by decide +kernel
theorem dX7_enter_48 : decode cX7_enter 48 = .ok (.iload_n 3, 1) := by decide +kernel
theorem dX7_enter_49 : decode cX7_enter 49 = .ok (.invokevirtual 104, 3) := by decide +kernel
theorem dX7_enter_52 : decode cX7_enter 52 = .ok (.iload_n 1, 1) := by decide +kernel
theorem dX7_enter_53 : decode cX7_enter 53 = .ok (.if_icmp .le 5, 3) := by decide +kernel
theorem dX7_enter_56 : decode cX7_enter 56 = .ok (.iconst (-1), 1) := by decide +kernel
theorem dX7_enter_57 : decode cX7_enter 57 = .ok (.ireturn, 1) := by decide +kernel
theorem dX7_enter_58 : decode cX7_enter 58 = .ok (.aload_n 0, 1) := by decide +kernel
theorem dX7_enter_59 : decode cX7_enter 59 = .ok (.getfield 19, 3) := by decide +kernel
theorem dX7_enter_62 : decode cX7_enter 62 = .ok (.getfield 108, 3) := by decide +kernel
theorem dX7_enter_65 : decode cX7_enter 65 = .ok (.iload_n 2, 1) := by decide +kernel
theorem dX7_enter_66 : decode cX7_enter 66 = .ok (.iload_n 3, 1) := by decide +kernel
theorem dX7_enter_67 : decode cX7_enter 67 = .ok (.iastore, 1) := by decide +kernel
theorem dX7_enter_68 : decode cX7_enter 68 = .ok (.aload_n 0, 1) := by decide +kernel
theorem dX7_enter_69 : decode cX7_enter 69 = .ok (.getfield 19, 3) := by decide +kernel
theorem dX7_enter_72 : decode cX7_enter 72 = .ok (.dup, 1) := by decide +kernel
theorem dX7_enter_73 : decode cX7_enter 73 = .ok (.getfield 97, 3) := by decide +kernel
theorem dX7_enter_76 : decode cX7_enter 76 = .ok (.iconst 1, 1) := by decide +kernel
theorem dX7_enter_77 : decode cX7_enter 77 = .ok (.iadd, 1) := by decide +kernel
theorem dX7_enter_78 : decode cX7_enter 78 = .ok (.putfield 97, 3) := by decide +kernel
theorem dX7_enter_81 : decode cX7_enter 81 = .ok (.iload_n 2, 1) := by decide +kernel
theorem dX7_enter_82 : decode cX7_enter 82 = .ok (.ireturn, 1) := by decide +kernel
set_option maxRecDepth 20000 in
theorem ggX7_step_X3_runStep : GoodIn wsX7_step wsX3_runStep := goodIn_r _ [6, 7, 8, 9, 10, 5, 11, 12, 13, 14, 15, 16, 17, 18, 19, 20, 21, 22, 23, 24, 25, 26, 27, 28, 29, 30, 31, 32, 33, 34, 35, 36, 37, 38, 39, 40, 41, 42, 43, 44, 45, 46, 47, 48, 56, 57, 58, 59, 60] (by decide +kernel) (by decide +kernel)
set_option maxRecDepth 20000 in
theorem gX7_step_X3_runStep : GoodIn wsX7_step (wsV RX7 111 RX3 yX3_runStep wsX3_runStep) := goodIn_app (goodIn_of _ (by decide +kernel)) ggX7_step_X3_runStep
theorem dX7_step_0 : decode cX7_step 0 = .ok (.aload_n 0, 1) := by decide +kernel
theorem dX7_step_1 : decode cX7_step 1 = .ok (.getfield 19, 3) := by decide +kernel
theorem dX7_step_4 : decode cX7_step 4 = .ok (.invokevirtual 111, 3) := by decide +kernel
theorem dX7_step_7 : decode cX7_step 7 = .ok (.ireturn, 1) := by decide +kernel
set_option maxRecDepth 20000 in
theorem ggX7_avalanche_X3_runStep : GoodIn wsX7_avalanche wsX3_runStep := goodIn_r _ [6, 7, 8, 9, 10, 5, 11, 12, 13, 14, 15, 16, 17, 18, 19, 20, 21, 22, 23, 24, 25, 26, 27, 28, 29, 30, 31, 32, 33, 34, 35, 36, 37, 38, 39, 40, 41, 42, 43, 44, 45, 46, 47, 48, 56, 57, 58, 59, 60] (by decide +kernel) (by decide +kernel)
set_option maxRecDepth 20000 in
theorem gX7_avalanche_X3_runStep : GoodIn wsX7_avalanche (wsV RX7 111 RX3 yX3_runStep wsX3_runStep) := goodIn_app (goodIn_of _ (by decide +kernel)) ggX7_avalanche_X3_runStep
theorem dX7_avalanche_0 : decode cX7_avalanche 0 = .ok (.iconst 0, 1) := by decide +kernel
theorem dX7_avalanche_1 : decode cX7_avalanche 1 = .ok (.istore_n 1, 1) := by decide +kernel
theorem dX7_avalanche_2 : decode cX7_avalanche 2 = .ok (.iconst 0, 1) := by decide +kernel
theorem dX7_avalanche_3 : decode cX7_avalanche 3 = .ok (.istore_n 2, 1) := by decide +kernel
theorem dX7_avalanche_4 : decode cX7_avalanche 4 = .ok (.iload_n 2, 1) := by decide +kernel
theorem dX7_avalanche_5 : decode cX7_avalanche 5 = .ok (.bipush 60, 2) := by decide +kernel
theorem dX7_avalanche_7 : decode cX7_avalanche 7 = .ok (.if_icmp .ge 28, 3) := by decide +kernel
theorem dX7_avalanche_10 : decode cX7_avalanche 10 = .ok (.aload_n 0, 1) := by decide +kernel
theorem dX7_avalanche_11 : decode cX7_avalanche 11 = .ok (.getfield 19, 3) := by decide +kernel
theorem dX7_avalanche_14 : decode cX7_avalanche 14 = .ok (.invokevirtual 111, 3) := by decide +kernel
theorem dX7_avalanche_17 : decode cX7_avalanche 17 = .ok (.istore_n 3, 1) := by decide +kernel
theorem dX7_avalanche_18 : decode cX7_avalanche 18 = .ok (.iload_n 3, 1) := by decide +kernel
theorem dX7_avalanche_19 : decode cX7_avalanche 19 = .ok (.ifCond .ne 6, 3) := by decide +kernel
theorem dX7_avalanche_22 : decode cX7_avalanche 22 = .ok (.goto 13, 3) := by decide +kernel
theorem dX7_avalanche_25 : decode cX7_avalanche 25 = .ok (.iload_n 1, 1) := by decide +kernel
theorem dX7_avalanche_26 : decode cX7_avalanche 26 = .ok (.iload_n 3, 1) := by decide +kernel
theorem dX7_avalanche_27 : decode cX7_avalanche 27 = .ok (.iadd, 1) := by decide +kernel
theorem dX7_avalanche_28 : decode cX7_avalanche 28 = .ok (.istore_n 1, 1) := by decide +kernel
theorem dX7_avalanche_29 : decode cX7_avalanche 29 = .ok (.iinc 2 1, 3) := by decide +kernel
theorem dX7_avalanche_32 : decode cX7_avalanche 32 = .ok (.goto (-28), 3) := by decide +kernel
theorem dX7_avalanche_35 : decode cX7_avalanche 35 = .ok (.iload_n 1, 1) := by decide +kernel
theorem dX7_avalanche_36 : decode cX7_avalanche 36 = .ok (.ireturn, 1) := by decide +kernel
set_option maxRecDepth 20000 in
theorem ggX7_whirlAt_X7_refuseUnknown : GoodIn wsX7_whirlAt wsX7_refuseUnknown := goodIn_ca (goodIn_r _ [6, 7, 8] (by decide +kernel) (by decide +kernel)) (goodIn_sub (fun _ h => List.mem_cons_of_mem _ (List.mem_append_right _ h)) (by decide +kernel))
set_option maxRecDepth 20000 in
theorem gX7_whirlAt_X7_refuseUnknown : GoodIn wsX7_whirlAt (va_wsS RX7 66 yX7_refuseUnknown wsX7_refuseUnknown) := goodIn_app (goodIn_of _ (by decide +kernel)) ggX7_whirlAt_X7_refuseUnknown
set_option maxRecDepth 20000 in
theorem ggX7_whirlAt_X3_cellOf : GoodIn wsX7_whirlAt wsX3_cellOf := goodIn_r _ [13, 14, 22, 23, 24, 25, 26] (by decide +kernel) (by decide +kernel)
set_option maxRecDepth 20000 in
theorem gX7_whirlAt_X3_cellOf : GoodIn wsX7_whirlAt (wsV RX7 114 RX3 yX3_cellOf wsX3_cellOf) := goodIn_app (goodIn_of _ (by decide +kernel)) ggX7_whirlAt_X3_cellOf
theorem dX7_whirlAt_0 : decode cX7_whirlAt 0 = .ok (.iload_n 1, 1) := by decide +kernel
theorem dX7_whirlAt_1 : decode cX7_whirlAt 1 = .ok (.aload_n 0, 1) := by decide +kernel
theorem dX7_whirlAt_2 : decode cX7_whirlAt 2 = .ok (.getfield 19, 3) := by decide +kernel
theorem dX7_whirlAt_5 : decode cX7_whirlAt 5 = .ok (.getfield 97, 3) := by decide +kernel
theorem dX7_whirlAt_8 : decode cX7_whirlAt 8 = .ok (.invokestatic 66, 3) := by decide +kernel
theorem dX7_whirlAt_11 : decode cX7_whirlAt 11 = .ok (.aload_n 0, 1) := by decide +kernel
theorem dX7_whirlAt_12 : decode cX7_whirlAt 12 = .ok (.getfield 19, 3) := by decide +kernel
theorem dX7_whirlAt_15 : decode cX7_whirlAt 15 = .ok (.iload_n 1, 1) := by decide +kernel
theorem dX7_whirlAt_16 : decode cX7_whirlAt 16 = .ok (.invokevirtual 114, 3) := by decide +kernel
theorem dX7_whirlAt_19 : decode cX7_whirlAt 19 = .ok (.ireturn, 1) := by decide +kernel
set_option maxRecDepth 20000 in
theorem ggX7_energy_X7_refuseUnknown : GoodIn wsX7_energy wsX7_refuseUnknown := goodIn_ca (goodIn_r _ [6, 7, 8] (by decide +kernel) (by decide +kernel)) (goodIn_sub (fun _ h => List.mem_cons_of_mem _ (List.mem_append_right _ h)) (by decide +kernel))
set_option maxRecDepth 20000 in
theorem gX7_energy_X7_refuseUnknown : GoodIn wsX7_energy (va_wsS RX7 66 yX7_refuseUnknown wsX7_refuseUnknown) := goodIn_app (goodIn_of _ (by decide +kernel)) ggX7_energy_X7_refuseUnknown
set_option maxRecDepth 20000 in
theorem ggX7_energy_X3_cellOf : GoodIn wsX7_energy wsX3_cellOf := goodIn_r _ [13, 14, 39, 40, 41, 42, 43] (by decide +kernel) (by decide +kernel)
set_option maxRecDepth 20000 in
theorem gX7_energy_X3_cellOf : GoodIn wsX7_energy (wsV RX7 114 RX3 yX3_cellOf wsX3_cellOf) := goodIn_app (goodIn_of _ (by decide +kernel)) ggX7_energy_X3_cellOf
set_option maxRecDepth 20000 in
theorem ggX7_energy_X3_energyAt : GoodIn wsX7_energy wsX3_energyAt := goodIn_r _ [18, 14, 19, 20, 21, 12, 22, 23, 24, 25, 26, 27, 28, 29, 30, 31, 39, 40, 41, 42, 43] (by decide +kernel) (by decide +kernel)
set_option maxRecDepth 20000 in
theorem gX7_energy_X3_energyAt : GoodIn wsX7_energy (wsV RX7 104 RX3 yX3_energyAt wsX3_energyAt) := goodIn_app (goodIn_of _ (by decide +kernel)) ggX7_energy_X3_energyAt
theorem dX7_energy_0 : decode cX7_energy 0 = .ok (.iload_n 1, 1) := by decide +kernel
theorem dX7_energy_1 : decode cX7_energy 1 = .ok (.aload_n 0, 1) := by decide +kernel
theorem dX7_energy_2 : decode cX7_energy 2 = .ok (.getfield 19, 3) := by decide +kernel
theorem dX7_energy_5 : decode cX7_energy 5 = .ok (.getfield 97, 3) := by decide +kernel
theorem dX7_energy_8 : decode cX7_energy 8 = .ok (.invokestatic 66, 3) := by decide +kernel
theorem dX7_energy_11 : decode cX7_energy 11 = .ok (.aload_n 0, 1) := by decide +kernel
theorem dX7_energy_12 : decode cX7_energy 12 = .ok (.getfield 19, 3) := by decide +kernel
theorem dX7_energy_15 : decode cX7_energy 15 = .ok (.iload_n 1, 1) := by decide +kernel
theorem dX7_energy_16 : decode cX7_energy 16 = .ok (.invokevirtual 114, 3) := by decide +kernel
theorem dX7_energy_19 : decode cX7_energy 19 = .ok (.istore_n 2, 1) := by decide +kernel
theorem dX7_energy_20 : decode cX7_energy 20 = .ok (.iload_n 2, 1) := by decide +kernel
theorem dX7_energy_21 : decode cX7_energy 21 = .ok (.iconst (-1), 1) := by decide +kernel
theorem dX7_energy_22 : decode cX7_energy 22 = .ok (.if_icmp .ne 7, 3) := by decide +kernel
theorem dX7_energy_25 : decode cX7_energy 25 = .ok (.iconst 0, 1) := by decide +kernel
theorem dX7_energy_26 : decode cX7_energy 26 = .ok (.goto 12, 3) := by decide +kernel
theorem dX7_energy_29 : decode cX7_energy 29 = .ok (.aload_n 0, 1) := by decide +kernel
theorem dX7_energy_30 : decode cX7_energy 30 = .ok (.getfield 19, 3) := by decide +kernel
theorem dX7_energy_33 : decode cX7_energy 33 = .ok (.iload_n 1, 1) := by decide +kernel
theorem dX7_energy_34 : decode cX7_energy 34 = .ok (.iload_n 2, 1) := by decide +kernel
theorem dX7_energy_35 : decode cX7_energy 35 = .ok (.invokevirtual 104, 3) := by decide +kernel
theorem dX7_energy_38 : decode cX7_energy 38 = .ok (.ireturn, 1) := by decide +kernel
set_option maxRecDepth 20000 in
theorem ggX7_ring_X7_refuseOutside : GoodIn wsX7_ring wsX7_refuseOutside := goodIn_ca (goodIn_r _ [8, 9, 10] (by decide +kernel) (by decide +kernel)) (goodIn_sub (fun _ h => List.mem_cons_of_mem _ (List.mem_append_left _ (List.mem_append_right _ h))) (by decide +kernel))
set_option maxRecDepth 20000 in
theorem gX7_ring_X7_refuseOutside : GoodIn wsX7_ring (va_wsS RX7 46 yX7_refuseOutside wsX7_refuseOutside) := goodIn_app (goodIn_of _ (by decide +kernel)) ggX7_ring_X7_refuseOutside
set_option maxRecDepth 20000 in
theorem ggX7_ring_Jx4a65c_size_8abf5 : GoodIn wsX7_ring wsJx4a65c_size_8abf5 := goodIn_r _ [15, 16, 96, 97, 98] (by decide +kernel) (by decide +kernel)
set_option maxRecDepth 20000 in
theorem gX7_ring_Jx4a65c_size_8abf5 : GoodIn wsX7_ring (wsV RX7 50 RJx4a65c yJx4a65c_size_8abf5 wsJx4a65c_size_8abf5) := goodIn_app (goodIn_of _ (by decide +kernel)) ggX7_ring_Jx4a65c_size_8abf5
set_option maxRecDepth 20000 in
theorem ggX7_ring_X7_refuseFull : GoodIn wsX7_ring wsX7_refuseFull := goodIn_ca (goodIn_r _ [19, 20, 21] (by decide +kernel) (by decide +kernel)) (goodIn_sub (fun _ h => List.mem_cons_of_mem _ (List.mem_append_right _ h)) (by decide +kernel))
set_option maxRecDepth 20000 in
theorem gX7_ring_X7_refuseFull : GoodIn wsX7_ring (va_wsS RX7 54 yX7_refuseFull wsX7_refuseFull) := goodIn_app (goodIn_of _ (by decide +kernel)) ggX7_ring_X7_refuseFull
set_option maxRecDepth 20000 in
theorem ggX7_ring_X5_init : GoodIn wsX7_ring wsX5_init := goodIn_r _ [24, 25, 26, 27, 28, 29, 91, 92, 93, 94, 95] (by decide +kernel) (by decide +kernel)
set_option maxRecDepth 20000 in
theorem gX7_ring_X5_init : GoodIn wsX7_ring (wsX5_init) := ggX7_ring_X5_init
set_option maxRecDepth 20000 in
theorem ggX7_ring_Jx4a65c_add_9ea2d : GoodIn wsX7_ring wsJx4a65c_add_9ea2d := goodIn_r _ [33, 34, 35, 36, 16, 37, 38, 39, 14, 40, 41, 42, 43, 44, 45, 46, 47, 48, 49, 50, 51, 52, 53, 54, 55, 56, 57, 58, 59, 60, 61, 62, 63, 64, 65, 66, 67, 68, 69, 70, 71, 72, 73, 74, 75, 76, 77, 78, 79, 80, 81, 82, 83, 96, 97, 98] (by decide +kernel) (by decide +kernel)
set_option maxRecDepth 20000 in
theorem gX7_ring_Jx4a65c_add_9ea2d : GoodIn wsX7_ring (wsV RX7 62 RJx4a65c yJx4a65c_add_9ea2d wsJx4a65c_add_9ea2d) := goodIn_app (goodIn_of _ (by decide +kernel)) ggX7_ring_Jx4a65c_add_9ea2d
theorem dX7_ring_0 : decode cX7_ring 0 = .ok (.iload_n 1, 1) := by decide +kernel
theorem dX7_ring_1 : decode cX7_ring 1 = .ok (.iconst 1, 1) := by decide +kernel
theorem dX7_ring_2 : decode cX7_ring 2 = .ok (.bipush 100, 2) := by decide +kernel
theorem dX7_ring_4 : decode cX7_ring 4 = .ok (.invokestatic 46, 3) := by decide +kernel
theorem dX7_ring_7 : decode cX7_ring 7 = .ok (.iload_n 2, 1) := by decide +kernel
theorem dX7_ring_8 : decode cX7_ring 8 = .ok (.bipush 50, 2) := by decide +kernel
theorem dX7_ring_10 : decode cX7_ring 10 = .ok (.sipush 1000, 3) := by decide +kernel
theorem dX7_ring_13 : decode cX7_ring 13 = .ok (.invokestatic 46, 3) := by decide +kernel
theorem dX7_ring_16 : decode cX7_ring 16 = .ok (.aload_n 0, 1) := by decide +kernel
theorem dX7_ring_17 : decode cX7_ring 17 = .ok (.getfield 23, 3) := by decide +kernel
theorem dX7_ring_20 : decode cX7_ring 20 = .ok (.invokevirtual 50, 3) := by decide +kernel
theorem dX7_ring_23 : decode cX7_ring 23 = .ok (.bipush 6, 2) := by decide +kernel
theorem dX7_ring_25 : decode cX7_ring 25 = .ok (.invokestatic 54, 3) := by decide +kernel
theorem dX7_ring_28 : decode cX7_ring 28 = .ok (.aload_n 0, 1) := by decide +kernel
theorem dX7_ring_29 : decode cX7_ring 29 = .ok (.getfield 23, 3) := by decide +kernel
theorem dX7_ring_32 : decode cX7_ring 32 = .ok (.new 117, 3) := by decide +kernel
theorem dX7_ring_35 : decode cX7_ring 35 = .ok (.dup, 1) := by decide +kernel
theorem dX7_ring_36 : decode cX7_ring 36 = .ok (.iload_n 1, 1) := by decide +kernel
theorem dX7_ring_37 : decode cX7_ring 37 = .ok (.iload_n 2, 1) := by decide +kernel
theorem dX7_ring_38 : decode cX7_ring 38 = .ok (.invokespecial 119, 3) := by decide +kernel
theorem dX7_ring_41 : decode cX7_ring 41 = .ok (.invokevirtual 62, 3) := by decide +kernel
theorem dX7_ring_44 : decode cX7_ring 44 = .ok (.pop, 1) := by decide +kernel
theorem dX7_ring_45 : decode cX7_ring 45 = .ok (.aload_n 0, 1) := by decide +kernel
theorem dX7_ring_46 : decode cX7_ring 46 = .ok (.getfield 23, 3) := by decide +kernel
theorem dX7_ring_49 : decode cX7_ring 49 = .ok (.invokevirtual 50, 3) := by decide +kernel
theorem dX7_ring_52 : decode cX7_ring 52 = .ok (.iconst 1, 1) := by decide +kernel
theorem dX7_ring_53 : decode cX7_ring 53 = .ok (.isub, 1) := by decide +kernel
theorem dX7_ring_54 : decode cX7_ring 54 = .ok (.ireturn, 1) := by decide +kernel
set_option maxRecDepth 20000 in
theorem ggX7_flux_Jx4a65c_size_8abf5 : GoodIn wsX7_flux wsJx4a65c_size_8abf5 := goodIn_r _ [10, 11, 71, 72, 73] (by decide +kernel) (by decide +kernel)
set_option maxRecDepth 20000 in
theorem gX7_flux_Jx4a65c_size_8abf5 : GoodIn wsX7_flux (wsV RX7 50 RJx4a65c yJx4a65c_size_8abf5 wsJx4a65c_size_8abf5) := goodIn_app (goodIn_of _ (by decide +kernel)) ggX7_flux_Jx4a65c_size_8abf5
set_option maxRecDepth 20000 in
theorem ggX7_flux_X7_refuseUnknown : GoodIn wsX7_flux wsX7_refuseUnknown := goodIn_ca (goodIn_r _ [15, 16, 17] (by decide +kernel) (by decide +kernel)) (goodIn_sub (fun _ h => List.mem_cons_of_mem _ (List.mem_append_left _ (List.mem_append_right _ h))) (by decide +kernel))
set_option maxRecDepth 20000 in
theorem gX7_flux_X7_refuseUnknown : GoodIn wsX7_flux (va_wsS RX7 66 yX7_refuseUnknown wsX7_refuseUnknown) := goodIn_app (goodIn_of _ (by decide +kernel)) ggX7_flux_X7_refuseUnknown
set_option maxRecDepth 20000 in
theorem ggX7_flux_X7_refuseOutside : GoodIn wsX7_flux wsX7_refuseOutside := goodIn_ca (goodIn_r _ [20, 21, 22] (by decide +kernel) (by decide +kernel)) (goodIn_sub (fun _ h => List.mem_cons_of_mem _ (List.mem_append_right _ h)) (by decide +kernel))
set_option maxRecDepth 20000 in
theorem gX7_flux_X7_refuseOutside : GoodIn wsX7_flux (va_wsS RX7 46 yX7_refuseOutside wsX7_refuseOutside) := goodIn_app (goodIn_of _ (by decide +kernel)) ggX7_flux_X7_refuseOutside
set_option maxRecDepth 20000 in
theorem ggX7_flux_Jx4a65c_get_915e3 : GoodIn wsX7_flux wsJx4a65c_get_915e3 := goodIn_r _ [26, 11, 27, 28, 29, 30, 31, 32, 33, 34, 35, 36, 37, 9, 38, 39, 71, 72, 73] (by decide +kernel) (by decide +kernel)
set_option maxRecDepth 20000 in
theorem gX7_flux_Jx4a65c_get_915e3 : GoodIn wsX7_flux (wsV RX7 69 RJx4a65c yJx4a65c_get_915e3 wsJx4a65c_get_915e3) := goodIn_app (goodIn_of _ (by decide +kernel)) ggX7_flux_Jx4a65c_get_915e3
set_option maxRecDepth 20000 in
theorem ggX7_flux_X5_settle : GoodIn wsX7_flux wsX5_settle := goodIn_r _ [44, 45, 46, 47, 48, 49, 50, 51, 52, 53, 54, 55, 43, 56, 57, 58, 66, 67, 68, 69, 70] (by decide +kernel) (by decide +kernel)
set_option maxRecDepth 20000 in
theorem gX7_flux_X5_settle : GoodIn wsX7_flux (wsV RX7 126 RX5 yX5_settle wsX5_settle) := goodIn_app (goodIn_of _ (by decide +kernel)) ggX7_flux_X5_settle
theorem dX7_flux_0 : decode cX7_flux 0 = .ok (.iload_n 1, 1) := by decide +kernel
theorem dX7_flux_1 : decode cX7_flux 1 = .ok (.aload_n 0, 1) := by decide +kernel
theorem dX7_flux_2 : decode cX7_flux 2 = .ok (.getfield 23, 3) := by decide +kernel
theorem dX7_flux_5 : decode cX7_flux 5 = .ok (.invokevirtual 50, 3) := by decide +kernel
theorem dX7_flux_8 : decode cX7_flux 8 = .ok (.invokestatic 66, 3) := by decide +kernel
theorem dX7_flux_11 : decode cX7_flux 11 = .ok (.iload_n 2, 1) := by decide +kernel
theorem dX7_flux_12 : decode cX7_flux 12 = .ok (.ldc 121, 2) := by decide +kernel
theorem dX7_flux_14 : decode cX7_flux 14 = .ok (.ldc 122, 2) := by decide +kernel
theorem dX7_flux_16 : decode cX7_flux 16 = .ok (.invokestatic 46, 3) := by decide +kernel
theorem dX7_flux_19 : decode cX7_flux 19 = .ok (.aload_n 0, 1) := by decide +kernel
theorem dX7_flux_20 : decode cX7_flux 20 = .ok (.getfield 23, 3) := by decide +kernel
theorem dX7_flux_23 : decode cX7_flux 23 = .ok (.iload_n 1, 1) := by decide +kernel
theorem dX7_flux_24 : decode cX7_flux 24 = .ok (.invokevirtual 69, 3) := by decide +kernel
theorem dX7_flux_27 : decode cX7_flux 27 = .ok (.checkcast 117, 3) := by decide +kernel
theorem dX7_flux_30 : decode cX7_flux 30 = .ok (.astore_n 3, 1) := by decide +kernel
theorem dX7_flux_31 : decode cX7_flux 31 = .ok (.aload_n 3, 1) := by decide +kernel
theorem dX7_flux_32 : decode cX7_flux 32 = .ok (.iload_n 2, 1) := by decide +kernel
theorem dX7_flux_33 : decode cX7_flux 33 = .ok (.putfield 123, 3) := by decide +kernel
theorem dX7_flux_36 : decode cX7_flux 36 = .ok (.aload_n 3, 1) := by decide +kernel
theorem dX7_flux_37 : decode cX7_flux 37 = .ok (.invokevirtual 126, 3) := by decide +kernel
theorem dX7_flux_40 : decode cX7_flux 40 = .ok (.ireturn, 1) := by decide +kernel
set_option maxRecDepth 20000 in
theorem ggX7_warm_Jx4a65c_size_8abf5 : GoodIn wsX7_warm wsJx4a65c_size_8abf5 := goodIn_r _ [8, 9, 55, 56, 57] (by decide +kernel) (by decide +kernel)
set_option maxRecDepth 20000 in
theorem gX7_warm_Jx4a65c_size_8abf5 : GoodIn wsX7_warm (wsV RX7 50 RJx4a65c yJx4a65c_size_8abf5 wsJx4a65c_size_8abf5) := goodIn_app (goodIn_of _ (by decide +kernel)) ggX7_warm_Jx4a65c_size_8abf5
set_option maxRecDepth 20000 in
theorem ggX7_warm_X7_refuseUnknown : GoodIn wsX7_warm wsX7_refuseUnknown := goodIn_ca (goodIn_r _ [13, 14, 15] (by decide +kernel) (by decide +kernel)) (goodIn_sub (fun _ h => List.mem_cons_of_mem _ (List.mem_append_right _ h)) (by decide +kernel))
set_option maxRecDepth 20000 in
theorem gX7_warm_X7_refuseUnknown : GoodIn wsX7_warm (va_wsS RX7 66 yX7_refuseUnknown wsX7_refuseUnknown) := goodIn_app (goodIn_of _ (by decide +kernel)) ggX7_warm_X7_refuseUnknown
set_option maxRecDepth 20000 in
theorem ggX7_warm_Jx4a65c_get_915e3 : GoodIn wsX7_warm wsJx4a65c_get_915e3 := goodIn_r _ [19, 9, 20, 21, 22, 23, 24, 25, 26, 27, 28, 29, 30, 7, 31, 32, 55, 56, 57] (by decide +kernel) (by decide +kernel)
set_option maxRecDepth 20000 in
theorem gX7_warm_Jx4a65c_get_915e3 : GoodIn wsX7_warm (wsV RX7 69 RJx4a65c yJx4a65c_get_915e3 wsJx4a65c_get_915e3) := goodIn_app (goodIn_of _ (by decide +kernel)) ggX7_warm_Jx4a65c_get_915e3
set_option maxRecDepth 20000 in
theorem ggX7_warm_X5_nearestNumber : GoodIn wsX7_warm wsX5_nearestNumber := goodIn_r _ [37, 38, 39, 40, 41, 42, 50, 51, 52, 53, 54] (by decide +kernel) (by decide +kernel)
set_option maxRecDepth 20000 in
theorem gX7_warm_X5_nearestNumber : GoodIn wsX7_warm (wsV RX7 129 RX5 yX5_nearestNumber wsX5_nearestNumber) := goodIn_app (goodIn_of _ (by decide +kernel)) ggX7_warm_X5_nearestNumber
theorem dX7_warm_0 : decode cX7_warm 0 = .ok (.iload_n 1, 1) := by decide +kernel
theorem dX7_warm_1 : decode cX7_warm 1 = .ok (.aload_n 0, 1) := by decide +kernel
theorem dX7_warm_2 : decode cX7_warm 2 = .ok (.getfield 23, 3) := by decide +kernel
theorem dX7_warm_5 : decode cX7_warm 5 = .ok (.invokevirtual 50, 3) := by decide +kernel
theorem dX7_warm_8 : decode cX7_warm 8 = .ok (.invokestatic 66, 3) := by decide +kernel
theorem dX7_warm_11 : decode cX7_warm 11 = .ok (.aload_n 0, 1) := by decide +kernel
theorem dX7_warm_12 : decode cX7_warm 12 = .ok (.getfield 23, 3) := by decide +kernel
theorem dX7_warm_15 : decode cX7_warm 15 = .ok (.iload_n 1, 1) := by decide +kernel
theorem dX7_warm_16 : decode cX7_warm 16 = .ok (.invokevirtual 69, 3) := by decide +kernel
theorem dX7_warm_19 : decode cX7_warm 19 = .ok (.checkcast 117, 3) := by decide +kernel
theorem dX7_warm_22 : decode cX7_warm 22 = .ok (.astore_n 2, 1) := by decide +kernel
theorem dX7_warm_23 : decode cX7_warm 23 = .ok (.aload_n 2, 1) := by decide +kernel
theorem dX7_warm_24 : decode cX7_warm 24 = .ok (.aload_n 2, 1) := by decide +kernel
theorem dX7_warm_25 : decode cX7_warm 25 = .ok (.invokevirtual 129, 3) := by decide +kernel
theorem dX7_warm_28 : decode cX7_warm 28 = .ok (.putfield 132, 3) := by decide +kernel
theorem dX7_warm_31 : decode cX7_warm 31 = .ok (.aload_n 2, 1) := by decide +kernel
theorem dX7_warm_32 : decode cX7_warm 32 = .ok (.getfield 132, 3) := by decide +kernel
theorem dX7_warm_35 : decode cX7_warm 35 = .ok (.ireturn, 1) := by decide +kernel
set_option maxRecDepth 20000 in
theorem ggX7_ofRing_Jx4a65c_size_8abf5 : GoodIn wsX7_ofRing wsJx4a65c_size_8abf5 := goodIn_r _ [9, 10, 58, 59, 60] (by decide +kernel) (by decide +kernel)
set_option maxRecDepth 20000 in
theorem gX7_ofRing_Jx4a65c_size_8abf5 : GoodIn wsX7_ofRing (wsV RX7 50 RJx4a65c yJx4a65c_size_8abf5 wsJx4a65c_size_8abf5) := goodIn_app (goodIn_of _ (by decide +kernel)) ggX7_ofRing_Jx4a65c_size_8abf5
set_option maxRecDepth 20000 in
theorem ggX7_ofRing_X7_refuseUnknown : GoodIn wsX7_ofRing wsX7_refuseUnknown := goodIn_ca (goodIn_r _ [14, 15, 16] (by decide +kernel) (by decide +kernel)) (goodIn_sub (fun _ h => List.mem_cons_of_mem _ (List.mem_append_left _ (List.mem_append_right _ h))) (by decide +kernel))
set_option maxRecDepth 20000 in
theorem gX7_ofRing_X7_refuseUnknown : GoodIn wsX7_ofRing (va_wsS RX7 66 yX7_refuseUnknown wsX7_refuseUnknown) := goodIn_app (goodIn_of _ (by decide +kernel)) ggX7_ofRing_X7_refuseUnknown
set_option maxRecDepth 20000 in
theorem ggX7_ofRing_X7_refuseOutside : GoodIn wsX7_ofRing wsX7_refuseOutside := goodIn_ca (goodIn_r _ [19, 20, 21] (by decide +kernel) (by decide +kernel)) (goodIn_sub (fun _ h => List.mem_cons_of_mem _ (List.mem_append_right _ h)) (by decide +kernel))
set_option maxRecDepth 20000 in
theorem gX7_ofRing_X7_refuseOutside : GoodIn wsX7_ofRing (va_wsS RX7 46 yX7_refuseOutside wsX7_refuseOutside) := goodIn_app (goodIn_of _ (by decide +kernel)) ggX7_ofRing_X7_refuseOutside
set_option maxRecDepth 20000 in
theorem ggX7_ofRing_Jx4a65c_get_915e3 : GoodIn wsX7_ofRing wsJx4a65c_get_915e3 := goodIn_r _ [25, 10, 26, 27, 28, 29, 30, 31, 32, 33, 34, 35, 36, 8, 37, 38, 58, 59, 60] (by decide +kernel) (by decide +kernel)
set_option maxRecDepth 20000 in
theorem gX7_ofRing_Jx4a65c_get_915e3 : GoodIn wsX7_ofRing (wsV RX7 69 RJx4a65c yJx4a65c_get_915e3 wsJx4a65c_get_915e3) := goodIn_app (goodIn_of _ (by decide +kernel)) ggX7_ofRing_Jx4a65c_get_915e3
set_option maxRecDepth 20000 in
theorem ggX7_ofRing_X5_currentWith : GoodIn wsX7_ofRing wsX5_currentWith := goodIn_r _ [43, 44, 45, 53, 54, 55, 56, 57] (by decide +kernel) (by decide +kernel)
set_option maxRecDepth 20000 in
theorem gX7_ofRing_X5_currentWith : GoodIn wsX7_ofRing (wsV RX7 135 RX5 yX5_currentWith wsX5_currentWith) := goodIn_app (goodIn_of _ (by decide +kernel)) ggX7_ofRing_X5_currentWith
theorem dX7_ofRing_0 : decode cX7_ofRing 0 = .ok (.iload_n 1, 1) := by decide +kernel
theorem dX7_ofRing_1 : decode cX7_ofRing 1 = .ok (.aload_n 0, 1) := by decide +kernel
theorem dX7_ofRing_2 : decode cX7_ofRing 2 = .ok (.getfield 23, 3) := by decide +kernel
theorem dX7_ofRing_5 : decode cX7_ofRing 5 = .ok (.invokevirtual 50, 3) := by decide +kernel
theorem dX7_ofRing_8 : decode cX7_ofRing 8 = .ok (.invokestatic 66, 3) := by decide +kernel
theorem dX7_ofRing_11 : decode cX7_ofRing 11 = .ok (.iload_n 2, 1) := by decide +kernel
theorem dX7_ofRing_12 : decode cX7_ofRing 12 = .ok (.iconst 0, 1) := by decide +kernel
theorem dX7_ofRing_13 : decode cX7_ofRing 13 = .ok (.iconst 2, 1) := by decide +kernel
theorem dX7_ofRing_14 : decode cX7_ofRing 14 = .ok (.invokestatic 46, 3) := by decide +kernel
theorem dX7_ofRing_17 : decode cX7_ofRing 17 = .ok (.aload_n 0, 1) := by decide +kernel
theorem dX7_ofRing_18 : decode cX7_ofRing 18 = .ok (.getfield 23, 3) := by decide +kernel
theorem dX7_ofRing_21 : decode cX7_ofRing 21 = .ok (.iload_n 1, 1) := by decide +kernel
theorem dX7_ofRing_22 : decode cX7_ofRing 22 = .ok (.invokevirtual 69, 3) := by decide +kernel
theorem dX7_ofRing_25 : decode cX7_ofRing 25 = .ok (.checkcast 117, 3) := by decide +kernel
theorem dX7_ofRing_28 : decode cX7_ofRing 28 = .ok (.astore_n 3, 1) := by decide +kernel
theorem dX7_ofRing_29 : decode cX7_ofRing 29 = .ok (.iload_n 2, 1) := by decide +kernel
theorem dX7_ofRing_30 : decode cX7_ofRing 30 = .ok (.lookupswitch 40 #[(0, 26), (1, 31)], 26) := by decide +kernel
theorem dX7_ofRing_56 : decode cX7_ofRing 56 = .ok (.aload_n 3, 1) := by decide +kernel
theorem dX7_ofRing_57 : decode cX7_ofRing 57 = .ok (.getfield 132, 3) := by decide +kernel
theorem dX7_ofRing_60 : decode cX7_ofRing 60 = .ok (.ireturn, 1) := by decide +kernel
theorem dX7_ofRing_61 : decode cX7_ofRing 61 = .ok (.aload_n 3, 1) := by decide +kernel
theorem dX7_ofRing_62 : decode cX7_ofRing 62 = .ok (.aload_n 3, 1) := by decide +kernel
theorem dX7_ofRing_63 : decode cX7_ofRing 63 = .ok (.getfield 132, 3) := by decide +kernel
theorem dX7_ofRing_66 : decode cX7_ofRing 66 = .ok (.invokevirtual 135, 3) := by decide +kernel
theorem dX7_ofRing_69 : decode cX7_ofRing 69 = .ok (.ireturn, 1) := by decide +kernel
theorem dX7_ofRing_70 : decode cX7_ofRing 70 = .ok (.aload_n 3, 1) := by decide +kernel
theorem dX7_ofRing_71 : decode cX7_ofRing 71 = .ok (.getfield 138, 3) := by decide +kernel
theorem dX7_ofRing_74 : decode cX7_ofRing 74 = .ok (.ireturn, 1) := by decide +kernel
set_option maxRecDepth 20000 in
theorem ggX7_current_X7_refuseOutside : GoodIn wsX7_current wsX7_refuseOutside := goodIn_ca (goodIn_r _ [8, 9, 10] (by decide +kernel) (by decide +kernel)) (goodIn_sub (fun _ h => List.mem_cons_of_mem _ (List.mem_append_right _ h)) (by decide +kernel))
set_option maxRecDepth 20000 in
theorem gX7_current_X7_refuseOutside : GoodIn wsX7_current (va_wsS RX7 46 yX7_refuseOutside wsX7_refuseOutside) := goodIn_app (goodIn_of _ (by decide +kernel)) ggX7_current_X7_refuseOutside
theorem dX7_current_0 : decode cX7_current 0 = .ok (.iload_n 1, 1) := by decide +kernel
theorem dX7_current_1 : decode cX7_current 1 = .ok (.iconst 0, 1) := by decide +kernel
theorem dX7_current_2 : decode cX7_current 2 = .ok (.sipush 1000, 3) := by decide +kernel
theorem dX7_current_5 : decode cX7_current 5 = .ok (.invokestatic 46, 3) := by decide +kernel
theorem dX7_current_8 : decode cX7_current 8 = .ok (.aload_n 0, 1) := by decide +kernel
theorem dX7_current_9 : decode cX7_current 9 = .ok (.getfield 29, 3) := by decide +kernel
theorem dX7_current_12 : decode cX7_current 12 = .ok (.getfield 141, 3) := by decide +kernel
theorem dX7_current_15 : decode cX7_current 15 = .ok (.istore_n 2, 1) := by decide +kernel
theorem dX7_current_16 : decode cX7_current 16 = .ok (.aload_n 0, 1) := by decide +kernel
theorem dX7_current_17 : decode cX7_current 17 = .ok (.getfield 29, 3) := by decide +kernel
theorem dX7_current_20 : decode cX7_current 20 = .ok (.iload_n 1, 1) := by decide +kernel
theorem dX7_current_21 : decode cX7_current 21 = .ok (.putfield 141, 3) := by decide +kernel
theorem dX7_current_24 : decode cX7_current 24 = .ok (.aload_n 0, 1) := by decide +kernel
theorem dX7_current_25 : decode cX7_current 25 = .ok (.getfield 29, 3) := by decide +kernel
theorem dX7_current_28 : decode cX7_current 28 = .ok (.iconst 0, 1) := by decide +kernel
theorem dX7_current_29 : decode cX7_current 29 = .ok (.putfield 144, 3) := by decide +kernel
theorem dX7_current_32 : decode cX7_current 32 = .ok (.aload_n 0, 1) := by decide +kernel
theorem dX7_current_33 : decode cX7_current 33 = .ok (.getfield 29, 3) := by decide +kernel
theorem dX7_current_36 : decode cX7_current 36 = .ok (.iconst 0, 1) := by decide +kernel
theorem dX7_current_37 : decode cX7_current 37 = .ok (.putfield 148, 3) := by decide +kernel
theorem dX7_current_40 : decode cX7_current 40 = .ok (.iload_n 2, 1) := by decide +kernel
theorem dX7_current_41 : decode cX7_current 41 = .ok (.ireturn, 1) := by decide +kernel
set_option maxRecDepth 20000 in
theorem ggX7_heat_X7_refuseUnknown : GoodIn wsX7_heat wsX7_refuseUnknown := goodIn_ca (goodIn_r _ [10, 11, 12] (by decide +kernel) (by decide +kernel)) (goodIn_sub (fun _ h => List.mem_cons_of_mem _ (List.mem_append_left _ (List.mem_append_right _ h))) (by decide +kernel))
set_option maxRecDepth 20000 in
theorem gX7_heat_X7_refuseUnknown : GoodIn wsX7_heat (va_wsS RX7 66 yX7_refuseUnknown wsX7_refuseUnknown) := goodIn_app (goodIn_of _ (by decide +kernel)) ggX7_heat_X7_refuseUnknown
set_option maxRecDepth 20000 in
theorem ggX7_heat_X7_refuseOutside : GoodIn wsX7_heat wsX7_refuseOutside := goodIn_ca (goodIn_r _ [15, 16, 17] (by decide +kernel) (by decide +kernel)) (goodIn_sub (fun _ h => List.mem_cons_of_mem _ (List.mem_append_right _ h)) (by decide +kernel))
set_option maxRecDepth 20000 in
theorem gX7_heat_X7_refuseOutside : GoodIn wsX7_heat (va_wsS RX7 46 yX7_refuseOutside wsX7_refuseOutside) := goodIn_app (goodIn_of _ (by decide +kernel)) ggX7_heat_X7_refuseOutside
theorem dX7_heat_0 : decode cX7_heat 0 = .ok (.iload_n 1, 1) := by decide +kernel
theorem dX7_heat_1 : decode cX7_heat 1 = .ok (.bipush 12, 2) := by decide +kernel
theorem dX7_heat_3 : decode cX7_heat 3 = .ok (.invokestatic 66, 3) := by decide +kernel
theorem dX7_heat_6 : decode cX7_heat 6 = .ok (.iload_n 2, 1) := by decide +kernel
theorem dX7_heat_7 : decode cX7_heat 7 = .ok (.iconst 1, 1) := by decide +kernel
theorem dX7_heat_8 : decode cX7_heat 8 = .ok (.sipush 500, 3) := by decide +kernel
theorem dX7_heat_11 : decode cX7_heat 11 = .ok (.invokestatic 46, 3) := by decide +kernel
theorem dX7_heat_14 : decode cX7_heat 14 = .ok (.aload_n 0, 1) := by decide +kernel
theorem dX7_heat_15 : decode cX7_heat 15 = .ok (.getfield 29, 3) := by decide +kernel
theorem dX7_heat_18 : decode cX7_heat 18 = .ok (.getfield 151, 3) := by decide +kernel
theorem dX7_heat_21 : decode cX7_heat 21 = .ok (.iload_n 1, 1) := by decide +kernel
theorem dX7_heat_22 : decode cX7_heat 22 = .ok (.sipush 1000, 3) := by decide +kernel
theorem dX7_heat_25 : decode cX7_heat 25 = .ok (.aload_n 0, 1) := by decide +kernel
theorem dX7_heat_26 : decode cX7_heat 26 = .ok (.getfield 29, 3) := by decide +kernel
theorem dX7_heat_29 : decode cX7_heat 29 = .ok (.getfield 151, 3) := by decide +kernel
theorem dX7_heat_32 : decode cX7_heat 32 = .ok (.iload_n 1, 1) := by decide +kernel
theorem dX7_heat_33 : decode cX7_heat 33 = .ok (.iaload, 1) := by decide +kernel
theorem dX7_heat_34 : decode cX7_heat 34 = .ok (.iload_n 2, 1) := by decide +kernel
theorem dX7_heat_35 : decode cX7_heat 35 = .ok (.iadd, 1) := by decide +kernel
theorem dX7_heat_36 : decode cX7_heat 36 = .ok (.invokestatic 154, 3) := by decide +kernel
theorem dX7_heat_39 : decode cX7_heat 39 = .ok (.iastore, 1) := by decide +kernel
theorem dX7_heat_40 : decode cX7_heat 40 = .ok (.aload_n 0, 1) := by decide +kernel
theorem dX7_heat_41 : decode cX7_heat 41 = .ok (.getfield 29, 3) := by decide +kernel
theorem dX7_heat_44 : decode cX7_heat 44 = .ok (.getfield 151, 3) := by decide +kernel
theorem dX7_heat_47 : decode cX7_heat 47 = .ok (.iload_n 1, 1) := by decide +kernel
theorem dX7_heat_48 : decode cX7_heat 48 = .ok (.iaload, 1) := by decide +kernel
theorem dX7_heat_49 : decode cX7_heat 49 = .ok (.ireturn, 1) := by decide +kernel
set_option maxRecDepth 20000 in
theorem ggX7_pass_X7_refuseOutside : GoodIn wsX7_pass wsX7_refuseOutside := goodIn_ca (goodIn_r _ [6, 7, 8] (by decide +kernel) (by decide +kernel)) (goodIn_sub (fun _ h => List.mem_cons_of_mem _ (List.mem_append_right _ h)) (by decide +kernel))
set_option maxRecDepth 20000 in
theorem gX7_pass_X7_refuseOutside : GoodIn wsX7_pass (va_wsS RX7 46 yX7_refuseOutside wsX7_refuseOutside) := goodIn_app (goodIn_of _ (by decide +kernel)) ggX7_pass_X7_refuseOutside
set_option maxRecDepth 20000 in
theorem ggX7_pass_X1_runPulse : GoodIn wsX7_pass wsX1_runPulse := goodIn_r _ [13, 14, 15, 16, 17, 12, 18, 19, 20, 21, 22, 23, 24, 25, 26, 27, 28, 29, 30, 31, 32, 33, 34, 35, 36, 37, 38, 39, 40, 41, 42, 43, 44, 45, 46, 47, 48, 49, 50, 51, 52, 53, 54, 55, 56, 57, 58, 59, 67, 68, 69, 70, 71, 72, 73] (by decide +kernel) (by decide +kernel)
set_option maxRecDepth 20000 in
theorem gX7_pass_X1_runPulse : GoodIn wsX7_pass (wsV RX7 159 RX1 yX1_runPulse wsX1_runPulse) := goodIn_app (goodIn_of _ (by decide +kernel)) ggX7_pass_X1_runPulse
theorem dX7_pass_0 : decode cX7_pass 0 = .ok (.iload_n 1, 1) := by decide +kernel
theorem dX7_pass_1 : decode cX7_pass 1 = .ok (.iconst 1, 1) := by decide +kernel
theorem dX7_pass_2 : decode cX7_pass 2 = .ok (.bipush 50, 2) := by decide +kernel
theorem dX7_pass_4 : decode cX7_pass 4 = .ok (.invokestatic 46, 3) := by decide +kernel
theorem dX7_pass_7 : decode cX7_pass 7 = .ok (.iconst 0, 1) := by decide +kernel
theorem dX7_pass_8 : decode cX7_pass 8 = .ok (.istore_n 2, 1) := by decide +kernel
theorem dX7_pass_9 : decode cX7_pass 9 = .ok (.iload_n 2, 1) := by decide +kernel
theorem dX7_pass_10 : decode cX7_pass 10 = .ok (.iload_n 1, 1) := by decide +kernel
theorem dX7_pass_11 : decode cX7_pass 11 = .ok (.if_icmp .ge 16, 3) := by decide +kernel
theorem dX7_pass_14 : decode cX7_pass 14 = .ok (.aload_n 0, 1) := by decide +kernel
theorem dX7_pass_15 : decode cX7_pass 15 = .ok (.getfield 29, 3) := by decide +kernel
theorem dX7_pass_18 : decode cX7_pass 18 = .ok (.invokevirtual 159, 3) := by decide +kernel
theorem dX7_pass_21 : decode cX7_pass 21 = .ok (.iinc 2 1, 3) := by decide +kernel
theorem dX7_pass_24 : decode cX7_pass 24 = .ok (.goto (-15), 3) := by decide +kernel
theorem dX7_pass_27 : decode cX7_pass 27 = .ok (.aload_n 0, 1) := by decide +kernel
theorem dX7_pass_28 : decode cX7_pass 28 = .ok (.getfield 29, 3) := by decide +kernel
theorem dX7_pass_31 : decode cX7_pass 31 = .ok (.getfield 141, 3) := by decide +kernel
theorem dX7_pass_34 : decode cX7_pass 34 = .ok (.ireturn, 1) := by decide +kernel
set_option maxRecDepth 20000 in
theorem ggX7_warmth_X7_refuseUnknown : GoodIn wsX7_warmth wsX7_refuseUnknown := goodIn_ca (goodIn_r _ [6, 7, 8] (by decide +kernel) (by decide +kernel)) (goodIn_sub (fun _ h => List.mem_cons_of_mem _ (List.mem_append_right _ h)) (by decide +kernel))
set_option maxRecDepth 20000 in
theorem gX7_warmth_X7_refuseUnknown : GoodIn wsX7_warmth (va_wsS RX7 66 yX7_refuseUnknown wsX7_refuseUnknown) := goodIn_app (goodIn_of _ (by decide +kernel)) ggX7_warmth_X7_refuseUnknown
theorem dX7_warmth_0 : decode cX7_warmth 0 = .ok (.iload_n 1, 1) := by decide +kernel
theorem dX7_warmth_1 : decode cX7_warmth 1 = .ok (.bipush 12, 2) := by decide +kernel
theorem dX7_warmth_3 : decode cX7_warmth 3 = .ok (.invokestatic 66, 3) := by decide +kernel
theorem dX7_warmth_6 : decode cX7_warmth 6 = .ok (.aload_n 0, 1) := by decide +kernel
theorem dX7_warmth_7 : decode cX7_warmth 7 = .ok (.getfield 29, 3) := by decide +kernel
theorem dX7_warmth_10 : decode cX7_warmth 10 = .ok (.getfield 151, 3) := by decide +kernel
theorem dX7_warmth_13 : decode cX7_warmth 13 = .ok (.iload_n 1, 1) := by decide +kernel
theorem dX7_warmth_14 : decode cX7_warmth 14 = .ok (.iaload, 1) := by decide +kernel
theorem dX7_warmth_15 : decode cX7_warmth 15 = .ok (.ireturn, 1) := by decide +kernel
set_option maxRecDepth 20000 in
theorem ggX7_ofCoil_X7_refuseOutside : GoodIn wsX7_ofCoil wsX7_refuseOutside := goodIn_ca (goodIn_r _ [8, 9, 10] (by decide +kernel) (by decide +kernel)) (goodIn_sub (fun _ h => List.mem_cons_of_mem _ (List.mem_append_right _ h)) (by decide +kernel))
set_option maxRecDepth 20000 in
theorem gX7_ofCoil_X7_refuseOutside : GoodIn wsX7_ofCoil (va_wsS RX7 46 yX7_refuseOutside wsX7_refuseOutside) := goodIn_app (goodIn_of _ (by decide +kernel)) ggX7_ofCoil_X7_refuseOutside
set_option maxRecDepth 20000 in
theorem ggX7_ofCoil_X1_normalParts : GoodIn wsX7_ofCoil wsX1_normalParts := goodIn_r _ [15, 16, 17, 18, 19, 20, 21, 22, 23, 14, 24, 25, 43, 44, 45, 46, 47, 48, 49] (by decide +kernel) (by decide +kernel)
set_option maxRecDepth 20000 in
theorem gX7_ofCoil_X1_normalParts : GoodIn wsX7_ofCoil (wsV RX7 162 RX1 yX1_normalParts wsX1_normalParts) := goodIn_app (goodIn_of _ (by decide +kernel)) ggX7_ofCoil_X1_normalParts
set_option maxRecDepth 20000 in
theorem ggX7_ofCoil_X1_doubt : GoodIn wsX7_ofCoil wsX1_doubt := goodIn_r _ [29, 30, 12, 13, 14, 15, 16, 17, 18, 19, 20, 21, 22, 23, 24, 25, 43, 44, 45, 46, 47, 48, 49] (by decide +kernel) (by decide +kernel)
set_option maxRecDepth 20000 in
theorem gX7_ofCoil_X1_doubt : GoodIn wsX7_ofCoil (wsV RX7 165 RX1 yX1_doubt wsX1_doubt) := goodIn_app (goodIn_of _ (by decide +kernel)) ggX7_ofCoil_X1_doubt
set_option maxRecDepth 20000 in
theorem ggX7_ofCoil_X1_stored : GoodIn wsX7_ofCoil wsX1_stored := goodIn_r _ [34, 35, 25, 43, 44, 45, 46, 47, 48, 49] (by decide +kernel) (by decide +kernel)
set_option maxRecDepth 20000 in
theorem gX7_ofCoil_X1_stored : GoodIn wsX7_ofCoil (wsV RX7 175 RX1 yX1_stored wsX1_stored) := goodIn_app (goodIn_of _ (by decide +kernel)) ggX7_ofCoil_X1_stored
theorem dX7_ofCoil_0 : decode cX7_ofCoil 0 = .ok (.iload_n 1, 1) := by decide +kernel
theorem dX7_ofCoil_1 : decode cX7_ofCoil 1 = .ok (.iconst 0, 1) := by decide +kernel
theorem dX7_ofCoil_2 : decode cX7_ofCoil 2 = .ok (.iconst 5, 1) := by decide +kernel
theorem dX7_ofCoil_3 : decode cX7_ofCoil 3 = .ok (.invokestatic 46, 3) := by decide +kernel
theorem dX7_ofCoil_6 : decode cX7_ofCoil 6 = .ok (.iload_n 1, 1) := by decide +kernel
theorem dX7_ofCoil_7 : decode cX7_ofCoil 7 = .ok (.tableswitch 86 0 4 #[33, 45, 54, 70, 78], 33) := by decide +kernel
theorem dX7_ofCoil_40 : decode cX7_ofCoil 40 = .ok (.aload_n 0, 1) := by decide +kernel
theorem dX7_ofCoil_41 : decode cX7_ofCoil 41 = .ok (.getfield 29, 3) := by decide +kernel
theorem dX7_ofCoil_44 : decode cX7_ofCoil 44 = .ok (.iconst 0, 1) := by decide +kernel
theorem dX7_ofCoil_45 : decode cX7_ofCoil 45 = .ok (.bipush 12, 2) := by decide +kernel
theorem dX7_ofCoil_47 : decode cX7_ofCoil 47 = .ok (.invokevirtual 162, 3) := by decide +kernel
theorem dX7_ofCoil_50 : decode cX7_ofCoil 50 = .ok (.i2l, 1) := by decide +kernel
theorem dX7_ofCoil_51 : decode cX7_ofCoil 51 = .ok (.lreturn, 1) := by decide +kernel
theorem dX7_ofCoil_52 : decode cX7_ofCoil 52 = .ok (.aload_n 0, 1) := by decide +kernel
theorem dX7_ofCoil_53 : decode cX7_ofCoil 53 = .ok (.getfield 29, 3) := by decide +kernel
theorem dX7_ofCoil_56 : decode cX7_ofCoil 56 = .ok (.invokevirtual 165, 3) := by decide +kernel
theorem dX7_ofCoil_59 : decode cX7_ofCoil 59 = .ok (.i2l, 1) := by decide +kernel
theorem dX7_ofCoil_60 : decode cX7_ofCoil 60 = .ok (.lreturn, 1) := by decide +kernel
theorem dX7_ofCoil_61 : decode cX7_ofCoil 61 = .ok (.aload_n 0, 1) := by decide +kernel
theorem dX7_ofCoil_62 : decode cX7_ofCoil 62 = .ok (.getfield 29, 3) := by decide +kernel
theorem dX7_ofCoil_65 : decode cX7_ofCoil 65 = .ok (.getfield 144, 3) := by decide +kernel
theorem dX7_ofCoil_68 : decode cX7_ofCoil 68 = .ok (.ifCond .eq 7, 3) := by decide +kernel
theorem dX7_ofCoil_71 : decode cX7_ofCoil 71 = .ok (.lconst 1, 1) := by decide +kernel
theorem dX7_ofCoil_72 : decode cX7_ofCoil 72 = .ok (.goto 4, 3) := by decide +kernel
theorem dX7_ofCoil_75 : decode cX7_ofCoil 75 = .ok (.lconst 0, 1) := by decide +kernel
theorem dX7_ofCoil_76 : decode cX7_ofCoil 76 = .ok (.lreturn, 1) := by decide +kernel
theorem dX7_ofCoil_77 : decode cX7_ofCoil 77 = .ok (.aload_n 0, 1) := by decide +kernel
theorem dX7_ofCoil_78 : decode cX7_ofCoil 78 = .ok (.getfield 29, 3) := by decide +kernel
theorem dX7_ofCoil_81 : decode cX7_ofCoil 81 = .ok (.getfield 168, 3) := by decide +kernel
theorem dX7_ofCoil_84 : decode cX7_ofCoil 84 = .ok (.lreturn, 1) := by decide +kernel
theorem dX7_ofCoil_85 : decode cX7_ofCoil 85 = .ok (.aload_n 0, 1) := by decide +kernel
theorem dX7_ofCoil_86 : decode cX7_ofCoil 86 = .ok (.getfield 29, 3) := by decide +kernel
theorem dX7_ofCoil_89 : decode cX7_ofCoil 89 = .ok (.getfield 172, 3) := by decide +kernel
theorem dX7_ofCoil_92 : decode cX7_ofCoil 92 = .ok (.lreturn, 1) := by decide +kernel
theorem dX7_ofCoil_93 : decode cX7_ofCoil 93 = .ok (.aload_n 0, 1) := by decide +kernel
theorem dX7_ofCoil_94 : decode cX7_ofCoil 94 = .ok (.getfield 29, 3) := by decide +kernel
theorem dX7_ofCoil_97 : decode cX7_ofCoil 97 = .ok (.invokevirtual 175, 3) := by decide +kernel
theorem dX7_ofCoil_100 : decode cX7_ofCoil 100 = .ok (.lreturn, 1) := by decide +kernel
theorem dX7_share_0 : decode cX7_share 0 = .ok (.aload_n 0, 1) := by decide +kernel
theorem dX7_share_1 : decode cX7_share 1 = .ok (.getfield 29, 3) := by decide +kernel
theorem dX7_share_4 : decode cX7_share 4 = .ok (.getfield 168, 3) := by decide +kernel
theorem dX7_share_7 : decode cX7_share 7 = .ok (.aload_n 0, 1) := by decide +kernel
theorem dX7_share_8 : decode cX7_share 8 = .ok (.getfield 29, 3) := by decide +kernel
theorem dX7_share_11 : decode cX7_share 11 = .ok (.getfield 172, 3) := by decide +kernel
theorem dX7_share_14 : decode cX7_share 14 = .ok (.ladd, 1) := by decide +kernel
theorem dX7_share_15 : decode cX7_share 15 = .ok (.lstore_n 1, 1) := by decide +kernel
theorem dX7_share_16 : decode cX7_share 16 = .ok (.lload_n 1, 1) := by decide +kernel
theorem dX7_share_17 : decode cX7_share 17 = .ok (.lconst 0, 1) := by decide +kernel
theorem dX7_share_18 : decode cX7_share 18 = .ok (.lcmp, 1) := by decide +kernel
theorem dX7_share_19 : decode cX7_share 19 = .ok (.ifCond .ne 7, 3) := by decide +kernel
theorem dX7_share_22 : decode cX7_share 22 = .ok (.dconst 0, 1) := by decide +kernel
theorem dX7_share_23 : decode cX7_share 23 = .ok (.goto 14, 3) := by decide +kernel
theorem dX7_share_26 : decode cX7_share 26 = .ok (.aload_n 0, 1) := by decide +kernel
theorem dX7_share_27 : decode cX7_share 27 = .ok (.getfield 29, 3) := by decide +kernel
theorem dX7_share_30 : decode cX7_share 30 = .ok (.getfield 168, 3) := by decide +kernel
