theorem dX4_mirrors_23 : decode cX4_mirrors 23 = .ok (.aload_n 0, 1) := by decide +kernel
theorem dX4_mirrors_24 : decode cX4_mirrors 24 = .ok (.getfield 7, 3) := by decide +kernel
theorem dX4_mirrors_27 : decode cX4_mirrors 27 = .ok (.if_icmp .ne 7, 3) := by decide +kernel
theorem dX4_mirrors_30 : decode cX4_mirrors 30 = .ok (.iconst 1, 1) := by decide +kernel
theorem dX4_mirrors_31 : decode cX4_mirrors 31 = .ok (.goto 4, 3) := by decide +kernel
theorem dX4_mirrors_34 : decode cX4_mirrors 34 = .ok (.iconst 0, 1) := by decide +kernel
theorem dX4_mirrors_35 : decode cX4_mirrors 35 = .ok (.ireturn, 1) := by decide +kernel
theorem dX5_init_0 : decode cX5_init 0 = .ok (.aload_n 0, 1) := by decide +kernel
theorem dX5_init_1 : decode cX5_init 1 = .ok (.invokespecial 1, 3) := by decide +kernel
theorem dX5_init_4 : decode cX5_init 4 = .ok (.aload_n 0, 1) := by decide +kernel
theorem dX5_init_5 : decode cX5_init 5 = .ok (.iload_n 1, 1) := by decide +kernel
theorem dX5_init_6 : decode cX5_init 6 = .ok (.putfield 7, 3) := by decide +kernel
theorem dX5_init_9 : decode cX5_init 9 = .ok (.aload_n 0, 1) := by decide +kernel
theorem dX5_init_10 : decode cX5_init 10 = .ok (.iload_n 2, 1) := by decide +kernel
theorem dX5_init_11 : decode cX5_init 11 = .ok (.putfield 13, 3) := by decide +kernel
theorem dX5_init_14 : decode cX5_init 14 = .ok (.return_, 1) := by decide +kernel
theorem dX5_currentWith_0 : decode cX5_currentWith 0 = .ok (.aload_n 0, 1) := by decide +kernel
theorem dX5_currentWith_1 : decode cX5_currentWith 1 = .ok (.getfield 7, 3) := by decide +kernel
theorem dX5_currentWith_4 : decode cX5_currentWith 4 = .ok (.ifCond .ne 7, 3) := by decide +kernel
theorem dX5_currentWith_7 : decode cX5_currentWith 7 = .ok (.iconst 0, 1) := by decide +kernel
theorem dX5_currentWith_8 : decode cX5_currentWith 8 = .ok (.goto 18, 3) := by decide +kernel
theorem dX5_currentWith_11 : decode cX5_currentWith 11 = .ok (.sipush 1000, 3) := by decide +kernel
theorem dX5_currentWith_14 : decode cX5_currentWith 14 = .ok (.iload_n 1, 1) := by decide +kernel
theorem dX5_currentWith_15 : decode cX5_currentWith 15 = .ok (.imul, 1) := by decide +kernel
theorem dX5_currentWith_16 : decode cX5_currentWith 16 = .ok (.aload_n 0, 1) := by decide +kernel
theorem dX5_currentWith_17 : decode cX5_currentWith 17 = .ok (.getfield 16, 3) := by decide +kernel
theorem dX5_currentWith_20 : decode cX5_currentWith 20 = .ok (.isub, 1) := by decide +kernel
theorem dX5_currentWith_21 : decode cX5_currentWith 21 = .ok (.aload_n 0, 1) := by decide +kernel
theorem dX5_currentWith_22 : decode cX5_currentWith 22 = .ok (.getfield 7, 3) := by decide +kernel
theorem dX5_currentWith_25 : decode cX5_currentWith 25 = .ok (.idiv, 1) := by decide +kernel
theorem dX5_currentWith_26 : decode cX5_currentWith 26 = .ok (.ireturn, 1) := by decide +kernel
set_option maxRecDepth 20000 in
theorem ggX5_settle_X5_currentWith : GoodIn wsX5_settle wsX5_currentWith := goodIn_r _ [13, 14, 15, 16, 17, 18, 19, 20] (by decide +kernel) (by decide +kernel)
set_option maxRecDepth 20000 in
theorem gX5_settle_X5_currentWith : GoodIn wsX5_settle (wsV RX5 23 RX5 yX5_currentWith wsX5_currentWith) := goodIn_app (goodIn_of _ (by decide +kernel)) ggX5_settle_X5_currentWith
theorem dX5_settle_0 : decode cX5_settle 0 = .ok (.aload_n 0, 1) := by decide +kernel
theorem dX5_settle_1 : decode cX5_settle 1 = .ok (.getfield 19, 3) := by decide +kernel
theorem dX5_settle_4 : decode cX5_settle 4 = .ok (.istore_n 1, 1) := by decide +kernel
theorem dX5_settle_5 : decode cX5_settle 5 = .ok (.iconst 0, 1) := by decide +kernel
theorem dX5_settle_6 : decode cX5_settle 6 = .ok (.istore_n 2, 1) := by decide +kernel
theorem dX5_settle_7 : decode cX5_settle 7 = .ok (.iload_n 2, 1) := by decide +kernel
theorem dX5_settle_8 : decode cX5_settle 8 = .ok (.ldc 22, 2) := by decide +kernel
theorem dX5_settle_10 : decode cX5_settle 10 = .ok (.if_icmp .ge 85, 3) := by decide +kernel
theorem dX5_settle_13 : decode cX5_settle 13 = .ok (.aload_n 0, 1) := by decide +kernel
theorem dX5_settle_14 : decode cX5_settle 14 = .ok (.aload_n 0, 1) := by decide +kernel
theorem dX5_settle_15 : decode cX5_settle 15 = .ok (.getfield 19, 3) := by decide +kernel
theorem dX5_settle_18 : decode cX5_settle 18 = .ok (.invokevirtual 23, 3) := by decide +kernel
theorem dX5_settle_21 : decode cX5_settle 21 = .ok (.istore_n 3, 1) := by decide +kernel
theorem dX5_settle_22 : decode cX5_settle 22 = .ok (.iload_n 3, 1) := by decide +kernel
theorem dX5_settle_23 : decode cX5_settle 23 = .ok (.ifCond .le 12, 3) := by decide +kernel
theorem dX5_settle_26 : decode cX5_settle 26 = .ok (.aload_n 0, 1) := by decide +kernel
theorem dX5_settle_27 : decode cX5_settle 27 = .ok (.getfield 19, 3) := by decide +kernel
theorem dX5_settle_30 : decode cX5_settle 30 = .ok (.iconst 1, 1) := by decide +kernel
theorem dX5_settle_31 : decode cX5_settle 31 = .ok (.isub, 1) := by decide +kernel
theorem dX5_settle_32 : decode cX5_settle 32 = .ok (.goto 9, 3) := by decide +kernel
theorem dX5_settle_35 : decode cX5_settle 35 = .ok (.aload_n 0, 1) := by decide +kernel
theorem dX5_settle_36 : decode cX5_settle 36 = .ok (.getfield 19, 3) := by decide +kernel
theorem dX5_settle_39 : decode cX5_settle 39 = .ok (.iconst 1, 1) := by decide +kernel
theorem dX5_settle_40 : decode cX5_settle 40 = .ok (.iadd, 1) := by decide +kernel
theorem dX5_settle_41 : decode cX5_settle 41 = .ok (.istore 4, 2) := by decide +kernel
theorem dX5_settle_43 : decode cX5_settle 43 = .ok (.iload_n 3, 1) := by decide +kernel
theorem dX5_settle_44 : decode cX5_settle 44 = .ok (.invokestatic 27, 3) := by decide +kernel
theorem dX5_settle_47 : decode cX5_settle 47 = .ok (.aload_n 0, 1) := by decide +kernel
theorem dX5_settle_48 : decode cX5_settle 48 = .ok (.getfield 13, 3) := by decide +kernel
theorem dX5_settle_51 : decode cX5_settle 51 = .ok (.if_icmp .le 44, 3) := by decide +kernel
theorem dX5_settle_54 : decode cX5_settle 54 = .ok (.aload_n 0, 1) := by decide +kernel
theorem dX5_settle_55 : decode cX5_settle 55 = .ok (.iload 4, 2) := by decide +kernel
theorem dX5_settle_57 : decode cX5_settle 57 = .ok (.invokevirtual 23, 3) := by decide +kernel
theorem dX5_settle_60 : decode cX5_settle 60 = .ok (.invokestatic 27, 3) := by decide +kernel
theorem dX5_settle_63 : decode cX5_settle 63 = .ok (.iload_n 3, 1) := by decide +kernel
theorem dX5_settle_64 : decode cX5_settle 64 = .ok (.invokestatic 27, 3) := by decide +kernel
theorem dX5_settle_67 : decode cX5_settle 67 = .ok (.if_icmp .lt 6, 3) := by decide +kernel
theorem dX5_settle_70 : decode cX5_settle 70 = .ok (.goto 25, 3) := by decide +kernel
theorem dX5_settle_73 : decode cX5_settle 73 = .ok (.aload_n 0, 1) := by decide +kernel
theorem dX5_settle_74 : decode cX5_settle 74 = .ok (.iload 4, 2) := by decide +kernel
theorem dX5_settle_76 : decode cX5_settle 76 = .ok (.putfield 19, 3) := by decide +kernel
theorem dX5_settle_79 : decode cX5_settle 79 = .ok (.aload_n 0, 1) := by decide +kernel
theorem dX5_settle_80 : decode cX5_settle 80 = .ok (.dup, 1) := by decide +kernel
theorem dX5_settle_81 : decode cX5_settle 81 = .ok (.getfield 32, 3) := by decide +kernel
theorem dX5_settle_84 : decode cX5_settle 84 = .ok (.iconst 1, 1) := by decide +kernel
theorem dX5_settle_85 : decode cX5_settle 85 = .ok (.iadd, 1) := by decide +kernel
theorem dX5_settle_86 : decode cX5_settle 86 = .ok (.putfield 32, 3) := by decide +kernel
theorem dX5_settle_89 : decode cX5_settle 89 = .ok (.iinc 2 1, 3) := by decide +kernel
theorem dX5_settle_92 : decode cX5_settle 92 = .ok (.goto (-85), 3) := by decide +kernel
theorem dX5_settle_95 : decode cX5_settle 95 = .ok (.aload_n 0, 1) := by decide +kernel
theorem dX5_settle_96 : decode cX5_settle 96 = .ok (.getfield 19, 3) := by decide +kernel
theorem dX5_settle_99 : decode cX5_settle 99 = .ok (.iload_n 1, 1) := by decide +kernel
theorem dX5_settle_100 : decode cX5_settle 100 = .ok (.isub, 1) := by decide +kernel
theorem dX5_settle_101 : decode cX5_settle 101 = .ok (.ireturn, 1) := by decide +kernel
set_option maxRecDepth 20000 in
theorem ggX7_init_Jx4a65c_init_da8c8 : GoodIn wsX7_init wsJx4a65c_init_da8c8 := goodIn_r _ [25, 26, 27, 28, 29, 30, 31, 32, 33, 34, 35, 36, 37, 2, 3, 57, 58, 59] (by decide +kernel) (by decide +kernel)
set_option maxRecDepth 20000 in
theorem gX7_init_Jx4a65c_init_da8c8 : GoodIn wsX7_init (wsJx4a65c_init_da8c8) := ggX7_init_Jx4a65c_init_da8c8
set_option maxRecDepth 20000 in
theorem ggX7_init_X3_init : GoodIn wsX7_init wsX3_init := goodIn_r _ [40, 41, 2, 3, 42, 43, 44, 67, 68, 69, 70, 71] (by decide +kernel) (by decide +kernel)
set_option maxRecDepth 20000 in
theorem gX7_init_X3_init : GoodIn wsX7_init (wsX3_init) := ggX7_init_X3_init
set_option maxRecDepth 20000 in
theorem ggX7_init_X1_init : GoodIn wsX7_init wsX1_init := goodIn_r _ [47, 48, 2, 3, 42, 49, 50, 72, 73, 74, 75, 76, 77, 78] (by decide +kernel) (by decide +kernel)
set_option maxRecDepth 20000 in
theorem gX7_init_X1_init : GoodIn wsX7_init (wsX1_init) := ggX7_init_X1_init
set_option maxRecDepth 20000 in
theorem ggX7_init_X2_init : GoodIn wsX7_init wsX2_init := goodIn_r _ [53, 54, 2, 3, 55, 56, 79, 80, 81] (by decide +kernel) (by decide +kernel)
set_option maxRecDepth 20000 in
theorem gX7_init_X2_init : GoodIn wsX7_init (wsX2_init) := ggX7_init_X2_init
theorem dX7_init_0 : decode cX7_init 0 = .ok (.aload_n 0, 1) := by decide +kernel
theorem dX7_init_1 : decode cX7_init 1 = .ok (.invokespecial 1, 3) := by decide +kernel
theorem dX7_init_4 : decode cX7_init 4 = .ok (.aload_n 0, 1) := by decide +kernel
theorem dX7_init_5 : decode cX7_init 5 = .ok (.new 7, 3) := by decide +kernel
theorem dX7_init_8 : decode cX7_init 8 = .ok (.dup, 1) := by decide +kernel
theorem dX7_init_9 : decode cX7_init 9 = .ok (.invokespecial 9, 3) := by decide +kernel
theorem dX7_init_12 : decode cX7_init 12 = .ok (.putfield 10, 3) := by decide +kernel
theorem dX7_init_15 : decode cX7_init 15 = .ok (.aload_n 0, 1) := by decide +kernel
theorem dX7_init_16 : decode cX7_init 16 = .ok (.new 16, 3) := by decide +kernel
theorem dX7_init_19 : decode cX7_init 19 = .ok (.dup, 1) := by decide +kernel
theorem dX7_init_20 : decode cX7_init 20 = .ok (.invokespecial 18, 3) := by decide +kernel
theorem dX7_init_23 : decode cX7_init 23 = .ok (.putfield 19, 3) := by decide +kernel
theorem dX7_init_26 : decode cX7_init 26 = .ok (.aload_n 0, 1) := by decide +kernel
theorem dX7_init_27 : decode cX7_init 27 = .ok (.new 7, 3) := by decide +kernel
theorem dX7_init_30 : decode cX7_init 30 = .ok (.dup, 1) := by decide +kernel
theorem dX7_init_31 : decode cX7_init 31 = .ok (.invokespecial 9, 3) := by decide +kernel
theorem dX7_init_34 : decode cX7_init 34 = .ok (.putfield 23, 3) := by decide +kernel
theorem dX7_init_37 : decode cX7_init 37 = .ok (.aload_n 0, 1) := by decide +kernel
theorem dX7_init_38 : decode cX7_init 38 = .ok (.new 26, 3) := by decide +kernel
theorem dX7_init_41 : decode cX7_init 41 = .ok (.dup, 1) := by decide +kernel
theorem dX7_init_42 : decode cX7_init 42 = .ok (.invokespecial 28, 3) := by decide +kernel
theorem dX7_init_45 : decode cX7_init 45 = .ok (.putfield 29, 3) := by decide +kernel
theorem dX7_init_48 : decode cX7_init 48 = .ok (.aload_n 0, 1) := by decide +kernel
theorem dX7_init_49 : decode cX7_init 49 = .ok (.new 33, 3) := by decide +kernel
theorem dX7_init_52 : decode cX7_init 52 = .ok (.dup, 1) := by decide +kernel
theorem dX7_init_53 : decode cX7_init 53 = .ok (.invokespecial 35, 3) := by decide +kernel
theorem dX7_init_56 : decode cX7_init 56 = .ok (.putfield 36, 3) := by decide +kernel
theorem dX7_init_59 : decode cX7_init 59 = .ok (.aload_n 0, 1) := by decide +kernel
theorem dX7_init_60 : decode cX7_init 60 = .ok (.new 7, 3) := by decide +kernel
theorem dX7_init_63 : decode cX7_init 63 = .ok (.dup, 1) := by decide +kernel
theorem dX7_init_64 : decode cX7_init 64 = .ok (.invokespecial 9, 3) := by decide +kernel
theorem dX7_init_67 : decode cX7_init 67 = .ok (.putfield 40, 3) := by decide +kernel
theorem dX7_init_70 : decode cX7_init 70 = .ok (.aload_n 0, 1) := by decide +kernel
theorem dX7_init_71 : decode cX7_init 71 = .ok (.new 7, 3) := by decide +kernel
theorem dX7_init_74 : decode cX7_init 74 = .ok (.dup, 1) := by decide +kernel
theorem dX7_init_75 : decode cX7_init 75 = .ok (.invokespecial 9, 3) := by decide +kernel
theorem dX7_init_78 : decode cX7_init 78 = .ok (.putfield 43, 3) := by decide +kernel
theorem dX7_init_81 : decode cX7_init 81 = .ok (.return_, 1) := by decide +kernel
set_option maxRecDepth 20000 in
theorem ggX7_pin_X7_refuseUnknown : GoodIn wsX7_pin wsX7_refuseUnknown := goodIn_ca (goodIn_r _ [6, 7, 8] (by decide +kernel) (by decide +kernel)) (goodIn_sub (fun _ h => List.mem_cons_of_mem _ (List.mem_append_left _ (List.mem_append_right _ h))) (by decide +kernel))
set_option maxRecDepth 20000 in
theorem gX7_pin_X7_refuseUnknown : GoodIn wsX7_pin (va_wsS RX7 66 yX7_refuseUnknown wsX7_refuseUnknown) := goodIn_app (goodIn_of _ (by decide +kernel)) ggX7_pin_X7_refuseUnknown
set_option maxRecDepth 20000 in
theorem ggX7_pin_X7_refuseOutside : GoodIn wsX7_pin wsX7_refuseOutside := goodIn_ca (goodIn_r _ [11, 12, 13] (by decide +kernel) (by decide +kernel)) (goodIn_sub (fun _ h => List.mem_cons_of_mem _ (List.mem_append_right _ h)) (by decide +kernel))
set_option maxRecDepth 20000 in
theorem gX7_pin_X7_refuseOutside : GoodIn wsX7_pin (va_wsS RX7 46 yX7_refuseOutside wsX7_refuseOutside) := goodIn_app (goodIn_of _ (by decide +kernel)) ggX7_pin_X7_refuseOutside
theorem dX7_pin_0 : decode cX7_pin 0 = .ok (.iload_n 1, 1) := by decide +kernel
theorem dX7_pin_1 : decode cX7_pin 1 = .ok (.bipush 48, 2) := by decide +kernel
theorem dX7_pin_3 : decode cX7_pin 3 = .ok (.invokestatic 66, 3) := by decide +kernel
theorem dX7_pin_6 : decode cX7_pin 6 = .ok (.iload_n 2, 1) := by decide +kernel
theorem dX7_pin_7 : decode cX7_pin 7 = .ok (.iconst 0, 1) := by decide +kernel
theorem dX7_pin_8 : decode cX7_pin 8 = .ok (.bipush 50, 2) := by decide +kernel
theorem dX7_pin_10 : decode cX7_pin 10 = .ok (.invokestatic 46, 3) := by decide +kernel
theorem dX7_pin_13 : decode cX7_pin 13 = .ok (.aload_n 0, 1) := by decide +kernel
theorem dX7_pin_14 : decode cX7_pin 14 = .ok (.getfield 19, 3) := by decide +kernel
theorem dX7_pin_17 : decode cX7_pin 17 = .ok (.getfield 87, 3) := by decide +kernel
theorem dX7_pin_20 : decode cX7_pin 20 = .ok (.iload_n 1, 1) := by decide +kernel
theorem dX7_pin_21 : decode cX7_pin 21 = .ok (.iaload, 1) := by decide +kernel
theorem dX7_pin_22 : decode cX7_pin 22 = .ok (.istore_n 3, 1) := by decide +kernel
theorem dX7_pin_23 : decode cX7_pin 23 = .ok (.aload_n 0, 1) := by decide +kernel
theorem dX7_pin_24 : decode cX7_pin 24 = .ok (.getfield 19, 3) := by decide +kernel
theorem dX7_pin_27 : decode cX7_pin 27 = .ok (.getfield 87, 3) := by decide +kernel
theorem dX7_pin_30 : decode cX7_pin 30 = .ok (.iload_n 1, 1) := by decide +kernel
theorem dX7_pin_31 : decode cX7_pin 31 = .ok (.iload_n 2, 1) := by decide +kernel
theorem dX7_pin_32 : decode cX7_pin 32 = .ok (.iastore, 1) := by decide +kernel
theorem dX7_pin_33 : decode cX7_pin 33 = .ok (.iload_n 3, 1) := by decide +kernel
theorem dX7_pin_34 : decode cX7_pin 34 = .ok (.ireturn, 1) := by decide +kernel
set_option maxRecDepth 20000 in
theorem ggX7_drive_X7_refuseOutside : GoodIn wsX7_drive wsX7_refuseOutside := goodIn_ca (goodIn_r _ [7, 8, 9] (by decide +kernel) (by decide +kernel)) (goodIn_sub (fun _ h => List.mem_cons_of_mem _ (List.mem_append_right _ h)) (by decide +kernel))
set_option maxRecDepth 20000 in
theorem gX7_drive_X7_refuseOutside : GoodIn wsX7_drive (va_wsS RX7 46 yX7_refuseOutside wsX7_refuseOutside) := goodIn_app (goodIn_of _ (by decide +kernel)) ggX7_drive_X7_refuseOutside
theorem dX7_drive_0 : decode cX7_drive 0 = .ok (.iload_n 1, 1) := by decide +kernel
theorem dX7_drive_1 : decode cX7_drive 1 = .ok (.bipush (-9), 2) := by decide +kernel
theorem dX7_drive_3 : decode cX7_drive 3 = .ok (.bipush 9, 2) := by decide +kernel
theorem dX7_drive_5 : decode cX7_drive 5 = .ok (.invokestatic 46, 3) := by decide +kernel
theorem dX7_drive_8 : decode cX7_drive 8 = .ok (.iload_n 2, 1) := by decide +kernel
theorem dX7_drive_9 : decode cX7_drive 9 = .ok (.iconst 0, 1) := by decide +kernel
theorem dX7_drive_10 : decode cX7_drive 10 = .ok (.bipush 30, 2) := by decide +kernel
theorem dX7_drive_12 : decode cX7_drive 12 = .ok (.invokestatic 46, 3) := by decide +kernel
theorem dX7_drive_15 : decode cX7_drive 15 = .ok (.aload_n 0, 1) := by decide +kernel
theorem dX7_drive_16 : decode cX7_drive 16 = .ok (.getfield 19, 3) := by decide +kernel
theorem dX7_drive_19 : decode cX7_drive 19 = .ok (.iload_n 1, 1) := by decide +kernel
theorem dX7_drive_20 : decode cX7_drive 20 = .ok (.putfield 91, 3) := by decide +kernel
theorem dX7_drive_23 : decode cX7_drive 23 = .ok (.aload_n 0, 1) := by decide +kernel
theorem dX7_drive_24 : decode cX7_drive 24 = .ok (.getfield 19, 3) := by decide +kernel
theorem dX7_drive_27 : decode cX7_drive 27 = .ok (.iload_n 2, 1) := by decide +kernel
theorem dX7_drive_28 : decode cX7_drive 28 = .ok (.putfield 94, 3) := by decide +kernel
theorem dX7_drive_31 : decode cX7_drive 31 = .ok (.return_, 1) := by decide +kernel
set_option maxRecDepth 20000 in
theorem ggX7_enter_X7_refuseOutside : GoodIn wsX7_enter wsX7_refuseOutside := goodIn_ca (goodIn_r _ [7, 8, 9] (by decide +kernel) (by decide +kernel)) (goodIn_sub (fun _ h => List.mem_cons_of_mem _ (List.mem_append_left _ (List.mem_append_right _ h))) (by decide +kernel))
set_option maxRecDepth 20000 in
theorem gX7_enter_X7_refuseOutside : GoodIn wsX7_enter (va_wsS RX7 46 yX7_refuseOutside wsX7_refuseOutside) := goodIn_app (goodIn_of _ (by decide +kernel)) ggX7_enter_X7_refuseOutside
set_option maxRecDepth 20000 in
theorem ggX7_enter_X7_refuseFull : GoodIn wsX7_enter wsX7_refuseFull := goodIn_ca (goodIn_r _ [12, 13, 14] (by decide +kernel) (by decide +kernel)) (goodIn_sub (fun _ h => List.mem_cons_of_mem _ (List.mem_append_right _ h)) (by decide +kernel))
set_option maxRecDepth 20000 in
theorem gX7_enter_X7_refuseFull : GoodIn wsX7_enter (va_wsS RX7 54 yX7_refuseFull wsX7_refuseFull) := goodIn_app (goodIn_of _ (by decide +kernel)) ggX7_enter_X7_refuseFull
set_option maxRecDepth 20000 in
theorem ggX7_enter_X3_calmestEntry : GoodIn wsX7_enter wsX3_calmestEntry := goodIn_r _ [19, 20, 21, 22, 18, 23, 24, 25, 26, 27, 28, 29, 30, 31, 32, 33, 34, 35, 36, 37, 38, 39, 40, 41, 50, 51, 52, 53, 54] (by decide +kernel) (by decide +kernel)
set_option maxRecDepth 20000 in
theorem gX7_enter_X3_calmestEntry : GoodIn wsX7_enter (wsV RX7 100 RX3 yX3_calmestEntry wsX3_calmestEntry) := goodIn_app (goodIn_of _ (by decide +kernel)) ggX7_enter_X3_calmestEntry
set_option maxRecDepth 20000 in
theorem ggX7_enter_X3_energyAt : GoodIn wsX7_enter wsX3_energyAt := goodIn_r _ [28, 24, 29, 30, 31, 18, 32, 33, 34, 35, 36, 37, 38, 39, 40, 41, 50, 51, 52, 53, 54] (by decide +kernel) (by decide +kernel)
set_option maxRecDepth 20000 in
theorem gX7_enter_X3_energyAt : GoodIn wsX7_enter (wsV RX7 104 RX3 yX3_energyAt wsX3_energyAt) := goodIn_app (goodIn_of _ (by decide +kernel)) ggX7_enter_X3_energyAt
theorem dX7_enter_0 : decode cX7_enter 0 = .ok (.iload_n 1, 1) := by decide +kernel
theorem dX7_enter_1 : decode cX7_enter 1 = .ok (.bipush (-100), 2) := by decide +kernel
theorem dX7_enter_3 : decode cX7_enter 3 = .ok (.sipush 1000, 3) := by decide +kernel
theorem dX7_enter_6 : decode cX7_enter 6 = .ok (.invokestatic 46, 3) := by decide +kernel
theorem dX7_enter_9 : decode cX7_enter 9 = .ok (.aload_n 0, 1) := by decide +kernel
theorem dX7_enter_10 : decode cX7_enter 10 = .ok (.getfield 19, 3) := by decide +kernel
theorem dX7_enter_13 : decode cX7_enter 13 = .ok (.getfield 97, 3) := by decide +kernel
theorem dX7_enter_16 : decode cX7_enter 16 = .ok (.bipush 20, 2) := by decide +kernel
theorem dX7_enter_18 : decode cX7_enter 18 = .ok (.invokestatic 54, 3) := by decide +kernel
theorem dX7_enter_21 : decode cX7_enter 21 = .ok (.aload_n 0, 1) := by decide +kernel
theorem dX7_enter_22 : decode cX7_enter 22 = .ok (.getfield 19, 3) := by decide +kernel
theorem dX7_enter_25 : decode cX7_enter 25 = .ok (.getfield 97, 3) := by decide +kernel
theorem dX7_enter_28 : decode cX7_enter 28 = .ok (.istore_n 2, 1) := by decide +kernel
theorem dX7_enter_29 : decode cX7_enter 29 = .ok (.aload_n 0, 1) := by decide +kernel
theorem dX7_enter_30 : decode cX7_enter 30 = .ok (.getfield 19, 3) := by decide +kernel
theorem dX7_enter_33 : decode cX7_enter 33 = .ok (.iload_n 2, 1) := by decide +kernel
theorem dX7_enter_34 : decode cX7_enter 34 = .ok (.invokevirtual 100, 3) := by decide +kernel
theorem dX7_enter_37 : decode cX7_enter 37 = .ok (.istore_n 3, 1) := by decide +kernel
theorem dX7_enter_38 : decode cX7_enter 38 = .ok (.iload_n 3, 1) := by decide +kernel
theorem dX7_enter_39 : decode cX7_enter 39 = .ok (.iconst (-1), 1) := by decide +kernel
theorem dX7_enter_40 : decode cX7_enter 40 = .ok (.if_icmp .eq 16, 3) := by decide +kernel
theorem dX7_enter_43 : decode cX7_enter 43 = .ok (.aload_n 0, 1) := by decide +kernel
theorem dX7_enter_44 : decode cX7_enter 44 = .ok (.getfield 19, 3) := by decide +kernel
theorem dX7_enter_47 : decode cX7_enter 47 = .ok (.iload_n 2, 1) := by decide +kernel
theorem dX7_enter_48 : decode cX7_enter 48 = .ok (.iload_n 3, 1) := by decide +kernel
theorem dX7_enter_49 : decode cX7_enter 49 = .ok (.invokevirtual 104, 3) := by decide +kernel
theorem dX7_enter_52 : decode cX7_enter 52 = .ok (.iload_n 1, 1) := by decide +kernel
theorem dX7_enter_53 : decode cX7_enter 53 = .ok (.if_icmp .le 5, 3) := by decide +kernel
theorem dX7_enter_56 : decode cX7_enter 56 = .ok (.iconst (-1), 1) := by decide +kernel
theorem dX7_enter_57 : decode cX7_enter 57 = .ok (.ireturn, 1) := by decide +kernel
theorem dX7_enter_58 : decode cX7_enter 58 = .ok (.aload_n 0, 1) := by decide +kernel
theorem dX7_enter_59 : decode cX7_enter 59 = .ok (.getfield 19, 3) := by decide +kernel
theorem dX7_enter_62 : decode cX7_enter 62 = .ok (.getfield 108, 3) := by decide +kernel
theorem dX7_enter_65 : decode cX7_enter 65 = .ok (.iload_n 2, 1) := by decide +kernel
theorem dX7_enter_66 : decode cX7_enter 66 = .ok (.iload_n 3, 1) := by decide +kernel
theorem dX7_enter_67 : decode cX7_enter 67 = .ok (.iastore, 1) := by decide +kernel
theorem dX7_enter_68 : decode cX7_enter 68 = .ok (.aload_n 0, 1) := by decide +kernel
theorem dX7_enter_69 : decode cX7_enter 69 = .ok (.getfield 19, 3) := by decide +kernel
theorem dX7_enter_72 : decode cX7_enter 72 = .ok (.dup, 1) := by decide +kernel
theorem dX7_enter_73 : decode cX7_enter 73 = .ok (.getfield 97, 3) := by decide +kernel
theorem dX7_enter_76 : decode cX7_enter 76 = .ok (.iconst 1, 1) := by decide +kernel
theorem dX7_enter_77 : decode cX7_enter 77 = .ok (.iadd, 1) := by decide +kernel
theorem dX7_enter_78 : decode cX7_enter 78 = .ok (.putfield 97, 3) := by decide +kernel
theorem dX7_enter_81 : decode cX7_enter 81 = .ok (.iload_n 2, 1) := by decide +kernel
theorem dX7_enter_82 : decode cX7_enter 82 = .ok (.ireturn, 1) := by decide +kernel
set_option maxRecDepth 20000 in
theorem ggX7_avalanche_X3_runStep : GoodIn wsX7_avalanche wsX3_runStep := goodIn_r _ [6, 7, 8, 9, 10, 5, 11, 12, 13, 14, 15, 16, 17, 18, 19, 20, 21, 22, 23, 24, 25, 26, 27, 28, 29, 30, 31, 32, 33, 34, 35, 36, 37, 38, 39, 40, 41, 42, 43, 44, 45, 46, 47, 48, 56, 57, 58, 59, 60] (by decide +kernel) (by decide +kernel)
set_option maxRecDepth 20000 in
theorem gX7_avalanche_X3_runStep : GoodIn wsX7_avalanche (wsV RX7 111 RX3 yX3_runStep wsX3_runStep) := goodIn_app (goodIn_of _ (by decide +kernel)) ggX7_avalanche_X3_runStep
theorem dX7_avalanche_0 : decode cX7_avalanche 0 = .ok (.iconst 0, 1) := by decide +kernel
theorem dX7_avalanche_1 : decode cX7_avalanche 1 = .ok (.istore_n 1, 1) := by decide +kernel
theorem dX7_avalanche_2 : decode cX7_avalanche 2 = .ok (.iconst 0, 1) := by decide +kernel
theorem dX7_avalanche_3 : decode cX7_avalanche 3 = .ok (.istore_n 2, 1) := by decide +kernel
theorem dX7_avalanche_4 : decode cX7_avalanche 4 = .ok (.iload_n 2, 1) := by decide +kernel
theorem dX7_avalanche_5 : decode cX7_avalanche 5 = .ok (.bipush 60, 2) := by decide +kernel
theorem dX7_avalanche_7 : decode cX7_avalanche 7 = .ok (.if_icmp .ge 28, 3) := by decide +kernel
theorem dX7_avalanche_10 : decode cX7_avalanche 10 = .ok (.aload_n 0, 1) := by decide +kernel
theorem dX7_avalanche_11 : decode cX7_avalanche 11 = .ok (.getfield 19, 3) := by decide +kernel
theorem dX7_avalanche_14 : decode cX7_avalanche 14 = .ok (.invokevirtual 111, 3) := by decide +kernel
theorem dX7_avalanche_17 : decode cX7_avalanche 17 = .ok (.istore_n 3, 1) := by decide +kernel
theorem dX7_avalanche_18 : decode cX7_avalanche 18 = .ok (.iload_n 3, 1) := by decide +kernel
theorem dX7_avalanche_19 : decode cX7_avalanche 19 = .ok (.ifCond .ne 6, 3) := by decide +kernel
theorem dX7_avalanche_22 : decode cX7_avalanche 22 = .ok (.goto 13, 3) := by decide +kernel
theorem dX7_avalanche_25 : decode cX7_avalanche 25 = .ok (.iload_n 1, 1) := by decide +kernel
theorem dX7_avalanche_26 : decode cX7_avalanche 26 = .ok (.iload_n 3, 1) := by decide +kernel
theorem dX7_avalanche_27 : decode cX7_avalanche 27 = .ok (.iadd, 1) := by decide +kernel
theorem dX7_avalanche_28 : decode cX7_avalanche 28 = .ok (.istore_n 1, 1) := by decide +kernel
theorem dX7_avalanche_29 : decode cX7_avalanche 29 = .ok (.iinc 2 1, 3) := by decide +kernel
theorem dX7_avalanche_32 : decode cX7_avalanche 32 = .ok (.goto (-28), 3) := by decide +kernel
theorem dX7_avalanche_35 : decode cX7_avalanche 35 = .ok (.iload_n 1, 1) := by decide +kernel
theorem dX7_avalanche_36 : decode cX7_avalanche 36 = .ok (.ireturn, 1) := by decide +kernel
set_option maxRecDepth 20000 in
theorem ggX7_whirlAt_X7_refuseUnknown : GoodIn wsX7_whirlAt wsX7_refuseUnknown := goodIn_ca (goodIn_r _ [6, 7, 8] (by decide +kernel) (by decide +kernel)) (goodIn_sub (fun _ h => List.mem_cons_of_mem _ (List.mem_append_right _ h)) (by decide +kernel))
set_option maxRecDepth 20000 in
theorem gX7_whirlAt_X7_refuseUnknown : GoodIn wsX7_whirlAt (va_wsS RX7 66 yX7_refuseUnknown wsX7_refuseUnknown) := goodIn_app (goodIn_of _ (by decide +kernel)) ggX7_whirlAt_X7_refuseUnknown
set_option maxRecDepth 20000 in
theorem ggX7_whirlAt_X3_cellOf : GoodIn wsX7_whirlAt wsX3_cellOf := goodIn_r _ [13, 14, 22, 23, 24, 25, 26] (by decide +kernel) (by decide +kernel)
set_option maxRecDepth 20000 in
theorem gX7_whirlAt_X3_cellOf : GoodIn wsX7_whirlAt (wsV RX7 114 RX3 yX3_cellOf wsX3_cellOf) := goodIn_app (goodIn_of _ (by decide +kernel)) ggX7_whirlAt_X3_cellOf
theorem dX7_whirlAt_0 : decode cX7_whirlAt 0 = .ok (.iload_n 1, 1) := by decide +kernel
theorem dX7_whirlAt_1 : decode cX7_whirlAt 1 = .ok (.aload_n 0, 1) := by decide +kernel
theorem dX7_whirlAt_2 : decode cX7_whirlAt 2 = .ok (.getfield 19, 3) := by decide +kernel
theorem dX7_whirlAt_5 : decode cX7_whirlAt 5 = .ok (.getfield 97, 3) := by decide +kernel
theorem dX7_whirlAt_8 : decode cX7_whirlAt 8 = .ok (.invokestatic 66, 3) := by decide +kernel
theorem dX7_whirlAt_11 : decode cX7_whirlAt 11 = .ok (.aload_n 0, 1) := by decide +kernel
theorem dX7_whirlAt_12 : decode cX7_whirlAt 12 = .ok (.getfield 19, 3) := by decide +kernel
theorem dX7_whirlAt_15 : decode cX7_whirlAt 15 = .ok (.iload_n 1, 1) := by decide +kernel
theorem dX7_whirlAt_16 : decode cX7_whirlAt 16 = .ok (.invokevirtual 114, 3) := by decide +kernel
theorem dX7_whirlAt_19 : decode cX7_whirlAt 19 = .ok (.ireturn, 1) := by decide +kernel
set_option maxRecDepth 20000 in
theorem ggX7_ring_X7_refuseOutside : GoodIn wsX7_ring wsX7_refuseOutside := goodIn_ca (goodIn_r _ [8, 9, 10] (by decide +kernel) (by decide +kernel)) (goodIn_sub (fun _ h => List.mem_cons_of_mem _ (List.mem_append_left _ (List.mem_append_right _ h))) (by decide +kernel))
set_option maxRecDepth 20000 in
theorem gX7_ring_X7_refuseOutside : GoodIn wsX7_ring (va_wsS RX7 46 yX7_refuseOutside wsX7_refuseOutside) := goodIn_app (goodIn_of _ (by decide +kernel)) ggX7_ring_X7_refuseOutside
set_option maxRecDepth 20000 in
theorem ggX7_ring_Jx4a65c_size_8abf5 : GoodIn wsX7_ring wsJx4a65c_size_8abf5 := goodIn_r _ [15, 16, 96, 97, 98] (by decide +kernel) (by decide +kernel)
set_option maxRecDepth 20000 in
theorem gX7_ring_Jx4a65c_size_8abf5 : GoodIn wsX7_ring (wsV RX7 50 RJx4a65c yJx4a65c_size_8abf5 wsJx4a65c_size_8abf5) := goodIn_app (goodIn_of _ (by decide +kernel)) ggX7_ring_Jx4a65c_size_8abf5
set_option maxRecDepth 20000 in
theorem ggX7_ring_X7_refuseFull : GoodIn wsX7_ring wsX7_refuseFull := goodIn_ca (goodIn_r _ [19, 20, 21] (by decide +kernel) (by decide +kernel)) (goodIn_sub (fun _ h => List.mem_cons_of_mem _ (List.mem_append_right _ h)) (by decide +kernel))
set_option maxRecDepth 20000 in
theorem gX7_ring_X7_refuseFull : GoodIn wsX7_ring (va_wsS RX7 54 yX7_refuseFull wsX7_refuseFull) := goodIn_app (goodIn_of _ (by decide +kernel)) ggX7_ring_X7_refuseFull
set_option maxRecDepth 20000 in
theorem ggX7_ring_X5_init : GoodIn wsX7_ring wsX5_init := goodIn_r _ [24, 25, 26, 27, 28, 29, 91, 92, 93, 94, 95] (by decide +kernel) (by decide +kernel)
set_option maxRecDepth 20000 in
theorem gX7_ring_X5_init : GoodIn wsX7_ring (wsX5_init) := ggX7_ring_X5_init
set_option maxRecDepth 20000 in
theorem ggX7_ring_Jx4a65c_add_9ea2d : GoodIn wsX7_ring wsJx4a65c_add_9ea2d := goodIn_r _ [33, 34, 35, 36, 16, 37, 38, 39, 14, 40, 41, 42, 43, 44, 45, 46, 47, 48, 49, 50, 51, 52, 53, 54, 55, 56, 57, 58, 59, 60, 61, 62, 63, 64, 65, 66, 67, 68, 69, 70, 71, 72, 73, 74, 75, 76, 77, 78, 79, 80, 81, 82, 83, 96, 97, 98] (by decide +kernel) (by decide +kernel)
set_option maxRecDepth 20000 in
theorem gX7_ring_Jx4a65c_add_9ea2d : GoodIn wsX7_ring (wsV RX7 62 RJx4a65c yJx4a65c_add_9ea2d wsJx4a65c_add_9ea2d) := goodIn_app (goodIn_of _ (by decide +kernel)) ggX7_ring_Jx4a65c_add_9ea2d
theorem dX7_ring_0 : decode cX7_ring 0 = .ok (.iload_n 1, 1) := by decide +kernel
theorem dX7_ring_1 : decode cX7_ring 1 = .ok (.iconst 1, 1) := by decide +kernel
theorem dX7_ring_2 : decode cX7_ring 2 = .ok (.bipush 100, 2) := by decide +kernel
theorem dX7_ring_4 : decode cX7_ring 4 = .ok (.invokestatic 46, 3) := by decide +kernel
theorem dX7_ring_7 : decode cX7_ring 7 = .ok (.iload_n 2, 1) := by decide +kernel
theorem dX7_ring_8 : decode cX7_ring 8 = .ok (.bipush 50, 2) := by decide +kernel
theorem dX7_ring_10 : decode cX7_ring 10 = .ok (.sipush 1000, 3) := by decide +kernel
theorem dX7_ring_13 : decode cX7_ring 13 = .ok (.invokestatic 46, 3) := by decide +kernel
theorem dX7_ring_16 : decode cX7_ring 16 = .ok (.aload_n 0, 1) := by decide +kernel
theorem dX7_ring_17 : decode cX7_ring 17 = .ok (.getfield 23, 3) := by decide +kernel
theorem dX7_ring_20 : decode cX7_ring 20 = .ok (.invokevirtual 50, 3) := by decide +kernel
theorem dX7_ring_23 : decode cX7_ring 23 = .ok (.bipush 6, 2) := by decide +kernel
theorem dX7_ring_25 : decode cX7_ring 25 = .ok (.invokestatic 54, 3) := by decide +kernel
theorem dX7_ring_28 : decode cX7_ring 28 = .ok (.aload_n 0, 1) := by decide +kernel
theorem dX7_ring_29 : decode cX7_ring 29 = .ok (.getfield 23, 3) := by decide +kernel
theorem dX7_ring_32 : decode cX7_ring 32 = .ok (.new 117, 3) := by decide +kernel
theorem dX7_ring_35 : decode cX7_ring 35 = .ok (.dup, 1) := by decide +kernel
theorem dX7_ring_36 : decode cX7_ring 36 = .ok (.iload_n 1, 1) := by decide +kernel
theorem dX7_ring_37 : decode cX7_ring 37 = .ok (.iload_n 2, 1) := by decide +kernel
theorem dX7_ring_38 : decode cX7_ring 38 = .ok (.invokespecial 119, 3) := by decide +kernel
theorem dX7_ring_41 : decode cX7_ring 41 = .ok (.invokevirtual 62, 3) := by decide +kernel
theorem dX7_ring_44 : decode cX7_ring 44 = .ok (.pop, 1) := by decide +kernel
theorem dX7_ring_45 : decode cX7_ring 45 = .ok (.aload_n 0, 1) := by decide +kernel
theorem dX7_ring_46 : decode cX7_ring 46 = .ok (.getfield 23, 3) := by decide +kernel
theorem dX7_ring_49 : decode cX7_ring 49 = .ok (.invokevirtual 50, 3) := by decide +kernel
theorem dX7_ring_52 : decode cX7_ring 52 = .ok (.iconst 1, 1) := by decide +kernel
theorem dX7_ring_53 : decode cX7_ring 53 = .ok (.isub, 1) := by decide +kernel
theorem dX7_ring_54 : decode cX7_ring 54 = .ok (.ireturn, 1) := by decide +kernel
set_option maxRecDepth 20000 in
theorem ggX7_flux_Jx4a65c_size_8abf5 : GoodIn wsX7_flux wsJx4a65c_size_8abf5 := goodIn_r _ [10, 11, 71, 72, 73] (by decide +kernel) (by decide +kernel)
set_option maxRecDepth 20000 in
theorem gX7_flux_Jx4a65c_size_8abf5 : GoodIn wsX7_flux (wsV RX7 50 RJx4a65c yJx4a65c_size_8abf5 wsJx4a65c_size_8abf5) := goodIn_app (goodIn_of _ (by decide +kernel)) ggX7_flux_Jx4a65c_size_8abf5
set_option maxRecDepth 20000 in
theorem ggX7_flux_X7_refuseUnknown : GoodIn wsX7_flux wsX7_refuseUnknown := goodIn_ca (goodIn_r _ [15, 16, 17] (by decide +kernel) (by decide +kernel)) (goodIn_sub (fun _ h => List.mem_cons_of_mem _ (List.mem_append_left _ (List.mem_append_right _ h))) (by decide +kernel))
set_option maxRecDepth 20000 in
theorem gX7_flux_X7_refuseUnknown : GoodIn wsX7_flux (va_wsS RX7 66 yX7_refuseUnknown wsX7_refuseUnknown) := goodIn_app (goodIn_of _ (by decide +kernel)) ggX7_flux_X7_refuseUnknown
set_option maxRecDepth 20000 in
theorem ggX7_flux_X7_refuseOutside : GoodIn wsX7_flux wsX7_refuseOutside := goodIn_ca (goodIn_r _ [20, 21, 22] (by decide +kernel) (by decide +kernel)) (goodIn_sub (fun _ h => List.mem_cons_of_mem _ (List.mem_append_right _ h)) (by decide +kernel))
set_option maxRecDepth 20000 in
theorem gX7_flux_X7_refuseOutside : GoodIn wsX7_flux (va_wsS RX7 46 yX7_refuseOutside wsX7_refuseOutside) := goodIn_app (goodIn_of _ (by decide +kernel)) ggX7_flux_X7_refuseOutside
set_option maxRecDepth 20000 in
theorem ggX7_flux_Jx4a65c_get_915e3 : GoodIn wsX7_flux wsJx4a65c_get_915e3 := goodIn_r _ [26, 11, 27, 28, 29, 30, 31, 32, 33, 34, 35, 36, 37, 9, 38, 39, 71, 72, 73] (by decide +kernel) (by decide +kernel)
set_option maxRecDepth 20000 in
theorem gX7_flux_Jx4a65c_get_915e3 : GoodIn wsX7_flux (wsV RX7 69 RJx4a65c yJx4a65c_get_915e3 wsJx4a65c_get_915e3) := goodIn_app (goodIn_of _ (by decide +kernel)) ggX7_flux_Jx4a65c_get_915e3
set_option maxRecDepth 20000 in
theorem ggX7_flux_X5_settle : GoodIn wsX7_flux wsX5_settle := goodIn_r _ [44, 45, 46, 47, 48, 49, 50, 51, 52, 53, 54, 55, 43, 56, 57, 58, 66, 67, 68, 69, 70] (by decide +kernel) (by decide +kernel)
set_option maxRecDepth 20000 in
theorem gX7_flux_X5_settle : GoodIn wsX7_flux (wsV RX7 126 RX5 yX5_settle wsX5_settle) := goodIn_app (goodIn_of _ (by decide +kernel)) ggX7_flux_X5_settle
theorem dX7_flux_0 : decode cX7_flux 0 = .ok (.iload_n 1, 1) := by decide +kernel
theorem dX7_flux_1 : decode cX7_flux 1 = .ok (.aload_n 0, 1) := by decide +kernel
theorem dX7_flux_2 : decode cX7_flux 2 = .ok (.getfield 23, 3) := by decide +kernel
theorem dX7_flux_5 : decode cX7_flux 5 = .ok (.invokevirtual 50, 3) := by decide +kernel
theorem dX7_flux_8 : decode cX7_flux 8 = .ok (.invokestatic 66, 3) := by decide +kernel
theorem dX7_flux_11 : decode cX7_flux 11 = .ok (.iload_n 2, 1) := by decide +kernel
theorem dX7_flux_12 : decode cX7_flux 12 = .ok (.ldc 121, 2) := by decide +kernel
theorem dX7_flux_14 : decode cX7_flux 14 = .ok (.ldc 122, 2) := by decide +kernel
theorem dX7_flux_16 : decode cX7_flux 16 = .ok (.invokestatic 46, 3) := by decide +kernel
theorem dX7_flux_19 : decode cX7_flux 19 = .ok (.aload_n 0, 1) := by decide +kernel
theorem dX7_flux_20 : decode cX7_flux 20 = .ok (.getfield 23, 3) := by decide +kernel
theorem dX7_flux_23 : decode cX7_flux 23 = .ok (.iload_n 1, 1) := by decide +kernel
theorem dX7_flux_24 : decode cX7_flux 24 = .ok (.invokevirtual 69, 3) := by decide +kernel
theorem dX7_flux_27 : decode cX7_flux 27 = .ok (.checkcast 117, 3) := by decide +kernel
theorem dX7_flux_30 : decode cX7_flux 30 = .ok (.astore_n 3, 1) := by decide +kernel
theorem dX7_flux_31 : decode cX7_flux 31 = .ok (.aload_n 3, 1) := by decide +kernel
theorem dX7_flux_32 : decode cX7_flux 32 = .ok (.iload_n 2, 1) := by decide +kernel
theorem dX7_flux_33 : decode cX7_flux 33 = .ok (.putfield 123, 3) := by decide +kernel
theorem dX7_flux_36 : decode cX7_flux 36 = .ok (.aload_n 3, 1) := by decide +kernel
theorem dX7_flux_37 : decode cX7_flux 37 = .ok (.invokevirtual 126, 3) := by decide +kernel
theorem dX7_flux_40 : decode cX7_flux 40 = .ok (.ireturn, 1) := by decide +kernel
set_option maxRecDepth 20000 in
theorem ggX7_ofRing_Jx4a65c_size_8abf5 : GoodIn wsX7_ofRing wsJx4a65c_size_8abf5 := goodIn_r _ [9, 10, 58, 59, 60] (by decide +kernel) (by decide +kernel)
set_option maxRecDepth 20000 in
theorem gX7_ofRing_Jx4a65c_size_8abf5 : GoodIn wsX7_ofRing (wsV RX7 50 RJx4a65c yJx4a65c_size_8abf5 wsJx4a65c_size_8abf5) := goodIn_app (goodIn_of _ (by decide +kernel)) ggX7_ofRing_Jx4a65c_size_8abf5
set_option maxRecDepth 20000 in
theorem ggX7_ofRing_X7_refuseUnknown : GoodIn wsX7_ofRing wsX7_refuseUnknown := goodIn_ca (goodIn_r _ [14, 15, 16] (by decide +kernel) (by decide +kernel)) (goodIn_sub (fun _ h => List.mem_cons_of_mem _ (List.mem_append_left _ (List.mem_append_right _ h))) (by decide +kernel))
set_option maxRecDepth 20000 in
theorem gX7_ofRing_X7_refuseUnknown : GoodIn wsX7_ofRing (va_wsS RX7 66 yX7_refuseUnknown wsX7_refuseUnknown) := goodIn_app (goodIn_of _ (by decide +kernel)) ggX7_ofRing_X7_refuseUnknown
set_option maxRecDepth 20000 in
theorem ggX7_ofRing_X7_refuseOutside : GoodIn wsX7_ofRing wsX7_refuseOutside := goodIn_ca (goodIn_r _ [19, 20, 21] (by decide +kernel) (by decide +kernel)) (goodIn_sub (fun _ h => List.mem_cons_of_mem _ (List.mem_append_right _ h)) (by decide +kernel))
set_option maxRecDepth 20000 in
theorem gX7_ofRing_X7_refuseOutside : GoodIn wsX7_ofRing (va_wsS RX7 46 yX7_refuseOutside wsX7_refuseOutside) := goodIn_app (goodIn_of _ (by decide +kernel)) ggX7_ofRing_X7_refuseOutside
set_option maxRecDepth 20000 in
theorem ggX7_ofRing_Jx4a65c_get_915e3 : GoodIn wsX7_ofRing wsJx4a65c_get_915e3 := goodIn_r _ [25, 10, 26, 27, 28, 29, 30, 31, 32, 33, 34, 35, 36, 8, 37, 38, 58, 59, 60] (by decide +kernel) (by decide +kernel)
set_option maxRecDepth 20000 in
theorem gX7_ofRing_Jx4a65c_get_915e3 : GoodIn wsX7_ofRing (wsV RX7 69 RJx4a65c yJx4a65c_get_915e3 wsJx4a65c_get_915e3) := goodIn_app (goodIn_of _ (by decide +kernel)) ggX7_ofRing_Jx4a65c_get_915e3
set_option maxRecDepth 20000 in
theorem ggX7_ofRing_X5_currentWith : GoodIn wsX7_ofRing wsX5_currentWith := goodIn_r _ [43, 44, 45, 53, 54, 55, 56, 57] (by decide +kernel) (by decide +kernel)
set_option maxRecDepth 20000 in
theorem gX7_ofRing_X5_currentWith : GoodIn wsX7_ofRing (wsV RX7 135 RX5 yX5_currentWith wsX5_currentWith) := goodIn_app (goodIn_of _ (by decide +kernel)) ggX7_ofRing_X5_currentWith
theorem dX7_ofRing_0 : decode cX7_ofRing 0 = .ok (.iload_n 1, 1) := by decide +kernel
theorem dX7_ofRing_1 : decode cX7_ofRing 1 = .ok (.aload_n 0, 1) := by decide +kernel
theorem dX7_ofRing_2 : decode cX7_ofRing 2 = .ok (.getfield 23, 3) := by decide +kernel
theorem dX7_ofRing_5 : decode cX7_ofRing 5 = .ok (.invokevirtual 50, 3) := by decide +kernel
theorem dX7_ofRing_8 : decode cX7_ofRing 8 = .ok (.invokestatic 66, 3) := by decide +kernel
theorem dX7_ofRing_11 : decode cX7_ofRing 11 = .ok (.iload_n 2, 1) := by decide +kernel
theorem dX7_ofRing_12 : decode cX7_ofRing 12 = .ok (.iconst 0, 1) := by decide +kernel
theorem dX7_ofRing_13 : decode cX7_ofRing 13 = .ok (.iconst 2, 1) := by decide +kernel
theorem dX7_ofRing_14 : decode cX7_ofRing 14 = .ok (.invokestatic 46, 3) := by decide +kernel
theorem dX7_ofRing_17 : decode cX7_ofRing 17 = .ok (.aload_n 0, 1) := by decide +kernel
theorem dX7_ofRing_18 : decode cX7_ofRing 18 = .ok (.getfield 23, 3) := by decide +kernel
theorem dX7_ofRing_21 : decode cX7_ofRing 21 = .ok (.iload_n 1, 1) := by decide +kernel
theorem dX7_ofRing_22 : decode cX7_ofRing 22 = .ok (.invokevirtual 69, 3) := by decide +kernel
theorem dX7_ofRing_25 : decode cX7_ofRing 25 = .ok (.checkcast 117, 3) := by decide +kernel
theorem dX7_ofRing_28 : decode cX7_ofRing 28 = .ok (.astore_n 3, 1) := by decide +kernel
theorem dX7_ofRing_29 : decode cX7_ofRing 29 = .ok (.iload_n 2, 1) := by decide +kernel
theorem dX7_ofRing_30 : decode cX7_ofRing 30 = .ok (.lookupswitch 40 #[(0, 26), (1, 31)], 26) := by decide +kernel
theorem dX7_ofRing_56 : decode cX7_ofRing 56 = .ok (.aload_n 3, 1) := by decide +kernel
theorem dX7_ofRing_57 : decode cX7_ofRing 57 = .ok (.getfield 132, 3) := by decide +kernel
theorem dX7_ofRing_60 : decode cX7_ofRing 60 = .ok (.ireturn, 1) := by decide +kernel
theorem dX7_ofRing_61 : decode cX7_ofRing 61 = .ok (.aload_n 3, 1) := by decide +kernel
theorem dX7_ofRing_62 : decode cX7_ofRing 62 = .ok (.aload_n 3, 1) := by decide +kernel
theorem dX7_ofRing_63 : decode cX7_ofRing 63 = .ok (.getfield 132, 3) := by decide +kernel
theorem dX7_ofRing_66 : decode cX7_ofRing 66 = .ok (.invokevirtual 135, 3) := by decide +kernel
theorem dX7_ofRing_69 : decode cX7_ofRing 69 = .ok (.ireturn, 1) := by decide +kernel
theorem dX7_ofRing_70 : decode cX7_ofRing 70 = .ok (.aload_n 3, 1) := by decide +kernel
theorem dX7_ofRing_71 : decode cX7_ofRing 71 = .ok (.getfield 138, 3) := by decide +kernel
theorem dX7_ofRing_74 : decode cX7_ofRing 74 = .ok (.ireturn, 1) := by decide +kernel
set_option maxRecDepth 20000 in
theorem ggX7_current_X7_refuseOutside : GoodIn wsX7_current wsX7_refuseOutside := goodIn_ca (goodIn_r _ [8, 9, 10] (by decide +kernel) (by decide +kernel)) (goodIn_sub (fun _ h => List.mem_cons_of_mem _ (List.mem_append_right _ h)) (by decide +kernel))
set_option maxRecDepth 20000 in
theorem gX7_current_X7_refuseOutside : GoodIn wsX7_current (va_wsS RX7 46 yX7_refuseOutside wsX7_refuseOutside) := goodIn_app (goodIn_of _ (by decide +kernel)) ggX7_current_X7_refuseOutside
theorem dX7_current_0 : decode cX7_current 0 = .ok (.iload_n 1, 1) := by decide +kernel
theorem dX7_current_1 : decode cX7_current 1 = .ok (.iconst 0, 1) := by decide +kernel
theorem dX7_current_2 : decode cX7_current 2 = .ok (.sipush 1000, 3) := by decide +kernel
theorem dX7_current_5 : decode cX7_current 5 = .ok (.invokestatic 46, 3) := by decide +kernel
theorem dX7_current_8 : decode cX7_current 8 = .ok (.aload_n 0, 1) := by decide +kernel
theorem dX7_current_9 : decode cX7_current 9 = .ok (.getfield 29, 3) := by decide +kernel
theorem dX7_current_12 : decode cX7_current 12 = .ok (.getfield 141, 3) := by decide +kernel
theorem dX7_current_15 : decode cX7_current 15 = .ok (.istore_n 2, 1) := by decide +kernel
theorem dX7_current_16 : decode cX7_current 16 = .ok (.aload_n 0, 1) := by decide +kernel
theorem dX7_current_17 : decode cX7_current 17 = .ok (.getfield 29, 3) := by decide +kernel
theorem dX7_current_20 : decode cX7_current 20 = .ok (.iload_n 1, 1) := by decide +kernel
theorem dX7_current_21 : decode cX7_current 21 = .ok (.putfield 141, 3) := by decide +kernel
theorem dX7_current_24 : decode cX7_current 24 = .ok (.aload_n 0, 1) := by decide +kernel
theorem dX7_current_25 : decode cX7_current 25 = .ok (.getfield 29, 3) := by decide +kernel
theorem dX7_current_28 : decode cX7_current 28 = .ok (.iconst 0, 1) := by decide +kernel
theorem dX7_current_29 : decode cX7_current 29 = .ok (.putfield 144, 3) := by decide +kernel
theorem dX7_current_32 : decode cX7_current 32 = .ok (.aload_n 0, 1) := by decide +kernel
theorem dX7_current_33 : decode cX7_current 33 = .ok (.getfield 29, 3) := by decide +kernel
theorem dX7_current_36 : decode cX7_current 36 = .ok (.iconst 0, 1) := by decide +kernel
theorem dX7_current_37 : decode cX7_current 37 = .ok (.putfield 148, 3) := by decide +kernel
theorem dX7_current_40 : decode cX7_current 40 = .ok (.iload_n 2, 1) := by decide +kernel
theorem dX7_current_41 : decode cX7_current 41 = .ok (.ireturn, 1) := by decide +kernel
set_option maxRecDepth 20000 in
theorem ggX7_heat_X7_refuseUnknown : GoodIn wsX7_heat wsX7_refuseUnknown := goodIn_ca (goodIn_r _ [10, 11, 12] (by decide +kernel) (by decide +kernel)) (goodIn_sub (fun _ h => List.mem_cons_of_mem _ (List.mem_append_left _ (List.mem_append_right _ h))) (by decide +kernel))
set_option maxRecDepth 20000 in
theorem gX7_heat_X7_refuseUnknown : GoodIn wsX7_heat (va_wsS RX7 66 yX7_refuseUnknown wsX7_refuseUnknown) := goodIn_app (goodIn_of _ (by decide +kernel)) ggX7_heat_X7_refuseUnknown
set_option maxRecDepth 20000 in
theorem ggX7_heat_X7_refuseOutside : GoodIn wsX7_heat wsX7_refuseOutside := goodIn_ca (goodIn_r _ [15, 16, 17] (by decide +kernel) (by decide +kernel)) (goodIn_sub (fun _ h => List.mem_cons_of_mem _ (List.mem_append_right _ h)) (by decide +kernel))
set_option maxRecDepth 20000 in
theorem gX7_heat_X7_refuseOutside : GoodIn wsX7_heat (va_wsS RX7 46 yX7_refuseOutside wsX7_refuseOutside) := goodIn_app (goodIn_of _ (by decide +kernel)) ggX7_heat_X7_refuseOutside
theorem dX7_heat_0 : decode cX7_heat 0 = .ok (.iload_n 1, 1) := by decide +kernel
theorem dX7_heat_1 : decode cX7_heat 1 = .ok (.bipush 12, 2) := by decide +kernel
theorem dX7_heat_3 : decode cX7_heat 3 = .ok (.invokestatic 66, 3) := by decide +kernel
theorem dX7_heat_6 : decode cX7_heat 6 = .ok (.iload_n 2, 1) := by decide +kernel
theorem dX7_heat_7 : decode cX7_heat 7 = .ok (.iconst 1, 1) := by decide +kernel
theorem dX7_heat_8 : decode cX7_heat 8 = .ok (.sipush 500, 3) := by decide +kernel
theorem dX7_heat_11 : decode cX7_heat 11 = .ok (.invokestatic 46, 3) := by decide +kernel
theorem dX7_heat_14 : decode cX7_heat 14 = .ok (.aload_n 0, 1) := by decide +kernel
theorem dX7_heat_15 : decode cX7_heat 15 = .ok (.getfield 29, 3) := by decide +kernel
theorem dX7_heat_18 : decode cX7_heat 18 = .ok (.getfield 151, 3) := by decide +kernel
theorem dX7_heat_21 : decode cX7_heat 21 = .ok (.iload_n 1, 1) := by decide +kernel
theorem dX7_heat_22 : decode cX7_heat 22 = .ok (.sipush 1000, 3) := by decide +kernel
theorem dX7_heat_25 : decode cX7_heat 25 = .ok (.aload_n 0, 1) := by decide +kernel
theorem dX7_heat_26 : decode cX7_heat 26 = .ok (.getfield 29, 3) := by decide +kernel
theorem dX7_heat_29 : decode cX7_heat 29 = .ok (.getfield 151, 3) := by decide +kernel
theorem dX7_heat_32 : decode cX7_heat 32 = .ok (.iload_n 1, 1) := by decide +kernel
theorem dX7_heat_33 : decode cX7_heat 33 = .ok (.iaload, 1) := by decide +kernel
theorem dX7_heat_34 : decode cX7_heat 34 = .ok (.iload_n 2, 1) := by decide +kernel
theorem dX7_heat_35 : decode cX7_heat 35 = .ok (.iadd, 1) := by decide +kernel
theorem dX7_heat_36 : decode cX7_heat 36 = .ok (.invokestatic 154, 3) := by decide +kernel
theorem dX7_heat_39 : decode cX7_heat 39 = .ok (.iastore, 1) := by decide +kernel
theorem dX7_heat_40 : decode cX7_heat 40 = .ok (.aload_n 0, 1) := by decide +kernel
theorem dX7_heat_41 : decode cX7_heat 41 = .ok (.getfield 29, 3) := by decide +kernel
theorem dX7_heat_44 : decode cX7_heat 44 = .ok (.getfield 151, 3) := by decide +kernel
theorem dX7_heat_47 : decode cX7_heat 47 = .ok (.iload_n 1, 1) := by decide +kernel
theorem dX7_heat_48 : decode cX7_heat 48 = .ok (.iaload, 1) := by decide +kernel
theorem dX7_heat_49 : decode cX7_heat 49 = .ok (.ireturn, 1) := by decide +kernel
set_option maxRecDepth 20000 in
theorem ggX7_pass_X7_refuseOutside : GoodIn wsX7_pass wsX7_refuseOutside := goodIn_ca (goodIn_r _ [6, 7, 8] (by decide +kernel) (by decide +kernel)) (goodIn_sub (fun _ h => List.mem_cons_of_mem _ (List.mem_append_right _ h)) (by decide +kernel))
set_option maxRecDepth 20000 in
theorem gX7_pass_X7_refuseOutside : GoodIn wsX7_pass (va_wsS RX7 46 yX7_refuseOutside wsX7_refuseOutside) := goodIn_app (goodIn_of _ (by decide +kernel)) ggX7_pass_X7_refuseOutside
set_option maxRecDepth 20000 in
theorem ggX7_pass_X1_runPulse : GoodIn wsX7_pass wsX1_runPulse := goodIn_r _ [13, 14, 15, 16, 17, 12, 18, 19, 20, 21, 22, 23, 24, 25, 26, 27, 28, 29, 30, 31, 32, 33, 34, 35, 36, 37, 38, 39, 40, 41, 42, 43, 44, 45, 46, 47, 48, 49, 50, 51, 52, 53, 54, 55, 56, 57, 58, 59, 67, 68, 69, 70, 71, 72, 73] (by decide +kernel) (by decide +kernel)
set_option maxRecDepth 20000 in
theorem gX7_pass_X1_runPulse : GoodIn wsX7_pass (wsV RX7 159 RX1 yX1_runPulse wsX1_runPulse) := goodIn_app (goodIn_of _ (by decide +kernel)) ggX7_pass_X1_runPulse
theorem dX7_pass_0 : decode cX7_pass 0 = .ok (.iload_n 1, 1) := by decide +kernel
theorem dX7_pass_1 : decode cX7_pass 1 = .ok (.iconst 1, 1) := by decide +kernel
theorem dX7_pass_2 : decode cX7_pass 2 = .ok (.bipush 50, 2) := by decide +kernel
theorem dX7_pass_4 : decode cX7_pass 4 = .ok (.invokestatic 46, 3) := by decide +kernel
theorem dX7_pass_7 : decode cX7_pass 7 = .ok (.iconst 0, 1) := by decide +kernel
theorem dX7_pass_8 : decode cX7_pass 8 = .ok (.istore_n 2, 1) := by decide +kernel
theorem dX7_pass_9 : decode cX7_pass 9 = .ok (.iload_n 2, 1) := by decide +kernel
theorem dX7_pass_10 : decode cX7_pass 10 = .ok (.iload_n 1, 1) := by decide +kernel
theorem dX7_pass_11 : decode cX7_pass 11 = .ok (.if_icmp .ge 16, 3) := by decide +kernel
theorem dX7_pass_14 : decode cX7_pass 14 = .ok (.aload_n 0, 1) := by decide +kernel
theorem dX7_pass_15 : decode cX7_pass 15 = .ok (.getfield 29, 3) := by decide +kernel
theorem dX7_pass_18 : decode cX7_pass 18 = .ok (.invokevirtual 159, 3) := by decide +kernel
theorem dX7_pass_21 : decode cX7_pass 21 = .ok (.iinc 2 1, 3) := by decide +kernel
theorem dX7_pass_24 : decode cX7_pass 24 = .ok (.goto (-15), 3) := by decide +kernel
theorem dX7_pass_27 : decode cX7_pass 27 = .ok (.aload_n 0, 1) := by decide +kernel
theorem dX7_pass_28 : decode cX7_pass 28 = .ok (.getfield 29, 3) := by decide +kernel
theorem dX7_pass_31 : decode cX7_pass 31 = .ok (.getfield 141, 3) := by decide +kernel
theorem dX7_pass_34 : decode cX7_pass 34 = .ok (.ireturn, 1) := by decide +kernel
set_option maxRecDepth 20000 in
theorem ggX7_ofCoil_X7_refuseOutside : GoodIn wsX7_ofCoil wsX7_refuseOutside := goodIn_ca (goodIn_r _ [8, 9, 10] (by decide +kernel) (by decide +kernel)) (goodIn_sub (fun _ h => List.mem_cons_of_mem _ (List.mem_append_right _ h)) (by decide +kernel))
set_option maxRecDepth 20000 in
theorem gX7_ofCoil_X7_refuseOutside : GoodIn wsX7_ofCoil (va_wsS RX7 46 yX7_refuseOutside wsX7_refuseOutside) := goodIn_app (goodIn_of _ (by decide +kernel)) ggX7_ofCoil_X7_refuseOutside
set_option maxRecDepth 20000 in
theorem ggX7_ofCoil_X1_normalParts : GoodIn wsX7_ofCoil wsX1_normalParts := goodIn_r _ [15, 16, 17, 18, 19, 20, 21, 22, 23, 14, 24, 25, 43, 44, 45, 46, 47, 48, 49] (by decide +kernel) (by decide +kernel)
set_option maxRecDepth 20000 in
theorem gX7_ofCoil_X1_normalParts : GoodIn wsX7_ofCoil (wsV RX7 162 RX1 yX1_normalParts wsX1_normalParts) := goodIn_app (goodIn_of _ (by decide +kernel)) ggX7_ofCoil_X1_normalParts
set_option maxRecDepth 20000 in
theorem ggX7_ofCoil_X1_doubt : GoodIn wsX7_ofCoil wsX1_doubt := goodIn_r _ [29, 30, 12, 13, 14, 15, 16, 17, 18, 19, 20, 21, 22, 23, 24, 25, 43, 44, 45, 46, 47, 48, 49] (by decide +kernel) (by decide +kernel)
set_option maxRecDepth 20000 in
theorem gX7_ofCoil_X1_doubt : GoodIn wsX7_ofCoil (wsV RX7 165 RX1 yX1_doubt wsX1_doubt) := goodIn_app (goodIn_of _ (by decide +kernel)) ggX7_ofCoil_X1_doubt
set_option maxRecDepth 20000 in
theorem ggX7_ofCoil_X1_stored : GoodIn wsX7_ofCoil wsX1_stored := goodIn_r _ [34, 35, 25, 43, 44, 45, 46, 47, 48, 49] (by decide +kernel) (by decide +kernel)
set_option maxRecDepth 20000 in
theorem gX7_ofCoil_X1_stored : GoodIn wsX7_ofCoil (wsV RX7 175 RX1 yX1_stored wsX1_stored) := goodIn_app (goodIn_of _ (by decide +kernel)) ggX7_ofCoil_X1_stored
theorem dX7_ofCoil_0 : decode cX7_ofCoil 0 = .ok (.iload_n 1, 1) := by decide +kernel
theorem dX7_ofCoil_1 : decode cX7_ofCoil 1 = .ok (.iconst 0, 1) := by decide +kernel
theorem dX7_ofCoil_2 : decode cX7_ofCoil 2 = .ok (.iconst 5, 1) := by decide +kernel
theorem dX7_ofCoil_3 : decode cX7_ofCoil 3 = .ok (.invokestatic 46, 3) := by decide +kernel
theorem dX7_ofCoil_6 : decode cX7_ofCoil 6 = .ok (.iload_n 1, 1) := by decide +kernel
theorem dX7_ofCoil_7 : decode cX7_ofCoil 7 = .ok (.tableswitch 86 0 4 #[33, 45, 54, 70, 78], 33) := by decide +kernel
theorem dX7_ofCoil_40 : decode cX7_ofCoil 40 = .ok (.aload_n 0, 1) := by decide +kernel
theorem dX7_ofCoil_41 : decode cX7_ofCoil 41 = .ok (.getfield 29, 3) := by decide +kernel
theorem dX7_ofCoil_44 : decode cX7_ofCoil 44 = .ok (.iconst 0, 1) := by decide +kernel
theorem dX7_ofCoil_45 : decode cX7_ofCoil 45 = .ok (.bipush 12, 2) := by decide +kernel
theorem dX7_ofCoil_47 : decode cX7_ofCoil 47 = .ok (.invokevirtual 162, 3) := by decide +kernel
theorem dX7_ofCoil_50 : decode cX7_ofCoil 50 = .ok (.i2l, 1) := by decide +kernel
theorem dX7_ofCoil_51 : decode cX7_ofCoil 51 = .ok (.lreturn, 1) := by decide +kernel
theorem dX7_ofCoil_52 : decode cX7_ofCoil 52 = .ok (.aload_n 0, 1) := by decide +kernel
theorem dX7_ofCoil_53 : decode cX7_ofCoil 53 = .ok (.getfield 29, 3) := by decide +kernel
theorem dX7_ofCoil_56 : decode cX7_ofCoil 56 = .ok (.invokevirtual 165, 3) := by decide +kernel
theorem dX7_ofCoil_59 : decode cX7_ofCoil 59 = .ok (.i2l, 1) := by decide +kernel
theorem dX7_ofCoil_60 : decode cX7_ofCoil 60 = .ok (.lreturn, 1) := by decide +kernel
theorem dX7_ofCoil_61 : decode cX7_ofCoil 61 = .ok (.aload_n 0, 1) := by decide +kernel
theorem dX7_ofCoil_62 : decode cX7_ofCoil 62 = .ok (.getfield 29, 3) := by decide +kernel
theorem dX7_ofCoil_65 : decode cX7_ofCoil 65 = .ok (.getfield 144, 3) := by decide +kernel
theorem dX7_ofCoil_68 : decode cX7_ofCoil 68 = .ok (.ifCond .eq 7, 3) := by decide +kernel
theorem dX7_ofCoil_71 : decode cX7_ofCoil 71 = .ok (.lconst 1, 1) := by decide +kernel
theorem dX7_ofCoil_72 : decode cX7_ofCoil 72 = .ok (.goto 4, 3) := by decide +kernel
theorem dX7_ofCoil_75 : decode cX7_ofCoil 75 = .ok (.lconst 0, 1) := by decide +kernel
theorem dX7_ofCoil_76 : decode cX7_ofCoil 76 = .ok (.lreturn, 1) := by decide +kernel
theorem dX7_ofCoil_77 : decode cX7_ofCoil 77 = .ok (.aload_n 0, 1) := by decide +kernel
theorem dX7_ofCoil_78 : decode cX7_ofCoil 78 = .ok (.getfield 29, 3) := by decide +kernel
theorem dX7_ofCoil_81 : decode cX7_ofCoil 81 = .ok (.getfield 168, 3) := by decide +kernel
theorem dX7_ofCoil_84 : decode cX7_ofCoil 84 = .ok (.lreturn, 1) := by decide +kernel
theorem dX7_ofCoil_85 : decode cX7_ofCoil 85 = .ok (.aload_n 0, 1) := by decide +kernel
theorem dX7_ofCoil_86 : decode cX7_ofCoil 86 = .ok (.getfield 29, 3) := by decide +kernel
theorem dX7_ofCoil_89 : decode cX7_ofCoil 89 = .ok (.getfield 172, 3) := by decide +kernel
theorem dX7_ofCoil_92 : decode cX7_ofCoil 92 = .ok (.lreturn, 1) := by decide +kernel
theorem dX7_ofCoil_93 : decode cX7_ofCoil 93 = .ok (.aload_n 0, 1) := by decide +kernel
theorem dX7_ofCoil_94 : decode cX7_ofCoil 94 = .ok (.getfield 29, 3) := by decide +kernel
theorem dX7_ofCoil_97 : decode cX7_ofCoil 97 = .ok (.invokevirtual 175, 3) := by decide +kernel
theorem dX7_ofCoil_100 : decode cX7_ofCoil 100 = .ok (.lreturn, 1) := by decide +kernel
set_option maxRecDepth 20000 in
theorem ggX7_point_X7_refuseOutside : GoodIn wsX7_point wsX7_refuseOutside := goodIn_ca (goodIn_r _ [10, 11, 12] (by decide +kernel) (by decide +kernel)) (goodIn_sub (fun _ h => List.mem_cons_of_mem _ (List.mem_append_left _ (List.mem_append_right _ h))) (by decide +kernel))
set_option maxRecDepth 20000 in
theorem gX7_point_X7_refuseOutside : GoodIn wsX7_point (va_wsS RX7 46 yX7_refuseOutside wsX7_refuseOutside) := goodIn_app (goodIn_of _ (by decide +kernel)) ggX7_point_X7_refuseOutside
set_option maxRecDepth 20000 in
theorem ggX7_point_Jx4a65c_size_8abf5 : GoodIn wsX7_point wsJx4a65c_size_8abf5 := goodIn_r _ [17, 18, 97, 98, 99] (by decide +kernel) (by decide +kernel)
set_option maxRecDepth 20000 in
theorem gX7_point_Jx4a65c_size_8abf5 : GoodIn wsX7_point (wsV RX7 50 RJx4a65c yJx4a65c_size_8abf5 wsJx4a65c_size_8abf5) := goodIn_app (goodIn_of _ (by decide +kernel)) ggX7_point_Jx4a65c_size_8abf5
set_option maxRecDepth 20000 in
theorem ggX7_point_X7_refuseFull : GoodIn wsX7_point wsX7_refuseFull := goodIn_ca (goodIn_r _ [21, 22, 23] (by decide +kernel) (by decide +kernel)) (goodIn_sub (fun _ h => List.mem_cons_of_mem _ (List.mem_append_right _ h)) (by decide +kernel))
set_option maxRecDepth 20000 in
theorem gX7_point_X7_refuseFull : GoodIn wsX7_point (va_wsS RX7 54 yX7_refuseFull wsX7_refuseFull) := goodIn_app (goodIn_of _ (by decide +kernel)) ggX7_point_X7_refuseFull
set_option maxRecDepth 20000 in
theorem ggX7_point_X4_init : GoodIn wsX7_point wsX4_init := goodIn_r _ [26, 27, 28, 29, 30, 31, 32, 94, 95, 96] (by decide +kernel) (by decide +kernel)
set_option maxRecDepth 20000 in
theorem gX7_point_X4_init : GoodIn wsX7_point (wsX4_init) := ggX7_point_X4_init
set_option maxRecDepth 20000 in
theorem ggX7_point_Jx4a65c_add_9ea2d : GoodIn wsX7_point wsJx4a65c_add_9ea2d := goodIn_r _ [36, 37, 38, 39, 18, 40, 41, 42, 16, 43, 44, 45, 46, 47, 48, 49, 50, 51, 52, 53, 54, 55, 56, 57, 58, 59, 60, 61, 62, 63, 64, 65, 66, 67, 68, 69, 70, 71, 72, 73, 74, 75, 76, 77, 78, 79, 80, 81, 82, 83, 84, 85, 86, 97, 98, 99] (by decide +kernel) (by decide +kernel)
set_option maxRecDepth 20000 in
theorem gX7_point_Jx4a65c_add_9ea2d : GoodIn wsX7_point (wsV RX7 62 RJx4a65c yJx4a65c_add_9ea2d wsJx4a65c_add_9ea2d) := goodIn_app (goodIn_of _ (by decide +kernel)) ggX7_point_Jx4a65c_add_9ea2d
theorem dX7_point_0 : decode cX7_point 0 = .ok (.iload_n 1, 1) := by decide +kernel
theorem dX7_point_1 : decode cX7_point 1 = .ok (.iconst 0, 1) := by decide +kernel
theorem dX7_point_2 : decode cX7_point 2 = .ok (.sipush 300, 3) := by decide +kernel
theorem dX7_point_5 : decode cX7_point 5 = .ok (.invokestatic 46, 3) := by decide +kernel
theorem dX7_point_8 : decode cX7_point 8 = .ok (.iload_n 2, 1) := by decide +kernel
theorem dX7_point_9 : decode cX7_point 9 = .ok (.sipush (-1000), 3) := by decide +kernel
theorem dX7_point_12 : decode cX7_point 12 = .ok (.sipush 1000, 3) := by decide +kernel
theorem dX7_point_15 : decode cX7_point 15 = .ok (.invokestatic 46, 3) := by decide +kernel
theorem dX7_point_18 : decode cX7_point 18 = .ok (.iload_n 3, 1) := by decide +kernel
theorem dX7_point_19 : decode cX7_point 19 = .ok (.ldc 121, 2) := by decide +kernel
theorem dX7_point_21 : decode cX7_point 21 = .ok (.ldc 122, 2) := by decide +kernel
theorem dX7_point_23 : decode cX7_point 23 = .ok (.invokestatic 46, 3) := by decide +kernel
theorem dX7_point_26 : decode cX7_point 26 = .ok (.aload_n 0, 1) := by decide +kernel
theorem dX7_point_27 : decode cX7_point 27 = .ok (.getfield 40, 3) := by decide +kernel
theorem dX7_point_30 : decode cX7_point 30 = .ok (.invokevirtual 50, 3) := by decide +kernel
theorem dX7_point_33 : decode cX7_point 33 = .ok (.bipush 60, 2) := by decide +kernel
theorem dX7_point_35 : decode cX7_point 35 = .ok (.invokestatic 54, 3) := by decide +kernel
theorem dX7_point_38 : decode cX7_point 38 = .ok (.aload_n 0, 1) := by decide +kernel
theorem dX7_point_39 : decode cX7_point 39 = .ok (.getfield 40, 3) := by decide +kernel
theorem dX7_point_42 : decode cX7_point 42 = .ok (.new 191, 3) := by decide +kernel
theorem dX7_point_45 : decode cX7_point 45 = .ok (.dup, 1) := by decide +kernel
theorem dX7_point_46 : decode cX7_point 46 = .ok (.iload_n 1, 1) := by decide +kernel
theorem dX7_point_47 : decode cX7_point 47 = .ok (.iload_n 2, 1) := by decide +kernel
theorem dX7_point_48 : decode cX7_point 48 = .ok (.iload_n 3, 1) := by decide +kernel
theorem dX7_point_49 : decode cX7_point 49 = .ok (.invokespecial 193, 3) := by decide +kernel
theorem dX7_point_52 : decode cX7_point 52 = .ok (.invokevirtual 62, 3) := by decide +kernel
theorem dX7_point_55 : decode cX7_point 55 = .ok (.pop, 1) := by decide +kernel
theorem dX7_point_56 : decode cX7_point 56 = .ok (.aload_n 0, 1) := by decide +kernel
theorem dX7_point_57 : decode cX7_point 57 = .ok (.getfield 40, 3) := by decide +kernel
theorem dX7_point_60 : decode cX7_point 60 = .ok (.invokevirtual 50, 3) := by decide +kernel
theorem dX7_point_63 : decode cX7_point 63 = .ok (.ireturn, 1) := by decide +kernel
set_option maxRecDepth 20000 in
theorem ggX7_claim_Jx4a65c_size_8abf5 : GoodIn wsX7_claim wsJx4a65c_size_8abf5 := goodIn_r _ [10, 11, 106, 107, 108] (by decide +kernel) (by decide +kernel)
set_option maxRecDepth 20000 in
theorem gX7_claim_Jx4a65c_size_8abf5 : GoodIn wsX7_claim (wsV RX7 50 RJx4a65c yJx4a65c_size_8abf5 wsJx4a65c_size_8abf5) := goodIn_app (goodIn_of _ (by decide +kernel)) ggX7_claim_Jx4a65c_size_8abf5
set_option maxRecDepth 20000 in
theorem ggX7_claim_X7_refuseUnknown : GoodIn wsX7_claim wsX7_refuseUnknown := goodIn_ca (goodIn_r _ [15, 16, 17] (by decide +kernel) (by decide +kernel)) (goodIn_sub (fun _ h => List.mem_cons_of_mem _ (List.mem_append_left _ (List.mem_append_left _ (List.mem_append_right _ h)))) (by decide +kernel))
set_option maxRecDepth 20000 in
theorem gX7_claim_X7_refuseUnknown : GoodIn wsX7_claim (va_wsS RX7 66 yX7_refuseUnknown wsX7_refuseUnknown) := goodIn_app (goodIn_of _ (by decide +kernel)) ggX7_claim_X7_refuseUnknown
set_option maxRecDepth 20000 in
theorem ggX7_claim_X7_refuseOutside : GoodIn wsX7_claim wsX7_refuseOutside := goodIn_ca (goodIn_r _ [20, 21, 22] (by decide +kernel) (by decide +kernel)) (goodIn_sub (fun _ h => List.mem_cons_of_mem _ (List.mem_append_left _ (List.mem_append_right _ h))) (by decide +kernel))
set_option maxRecDepth 20000 in
theorem gX7_claim_X7_refuseOutside : GoodIn wsX7_claim (va_wsS RX7 46 yX7_refuseOutside wsX7_refuseOutside) := goodIn_app (goodIn_of _ (by decide +kernel)) ggX7_claim_X7_refuseOutside
set_option maxRecDepth 20000 in
theorem ggX7_claim_X7_refuseFull : GoodIn wsX7_claim wsX7_refuseFull := goodIn_ca (goodIn_r _ [25, 26, 27] (by decide +kernel) (by decide +kernel)) (goodIn_sub (fun _ h => List.mem_cons_of_mem _ (List.mem_append_right _ h)) (by decide +kernel))
set_option maxRecDepth 20000 in
theorem gX7_claim_X7_refuseFull : GoodIn wsX7_claim (va_wsS RX7 54 yX7_refuseFull wsX7_refuseFull) := goodIn_app (goodIn_of _ (by decide +kernel)) ggX7_claim_X7_refuseFull
set_option maxRecDepth 20000 in
theorem ggX7_claim_X0_init : GoodIn wsX7_claim wsX0_init := goodIn_r _ [30, 31, 32, 33, 34, 35, 36, 37, 38, 39, 101, 102, 103, 104, 105] (by decide +kernel) (by decide +kernel)
set_option maxRecDepth 20000 in
theorem gX7_claim_X0_init : GoodIn wsX7_claim (wsX0_init) := ggX7_claim_X0_init
set_option maxRecDepth 20000 in
theorem ggX7_claim_Jx4a65c_add_9ea2d : GoodIn wsX7_claim wsJx4a65c_add_9ea2d := goodIn_r _ [43, 44, 45, 46, 11, 47, 48, 49, 9, 50, 51, 52, 53, 54, 55, 56, 57, 58, 59, 60, 61, 62, 63, 64, 65, 66, 67, 68, 69, 70, 71, 72, 73, 74, 75, 76, 77, 78, 79, 80, 81, 82, 83, 84, 85, 86, 87, 88, 89, 90, 91, 92, 93, 106, 107, 108] (by decide +kernel) (by decide +kernel)
set_option maxRecDepth 20000 in
theorem gX7_claim_Jx4a65c_add_9ea2d : GoodIn wsX7_claim (wsV RX7 62 RJx4a65c yJx4a65c_add_9ea2d wsJx4a65c_add_9ea2d) := goodIn_app (goodIn_of _ (by decide +kernel)) ggX7_claim_Jx4a65c_add_9ea2d
theorem dX7_claim_0 : decode cX7_claim 0 = .ok (.iload_n 2, 1) := by decide +kernel
theorem dX7_claim_1 : decode cX7_claim 1 = .ok (.aload_n 0, 1) := by decide +kernel
theorem dX7_claim_2 : decode cX7_claim 2 = .ok (.getfield 40, 3) := by decide +kernel
theorem dX7_claim_5 : decode cX7_claim 5 = .ok (.invokevirtual 50, 3) := by decide +kernel
theorem dX7_claim_8 : decode cX7_claim 8 = .ok (.invokestatic 66, 3) := by decide +kernel
theorem dX7_claim_11 : decode cX7_claim 11 = .ok (.iload_n 3, 1) := by decide +kernel
theorem dX7_claim_12 : decode cX7_claim 12 = .ok (.aload_n 0, 1) := by decide +kernel
theorem dX7_claim_13 : decode cX7_claim 13 = .ok (.getfield 40, 3) := by decide +kernel
theorem dX7_claim_16 : decode cX7_claim 16 = .ok (.invokevirtual 50, 3) := by decide +kernel
theorem dX7_claim_19 : decode cX7_claim 19 = .ok (.invokestatic 66, 3) := by decide +kernel
theorem dX7_claim_22 : decode cX7_claim 22 = .ok (.iload_n 1, 1) := by decide +kernel
theorem dX7_claim_23 : decode cX7_claim 23 = .ok (.iconst 1, 1) := by decide +kernel
theorem dX7_claim_24 : decode cX7_claim 24 = .ok (.sipush 300, 3) := by decide +kernel
theorem dX7_claim_27 : decode cX7_claim 27 = .ok (.invokestatic 46, 3) := by decide +kernel
theorem dX7_claim_30 : decode cX7_claim 30 = .ok (.iload_n 3, 1) := by decide +kernel
theorem dX7_claim_31 : decode cX7_claim 31 = .ok (.iload_n 2, 1) := by decide +kernel
theorem dX7_claim_32 : decode cX7_claim 32 = .ok (.aload_n 0, 1) := by decide +kernel
theorem dX7_claim_33 : decode cX7_claim 33 = .ok (.getfield 40, 3) := by decide +kernel
theorem dX7_claim_36 : decode cX7_claim 36 = .ok (.invokevirtual 50, 3) := by decide +kernel
theorem dX7_claim_39 : decode cX7_claim 39 = .ok (.iconst 1, 1) := by decide +kernel
theorem dX7_claim_40 : decode cX7_claim 40 = .ok (.isub, 1) := by decide +kernel
theorem dX7_claim_41 : decode cX7_claim 41 = .ok (.invokestatic 46, 3) := by decide +kernel
theorem dX7_claim_44 : decode cX7_claim 44 = .ok (.aload_n 0, 1) := by decide +kernel
theorem dX7_claim_45 : decode cX7_claim 45 = .ok (.getfield 43, 3) := by decide +kernel
theorem dX7_claim_48 : decode cX7_claim 48 = .ok (.invokevirtual 50, 3) := by decide +kernel
theorem dX7_claim_51 : decode cX7_claim 51 = .ok (.bipush 8, 2) := by decide +kernel
theorem dX7_claim_53 : decode cX7_claim 53 = .ok (.invokestatic 54, 3) := by decide +kernel
theorem dX7_claim_56 : decode cX7_claim 56 = .ok (.aload_n 0, 1) := by decide +kernel
theorem dX7_claim_57 : decode cX7_claim 57 = .ok (.getfield 43, 3) := by decide +kernel
theorem dX7_claim_60 : decode cX7_claim 60 = .ok (.new 194, 3) := by decide +kernel
theorem dX7_claim_63 : decode cX7_claim 63 = .ok (.dup, 1) := by decide +kernel
theorem dX7_claim_64 : decode cX7_claim 64 = .ok (.iload_n 1, 1) := by decide +kernel
theorem dX7_claim_65 : decode cX7_claim 65 = .ok (.iload_n 2, 1) := by decide +kernel
theorem dX7_claim_66 : decode cX7_claim 66 = .ok (.iload_n 3, 1) := by decide +kernel
theorem dX7_claim_67 : decode cX7_claim 67 = .ok (.aload_n 0, 1) := by decide +kernel
theorem dX7_claim_68 : decode cX7_claim 68 = .ok (.getfield 40, 3) := by decide +kernel
theorem dX7_claim_71 : decode cX7_claim 71 = .ok (.invokevirtual 50, 3) := by decide +kernel
theorem dX7_claim_74 : decode cX7_claim 74 = .ok (.invokespecial 196, 3) := by decide +kernel
theorem dX7_claim_77 : decode cX7_claim 77 = .ok (.invokevirtual 62, 3) := by decide +kernel
theorem dX7_claim_80 : decode cX7_claim 80 = .ok (.pop, 1) := by decide +kernel
theorem dX7_claim_81 : decode cX7_claim 81 = .ok (.aload_n 0, 1) := by decide +kernel
theorem dX7_claim_82 : decode cX7_claim 82 = .ok (.getfield 43, 3) := by decide +kernel
theorem dX7_claim_85 : decode cX7_claim 85 = .ok (.invokevirtual 50, 3) := by decide +kernel
theorem dX7_claim_88 : decode cX7_claim 88 = .ok (.iconst 1, 1) := by decide +kernel
theorem dX7_claim_89 : decode cX7_claim 89 = .ok (.isub, 1) := by decide +kernel
theorem dX7_claim_90 : decode cX7_claim 90 = .ok (.ireturn, 1) := by decide +kernel
set_option maxRecDepth 20000 in
theorem ggX7_repeats_Jx4a65c_size_8abf5 : GoodIn wsX7_repeats wsJx4a65c_size_8abf5 := goodIn_r _ [8, 9, 51, 52, 53] (by decide +kernel) (by decide +kernel)
set_option maxRecDepth 20000 in
theorem gX7_repeats_Jx4a65c_size_8abf5 : GoodIn wsX7_repeats (wsV RX7 50 RJx4a65c yJx4a65c_size_8abf5 wsJx4a65c_size_8abf5) := goodIn_app (goodIn_of _ (by decide +kernel)) ggX7_repeats_Jx4a65c_size_8abf5
set_option maxRecDepth 20000 in
theorem ggX7_repeats_X7_refuseUnknown : GoodIn wsX7_repeats wsX7_refuseUnknown := goodIn_ca (goodIn_r _ [13, 14, 15] (by decide +kernel) (by decide +kernel)) (goodIn_sub (fun _ h => List.mem_cons_of_mem _ (List.mem_append_right _ h)) (by decide +kernel))
set_option maxRecDepth 20000 in
theorem gX7_repeats_X7_refuseUnknown : GoodIn wsX7_repeats (va_wsS RX7 66 yX7_refuseUnknown wsX7_refuseUnknown) := goodIn_app (goodIn_of _ (by decide +kernel)) ggX7_repeats_X7_refuseUnknown
set_option maxRecDepth 20000 in
theorem ggX7_repeats_Jx4a65c_get_915e3 : GoodIn wsX7_repeats wsJx4a65c_get_915e3 := goodIn_r _ [19, 9, 20, 21, 22, 23, 24, 25, 26, 27, 28, 29, 30, 7, 31, 32, 51, 52, 53] (by decide +kernel) (by decide +kernel)
set_option maxRecDepth 20000 in
theorem gX7_repeats_Jx4a65c_get_915e3 : GoodIn wsX7_repeats (wsV RX7 69 RJx4a65c yJx4a65c_get_915e3 wsJx4a65c_get_915e3) := goodIn_app (goodIn_of _ (by decide +kernel)) ggX7_repeats_Jx4a65c_get_915e3
set_option maxRecDepth 20000 in
theorem ggX7_repeats_X0_housesThat : GoodIn wsX7_repeats wsX0_housesThat := goodIn_r _ [37, 38, 46, 47, 48, 49, 50] (by decide +kernel) (by decide +kernel)
set_option maxRecDepth 20000 in
theorem gX7_repeats_X0_housesThat : GoodIn wsX7_repeats (wsV RX7 202 RX0 yX0_housesThat wsX0_housesThat) := goodIn_app (goodIn_of _ (by decide +kernel)) ggX7_repeats_X0_housesThat
theorem dX7_repeats_0 : decode cX7_repeats 0 = .ok (.iload_n 1, 1) := by decide +kernel
theorem dX7_repeats_1 : decode cX7_repeats 1 = .ok (.aload_n 0, 1) := by decide +kernel
theorem dX7_repeats_2 : decode cX7_repeats 2 = .ok (.getfield 43, 3) := by decide +kernel
theorem dX7_repeats_5 : decode cX7_repeats 5 = .ok (.invokevirtual 50, 3) := by decide +kernel
theorem dX7_repeats_8 : decode cX7_repeats 8 = .ok (.invokestatic 66, 3) := by decide +kernel
theorem dX7_repeats_11 : decode cX7_repeats 11 = .ok (.iload_n 2, 1) := by decide +kernel
theorem dX7_repeats_12 : decode cX7_repeats 12 = .ok (.bipush 7, 2) := by decide +kernel
theorem dX7_repeats_14 : decode cX7_repeats 14 = .ok (.invokestatic 66, 3) := by decide +kernel
theorem dX7_repeats_17 : decode cX7_repeats 17 = .ok (.aload_n 0, 1) := by decide +kernel
theorem dX7_repeats_18 : decode cX7_repeats 18 = .ok (.getfield 43, 3) := by decide +kernel
theorem dX7_repeats_21 : decode cX7_repeats 21 = .ok (.iload_n 1, 1) := by decide +kernel
theorem dX7_repeats_22 : decode cX7_repeats 22 = .ok (.invokevirtual 69, 3) := by decide +kernel
theorem dX7_repeats_25 : decode cX7_repeats 25 = .ok (.checkcast 194, 3) := by decide +kernel
theorem dX7_repeats_28 : decode cX7_repeats 28 = .ok (.astore 4, 2) := by decide +kernel
theorem dX7_repeats_30 : decode cX7_repeats 30 = .ok (.aload 4, 2) := by decide +kernel
theorem dX7_repeats_32 : decode cX7_repeats 32 = .ok (.getfield 199, 3) := by decide +kernel
theorem dX7_repeats_35 : decode cX7_repeats 35 = .ok (.iload_n 2, 1) := by decide +kernel
theorem dX7_repeats_36 : decode cX7_repeats 36 = .ok (.iload_n 3, 1) := by decide +kernel
theorem dX7_repeats_37 : decode cX7_repeats 37 = .ok (.ifCond .eq 7, 3) := by decide +kernel
theorem dX7_repeats_40 : decode cX7_repeats 40 = .ok (.iconst 1, 1) := by decide +kernel
theorem dX7_repeats_41 : decode cX7_repeats 41 = .ok (.goto 4, 3) := by decide +kernel
theorem dX7_repeats_44 : decode cX7_repeats 44 = .ok (.iconst 2, 1) := by decide +kernel
theorem dX7_repeats_45 : decode cX7_repeats 45 = .ok (.iastore, 1) := by decide +kernel
theorem dX7_repeats_46 : decode cX7_repeats 46 = .ok (.aload 4, 2) := by decide +kernel
theorem dX7_repeats_48 : decode cX7_repeats 48 = .ok (.iconst 1, 1) := by decide +kernel
theorem dX7_repeats_49 : decode cX7_repeats 49 = .ok (.invokevirtual 202, 3) := by decide +kernel
theorem dX7_repeats_52 : decode cX7_repeats 52 = .ok (.ireturn, 1) := by decide +kernel
set_option maxRecDepth 20000 in
theorem ggX7_judge_Jx4a65c_size_8abf5 : GoodIn wsX7_judge wsJx4a65c_size_8abf5 := goodIn_r _ [9, 10, 80, 81, 82] (by decide +kernel) (by decide +kernel)
set_option maxRecDepth 20000 in
theorem gX7_judge_Jx4a65c_size_8abf5 : GoodIn wsX7_judge (wsV RX7 50 RJx4a65c yJx4a65c_size_8abf5 wsJx4a65c_size_8abf5) := goodIn_app (goodIn_of _ (by decide +kernel)) ggX7_judge_Jx4a65c_size_8abf5
set_option maxRecDepth 20000 in
theorem ggX7_judge_X7_refuseUnknown : GoodIn wsX7_judge wsX7_refuseUnknown := goodIn_ca (goodIn_r _ [14, 15, 16] (by decide +kernel) (by decide +kernel)) (goodIn_sub (fun _ h => List.mem_cons_of_mem _ (List.mem_append_left _ (List.mem_append_right _ h))) (by decide +kernel))
set_option maxRecDepth 20000 in
theorem gX7_judge_X7_refuseUnknown : GoodIn wsX7_judge (va_wsS RX7 66 yX7_refuseUnknown wsX7_refuseUnknown) := goodIn_app (goodIn_of _ (by decide +kernel)) ggX7_judge_X7_refuseUnknown
set_option maxRecDepth 20000 in
theorem ggX7_judge_X7_refuseOutside : GoodIn wsX7_judge wsX7_refuseOutside := goodIn_ca (goodIn_r _ [19, 20, 21] (by decide +kernel) (by decide +kernel)) (goodIn_sub (fun _ h => List.mem_cons_of_mem _ (List.mem_append_right _ h)) (by decide +kernel))
set_option maxRecDepth 20000 in
theorem gX7_judge_X7_refuseOutside : GoodIn wsX7_judge (va_wsS RX7 46 yX7_refuseOutside wsX7_refuseOutside) := goodIn_app (goodIn_of _ (by decide +kernel)) ggX7_judge_X7_refuseOutside
set_option maxRecDepth 20000 in
theorem ggX7_judge_Jx4a65c_get_915e3 : GoodIn wsX7_judge wsJx4a65c_get_915e3 := goodIn_r _ [25, 10, 26, 27, 28, 29, 30, 31, 32, 33, 34, 35, 36, 8, 37, 38, 80, 81, 82] (by decide +kernel) (by decide +kernel)
set_option maxRecDepth 20000 in
theorem gX7_judge_Jx4a65c_get_915e3 : GoodIn wsX7_judge (wsV RX7 69 RJx4a65c yJx4a65c_get_915e3 wsJx4a65c_get_915e3) := goodIn_app (goodIn_of _ (by decide +kernel)) ggX7_judge_Jx4a65c_get_915e3
set_option maxRecDepth 20000 in
theorem ggX7_judge_X0_verdict : GoodIn wsX7_judge wsX0_verdict := goodIn_r _ [43, 44, 45, 46, 47, 48, 49, 42, 50, 51, 52, 53, 54, 55, 56, 57, 58, 59, 6, 7, 8, 9, 10, 60, 23, 24, 25, 26, 27, 28, 29, 30, 31, 32, 33, 34, 35, 36, 37, 38, 61, 62, 63, 64, 65, 66, 67, 68, 69, 70, 71, 72, 83, 84, 85, 86, 87, 88, 89, 90, 80, 81, 82] (by decide +kernel) (by decide +kernel)
set_option maxRecDepth 20000 in
theorem gX7_judge_X0_verdict : GoodIn wsX7_judge (wsV RX7 205 RX0 yX0_verdict wsX0_verdict) := goodIn_app (goodIn_of _ (by decide +kernel)) ggX7_judge_X0_verdict
theorem dX7_judge_0 : decode cX7_judge 0 = .ok (.iload_n 1, 1) := by decide +kernel
theorem dX7_judge_1 : decode cX7_judge 1 = .ok (.aload_n 0, 1) := by decide +kernel
theorem dX7_judge_2 : decode cX7_judge 2 = .ok (.getfield 43, 3) := by decide +kernel
theorem dX7_judge_5 : decode cX7_judge 5 = .ok (.invokevirtual 50, 3) := by decide +kernel
theorem dX7_judge_8 : decode cX7_judge 8 = .ok (.invokestatic 66, 3) := by decide +kernel
theorem dX7_judge_11 : decode cX7_judge 11 = .ok (.iload_n 2, 1) := by decide +kernel
theorem dX7_judge_12 : decode cX7_judge 12 = .ok (.iconst 0, 1) := by decide +kernel
theorem dX7_judge_13 : decode cX7_judge 13 = .ok (.ldc 122, 2) := by decide +kernel
theorem dX7_judge_15 : decode cX7_judge 15 = .ok (.invokestatic 46, 3) := by decide +kernel
theorem dX7_judge_18 : decode cX7_judge 18 = .ok (.aload_n 0, 1) := by decide +kernel
theorem dX7_judge_19 : decode cX7_judge 19 = .ok (.getfield 43, 3) := by decide +kernel
theorem dX7_judge_22 : decode cX7_judge 22 = .ok (.iload_n 1, 1) := by decide +kernel
theorem dX7_judge_23 : decode cX7_judge 23 = .ok (.invokevirtual 69, 3) := by decide +kernel
theorem dX7_judge_26 : decode cX7_judge 26 = .ok (.checkcast 194, 3) := by decide +kernel
theorem dX7_judge_29 : decode cX7_judge 29 = .ok (.aload_n 0, 1) := by decide +kernel
theorem dX7_judge_30 : decode cX7_judge 30 = .ok (.getfield 40, 3) := by decide +kernel
theorem dX7_judge_33 : decode cX7_judge 33 = .ok (.iload_n 2, 1) := by decide +kernel
theorem dX7_judge_34 : decode cX7_judge 34 = .ok (.invokevirtual 205, 3) := by decide +kernel
theorem dX7_judge_37 : decode cX7_judge 37 = .ok (.ireturn, 1) := by decide +kernel
theorem dX7_refuseOutside_0 : decode cX7_refuseOutside 0 = .ok (.iload_n 0, 1) := by decide +kernel
theorem dX7_refuseOutside_1 : decode cX7_refuseOutside 1 = .ok (.iload_n 1, 1) := by decide +kernel
theorem dX7_refuseOutside_2 : decode cX7_refuseOutside 2 = .ok (.if_icmp .lt 8, 3) := by decide +kernel
theorem dX7_refuseOutside_5 : decode cX7_refuseOutside 5 = .ok (.iload_n 0, 1) := by decide +kernel
theorem dX7_refuseOutside_6 : decode cX7_refuseOutside 6 = .ok (.iload_n 2, 1) := by decide +kernel
theorem dX7_refuseOutside_7 : decode cX7_refuseOutside 7 = .ok (.if_icmp .le 13, 3) := by decide +kernel
theorem dX7_refuseOutside_10 : decode cX7_refuseOutside 10 = .ok (.new 209, 3) := by decide +kernel
theorem dX7_refuseOutside_13 : decode cX7_refuseOutside 13 = .ok (.dup, 1) := by decide +kernel
theorem dX7_refuseOutside_14 : decode cX7_refuseOutside 14 = .ok (.ldc 211, 2) := by decide +kernel
theorem dX7_refuseOutside_16 : decode cX7_refuseOutside 16 = .ok (.invokespecial 213, 3) := by decide +kernel
theorem dX7_refuseOutside_19 : decode cX7_refuseOutside 19 = .ok (.athrow, 1) := by decide +kernel
theorem dX7_refuseOutside_20 : decode cX7_refuseOutside 20 = .ok (.return_, 1) := by decide +kernel
theorem dX7_refuseUnknown_0 : decode cX7_refuseUnknown 0 = .ok (.iload_n 0, 1) := by decide +kernel
theorem dX7_refuseUnknown_1 : decode cX7_refuseUnknown 1 = .ok (.ifCond .lt 8, 3) := by decide +kernel
theorem dX7_refuseUnknown_4 : decode cX7_refuseUnknown 4 = .ok (.iload_n 0, 1) := by decide +kernel
theorem dX7_refuseUnknown_5 : decode cX7_refuseUnknown 5 = .ok (.iload_n 1, 1) := by decide +kernel
theorem dX7_refuseUnknown_6 : decode cX7_refuseUnknown 6 = .ok (.if_icmp .lt 13, 3) := by decide +kernel
theorem dX7_refuseUnknown_9 : decode cX7_refuseUnknown 9 = .ok (.new 216, 3) := by decide +kernel
theorem dX7_refuseUnknown_12 : decode cX7_refuseUnknown 12 = .ok (.dup, 1) := by decide +kernel
theorem dX7_refuseUnknown_13 : decode cX7_refuseUnknown 13 = .ok (.ldc 218, 2) := by decide +kernel
theorem dX7_refuseUnknown_15 : decode cX7_refuseUnknown 15 = .ok (.invokespecial 220, 3) := by decide +kernel
theorem dX7_refuseUnknown_18 : decode cX7_refuseUnknown 18 = .ok (.athrow, 1) := by decide +kernel
theorem dX7_refuseUnknown_19 : decode cX7_refuseUnknown 19 = .ok (.return_, 1) := by decide +kernel
theorem dX7_refuseFull_0 : decode cX7_refuseFull 0 = .ok (.iload_n 0, 1) := by decide +kernel
theorem dX7_refuseFull_1 : decode cX7_refuseFull 1 = .ok (.iload_n 1, 1) := by decide +kernel
theorem dX7_refuseFull_2 : decode cX7_refuseFull 2 = .ok (.if_icmp .lt 13, 3) := by decide +kernel
theorem dX7_refuseFull_5 : decode cX7_refuseFull 5 = .ok (.new 221, 3) := by decide +kernel
theorem dX7_refuseFull_8 : decode cX7_refuseFull 8 = .ok (.dup, 1) := by decide +kernel
theorem dX7_refuseFull_9 : decode cX7_refuseFull 9 = .ok (.ldc 223, 2) := by decide +kernel
theorem dX7_refuseFull_11 : decode cX7_refuseFull 11 = .ok (.invokespecial 225, 3) := by decide +kernel
theorem dX7_refuseFull_14 : decode cX7_refuseFull 14 = .ok (.athrow, 1) := by decide +kernel
theorem dX7_refuseFull_15 : decode cX7_refuseFull 15 = .ok (.return_, 1) := by decide +kernel
theorem dJ9_abs_0f7a4_0 : decode cJ9_abs_0f7a4 0 = .ok (.iload_n 0, 1) := by decide +kernel
theorem dJ9_abs_0f7a4_1 : decode cJ9_abs_0f7a4 1 = .ok (.ifCond .ge 8, 3) := by decide +kernel
theorem dJ9_abs_0f7a4_4 : decode cJ9_abs_0f7a4 4 = .ok (.iload_n 0, 1) := by decide +kernel
theorem dJ9_abs_0f7a4_5 : decode cJ9_abs_0f7a4 5 = .ok (.ineg, 1) := by decide +kernel
theorem dJ9_abs_0f7a4_6 : decode cJ9_abs_0f7a4 6 = .ok (.goto 4, 3) := by decide +kernel
theorem dJ9_abs_0f7a4_9 : decode cJ9_abs_0f7a4 9 = .ok (.iload_n 0, 1) := by decide +kernel
theorem dJ9_abs_0f7a4_10 : decode cJ9_abs_0f7a4 10 = .ok (.ireturn, 1) := by decide +kernel
theorem dJ9_max_7cf53_0 : decode cJ9_max_7cf53 0 = .ok (.iload_n 0, 1) := by decide +kernel
theorem dJ9_max_7cf53_1 : decode cJ9_max_7cf53 1 = .ok (.iload_n 1, 1) := by decide +kernel
theorem dJ9_max_7cf53_2 : decode cJ9_max_7cf53 2 = .ok (.if_icmp .lt 7, 3) := by decide +kernel
theorem dJ9_max_7cf53_5 : decode cJ9_max_7cf53 5 = .ok (.iload_n 0, 1) := by decide +kernel
theorem dJ9_max_7cf53_6 : decode cJ9_max_7cf53 6 = .ok (.goto 4, 3) := by decide +kernel
theorem dJ9_max_7cf53_9 : decode cJ9_max_7cf53 9 = .ok (.iload_n 1, 1) := by decide +kernel
theorem dJ9_max_7cf53_10 : decode cJ9_max_7cf53 10 = .ok (.ireturn, 1) := by decide +kernel
theorem dJ9_min_7cf53_0 : decode cJ9_min_7cf53 0 = .ok (.iload_n 0, 1) := by decide +kernel
theorem dJ9_min_7cf53_1 : decode cJ9_min_7cf53 1 = .ok (.iload_n 1, 1) := by decide +kernel
theorem dJ9_min_7cf53_2 : decode cJ9_min_7cf53 2 = .ok (.if_icmp .gt 7, 3) := by decide +kernel
theorem dJ9_min_7cf53_5 : decode cJ9_min_7cf53 5 = .ok (.iload_n 0, 1) := by decide +kernel
theorem dJ9_min_7cf53_6 : decode cJ9_min_7cf53 6 = .ok (.goto 4, 3) := by decide +kernel
theorem dJ9_min_7cf53_9 : decode cJ9_min_7cf53 9 = .ok (.iload_n 1, 1) := by decide +kernel
theorem dJ9_min_7cf53_10 : decode cJ9_min_7cf53 10 = .ok (.ireturn, 1) := by decide +kernel
theorem dJxa1e45_init_da8c8_0 : decode cJxa1e45_init_da8c8 0 = .ok (.aload_n 0, 1) := by decide +kernel
theorem dJxa1e45_init_da8c8_1 : decode cJxa1e45_init_da8c8 1 = .ok (.invokespecial 1, 3) := by decide +kernel
theorem dJxa1e45_init_da8c8_4 : decode cJxa1e45_init_da8c8 4 = .ok (.return_, 1) := by decide +kernel
set_option maxRecDepth 20000 in
theorem ggJxc12de_init_da8c8_Jxa1e45_init_da8c8 : GoodIn wsJxc12de_init_da8c8 wsJxa1e45_init_da8c8 := goodIn_r _ [5, 6, 7, 8] (by decide +kernel) (by decide +kernel)
set_option maxRecDepth 20000 in
theorem gJxc12de_init_da8c8_Jxa1e45_init_da8c8 : GoodIn wsJxc12de_init_da8c8 (wsJxa1e45_init_da8c8) := ggJxc12de_init_da8c8_Jxa1e45_init_da8c8
theorem dJxc12de_init_da8c8_0 : decode cJxc12de_init_da8c8 0 = .ok (.aload_n 0, 1) := by decide +kernel
theorem dJxc12de_init_da8c8_1 : decode cJxc12de_init_da8c8 1 = .ok (.invokespecial 1, 3) := by decide +kernel
theorem dJxc12de_init_da8c8_4 : decode cJxc12de_init_da8c8 4 = .ok (.aload_n 0, 1) := by decide +kernel
theorem dJxc12de_init_da8c8_5 : decode cJxc12de_init_da8c8 5 = .ok (.iconst 0, 1) := by decide +kernel
theorem dJxc12de_init_da8c8_6 : decode cJxc12de_init_da8c8 6 = .ok (.putfield 7, 3) := by decide +kernel
theorem dJxc12de_init_da8c8_9 : decode cJxc12de_init_da8c8 9 = .ok (.return_, 1) := by decide +kernel
set_option maxRecDepth 20000 in
theorem ggJx4a65c_init_da8c8_Jxc12de_init_da8c8 : GoodIn wsJx4a65c_init_da8c8 wsJxc12de_init_da8c8 := goodIn_r _ [6, 7, 8, 9, 10, 11, 12, 13, 14, 15, 16, 17] (by decide +kernel) (by decide +kernel)
set_option maxRecDepth 20000 in
theorem gJx4a65c_init_da8c8_Jxc12de_init_da8c8 : GoodIn wsJx4a65c_init_da8c8 (wsJxc12de_init_da8c8) := ggJx4a65c_init_da8c8_Jxc12de_init_da8c8
theorem dJx4a65c_init_da8c8_0 : decode cJx4a65c_init_da8c8 0 = .ok (.aload_n 0, 1) := by decide +kernel
theorem dJx4a65c_init_da8c8_1 : decode cJx4a65c_init_da8c8 1 = .ok (.invokespecial 1, 3) := by decide +kernel
theorem dJx4a65c_init_da8c8_4 : decode cJx4a65c_init_da8c8 4 = .ok (.aload_n 0, 1) := by decide +kernel
theorem dJx4a65c_init_da8c8_5 : decode cJx4a65c_init_da8c8 5 = .ok (.getstatic 39, 3) := by decide +kernel
theorem dJx4a65c_init_da8c8_8 : decode cJx4a65c_init_da8c8 8 = .ok (.putfield 9, 3) := by decide +kernel
theorem dJx4a65c_init_da8c8_11 : decode cJx4a65c_init_da8c8 11 = .ok (.return_, 1) := by decide +kernel
set_option maxRecDepth 20000 in
theorem ggJx4a65c_grow_92f84_J8_newLength_cabcc : GoodIn wsJx4a65c_grow_92f84 wsJ8_newLength_cabcc := goodIn_r _ [11, 12, 4, 5, 6, 13, 14, 15, 10, 16] (by decide +kernel) (by decide +kernel)
set_option maxRecDepth 20000 in
theorem gJx4a65c_grow_92f84_J8_newLength_cabcc : GoodIn wsJx4a65c_grow_92f84 (va_wsS RJx4a65c 73 yJ8_newLength_cabcc wsJ8_newLength_cabcc) := goodIn_app (goodIn_of _ (by decide +kernel)) ggJx4a65c_grow_92f84_J8_newLength_cabcc
set_option maxRecDepth 20000 in
theorem ggJx4a65c_grow_92f84_J7_copyOf_1904c : GoodIn wsJx4a65c_grow_92f84 wsJ7_copyOf_1904c := goodIn_r _ [20, 21, 22, 23, 24, 25, 26, 19, 27, 28, 29, 30, 31, 5, 32, 33, 34, 35, 36] (by decide +kernel) (by decide +kernel)
set_option maxRecDepth 20000 in
theorem gJx4a65c_grow_92f84_J7_copyOf_1904c : GoodIn wsJx4a65c_grow_92f84 (va_wsS RJx4a65c 66 yJ7_copyOf_1904c wsJ7_copyOf_1904c) := goodIn_app (goodIn_of _ (by decide +kernel)) ggJx4a65c_grow_92f84_J7_copyOf_1904c
theorem dJx4a65c_grow_92f84_0 : decode cJx4a65c_grow_92f84 0 = .ok (.aload_n 0, 1) := by decide +kernel
theorem dJx4a65c_grow_92f84_1 : decode cJx4a65c_grow_92f84 1 = .ok (.getfield 9, 3) := by decide +kernel
theorem dJx4a65c_grow_92f84_4 : decode cJx4a65c_grow_92f84 4 = .ok (.arraylength, 1) := by decide +kernel
theorem dJx4a65c_grow_92f84_5 : decode cJx4a65c_grow_92f84 5 = .ok (.istore_n 2, 1) := by decide +kernel
theorem dJx4a65c_grow_92f84_6 : decode cJx4a65c_grow_92f84 6 = .ok (.iload_n 2, 1) := by decide +kernel
theorem dJx4a65c_grow_92f84_7 : decode cJx4a65c_grow_92f84 7 = .ok (.ifCond .gt 13, 3) := by decide +kernel
theorem dJx4a65c_grow_92f84_10 : decode cJx4a65c_grow_92f84 10 = .ok (.aload_n 0, 1) := by decide +kernel
theorem dJx4a65c_grow_92f84_11 : decode cJx4a65c_grow_92f84 11 = .ok (.getfield 9, 3) := by decide +kernel
theorem dJx4a65c_grow_92f84_14 : decode cJx4a65c_grow_92f84 14 = .ok (.getstatic 39, 3) := by decide +kernel
theorem dJx4a65c_grow_92f84_17 : decode cJx4a65c_grow_92f84 17 = .ok (.if_acmp .eq 28, 3) := by decide +kernel
theorem dJx4a65c_grow_92f84_20 : decode cJx4a65c_grow_92f84 20 = .ok (.iload_n 2, 1) := by decide +kernel
theorem dJx4a65c_grow_92f84_21 : decode cJx4a65c_grow_92f84 21 = .ok (.iload_n 1, 1) := by decide +kernel
theorem dJx4a65c_grow_92f84_22 : decode cJx4a65c_grow_92f84 22 = .ok (.iload_n 2, 1) := by decide +kernel
theorem dJx4a65c_grow_92f84_23 : decode cJx4a65c_grow_92f84 23 = .ok (.isub, 1) := by decide +kernel
theorem dJx4a65c_grow_92f84_24 : decode cJx4a65c_grow_92f84 24 = .ok (.iload_n 2, 1) := by decide +kernel
theorem dJx4a65c_grow_92f84_25 : decode cJx4a65c_grow_92f84 25 = .ok (.iconst 1, 1) := by decide +kernel
theorem dJx4a65c_grow_92f84_26 : decode cJx4a65c_grow_92f84 26 = .ok (.ishr, 1) := by decide +kernel
theorem dJx4a65c_grow_92f84_27 : decode cJx4a65c_grow_92f84 27 = .ok (.invokestatic 73, 3) := by decide +kernel
theorem dJx4a65c_grow_92f84_30 : decode cJx4a65c_grow_92f84 30 = .ok (.istore_n 3, 1) := by decide +kernel
theorem dJx4a65c_grow_92f84_31 : decode cJx4a65c_grow_92f84 31 = .ok (.aload_n 0, 1) := by decide +kernel
theorem dJx4a65c_grow_92f84_32 : decode cJx4a65c_grow_92f84 32 = .ok (.aload_n 0, 1) := by decide +kernel
theorem dJx4a65c_grow_92f84_33 : decode cJx4a65c_grow_92f84 33 = .ok (.getfield 9, 3) := by decide +kernel
theorem dJx4a65c_grow_92f84_36 : decode cJx4a65c_grow_92f84 36 = .ok (.iload_n 3, 1) := by decide +kernel
theorem dJx4a65c_grow_92f84_37 : decode cJx4a65c_grow_92f84 37 = .ok (.invokestatic 66, 3) := by decide +kernel
theorem dJx4a65c_grow_92f84_40 : decode cJx4a65c_grow_92f84 40 = .ok (.dup_x1, 1) := by decide +kernel
theorem dJx4a65c_grow_92f84_41 : decode cJx4a65c_grow_92f84 41 = .ok (.putfield 9, 3) := by decide +kernel
theorem dJx4a65c_grow_92f84_44 : decode cJx4a65c_grow_92f84 44 = .ok (.areturn, 1) := by decide +kernel
theorem dJx4a65c_grow_92f84_45 : decode cJx4a65c_grow_92f84 45 = .ok (.aload_n 0, 1) := by decide +kernel
theorem dJx4a65c_grow_92f84_46 : decode cJx4a65c_grow_92f84 46 = .ok (.bipush 10, 2) := by decide +kernel
theorem dJx4a65c_grow_92f84_48 : decode cJx4a65c_grow_92f84 48 = .ok (.iload_n 1, 1) := by decide +kernel
theorem dJx4a65c_grow_92f84_49 : decode cJx4a65c_grow_92f84 49 = .ok (.invokestatic 79, 3) := by decide +kernel
theorem dJx4a65c_grow_92f84_52 : decode cJx4a65c_grow_92f84 52 = .ok (.anewarray 7, 3) := by decide +kernel
theorem dJx4a65c_grow_92f84_55 : decode cJx4a65c_grow_92f84 55 = .ok (.dup_x1, 1) := by decide +kernel
theorem dJx4a65c_grow_92f84_56 : decode cJx4a65c_grow_92f84 56 = .ok (.putfield 9, 3) := by decide +kernel
theorem dJx4a65c_grow_92f84_59 : decode cJx4a65c_grow_92f84 59 = .ok (.areturn, 1) := by decide +kernel
set_option maxRecDepth 20000 in
theorem ggJx4a65c_grow_d5877_Jx4a65c_grow_92f84 : GoodIn wsJx4a65c_grow_d5877 wsJx4a65c_grow_92f84 := goodIn_r _ [6, 7, 8, 9, 10, 11, 12, 13, 14, 15, 16, 17, 18, 19, 20, 21, 22, 23, 24, 25, 26, 27, 28, 29, 30, 31, 32, 33, 34, 35, 36, 37, 38, 39, 40, 41, 42, 43, 44, 45] (by decide +kernel) (by decide +kernel)
set_option maxRecDepth 20000 in
theorem gJx4a65c_grow_d5877_Jx4a65c_grow_92f84 : GoodIn wsJx4a65c_grow_d5877 (wsV RJx4a65c 69 RJx4a65c yJx4a65c_grow_92f84 wsJx4a65c_grow_92f84) := goodIn_app (goodIn_of _ (by decide +kernel)) ggJx4a65c_grow_d5877_Jx4a65c_grow_92f84
theorem dJx4a65c_grow_d5877_0 : decode cJx4a65c_grow_d5877 0 = .ok (.aload_n 0, 1) := by decide +kernel
theorem dJx4a65c_grow_d5877_1 : decode cJx4a65c_grow_d5877 1 = .ok (.aload_n 0, 1) := by decide +kernel
theorem dJx4a65c_grow_d5877_2 : decode cJx4a65c_grow_d5877 2 = .ok (.getfield 48, 3) := by decide +kernel
theorem dJx4a65c_grow_d5877_5 : decode cJx4a65c_grow_d5877 5 = .ok (.iconst 1, 1) := by decide +kernel
theorem dJx4a65c_grow_d5877_6 : decode cJx4a65c_grow_d5877 6 = .ok (.iadd, 1) := by decide +kernel
theorem dJx4a65c_grow_d5877_7 : decode cJx4a65c_grow_d5877 7 = .ok (.invokevirtual 69, 3) := by decide +kernel
theorem dJx4a65c_grow_d5877_10 : decode cJx4a65c_grow_d5877 10 = .ok (.areturn, 1) := by decide +kernel
theorem dJx4a65c_size_8abf5_0 : decode cJx4a65c_size_8abf5 0 = .ok (.aload_n 0, 1) := by decide +kernel
theorem dJx4a65c_size_8abf5_1 : decode cJx4a65c_size_8abf5 1 = .ok (.getfield 48, 3) := by decide +kernel
theorem dJx4a65c_size_8abf5_4 : decode cJx4a65c_size_8abf5 4 = .ok (.ireturn, 1) := by decide +kernel
theorem dJx4a65c_elementData_915e3_0 : decode cJx4a65c_elementData_915e3 0 = .ok (.aload_n 0, 1) := by decide +kernel
theorem dJx4a65c_elementData_915e3_1 : decode cJx4a65c_elementData_915e3 1 = .ok (.getfield 9, 3) := by decide +kernel
theorem dJx4a65c_elementData_915e3_4 : decode cJx4a65c_elementData_915e3 4 = .ok (.iload_n 1, 1) := by decide +kernel
theorem dJx4a65c_elementData_915e3_5 : decode cJx4a65c_elementData_915e3 5 = .ok (.aaload, 1) := by decide +kernel
theorem dJx4a65c_elementData_915e3_6 : decode cJx4a65c_elementData_915e3 6 = .ok (.areturn, 1) := by decide +kernel
set_option maxRecDepth 20000 in
theorem ggJx4a65c_get_915e3_J15_checkIndex_7cf53 : GoodIn wsJx4a65c_get_915e3 wsJ15_checkIndex_7cf53 := goodIn_r _ [5, 6, 7, 8, 9] (by decide +kernel) (by decide +kernel)
set_option maxRecDepth 20000 in
theorem gJx4a65c_get_915e3_J15_checkIndex_7cf53 : GoodIn wsJx4a65c_get_915e3 (va_wsS RJx4a65c 118 yJ15_checkIndex_7cf53 wsJ15_checkIndex_7cf53) := goodIn_app (goodIn_of _ (by decide +kernel)) ggJx4a65c_get_915e3_J15_checkIndex_7cf53
set_option maxRecDepth 20000 in
theorem ggJx4a65c_get_915e3_Jx4a65c_elementData_915e3 : GoodIn wsJx4a65c_get_915e3 wsJx4a65c_elementData_915e3 := goodIn_r _ [14, 15, 16, 17, 18] (by decide +kernel) (by decide +kernel)
set_option maxRecDepth 20000 in
theorem gJx4a65c_get_915e3_Jx4a65c_elementData_915e3 : GoodIn wsJx4a65c_get_915e3 (wsV RJx4a65c 123 RJx4a65c yJx4a65c_elementData_915e3 wsJx4a65c_elementData_915e3) := goodIn_app (goodIn_of _ (by decide +kernel)) ggJx4a65c_get_915e3_Jx4a65c_elementData_915e3
theorem dJx4a65c_get_915e3_0 : decode cJx4a65c_get_915e3 0 = .ok (.iload_n 1, 1) := by decide +kernel
theorem dJx4a65c_get_915e3_1 : decode cJx4a65c_get_915e3 1 = .ok (.aload_n 0, 1) := by decide +kernel
theorem dJx4a65c_get_915e3_2 : decode cJx4a65c_get_915e3 2 = .ok (.getfield 48, 3) := by decide +kernel
theorem dJx4a65c_get_915e3_5 : decode cJx4a65c_get_915e3 5 = .ok (.invokestatic 118, 3) := by decide +kernel
theorem dJx4a65c_get_915e3_8 : decode cJx4a65c_get_915e3 8 = .ok (.pop, 1) := by decide +kernel
theorem dJx4a65c_get_915e3_9 : decode cJx4a65c_get_915e3 9 = .ok (.aload_n 0, 1) := by decide +kernel
theorem dJx4a65c_get_915e3_10 : decode cJx4a65c_get_915e3 10 = .ok (.iload_n 1, 1) := by decide +kernel
theorem dJx4a65c_get_915e3_11 : decode cJx4a65c_get_915e3 11 = .ok (.invokevirtual 123, 3) := by decide +kernel
theorem dJx4a65c_get_915e3_14 : decode cJx4a65c_get_915e3 14 = .ok (.areturn, 1) := by decide +kernel
set_option maxRecDepth 20000 in
theorem ggJx4a65c_add_72be8_Jx4a65c_grow_d5877 : GoodIn wsJx4a65c_add_72be8 wsJx4a65c_grow_d5877 := goodIn_r _ [6, 1, 7, 8, 9, 5, 10, 11, 12, 13, 14, 15, 16, 17, 18, 19, 20, 21, 22, 23, 24, 25, 26, 27, 28, 29, 30, 31, 32, 33, 34, 35, 36, 37, 38, 39, 40, 41, 42, 43, 44, 45, 46, 47, 48, 49] (by decide +kernel) (by decide +kernel)
set_option maxRecDepth 20000 in
theorem gJx4a65c_add_72be8_Jx4a65c_grow_d5877 : GoodIn wsJx4a65c_add_72be8 (wsV RJx4a65c 129 RJx4a65c yJx4a65c_grow_d5877 wsJx4a65c_grow_d5877) := goodIn_app (goodIn_of _ (by decide +kernel)) ggJx4a65c_add_72be8_Jx4a65c_grow_d5877
theorem dJx4a65c_add_72be8_0 : decode cJx4a65c_add_72be8 0 = .ok (.iload_n 3, 1) := by decide +kernel
theorem dJx4a65c_add_72be8_1 : decode cJx4a65c_add_72be8 1 = .ok (.aload_n 2, 1) := by decide +kernel
theorem dJx4a65c_add_72be8_2 : decode cJx4a65c_add_72be8 2 = .ok (.arraylength, 1) := by decide +kernel
theorem dJx4a65c_add_72be8_3 : decode cJx4a65c_add_72be8 3 = .ok (.if_icmp .ne 8, 3) := by decide +kernel
theorem dJx4a65c_add_72be8_6 : decode cJx4a65c_add_72be8 6 = .ok (.aload_n 0, 1) := by decide +kernel
theorem dJx4a65c_add_72be8_7 : decode cJx4a65c_add_72be8 7 = .ok (.invokevirtual 129, 3) := by decide +kernel
theorem dJx4a65c_add_72be8_10 : decode cJx4a65c_add_72be8 10 = .ok (.astore_n 2, 1) := by decide +kernel
theorem dJx4a65c_add_72be8_11 : decode cJx4a65c_add_72be8 11 = .ok (.aload_n 2, 1) := by decide +kernel
theorem dJx4a65c_add_72be8_12 : decode cJx4a65c_add_72be8 12 = .ok (.iload_n 3, 1) := by decide +kernel
theorem dJx4a65c_add_72be8_13 : decode cJx4a65c_add_72be8 13 = .ok (.aload_n 1, 1) := by decide +kernel
theorem dJx4a65c_add_72be8_14 : decode cJx4a65c_add_72be8 14 = .ok (.aastore, 1) := by decide +kernel
theorem dJx4a65c_add_72be8_15 : decode cJx4a65c_add_72be8 15 = .ok (.aload_n 0, 1) := by decide +kernel
