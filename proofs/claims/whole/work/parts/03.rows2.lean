theorem dX7_share_33 : decode cX7_share 33 = .ok (.l2d, 1) := by decide +kernel
theorem dX7_share_34 : decode cX7_share 34 = .ok (.lload_n 1, 1) := by decide +kernel
theorem dX7_share_35 : decode cX7_share 35 = .ok (.l2d, 1) := by decide +kernel
theorem dX7_share_36 : decode cX7_share 36 = .ok (.ddiv, 1) := by decide +kernel
theorem dX7_share_37 : decode cX7_share 37 = .ok (.dreturn, 1) := by decide +kernel
set_option maxRecDepth 20000 in
theorem ggX7_margins_X7_refuseOutside : GoodIn wsX7_margins wsX7_refuseOutside := goodIn_ca (goodIn_r _ [7, 8, 9] (by decide +kernel) (by decide +kernel)) (goodIn_sub (fun _ h => List.mem_cons_of_mem _ (List.mem_append_right _ h)) (by decide +kernel))
set_option maxRecDepth 20000 in
theorem gX7_margins_X7_refuseOutside : GoodIn wsX7_margins (va_wsS RX7 46 yX7_refuseOutside wsX7_refuseOutside) := goodIn_app (goodIn_of _ (by decide +kernel)) ggX7_margins_X7_refuseOutside
theorem dX7_margins_0 : decode cX7_margins 0 = .ok (.iload_n 1, 1) := by decide +kernel
theorem dX7_margins_1 : decode cX7_margins 1 = .ok (.iconst 0, 1) := by decide +kernel
theorem dX7_margins_2 : decode cX7_margins 2 = .ok (.sipush 1000, 3) := by decide +kernel
theorem dX7_margins_5 : decode cX7_margins 5 = .ok (.invokestatic 46, 3) := by decide +kernel
theorem dX7_margins_8 : decode cX7_margins 8 = .ok (.iload_n 2, 1) := by decide +kernel
theorem dX7_margins_9 : decode cX7_margins 9 = .ok (.iload_n 1, 1) := by decide +kernel
theorem dX7_margins_10 : decode cX7_margins 10 = .ok (.sipush 1000, 3) := by decide +kernel
theorem dX7_margins_13 : decode cX7_margins 13 = .ok (.invokestatic 46, 3) := by decide +kernel
theorem dX7_margins_16 : decode cX7_margins 16 = .ok (.aload_n 0, 1) := by decide +kernel
theorem dX7_margins_17 : decode cX7_margins 17 = .ok (.getfield 36, 3) := by decide +kernel
theorem dX7_margins_20 : decode cX7_margins 20 = .ok (.iload_n 1, 1) := by decide +kernel
theorem dX7_margins_21 : decode cX7_margins 21 = .ok (.putfield 179, 3) := by decide +kernel
theorem dX7_margins_24 : decode cX7_margins 24 = .ok (.aload_n 0, 1) := by decide +kernel
theorem dX7_margins_25 : decode cX7_margins 25 = .ok (.getfield 36, 3) := by decide +kernel
theorem dX7_margins_28 : decode cX7_margins 28 = .ok (.iload_n 2, 1) := by decide +kernel
theorem dX7_margins_29 : decode cX7_margins 29 = .ok (.putfield 182, 3) := by decide +kernel
theorem dX7_margins_32 : decode cX7_margins 32 = .ok (.return_, 1) := by decide +kernel
set_option maxRecDepth 20000 in
theorem ggX7_pulse_X7_refuseOutside : GoodIn wsX7_pulse wsX7_refuseOutside := goodIn_ca (goodIn_r _ [5, 6, 7] (by decide +kernel) (by decide +kernel)) (goodIn_sub (fun _ h => List.mem_cons_of_mem _ (List.mem_append_right _ h)) (by decide +kernel))
set_option maxRecDepth 20000 in
theorem gX7_pulse_X7_refuseOutside : GoodIn wsX7_pulse (va_wsS RX7 46 yX7_refuseOutside wsX7_refuseOutside) := goodIn_app (goodIn_of _ (by decide +kernel)) ggX7_pulse_X7_refuseOutside
set_option maxRecDepth 20000 in
theorem ggX7_pulse_X2_take : GoodIn wsX7_pulse wsX2_take := goodIn_r _ [12, 13, 14, 15, 16, 24, 25, 26] (by decide +kernel) (by decide +kernel)
set_option maxRecDepth 20000 in
theorem gX7_pulse_X2_take : GoodIn wsX7_pulse (wsV RX7 185 RX2 yX2_take wsX2_take) := goodIn_app (goodIn_of _ (by decide +kernel)) ggX7_pulse_X2_take
theorem dX7_pulse_0 : decode cX7_pulse 0 = .ok (.iload_n 1, 1) := by decide +kernel
theorem dX7_pulse_1 : decode cX7_pulse 1 = .ok (.iconst 1, 1) := by decide +kernel
theorem dX7_pulse_2 : decode cX7_pulse 2 = .ok (.sipush 1000, 3) := by decide +kernel
theorem dX7_pulse_5 : decode cX7_pulse 5 = .ok (.invokestatic 46, 3) := by decide +kernel
theorem dX7_pulse_8 : decode cX7_pulse 8 = .ok (.iload_n 2, 1) := by decide +kernel
theorem dX7_pulse_9 : decode cX7_pulse 9 = .ok (.iconst 0, 1) := by decide +kernel
theorem dX7_pulse_10 : decode cX7_pulse 10 = .ok (.sipush 1000, 3) := by decide +kernel
theorem dX7_pulse_13 : decode cX7_pulse 13 = .ok (.invokestatic 46, 3) := by decide +kernel
theorem dX7_pulse_16 : decode cX7_pulse 16 = .ok (.aload_n 0, 1) := by decide +kernel
theorem dX7_pulse_17 : decode cX7_pulse 17 = .ok (.getfield 36, 3) := by decide +kernel
theorem dX7_pulse_20 : decode cX7_pulse 20 = .ok (.iload_n 1, 1) := by decide +kernel
theorem dX7_pulse_21 : decode cX7_pulse 21 = .ok (.iload_n 2, 1) := by decide +kernel
theorem dX7_pulse_22 : decode cX7_pulse 22 = .ok (.invokevirtual 185, 3) := by decide +kernel
theorem dX7_pulse_25 : decode cX7_pulse 25 = .ok (.ireturn, 1) := by decide +kernel
set_option maxRecDepth 20000 in
theorem ggX7_bit_X7_refuseUnknown : GoodIn wsX7_bit wsX7_refuseUnknown := goodIn_ca (goodIn_r _ [6, 7, 8] (by decide +kernel) (by decide +kernel)) (goodIn_sub (fun _ h => List.mem_cons_of_mem _ (List.mem_append_right _ h)) (by decide +kernel))
set_option maxRecDepth 20000 in
theorem gX7_bit_X7_refuseUnknown : GoodIn wsX7_bit (va_wsS RX7 66 yX7_refuseUnknown wsX7_refuseUnknown) := goodIn_app (goodIn_of _ (by decide +kernel)) ggX7_bit_X7_refuseUnknown
theorem dX7_bit_0 : decode cX7_bit 0 = .ok (.iload_n 1, 1) := by decide +kernel
theorem dX7_bit_1 : decode cX7_bit 1 = .ok (.bipush 16, 2) := by decide +kernel
theorem dX7_bit_3 : decode cX7_bit 3 = .ok (.invokestatic 66, 3) := by decide +kernel
theorem dX7_bit_6 : decode cX7_bit 6 = .ok (.aload_n 0, 1) := by decide +kernel
theorem dX7_bit_7 : decode cX7_bit 7 = .ok (.getfield 36, 3) := by decide +kernel
theorem dX7_bit_10 : decode cX7_bit 10 = .ok (.getfield 188, 3) := by decide +kernel
theorem dX7_bit_13 : decode cX7_bit 13 = .ok (.iload_n 1, 1) := by decide +kernel
theorem dX7_bit_14 : decode cX7_bit 14 = .ok (.ishr, 1) := by decide +kernel
theorem dX7_bit_15 : decode cX7_bit 15 = .ok (.iconst 1, 1) := by decide +kernel
theorem dX7_bit_16 : decode cX7_bit 16 = .ok (.iand, 1) := by decide +kernel
theorem dX7_bit_17 : decode cX7_bit 17 = .ok (.ireturn, 1) := by decide +kernel
set_option maxRecDepth 20000 in
theorem ggX7_point_X7_refuseOutside : GoodIn wsX7_point wsX7_refuseOutside := goodIn_ca (goodIn_r _ [10, 11, 12] (by decide +kernel) (by decide +kernel)) (goodIn_sub (fun _ h => List.mem_cons_of_mem _ (List.mem_append_left _ (List.mem_append_right _ h))) (by decide +kernel))
set_option maxRecDepth 20000 in
theorem gX7_point_X7_refuseOutside : GoodIn wsX7_point (va_wsS RX7 46 yX7_refuseOutside wsX7_refuseOutside) := goodIn_app (goodIn_of _ (by decide +kernel)) ggX7_point_X7_refuseOutside
set_option maxRecDepth 20000 in
theorem ggX7_point_Jx4a65c_size_8abf5 : GoodIn wsX7_point wsJx4a65c_size_8abf5 := goodIn_r _ [17, 18, 97, 98, 99] (by decide +kernel) (by decide +kernel)
set_option maxRecDepth 20000 in
theorem gX7_point_Jx4a65c_size_8abf5 : GoodIn wsX7_point (wsV RX7 50 RJx4a65c yJx4a65c_size_8abf5 wsJx4a65c_size_8abf5) := goodIn_app (goodIn_of _ (by decide +kernel)) ggX7_point_Jx4a65c_size_8abf5
set_option maxRecDepth 20000 in
theorem ggX7_point_X7_refuseFull : GoodIn wsX7_point wsX7_refuseFull := goodIn_ca (goodIn_r _ [21, 22, 23] (by decide +kernel) (by decide +kernel)) (goodIn_sub (fun _ h => List.mem_cons_of_mem _ (List.mem_append_right _ h)) (by decide +kernel))
set_option maxRecDepth 20000 in
theorem gX7_point_X7_refuseFull : GoodIn wsX7_point (va_wsS RX7 54 yX7_refuseFull wsX7_refuseFull) := goodIn_app (goodIn_of _ (by decide +kernel)) ggX7_point_X7_refuseFull
set_option maxRecDepth 20000 in
theorem ggX7_point_X4_init : GoodIn wsX7_point wsX4_init := goodIn_r _ [26, 27, 28, 29, 30, 31, 32, 94, 95, 96] (by decide +kernel) (by decide +kernel)
set_option maxRecDepth 20000 in
theorem gX7_point_X4_init : GoodIn wsX7_point (wsX4_init) := ggX7_point_X4_init
set_option maxRecDepth 20000 in
theorem ggX7_point_Jx4a65c_add_9ea2d : GoodIn wsX7_point wsJx4a65c_add_9ea2d := goodIn_r _ [36, 37, 38, 39, 18, 40, 41, 42, 16, 43, 44, 45, 46, 47, 48, 49, 50, 51, 52, 53, 54, 55, 56, 57, 58, 59, 60, 61, 62, 63, 64, 65, 66, 67, 68, 69, 70, 71, 72, 73, 74, 75, 76, 77, 78, 79, 80, 81, 82, 83, 84, 85, 86, 97, 98, 99] (by decide +kernel) (by decide +kernel)
set_option maxRecDepth 20000 in
theorem gX7_point_Jx4a65c_add_9ea2d : GoodIn wsX7_point (wsV RX7 62 RJx4a65c yJx4a65c_add_9ea2d wsJx4a65c_add_9ea2d) := goodIn_app (goodIn_of _ (by decide +kernel)) ggX7_point_Jx4a65c_add_9ea2d
theorem dX7_point_0 : decode cX7_point 0 = .ok (.iload_n 1, 1) := by decide +kernel
theorem dX7_point_1 : decode cX7_point 1 = .ok (.iconst 0, 1) := by decide +kernel
theorem dX7_point_2 : decode cX7_point 2 = .ok (.sipush 300, 3) := by decide +kernel
theorem dX7_point_5 : decode cX7_point 5 = .ok (.invokestatic 46, 3) := by decide +kernel
theorem dX7_point_8 : decode cX7_point 8 = .ok (.iload_n 2, 1) := by decide +kernel
theorem dX7_point_9 : decode cX7_point 9 = .ok (.sipush (-1000), 3) := by decide +kernel
theorem dX7_point_12 : decode cX7_point 12 = .ok (.sipush 1000, 3) := by decide +kernel
theorem dX7_point_15 : decode cX7_point 15 = .ok (.invokestatic 46, 3) := by decide +kernel
theorem dX7_point_18 : decode cX7_point 18 = .ok (.iload_n 3, 1) := by decide +kernel
theorem dX7_point_19 : decode cX7_point 19 = .ok (.ldc 121, 2) := by decide +kernel
theorem dX7_point_21 : decode cX7_point 21 = .ok (.ldc 122, 2) := by decide +kernel
theorem dX7_point_23 : decode cX7_point 23 = .ok (.invokestatic 46, 3) := by decide +kernel
theorem dX7_point_26 : decode cX7_point 26 = .ok (.aload_n 0, 1) := by decide +kernel
theorem dX7_point_27 : decode cX7_point 27 = .ok (.getfield 40, 3) := by decide +kernel
theorem dX7_point_30 : decode cX7_point 30 = .ok (.invokevirtual 50, 3) := by decide +kernel
theorem dX7_point_33 : decode cX7_point 33 = .ok (.bipush 60, 2) := by decide +kernel
theorem dX7_point_35 : decode cX7_point 35 = .ok (.invokestatic 54, 3) := by decide +kernel
theorem dX7_point_38 : decode cX7_point 38 = .ok (.aload_n 0, 1) := by decide +kernel
theorem dX7_point_39 : decode cX7_point 39 = .ok (.getfield 40, 3) := by decide +kernel
theorem dX7_point_42 : decode cX7_point 42 = .ok (.new 191, 3) := by decide +kernel
theorem dX7_point_45 : decode cX7_point 45 = .ok (.dup, 1) := by decide +kernel
theorem dX7_point_46 : decode cX7_point 46 = .ok (.iload_n 1, 1) := by decide +kernel
theorem dX7_point_47 : decode cX7_point 47 = .ok (.iload_n 2, 1) := by decide +kernel
theorem dX7_point_48 : decode cX7_point 48 = .ok (.iload_n 3, 1) := by decide +kernel
theorem dX7_point_49 : decode cX7_point 49 = .ok (.invokespecial 193, 3) := by decide +kernel
theorem dX7_point_52 : decode cX7_point 52 = .ok (.invokevirtual 62, 3) := by decide +kernel
theorem dX7_point_55 : decode cX7_point 55 = .ok (.pop, 1) := by decide +kernel
theorem dX7_point_56 : decode cX7_point 56 = .ok (.aload_n 0, 1) := by decide +kernel
theorem dX7_point_57 : decode cX7_point 57 = .ok (.getfield 40, 3) := by decide +kernel
theorem dX7_point_60 : decode cX7_point 60 = .ok (.invokevirtual 50, 3) := by decide +kernel
theorem dX7_point_63 : decode cX7_point 63 = .ok (.ireturn, 1) := by decide +kernel
set_option maxRecDepth 20000 in
theorem ggX7_claim_Jx4a65c_size_8abf5 : GoodIn wsX7_claim wsJx4a65c_size_8abf5 := goodIn_r _ [10, 11, 106, 107, 108] (by decide +kernel) (by decide +kernel)
set_option maxRecDepth 20000 in
theorem gX7_claim_Jx4a65c_size_8abf5 : GoodIn wsX7_claim (wsV RX7 50 RJx4a65c yJx4a65c_size_8abf5 wsJx4a65c_size_8abf5) := goodIn_app (goodIn_of _ (by decide +kernel)) ggX7_claim_Jx4a65c_size_8abf5
set_option maxRecDepth 20000 in
theorem ggX7_claim_X7_refuseUnknown : GoodIn wsX7_claim wsX7_refuseUnknown := goodIn_ca (goodIn_r _ [15, 16, 17] (by decide +kernel) (by decide +kernel)) (goodIn_sub (fun _ h => List.mem_cons_of_mem _ (List.mem_append_left _ (List.mem_append_left _ (List.mem_append_right _ h)))) (by decide +kernel))
set_option maxRecDepth 20000 in
theorem gX7_claim_X7_refuseUnknown : GoodIn wsX7_claim (va_wsS RX7 66 yX7_refuseUnknown wsX7_refuseUnknown) := goodIn_app (goodIn_of _ (by decide +kernel)) ggX7_claim_X7_refuseUnknown
set_option maxRecDepth 20000 in
theorem ggX7_claim_X7_refuseOutside : GoodIn wsX7_claim wsX7_refuseOutside := goodIn_ca (goodIn_r _ [20, 21, 22] (by decide +kernel) (by decide +kernel)) (goodIn_sub (fun _ h => List.mem_cons_of_mem _ (List.mem_append_left _ (List.mem_append_right _ h))) (by decide +kernel))
set_option maxRecDepth 20000 in
theorem gX7_claim_X7_refuseOutside : GoodIn wsX7_claim (va_wsS RX7 46 yX7_refuseOutside wsX7_refuseOutside) := goodIn_app (goodIn_of _ (by decide +kernel)) ggX7_claim_X7_refuseOutside
set_option maxRecDepth 20000 in
theorem ggX7_claim_X7_refuseFull : GoodIn wsX7_claim wsX7_refuseFull := goodIn_ca (goodIn_r _ [25, 26, 27] (by decide +kernel) (by decide +kernel)) (goodIn_sub (fun _ h => List.mem_cons_of_mem _ (List.mem_append_right _ h)) (by decide +kernel))
set_option maxRecDepth 20000 in
theorem gX7_claim_X7_refuseFull : GoodIn wsX7_claim (va_wsS RX7 54 yX7_refuseFull wsX7_refuseFull) := goodIn_app (goodIn_of _ (by decide +kernel)) ggX7_claim_X7_refuseFull
set_option maxRecDepth 20000 in
theorem ggX7_claim_X0_init : GoodIn wsX7_claim wsX0_init := goodIn_r _ [30, 31, 32, 33, 34, 35, 36, 37, 38, 39, 101, 102, 103, 104, 105] (by decide +kernel) (by decide +kernel)
set_option maxRecDepth 20000 in
theorem gX7_claim_X0_init : GoodIn wsX7_claim (wsX0_init) := ggX7_claim_X0_init
set_option maxRecDepth 20000 in
theorem ggX7_claim_Jx4a65c_add_9ea2d : GoodIn wsX7_claim wsJx4a65c_add_9ea2d := goodIn_r _ [43, 44, 45, 46, 11, 47, 48, 49, 9, 50, 51, 52, 53, 54, 55, 56, 57, 58, 59, 60, 61, 62, 63, 64, 65, 66, 67, 68, 69, 70, 71, 72, 73, 74, 75, 76, 77, 78, 79, 80, 81, 82, 83, 84, 85, 86, 87, 88, 89, 90, 91, 92, 93, 106, 107, 108] (by decide +kernel) (by decide +kernel)
set_option maxRecDepth 20000 in
theorem gX7_claim_Jx4a65c_add_9ea2d : GoodIn wsX7_claim (wsV RX7 62 RJx4a65c yJx4a65c_add_9ea2d wsJx4a65c_add_9ea2d) := goodIn_app (goodIn_of _ (by decide +kernel)) ggX7_claim_Jx4a65c_add_9ea2d
theorem dX7_claim_0 : decode cX7_claim 0 = .ok (.iload_n 2, 1) := by decide +kernel
theorem dX7_claim_1 : decode cX7_claim 1 = .ok (.aload_n 0, 1) := by decide +kernel
theorem dX7_claim_2 : decode cX7_claim 2 = .ok (.getfield 40, 3) := by decide +kernel
theorem dX7_claim_5 : decode cX7_claim 5 = .ok (.invokevirtual 50, 3) := by decide +kernel
theorem dX7_claim_8 : decode cX7_claim 8 = .ok (.invokestatic 66, 3) := by decide +kernel
theorem dX7_claim_11 : decode cX7_claim 11 = .ok (.iload_n 3, 1) := by decide +kernel
theorem dX7_claim_12 : decode cX7_claim 12 = .ok (.aload_n 0, 1) := by decide +kernel
theorem dX7_claim_13 : decode cX7_claim 13 = .ok (.getfield 40, 3) := by decide +kernel
theorem dX7_claim_16 : decode cX7_claim 16 = .ok (.invokevirtual 50, 3) := by decide +kernel
theorem dX7_claim_19 : decode cX7_claim 19 = .ok (.invokestatic 66, 3) := by decide +kernel
theorem dX7_claim_22 : decode cX7_claim 22 = .ok (.iload_n 1, 1) := by decide +kernel
theorem dX7_claim_23 : decode cX7_claim 23 = .ok (.iconst 1, 1) := by decide +kernel
theorem dX7_claim_24 : decode cX7_claim 24 = .ok (.sipush 300, 3) := by decide +kernel
theorem dX7_claim_27 : decode cX7_claim 27 = .ok (.invokestatic 46, 3) := by decide +kernel
theorem dX7_claim_30 : decode cX7_claim 30 = .ok (.iload_n 3, 1) := by decide +kernel
theorem dX7_claim_31 : decode cX7_claim 31 = .ok (.iload_n 2, 1) := by decide +kernel
theorem dX7_claim_32 : decode cX7_claim 32 = .ok (.aload_n 0, 1) := by decide +kernel
theorem dX7_claim_33 : decode cX7_claim 33 = .ok (.getfield 40, 3) := by decide +kernel
theorem dX7_claim_36 : decode cX7_claim 36 = .ok (.invokevirtual 50, 3) := by decide +kernel
theorem dX7_claim_39 : decode cX7_claim 39 = .ok (.iconst 1, 1) := by decide +kernel
theorem dX7_claim_40 : decode cX7_claim 40 = .ok (.isub, 1) := by decide +kernel
theorem dX7_claim_41 : decode cX7_claim 41 = .ok (.invokestatic 46, 3) := by decide +kernel
theorem dX7_claim_44 : decode cX7_claim 44 = .ok (.aload_n 0, 1) := by decide +kernel
theorem dX7_claim_45 : decode cX7_claim 45 = .ok (.getfield 43, 3) := by decide +kernel
theorem dX7_claim_48 : decode cX7_claim 48 = .ok (.invokevirtual 50, 3) := by decide +kernel
theorem dX7_claim_51 : decode cX7_claim 51 = .ok (.bipush 8, 2) := by decide +kernel
theorem dX7_claim_53 : decode cX7_claim 53 = .ok (.invokestatic 54, 3) := by decide +kernel
theorem dX7_claim_56 : decode cX7_claim 56 = .ok (.aload_n 0, 1) := by decide +kernel
theorem dX7_claim_57 : decode cX7_claim 57 = .ok (.getfield 43, 3) := by decide +kernel
theorem dX7_claim_60 : decode cX7_claim 60 = .ok (.new 194, 3) := by decide +kernel
theorem dX7_claim_63 : decode cX7_claim 63 = .ok (.dup, 1) := by decide +kernel
theorem dX7_claim_64 : decode cX7_claim 64 = .ok (.iload_n 1, 1) := by decide +kernel
theorem dX7_claim_65 : decode cX7_claim 65 = .ok (.iload_n 2, 1) := by decide +kernel
theorem dX7_claim_66 : decode cX7_claim 66 = .ok (.iload_n 3, 1) := by decide +kernel
theorem dX7_claim_67 : decode cX7_claim 67 = .ok (.aload_n 0, 1) := by decide +kernel
theorem dX7_claim_68 : decode cX7_claim 68 = .ok (.getfield 40, 3) := by decide +kernel
theorem dX7_claim_71 : decode cX7_claim 71 = .ok (.invokevirtual 50, 3) := by decide +kernel
theorem dX7_claim_74 : decode cX7_claim 74 = .ok (.invokespecial 196, 3) := by decide +kernel
theorem dX7_claim_77 : decode cX7_claim 77 = .ok (.invokevirtual 62, 3) := by decide +kernel
theorem dX7_claim_80 : decode cX7_claim 80 = .ok (.pop, 1) := by decide +kernel
theorem dX7_claim_81 : decode cX7_claim 81 = .ok (.aload_n 0, 1) := by decide +kernel
theorem dX7_claim_82 : decode cX7_claim 82 = .ok (.getfield 43, 3) := by decide +kernel
theorem dX7_claim_85 : decode cX7_claim 85 = .ok (.invokevirtual 50, 3) := by decide +kernel
theorem dX7_claim_88 : decode cX7_claim 88 = .ok (.iconst 1, 1) := by decide +kernel
theorem dX7_claim_89 : decode cX7_claim 89 = .ok (.isub, 1) := by decide +kernel
theorem dX7_claim_90 : decode cX7_claim 90 = .ok (.ireturn, 1) := by decide +kernel
set_option maxRecDepth 20000 in
theorem ggX7_repeats_Jx4a65c_size_8abf5 : GoodIn wsX7_repeats wsJx4a65c_size_8abf5 := goodIn_r _ [8, 9, 51, 52, 53] (by decide +kernel) (by decide +kernel)
set_option maxRecDepth 20000 in
theorem gX7_repeats_Jx4a65c_size_8abf5 : GoodIn wsX7_repeats (wsV RX7 50 RJx4a65c yJx4a65c_size_8abf5 wsJx4a65c_size_8abf5) := goodIn_app (goodIn_of _ (by decide +kernel)) ggX7_repeats_Jx4a65c_size_8abf5
set_option maxRecDepth 20000 in
theorem ggX7_repeats_X7_refuseUnknown : GoodIn wsX7_repeats wsX7_refuseUnknown := goodIn_ca (goodIn_r _ [13, 14, 15] (by decide +kernel) (by decide +kernel)) (goodIn_sub (fun _ h => List.mem_cons_of_mem _ (List.mem_append_right _ h)) (by decide +kernel))
set_option maxRecDepth 20000 in
theorem gX7_repeats_X7_refuseUnknown : GoodIn wsX7_repeats (va_wsS RX7 66 yX7_refuseUnknown wsX7_refuseUnknown) := goodIn_app (goodIn_of _ (by decide +kernel)) ggX7_repeats_X7_refuseUnknown
set_option maxRecDepth 20000 in
theorem ggX7_repeats_Jx4a65c_get_915e3 : GoodIn wsX7_repeats wsJx4a65c_get_915e3 := goodIn_r _ [19, 9, 20, 21, 22, 23, 24, 25, 26, 27, 28, 29, 30, 7, 31, 32, 51, 52, 53] (by decide +kernel) (by decide +kernel)
set_option maxRecDepth 20000 in
theorem gX7_repeats_Jx4a65c_get_915e3 : GoodIn wsX7_repeats (wsV RX7 69 RJx4a65c yJx4a65c_get_915e3 wsJx4a65c_get_915e3) := goodIn_app (goodIn_of _ (by decide +kernel)) ggX7_repeats_Jx4a65c_get_915e3
set_option maxRecDepth 20000 in
theorem ggX7_repeats_X0_housesThat : GoodIn wsX7_repeats wsX0_housesThat := goodIn_r _ [37, 38, 46, 47, 48, 49, 50] (by decide +kernel) (by decide +kernel)
set_option maxRecDepth 20000 in
theorem gX7_repeats_X0_housesThat : GoodIn wsX7_repeats (wsV RX7 202 RX0 yX0_housesThat wsX0_housesThat) := goodIn_app (goodIn_of _ (by decide +kernel)) ggX7_repeats_X0_housesThat
theorem dX7_repeats_0 : decode cX7_repeats 0 = .ok (.iload_n 1, 1) := by decide +kernel
theorem dX7_repeats_1 : decode cX7_repeats 1 = .ok (.aload_n 0, 1) := by decide +kernel
theorem dX7_repeats_2 : decode cX7_repeats 2 = .ok (.getfield 43, 3) := by decide +kernel
theorem dX7_repeats_5 : decode cX7_repeats 5 = .ok (.invokevirtual 50, 3) := by decide +kernel
theorem dX7_repeats_8 : decode cX7_repeats 8 = .ok (.invokestatic 66, 3) := by decide +kernel
theorem dX7_repeats_11 : decode cX7_repeats 11 = .ok (.iload_n 2, 1) := by decide +kernel
theorem dX7_repeats_12 : decode cX7_repeats 12 = .ok (.bipush 7, 2) := by decide +kernel
theorem dX7_repeats_14 : decode cX7_repeats 14 = .ok (.invokestatic 66, 3) := by decide +kernel
theorem dX7_repeats_17 : decode cX7_repeats 17 = .ok (.aload_n 0, 1) := by decide +kernel
theorem dX7_repeats_18 : decode cX7_repeats 18 = .ok (.getfield 43, 3) := by decide +kernel
theorem dX7_repeats_21 : decode cX7_repeats 21 = .ok (.iload_n 1, 1) := by decide +kernel
theorem dX7_repeats_22 : decode cX7_repeats 22 = .ok (.invokevirtual 69, 3) := by decide +kernel
theorem dX7_repeats_25 : decode cX7_repeats 25 = .ok (.checkcast 194, 3) := by decide +kernel
theorem dX7_repeats_28 : decode cX7_repeats 28 = .ok (.astore 4, 2) := by decide +kernel
theorem dX7_repeats_30 : decode cX7_repeats 30 = .ok (.aload 4, 2) := by decide +kernel
theorem dX7_repeats_32 : decode cX7_repeats 32 = .ok (.getfield 199, 3) := by decide +kernel
theorem dX7_repeats_35 : decode cX7_repeats 35 = .ok (.iload_n 2, 1) := by decide +kernel
theorem dX7_repeats_36 : decode cX7_repeats 36 = .ok (.iload_n 3, 1) := by decide +kernel
theorem dX7_repeats_37 : decode cX7_repeats 37 = .ok (.ifCond .eq 7, 3) := by decide +kernel
theorem dX7_repeats_40 : decode cX7_repeats 40 = .ok (.iconst 1, 1) := by decide +kernel
theorem dX7_repeats_41 : decode cX7_repeats 41 = .ok (.goto 4, 3) := by decide +kernel
theorem dX7_repeats_44 : decode cX7_repeats 44 = .ok (.iconst 2, 1) := by decide +kernel
theorem dX7_repeats_45 : decode cX7_repeats 45 = .ok (.iastore, 1) := by decide +kernel
theorem dX7_repeats_46 : decode cX7_repeats 46 = .ok (.aload 4, 2) := by decide +kernel
theorem dX7_repeats_48 : decode cX7_repeats 48 = .ok (.iconst 1, 1) := by decide +kernel
theorem dX7_repeats_49 : decode cX7_repeats 49 = .ok (.invokevirtual 202, 3) := by decide +kernel
theorem dX7_repeats_52 : decode cX7_repeats 52 = .ok (.ireturn, 1) := by decide +kernel
set_option maxRecDepth 20000 in
theorem ggX7_judge_Jx4a65c_size_8abf5 : GoodIn wsX7_judge wsJx4a65c_size_8abf5 := goodIn_r _ [9, 10, 80, 81, 82] (by decide +kernel) (by decide +kernel)
set_option maxRecDepth 20000 in
theorem gX7_judge_Jx4a65c_size_8abf5 : GoodIn wsX7_judge (wsV RX7 50 RJx4a65c yJx4a65c_size_8abf5 wsJx4a65c_size_8abf5) := goodIn_app (goodIn_of _ (by decide +kernel)) ggX7_judge_Jx4a65c_size_8abf5
set_option maxRecDepth 20000 in
theorem ggX7_judge_X7_refuseUnknown : GoodIn wsX7_judge wsX7_refuseUnknown := goodIn_ca (goodIn_r _ [14, 15, 16] (by decide +kernel) (by decide +kernel)) (goodIn_sub (fun _ h => List.mem_cons_of_mem _ (List.mem_append_left _ (List.mem_append_right _ h))) (by decide +kernel))
set_option maxRecDepth 20000 in
theorem gX7_judge_X7_refuseUnknown : GoodIn wsX7_judge (va_wsS RX7 66 yX7_refuseUnknown wsX7_refuseUnknown) := goodIn_app (goodIn_of _ (by decide +kernel)) ggX7_judge_X7_refuseUnknown
set_option maxRecDepth 20000 in
theorem ggX7_judge_X7_refuseOutside : GoodIn wsX7_judge wsX7_refuseOutside := goodIn_ca (goodIn_r _ [19, 20, 21] (by decide +kernel) (by decide +kernel)) (goodIn_sub (fun _ h => List.mem_cons_of_mem _ (List.mem_append_right _ h)) (by decide +kernel))
set_option maxRecDepth 20000 in
theorem gX7_judge_X7_refuseOutside : GoodIn wsX7_judge (va_wsS RX7 46 yX7_refuseOutside wsX7_refuseOutside) := goodIn_app (goodIn_of _ (by decide +kernel)) ggX7_judge_X7_refuseOutside
set_option maxRecDepth 20000 in
theorem ggX7_judge_Jx4a65c_get_915e3 : GoodIn wsX7_judge wsJx4a65c_get_915e3 := goodIn_r _ [25, 10, 26, 27, 28, 29, 30, 31, 32, 33, 34, 35, 36, 8, 37, 38, 80, 81, 82] (by decide +kernel) (by decide +kernel)
set_option maxRecDepth 20000 in
theorem gX7_judge_Jx4a65c_get_915e3 : GoodIn wsX7_judge (wsV RX7 69 RJx4a65c yJx4a65c_get_915e3 wsJx4a65c_get_915e3) := goodIn_app (goodIn_of _ (by decide +kernel)) ggX7_judge_Jx4a65c_get_915e3
set_option maxRecDepth 20000 in
theorem ggX7_judge_X0_verdict : GoodIn wsX7_judge wsX0_verdict := goodIn_r _ [43, 44, 45, 46, 47, 48, 49, 42, 50, 51, 52, 53, 54, 55, 56, 57, 58, 59, 6, 7, 8, 9, 10, 60, 23, 24, 25, 26, 27, 28, 29, 30, 31, 32, 33, 34, 35, 36, 37, 38, 61, 62, 63, 64, 65, 66, 67, 68, 69, 70, 71, 72, 83, 84, 85, 86, 87, 88, 89, 90, 80, 81, 82] (by decide +kernel) (by decide +kernel)
set_option maxRecDepth 20000 in
theorem gX7_judge_X0_verdict : GoodIn wsX7_judge (wsV RX7 205 RX0 yX0_verdict wsX0_verdict) := goodIn_app (goodIn_of _ (by decide +kernel)) ggX7_judge_X0_verdict
theorem dX7_judge_0 : decode cX7_judge 0 = .ok (.iload_n 1, 1) := by decide +kernel
theorem dX7_judge_1 : decode cX7_judge 1 = .ok (.aload_n 0, 1) := by decide +kernel
theorem dX7_judge_2 : decode cX7_judge 2 = .ok (.getfield 43, 3) := by decide +kernel
theorem dX7_judge_5 : decode cX7_judge 5 = .ok (.invokevirtual 50, 3) := by decide +kernel
theorem dX7_judge_8 : decode cX7_judge 8 = .ok (.invokestatic 66, 3) := by decide +kernel
theorem dX7_judge_11 : decode cX7_judge 11 = .ok (.iload_n 2, 1) := by decide +kernel
theorem dX7_judge_12 : decode cX7_judge 12 = .ok (.iconst 0, 1) := by decide +kernel
theorem dX7_judge_13 : decode cX7_judge 13 = .ok (.ldc 122, 2) := by decide +kernel
theorem dX7_judge_15 : decode cX7_judge 15 = .ok (.invokestatic 46, 3) := by decide +kernel
theorem dX7_judge_18 : decode cX7_judge 18 = .ok (.aload_n 0, 1) := by decide +kernel
theorem dX7_judge_19 : decode cX7_judge 19 = .ok (.getfield 43, 3) := by decide +kernel
theorem dX7_judge_22 : decode cX7_judge 22 = .ok (.iload_n 1, 1) := by decide +kernel
theorem dX7_judge_23 : decode cX7_judge 23 = .ok (.invokevirtual 69, 3) := by decide +kernel
theorem dX7_judge_26 : decode cX7_judge 26 = .ok (.checkcast 194, 3) := by decide +kernel
theorem dX7_judge_29 : decode cX7_judge 29 = .ok (.aload_n 0, 1) := by decide +kernel
theorem dX7_judge_30 : decode cX7_judge 30 = .ok (.getfield 40, 3) := by decide +kernel
theorem dX7_judge_33 : decode cX7_judge 33 = .ok (.iload_n 2, 1) := by decide +kernel
theorem dX7_judge_34 : decode cX7_judge 34 = .ok (.invokevirtual 205, 3) := by decide +kernel
theorem dX7_judge_37 : decode cX7_judge 37 = .ok (.ireturn, 1) := by decide +kernel
theorem dX7_refuseOutside_0 : decode cX7_refuseOutside 0 = .ok (.iload_n 0, 1) := by decide +kernel
theorem dX7_refuseOutside_1 : decode cX7_refuseOutside 1 = .ok (.iload_n 1, 1) := by decide +kernel
theorem dX7_refuseOutside_2 : decode cX7_refuseOutside 2 = .ok (.if_icmp .lt 8, 3) := by decide +kernel
theorem dX7_refuseOutside_5 : decode cX7_refuseOutside 5 = .ok (.iload_n 0, 1) := by decide +kernel
theorem dX7_refuseOutside_6 : decode cX7_refuseOutside 6 = .ok (.iload_n 2, 1) := by decide +kernel
theorem dX7_refuseOutside_7 : decode cX7_refuseOutside 7 = .ok (.if_icmp .le 13, 3) := by decide +kernel
theorem dX7_refuseOutside_10 : decode cX7_refuseOutside 10 = .ok (.new 209, 3) := by decide +kernel
theorem dX7_refuseOutside_13 : decode cX7_refuseOutside 13 = .ok (.dup, 1) := by decide +kernel
theorem dX7_refuseOutside_14 : decode cX7_refuseOutside 14 = .ok (.ldc 211, 2) := by decide +kernel
theorem dX7_refuseOutside_16 : decode cX7_refuseOutside 16 = .ok (.invokespecial 213, 3) := by decide +kernel
theorem dX7_refuseOutside_19 : decode cX7_refuseOutside 19 = .ok (.athrow, 1) := by decide +kernel
theorem dX7_refuseOutside_20 : decode cX7_refuseOutside 20 = .ok (.return_, 1) := by decide +kernel
theorem dX7_refuseUnknown_0 : decode cX7_refuseUnknown 0 = .ok (.iload_n 0, 1) := by decide +kernel
theorem dX7_refuseUnknown_1 : decode cX7_refuseUnknown 1 = .ok (.ifCond .lt 8, 3) := by decide +kernel
theorem dX7_refuseUnknown_4 : decode cX7_refuseUnknown 4 = .ok (.iload_n 0, 1) := by decide +kernel
theorem dX7_refuseUnknown_5 : decode cX7_refuseUnknown 5 = .ok (.iload_n 1, 1) := by decide +kernel
theorem dX7_refuseUnknown_6 : decode cX7_refuseUnknown 6 = .ok (.if_icmp .lt 13, 3) := by decide +kernel
theorem dX7_refuseUnknown_9 : decode cX7_refuseUnknown 9 = .ok (.new 216, 3) := by decide +kernel
theorem dX7_refuseUnknown_12 : decode cX7_refuseUnknown 12 = .ok (.dup, 1) := by decide +kernel
theorem dX7_refuseUnknown_13 : decode cX7_refuseUnknown 13 = .ok (.ldc 218, 2) := by decide +kernel
theorem dX7_refuseUnknown_15 : decode cX7_refuseUnknown 15 = .ok (.invokespecial 220, 3) := by decide +kernel
theorem dX7_refuseUnknown_18 : decode cX7_refuseUnknown 18 = .ok (.athrow, 1) := by decide +kernel
theorem dX7_refuseUnknown_19 : decode cX7_refuseUnknown 19 = .ok (.return_, 1) := by decide +kernel
theorem dX7_refuseFull_0 : decode cX7_refuseFull 0 = .ok (.iload_n 0, 1) := by decide +kernel
theorem dX7_refuseFull_1 : decode cX7_refuseFull 1 = .ok (.iload_n 1, 1) := by decide +kernel
theorem dX7_refuseFull_2 : decode cX7_refuseFull 2 = .ok (.if_icmp .lt 13, 3) := by decide +kernel
theorem dX7_refuseFull_5 : decode cX7_refuseFull 5 = .ok (.new 221, 3) := by decide +kernel
theorem dX7_refuseFull_8 : decode cX7_refuseFull 8 = .ok (.dup, 1) := by decide +kernel
theorem dX7_refuseFull_9 : decode cX7_refuseFull 9 = .ok (.ldc 223, 2) := by decide +kernel
theorem dX7_refuseFull_11 : decode cX7_refuseFull 11 = .ok (.invokespecial 225, 3) := by decide +kernel
theorem dX7_refuseFull_14 : decode cX7_refuseFull 14 = .ok (.athrow, 1) := by decide +kernel
theorem dX7_refuseFull_15 : decode cX7_refuseFull 15 = .ok (.return_, 1) := by decide +kernel
theorem dX8_init_0 : decode cX8_init 0 = .ok (.aload_n 0, 1) := by decide +kernel
theorem dX8_init_1 : decode cX8_init 1 = .ok (.invokespecial 1, 3) := by decide +kernel
theorem dX8_init_4 : decode cX8_init 4 = .ok (.aload_n 0, 1) := by decide +kernel
theorem dX8_init_5 : decode cX8_init 5 = .ok (.bipush 8, 2) := by decide +kernel
theorem dX8_init_7 : decode cX8_init 7 = .ok (.newarray .int, 2) := by decide +kernel
theorem dX8_init_9 : decode cX8_init 9 = .ok (.putfield 7, 3) := by decide +kernel
theorem dX8_init_12 : decode cX8_init 12 = .ok (.aload_n 0, 1) := by decide +kernel
theorem dX8_init_13 : decode cX8_init 13 = .ok (.bipush 8, 2) := by decide +kernel
theorem dX8_init_15 : decode cX8_init 15 = .ok (.newarray .int, 2) := by decide +kernel
theorem dX8_init_17 : decode cX8_init 17 = .ok (.putfield 13, 3) := by decide +kernel
theorem dX8_init_20 : decode cX8_init 20 = .ok (.aload_n 0, 1) := by decide +kernel
theorem dX8_init_21 : decode cX8_init 21 = .ok (.bipush 8, 2) := by decide +kernel
theorem dX8_init_23 : decode cX8_init 23 = .ok (.newarray .int, 2) := by decide +kernel
theorem dX8_init_25 : decode cX8_init 25 = .ok (.putfield 16, 3) := by decide +kernel
theorem dX8_init_28 : decode cX8_init 28 = .ok (.aload_n 0, 1) := by decide +kernel
theorem dX8_init_29 : decode cX8_init 29 = .ok (.bipush 8, 2) := by decide +kernel
theorem dX8_init_31 : decode cX8_init 31 = .ok (.newarray .int, 2) := by decide +kernel
theorem dX8_init_33 : decode cX8_init 33 = .ok (.putfield 19, 3) := by decide +kernel
theorem dX8_init_36 : decode cX8_init 36 = .ok (.aload_n 0, 1) := by decide +kernel
theorem dX8_init_37 : decode cX8_init 37 = .ok (.bipush 8, 2) := by decide +kernel
theorem dX8_init_39 : decode cX8_init 39 = .ok (.newarray .int, 2) := by decide +kernel
theorem dX8_init_41 : decode cX8_init 41 = .ok (.putfield 22, 3) := by decide +kernel
theorem dX8_init_44 : decode cX8_init 44 = .ok (.aload_n 0, 1) := by decide +kernel
theorem dX8_init_45 : decode cX8_init 45 = .ok (.bipush 48, 2) := by decide +kernel
theorem dX8_init_47 : decode cX8_init 47 = .ok (.newarray .int, 2) := by decide +kernel
theorem dX8_init_49 : decode cX8_init 49 = .ok (.putfield 25, 3) := by decide +kernel
theorem dX8_init_52 : decode cX8_init 52 = .ok (.aload_n 0, 1) := by decide +kernel
theorem dX8_init_53 : decode cX8_init 53 = .ok (.bipush 48, 2) := by decide +kernel
theorem dX8_init_55 : decode cX8_init 55 = .ok (.newarray .int, 2) := by decide +kernel
theorem dX8_init_57 : decode cX8_init 57 = .ok (.putfield 28, 3) := by decide +kernel
theorem dX8_init_60 : decode cX8_init 60 = .ok (.aload_n 0, 1) := by decide +kernel
theorem dX8_init_61 : decode cX8_init 61 = .ok (.bipush 20, 2) := by decide +kernel
theorem dX8_init_63 : decode cX8_init 63 = .ok (.newarray .int, 2) := by decide +kernel
theorem dX8_init_65 : decode cX8_init 65 = .ok (.putfield 31, 3) := by decide +kernel
theorem dX8_init_68 : decode cX8_init 68 = .ok (.aload_n 0, 1) := by decide +kernel
theorem dX8_init_69 : decode cX8_init 69 = .ok (.bipush 6, 2) := by decide +kernel
theorem dX8_init_71 : decode cX8_init 71 = .ok (.newarray .int, 2) := by decide +kernel
theorem dX8_init_73 : decode cX8_init 73 = .ok (.putfield 34, 3) := by decide +kernel
theorem dX8_init_76 : decode cX8_init 76 = .ok (.aload_n 0, 1) := by decide +kernel
theorem dX8_init_77 : decode cX8_init 77 = .ok (.bipush 6, 2) := by decide +kernel
theorem dX8_init_79 : decode cX8_init 79 = .ok (.newarray .int, 2) := by decide +kernel
theorem dX8_init_81 : decode cX8_init 81 = .ok (.putfield 37, 3) := by decide +kernel
theorem dX8_init_84 : decode cX8_init 84 = .ok (.aload_n 0, 1) := by decide +kernel
theorem dX8_init_85 : decode cX8_init 85 = .ok (.bipush 6, 2) := by decide +kernel
theorem dX8_init_87 : decode cX8_init 87 = .ok (.newarray .int, 2) := by decide +kernel
theorem dX8_init_89 : decode cX8_init 89 = .ok (.putfield 40, 3) := by decide +kernel
theorem dX8_init_92 : decode cX8_init 92 = .ok (.aload_n 0, 1) := by decide +kernel
theorem dX8_init_93 : decode cX8_init 93 = .ok (.bipush 6, 2) := by decide +kernel
theorem dX8_init_95 : decode cX8_init 95 = .ok (.newarray .int, 2) := by decide +kernel
theorem dX8_init_97 : decode cX8_init 97 = .ok (.putfield 43, 3) := by decide +kernel
theorem dX8_init_100 : decode cX8_init 100 = .ok (.aload_n 0, 1) := by decide +kernel
theorem dX8_init_101 : decode cX8_init 101 = .ok (.bipush 6, 2) := by decide +kernel
theorem dX8_init_103 : decode cX8_init 103 = .ok (.newarray .int, 2) := by decide +kernel
theorem dX8_init_105 : decode cX8_init 105 = .ok (.putfield 46, 3) := by decide +kernel
theorem dX8_init_108 : decode cX8_init 108 = .ok (.aload_n 0, 1) := by decide +kernel
theorem dX8_init_109 : decode cX8_init 109 = .ok (.bipush 12, 2) := by decide +kernel
theorem dX8_init_111 : decode cX8_init 111 = .ok (.newarray .int, 2) := by decide +kernel
theorem dX8_init_113 : decode cX8_init 113 = .ok (.putfield 49, 3) := by decide +kernel
theorem dX8_init_116 : decode cX8_init 116 = .ok (.aload_n 0, 1) := by decide +kernel
theorem dX8_init_117 : decode cX8_init 117 = .ok (.bipush 12, 2) := by decide +kernel
theorem dX8_init_119 : decode cX8_init 119 = .ok (.newarray .int, 2) := by decide +kernel
theorem dX8_init_121 : decode cX8_init 121 = .ok (.putfield 52, 3) := by decide +kernel
theorem dX8_init_124 : decode cX8_init 124 = .ok (.aload_n 0, 1) := by decide +kernel
theorem dX8_init_125 : decode cX8_init 125 = .ok (.sipush 300, 3) := by decide +kernel
theorem dX8_init_128 : decode cX8_init 128 = .ok (.putfield 55, 3) := by decide +kernel
theorem dX8_init_131 : decode cX8_init 131 = .ok (.aload_n 0, 1) := by decide +kernel
theorem dX8_init_132 : decode cX8_init 132 = .ok (.sipush 700, 3) := by decide +kernel
theorem dX8_init_135 : decode cX8_init 135 = .ok (.putfield 59, 3) := by decide +kernel
theorem dX8_init_138 : decode cX8_init 138 = .ok (.aload_n 0, 1) := by decide +kernel
theorem dX8_init_139 : decode cX8_init 139 = .ok (.bipush 60, 2) := by decide +kernel
theorem dX8_init_141 : decode cX8_init 141 = .ok (.newarray .int, 2) := by decide +kernel
theorem dX8_init_143 : decode cX8_init 143 = .ok (.putfield 62, 3) := by decide +kernel
theorem dX8_init_146 : decode cX8_init 146 = .ok (.aload_n 0, 1) := by decide +kernel
theorem dX8_init_147 : decode cX8_init 147 = .ok (.bipush 60, 2) := by decide +kernel
theorem dX8_init_149 : decode cX8_init 149 = .ok (.newarray .int, 2) := by decide +kernel
theorem dX8_init_151 : decode cX8_init 151 = .ok (.putfield 65, 3) := by decide +kernel
theorem dX8_init_154 : decode cX8_init 154 = .ok (.aload_n 0, 1) := by decide +kernel
theorem dX8_init_155 : decode cX8_init 155 = .ok (.bipush 60, 2) := by decide +kernel
theorem dX8_init_157 : decode cX8_init 157 = .ok (.newarray .int, 2) := by decide +kernel
theorem dX8_init_159 : decode cX8_init 159 = .ok (.putfield 68, 3) := by decide +kernel
theorem dX8_init_162 : decode cX8_init 162 = .ok (.aload_n 0, 1) := by decide +kernel
theorem dX8_init_163 : decode cX8_init 163 = .ok (.bipush 8, 2) := by decide +kernel
theorem dX8_init_165 : decode cX8_init 165 = .ok (.newarray .int, 2) := by decide +kernel
theorem dX8_init_167 : decode cX8_init 167 = .ok (.putfield 71, 3) := by decide +kernel
theorem dX8_init_170 : decode cX8_init 170 = .ok (.aload_n 0, 1) := by decide +kernel
theorem dX8_init_171 : decode cX8_init 171 = .ok (.bipush 8, 2) := by decide +kernel
theorem dX8_init_173 : decode cX8_init 173 = .ok (.newarray .int, 2) := by decide +kernel
theorem dX8_init_175 : decode cX8_init 175 = .ok (.putfield 74, 3) := by decide +kernel
theorem dX8_init_178 : decode cX8_init 178 = .ok (.aload_n 0, 1) := by decide +kernel
theorem dX8_init_179 : decode cX8_init 179 = .ok (.bipush 8, 2) := by decide +kernel
theorem dX8_init_181 : decode cX8_init 181 = .ok (.newarray .int, 2) := by decide +kernel
theorem dX8_init_183 : decode cX8_init 183 = .ok (.putfield 77, 3) := by decide +kernel
theorem dX8_init_186 : decode cX8_init 186 = .ok (.aload_n 0, 1) := by decide +kernel
theorem dX8_init_187 : decode cX8_init 187 = .ok (.bipush 8, 2) := by decide +kernel
theorem dX8_init_189 : decode cX8_init 189 = .ok (.newarray .int, 2) := by decide +kernel
theorem dX8_init_191 : decode cX8_init 191 = .ok (.putfield 80, 3) := by decide +kernel
theorem dX8_init_194 : decode cX8_init 194 = .ok (.aload_n 0, 1) := by decide +kernel
theorem dX8_init_195 : decode cX8_init 195 = .ok (.bipush 56, 2) := by decide +kernel
theorem dX8_init_197 : decode cX8_init 197 = .ok (.newarray .int, 2) := by decide +kernel
theorem dX8_init_199 : decode cX8_init 199 = .ok (.putfield 83, 3) := by decide +kernel
theorem dX8_init_202 : decode cX8_init 202 = .ok (.iconst 0, 1) := by decide +kernel
theorem dX8_init_203 : decode cX8_init 203 = .ok (.istore_n 1, 1) := by decide +kernel
theorem dX8_init_204 : decode cX8_init 204 = .ok (.iload_n 1, 1) := by decide +kernel
theorem dX8_init_205 : decode cX8_init 205 = .ok (.bipush 48, 2) := by decide +kernel
theorem dX8_init_207 : decode cX8_init 207 = .ok (.if_icmp .ge 16, 3) := by decide +kernel
theorem dX8_init_210 : decode cX8_init 210 = .ok (.aload_n 0, 1) := by decide +kernel
theorem dX8_init_211 : decode cX8_init 211 = .ok (.getfield 28, 3) := by decide +kernel
theorem dX8_init_214 : decode cX8_init 214 = .ok (.iload_n 1, 1) := by decide +kernel
theorem dX8_init_215 : decode cX8_init 215 = .ok (.iconst (-1), 1) := by decide +kernel
theorem dX8_init_216 : decode cX8_init 216 = .ok (.iastore, 1) := by decide +kernel
theorem dX8_init_217 : decode cX8_init 217 = .ok (.iinc 1 1, 3) := by decide +kernel
theorem dX8_init_220 : decode cX8_init 220 = .ok (.goto (-16), 3) := by decide +kernel
theorem dX8_init_223 : decode cX8_init 223 = .ok (.iconst 0, 1) := by decide +kernel
theorem dX8_init_224 : decode cX8_init 224 = .ok (.istore_n 1, 1) := by decide +kernel
theorem dX8_init_225 : decode cX8_init 225 = .ok (.iload_n 1, 1) := by decide +kernel
theorem dX8_init_226 : decode cX8_init 226 = .ok (.bipush 12, 2) := by decide +kernel
theorem dX8_init_228 : decode cX8_init 228 = .ok (.if_icmp .ge 16, 3) := by decide +kernel
theorem dX8_init_231 : decode cX8_init 231 = .ok (.aload_n 0, 1) := by decide +kernel
theorem dX8_init_232 : decode cX8_init 232 = .ok (.getfield 49, 3) := by decide +kernel
theorem dX8_init_235 : decode cX8_init 235 = .ok (.iload_n 1, 1) := by decide +kernel
theorem dX8_init_236 : decode cX8_init 236 = .ok (.iconst 4, 1) := by decide +kernel
theorem dX8_init_237 : decode cX8_init 237 = .ok (.iastore, 1) := by decide +kernel
theorem dX8_init_238 : decode cX8_init 238 = .ok (.iinc 1 1, 3) := by decide +kernel
theorem dX8_init_241 : decode cX8_init 241 = .ok (.goto (-16), 3) := by decide +kernel
theorem dX8_init_244 : decode cX8_init 244 = .ok (.return_, 1) := by decide +kernel
theorem dX8_thrown_0 : decode cX8_thrown 0 = .ok (.aload_n 0, 1) := by decide +kernel
theorem dX8_thrown_1 : decode cX8_thrown 1 = .ok (.getfield 86, 3) := by decide +kernel
theorem dX8_thrown_4 : decode cX8_thrown 4 = .ok (.ireturn, 1) := by decide +kernel
theorem dX8_stop_0 : decode cX8_stop 0 = .ok (.aload_n 0, 1) := by decide +kernel
theorem dX8_stop_1 : decode cX8_stop 1 = .ok (.iload_n 1, 1) := by decide +kernel
theorem dX8_stop_2 : decode cX8_stop 2 = .ok (.putfield 86, 3) := by decide +kernel
theorem dX8_stop_5 : decode cX8_stop 5 = .ok (.iconst 0, 1) := by decide +kernel
theorem dX8_stop_6 : decode cX8_stop 6 = .ok (.ireturn, 1) := by decide +kernel
theorem dX8_in_0 : decode cX8_in 0 = .ok (.iload_n 0, 1) := by decide +kernel
theorem dX8_in_1 : decode cX8_in 1 = .ok (.iload_n 1, 1) := by decide +kernel
theorem dX8_in_2 : decode cX8_in 2 = .ok (.if_icmp .lt 12, 3) := by decide +kernel
theorem dX8_in_5 : decode cX8_in 5 = .ok (.iload_n 0, 1) := by decide +kernel
theorem dX8_in_6 : decode cX8_in 6 = .ok (.iload_n 2, 1) := by decide +kernel
theorem dX8_in_7 : decode cX8_in 7 = .ok (.if_icmp .gt 7, 3) := by decide +kernel
theorem dX8_in_10 : decode cX8_in 10 = .ok (.iconst 1, 1) := by decide +kernel
theorem dX8_in_11 : decode cX8_in 11 = .ok (.goto 4, 3) := by decide +kernel
theorem dX8_in_14 : decode cX8_in 14 = .ok (.iconst 0, 1) := by decide +kernel
theorem dX8_in_15 : decode cX8_in 15 = .ok (.ireturn, 1) := by decide +kernel
theorem dX8_size_0 : decode cX8_size 0 = .ok (.iload_n 0, 1) := by decide +kernel
theorem dX8_size_1 : decode cX8_size 1 = .ok (.ifCond .ge 8, 3) := by decide +kernel
theorem dX8_size_4 : decode cX8_size 4 = .ok (.iload_n 0, 1) := by decide +kernel
theorem dX8_size_5 : decode cX8_size 5 = .ok (.ineg, 1) := by decide +kernel
theorem dX8_size_6 : decode cX8_size 6 = .ok (.goto 4, 3) := by decide +kernel
theorem dX8_size_9 : decode cX8_size 9 = .ok (.iload_n 0, 1) := by decide +kernel
theorem dX8_size_10 : decode cX8_size 10 = .ok (.ireturn, 1) := by decide +kernel
set_option maxRecDepth 20000 in
theorem ggX8_sample_X8_in : GoodIn wsX8_sample wsX8_in := goodIn_r _ [9] (by decide +kernel) (by decide +kernel)
set_option maxRecDepth 20000 in
theorem gX8_sample_X8_in : GoodIn wsX8_sample (va_wsS RX8 89 yX8_in wsX8_in) := goodIn_app (goodIn_of _ (by decide +kernel)) ggX8_sample_X8_in
set_option maxRecDepth 20000 in
theorem ggX8_sample_X8_stop : GoodIn wsX8_sample wsX8_stop := goodIn_r _ [13, 1, 14, 15, 16, 17, 18, 19, 20, 21, 22, 23, 24, 25, 26, 27, 28, 29, 30, 31, 32, 33, 34, 35, 36, 37, 38, 39, 40, 41, 42, 43, 44, 45, 46, 47, 48, 49, 50, 51, 52] (by decide +kernel) (by decide +kernel)
set_option maxRecDepth 20000 in
theorem gX8_sample_X8_stop : GoodIn wsX8_sample (wsV RX8 93 RX8 yX8_stop wsX8_stop) := goodIn_app (goodIn_of _ (by decide +kernel)) ggX8_sample_X8_stop
theorem dX8_sample_0 : decode cX8_sample 0 = .ok (.aload_n 0, 1) := by decide +kernel
theorem dX8_sample_1 : decode cX8_sample 1 = .ok (.iconst 0, 1) := by decide +kernel
theorem dX8_sample_2 : decode cX8_sample 2 = .ok (.putfield 86, 3) := by decide +kernel
theorem dX8_sample_5 : decode cX8_sample 5 = .ok (.iload_n 1, 1) := by decide +kernel
theorem dX8_sample_6 : decode cX8_sample 6 = .ok (.iconst 1, 1) := by decide +kernel
theorem dX8_sample_7 : decode cX8_sample 7 = .ok (.sipush 200, 3) := by decide +kernel
theorem dX8_sample_10 : decode cX8_sample 10 = .ok (.invokestatic 89, 3) := by decide +kernel
theorem dX8_sample_13 : decode cX8_sample 13 = .ok (.ifCond .eq 25, 3) := by decide +kernel
theorem dX8_sample_16 : decode cX8_sample 16 = .ok (.iload_n 2, 1) := by decide +kernel
theorem dX8_sample_17 : decode cX8_sample 17 = .ok (.iconst 1, 1) := by decide +kernel
theorem dX8_sample_18 : decode cX8_sample 18 = .ok (.sipush 1000, 3) := by decide +kernel
theorem dX8_sample_21 : decode cX8_sample 21 = .ok (.invokestatic 89, 3) := by decide +kernel
theorem dX8_sample_24 : decode cX8_sample 24 = .ok (.ifCond .eq 14, 3) := by decide +kernel
theorem dX8_sample_27 : decode cX8_sample 27 = .ok (.iload_n 3, 1) := by decide +kernel
theorem dX8_sample_28 : decode cX8_sample 28 = .ok (.iconst 1, 1) := by decide +kernel
theorem dX8_sample_29 : decode cX8_sample 29 = .ok (.sipush 1000, 3) := by decide +kernel
theorem dX8_sample_32 : decode cX8_sample 32 = .ok (.invokestatic 89, 3) := by decide +kernel
theorem dX8_sample_35 : decode cX8_sample 35 = .ok (.ifCond .ne 9, 3) := by decide +kernel
theorem dX8_sample_38 : decode cX8_sample 38 = .ok (.aload_n 0, 1) := by decide +kernel
theorem dX8_sample_39 : decode cX8_sample 39 = .ok (.iconst 1, 1) := by decide +kernel
theorem dX8_sample_40 : decode cX8_sample 40 = .ok (.invokevirtual 93, 3) := by decide +kernel
theorem dX8_sample_43 : decode cX8_sample 43 = .ok (.ireturn, 1) := by decide +kernel
theorem dX8_sample_44 : decode cX8_sample 44 = .ok (.aload_n 0, 1) := by decide +kernel
theorem dX8_sample_45 : decode cX8_sample 45 = .ok (.getfield 97, 3) := by decide +kernel
theorem dX8_sample_48 : decode cX8_sample 48 = .ok (.bipush 8, 2) := by decide +kernel
theorem dX8_sample_50 : decode cX8_sample 50 = .ok (.if_icmp .ne 9, 3) := by decide +kernel
theorem dX8_sample_53 : decode cX8_sample 53 = .ok (.aload_n 0, 1) := by decide +kernel
theorem dX8_sample_54 : decode cX8_sample 54 = .ok (.iconst 2, 1) := by decide +kernel
theorem dX8_sample_55 : decode cX8_sample 55 = .ok (.invokevirtual 93, 3) := by decide +kernel
theorem dX8_sample_58 : decode cX8_sample 58 = .ok (.ireturn, 1) := by decide +kernel
theorem dX8_sample_59 : decode cX8_sample 59 = .ok (.aload_n 0, 1) := by decide +kernel
theorem dX8_sample_60 : decode cX8_sample 60 = .ok (.getfield 7, 3) := by decide +kernel
theorem dX8_sample_63 : decode cX8_sample 63 = .ok (.aload_n 0, 1) := by decide +kernel
theorem dX8_sample_64 : decode cX8_sample 64 = .ok (.getfield 97, 3) := by decide +kernel
theorem dX8_sample_67 : decode cX8_sample 67 = .ok (.iload_n 1, 1) := by decide +kernel
theorem dX8_sample_68 : decode cX8_sample 68 = .ok (.iastore, 1) := by decide +kernel
theorem dX8_sample_69 : decode cX8_sample 69 = .ok (.aload_n 0, 1) := by decide +kernel
theorem dX8_sample_70 : decode cX8_sample 70 = .ok (.getfield 13, 3) := by decide +kernel
theorem dX8_sample_73 : decode cX8_sample 73 = .ok (.aload_n 0, 1) := by decide +kernel
theorem dX8_sample_74 : decode cX8_sample 74 = .ok (.getfield 97, 3) := by decide +kernel
theorem dX8_sample_77 : decode cX8_sample 77 = .ok (.iload_n 2, 1) := by decide +kernel
theorem dX8_sample_78 : decode cX8_sample 78 = .ok (.iastore, 1) := by decide +kernel
theorem dX8_sample_79 : decode cX8_sample 79 = .ok (.aload_n 0, 1) := by decide +kernel
theorem dX8_sample_80 : decode cX8_sample 80 = .ok (.getfield 16, 3) := by decide +kernel
theorem dX8_sample_83 : decode cX8_sample 83 = .ok (.aload_n 0, 1) := by decide +kernel
theorem dX8_sample_84 : decode cX8_sample 84 = .ok (.getfield 97, 3) := by decide +kernel
theorem dX8_sample_87 : decode cX8_sample 87 = .ok (.iload_n 3, 1) := by decide +kernel
theorem dX8_sample_88 : decode cX8_sample 88 = .ok (.iastore, 1) := by decide +kernel
theorem dX8_sample_89 : decode cX8_sample 89 = .ok (.aload_n 0, 1) := by decide +kernel
theorem dX8_sample_90 : decode cX8_sample 90 = .ok (.dup, 1) := by decide +kernel
theorem dX8_sample_91 : decode cX8_sample 91 = .ok (.getfield 97, 3) := by decide +kernel
theorem dX8_sample_94 : decode cX8_sample 94 = .ok (.iconst 1, 1) := by decide +kernel
theorem dX8_sample_95 : decode cX8_sample 95 = .ok (.iadd, 1) := by decide +kernel
theorem dX8_sample_96 : decode cX8_sample 96 = .ok (.putfield 97, 3) := by decide +kernel
theorem dX8_sample_99 : decode cX8_sample 99 = .ok (.aload_n 0, 1) := by decide +kernel
theorem dX8_sample_100 : decode cX8_sample 100 = .ok (.getfield 97, 3) := by decide +kernel
theorem dX8_sample_103 : decode cX8_sample 103 = .ok (.iconst 1, 1) := by decide +kernel
theorem dX8_sample_104 : decode cX8_sample 104 = .ok (.isub, 1) := by decide +kernel
theorem dX8_sample_105 : decode cX8_sample 105 = .ok (.ireturn, 1) := by decide +kernel
theorem dX8_bound_0 : decode cX8_bound 0 = .ok (.aload_n 0, 1) := by decide +kernel
theorem dX8_bound_1 : decode cX8_bound 1 = .ok (.getfield 7, 3) := by decide +kernel
theorem dX8_bound_4 : decode cX8_bound 4 = .ok (.iload_n 1, 1) := by decide +kernel
theorem dX8_bound_5 : decode cX8_bound 5 = .ok (.iaload, 1) := by decide +kernel
theorem dX8_bound_6 : decode cX8_bound 6 = .ok (.aload_n 0, 1) := by decide +kernel
theorem dX8_bound_7 : decode cX8_bound 7 = .ok (.getfield 7, 3) := by decide +kernel
theorem dX8_bound_10 : decode cX8_bound 10 = .ok (.iload_n 1, 1) := by decide +kernel
theorem dX8_bound_11 : decode cX8_bound 11 = .ok (.iaload, 1) := by decide +kernel
theorem dX8_bound_12 : decode cX8_bound 12 = .ok (.imul, 1) := by decide +kernel
theorem dX8_bound_13 : decode cX8_bound 13 = .ok (.istore_n 3, 1) := by decide +kernel
theorem dX8_bound_14 : decode cX8_bound 14 = .ok (.iload_n 2, 1) := by decide +kernel
theorem dX8_bound_15 : decode cX8_bound 15 = .ok (.iload_n 3, 1) := by decide +kernel
theorem dX8_bound_16 : decode cX8_bound 16 = .ok (.aload_n 0, 1) := by decide +kernel
theorem dX8_bound_17 : decode cX8_bound 17 = .ok (.getfield 19, 3) := by decide +kernel
theorem dX8_bound_20 : decode cX8_bound 20 = .ok (.iload_n 1, 1) := by decide +kernel
theorem dX8_bound_21 : decode cX8_bound 21 = .ok (.iaload, 1) := by decide +kernel
theorem dX8_bound_22 : decode cX8_bound 22 = .ok (.aload_n 0, 1) := by decide +kernel
theorem dX8_bound_23 : decode cX8_bound 23 = .ok (.getfield 19, 3) := by decide +kernel
theorem dX8_bound_26 : decode cX8_bound 26 = .ok (.iload_n 1, 1) := by decide +kernel
theorem dX8_bound_27 : decode cX8_bound 27 = .ok (.iaload, 1) := by decide +kernel
theorem dX8_bound_28 : decode cX8_bound 28 = .ok (.imul, 1) := by decide +kernel
theorem dX8_bound_29 : decode cX8_bound 29 = .ok (.isub, 1) := by decide +kernel
theorem dX8_bound_30 : decode cX8_bound 30 = .ok (.imul, 1) := by decide +kernel
theorem dX8_bound_31 : decode cX8_bound 31 = .ok (.iload_n 3, 1) := by decide +kernel
theorem dX8_bound_32 : decode cX8_bound 32 = .ok (.idiv, 1) := by decide +kernel
theorem dX8_bound_33 : decode cX8_bound 33 = .ok (.ireturn, 1) := by decide +kernel
set_option maxRecDepth 20000 in
theorem ggX8_set_X8_in : GoodIn wsX8_set wsX8_in := goodIn_r _ [11] (by decide +kernel) (by decide +kernel)
set_option maxRecDepth 20000 in
theorem gX8_set_X8_in : GoodIn wsX8_set (va_wsS RX8 89 yX8_in wsX8_in) := goodIn_app (goodIn_of _ (by decide +kernel)) ggX8_set_X8_in
set_option maxRecDepth 20000 in
theorem ggX8_set_X8_stop : GoodIn wsX8_set wsX8_stop := goodIn_r _ [15, 1, 23, 24, 25, 26, 27, 28, 29, 30, 31, 32, 33, 34, 35, 36, 37, 38, 39, 40, 41, 42, 43, 44, 45, 46, 47, 48, 49, 50, 51, 52, 53, 54, 55, 56, 57, 58, 59, 60, 61] (by decide +kernel) (by decide +kernel)
set_option maxRecDepth 20000 in
theorem gX8_set_X8_stop : GoodIn wsX8_set (wsV RX8 93 RX8 yX8_stop wsX8_stop) := goodIn_app (goodIn_of _ (by decide +kernel)) ggX8_set_X8_stop
set_option maxRecDepth 20000 in
theorem ggX8_set_X8_size : GoodIn wsX8_set wsX8_size := goodIn_r _ [18] (by decide +kernel) (by decide +kernel)
set_option maxRecDepth 20000 in
theorem gX8_set_X8_size : GoodIn wsX8_set (va_wsS RX8 100 yX8_size wsX8_size) := goodIn_app (goodIn_of _ (by decide +kernel)) ggX8_set_X8_size
set_option maxRecDepth 20000 in
theorem ggX8_set_X8_bound : GoodIn wsX8_set wsX8_bound := goodIn_r _ [22, 5, 3, 23, 24, 25, 26, 27, 28, 29, 30, 31, 32, 33, 34, 35, 36, 37, 38, 39, 40, 41, 42, 43, 44, 45, 46, 47, 48, 49, 50, 51, 52, 53, 54, 55, 56, 57, 58, 59, 60, 61] (by decide +kernel) (by decide +kernel)
set_option maxRecDepth 20000 in
theorem gX8_set_X8_bound : GoodIn wsX8_set (wsV RX8 103 RX8 yX8_bound wsX8_bound) := goodIn_app (goodIn_of _ (by decide +kernel)) ggX8_set_X8_bound
theorem dX8_set_0 : decode cX8_set 0 = .ok (.aload_n 0, 1) := by decide +kernel
theorem dX8_set_1 : decode cX8_set 1 = .ok (.iconst 0, 1) := by decide +kernel
theorem dX8_set_2 : decode cX8_set 2 = .ok (.putfield 86, 3) := by decide +kernel
theorem dX8_set_5 : decode cX8_set 5 = .ok (.iload_n 1, 1) := by decide +kernel
theorem dX8_set_6 : decode cX8_set 6 = .ok (.iconst 0, 1) := by decide +kernel
theorem dX8_set_7 : decode cX8_set 7 = .ok (.aload_n 0, 1) := by decide +kernel
theorem dX8_set_8 : decode cX8_set 8 = .ok (.getfield 97, 3) := by decide +kernel
theorem dX8_set_11 : decode cX8_set 11 = .ok (.iconst 1, 1) := by decide +kernel
theorem dX8_set_12 : decode cX8_set 12 = .ok (.isub, 1) := by decide +kernel
theorem dX8_set_13 : decode cX8_set 13 = .ok (.invokestatic 89, 3) := by decide +kernel
theorem dX8_set_16 : decode cX8_set 16 = .ok (.ifCond .ne 9, 3) := by decide +kernel
theorem dX8_set_19 : decode cX8_set 19 = .ok (.aload_n 0, 1) := by decide +kernel
theorem dX8_set_20 : decode cX8_set 20 = .ok (.iconst 1, 1) := by decide +kernel
theorem dX8_set_21 : decode cX8_set 21 = .ok (.invokevirtual 93, 3) := by decide +kernel
theorem dX8_set_24 : decode cX8_set 24 = .ok (.ireturn, 1) := by decide +kernel
theorem dX8_set_25 : decode cX8_set 25 = .ok (.iload_n 2, 1) := by decide +kernel
theorem dX8_set_26 : decode cX8_set 26 = .ok (.iconst 0, 1) := by decide +kernel
theorem dX8_set_27 : decode cX8_set 27 = .ok (.sipush 300, 3) := by decide +kernel
theorem dX8_set_30 : decode cX8_set 30 = .ok (.invokestatic 89, 3) := by decide +kernel
theorem dX8_set_33 : decode cX8_set 33 = .ok (.ifCond .eq 16, 3) := by decide +kernel
theorem dX8_set_36 : decode cX8_set 36 = .ok (.iload_n 3, 1) := by decide +kernel
theorem dX8_set_37 : decode cX8_set 37 = .ok (.sipush (-1000), 3) := by decide +kernel
theorem dX8_set_40 : decode cX8_set 40 = .ok (.sipush 1000, 3) := by decide +kernel
theorem dX8_set_43 : decode cX8_set 43 = .ok (.invokestatic 89, 3) := by decide +kernel
theorem dX8_set_46 : decode cX8_set 46 = .ok (.ifCond .ne 9, 3) := by decide +kernel
theorem dX8_set_49 : decode cX8_set 49 = .ok (.aload_n 0, 1) := by decide +kernel
theorem dX8_set_50 : decode cX8_set 50 = .ok (.iconst 2, 1) := by decide +kernel
theorem dX8_set_51 : decode cX8_set 51 = .ok (.invokevirtual 93, 3) := by decide +kernel
theorem dX8_set_54 : decode cX8_set 54 = .ok (.ireturn, 1) := by decide +kernel
theorem dX8_set_55 : decode cX8_set 55 = .ok (.aload_n 0, 1) := by decide +kernel
theorem dX8_set_56 : decode cX8_set 56 = .ok (.getfield 19, 3) := by decide +kernel
theorem dX8_set_59 : decode cX8_set 59 = .ok (.iload_n 1, 1) := by decide +kernel
theorem dX8_set_60 : decode cX8_set 60 = .ok (.iload_n 2, 1) := by decide +kernel
theorem dX8_set_61 : decode cX8_set 61 = .ok (.iastore, 1) := by decide +kernel
theorem dX8_set_62 : decode cX8_set 62 = .ok (.aload_n 0, 1) := by decide +kernel
theorem dX8_set_63 : decode cX8_set 63 = .ok (.getfield 22, 3) := by decide +kernel
theorem dX8_set_66 : decode cX8_set 66 = .ok (.iload_n 1, 1) := by decide +kernel
theorem dX8_set_67 : decode cX8_set 67 = .ok (.iload_n 3, 1) := by decide +kernel
theorem dX8_set_68 : decode cX8_set 68 = .ok (.iastore, 1) := by decide +kernel
theorem dX8_set_69 : decode cX8_set 69 = .ok (.iload_n 2, 1) := by decide +kernel
theorem dX8_set_70 : decode cX8_set 70 = .ok (.aload_n 0, 1) := by decide +kernel
theorem dX8_set_71 : decode cX8_set 71 = .ok (.getfield 7, 3) := by decide +kernel
theorem dX8_set_74 : decode cX8_set 74 = .ok (.iload_n 1, 1) := by decide +kernel
theorem dX8_set_75 : decode cX8_set 75 = .ok (.iaload, 1) := by decide +kernel
theorem dX8_set_76 : decode cX8_set 76 = .ok (.if_icmp .lt 5, 3) := by decide +kernel
theorem dX8_set_79 : decode cX8_set 79 = .ok (.iconst 0, 1) := by decide +kernel
theorem dX8_set_80 : decode cX8_set 80 = .ok (.ireturn, 1) := by decide +kernel
theorem dX8_set_81 : decode cX8_set 81 = .ok (.iload_n 3, 1) := by decide +kernel
theorem dX8_set_82 : decode cX8_set 82 = .ok (.invokestatic 100, 3) := by decide +kernel
theorem dX8_set_85 : decode cX8_set 85 = .ok (.aload_n 0, 1) := by decide +kernel
theorem dX8_set_86 : decode cX8_set 86 = .ok (.iload_n 1, 1) := by decide +kernel
theorem dX8_set_87 : decode cX8_set 87 = .ok (.aload_n 0, 1) := by decide +kernel
theorem dX8_set_88 : decode cX8_set 88 = .ok (.getfield 13, 3) := by decide +kernel
theorem dX8_set_91 : decode cX8_set 91 = .ok (.iload_n 1, 1) := by decide +kernel
theorem dX8_set_92 : decode cX8_set 92 = .ok (.iaload, 1) := by decide +kernel
theorem dX8_set_93 : decode cX8_set 93 = .ok (.invokevirtual 103, 3) := by decide +kernel
theorem dX8_set_96 : decode cX8_set 96 = .ok (.if_icmp .lt 7, 3) := by decide +kernel
theorem dX8_set_99 : decode cX8_set 99 = .ok (.iconst 1, 1) := by decide +kernel
theorem dX8_set_100 : decode cX8_set 100 = .ok (.goto 4, 3) := by decide +kernel
theorem dX8_set_103 : decode cX8_set 103 = .ok (.iconst 0, 1) := by decide +kernel
theorem dX8_set_104 : decode cX8_set 104 = .ok (.istore 4, 2) := by decide +kernel
theorem dX8_set_106 : decode cX8_set 106 = .ok (.aload_n 0, 1) := by decide +kernel
theorem dX8_set_107 : decode cX8_set 107 = .ok (.getfield 13, 3) := by decide +kernel
theorem dX8_set_110 : decode cX8_set 110 = .ok (.iload_n 1, 1) := by decide +kernel
theorem dX8_set_111 : decode cX8_set 111 = .ok (.iaload, 1) := by decide +kernel
theorem dX8_set_112 : decode cX8_set 112 = .ok (.aload_n 0, 1) := by decide +kernel
theorem dX8_set_113 : decode cX8_set 113 = .ok (.getfield 16, 3) := by decide +kernel
theorem dX8_set_116 : decode cX8_set 116 = .ok (.iload_n 1, 1) := by decide +kernel
theorem dX8_set_117 : decode cX8_set 117 = .ok (.iaload, 1) := by decide +kernel
theorem dX8_set_118 : decode cX8_set 118 = .ok (.if_icmp .lt 14, 3) := by decide +kernel
theorem dX8_set_121 : decode cX8_set 121 = .ok (.iload 4, 2) := by decide +kernel
theorem dX8_set_123 : decode cX8_set 123 = .ok (.ifCond .eq 7, 3) := by decide +kernel
theorem dX8_set_126 : decode cX8_set 126 = .ok (.iconst 0, 1) := by decide +kernel
theorem dX8_set_127 : decode cX8_set 127 = .ok (.goto 4, 3) := by decide +kernel
theorem dX8_set_130 : decode cX8_set 130 = .ok (.iconst 2, 1) := by decide +kernel
theorem dX8_set_131 : decode cX8_set 131 = .ok (.ireturn, 1) := by decide +kernel
theorem dX8_set_132 : decode cX8_set 132 = .ok (.iload_n 3, 1) := by decide +kernel
theorem dX8_set_133 : decode cX8_set 133 = .ok (.invokestatic 100, 3) := by decide +kernel
theorem dX8_set_136 : decode cX8_set 136 = .ok (.aload_n 0, 1) := by decide +kernel
theorem dX8_set_137 : decode cX8_set 137 = .ok (.iload_n 1, 1) := by decide +kernel
theorem dX8_set_138 : decode cX8_set 138 = .ok (.aload_n 0, 1) := by decide +kernel
theorem dX8_set_139 : decode cX8_set 139 = .ok (.getfield 16, 3) := by decide +kernel
theorem dX8_set_142 : decode cX8_set 142 = .ok (.iload_n 1, 1) := by decide +kernel
theorem dX8_set_143 : decode cX8_set 143 = .ok (.iaload, 1) := by decide +kernel
theorem dX8_set_144 : decode cX8_set 144 = .ok (.invokevirtual 103, 3) := by decide +kernel
theorem dX8_set_147 : decode cX8_set 147 = .ok (.if_icmp .lt 7, 3) := by decide +kernel
theorem dX8_set_150 : decode cX8_set 150 = .ok (.iconst 0, 1) := by decide +kernel
theorem dX8_set_151 : decode cX8_set 151 = .ok (.goto 13, 3) := by decide +kernel
theorem dX8_set_154 : decode cX8_set 154 = .ok (.iload 4, 2) := by decide +kernel
theorem dX8_set_156 : decode cX8_set 156 = .ok (.ifCond .eq 7, 3) := by decide +kernel
theorem dX8_set_159 : decode cX8_set 159 = .ok (.iconst 1, 1) := by decide +kernel
theorem dX8_set_160 : decode cX8_set 160 = .ok (.goto 4, 3) := by decide +kernel
theorem dX8_set_163 : decode cX8_set 163 = .ok (.iconst 2, 1) := by decide +kernel
theorem dX8_set_164 : decode cX8_set 164 = .ok (.ireturn, 1) := by decide +kernel
set_option maxRecDepth 20000 in
theorem ggX8_deep_X8_in : GoodIn wsX8_deep wsX8_in := goodIn_r _ [9] (by decide +kernel) (by decide +kernel)
set_option maxRecDepth 20000 in
theorem gX8_deep_X8_in : GoodIn wsX8_deep (va_wsS RX8 89 yX8_in wsX8_in) := goodIn_app (goodIn_of _ (by decide +kernel)) ggX8_deep_X8_in
set_option maxRecDepth 20000 in
theorem ggX8_deep_X8_stop : GoodIn wsX8_deep wsX8_stop := goodIn_r _ [13, 1, 14, 15, 16, 17, 18, 19, 20, 21, 22, 23, 24, 25, 26, 27, 28, 29, 30, 31, 32, 33, 34, 35, 36, 37, 38, 39, 40, 41, 42, 43, 44, 45, 46, 47, 48, 49, 50, 51, 52] (by decide +kernel) (by decide +kernel)
set_option maxRecDepth 20000 in
theorem gX8_deep_X8_stop : GoodIn wsX8_deep (wsV RX8 93 RX8 yX8_stop wsX8_stop) := goodIn_app (goodIn_of _ (by decide +kernel)) ggX8_deep_X8_stop
theorem dX8_deep_0 : decode cX8_deep 0 = .ok (.aload_n 0, 1) := by decide +kernel
theorem dX8_deep_1 : decode cX8_deep 1 = .ok (.iconst 0, 1) := by decide +kernel
theorem dX8_deep_2 : decode cX8_deep 2 = .ok (.putfield 86, 3) := by decide +kernel
theorem dX8_deep_5 : decode cX8_deep 5 = .ok (.iload_n 1, 1) := by decide +kernel
theorem dX8_deep_6 : decode cX8_deep 6 = .ok (.iconst 0, 1) := by decide +kernel
theorem dX8_deep_7 : decode cX8_deep 7 = .ok (.aload_n 0, 1) := by decide +kernel
theorem dX8_deep_8 : decode cX8_deep 8 = .ok (.getfield 97, 3) := by decide +kernel
theorem dX8_deep_11 : decode cX8_deep 11 = .ok (.iconst 1, 1) := by decide +kernel
theorem dX8_deep_12 : decode cX8_deep 12 = .ok (.isub, 1) := by decide +kernel
theorem dX8_deep_13 : decode cX8_deep 13 = .ok (.invokestatic 89, 3) := by decide +kernel
theorem dX8_deep_16 : decode cX8_deep 16 = .ok (.ifCond .ne 10, 3) := by decide +kernel
theorem dX8_deep_19 : decode cX8_deep 19 = .ok (.aload_n 0, 1) := by decide +kernel
theorem dX8_deep_20 : decode cX8_deep 20 = .ok (.iconst 1, 1) := by decide +kernel
theorem dX8_deep_21 : decode cX8_deep 21 = .ok (.invokevirtual 93, 3) := by decide +kernel
theorem dX8_deep_24 : decode cX8_deep 24 = .ok (.i2d, 1) := by decide +kernel
theorem dX8_deep_25 : decode cX8_deep 25 = .ok (.dreturn, 1) := by decide +kernel
theorem dX8_deep_26 : decode cX8_deep 26 = .ok (.aload_n 0, 1) := by decide +kernel
theorem dX8_deep_27 : decode cX8_deep 27 = .ok (.getfield 19, 3) := by decide +kernel
theorem dX8_deep_30 : decode cX8_deep 30 = .ok (.iload_n 1, 1) := by decide +kernel
theorem dX8_deep_31 : decode cX8_deep 31 = .ok (.iaload, 1) := by decide +kernel
theorem dX8_deep_32 : decode cX8_deep 32 = .ok (.aload_n 0, 1) := by decide +kernel
theorem dX8_deep_33 : decode cX8_deep 33 = .ok (.getfield 7, 3) := by decide +kernel
theorem dX8_deep_36 : decode cX8_deep 36 = .ok (.iload_n 1, 1) := by decide +kernel
theorem dX8_deep_37 : decode cX8_deep 37 = .ok (.iaload, 1) := by decide +kernel
theorem dX8_deep_38 : decode cX8_deep 38 = .ok (.if_icmp .lt 5, 3) := by decide +kernel
theorem dX8_deep_41 : decode cX8_deep 41 = .ok (.dconst 0, 1) := by decide +kernel
theorem dX8_deep_42 : decode cX8_deep 42 = .ok (.dreturn, 1) := by decide +kernel
theorem dX8_deep_43 : decode cX8_deep 43 = .ok (.aload_n 0, 1) := by decide +kernel
theorem dX8_deep_44 : decode cX8_deep 44 = .ok (.getfield 19, 3) := by decide +kernel
theorem dX8_deep_47 : decode cX8_deep 47 = .ok (.iload_n 1, 1) := by decide +kernel
theorem dX8_deep_48 : decode cX8_deep 48 = .ok (.iaload, 1) := by decide +kernel
theorem dX8_deep_49 : decode cX8_deep 49 = .ok (.i2d, 1) := by decide +kernel
theorem dX8_deep_50 : decode cX8_deep 50 = .ok (.aload_n 0, 1) := by decide +kernel
theorem dX8_deep_51 : decode cX8_deep 51 = .ok (.getfield 7, 3) := by decide +kernel
theorem dX8_deep_54 : decode cX8_deep 54 = .ok (.iload_n 1, 1) := by decide +kernel
theorem dX8_deep_55 : decode cX8_deep 55 = .ok (.iaload, 1) := by decide +kernel
theorem dX8_deep_56 : decode cX8_deep 56 = .ok (.i2d, 1) := by decide +kernel
theorem dX8_deep_57 : decode cX8_deep 57 = .ok (.ddiv, 1) := by decide +kernel
theorem dX8_deep_58 : decode cX8_deep 58 = .ok (.dstore_n 2, 1) := by decide +kernel
theorem dX8_deep_59 : decode cX8_deep 59 = .ok (.dload_n 2, 1) := by decide +kernel
theorem dX8_deep_60 : decode cX8_deep 60 = .ok (.dload_n 2, 1) := by decide +kernel
theorem dX8_deep_61 : decode cX8_deep 61 = .ok (.dmul, 1) := by decide +kernel
theorem dX8_deep_62 : decode cX8_deep 62 = .ok (.dstore 4, 2) := by decide +kernel
theorem dX8_deep_64 : decode cX8_deep 64 = .ok (.ldc2_w 107, 3) := by decide +kernel
theorem dX8_deep_67 : decode cX8_deep 67 = .ok (.dconst 1, 1) := by decide +kernel
theorem dX8_deep_68 : decode cX8_deep 68 = .ok (.dload 4, 2) := by decide +kernel
theorem dX8_deep_70 : decode cX8_deep 70 = .ok (.dload 4, 2) := by decide +kernel
theorem dX8_deep_72 : decode cX8_deep 72 = .ok (.dmul, 1) := by decide +kernel
theorem dX8_deep_73 : decode cX8_deep 73 = .ok (.dsub, 1) := by decide +kernel
theorem dX8_deep_74 : decode cX8_deep 74 = .ok (.ddiv, 1) := by decide +kernel
theorem dX8_deep_75 : decode cX8_deep 75 = .ok (.dreturn, 1) := by decide +kernel
set_option maxRecDepth 20000 in
theorem ggX8_pin_X8_in : GoodIn wsX8_pin wsX8_in := goodIn_r _ [6] (by decide +kernel) (by decide +kernel)
set_option maxRecDepth 20000 in
theorem gX8_pin_X8_in : GoodIn wsX8_pin (va_wsS RX8 89 yX8_in wsX8_in) := goodIn_app (goodIn_of _ (by decide +kernel)) ggX8_pin_X8_in
set_option maxRecDepth 20000 in
theorem ggX8_pin_X8_stop : GoodIn wsX8_pin wsX8_stop := goodIn_r _ [10, 1, 11, 12, 13, 14, 15, 16, 17, 18, 19, 20, 21, 22, 23, 24, 25, 26, 27, 28, 29, 30, 31, 32, 33, 34, 35, 36, 37, 38, 39, 40, 41, 42, 43, 44, 45, 46, 47, 48, 49] (by decide +kernel) (by decide +kernel)
set_option maxRecDepth 20000 in
theorem gX8_pin_X8_stop : GoodIn wsX8_pin (wsV RX8 93 RX8 yX8_stop wsX8_stop) := goodIn_app (goodIn_of _ (by decide +kernel)) ggX8_pin_X8_stop
theorem dX8_pin_0 : decode cX8_pin 0 = .ok (.aload_n 0, 1) := by decide +kernel
theorem dX8_pin_1 : decode cX8_pin 1 = .ok (.iconst 0, 1) := by decide +kernel
theorem dX8_pin_2 : decode cX8_pin 2 = .ok (.putfield 86, 3) := by decide +kernel
theorem dX8_pin_5 : decode cX8_pin 5 = .ok (.iload_n 1, 1) := by decide +kernel
theorem dX8_pin_6 : decode cX8_pin 6 = .ok (.iconst 0, 1) := by decide +kernel
theorem dX8_pin_7 : decode cX8_pin 7 = .ok (.bipush 47, 2) := by decide +kernel
theorem dX8_pin_9 : decode cX8_pin 9 = .ok (.invokestatic 89, 3) := by decide +kernel
theorem dX8_pin_12 : decode cX8_pin 12 = .ok (.ifCond .ne 9, 3) := by decide +kernel
theorem dX8_pin_15 : decode cX8_pin 15 = .ok (.aload_n 0, 1) := by decide +kernel
theorem dX8_pin_16 : decode cX8_pin 16 = .ok (.iconst 1, 1) := by decide +kernel
theorem dX8_pin_17 : decode cX8_pin 17 = .ok (.invokevirtual 93, 3) := by decide +kernel
theorem dX8_pin_20 : decode cX8_pin 20 = .ok (.ireturn, 1) := by decide +kernel
theorem dX8_pin_21 : decode cX8_pin 21 = .ok (.iload_n 2, 1) := by decide +kernel
theorem dX8_pin_22 : decode cX8_pin 22 = .ok (.iconst 0, 1) := by decide +kernel
theorem dX8_pin_23 : decode cX8_pin 23 = .ok (.bipush 50, 2) := by decide +kernel
theorem dX8_pin_25 : decode cX8_pin 25 = .ok (.invokestatic 89, 3) := by decide +kernel
theorem dX8_pin_28 : decode cX8_pin 28 = .ok (.ifCond .ne 9, 3) := by decide +kernel
theorem dX8_pin_31 : decode cX8_pin 31 = .ok (.aload_n 0, 1) := by decide +kernel
theorem dX8_pin_32 : decode cX8_pin 32 = .ok (.iconst 2, 1) := by decide +kernel
theorem dX8_pin_33 : decode cX8_pin 33 = .ok (.invokevirtual 93, 3) := by decide +kernel
theorem dX8_pin_36 : decode cX8_pin 36 = .ok (.ireturn, 1) := by decide +kernel
theorem dX8_pin_37 : decode cX8_pin 37 = .ok (.aload_n 0, 1) := by decide +kernel
theorem dX8_pin_38 : decode cX8_pin 38 = .ok (.getfield 25, 3) := by decide +kernel
theorem dX8_pin_41 : decode cX8_pin 41 = .ok (.iload_n 1, 1) := by decide +kernel
theorem dX8_pin_42 : decode cX8_pin 42 = .ok (.iaload, 1) := by decide +kernel
theorem dX8_pin_43 : decode cX8_pin 43 = .ok (.istore_n 3, 1) := by decide +kernel
theorem dX8_pin_44 : decode cX8_pin 44 = .ok (.aload_n 0, 1) := by decide +kernel
theorem dX8_pin_45 : decode cX8_pin 45 = .ok (.getfield 25, 3) := by decide +kernel
theorem dX8_pin_48 : decode cX8_pin 48 = .ok (.iload_n 1, 1) := by decide +kernel
theorem dX8_pin_49 : decode cX8_pin 49 = .ok (.iload_n 2, 1) := by decide +kernel
theorem dX8_pin_50 : decode cX8_pin 50 = .ok (.iastore, 1) := by decide +kernel
theorem dX8_pin_51 : decode cX8_pin 51 = .ok (.iload_n 3, 1) := by decide +kernel
theorem dX8_pin_52 : decode cX8_pin 52 = .ok (.ireturn, 1) := by decide +kernel
set_option maxRecDepth 20000 in
theorem ggX8_drive_X8_in : GoodIn wsX8_drive wsX8_in := goodIn_r _ [7] (by decide +kernel) (by decide +kernel)
set_option maxRecDepth 20000 in
theorem gX8_drive_X8_in : GoodIn wsX8_drive (va_wsS RX8 89 yX8_in wsX8_in) := goodIn_app (goodIn_of _ (by decide +kernel)) ggX8_drive_X8_in
set_option maxRecDepth 20000 in
theorem ggX8_drive_X8_stop : GoodIn wsX8_drive wsX8_stop := goodIn_r _ [11, 1, 12, 13, 14, 15, 16, 17, 18, 19, 20, 21, 22, 23, 24, 25, 26, 27, 28, 29, 30, 31, 32, 33, 34, 35, 36, 37, 38, 39, 40, 41, 42, 43, 44, 45, 46, 47, 48, 49, 50] (by decide +kernel) (by decide +kernel)
set_option maxRecDepth 20000 in
theorem gX8_drive_X8_stop : GoodIn wsX8_drive (wsV RX8 93 RX8 yX8_stop wsX8_stop) := goodIn_app (goodIn_of _ (by decide +kernel)) ggX8_drive_X8_stop
theorem dX8_drive_0 : decode cX8_drive 0 = .ok (.aload_n 0, 1) := by decide +kernel
theorem dX8_drive_1 : decode cX8_drive 1 = .ok (.iconst 0, 1) := by decide +kernel
theorem dX8_drive_2 : decode cX8_drive 2 = .ok (.putfield 86, 3) := by decide +kernel
theorem dX8_drive_5 : decode cX8_drive 5 = .ok (.iload_n 1, 1) := by decide +kernel
theorem dX8_drive_6 : decode cX8_drive 6 = .ok (.bipush (-9), 2) := by decide +kernel
theorem dX8_drive_8 : decode cX8_drive 8 = .ok (.bipush 9, 2) := by decide +kernel
theorem dX8_drive_10 : decode cX8_drive 10 = .ok (.invokestatic 89, 3) := by decide +kernel
theorem dX8_drive_13 : decode cX8_drive 13 = .ok (.ifCond .eq 13, 3) := by decide +kernel
theorem dX8_drive_16 : decode cX8_drive 16 = .ok (.iload_n 2, 1) := by decide +kernel
theorem dX8_drive_17 : decode cX8_drive 17 = .ok (.iconst 0, 1) := by decide +kernel
theorem dX8_drive_18 : decode cX8_drive 18 = .ok (.bipush 30, 2) := by decide +kernel
theorem dX8_drive_20 : decode cX8_drive 20 = .ok (.invokestatic 89, 3) := by decide +kernel
theorem dX8_drive_23 : decode cX8_drive 23 = .ok (.ifCond .ne 10, 3) := by decide +kernel
theorem dX8_drive_26 : decode cX8_drive 26 = .ok (.aload_n 0, 1) := by decide +kernel
theorem dX8_drive_27 : decode cX8_drive 27 = .ok (.iconst 1, 1) := by decide +kernel
theorem dX8_drive_28 : decode cX8_drive 28 = .ok (.invokevirtual 93, 3) := by decide +kernel
theorem dX8_drive_31 : decode cX8_drive 31 = .ok (.pop, 1) := by decide +kernel
theorem dX8_drive_32 : decode cX8_drive 32 = .ok (.return_, 1) := by decide +kernel
theorem dX8_drive_33 : decode cX8_drive 33 = .ok (.aload_n 0, 1) := by decide +kernel
theorem dX8_drive_34 : decode cX8_drive 34 = .ok (.iload_n 1, 1) := by decide +kernel
theorem dX8_drive_35 : decode cX8_drive 35 = .ok (.putfield 109, 3) := by decide +kernel
theorem dX8_drive_38 : decode cX8_drive 38 = .ok (.aload_n 0, 1) := by decide +kernel
theorem dX8_drive_39 : decode cX8_drive 39 = .ok (.iload_n 2, 1) := by decide +kernel
theorem dX8_drive_40 : decode cX8_drive 40 = .ok (.putfield 112, 3) := by decide +kernel
theorem dX8_drive_43 : decode cX8_drive 43 = .ok (.return_, 1) := by decide +kernel
set_option maxRecDepth 20000 in
theorem ggX8_energyAt_X8_size : GoodIn wsX8_energyAt wsX8_size := goodIn_r _ [8] (by decide +kernel) (by decide +kernel)
set_option maxRecDepth 20000 in
theorem gX8_energyAt_X8_size : GoodIn wsX8_energyAt (va_wsS RX8 100 yX8_size wsX8_size) := goodIn_app (goodIn_of _ (by decide +kernel)) ggX8_energyAt_X8_size
theorem dX8_energyAt_0 : decode cX8_energyAt 0 = .ok (.aload_n 0, 1) := by decide +kernel
theorem dX8_energyAt_1 : decode cX8_energyAt 1 = .ok (.getfield 25, 3) := by decide +kernel
theorem dX8_energyAt_4 : decode cX8_energyAt 4 = .ok (.iload_n 2, 1) := by decide +kernel
theorem dX8_energyAt_5 : decode cX8_energyAt 5 = .ok (.iaload, 1) := by decide +kernel
theorem dX8_energyAt_6 : decode cX8_energyAt 6 = .ok (.ineg, 1) := by decide +kernel
theorem dX8_energyAt_7 : decode cX8_energyAt 7 = .ok (.aload_n 0, 1) := by decide +kernel
theorem dX8_energyAt_8 : decode cX8_energyAt 8 = .ok (.getfield 109, 3) := by decide +kernel
theorem dX8_energyAt_11 : decode cX8_energyAt 11 = .ok (.iload_n 2, 1) := by decide +kernel
theorem dX8_energyAt_12 : decode cX8_energyAt 12 = .ok (.bipush 8, 2) := by decide +kernel
theorem dX8_energyAt_14 : decode cX8_energyAt 14 = .ok (.irem, 1) := by decide +kernel
theorem dX8_energyAt_15 : decode cX8_energyAt 15 = .ok (.imul, 1) := by decide +kernel
theorem dX8_energyAt_16 : decode cX8_energyAt 16 = .ok (.isub, 1) := by decide +kernel
theorem dX8_energyAt_17 : decode cX8_energyAt 17 = .ok (.istore_n 3, 1) := by decide +kernel
theorem dX8_energyAt_18 : decode cX8_energyAt 18 = .ok (.iconst 0, 1) := by decide +kernel
theorem dX8_energyAt_19 : decode cX8_energyAt 19 = .ok (.istore 4, 2) := by decide +kernel
theorem dX8_energyAt_21 : decode cX8_energyAt 21 = .ok (.iload 4, 2) := by decide +kernel
theorem dX8_energyAt_23 : decode cX8_energyAt 23 = .ok (.aload_n 0, 1) := by decide +kernel
theorem dX8_energyAt_24 : decode cX8_energyAt 24 = .ok (.getfield 115, 3) := by decide +kernel
theorem dX8_energyAt_27 : decode cX8_energyAt 27 = .ok (.if_icmp .ge 101, 3) := by decide +kernel
theorem dX8_energyAt_30 : decode cX8_energyAt 30 = .ok (.iload 4, 2) := by decide +kernel
theorem dX8_energyAt_32 : decode cX8_energyAt 32 = .ok (.iload_n 1, 1) := by decide +kernel
theorem dX8_energyAt_33 : decode cX8_energyAt 33 = .ok (.if_icmp .eq 89, 3) := by decide +kernel
theorem dX8_energyAt_36 : decode cX8_energyAt 36 = .ok (.aload_n 0, 1) := by decide +kernel
theorem dX8_energyAt_37 : decode cX8_energyAt 37 = .ok (.getfield 31, 3) := by decide +kernel
theorem dX8_energyAt_40 : decode cX8_energyAt 40 = .ok (.iload 4, 2) := by decide +kernel
theorem dX8_energyAt_42 : decode cX8_energyAt 42 = .ok (.iaload, 1) := by decide +kernel
theorem dX8_energyAt_43 : decode cX8_energyAt 43 = .ok (.iconst (-1), 1) := by decide +kernel
theorem dX8_energyAt_44 : decode cX8_energyAt 44 = .ok (.if_icmp .eq 78, 3) := by decide +kernel
theorem dX8_energyAt_47 : decode cX8_energyAt 47 = .ok (.aload_n 0, 1) := by decide +kernel
theorem dX8_energyAt_48 : decode cX8_energyAt 48 = .ok (.getfield 31, 3) := by decide +kernel
theorem dX8_energyAt_51 : decode cX8_energyAt 51 = .ok (.iload 4, 2) := by decide +kernel
theorem dX8_energyAt_53 : decode cX8_energyAt 53 = .ok (.iaload, 1) := by decide +kernel
theorem dX8_energyAt_54 : decode cX8_energyAt 54 = .ok (.bipush 8, 2) := by decide +kernel
theorem dX8_energyAt_56 : decode cX8_energyAt 56 = .ok (.irem, 1) := by decide +kernel
theorem dX8_energyAt_57 : decode cX8_energyAt 57 = .ok (.iload_n 2, 1) := by decide +kernel
theorem dX8_energyAt_58 : decode cX8_energyAt 58 = .ok (.bipush 8, 2) := by decide +kernel
theorem dX8_energyAt_60 : decode cX8_energyAt 60 = .ok (.irem, 1) := by decide +kernel
theorem dX8_energyAt_61 : decode cX8_energyAt 61 = .ok (.isub, 1) := by decide +kernel
theorem dX8_energyAt_62 : decode cX8_energyAt 62 = .ok (.invokestatic 100, 3) := by decide +kernel
theorem dX8_energyAt_65 : decode cX8_energyAt 65 = .ok (.aload_n 0, 1) := by decide +kernel
theorem dX8_energyAt_66 : decode cX8_energyAt 66 = .ok (.getfield 31, 3) := by decide +kernel
theorem dX8_energyAt_69 : decode cX8_energyAt 69 = .ok (.iload 4, 2) := by decide +kernel
theorem dX8_energyAt_71 : decode cX8_energyAt 71 = .ok (.iaload, 1) := by decide +kernel
theorem dX8_energyAt_72 : decode cX8_energyAt 72 = .ok (.bipush 8, 2) := by decide +kernel
theorem dX8_energyAt_74 : decode cX8_energyAt 74 = .ok (.idiv, 1) := by decide +kernel
theorem dX8_energyAt_75 : decode cX8_energyAt 75 = .ok (.iload_n 2, 1) := by decide +kernel
theorem dX8_energyAt_76 : decode cX8_energyAt 76 = .ok (.bipush 8, 2) := by decide +kernel
theorem dX8_energyAt_78 : decode cX8_energyAt 78 = .ok (.idiv, 1) := by decide +kernel
theorem dX8_energyAt_79 : decode cX8_energyAt 79 = .ok (.isub, 1) := by decide +kernel
theorem dX8_energyAt_80 : decode cX8_energyAt 80 = .ok (.invokestatic 100, 3) := by decide +kernel
theorem dX8_energyAt_83 : decode cX8_energyAt 83 = .ok (.iadd, 1) := by decide +kernel
theorem dX8_energyAt_84 : decode cX8_energyAt 84 = .ok (.istore 5, 2) := by decide +kernel
theorem dX8_energyAt_86 : decode cX8_energyAt 86 = .ok (.iload_n 3, 1) := by decide +kernel
theorem dX8_energyAt_87 : decode cX8_energyAt 87 = .ok (.iload 5, 2) := by decide +kernel
theorem dX8_energyAt_89 : decode cX8_energyAt 89 = .ok (.iconst 1, 1) := by decide +kernel
theorem dX8_energyAt_90 : decode cX8_energyAt 90 = .ok (.if_icmp .ne 8, 3) := by decide +kernel
theorem dX8_energyAt_93 : decode cX8_energyAt 93 = .ok (.bipush 12, 2) := by decide +kernel
theorem dX8_energyAt_95 : decode cX8_energyAt 95 = .ok (.goto 25, 3) := by decide +kernel
theorem dX8_energyAt_98 : decode cX8_energyAt 98 = .ok (.iload 5, 2) := by decide +kernel
theorem dX8_energyAt_100 : decode cX8_energyAt 100 = .ok (.iconst 2, 1) := by decide +kernel
theorem dX8_energyAt_101 : decode cX8_energyAt 101 = .ok (.if_icmp .ne 8, 3) := by decide +kernel
theorem dX8_energyAt_104 : decode cX8_energyAt 104 = .ok (.bipush 6, 2) := by decide +kernel
theorem dX8_energyAt_106 : decode cX8_energyAt 106 = .ok (.goto 14, 3) := by decide +kernel
theorem dX8_energyAt_109 : decode cX8_energyAt 109 = .ok (.iload 5, 2) := by decide +kernel
theorem dX8_energyAt_111 : decode cX8_energyAt 111 = .ok (.iconst 3, 1) := by decide +kernel
theorem dX8_energyAt_112 : decode cX8_energyAt 112 = .ok (.if_icmp .ne 7, 3) := by decide +kernel
theorem dX8_energyAt_115 : decode cX8_energyAt 115 = .ok (.iconst 2, 1) := by decide +kernel
theorem dX8_energyAt_116 : decode cX8_energyAt 116 = .ok (.goto 4, 3) := by decide +kernel
theorem dX8_energyAt_119 : decode cX8_energyAt 119 = .ok (.iconst 0, 1) := by decide +kernel
theorem dX8_energyAt_120 : decode cX8_energyAt 120 = .ok (.iadd, 1) := by decide +kernel
theorem dX8_energyAt_121 : decode cX8_energyAt 121 = .ok (.istore_n 3, 1) := by decide +kernel
theorem dX8_energyAt_122 : decode cX8_energyAt 122 = .ok (.iinc 4 1, 3) := by decide +kernel
theorem dX8_energyAt_125 : decode cX8_energyAt 125 = .ok (.goto (-104), 3) := by decide +kernel
theorem dX8_energyAt_128 : decode cX8_energyAt 128 = .ok (.iload_n 3, 1) := by decide +kernel
theorem dX8_energyAt_129 : decode cX8_energyAt 129 = .ok (.ireturn, 1) := by decide +kernel
set_option maxRecDepth 20000 in
theorem ggX8_enter_X8_in : GoodIn wsX8_enter wsX8_in := goodIn_r _ [8] (by decide +kernel) (by decide +kernel)
set_option maxRecDepth 20000 in
theorem gX8_enter_X8_in : GoodIn wsX8_enter (va_wsS RX8 89 yX8_in wsX8_in) := goodIn_app (goodIn_of _ (by decide +kernel)) ggX8_enter_X8_in
set_option maxRecDepth 20000 in
theorem ggX8_enter_X8_stop : GoodIn wsX8_enter wsX8_stop := goodIn_r _ [12, 1, 22, 23, 24, 25, 26, 27, 28, 29, 30, 31, 32, 33, 34, 35, 36, 37, 38, 39, 40, 41, 42, 43, 44, 45, 46, 47, 48, 49, 50, 51, 52, 53, 54, 55, 56, 57, 58, 59, 60] (by decide +kernel) (by decide +kernel)
set_option maxRecDepth 20000 in
theorem gX8_enter_X8_stop : GoodIn wsX8_enter (wsV RX8 93 RX8 yX8_stop wsX8_stop) := goodIn_app (goodIn_of _ (by decide +kernel)) ggX8_enter_X8_stop
set_option maxRecDepth 20000 in
theorem ggX8_enter_X8_energyAt : GoodIn wsX8_enter wsX8_energyAt := goodIn_r _ [16, 17, 18, 2, 4, 19, 20, 7, 21, 22, 23, 24, 25, 26, 27, 28, 29, 30, 31, 32, 33, 34, 35, 36, 37, 38, 39, 40, 41, 42, 43, 44, 45, 46, 47, 48, 49, 50, 51, 52, 53, 54, 55, 56, 57, 58, 59, 60] (by decide +kernel) (by decide +kernel)
set_option maxRecDepth 20000 in
theorem gX8_enter_X8_energyAt : GoodIn wsX8_enter (wsV RX8 118 RX8 yX8_energyAt wsX8_energyAt) := goodIn_app (goodIn_of _ (by decide +kernel)) ggX8_enter_X8_energyAt
theorem dX8_enter_0 : decode cX8_enter 0 = .ok (.aload_n 0, 1) := by decide +kernel
theorem dX8_enter_1 : decode cX8_enter 1 = .ok (.iconst 0, 1) := by decide +kernel
theorem dX8_enter_2 : decode cX8_enter 2 = .ok (.putfield 86, 3) := by decide +kernel
theorem dX8_enter_5 : decode cX8_enter 5 = .ok (.iload_n 1, 1) := by decide +kernel
theorem dX8_enter_6 : decode cX8_enter 6 = .ok (.bipush (-100), 2) := by decide +kernel
theorem dX8_enter_8 : decode cX8_enter 8 = .ok (.sipush 1000, 3) := by decide +kernel
theorem dX8_enter_11 : decode cX8_enter 11 = .ok (.invokestatic 89, 3) := by decide +kernel
theorem dX8_enter_14 : decode cX8_enter 14 = .ok (.ifCond .ne 9, 3) := by decide +kernel
theorem dX8_enter_17 : decode cX8_enter 17 = .ok (.aload_n 0, 1) := by decide +kernel
theorem dX8_enter_18 : decode cX8_enter 18 = .ok (.iconst 1, 1) := by decide +kernel
theorem dX8_enter_19 : decode cX8_enter 19 = .ok (.invokevirtual 93, 3) := by decide +kernel
theorem dX8_enter_22 : decode cX8_enter 22 = .ok (.ireturn, 1) := by decide +kernel
theorem dX8_enter_23 : decode cX8_enter 23 = .ok (.aload_n 0, 1) := by decide +kernel
theorem dX8_enter_24 : decode cX8_enter 24 = .ok (.getfield 115, 3) := by decide +kernel
theorem dX8_enter_27 : decode cX8_enter 27 = .ok (.bipush 20, 2) := by decide +kernel
theorem dX8_enter_29 : decode cX8_enter 29 = .ok (.if_icmp .ne 9, 3) := by decide +kernel
theorem dX8_enter_32 : decode cX8_enter 32 = .ok (.aload_n 0, 1) := by decide +kernel
theorem dX8_enter_33 : decode cX8_enter 33 = .ok (.iconst 2, 1) := by decide +kernel
theorem dX8_enter_34 : decode cX8_enter 34 = .ok (.invokevirtual 93, 3) := by decide +kernel
theorem dX8_enter_37 : decode cX8_enter 37 = .ok (.ireturn, 1) := by decide +kernel
theorem dX8_enter_38 : decode cX8_enter 38 = .ok (.iconst (-1), 1) := by decide +kernel
theorem dX8_enter_39 : decode cX8_enter 39 = .ok (.istore_n 2, 1) := by decide +kernel
theorem dX8_enter_40 : decode cX8_enter 40 = .ok (.iconst 0, 1) := by decide +kernel
theorem dX8_enter_41 : decode cX8_enter 41 = .ok (.istore_n 3, 1) := by decide +kernel
theorem dX8_enter_42 : decode cX8_enter 42 = .ok (.iload_n 3, 1) := by decide +kernel
theorem dX8_enter_43 : decode cX8_enter 43 = .ok (.bipush 6, 2) := by decide +kernel
theorem dX8_enter_45 : decode cX8_enter 45 = .ok (.if_icmp .ge 72, 3) := by decide +kernel
theorem dX8_enter_48 : decode cX8_enter 48 = .ok (.bipush 8, 2) := by decide +kernel
theorem dX8_enter_50 : decode cX8_enter 50 = .ok (.iload_n 3, 1) := by decide +kernel
theorem dX8_enter_51 : decode cX8_enter 51 = .ok (.imul, 1) := by decide +kernel
theorem dX8_enter_52 : decode cX8_enter 52 = .ok (.istore 4, 2) := by decide +kernel
theorem dX8_enter_54 : decode cX8_enter 54 = .ok (.aload_n 0, 1) := by decide +kernel
theorem dX8_enter_55 : decode cX8_enter 55 = .ok (.getfield 28, 3) := by decide +kernel
theorem dX8_enter_58 : decode cX8_enter 58 = .ok (.iload 4, 2) := by decide +kernel
theorem dX8_enter_60 : decode cX8_enter 60 = .ok (.iaload, 1) := by decide +kernel
theorem dX8_enter_61 : decode cX8_enter 61 = .ok (.iconst (-1), 1) := by decide +kernel
theorem dX8_enter_62 : decode cX8_enter 62 = .ok (.if_icmp .ne 34, 3) := by decide +kernel
theorem dX8_enter_65 : decode cX8_enter 65 = .ok (.iload_n 2, 1) := by decide +kernel
theorem dX8_enter_66 : decode cX8_enter 66 = .ok (.iconst (-1), 1) := by decide +kernel
theorem dX8_enter_67 : decode cX8_enter 67 = .ok (.if_icmp .eq 25, 3) := by decide +kernel
theorem dX8_enter_70 : decode cX8_enter 70 = .ok (.aload_n 0, 1) := by decide +kernel
theorem dX8_enter_71 : decode cX8_enter 71 = .ok (.aload_n 0, 1) := by decide +kernel
theorem dX8_enter_72 : decode cX8_enter 72 = .ok (.getfield 115, 3) := by decide +kernel
theorem dX8_enter_75 : decode cX8_enter 75 = .ok (.iload 4, 2) := by decide +kernel
theorem dX8_enter_77 : decode cX8_enter 77 = .ok (.invokevirtual 118, 3) := by decide +kernel
theorem dX8_enter_80 : decode cX8_enter 80 = .ok (.aload_n 0, 1) := by decide +kernel
theorem dX8_enter_81 : decode cX8_enter 81 = .ok (.aload_n 0, 1) := by decide +kernel
theorem dX8_enter_82 : decode cX8_enter 82 = .ok (.getfield 115, 3) := by decide +kernel
theorem dX8_enter_85 : decode cX8_enter 85 = .ok (.iload_n 2, 1) := by decide +kernel
theorem dX8_enter_86 : decode cX8_enter 86 = .ok (.invokevirtual 118, 3) := by decide +kernel
theorem dX8_enter_89 : decode cX8_enter 89 = .ok (.if_icmp .ge 7, 3) := by decide +kernel
theorem dX8_enter_92 : decode cX8_enter 92 = .ok (.iconst 1, 1) := by decide +kernel
theorem dX8_enter_93 : decode cX8_enter 93 = .ok (.goto 4, 3) := by decide +kernel
theorem dX8_enter_96 : decode cX8_enter 96 = .ok (.iconst 0, 1) := by decide +kernel
theorem dX8_enter_97 : decode cX8_enter 97 = .ok (.istore 5, 2) := by decide +kernel
theorem dX8_enter_99 : decode cX8_enter 99 = .ok (.iload 5, 2) := by decide +kernel
theorem dX8_enter_101 : decode cX8_enter 101 = .ok (.ifCond .eq 8, 3) := by decide +kernel
theorem dX8_enter_104 : decode cX8_enter 104 = .ok (.iload 4, 2) := by decide +kernel
theorem dX8_enter_106 : decode cX8_enter 106 = .ok (.goto 4, 3) := by decide +kernel
theorem dX8_enter_109 : decode cX8_enter 109 = .ok (.iload_n 2, 1) := by decide +kernel
theorem dX8_enter_110 : decode cX8_enter 110 = .ok (.istore_n 2, 1) := by decide +kernel
theorem dX8_enter_111 : decode cX8_enter 111 = .ok (.iinc 3 1, 3) := by decide +kernel
theorem dX8_enter_114 : decode cX8_enter 114 = .ok (.goto (-72), 3) := by decide +kernel
theorem dX8_enter_117 : decode cX8_enter 117 = .ok (.iload_n 2, 1) := by decide +kernel
theorem dX8_enter_118 : decode cX8_enter 118 = .ok (.iconst (-1), 1) := by decide +kernel
theorem dX8_enter_119 : decode cX8_enter 119 = .ok (.if_icmp .eq 16, 3) := by decide +kernel
theorem dX8_enter_122 : decode cX8_enter 122 = .ok (.aload_n 0, 1) := by decide +kernel
theorem dX8_enter_123 : decode cX8_enter 123 = .ok (.aload_n 0, 1) := by decide +kernel
theorem dX8_enter_124 : decode cX8_enter 124 = .ok (.getfield 115, 3) := by decide +kernel
theorem dX8_enter_127 : decode cX8_enter 127 = .ok (.iload_n 2, 1) := by decide +kernel
theorem dX8_enter_128 : decode cX8_enter 128 = .ok (.invokevirtual 118, 3) := by decide +kernel
theorem dX8_enter_131 : decode cX8_enter 131 = .ok (.iload_n 1, 1) := by decide +kernel
theorem dX8_enter_132 : decode cX8_enter 132 = .ok (.if_icmp .le 5, 3) := by decide +kernel
theorem dX8_enter_135 : decode cX8_enter 135 = .ok (.iconst (-1), 1) := by decide +kernel
theorem dX8_enter_136 : decode cX8_enter 136 = .ok (.ireturn, 1) := by decide +kernel
