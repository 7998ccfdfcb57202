theorem dJx4a65c_add_72be8_0 : decode cJx4a65c_add_72be8 0 = .ok (.iload_n 3, 1) := by decide +kernel
theorem dJx4a65c_add_72be8_1 : decode cJx4a65c_add_72be8 1 = .ok (.aload_n 2, 1) := by decide +kernel
theorem dJx4a65c_add_72be8_2 : decode cJx4a65c_add_72be8 2 = .ok (.arraylength, 1) := by decide +kernel
theorem dJx4a65c_add_72be8_3 : decode cJx4a65c_add_72be8 3 = .ok (.if_icmp .ne 8, 3) := by decide +kernel
theorem dJx4a65c_add_72be8_6 : decode cJx4a65c_add_72be8 6 = .ok (.aload_n 0, 1) := by decide +kernel
theorem dJx4a65c_add_72be8_7 : decode cJx4a65c_add_72be8 7 = .ok (.invokevirtual 129, 3) := by decide +kernel
theorem dJx4a65c_add_72be8_10 : decode cJx4a65c_add_72be8 10 = .ok (.astore_n 2, 1) := by decide +kernel
theorem dJx4a65c_add_72be8_11 : decode cJx4a65c_add_72be8 11 = .ok (.aload_n 2, 1) := by decide +kernel
theorem dJx4a65c_add_72be8_12 : decode cJx4a65c_add_72be8 12 = .ok (.iload_n 3, 1) := by decide +kernel
theorem dJx4a65c_add_72be8_13 : decode cJx4a65c_add_72be8 13 = .ok (.aload_n 1, 1) := by decide +kernel
theorem dJx4a65c_add_72be8_14 : decode cJx4a65c_add_72be8 14 = .ok (.aastore, 1) := by decide +kernel
theorem dJx4a65c_add_72be8_15 : decode cJx4a65c_add_72be8 15 = .ok (.aload_n 0, 1) := by decide +kernel
theorem dJx4a65c_add_72be8_16 : decode cJx4a65c_add_72be8 16 = .ok (.iload_n 3, 1) := by decide +kernel
theorem dJx4a65c_add_72be8_17 : decode cJx4a65c_add_72be8 17 = .ok (.iconst 1, 1) := by decide +kernel
theorem dJx4a65c_add_72be8_18 : decode cJx4a65c_add_72be8 18 = .ok (.iadd, 1) := by decide +kernel
theorem dJx4a65c_add_72be8_19 : decode cJx4a65c_add_72be8 19 = .ok (.putfield 48, 3) := by decide +kernel
theorem dJx4a65c_add_72be8_22 : decode cJx4a65c_add_72be8 22 = .ok (.return_, 1) := by decide +kernel
set_option maxRecDepth 20000 in
theorem ggJx4a65c_add_9ea2d_Jx4a65c_add_72be8 : GoodIn wsJx4a65c_add_9ea2d wsJx4a65c_add_72be8 := goodIn_r _ [9, 4, 10, 11, 12, 8, 13, 14, 15, 16, 17, 3, 18, 19, 20, 21, 22, 23, 24, 25, 26, 27, 28, 29, 30, 31, 32, 33, 34, 35, 36, 37, 38, 39, 40, 41, 42, 43, 44, 45, 46, 47, 48, 49, 50, 51, 52, 53, 54, 55] (by decide +kernel) (by decide +kernel)
set_option maxRecDepth 20000 in
theorem gJx4a65c_add_9ea2d_Jx4a65c_add_72be8 : GoodIn wsJx4a65c_add_9ea2d (wsV RJx4a65c 131 RJx4a65c yJx4a65c_add_72be8 wsJx4a65c_add_72be8) := goodIn_app (goodIn_of _ (by decide +kernel)) ggJx4a65c_add_9ea2d_Jx4a65c_add_72be8
theorem dJx4a65c_add_9ea2d_0 : decode cJx4a65c_add_9ea2d 0 = .ok (.aload_n 0, 1) := by decide +kernel
theorem dJx4a65c_add_9ea2d_1 : decode cJx4a65c_add_9ea2d 1 = .ok (.dup, 1) := by decide +kernel
theorem dJx4a65c_add_9ea2d_2 : decode cJx4a65c_add_9ea2d 2 = .ok (.getfield 63, 3) := by decide +kernel
theorem dJx4a65c_add_9ea2d_5 : decode cJx4a65c_add_9ea2d 5 = .ok (.iconst 1, 1) := by decide +kernel
theorem dJx4a65c_add_9ea2d_6 : decode cJx4a65c_add_9ea2d 6 = .ok (.iadd, 1) := by decide +kernel
theorem dJx4a65c_add_9ea2d_7 : decode cJx4a65c_add_9ea2d 7 = .ok (.putfield 63, 3) := by decide +kernel
theorem dJx4a65c_add_9ea2d_10 : decode cJx4a65c_add_9ea2d 10 = .ok (.aload_n 0, 1) := by decide +kernel
theorem dJx4a65c_add_9ea2d_11 : decode cJx4a65c_add_9ea2d 11 = .ok (.aload_n 1, 1) := by decide +kernel
theorem dJx4a65c_add_9ea2d_12 : decode cJx4a65c_add_9ea2d 12 = .ok (.aload_n 0, 1) := by decide +kernel
theorem dJx4a65c_add_9ea2d_13 : decode cJx4a65c_add_9ea2d 13 = .ok (.getfield 9, 3) := by decide +kernel
theorem dJx4a65c_add_9ea2d_16 : decode cJx4a65c_add_9ea2d 16 = .ok (.aload_n 0, 1) := by decide +kernel
theorem dJx4a65c_add_9ea2d_17 : decode cJx4a65c_add_9ea2d 17 = .ok (.getfield 48, 3) := by decide +kernel
theorem dJx4a65c_add_9ea2d_20 : decode cJx4a65c_add_9ea2d 20 = .ok (.invokevirtual 131, 3) := by decide +kernel
theorem dJx4a65c_add_9ea2d_23 : decode cJx4a65c_add_9ea2d 23 = .ok (.iconst 1, 1) := by decide +kernel
theorem dJx4a65c_add_9ea2d_24 : decode cJx4a65c_add_9ea2d 24 = .ok (.ireturn, 1) := by decide +kernel
set_option maxRecDepth 20000 in
theorem ggJ7_copyOf_1904c_J7_copyOf_6403c : GoodIn wsJ7_copyOf_1904c wsJ7_copyOf_6403c := goodIn_r _ [8, 9, 10, 11, 12, 13, 14, 15, 16, 17, 18] (by decide +kernel) (by decide +kernel)
set_option maxRecDepth 20000 in
theorem gJ7_copyOf_1904c_J7_copyOf_6403c : GoodIn wsJ7_copyOf_1904c (va_wsS RJ7 300 yJ7_copyOf_6403c wsJ7_copyOf_6403c) := goodIn_app (goodIn_of _ (by decide +kernel)) ggJ7_copyOf_1904c_J7_copyOf_6403c
theorem dJ7_copyOf_1904c_0 : decode cJ7_copyOf_1904c 0 = .ok (.aload_n 0, 1) := by decide +kernel
theorem dJ7_copyOf_1904c_1 : decode cJ7_copyOf_1904c 1 = .ok (.iload_n 1, 1) := by decide +kernel
theorem dJ7_copyOf_1904c_2 : decode cJ7_copyOf_1904c 2 = .ok (.aload_n 0, 1) := by decide +kernel
theorem dJ7_copyOf_1904c_3 : decode cJ7_copyOf_1904c 3 = .ok (.invokevirtual 86, 3) := by decide +kernel
theorem dJ7_copyOf_1904c_6 : decode cJ7_copyOf_1904c 6 = .ok (.invokestatic 300, 3) := by decide +kernel
theorem dJ7_copyOf_1904c_9 : decode cJ7_copyOf_1904c 9 = .ok (.areturn, 1) := by decide +kernel
theorem dJ7_copyOf_6403c_0 : decode cJ7_copyOf_6403c 0 = .ok (.aload_n 2, 1) := by decide +kernel
theorem dJ7_copyOf_6403c_1 : decode cJ7_copyOf_6403c 1 = .ok (.ldc 110, 2) := by decide +kernel
theorem dJ7_copyOf_6403c_3 : decode cJ7_copyOf_6403c 3 = .ok (.if_acmp .ne 10, 3) := by decide +kernel
theorem dJ7_copyOf_6403c_6 : decode cJ7_copyOf_6403c 6 = .ok (.iload_n 1, 1) := by decide +kernel
theorem dJ7_copyOf_6403c_7 : decode cJ7_copyOf_6403c 7 = .ok (.anewarray 2, 3) := by decide +kernel
theorem dJ7_copyOf_6403c_10 : decode cJ7_copyOf_6403c 10 = .ok (.goto 14, 3) := by decide +kernel
theorem dJ7_copyOf_6403c_13 : decode cJ7_copyOf_6403c 13 = .ok (.aload_n 2, 1) := by decide +kernel
theorem dJ7_copyOf_6403c_14 : decode cJ7_copyOf_6403c 14 = .ok (.invokevirtual 90, 3) := by decide +kernel
theorem dJ7_copyOf_6403c_17 : decode cJ7_copyOf_6403c 17 = .ok (.iload_n 1, 1) := by decide +kernel
theorem dJ7_copyOf_6403c_18 : decode cJ7_copyOf_6403c 18 = .ok (.invokestatic 95, 3) := by decide +kernel
theorem dJ7_copyOf_6403c_21 : decode cJ7_copyOf_6403c 21 = .ok (.checkcast 110, 3) := by decide +kernel
theorem dJ7_copyOf_6403c_24 : decode cJ7_copyOf_6403c 24 = .ok (.astore_n 3, 1) := by decide +kernel
theorem dJ7_copyOf_6403c_25 : decode cJ7_copyOf_6403c 25 = .ok (.aload_n 0, 1) := by decide +kernel
theorem dJ7_copyOf_6403c_26 : decode cJ7_copyOf_6403c 26 = .ok (.iconst 0, 1) := by decide +kernel
theorem dJ7_copyOf_6403c_27 : decode cJ7_copyOf_6403c 27 = .ok (.aload_n 3, 1) := by decide +kernel
theorem dJ7_copyOf_6403c_28 : decode cJ7_copyOf_6403c 28 = .ok (.iconst 0, 1) := by decide +kernel
theorem dJ7_copyOf_6403c_29 : decode cJ7_copyOf_6403c 29 = .ok (.aload_n 0, 1) := by decide +kernel
theorem dJ7_copyOf_6403c_30 : decode cJ7_copyOf_6403c 30 = .ok (.arraylength, 1) := by decide +kernel
theorem dJ7_copyOf_6403c_31 : decode cJ7_copyOf_6403c 31 = .ok (.iload_n 1, 1) := by decide +kernel
theorem dJ7_copyOf_6403c_32 : decode cJ7_copyOf_6403c 32 = .ok (.invokestatic 304, 3) := by decide +kernel
theorem dJ7_copyOf_6403c_35 : decode cJ7_copyOf_6403c 35 = .ok (.invokestatic 150, 3) := by decide +kernel
theorem dJ7_copyOf_6403c_38 : decode cJ7_copyOf_6403c 38 = .ok (.aload_n 3, 1) := by decide +kernel
theorem dJ7_copyOf_6403c_39 : decode cJ7_copyOf_6403c 39 = .ok (.areturn, 1) := by decide +kernel
set_option maxRecDepth 20000 in
theorem ggJ15_checkIndex_7cf53_J3_checkIndex_8e157 : GoodIn wsJ15_checkIndex_7cf53 wsJ3_checkIndex_8e157 := goodIn_r _ [4] (by decide +kernel) (by decide +kernel)
set_option maxRecDepth 20000 in
theorem gJ15_checkIndex_7cf53_J3_checkIndex_8e157 : GoodIn wsJ15_checkIndex_7cf53 (va_wsS RJ15 105 yJ3_checkIndex_8e157 wsJ3_checkIndex_8e157) := goodIn_app (goodIn_of _ (by decide +kernel)) ggJ15_checkIndex_7cf53_J3_checkIndex_8e157
theorem dJ15_checkIndex_7cf53_0 : decode cJ15_checkIndex_7cf53 0 = .ok (.iload_n 0, 1) := by decide +kernel
theorem dJ15_checkIndex_7cf53_1 : decode cJ15_checkIndex_7cf53 1 = .ok (.iload_n 1, 1) := by decide +kernel
theorem dJ15_checkIndex_7cf53_2 : decode cJ15_checkIndex_7cf53 2 = .ok (.aconst_null, 1) := by decide +kernel
theorem dJ15_checkIndex_7cf53_3 : decode cJ15_checkIndex_7cf53 3 = .ok (.invokestatic 105, 3) := by decide +kernel
theorem dJ15_checkIndex_7cf53_6 : decode cJ15_checkIndex_7cf53 6 = .ok (.ireturn, 1) := by decide +kernel
set_option maxRecDepth 20000 in
theorem ggJ8_newLength_cabcc_J8_hugeLength_7cf53 : GoodIn wsJ8_newLength_cabcc wsJ8_hugeLength_7cf53 := goodIn_r _ [9, 5] (by decide +kernel) (by decide +kernel)
set_option maxRecDepth 20000 in
theorem gJ8_newLength_cabcc_J8_hugeLength_7cf53 : GoodIn wsJ8_newLength_cabcc (va_wsS RJ8 201 yJ8_hugeLength_7cf53 wsJ8_hugeLength_7cf53) := goodIn_app (goodIn_of _ (by decide +kernel)) ggJ8_newLength_cabcc_J8_hugeLength_7cf53
theorem dJ8_newLength_cabcc_0 : decode cJ8_newLength_cabcc 0 = .ok (.iload_n 0, 1) := by decide +kernel
theorem dJ8_newLength_cabcc_1 : decode cJ8_newLength_cabcc 1 = .ok (.iload_n 1, 1) := by decide +kernel
theorem dJ8_newLength_cabcc_2 : decode cJ8_newLength_cabcc 2 = .ok (.iload_n 2, 1) := by decide +kernel
theorem dJ8_newLength_cabcc_3 : decode cJ8_newLength_cabcc 3 = .ok (.invokestatic 194, 3) := by decide +kernel
theorem dJ8_newLength_cabcc_6 : decode cJ8_newLength_cabcc 6 = .ok (.iadd, 1) := by decide +kernel
theorem dJ8_newLength_cabcc_7 : decode cJ8_newLength_cabcc 7 = .ok (.istore_n 3, 1) := by decide +kernel
theorem dJ8_newLength_cabcc_8 : decode cJ8_newLength_cabcc 8 = .ok (.iconst 0, 1) := by decide +kernel
theorem dJ8_newLength_cabcc_9 : decode cJ8_newLength_cabcc 9 = .ok (.iload_n 3, 1) := by decide +kernel
theorem dJ8_newLength_cabcc_10 : decode cJ8_newLength_cabcc 10 = .ok (.if_icmp .ge 11, 3) := by decide +kernel
theorem dJ8_newLength_cabcc_13 : decode cJ8_newLength_cabcc 13 = .ok (.iload_n 3, 1) := by decide +kernel
theorem dJ8_newLength_cabcc_14 : decode cJ8_newLength_cabcc 14 = .ok (.ldc 200, 2) := by decide +kernel
theorem dJ8_newLength_cabcc_16 : decode cJ8_newLength_cabcc 16 = .ok (.if_icmp .gt 5, 3) := by decide +kernel
theorem dJ8_newLength_cabcc_19 : decode cJ8_newLength_cabcc 19 = .ok (.iload_n 3, 1) := by decide +kernel
theorem dJ8_newLength_cabcc_20 : decode cJ8_newLength_cabcc 20 = .ok (.ireturn, 1) := by decide +kernel
theorem dJ8_newLength_cabcc_21 : decode cJ8_newLength_cabcc 21 = .ok (.iload_n 0, 1) := by decide +kernel
theorem dJ8_newLength_cabcc_22 : decode cJ8_newLength_cabcc 22 = .ok (.iload_n 1, 1) := by decide +kernel
theorem dJ8_newLength_cabcc_23 : decode cJ8_newLength_cabcc 23 = .ok (.invokestatic 201, 3) := by decide +kernel
theorem dJ8_newLength_cabcc_26 : decode cJ8_newLength_cabcc 26 = .ok (.ireturn, 1) := by decide +kernel
theorem dJ8_hugeLength_7cf53_0 : decode cJ8_hugeLength_7cf53 0 = .ok (.iload_n 0, 1) := by decide +kernel
theorem dJ8_hugeLength_7cf53_1 : decode cJ8_hugeLength_7cf53 1 = .ok (.iload_n 1, 1) := by decide +kernel
theorem dJ8_hugeLength_7cf53_2 : decode cJ8_hugeLength_7cf53 2 = .ok (.iadd, 1) := by decide +kernel
theorem dJ8_hugeLength_7cf53_3 : decode cJ8_hugeLength_7cf53 3 = .ok (.istore_n 2, 1) := by decide +kernel
theorem dJ8_hugeLength_7cf53_4 : decode cJ8_hugeLength_7cf53 4 = .ok (.iload_n 2, 1) := by decide +kernel
theorem dJ8_hugeLength_7cf53_5 : decode cJ8_hugeLength_7cf53 5 = .ok (.ifCond .ge 44, 3) := by decide +kernel
theorem dJ8_hugeLength_7cf53_8 : decode cJ8_hugeLength_7cf53 8 = .ok (.new 204, 3) := by decide +kernel
theorem dJ8_hugeLength_7cf53_11 : decode cJ8_hugeLength_7cf53 11 = .ok (.dup, 1) := by decide +kernel
theorem dJ8_hugeLength_7cf53_12 : decode cJ8_hugeLength_7cf53 12 = .ok (.new 89, 3) := by decide +kernel
theorem dJ8_hugeLength_7cf53_15 : decode cJ8_hugeLength_7cf53 15 = .ok (.dup, 1) := by decide +kernel
theorem dJ8_hugeLength_7cf53_16 : decode cJ8_hugeLength_7cf53 16 = .ok (.invokespecial 91, 3) := by decide +kernel
theorem dJ8_hugeLength_7cf53_19 : decode cJ8_hugeLength_7cf53 19 = .ok (.ldc 206, 2) := by decide +kernel
theorem dJ8_hugeLength_7cf53_21 : decode cJ8_hugeLength_7cf53 21 = .ok (.invokevirtual 94, 3) := by decide +kernel
theorem dJ8_hugeLength_7cf53_24 : decode cJ8_hugeLength_7cf53 24 = .ok (.iload_n 0, 1) := by decide +kernel
theorem dJ8_hugeLength_7cf53_25 : decode cJ8_hugeLength_7cf53 25 = .ok (.invokevirtual 98, 3) := by decide +kernel
theorem dJ8_hugeLength_7cf53_28 : decode cJ8_hugeLength_7cf53 28 = .ok (.ldc 208, 2) := by decide +kernel
theorem dJ8_hugeLength_7cf53_30 : decode cJ8_hugeLength_7cf53 30 = .ok (.invokevirtual 94, 3) := by decide +kernel
theorem dJ8_hugeLength_7cf53_33 : decode cJ8_hugeLength_7cf53 33 = .ok (.iload_n 1, 1) := by decide +kernel
theorem dJ8_hugeLength_7cf53_34 : decode cJ8_hugeLength_7cf53 34 = .ok (.invokevirtual 98, 3) := by decide +kernel
theorem dJ8_hugeLength_7cf53_37 : decode cJ8_hugeLength_7cf53 37 = .ok (.ldc 210, 2) := by decide +kernel
theorem dJ8_hugeLength_7cf53_39 : decode cJ8_hugeLength_7cf53 39 = .ok (.invokevirtual 94, 3) := by decide +kernel
theorem dJ8_hugeLength_7cf53_42 : decode cJ8_hugeLength_7cf53 42 = .ok (.invokevirtual 101, 3) := by decide +kernel
theorem dJ8_hugeLength_7cf53_45 : decode cJ8_hugeLength_7cf53 45 = .ok (.invokespecial 212, 3) := by decide +kernel
theorem dJ8_hugeLength_7cf53_48 : decode cJ8_hugeLength_7cf53 48 = .ok (.athrow, 1) := by decide +kernel
theorem dJ8_hugeLength_7cf53_49 : decode cJ8_hugeLength_7cf53 49 = .ok (.iload_n 2, 1) := by decide +kernel
theorem dJ8_hugeLength_7cf53_50 : decode cJ8_hugeLength_7cf53 50 = .ok (.ldc 200, 2) := by decide +kernel
theorem dJ8_hugeLength_7cf53_52 : decode cJ8_hugeLength_7cf53 52 = .ok (.if_icmp .gt 6, 3) := by decide +kernel
theorem dJ8_hugeLength_7cf53_55 : decode cJ8_hugeLength_7cf53 55 = .ok (.ldc 200, 2) := by decide +kernel
theorem dJ8_hugeLength_7cf53_57 : decode cJ8_hugeLength_7cf53 57 = .ok (.ireturn, 1) := by decide +kernel
theorem dJ8_hugeLength_7cf53_58 : decode cJ8_hugeLength_7cf53 58 = .ok (.iload_n 2, 1) := by decide +kernel
theorem dJ8_hugeLength_7cf53_59 : decode cJ8_hugeLength_7cf53 59 = .ok (.ireturn, 1) := by decide +kernel
theorem dJ3_checkIndex_8e157_0 : decode cJ3_checkIndex_8e157 0 = .ok (.iload_n 0, 1) := by decide +kernel
theorem dJ3_checkIndex_8e157_1 : decode cJ3_checkIndex_8e157 1 = .ok (.ifCond .lt 8, 3) := by decide +kernel
theorem dJ3_checkIndex_8e157_4 : decode cJ3_checkIndex_8e157 4 = .ok (.iload_n 0, 1) := by decide +kernel
theorem dJ3_checkIndex_8e157_5 : decode cJ3_checkIndex_8e157 5 = .ok (.iload_n 1, 1) := by decide +kernel
theorem dJ3_checkIndex_8e157_6 : decode cJ3_checkIndex_8e157 6 = .ok (.if_icmp .lt 10, 3) := by decide +kernel
theorem dJ3_checkIndex_8e157_9 : decode cJ3_checkIndex_8e157 9 = .ok (.aload_n 2, 1) := by decide +kernel
theorem dJ3_checkIndex_8e157_10 : decode cJ3_checkIndex_8e157 10 = .ok (.iload_n 0, 1) := by decide +kernel
theorem dJ3_checkIndex_8e157_11 : decode cJ3_checkIndex_8e157 11 = .ok (.iload_n 1, 1) := by decide +kernel
theorem dJ3_checkIndex_8e157_12 : decode cJ3_checkIndex_8e157 12 = .ok (.invokestatic 95, 3) := by decide +kernel
theorem dJ3_checkIndex_8e157_15 : decode cJ3_checkIndex_8e157 15 = .ok (.athrow, 1) := by decide +kernel
theorem dJ3_checkIndex_8e157_16 : decode cJ3_checkIndex_8e157 16 = .ok (.iload_n 0, 1) := by decide +kernel
theorem dJ3_checkIndex_8e157_17 : decode cJ3_checkIndex_8e157 17 = .ok (.ireturn, 1) := by decide +kernel
set_option maxRecDepth 20000 in
theorem ggL_sample_X7_sample : GoodIn wsL_sample wsX7_sample := goodIn_ca (goodIn_ca (goodIn_r _ [7, 8, 9, 10, 11, 12, 13, 6, 14, 15, 16, 17, 18, 19, 20, 21, 22, 23, 24, 25, 26, 27, 28, 29, 30, 31, 32, 33, 34, 35, 36, 37, 38, 39, 40, 41, 42, 43, 44, 45, 46, 47, 48, 49, 50, 51, 52, 53, 54, 55, 56, 57, 58, 59, 60, 61, 62, 63, 64, 65, 66, 67, 68, 69, 70, 71, 72, 73, 74, 75, 76, 77, 78, 79, 80, 81, 82, 83, 84, 85, 86, 87, 88, 89, 90, 91, 92, 93, 94, 95, 96, 97, 98, 99, 100, 101, 102, 103, 104, 105] (by decide +kernel) (by decide +kernel)) (goodIn_sub (fun _ h => List.mem_cons_of_mem _ (List.mem_append_left _ (List.mem_append_right _ h))) (by decide +kernel))) (goodIn_sub (fun _ h => List.mem_cons_of_mem _ (List.mem_append_right _ h)) (by decide +kernel))
set_option maxRecDepth 20000 in
theorem gL_sample_X7_sample : GoodIn wsL_sample (wsV RL 7 RX7 yX7_sample wsX7_sample) := goodIn_app (goodIn_of _ (by decide +kernel)) ggL_sample_X7_sample
theorem dL_sample_0 : decode cL_sample 0 = .ok (.aload 4, 2) := by decide +kernel
theorem dL_sample_2 : decode cL_sample 2 = .ok (.iconst 0, 1) := by decide +kernel
theorem dL_sample_3 : decode cL_sample 3 = .ok (.aload_n 0, 1) := by decide +kernel
theorem dL_sample_4 : decode cL_sample 4 = .ok (.iload_n 1, 1) := by decide +kernel
theorem dL_sample_5 : decode cL_sample 5 = .ok (.iload_n 2, 1) := by decide +kernel
theorem dL_sample_6 : decode cL_sample 6 = .ok (.iload_n 3, 1) := by decide +kernel
theorem dL_sample_7 : decode cL_sample 7 = .ok (.invokevirtual 7, 3) := by decide +kernel
theorem dL_sample_10 : decode cL_sample 10 = .ok (.i2l, 1) := by decide +kernel
theorem dL_sample_11 : decode cL_sample 11 = .ok (.lastore, 1) := by decide +kernel
theorem dL_sample_12 : decode cL_sample 12 = .ok (.goto 11, 3) := by decide +kernel
theorem dL_sample_15 : decode cL_sample 15 = .ok (.astore 5, 2) := by decide +kernel
theorem dL_sample_17 : decode cL_sample 17 = .ok (.iconst 1, 1) := by decide +kernel
theorem dL_sample_18 : decode cL_sample 18 = .ok (.ireturn, 1) := by decide +kernel
theorem dL_sample_19 : decode cL_sample 19 = .ok (.astore 5, 2) := by decide +kernel
theorem dL_sample_21 : decode cL_sample 21 = .ok (.iconst 2, 1) := by decide +kernel
theorem dL_sample_22 : decode cL_sample 22 = .ok (.ireturn, 1) := by decide +kernel
theorem dL_sample_23 : decode cL_sample 23 = .ok (.iconst 0, 1) := by decide +kernel
theorem dL_sample_24 : decode cL_sample 24 = .ok (.ireturn, 1) := by decide +kernel
set_option maxRecDepth 20000 in
theorem ggL_set_X7_set : GoodIn wsL_set wsX7_set := goodIn_ca (goodIn_ca (goodIn_r _ [7, 8, 9, 10, 11, 12, 13, 14, 15, 16, 17, 18, 19, 6, 20, 21, 22, 23, 24, 25, 26, 27, 28, 29, 30, 31, 32, 33, 34, 35, 36, 37, 38, 39, 40, 41, 42, 43, 44, 45, 46, 47, 48, 49, 50, 51, 52, 53, 54, 55, 56, 57, 58, 59, 60, 61, 62, 63, 64, 65, 66, 67, 68, 69, 70, 71, 72, 73, 74, 75, 76, 77] (by decide +kernel) (by decide +kernel)) (goodIn_sub (fun _ h => List.mem_cons_of_mem _ (List.mem_append_left _ (List.mem_append_right _ h))) (by decide +kernel))) (goodIn_sub (fun _ h => List.mem_cons_of_mem _ (List.mem_append_right _ h)) (by decide +kernel))
set_option maxRecDepth 20000 in
theorem gL_set_X7_set : GoodIn wsL_set (wsV RL 17 RX7 yX7_set wsX7_set) := goodIn_app (goodIn_of _ (by decide +kernel)) ggL_set_X7_set
theorem dL_set_0 : decode cL_set 0 = .ok (.aload 4, 2) := by decide +kernel
theorem dL_set_2 : decode cL_set 2 = .ok (.iconst 0, 1) := by decide +kernel
theorem dL_set_3 : decode cL_set 3 = .ok (.aload_n 0, 1) := by decide +kernel
theorem dL_set_4 : decode cL_set 4 = .ok (.iload_n 1, 1) := by decide +kernel
theorem dL_set_5 : decode cL_set 5 = .ok (.iload_n 2, 1) := by decide +kernel
theorem dL_set_6 : decode cL_set 6 = .ok (.iload_n 3, 1) := by decide +kernel
theorem dL_set_7 : decode cL_set 7 = .ok (.invokevirtual 17, 3) := by decide +kernel
theorem dL_set_10 : decode cL_set 10 = .ok (.i2l, 1) := by decide +kernel
theorem dL_set_11 : decode cL_set 11 = .ok (.lastore, 1) := by decide +kernel
theorem dL_set_12 : decode cL_set 12 = .ok (.goto 11, 3) := by decide +kernel
theorem dL_set_15 : decode cL_set 15 = .ok (.astore 5, 2) := by decide +kernel
theorem dL_set_17 : decode cL_set 17 = .ok (.iconst 1, 1) := by decide +kernel
theorem dL_set_18 : decode cL_set 18 = .ok (.ireturn, 1) := by decide +kernel
theorem dL_set_19 : decode cL_set 19 = .ok (.astore 5, 2) := by decide +kernel
theorem dL_set_21 : decode cL_set 21 = .ok (.iconst 2, 1) := by decide +kernel
theorem dL_set_22 : decode cL_set 22 = .ok (.ireturn, 1) := by decide +kernel
theorem dL_set_23 : decode cL_set 23 = .ok (.iconst 0, 1) := by decide +kernel
theorem dL_set_24 : decode cL_set 24 = .ok (.ireturn, 1) := by decide +kernel
set_option maxRecDepth 20000 in
theorem ggL_deep_X7_deep : GoodIn wsL_deep wsX7_deep := goodIn_ca (goodIn_r _ [6, 7, 8, 9, 10, 11, 12, 13, 14, 15, 16, 5, 17, 18, 19, 20, 21, 22, 23, 24, 25, 26, 27, 28, 29, 30, 31, 32, 33, 34, 35, 36, 37, 38, 39, 40, 41, 42, 43, 44, 45, 46, 47, 48, 49, 50, 51, 52, 53, 54, 55, 56, 57, 58, 59] (by decide +kernel) (by decide +kernel)) (goodIn_sub (fun _ h => List.mem_cons_of_mem _ (List.mem_append_right _ h)) (by decide +kernel))
set_option maxRecDepth 20000 in
theorem gL_deep_X7_deep : GoodIn wsL_deep (wsV RL 22 RX7 yX7_deep wsX7_deep) := goodIn_app (goodIn_of _ (by decide +kernel)) ggL_deep_X7_deep
theorem dL_deep_0 : decode cL_deep 0 = .ok (.aload_n 2, 1) := by decide +kernel
theorem dL_deep_1 : decode cL_deep 1 = .ok (.iconst 0, 1) := by decide +kernel
theorem dL_deep_2 : decode cL_deep 2 = .ok (.aload_n 0, 1) := by decide +kernel
theorem dL_deep_3 : decode cL_deep 3 = .ok (.iload_n 1, 1) := by decide +kernel
theorem dL_deep_4 : decode cL_deep 4 = .ok (.invokevirtual 22, 3) := by decide +kernel
theorem dL_deep_7 : decode cL_deep 7 = .ok (.dastore, 1) := by decide +kernel
theorem dL_deep_8 : decode cL_deep 8 = .ok (.goto 6, 3) := by decide +kernel
theorem dL_deep_11 : decode cL_deep 11 = .ok (.astore_n 3, 1) := by decide +kernel
theorem dL_deep_12 : decode cL_deep 12 = .ok (.iconst 1, 1) := by decide +kernel
theorem dL_deep_13 : decode cL_deep 13 = .ok (.ireturn, 1) := by decide +kernel
theorem dL_deep_14 : decode cL_deep 14 = .ok (.iconst 0, 1) := by decide +kernel
theorem dL_deep_15 : decode cL_deep 15 = .ok (.ireturn, 1) := by decide +kernel
set_option maxRecDepth 20000 in
theorem ggL_pin_X7_pin : GoodIn wsL_pin wsX7_pin := goodIn_ca (goodIn_ca (goodIn_r _ [7, 8, 9, 10, 11, 6, 12, 13, 14, 15, 16, 17, 18, 19, 20, 21, 22, 23, 24, 25, 26, 27, 28, 29, 30, 31] (by decide +kernel) (by decide +kernel)) (goodIn_sub (fun _ h => List.mem_cons_of_mem _ (List.mem_append_left _ (List.mem_append_right _ h))) (by decide +kernel))) (goodIn_sub (fun _ h => List.mem_cons_of_mem _ (List.mem_append_right _ h)) (by decide +kernel))
set_option maxRecDepth 20000 in
theorem gL_pin_X7_pin : GoodIn wsL_pin (wsV RL 26 RX7 yX7_pin wsX7_pin) := goodIn_app (goodIn_of _ (by decide +kernel)) ggL_pin_X7_pin
theorem dL_pin_0 : decode cL_pin 0 = .ok (.aload_n 3, 1) := by decide +kernel
theorem dL_pin_1 : decode cL_pin 1 = .ok (.iconst 0, 1) := by decide +kernel
theorem dL_pin_2 : decode cL_pin 2 = .ok (.aload_n 0, 1) := by decide +kernel
theorem dL_pin_3 : decode cL_pin 3 = .ok (.iload_n 1, 1) := by decide +kernel
theorem dL_pin_4 : decode cL_pin 4 = .ok (.iload_n 2, 1) := by decide +kernel
theorem dL_pin_5 : decode cL_pin 5 = .ok (.invokevirtual 26, 3) := by decide +kernel
theorem dL_pin_8 : decode cL_pin 8 = .ok (.i2l, 1) := by decide +kernel
theorem dL_pin_9 : decode cL_pin 9 = .ok (.lastore, 1) := by decide +kernel
theorem dL_pin_10 : decode cL_pin 10 = .ok (.goto 11, 3) := by decide +kernel
theorem dL_pin_13 : decode cL_pin 13 = .ok (.astore 4, 2) := by decide +kernel
theorem dL_pin_15 : decode cL_pin 15 = .ok (.iconst 1, 1) := by decide +kernel
theorem dL_pin_16 : decode cL_pin 16 = .ok (.ireturn, 1) := by decide +kernel
theorem dL_pin_17 : decode cL_pin 17 = .ok (.astore 4, 2) := by decide +kernel
theorem dL_pin_19 : decode cL_pin 19 = .ok (.iconst 2, 1) := by decide +kernel
theorem dL_pin_20 : decode cL_pin 20 = .ok (.ireturn, 1) := by decide +kernel
theorem dL_pin_21 : decode cL_pin 21 = .ok (.iconst 0, 1) := by decide +kernel
theorem dL_pin_22 : decode cL_pin 22 = .ok (.ireturn, 1) := by decide +kernel
set_option maxRecDepth 20000 in
theorem ggL_drive_X7_drive : GoodIn wsL_drive wsX7_drive := goodIn_ca (goodIn_r _ [6, 7, 8, 9, 10, 11, 5, 12, 13, 14, 15, 16, 17, 18, 19, 20, 21, 22, 23, 24, 25, 26] (by decide +kernel) (by decide +kernel)) (goodIn_sub (fun _ h => List.mem_cons_of_mem _ (List.mem_append_right _ h)) (by decide +kernel))
set_option maxRecDepth 20000 in
theorem gL_drive_X7_drive : GoodIn wsL_drive (wsV RL 30 RX7 yX7_drive wsX7_drive) := goodIn_app (goodIn_of _ (by decide +kernel)) ggL_drive_X7_drive
theorem dL_drive_0 : decode cL_drive 0 = .ok (.aload_n 0, 1) := by decide +kernel
theorem dL_drive_1 : decode cL_drive 1 = .ok (.iload_n 1, 1) := by decide +kernel
theorem dL_drive_2 : decode cL_drive 2 = .ok (.iload_n 2, 1) := by decide +kernel
theorem dL_drive_3 : decode cL_drive 3 = .ok (.invokevirtual 30, 3) := by decide +kernel
theorem dL_drive_6 : decode cL_drive 6 = .ok (.goto 6, 3) := by decide +kernel
theorem dL_drive_9 : decode cL_drive 9 = .ok (.astore_n 3, 1) := by decide +kernel
theorem dL_drive_10 : decode cL_drive 10 = .ok (.iconst 1, 1) := by decide +kernel
theorem dL_drive_11 : decode cL_drive 11 = .ok (.ireturn, 1) := by decide +kernel
theorem dL_drive_12 : decode cL_drive 12 = .ok (.iconst 0, 1) := by decide +kernel
theorem dL_drive_13 : decode cL_drive 13 = .ok (.ireturn, 1) := by decide +kernel
set_option maxRecDepth 20000 in
theorem ggL_enter_X7_enter : GoodIn wsL_enter wsX7_enter := goodIn_ca (goodIn_ca (goodIn_r _ [7, 8, 9, 10, 11, 12, 6, 13, 14, 15, 16, 17, 18, 19, 20, 21, 22, 23, 24, 25, 26, 27, 28, 29, 30, 31, 32, 33, 34, 35, 36, 37, 38, 39, 40, 41, 42, 43, 44, 45, 46, 47, 48, 49, 50, 51, 52, 53, 54, 55, 56, 57, 58, 59, 60] (by decide +kernel) (by decide +kernel)) (goodIn_sub (fun _ h => List.mem_cons_of_mem _ (List.mem_append_left _ (List.mem_append_right _ h))) (by decide +kernel))) (goodIn_sub (fun _ h => List.mem_cons_of_mem _ (List.mem_append_right _ h)) (by decide +kernel))
set_option maxRecDepth 20000 in
theorem gL_enter_X7_enter : GoodIn wsL_enter (wsV RL 34 RX7 yX7_enter wsX7_enter) := goodIn_app (goodIn_of _ (by decide +kernel)) ggL_enter_X7_enter
theorem dL_enter_0 : decode cL_enter 0 = .ok (.aload_n 2, 1) := by decide +kernel
theorem dL_enter_1 : decode cL_enter 1 = .ok (.iconst 0, 1) := by decide +kernel
theorem dL_enter_2 : decode cL_enter 2 = .ok (.aload_n 0, 1) := by decide +kernel
theorem dL_enter_3 : decode cL_enter 3 = .ok (.iload_n 1, 1) := by decide +kernel
theorem dL_enter_4 : decode cL_enter 4 = .ok (.invokevirtual 34, 3) := by decide +kernel
theorem dL_enter_7 : decode cL_enter 7 = .ok (.i2l, 1) := by decide +kernel
theorem dL_enter_8 : decode cL_enter 8 = .ok (.lastore, 1) := by decide +kernel
theorem dL_enter_9 : decode cL_enter 9 = .ok (.goto 9, 3) := by decide +kernel
theorem dL_enter_12 : decode cL_enter 12 = .ok (.astore_n 3, 1) := by decide +kernel
theorem dL_enter_13 : decode cL_enter 13 = .ok (.iconst 1, 1) := by decide +kernel
theorem dL_enter_14 : decode cL_enter 14 = .ok (.ireturn, 1) := by decide +kernel
theorem dL_enter_15 : decode cL_enter 15 = .ok (.astore_n 3, 1) := by decide +kernel
theorem dL_enter_16 : decode cL_enter 16 = .ok (.iconst 2, 1) := by decide +kernel
theorem dL_enter_17 : decode cL_enter 17 = .ok (.ireturn, 1) := by decide +kernel
theorem dL_enter_18 : decode cL_enter 18 = .ok (.iconst 0, 1) := by decide +kernel
theorem dL_enter_19 : decode cL_enter 19 = .ok (.ireturn, 1) := by decide +kernel
set_option maxRecDepth 20000 in
theorem ggL_whirlAt_X7_whirlAt : GoodIn wsL_whirlAt wsX7_whirlAt := goodIn_ca (goodIn_r _ [6, 7, 8, 9, 10, 5, 11, 12, 13, 14, 15, 16, 17, 18, 19, 20, 21, 22, 23, 24, 25, 26, 27, 28, 29, 30, 31] (by decide +kernel) (by decide +kernel)) (goodIn_sub (fun _ h => List.mem_cons_of_mem _ (List.mem_append_right _ h)) (by decide +kernel))
set_option maxRecDepth 20000 in
theorem gL_whirlAt_X7_whirlAt : GoodIn wsL_whirlAt (wsV RL 38 RX7 yX7_whirlAt wsX7_whirlAt) := goodIn_app (goodIn_of _ (by decide +kernel)) ggL_whirlAt_X7_whirlAt
theorem dL_whirlAt_0 : decode cL_whirlAt 0 = .ok (.aload_n 2, 1) := by decide +kernel
theorem dL_whirlAt_1 : decode cL_whirlAt 1 = .ok (.iconst 0, 1) := by decide +kernel
theorem dL_whirlAt_2 : decode cL_whirlAt 2 = .ok (.aload_n 0, 1) := by decide +kernel
theorem dL_whirlAt_3 : decode cL_whirlAt 3 = .ok (.iload_n 1, 1) := by decide +kernel
theorem dL_whirlAt_4 : decode cL_whirlAt 4 = .ok (.invokevirtual 38, 3) := by decide +kernel
theorem dL_whirlAt_7 : decode cL_whirlAt 7 = .ok (.i2l, 1) := by decide +kernel
theorem dL_whirlAt_8 : decode cL_whirlAt 8 = .ok (.lastore, 1) := by decide +kernel
theorem dL_whirlAt_9 : decode cL_whirlAt 9 = .ok (.goto 6, 3) := by decide +kernel
theorem dL_whirlAt_12 : decode cL_whirlAt 12 = .ok (.astore_n 3, 1) := by decide +kernel
theorem dL_whirlAt_13 : decode cL_whirlAt 13 = .ok (.iconst 1, 1) := by decide +kernel
theorem dL_whirlAt_14 : decode cL_whirlAt 14 = .ok (.ireturn, 1) := by decide +kernel
theorem dL_whirlAt_15 : decode cL_whirlAt 15 = .ok (.iconst 0, 1) := by decide +kernel
theorem dL_whirlAt_16 : decode cL_whirlAt 16 = .ok (.ireturn, 1) := by decide +kernel
set_option maxRecDepth 20000 in
theorem ggL_energy_X7_energy : GoodIn wsL_energy wsX7_energy := goodIn_ca (goodIn_r _ [6, 7, 8, 9, 10, 5, 11, 12, 13, 14, 15, 16, 17, 18, 19, 20, 21, 22, 23, 24, 25, 26, 27, 28, 29, 30, 31, 32, 33, 34, 35, 36, 37, 38, 39, 40, 41, 42, 43, 44, 45, 46, 47, 48] (by decide +kernel) (by decide +kernel)) (goodIn_sub (fun _ h => List.mem_cons_of_mem _ (List.mem_append_right _ h)) (by decide +kernel))
set_option maxRecDepth 20000 in
theorem gL_energy_X7_energy : GoodIn wsL_energy (wsV RL 41 RX7 yX7_energy wsX7_energy) := goodIn_app (goodIn_of _ (by decide +kernel)) ggL_energy_X7_energy
theorem dL_energy_0 : decode cL_energy 0 = .ok (.aload_n 2, 1) := by decide +kernel
theorem dL_energy_1 : decode cL_energy 1 = .ok (.iconst 0, 1) := by decide +kernel
theorem dL_energy_2 : decode cL_energy 2 = .ok (.aload_n 0, 1) := by decide +kernel
theorem dL_energy_3 : decode cL_energy 3 = .ok (.iload_n 1, 1) := by decide +kernel
theorem dL_energy_4 : decode cL_energy 4 = .ok (.invokevirtual 41, 3) := by decide +kernel
theorem dL_energy_7 : decode cL_energy 7 = .ok (.i2l, 1) := by decide +kernel
theorem dL_energy_8 : decode cL_energy 8 = .ok (.lastore, 1) := by decide +kernel
theorem dL_energy_9 : decode cL_energy 9 = .ok (.goto 6, 3) := by decide +kernel
theorem dL_energy_12 : decode cL_energy 12 = .ok (.astore_n 3, 1) := by decide +kernel
theorem dL_energy_13 : decode cL_energy 13 = .ok (.iconst 1, 1) := by decide +kernel
theorem dL_energy_14 : decode cL_energy 14 = .ok (.ireturn, 1) := by decide +kernel
theorem dL_energy_15 : decode cL_energy 15 = .ok (.iconst 0, 1) := by decide +kernel
theorem dL_energy_16 : decode cL_energy 16 = .ok (.ireturn, 1) := by decide +kernel
set_option maxRecDepth 20000 in
theorem ggL_ring_X7_ring : GoodIn wsL_ring wsX7_ring := goodIn_ca (goodIn_ca (goodIn_r _ [7, 8, 9, 10, 11, 12, 13, 6, 14, 15, 16, 17, 18, 19, 20, 21, 22, 23, 24, 25, 26, 27, 28, 29, 30, 31, 32, 33, 34, 35, 36, 37, 38, 39, 40, 41, 42, 43, 44, 45, 46, 47, 48, 49, 50, 51, 52, 53, 54, 55, 56, 57, 58, 59, 60, 61, 62, 63, 64, 65, 66, 67, 68, 69, 70, 71, 72, 73, 74, 75, 76, 77, 78, 79, 80, 81, 82, 83, 84, 85, 86, 87, 88, 89, 90, 91, 92, 93, 94, 95, 96, 97, 98, 99, 100, 101, 102, 103, 104] (by decide +kernel) (by decide +kernel)) (goodIn_sub (fun _ h => List.mem_cons_of_mem _ (List.mem_append_left _ (List.mem_append_right _ h))) (by decide +kernel))) (goodIn_sub (fun _ h => List.mem_cons_of_mem _ (List.mem_append_right _ h)) (by decide +kernel))
set_option maxRecDepth 20000 in
theorem gL_ring_X7_ring : GoodIn wsL_ring (wsV RL 44 RX7 yX7_ring wsX7_ring) := goodIn_app (goodIn_of _ (by decide +kernel)) ggL_ring_X7_ring
theorem dL_ring_0 : decode cL_ring 0 = .ok (.aload_n 3, 1) := by decide +kernel
theorem dL_ring_1 : decode cL_ring 1 = .ok (.iconst 0, 1) := by decide +kernel
theorem dL_ring_2 : decode cL_ring 2 = .ok (.aload_n 0, 1) := by decide +kernel
theorem dL_ring_3 : decode cL_ring 3 = .ok (.iload_n 1, 1) := by decide +kernel
theorem dL_ring_4 : decode cL_ring 4 = .ok (.iload_n 2, 1) := by decide +kernel
theorem dL_ring_5 : decode cL_ring 5 = .ok (.invokevirtual 44, 3) := by decide +kernel
theorem dL_ring_8 : decode cL_ring 8 = .ok (.i2l, 1) := by decide +kernel
theorem dL_ring_9 : decode cL_ring 9 = .ok (.lastore, 1) := by decide +kernel
theorem dL_ring_10 : decode cL_ring 10 = .ok (.goto 11, 3) := by decide +kernel
theorem dL_ring_13 : decode cL_ring 13 = .ok (.astore 4, 2) := by decide +kernel
theorem dL_ring_15 : decode cL_ring 15 = .ok (.iconst 1, 1) := by decide +kernel
theorem dL_ring_16 : decode cL_ring 16 = .ok (.ireturn, 1) := by decide +kernel
theorem dL_ring_17 : decode cL_ring 17 = .ok (.astore 4, 2) := by decide +kernel
theorem dL_ring_19 : decode cL_ring 19 = .ok (.iconst 2, 1) := by decide +kernel
theorem dL_ring_20 : decode cL_ring 20 = .ok (.ireturn, 1) := by decide +kernel
theorem dL_ring_21 : decode cL_ring 21 = .ok (.iconst 0, 1) := by decide +kernel
theorem dL_ring_22 : decode cL_ring 22 = .ok (.ireturn, 1) := by decide +kernel
set_option maxRecDepth 20000 in
theorem ggL_flux_X7_flux : GoodIn wsL_flux wsX7_flux := goodIn_ca (goodIn_ca (goodIn_r _ [7, 8, 9, 10, 11, 12, 13, 14, 15, 16, 17, 18, 19, 20, 6, 21, 22, 23, 24, 25, 26, 27, 28, 29, 30, 31, 32, 33, 34, 35, 36, 37, 38, 39, 40, 41, 42, 43, 44, 45, 46, 47, 48, 49, 50, 51, 52, 53, 54, 55, 56, 57, 58, 59, 60, 61, 62, 63, 64, 65, 66, 67, 68, 69, 70, 71, 72, 73, 74, 75, 76, 77, 78, 79] (by decide +kernel) (by decide +kernel)) (goodIn_sub (fun _ h => List.mem_cons_of_mem _ (List.mem_append_left _ (List.mem_append_right _ h))) (by decide +kernel))) (goodIn_sub (fun _ h => List.mem_cons_of_mem _ (List.mem_append_right _ h)) (by decide +kernel))
set_option maxRecDepth 20000 in
theorem gL_flux_X7_flux : GoodIn wsL_flux (wsV RL 47 RX7 yX7_flux wsX7_flux) := goodIn_app (goodIn_of _ (by decide +kernel)) ggL_flux_X7_flux
theorem dL_flux_0 : decode cL_flux 0 = .ok (.aload_n 3, 1) := by decide +kernel
theorem dL_flux_1 : decode cL_flux 1 = .ok (.iconst 0, 1) := by decide +kernel
theorem dL_flux_2 : decode cL_flux 2 = .ok (.aload_n 0, 1) := by decide +kernel
theorem dL_flux_3 : decode cL_flux 3 = .ok (.iload_n 1, 1) := by decide +kernel
theorem dL_flux_4 : decode cL_flux 4 = .ok (.iload_n 2, 1) := by decide +kernel
theorem dL_flux_5 : decode cL_flux 5 = .ok (.invokevirtual 47, 3) := by decide +kernel
theorem dL_flux_8 : decode cL_flux 8 = .ok (.i2l, 1) := by decide +kernel
theorem dL_flux_9 : decode cL_flux 9 = .ok (.lastore, 1) := by decide +kernel
theorem dL_flux_10 : decode cL_flux 10 = .ok (.goto 11, 3) := by decide +kernel
theorem dL_flux_13 : decode cL_flux 13 = .ok (.astore 4, 2) := by decide +kernel
theorem dL_flux_15 : decode cL_flux 15 = .ok (.iconst 1, 1) := by decide +kernel
theorem dL_flux_16 : decode cL_flux 16 = .ok (.ireturn, 1) := by decide +kernel
theorem dL_flux_17 : decode cL_flux 17 = .ok (.astore 4, 2) := by decide +kernel
theorem dL_flux_19 : decode cL_flux 19 = .ok (.iconst 2, 1) := by decide +kernel
theorem dL_flux_20 : decode cL_flux 20 = .ok (.ireturn, 1) := by decide +kernel
theorem dL_flux_21 : decode cL_flux 21 = .ok (.iconst 0, 1) := by decide +kernel
theorem dL_flux_22 : decode cL_flux 22 = .ok (.ireturn, 1) := by decide +kernel
set_option maxRecDepth 20000 in
theorem ggL_warm_X7_warm : GoodIn wsL_warm wsX7_warm := goodIn_ca (goodIn_r _ [6, 7, 8, 9, 10, 11, 12, 13, 14, 15, 16, 17, 5, 18, 19, 20, 21, 22, 23, 24, 25, 26, 27, 28, 29, 30, 31, 32, 33, 34, 35, 36, 37, 38, 39, 40, 41, 42, 43, 44, 45, 46, 47, 48, 49, 50, 51, 52, 53, 54, 55, 56, 57, 58, 59, 60, 61, 62] (by decide +kernel) (by decide +kernel)) (goodIn_sub (fun _ h => List.mem_cons_of_mem _ (List.mem_append_right _ h)) (by decide +kernel))
set_option maxRecDepth 20000 in
theorem gL_warm_X7_warm : GoodIn wsL_warm (wsV RL 50 RX7 yX7_warm wsX7_warm) := goodIn_app (goodIn_of _ (by decide +kernel)) ggL_warm_X7_warm
theorem dL_warm_0 : decode cL_warm 0 = .ok (.aload_n 2, 1) := by decide +kernel
theorem dL_warm_1 : decode cL_warm 1 = .ok (.iconst 0, 1) := by decide +kernel
theorem dL_warm_2 : decode cL_warm 2 = .ok (.aload_n 0, 1) := by decide +kernel
theorem dL_warm_3 : decode cL_warm 3 = .ok (.iload_n 1, 1) := by decide +kernel
theorem dL_warm_4 : decode cL_warm 4 = .ok (.invokevirtual 50, 3) := by decide +kernel
theorem dL_warm_7 : decode cL_warm 7 = .ok (.i2l, 1) := by decide +kernel
theorem dL_warm_8 : decode cL_warm 8 = .ok (.lastore, 1) := by decide +kernel
theorem dL_warm_9 : decode cL_warm 9 = .ok (.goto 6, 3) := by decide +kernel
theorem dL_warm_12 : decode cL_warm 12 = .ok (.astore_n 3, 1) := by decide +kernel
theorem dL_warm_13 : decode cL_warm 13 = .ok (.iconst 1, 1) := by decide +kernel
theorem dL_warm_14 : decode cL_warm 14 = .ok (.ireturn, 1) := by decide +kernel
theorem dL_warm_15 : decode cL_warm 15 = .ok (.iconst 0, 1) := by decide +kernel
theorem dL_warm_16 : decode cL_warm 16 = .ok (.ireturn, 1) := by decide +kernel
set_option maxRecDepth 20000 in
theorem ggL_ofRing_X7_ofRing : GoodIn wsL_ofRing wsX7_ofRing := goodIn_ca (goodIn_ca (goodIn_r _ [7, 8, 9, 10, 11, 12, 13, 14, 15, 16, 17, 18, 19, 6, 20, 21, 22, 23, 24, 25, 26, 27, 28, 29, 30, 31, 32, 33, 34, 35, 36, 37, 38, 39, 40, 41, 42, 43, 44, 45, 46, 47, 48, 49, 50, 51, 52, 53, 54, 55, 56, 57, 58, 59, 60, 61, 62, 63, 64, 65, 66] (by decide +kernel) (by decide +kernel)) (goodIn_sub (fun _ h => List.mem_cons_of_mem _ (List.mem_append_left _ (List.mem_append_right _ h))) (by decide +kernel))) (goodIn_sub (fun _ h => List.mem_cons_of_mem _ (List.mem_append_right _ h)) (by decide +kernel))
set_option maxRecDepth 20000 in
theorem gL_ofRing_X7_ofRing : GoodIn wsL_ofRing (wsV RL 53 RX7 yX7_ofRing wsX7_ofRing) := goodIn_app (goodIn_of _ (by decide +kernel)) ggL_ofRing_X7_ofRing
theorem dL_ofRing_0 : decode cL_ofRing 0 = .ok (.aload_n 3, 1) := by decide +kernel
theorem dL_ofRing_1 : decode cL_ofRing 1 = .ok (.iconst 0, 1) := by decide +kernel
theorem dL_ofRing_2 : decode cL_ofRing 2 = .ok (.aload_n 0, 1) := by decide +kernel
theorem dL_ofRing_3 : decode cL_ofRing 3 = .ok (.iload_n 1, 1) := by decide +kernel
theorem dL_ofRing_4 : decode cL_ofRing 4 = .ok (.iload_n 2, 1) := by decide +kernel
theorem dL_ofRing_5 : decode cL_ofRing 5 = .ok (.invokevirtual 53, 3) := by decide +kernel
theorem dL_ofRing_8 : decode cL_ofRing 8 = .ok (.i2l, 1) := by decide +kernel
theorem dL_ofRing_9 : decode cL_ofRing 9 = .ok (.lastore, 1) := by decide +kernel
theorem dL_ofRing_10 : decode cL_ofRing 10 = .ok (.goto 11, 3) := by decide +kernel
theorem dL_ofRing_13 : decode cL_ofRing 13 = .ok (.astore 4, 2) := by decide +kernel
theorem dL_ofRing_15 : decode cL_ofRing 15 = .ok (.iconst 1, 1) := by decide +kernel
theorem dL_ofRing_16 : decode cL_ofRing 16 = .ok (.ireturn, 1) := by decide +kernel
theorem dL_ofRing_17 : decode cL_ofRing 17 = .ok (.astore 4, 2) := by decide +kernel
theorem dL_ofRing_19 : decode cL_ofRing 19 = .ok (.iconst 2, 1) := by decide +kernel
theorem dL_ofRing_20 : decode cL_ofRing 20 = .ok (.ireturn, 1) := by decide +kernel
theorem dL_ofRing_21 : decode cL_ofRing 21 = .ok (.iconst 0, 1) := by decide +kernel
theorem dL_ofRing_22 : decode cL_ofRing 22 = .ok (.ireturn, 1) := by decide +kernel
set_option maxRecDepth 20000 in
theorem ggL_current_X7_current : GoodIn wsL_current wsX7_current := goodIn_ca (goodIn_r _ [6, 7, 8, 9, 10, 11, 12, 5, 13, 14, 15, 16, 17, 18, 19, 20, 21, 22, 23, 24, 25, 26, 27, 28, 29] (by decide +kernel) (by decide +kernel)) (goodIn_sub (fun _ h => List.mem_cons_of_mem _ (List.mem_append_right _ h)) (by decide +kernel))
set_option maxRecDepth 20000 in
theorem gL_current_X7_current : GoodIn wsL_current (wsV RL 56 RX7 yX7_current wsX7_current) := goodIn_app (goodIn_of _ (by decide +kernel)) ggL_current_X7_current
theorem dL_current_0 : decode cL_current 0 = .ok (.aload_n 2, 1) := by decide +kernel
theorem dL_current_1 : decode cL_current 1 = .ok (.iconst 0, 1) := by decide +kernel
theorem dL_current_2 : decode cL_current 2 = .ok (.aload_n 0, 1) := by decide +kernel
theorem dL_current_3 : decode cL_current 3 = .ok (.iload_n 1, 1) := by decide +kernel
theorem dL_current_4 : decode cL_current 4 = .ok (.invokevirtual 56, 3) := by decide +kernel
theorem dL_current_7 : decode cL_current 7 = .ok (.i2l, 1) := by decide +kernel
theorem dL_current_8 : decode cL_current 8 = .ok (.lastore, 1) := by decide +kernel
theorem dL_current_9 : decode cL_current 9 = .ok (.goto 6, 3) := by decide +kernel
theorem dL_current_12 : decode cL_current 12 = .ok (.astore_n 3, 1) := by decide +kernel
theorem dL_current_13 : decode cL_current 13 = .ok (.iconst 1, 1) := by decide +kernel
theorem dL_current_14 : decode cL_current 14 = .ok (.ireturn, 1) := by decide +kernel
theorem dL_current_15 : decode cL_current 15 = .ok (.iconst 0, 1) := by decide +kernel
theorem dL_current_16 : decode cL_current 16 = .ok (.ireturn, 1) := by decide +kernel
set_option maxRecDepth 20000 in
theorem ggL_heat_X7_heat : GoodIn wsL_heat wsX7_heat := goodIn_ca (goodIn_ca (goodIn_r _ [7, 8, 9, 10, 11, 12, 13, 14, 15, 6, 16, 17, 18, 19, 20, 21, 22, 23, 24, 25, 26, 27, 28, 29, 30, 31, 32, 33, 34, 35, 36, 37] (by decide +kernel) (by decide +kernel)) (goodIn_sub (fun _ h => List.mem_cons_of_mem _ (List.mem_append_left _ (List.mem_append_right _ h))) (by decide +kernel))) (goodIn_sub (fun _ h => List.mem_cons_of_mem _ (List.mem_append_right _ h)) (by decide +kernel))
set_option maxRecDepth 20000 in
theorem gL_heat_X7_heat : GoodIn wsL_heat (wsV RL 59 RX7 yX7_heat wsX7_heat) := goodIn_app (goodIn_of _ (by decide +kernel)) ggL_heat_X7_heat
theorem dL_heat_0 : decode cL_heat 0 = .ok (.aload_n 3, 1) := by decide +kernel
theorem dL_heat_1 : decode cL_heat 1 = .ok (.iconst 0, 1) := by decide +kernel
theorem dL_heat_2 : decode cL_heat 2 = .ok (.aload_n 0, 1) := by decide +kernel
theorem dL_heat_3 : decode cL_heat 3 = .ok (.iload_n 1, 1) := by decide +kernel
theorem dL_heat_4 : decode cL_heat 4 = .ok (.iload_n 2, 1) := by decide +kernel
theorem dL_heat_5 : decode cL_heat 5 = .ok (.invokevirtual 59, 3) := by decide +kernel
theorem dL_heat_8 : decode cL_heat 8 = .ok (.i2l, 1) := by decide +kernel
theorem dL_heat_9 : decode cL_heat 9 = .ok (.lastore, 1) := by decide +kernel
theorem dL_heat_10 : decode cL_heat 10 = .ok (.goto 11, 3) := by decide +kernel
theorem dL_heat_13 : decode cL_heat 13 = .ok (.astore 4, 2) := by decide +kernel
theorem dL_heat_15 : decode cL_heat 15 = .ok (.iconst 1, 1) := by decide +kernel
theorem dL_heat_16 : decode cL_heat 16 = .ok (.ireturn, 1) := by decide +kernel
theorem dL_heat_17 : decode cL_heat 17 = .ok (.astore 4, 2) := by decide +kernel
theorem dL_heat_19 : decode cL_heat 19 = .ok (.iconst 2, 1) := by decide +kernel
theorem dL_heat_20 : decode cL_heat 20 = .ok (.ireturn, 1) := by decide +kernel
theorem dL_heat_21 : decode cL_heat 21 = .ok (.iconst 0, 1) := by decide +kernel
theorem dL_heat_22 : decode cL_heat 22 = .ok (.ireturn, 1) := by decide +kernel
set_option maxRecDepth 20000 in
theorem ggL_pass_X7_pass : GoodIn wsL_pass wsX7_pass := goodIn_ca (goodIn_r _ [6, 7, 8, 9, 10, 5, 11, 12, 13, 14, 15, 16, 17, 18, 19, 20, 21, 22, 23, 24, 25, 26, 27, 28, 29, 30, 31, 32, 33, 34, 35, 36, 37, 38, 39, 40, 41, 42, 43, 44, 45, 46, 47, 48, 49, 50, 51, 52, 53, 54, 55, 56, 57, 58, 59, 60, 61, 62, 63, 64, 65, 66, 67, 68, 69, 70, 71, 72, 73, 74, 75, 76, 77, 78] (by decide +kernel) (by decide +kernel)) (goodIn_sub (fun _ h => List.mem_cons_of_mem _ (List.mem_append_right _ h)) (by decide +kernel))
set_option maxRecDepth 20000 in
theorem gL_pass_X7_pass : GoodIn wsL_pass (wsV RL 62 RX7 yX7_pass wsX7_pass) := goodIn_app (goodIn_of _ (by decide +kernel)) ggL_pass_X7_pass
theorem dL_pass_0 : decode cL_pass 0 = .ok (.aload_n 2, 1) := by decide +kernel
theorem dL_pass_1 : decode cL_pass 1 = .ok (.iconst 0, 1) := by decide +kernel
theorem dL_pass_2 : decode cL_pass 2 = .ok (.aload_n 0, 1) := by decide +kernel
theorem dL_pass_3 : decode cL_pass 3 = .ok (.iload_n 1, 1) := by decide +kernel
theorem dL_pass_4 : decode cL_pass 4 = .ok (.invokevirtual 62, 3) := by decide +kernel
theorem dL_pass_7 : decode cL_pass 7 = .ok (.i2l, 1) := by decide +kernel
theorem dL_pass_8 : decode cL_pass 8 = .ok (.lastore, 1) := by decide +kernel
theorem dL_pass_9 : decode cL_pass 9 = .ok (.goto 6, 3) := by decide +kernel
theorem dL_pass_12 : decode cL_pass 12 = .ok (.astore_n 3, 1) := by decide +kernel
theorem dL_pass_13 : decode cL_pass 13 = .ok (.iconst 1, 1) := by decide +kernel
theorem dL_pass_14 : decode cL_pass 14 = .ok (.ireturn, 1) := by decide +kernel
theorem dL_pass_15 : decode cL_pass 15 = .ok (.iconst 0, 1) := by decide +kernel
theorem dL_pass_16 : decode cL_pass 16 = .ok (.ireturn, 1) := by decide +kernel
set_option maxRecDepth 20000 in
theorem ggL_warmth_X7_warmth : GoodIn wsL_warmth wsX7_warmth := goodIn_ca (goodIn_r _ [6, 7, 8, 9, 10, 5, 11, 12, 13, 14, 15, 16, 17, 18, 19, 20, 21, 22, 23, 24, 25, 26, 27] (by decide +kernel) (by decide +kernel)) (goodIn_sub (fun _ h => List.mem_cons_of_mem _ (List.mem_append_right _ h)) (by decide +kernel))
set_option maxRecDepth 20000 in
theorem gL_warmth_X7_warmth : GoodIn wsL_warmth (wsV RL 65 RX7 yX7_warmth wsX7_warmth) := goodIn_app (goodIn_of _ (by decide +kernel)) ggL_warmth_X7_warmth
theorem dL_warmth_0 : decode cL_warmth 0 = .ok (.aload_n 2, 1) := by decide +kernel
theorem dL_warmth_1 : decode cL_warmth 1 = .ok (.iconst 0, 1) := by decide +kernel
theorem dL_warmth_2 : decode cL_warmth 2 = .ok (.aload_n 0, 1) := by decide +kernel
theorem dL_warmth_3 : decode cL_warmth 3 = .ok (.iload_n 1, 1) := by decide +kernel
theorem dL_warmth_4 : decode cL_warmth 4 = .ok (.invokevirtual 65, 3) := by decide +kernel
theorem dL_warmth_7 : decode cL_warmth 7 = .ok (.i2l, 1) := by decide +kernel
theorem dL_warmth_8 : decode cL_warmth 8 = .ok (.lastore, 1) := by decide +kernel
theorem dL_warmth_9 : decode cL_warmth 9 = .ok (.goto 6, 3) := by decide +kernel
theorem dL_warmth_12 : decode cL_warmth 12 = .ok (.astore_n 3, 1) := by decide +kernel
theorem dL_warmth_13 : decode cL_warmth 13 = .ok (.iconst 1, 1) := by decide +kernel
theorem dL_warmth_14 : decode cL_warmth 14 = .ok (.ireturn, 1) := by decide +kernel
theorem dL_warmth_15 : decode cL_warmth 15 = .ok (.iconst 0, 1) := by decide +kernel
theorem dL_warmth_16 : decode cL_warmth 16 = .ok (.ireturn, 1) := by decide +kernel
set_option maxRecDepth 20000 in
theorem ggL_ofCoil_X7_ofCoil : GoodIn wsL_ofCoil wsX7_ofCoil := goodIn_ca (goodIn_r _ [6, 7, 8, 9, 10, 11, 12, 5, 13, 14, 15, 16, 17, 18, 19, 20, 21, 22, 23, 24, 25, 26, 27, 28, 29, 30, 31, 32, 33, 34, 35, 36, 37, 38, 39, 40, 41, 42, 43, 44, 45, 46, 47, 48, 49, 50, 51, 52, 53, 54] (by decide +kernel) (by decide +kernel)) (goodIn_sub (fun _ h => List.mem_cons_of_mem _ (List.mem_append_right _ h)) (by decide +kernel))
set_option maxRecDepth 20000 in
theorem gL_ofCoil_X7_ofCoil : GoodIn wsL_ofCoil (wsV RL 68 RX7 yX7_ofCoil wsX7_ofCoil) := goodIn_app (goodIn_of _ (by decide +kernel)) ggL_ofCoil_X7_ofCoil
theorem dL_ofCoil_0 : decode cL_ofCoil 0 = .ok (.aload_n 2, 1) := by decide +kernel
theorem dL_ofCoil_1 : decode cL_ofCoil 1 = .ok (.iconst 0, 1) := by decide +kernel
theorem dL_ofCoil_2 : decode cL_ofCoil 2 = .ok (.aload_n 0, 1) := by decide +kernel
theorem dL_ofCoil_3 : decode cL_ofCoil 3 = .ok (.iload_n 1, 1) := by decide +kernel
theorem dL_ofCoil_4 : decode cL_ofCoil 4 = .ok (.invokevirtual 68, 3) := by decide +kernel
theorem dL_ofCoil_7 : decode cL_ofCoil 7 = .ok (.lastore, 1) := by decide +kernel
theorem dL_ofCoil_8 : decode cL_ofCoil 8 = .ok (.goto 6, 3) := by decide +kernel
theorem dL_ofCoil_11 : decode cL_ofCoil 11 = .ok (.astore_n 3, 1) := by decide +kernel
theorem dL_ofCoil_12 : decode cL_ofCoil 12 = .ok (.iconst 1, 1) := by decide +kernel
theorem dL_ofCoil_13 : decode cL_ofCoil 13 = .ok (.ireturn, 1) := by decide +kernel
theorem dL_ofCoil_14 : decode cL_ofCoil 14 = .ok (.iconst 0, 1) := by decide +kernel
theorem dL_ofCoil_15 : decode cL_ofCoil 15 = .ok (.ireturn, 1) := by decide +kernel
set_option maxRecDepth 20000 in
theorem ggL_margins_X7_margins : GoodIn wsL_margins wsX7_margins := goodIn_ca (goodIn_r _ [6, 7, 8, 9, 10, 11, 5, 12, 13, 14, 15, 16, 17, 18, 19, 20, 21, 22, 23, 24] (by decide +kernel) (by decide +kernel)) (goodIn_sub (fun _ h => List.mem_cons_of_mem _ (List.mem_append_right _ h)) (by decide +kernel))
set_option maxRecDepth 20000 in
theorem gL_margins_X7_margins : GoodIn wsL_margins (wsV RL 72 RX7 yX7_margins wsX7_margins) := goodIn_app (goodIn_of _ (by decide +kernel)) ggL_margins_X7_margins
theorem dL_margins_0 : decode cL_margins 0 = .ok (.aload_n 0, 1) := by decide +kernel
theorem dL_margins_1 : decode cL_margins 1 = .ok (.iload_n 1, 1) := by decide +kernel
theorem dL_margins_2 : decode cL_margins 2 = .ok (.iload_n 2, 1) := by decide +kernel
theorem dL_margins_3 : decode cL_margins 3 = .ok (.invokevirtual 72, 3) := by decide +kernel
theorem dL_margins_6 : decode cL_margins 6 = .ok (.goto 6, 3) := by decide +kernel
theorem dL_margins_9 : decode cL_margins 9 = .ok (.astore_n 3, 1) := by decide +kernel
theorem dL_margins_10 : decode cL_margins 10 = .ok (.iconst 1, 1) := by decide +kernel
theorem dL_margins_11 : decode cL_margins 11 = .ok (.ireturn, 1) := by decide +kernel
theorem dL_margins_12 : decode cL_margins 12 = .ok (.iconst 0, 1) := by decide +kernel
theorem dL_margins_13 : decode cL_margins 13 = .ok (.ireturn, 1) := by decide +kernel
set_option maxRecDepth 20000 in
theorem ggL_pulse_X7_pulse : GoodIn wsL_pulse wsX7_pulse := goodIn_ca (goodIn_r _ [6, 7, 8, 9, 5, 10, 11, 12, 13, 14, 15, 16, 17, 18, 19, 20, 21, 22, 23, 24, 25, 26, 27, 28, 29, 30, 31] (by decide +kernel) (by decide +kernel)) (goodIn_sub (fun _ h => List.mem_cons_of_mem _ (List.mem_append_right _ h)) (by decide +kernel))
set_option maxRecDepth 20000 in
theorem gL_pulse_X7_pulse : GoodIn wsL_pulse (wsV RL 75 RX7 yX7_pulse wsX7_pulse) := goodIn_app (goodIn_of _ (by decide +kernel)) ggL_pulse_X7_pulse
theorem dL_pulse_0 : decode cL_pulse 0 = .ok (.aload_n 3, 1) := by decide +kernel
theorem dL_pulse_1 : decode cL_pulse 1 = .ok (.iconst 0, 1) := by decide +kernel
theorem dL_pulse_2 : decode cL_pulse 2 = .ok (.aload_n 0, 1) := by decide +kernel
theorem dL_pulse_3 : decode cL_pulse 3 = .ok (.iload_n 1, 1) := by decide +kernel
theorem dL_pulse_4 : decode cL_pulse 4 = .ok (.iload_n 2, 1) := by decide +kernel
theorem dL_pulse_5 : decode cL_pulse 5 = .ok (.invokevirtual 75, 3) := by decide +kernel
theorem dL_pulse_8 : decode cL_pulse 8 = .ok (.i2l, 1) := by decide +kernel
theorem dL_pulse_9 : decode cL_pulse 9 = .ok (.lastore, 1) := by decide +kernel
theorem dL_pulse_10 : decode cL_pulse 10 = .ok (.goto 7, 3) := by decide +kernel
theorem dL_pulse_13 : decode cL_pulse 13 = .ok (.astore 4, 2) := by decide +kernel
theorem dL_pulse_15 : decode cL_pulse 15 = .ok (.iconst 1, 1) := by decide +kernel
theorem dL_pulse_16 : decode cL_pulse 16 = .ok (.ireturn, 1) := by decide +kernel
theorem dL_pulse_17 : decode cL_pulse 17 = .ok (.iconst 0, 1) := by decide +kernel
theorem dL_pulse_18 : decode cL_pulse 18 = .ok (.ireturn, 1) := by decide +kernel
set_option maxRecDepth 20000 in
theorem ggL_bit_X7_bit : GoodIn wsL_bit wsX7_bit := goodIn_ca (goodIn_r _ [6, 7, 8, 9, 10, 5, 11, 12, 13, 14, 15, 16, 17, 18, 19, 20, 21, 22, 23] (by decide +kernel) (by decide +kernel)) (goodIn_sub (fun _ h => List.mem_cons_of_mem _ (List.mem_append_right _ h)) (by decide +kernel))
set_option maxRecDepth 20000 in
theorem gL_bit_X7_bit : GoodIn wsL_bit (wsV RL 78 RX7 yX7_bit wsX7_bit) := goodIn_app (goodIn_of _ (by decide +kernel)) ggL_bit_X7_bit
theorem dL_bit_0 : decode cL_bit 0 = .ok (.aload_n 2, 1) := by decide +kernel
theorem dL_bit_1 : decode cL_bit 1 = .ok (.iconst 0, 1) := by decide +kernel
theorem dL_bit_2 : decode cL_bit 2 = .ok (.aload_n 0, 1) := by decide +kernel
theorem dL_bit_3 : decode cL_bit 3 = .ok (.iload_n 1, 1) := by decide +kernel
theorem dL_bit_4 : decode cL_bit 4 = .ok (.invokevirtual 78, 3) := by decide +kernel
theorem dL_bit_7 : decode cL_bit 7 = .ok (.i2l, 1) := by decide +kernel
theorem dL_bit_8 : decode cL_bit 8 = .ok (.lastore, 1) := by decide +kernel
theorem dL_bit_9 : decode cL_bit 9 = .ok (.goto 6, 3) := by decide +kernel
theorem dL_bit_12 : decode cL_bit 12 = .ok (.astore_n 3, 1) := by decide +kernel
theorem dL_bit_13 : decode cL_bit 13 = .ok (.iconst 1, 1) := by decide +kernel
theorem dL_bit_14 : decode cL_bit 14 = .ok (.ireturn, 1) := by decide +kernel
theorem dL_bit_15 : decode cL_bit 15 = .ok (.iconst 0, 1) := by decide +kernel
theorem dL_bit_16 : decode cL_bit 16 = .ok (.ireturn, 1) := by decide +kernel
set_option maxRecDepth 20000 in
theorem ggL_point_X7_point : GoodIn wsL_point wsX7_point := goodIn_ca (goodIn_ca (goodIn_r _ [7, 8, 9, 10, 11, 12, 13, 14, 15, 6, 16, 17, 18, 19, 20, 21, 22, 23, 24, 25, 26, 27, 28, 29, 30, 31, 32, 33, 34, 35, 36, 37, 38, 39, 40, 41, 42, 43, 44, 45, 46, 47, 48, 49, 50, 51, 52, 53, 54, 55, 56, 57, 58, 59, 60, 61, 62, 63, 64, 65, 66, 67, 68, 69, 70, 71, 72, 73, 74, 75, 76, 77, 78, 79, 80, 81, 82, 83, 84, 85, 86, 87, 88, 89, 90, 91, 92, 93, 94, 95, 96, 97, 98, 99, 100, 101, 102, 103, 104, 105] (by decide +kernel) (by decide +kernel)) (goodIn_sub (fun _ h => List.mem_cons_of_mem _ (List.mem_append_left _ (List.mem_append_right _ h))) (by decide +kernel))) (goodIn_sub (fun _ h => List.mem_cons_of_mem _ (List.mem_append_right _ h)) (by decide +kernel))
set_option maxRecDepth 20000 in
theorem gL_point_X7_point : GoodIn wsL_point (wsV RL 81 RX7 yX7_point wsX7_point) := goodIn_app (goodIn_of _ (by decide +kernel)) ggL_point_X7_point
theorem dL_point_0 : decode cL_point 0 = .ok (.aload 4, 2) := by decide +kernel
theorem dL_point_2 : decode cL_point 2 = .ok (.iconst 0, 1) := by decide +kernel
theorem dL_point_3 : decode cL_point 3 = .ok (.aload_n 0, 1) := by decide +kernel
theorem dL_point_4 : decode cL_point 4 = .ok (.iload_n 1, 1) := by decide +kernel
theorem dL_point_5 : decode cL_point 5 = .ok (.iload_n 2, 1) := by decide +kernel
theorem dL_point_6 : decode cL_point 6 = .ok (.iload_n 3, 1) := by decide +kernel
theorem dL_point_7 : decode cL_point 7 = .ok (.invokevirtual 81, 3) := by decide +kernel
theorem dL_point_10 : decode cL_point 10 = .ok (.i2l, 1) := by decide +kernel
theorem dL_point_11 : decode cL_point 11 = .ok (.lastore, 1) := by decide +kernel
theorem dL_point_12 : decode cL_point 12 = .ok (.goto 11, 3) := by decide +kernel
theorem dL_point_15 : decode cL_point 15 = .ok (.astore 5, 2) := by decide +kernel
theorem dL_point_17 : decode cL_point 17 = .ok (.iconst 1, 1) := by decide +kernel
theorem dL_point_18 : decode cL_point 18 = .ok (.ireturn, 1) := by decide +kernel
theorem dL_point_19 : decode cL_point 19 = .ok (.astore 5, 2) := by decide +kernel
theorem dL_point_21 : decode cL_point 21 = .ok (.iconst 2, 1) := by decide +kernel
theorem dL_point_22 : decode cL_point 22 = .ok (.ireturn, 1) := by decide +kernel
theorem dL_point_23 : decode cL_point 23 = .ok (.iconst 0, 1) := by decide +kernel
theorem dL_point_24 : decode cL_point 24 = .ok (.ireturn, 1) := by decide +kernel
set_option maxRecDepth 20000 in
theorem ggL_claim_X7_claim : GoodIn wsL_claim wsX7_claim := goodIn_ca (goodIn_ca (goodIn_ca (goodIn_r _ [8, 9, 10, 11, 12, 13, 14, 15, 16, 17, 18, 19, 20, 21, 7, 22, 23, 24, 25, 26, 27, 28, 29, 30, 31, 32, 33, 34, 35, 36, 37, 38, 39, 40, 41, 42, 43, 44, 45, 46, 47, 48, 49, 50, 51, 52, 53, 54, 55, 56, 57, 58, 59, 60, 61, 62, 63, 64, 65, 66, 67, 68, 69, 70, 71, 72, 73, 74, 75, 76, 77, 78, 79, 80, 81, 82, 83, 84, 85, 86, 87, 88, 89, 90, 91, 92, 93, 94, 95, 96, 97, 98, 99, 100, 101, 102, 103, 104, 105, 106, 107, 108, 109, 110, 111, 112, 113, 114, 115] (by decide +kernel) (by decide +kernel)) (goodIn_sub (fun _ h => List.mem_cons_of_mem _ (List.mem_append_left _ (List.mem_append_left _ (List.mem_append_right _ h)))) (by decide +kernel))) (goodIn_sub (fun _ h => List.mem_cons_of_mem _ (List.mem_append_left _ (List.mem_append_right _ h))) (by decide +kernel))) (goodIn_sub (fun _ h => List.mem_cons_of_mem _ (List.mem_append_right _ h)) (by decide +kernel))
set_option maxRecDepth 20000 in
theorem gL_claim_X7_claim : GoodIn wsL_claim (wsV RL 84 RX7 yX7_claim wsX7_claim) := goodIn_app (goodIn_of _ (by decide +kernel)) ggL_claim_X7_claim
theorem dL_claim_0 : decode cL_claim 0 = .ok (.aload 4, 2) := by decide +kernel
theorem dL_claim_2 : decode cL_claim 2 = .ok (.iconst 0, 1) := by decide +kernel
theorem dL_claim_3 : decode cL_claim 3 = .ok (.aload_n 0, 1) := by decide +kernel
theorem dL_claim_4 : decode cL_claim 4 = .ok (.iload_n 1, 1) := by decide +kernel
theorem dL_claim_5 : decode cL_claim 5 = .ok (.iload_n 2, 1) := by decide +kernel
theorem dL_claim_6 : decode cL_claim 6 = .ok (.iload_n 3, 1) := by decide +kernel
theorem dL_claim_7 : decode cL_claim 7 = .ok (.invokevirtual 84, 3) := by decide +kernel
theorem dL_claim_10 : decode cL_claim 10 = .ok (.i2l, 1) := by decide +kernel
theorem dL_claim_11 : decode cL_claim 11 = .ok (.lastore, 1) := by decide +kernel
theorem dL_claim_12 : decode cL_claim 12 = .ok (.goto 15, 3) := by decide +kernel
theorem dL_claim_15 : decode cL_claim 15 = .ok (.astore 5, 2) := by decide +kernel
theorem dL_claim_17 : decode cL_claim 17 = .ok (.iconst 1, 1) := by decide +kernel
theorem dL_claim_18 : decode cL_claim 18 = .ok (.ireturn, 1) := by decide +kernel
theorem dL_claim_19 : decode cL_claim 19 = .ok (.astore 5, 2) := by decide +kernel
theorem dL_claim_21 : decode cL_claim 21 = .ok (.iconst 2, 1) := by decide +kernel
theorem dL_claim_22 : decode cL_claim 22 = .ok (.ireturn, 1) := by decide +kernel
theorem dL_claim_23 : decode cL_claim 23 = .ok (.astore 5, 2) := by decide +kernel
theorem dL_claim_25 : decode cL_claim 25 = .ok (.iconst 3, 1) := by decide +kernel
theorem dL_claim_26 : decode cL_claim 26 = .ok (.ireturn, 1) := by decide +kernel
theorem dL_claim_27 : decode cL_claim 27 = .ok (.iconst 0, 1) := by decide +kernel
theorem dL_claim_28 : decode cL_claim 28 = .ok (.ireturn, 1) := by decide +kernel
set_option maxRecDepth 20000 in
theorem ggL_repeats_X7_repeats : GoodIn wsL_repeats wsX7_repeats := goodIn_ca (goodIn_r _ [6, 7, 8, 9, 10, 11, 12, 13, 14, 15, 16, 17, 5, 18, 19, 20, 21, 22, 23, 24, 25, 26, 27, 28, 29, 30, 31, 32, 33, 34, 35, 36, 37, 38, 39, 40, 41, 42, 43, 44, 45, 46, 47, 48, 49, 50, 51, 52, 53, 54, 55, 56, 57, 58] (by decide +kernel) (by decide +kernel)) (goodIn_sub (fun _ h => List.mem_cons_of_mem _ (List.mem_append_right _ h)) (by decide +kernel))
set_option maxRecDepth 20000 in
theorem gL_repeats_X7_repeats : GoodIn wsL_repeats (wsV RL 87 RX7 yX7_repeats wsX7_repeats) := goodIn_app (goodIn_of _ (by decide +kernel)) ggL_repeats_X7_repeats
theorem dL_repeats_0 : decode cL_repeats 0 = .ok (.aload 4, 2) := by decide +kernel
theorem dL_repeats_2 : decode cL_repeats 2 = .ok (.iconst 0, 1) := by decide +kernel
theorem dL_repeats_3 : decode cL_repeats 3 = .ok (.aload_n 0, 1) := by decide +kernel
theorem dL_repeats_4 : decode cL_repeats 4 = .ok (.iload_n 1, 1) := by decide +kernel
theorem dL_repeats_5 : decode cL_repeats 5 = .ok (.iload_n 2, 1) := by decide +kernel
theorem dL_repeats_6 : decode cL_repeats 6 = .ok (.iload_n 3, 1) := by decide +kernel
theorem dL_repeats_7 : decode cL_repeats 7 = .ok (.invokevirtual 87, 3) := by decide +kernel
theorem dL_repeats_10 : decode cL_repeats 10 = .ok (.i2l, 1) := by decide +kernel
theorem dL_repeats_11 : decode cL_repeats 11 = .ok (.lastore, 1) := by decide +kernel
theorem dL_repeats_12 : decode cL_repeats 12 = .ok (.goto 7, 3) := by decide +kernel
theorem dL_repeats_15 : decode cL_repeats 15 = .ok (.astore 5, 2) := by decide +kernel
theorem dL_repeats_17 : decode cL_repeats 17 = .ok (.iconst 1, 1) := by decide +kernel
theorem dL_repeats_18 : decode cL_repeats 18 = .ok (.ireturn, 1) := by decide +kernel
theorem dL_repeats_19 : decode cL_repeats 19 = .ok (.iconst 0, 1) := by decide +kernel
theorem dL_repeats_20 : decode cL_repeats 20 = .ok (.ireturn, 1) := by decide +kernel
set_option maxRecDepth 20000 in
theorem ggL_judge_X7_judge : GoodIn wsL_judge wsX7_judge := goodIn_ca (goodIn_ca (goodIn_r _ [7, 8, 9, 10, 11, 12, 13, 14, 15, 16, 17, 18, 19, 6, 20, 21, 22, 23, 24, 25, 26, 27, 28, 29, 30, 31, 32, 33, 34, 35, 36, 37, 38, 39, 40, 41, 42, 43, 44, 45, 46, 47, 48, 49, 50, 51, 52, 53, 54, 55, 56, 57, 58, 59, 60, 61, 62, 63, 64, 65, 66, 67, 68, 69, 70, 71, 72, 73, 74, 75, 76, 77, 78, 79, 80, 81, 82, 83, 84, 85, 86, 87, 88, 89, 90, 91, 92, 93, 94, 95, 96] (by decide +kernel) (by decide +kernel)) (goodIn_sub (fun _ h => List.mem_cons_of_mem _ (List.mem_append_left _ (List.mem_append_right _ h))) (by decide +kernel))) (goodIn_sub (fun _ h => List.mem_cons_of_mem _ (List.mem_append_right _ h)) (by decide +kernel))
set_option maxRecDepth 20000 in
theorem gL_judge_X7_judge : GoodIn wsL_judge (wsV RL 91 RX7 yX7_judge wsX7_judge) := goodIn_app (goodIn_of _ (by decide +kernel)) ggL_judge_X7_judge
theorem dL_judge_0 : decode cL_judge 0 = .ok (.aload_n 3, 1) := by decide +kernel
theorem dL_judge_1 : decode cL_judge 1 = .ok (.iconst 0, 1) := by decide +kernel
theorem dL_judge_2 : decode cL_judge 2 = .ok (.aload_n 0, 1) := by decide +kernel
theorem dL_judge_3 : decode cL_judge 3 = .ok (.iload_n 1, 1) := by decide +kernel
theorem dL_judge_4 : decode cL_judge 4 = .ok (.iload_n 2, 1) := by decide +kernel
theorem dL_judge_5 : decode cL_judge 5 = .ok (.invokevirtual 91, 3) := by decide +kernel
theorem dL_judge_8 : decode cL_judge 8 = .ok (.i2l, 1) := by decide +kernel
theorem dL_judge_9 : decode cL_judge 9 = .ok (.lastore, 1) := by decide +kernel
theorem dL_judge_10 : decode cL_judge 10 = .ok (.goto 11, 3) := by decide +kernel
theorem dL_judge_13 : decode cL_judge 13 = .ok (.astore 4, 2) := by decide +kernel
theorem dL_judge_15 : decode cL_judge 15 = .ok (.iconst 1, 1) := by decide +kernel
theorem dL_judge_16 : decode cL_judge 16 = .ok (.ireturn, 1) := by decide +kernel
theorem dL_judge_17 : decode cL_judge 17 = .ok (.astore 4, 2) := by decide +kernel
theorem dL_judge_19 : decode cL_judge 19 = .ok (.iconst 2, 1) := by decide +kernel
theorem dL_judge_20 : decode cL_judge 20 = .ok (.ireturn, 1) := by decide +kernel
theorem dL_judge_21 : decode cL_judge 21 = .ok (.iconst 0, 1) := by decide +kernel
theorem dL_judge_22 : decode cL_judge 22 = .ok (.ireturn, 1) := by decide +kernel
set_option maxRecDepth 20000 in
theorem ggL_law_X7_init : GoodIn wsL_law wsX7_init := goodIn_r _ [10, 11, 12, 13, 14, 15, 16, 17, 18, 19, 20, 21, 22, 23, 24, 25, 26, 27, 28, 29, 30, 31, 32, 33, 34, 35, 36, 37, 38, 39, 40, 41, 42, 43, 44, 45, 46, 47, 48, 49, 50, 51, 52, 53, 54, 55, 56, 57, 58, 59, 60, 61, 62, 63, 64, 65, 66, 852, 853, 854, 806, 807, 808, 809, 810, 811, 812, 855, 856, 857, 858, 859, 860, 861, 862, 863, 864, 865, 866, 867, 868, 869] (by decide +kernel) (by decide +kernel)
set_option maxRecDepth 20000 in
theorem gL_law_X7_init : GoodIn wsL_law (wsX7_init) := ggL_law_X7_init
set_option maxRecDepth 20000 in
theorem ggL_law_X8_init : GoodIn wsL_law wsX8_init := goodIn_r _ [69, 70, 12, 13, 52, 71, 72, 73, 74, 75, 76, 77, 78, 79, 80, 81, 82, 83, 84, 85, 86, 87, 88, 89, 90, 91, 92, 93, 94, 95, 813, 814, 815, 816, 817, 818, 819, 820, 821, 822, 823, 824, 825, 826, 827, 828, 829, 830, 831, 832, 833, 834, 835, 836, 837, 838, 839, 840, 841, 842, 843, 844, 845, 846, 847, 848, 849, 850, 851] (by decide +kernel) (by decide +kernel)
set_option maxRecDepth 20000 in
theorem gL_law_X8_init : GoodIn wsL_law (wsX8_init) := ggL_law_X8_init
set_option maxRecDepth 20000 in
theorem ggL_law_L_sample : GoodIn wsL_law wsL_sample := goodIn_ca (goodIn_ca (goodIn_r _ [99, 100, 101, 102, 103, 104, 2, 105, 17, 106, 107, 108, 109, 110, 111, 112, 113, 114, 115, 116, 16, 117, 118, 119, 120, 121, 122, 123, 124, 125, 126, 127, 12, 13, 128, 129, 130, 131, 132, 133, 134, 135, 136, 37, 137, 138, 139, 140, 141, 142, 143, 144, 145, 146, 147, 148, 36, 149, 150, 151, 152, 153, 154, 155, 156, 157, 158, 159, 160, 161, 162, 163, 164, 165, 166, 167, 168, 169, 170, 171, 172, 173, 174, 175, 176, 177, 178, 179, 180, 181, 182, 806, 807, 808, 809, 810, 811, 812, 870, 871, 872, 873, 874, 852, 853, 854] (by decide +kernel) (by decide +kernel)) (goodIn_sub (fun _ h => List.mem_append_left _ (List.mem_append_left _ (List.mem_append_right _ h))) (by decide +kernel))) (goodIn_sub (fun _ h => List.mem_append_left _ (List.mem_append_right _ h)) (by decide +kernel))
set_option maxRecDepth 20000 in
theorem gL_law_L_sample : GoodIn wsL_law (va_wsS RL 98 yL_sample wsL_sample) := goodIn_app (goodIn_of _ (by decide +kernel)) ggL_law_L_sample
set_option maxRecDepth 20000 in
theorem ggL_law_X8_sample : GoodIn wsL_law wsX8_sample := goodIn_r _ [186, 187, 188, 71, 72, 73, 189, 190, 5, 191, 192, 193, 194, 195, 813, 814, 815, 816, 817, 818, 819, 820, 821, 822, 823, 824, 825, 826, 827, 828, 829, 830, 831, 832, 833, 834, 835, 836, 837, 838, 839, 840, 841, 842, 843, 844, 845, 846, 847, 848, 849, 850, 851] (by decide +kernel) (by decide +kernel)
set_option maxRecDepth 20000 in
theorem gL_law_X8_sample : GoodIn wsL_law (wsV RL 103 RX8 yX8_sample wsX8_sample) := goodIn_app (goodIn_of _ (by decide +kernel)) ggL_law_X8_sample
set_option maxRecDepth 20000 in
theorem ggL_law_X8_thrown : GoodIn wsL_law wsX8_thrown := goodIn_r _ [199, 187, 813, 814, 815, 816, 817, 818, 819, 820, 821, 822, 823, 824, 825, 826, 827, 828, 829, 830, 831, 832, 833, 834, 835, 836, 837, 838, 839, 840, 841, 842, 843, 844, 845, 846, 847, 848, 849, 850, 851] (by decide +kernel) (by decide +kernel)
set_option maxRecDepth 20000 in
theorem gL_law_X8_thrown : GoodIn wsL_law (wsV RL 104 RX8 yX8_thrown wsX8_thrown) := goodIn_app (goodIn_of _ (by decide +kernel)) ggL_law_X8_thrown
set_option maxRecDepth 20000 in
theorem ggL_law_L_set : GoodIn wsL_law wsL_set := goodIn_ca (goodIn_ca (goodIn_r _ [202, 203, 100, 204, 205, 206, 2, 207, 17, 208, 209, 210, 114, 115, 116, 16, 117, 118, 211, 212, 213, 214, 215, 109, 110, 111, 112, 113, 216, 217, 218, 219, 220, 221, 222, 223, 224, 225, 226, 227, 228, 229, 230, 231, 37, 232, 233, 234, 108, 235, 129, 130, 236, 237, 238, 151, 239, 240, 128, 241, 242, 243, 244, 806, 807, 808, 809, 810, 811, 812, 870, 871, 872, 873, 874, 852, 853, 854] (by decide +kernel) (by decide +kernel)) (goodIn_sub (fun _ h => List.mem_append_right _ h) (by decide +kernel))) (goodIn_sub (fun _ h => List.mem_append_left _ (List.mem_append_left _ (List.mem_append_right _ h))) (by decide +kernel))
set_option maxRecDepth 20000 in
theorem gL_law_L_set : GoodIn wsL_law (va_wsS RL 108 yL_set wsL_set) := goodIn_app (goodIn_of _ (by decide +kernel)) ggL_law_L_set
set_option maxRecDepth 20000 in
theorem ggL_law_X8_set : GoodIn wsL_law wsX8_set := goodIn_r _ [248, 187, 188, 74, 75, 71, 72, 73, 189, 190, 5, 191, 192, 193, 194, 195, 249, 250, 251, 252, 253, 254, 255, 813, 814, 815, 816, 817, 818, 819, 820, 821, 822, 823, 824, 825, 826, 827, 828, 829, 830, 831, 832, 833, 834, 835, 836, 837, 838, 839, 840, 841, 842, 843, 844, 845, 846, 847, 848, 849, 850, 851] (by decide +kernel) (by decide +kernel)
set_option maxRecDepth 20000 in
theorem gL_law_X8_set : GoodIn wsL_law (wsV RL 110 RX8 yX8_set wsX8_set) := goodIn_app (goodIn_of _ (by decide +kernel)) ggL_law_X8_set
set_option maxRecDepth 20000 in
theorem ggL_law_L_deep : GoodIn wsL_law wsL_deep := goodIn_ca (goodIn_r _ [258, 203, 259, 260, 261, 2, 262, 17, 208, 114, 115, 116, 16, 117, 118, 211, 212, 213, 214, 215, 216, 217, 218, 219, 220, 221, 222, 223, 224, 225, 226, 227, 228, 229, 230, 231, 37, 263, 264, 265, 108, 266, 240, 128, 267, 806, 807, 808, 809, 810, 811, 812, 852, 853, 854, 870, 871, 872, 873, 874] (by decide +kernel) (by decide +kernel)) (goodIn_sub (fun _ h => List.mem_append_right _ h) (by decide +kernel))
set_option maxRecDepth 20000 in
theorem gL_law_L_deep : GoodIn wsL_law (va_wsS RL 111 yL_deep wsL_deep) := goodIn_app (goodIn_of _ (by decide +kernel)) ggL_law_L_deep
set_option maxRecDepth 20000 in
theorem ggL_law_X8_deep : GoodIn wsL_law wsX8_deep := goodIn_r _ [271, 187, 188, 74, 71, 272, 189, 190, 5, 191, 192, 193, 194, 195, 813, 814, 815, 816, 817, 818, 819, 820, 821, 822, 823, 824, 825, 826, 827, 828, 829, 830, 831, 832, 833, 834, 835, 836, 837, 838, 839, 840, 841, 842, 843, 844, 845, 846, 847, 848, 849, 850, 851] (by decide +kernel) (by decide +kernel)
set_option maxRecDepth 20000 in
theorem gL_law_X8_deep : GoodIn wsL_law (wsV RL 114 RX8 yX8_deep wsX8_deep) := goodIn_app (goodIn_of _ (by decide +kernel)) ggL_law_X8_deep
set_option maxRecDepth 20000 in
theorem ggL_law_L_pin : GoodIn wsL_law wsL_pin := goodIn_ca (goodIn_ca (goodIn_r _ [275, 203, 100, 276, 277, 278, 2, 279, 21, 280, 211, 212, 213, 214, 215, 109, 110, 111, 112, 113, 806, 807, 808, 809, 810, 811, 812, 855, 856, 857, 858, 859] (by decide +kernel) (by decide +kernel)) (goodIn_sub (fun _ h => List.mem_append_right _ h) (by decide +kernel))) (goodIn_sub (fun _ h => List.mem_append_left _ (List.mem_append_left _ (List.mem_append_right _ h))) (by decide +kernel))
set_option maxRecDepth 20000 in
theorem gL_law_L_pin : GoodIn wsL_law (va_wsS RL 115 yL_pin wsL_pin) := goodIn_app (goodIn_of _ (by decide +kernel)) ggL_law_L_pin
set_option maxRecDepth 20000 in
theorem ggL_law_X8_pin : GoodIn wsL_law wsX8_pin := goodIn_r _ [284, 187, 76, 189, 190, 5, 191, 192, 193, 194, 195, 813, 814, 815, 816, 817, 818, 819, 820, 821, 822, 823, 824, 825, 826, 827, 828, 829, 830, 831, 832, 833, 834, 835, 836, 837, 838, 839, 840, 841, 842, 843, 844, 845, 846, 847, 848, 849, 850, 851] (by decide +kernel) (by decide +kernel)
set_option maxRecDepth 20000 in
theorem gL_law_X8_pin : GoodIn wsL_law (wsV RL 118 RX8 yX8_pin wsX8_pin) := goodIn_app (goodIn_of _ (by decide +kernel)) ggL_law_X8_pin
set_option maxRecDepth 20000 in
theorem ggL_law_L_drive : GoodIn wsL_law wsL_drive := goodIn_ca (goodIn_r _ [287, 100, 288, 289, 290, 2, 291, 21, 292, 293, 109, 110, 111, 112, 113, 806, 807, 808, 809, 810, 811, 812, 855, 856, 857, 858, 859] (by decide +kernel) (by decide +kernel)) (goodIn_sub (fun _ h => List.mem_append_left _ (List.mem_append_left _ (List.mem_append_right _ h))) (by decide +kernel))
set_option maxRecDepth 20000 in
theorem gL_law_L_drive : GoodIn wsL_law (va_wsS RL 119 yL_drive wsL_drive) := goodIn_app (goodIn_of _ (by decide +kernel)) ggL_law_L_drive
set_option maxRecDepth 20000 in
theorem ggL_law_X8_drive : GoodIn wsL_law wsX8_drive := goodIn_r _ [297, 187, 298, 299, 189, 190, 5, 191, 192, 193, 194, 195, 813, 814, 815, 816, 817, 818, 819, 820, 821, 822, 823, 824, 825, 826, 827, 828, 829, 830, 831, 832, 833, 834, 835, 836, 837, 838, 839, 840, 841, 842, 843, 844, 845, 846, 847, 848, 849, 850, 851] (by decide +kernel) (by decide +kernel)
set_option maxRecDepth 20000 in
theorem gL_law_X8_drive : GoodIn wsL_law (wsV RL 122 RX8 yX8_drive wsX8_drive) := goodIn_app (goodIn_of _ (by decide +kernel)) ggL_law_X8_drive
set_option maxRecDepth 20000 in
theorem ggL_law_L_enter : GoodIn wsL_law wsL_enter := goodIn_ca (goodIn_ca (goodIn_r _ [302, 100, 101, 303, 304, 305, 2, 306, 21, 307, 308, 109, 110, 111, 112, 113, 119, 120, 121, 122, 123, 309, 310, 311, 20, 312, 313, 314, 315, 316, 54, 317, 318, 319, 320, 321, 322, 323, 324, 325, 238, 151, 239, 326, 327, 328, 329, 53, 330, 806, 807, 808, 809, 810, 811, 812, 855, 856, 857, 858, 859] (by decide +kernel) (by decide +kernel)) (goodIn_sub (fun _ h => List.mem_append_left _ (List.mem_append_left _ (List.mem_append_right _ h))) (by decide +kernel))) (goodIn_sub (fun _ h => List.mem_append_left _ (List.mem_append_right _ h)) (by decide +kernel))
set_option maxRecDepth 20000 in
theorem gL_law_L_enter : GoodIn wsL_law (va_wsS RL 123 yL_enter wsL_enter) := goodIn_app (goodIn_of _ (by decide +kernel)) ggL_law_L_enter
set_option maxRecDepth 20000 in
theorem ggL_law_X8_enter : GoodIn wsL_law wsX8_enter := goodIn_r _ [334, 187, 335, 77, 78, 189, 190, 5, 191, 192, 193, 194, 195, 336, 337, 338, 339, 76, 298, 249, 250, 251, 813, 814, 815, 816, 817, 818, 819, 820, 821, 822, 823, 824, 825, 826, 827, 828, 829, 830, 831, 832, 833, 834, 835, 836, 837, 838, 839, 840, 841, 842, 843, 844, 845, 846, 847, 848, 849, 850, 851] (by decide +kernel) (by decide +kernel)
set_option maxRecDepth 20000 in
theorem gL_law_X8_enter : GoodIn wsL_law (wsV RL 126 RX8 yX8_enter wsX8_enter) := goodIn_app (goodIn_of _ (by decide +kernel)) ggL_law_X8_enter
set_option maxRecDepth 20000 in
theorem ggL_law_X7_step : GoodIn wsL_law wsX7_step := goodIn_r _ [343, 21, 344, 345, 346, 20, 347, 54, 348, 349, 350, 351, 321, 325, 238, 151, 239, 352, 326, 327, 328, 329, 53, 353, 354, 355, 356, 317, 318, 319, 320, 322, 323, 324, 357, 358, 359, 360, 361, 362, 363, 313, 314, 315, 316, 364, 365, 366, 367, 806, 807, 808, 809, 810, 811, 812, 855, 856, 857, 858, 859] (by decide +kernel) (by decide +kernel)
set_option maxRecDepth 20000 in
theorem gL_law_X7_step : GoodIn wsL_law (wsV RL 127 RX7 yX7_step wsX7_step) := goodIn_app (goodIn_of _ (by decide +kernel)) ggL_law_X7_step
set_option maxRecDepth 20000 in
theorem ggL_law_X8_step : GoodIn wsL_law wsX8_step := goodIn_r _ [371, 187, 372, 373, 374, 5, 375, 335, 78, 376, 377, 378, 379, 298, 76, 299, 249, 250, 251, 380, 381, 382, 383, 77, 384, 385, 386, 387, 336, 337, 338, 339, 388, 389, 390, 813, 814, 815, 816, 817, 818, 819, 820, 821, 822, 823, 824, 825, 826, 827, 828, 829, 830, 831, 832, 833, 834, 835, 836, 837, 838, 839, 840, 841, 842, 843, 844, 845, 846, 847, 848, 849, 850, 851] (by decide +kernel) (by decide +kernel)
set_option maxRecDepth 20000 in
theorem gL_law_X8_step : GoodIn wsL_law (wsV RL 130 RX8 yX8_step wsX8_step) := goodIn_app (goodIn_of _ (by decide +kernel)) ggL_law_X8_step
set_option maxRecDepth 20000 in
theorem ggL_law_X7_avalanche : GoodIn wsL_law wsX7_avalanche := goodIn_r _ [394, 21, 344, 345, 346, 20, 347, 54, 348, 349, 350, 351, 321, 325, 238, 151, 239, 352, 326, 327, 328, 329, 53, 353, 354, 355, 356, 317, 318, 319, 320, 322, 323, 324, 357, 358, 359, 360, 361, 362, 363, 313, 314, 315, 316, 364, 365, 366, 367, 806, 807, 808, 809, 810, 811, 812, 855, 856, 857, 858, 859] (by decide +kernel) (by decide +kernel)
set_option maxRecDepth 20000 in
theorem gL_law_X7_avalanche : GoodIn wsL_law (wsV RL 131 RX7 yX7_avalanche wsX7_avalanche) := goodIn_app (goodIn_of _ (by decide +kernel)) ggL_law_X7_avalanche
set_option maxRecDepth 20000 in
theorem ggL_law_X8_avalanche : GoodIn wsL_law wsX8_avalanche := goodIn_r _ [398, 187, 372, 373, 374, 5, 375, 335, 78, 376, 377, 378, 379, 298, 76, 299, 249, 250, 251, 380, 381, 382, 383, 77, 384, 385, 386, 387, 336, 337, 338, 339, 388, 389, 390, 813, 814, 815, 816, 817, 818, 819, 820, 821, 822, 823, 824, 825, 826, 827, 828, 829, 830, 831, 832, 833, 834, 835, 836, 837, 838, 839, 840, 841, 842, 843, 844, 845, 846, 847, 848, 849, 850, 851] (by decide +kernel) (by decide +kernel)
set_option maxRecDepth 20000 in
theorem gL_law_X8_avalanche : GoodIn wsL_law (wsV RL 134 RX8 yX8_avalanche wsX8_avalanche) := goodIn_app (goodIn_of _ (by decide +kernel)) ggL_law_X8_avalanche
set_option maxRecDepth 20000 in
theorem ggL_law_L_whirlAt : GoodIn wsL_law wsL_whirlAt := goodIn_ca (goodIn_r _ [401, 203, 402, 403, 404, 2, 405, 21, 307, 211, 212, 213, 214, 215, 406, 407, 408, 20, 409, 54, 806, 807, 808, 809, 810, 811, 812, 855, 856, 857, 858, 859] (by decide +kernel) (by decide +kernel)) (goodIn_sub (fun _ h => List.mem_append_right _ h) (by decide +kernel))
set_option maxRecDepth 20000 in
theorem gL_law_L_whirlAt : GoodIn wsL_law (va_wsS RL 135 yL_whirlAt wsL_whirlAt) := goodIn_app (goodIn_of _ (by decide +kernel)) ggL_law_L_whirlAt
set_option maxRecDepth 20000 in
theorem ggL_law_X8_whirlAt : GoodIn wsL_law wsX8_whirlAt := goodIn_r _ [413, 187, 335, 78, 189, 190, 5, 191, 192, 193, 194, 195, 813, 814, 815, 816, 817, 818, 819, 820, 821, 822, 823, 824, 825, 826, 827, 828, 829, 830, 831, 832, 833, 834, 835, 836, 837, 838, 839, 840, 841, 842, 843, 844, 845, 846, 847, 848, 849, 850, 851] (by decide +kernel) (by decide +kernel)
set_option maxRecDepth 20000 in
theorem gL_law_X8_whirlAt : GoodIn wsL_law (wsV RL 137 RX8 yX8_whirlAt wsX8_whirlAt) := goodIn_app (goodIn_of _ (by decide +kernel)) ggL_law_X8_whirlAt
set_option maxRecDepth 20000 in
theorem ggL_law_L_energy : GoodIn wsL_law wsL_energy := goodIn_ca (goodIn_r _ [416, 203, 417, 418, 419, 2, 420, 21, 307, 211, 212, 213, 214, 215, 406, 407, 408, 20, 409, 54, 330, 318, 319, 320, 321, 322, 323, 324, 325, 238, 151, 239, 326, 327, 328, 329, 53, 806, 807, 808, 809, 810, 811, 812, 855, 856, 857, 858, 859] (by decide +kernel) (by decide +kernel)) (goodIn_sub (fun _ h => List.mem_append_right _ h) (by decide +kernel))
set_option maxRecDepth 20000 in
theorem gL_law_L_energy : GoodIn wsL_law (va_wsS RL 138 yL_energy wsL_energy) := goodIn_app (goodIn_of _ (by decide +kernel)) ggL_law_L_energy
set_option maxRecDepth 20000 in
theorem ggL_law_X8_energy : GoodIn wsL_law wsX8_energy := goodIn_r _ [424, 187, 335, 78, 189, 190, 5, 191, 192, 193, 194, 195, 336, 337, 338, 339, 76, 298, 249, 250, 251, 813, 814, 815, 816, 817, 818, 819, 820, 821, 822, 823, 824, 825, 826, 827, 828, 829, 830, 831, 832, 833, 834, 835, 836, 837, 838, 839, 840, 841, 842, 843, 844, 845, 846, 847, 848, 849, 850, 851] (by decide +kernel) (by decide +kernel)
set_option maxRecDepth 20000 in
theorem gL_law_X8_energy : GoodIn wsL_law (wsV RL 140 RX8 yX8_energy wsX8_energy) := goodIn_app (goodIn_of _ (by decide +kernel)) ggL_law_X8_energy
set_option maxRecDepth 20000 in
theorem ggL_law_L_ring : GoodIn wsL_law wsL_ring := goodIn_ca (goodIn_ca (goodIn_r _ [427, 100, 101, 428, 429, 430, 2, 431, 22, 432, 433, 434, 109, 110, 111, 112, 113, 114, 115, 116, 16, 117, 118, 119, 120, 121, 122, 123, 435, 436, 437, 438, 12, 13, 439, 440, 131, 132, 133, 134, 135, 136, 37, 137, 138, 139, 140, 141, 142, 143, 144, 145, 146, 147, 148, 36, 149, 150, 151, 152, 153, 154, 155, 156, 157, 158, 159, 160, 161, 162, 163, 164, 165, 166, 167, 168, 169, 170, 171, 172, 173, 174, 175, 176, 177, 178, 179, 180, 181, 182, 806, 807, 808, 809, 810, 811, 812, 875, 876, 877, 878, 879, 852, 853, 854] (by decide +kernel) (by decide +kernel)) (goodIn_sub (fun _ h => List.mem_append_left _ (List.mem_append_left _ (List.mem_append_right _ h))) (by decide +kernel))) (goodIn_sub (fun _ h => List.mem_append_left _ (List.mem_append_right _ h)) (by decide +kernel))
set_option maxRecDepth 20000 in
theorem gL_law_L_ring : GoodIn wsL_law (va_wsS RL 141 yL_ring wsL_ring) := goodIn_app (goodIn_of _ (by decide +kernel)) ggL_law_L_ring
set_option maxRecDepth 20000 in
theorem ggL_law_X8_ring : GoodIn wsL_law wsX8_ring := goodIn_r _ [444, 187, 445, 79, 80, 189, 190, 5, 191, 192, 193, 194, 195, 813, 814, 815, 816, 817, 818, 819, 820, 821, 822, 823, 824, 825, 826, 827, 828, 829, 830, 831, 832, 833, 834, 835, 836, 837, 838, 839, 840, 841, 842, 843, 844, 845, 846, 847, 848, 849, 850, 851] (by decide +kernel) (by decide +kernel)
set_option maxRecDepth 20000 in
theorem gL_law_X8_ring : GoodIn wsL_law (wsV RL 143 RX8 yX8_ring wsX8_ring) := goodIn_app (goodIn_of _ (by decide +kernel)) ggL_law_X8_ring
set_option maxRecDepth 20000 in
theorem ggL_law_L_flux : GoodIn wsL_law wsL_flux := goodIn_ca (goodIn_ca (goodIn_r _ [448, 203, 100, 449, 450, 451, 2, 452, 22, 453, 454, 455, 456, 114, 115, 116, 16, 117, 118, 211, 212, 213, 214, 215, 109, 110, 111, 112, 113, 216, 217, 218, 219, 220, 221, 222, 223, 224, 225, 226, 227, 228, 229, 230, 231, 37, 457, 458, 459, 434, 460, 461, 462, 463, 238, 151, 239, 440, 464, 465, 466, 467, 468, 439, 469, 806, 807, 808, 809, 810, 811, 812, 875, 876, 877, 878, 879, 852, 853, 854] (by decide +kernel) (by decide +kernel)) (goodIn_sub (fun _ h => List.mem_append_right _ h) (by decide +kernel))) (goodIn_sub (fun _ h => List.mem_append_left _ (List.mem_append_left _ (List.mem_append_right _ h))) (by decide +kernel))
set_option maxRecDepth 20000 in
theorem gL_law_L_flux : GoodIn wsL_law (va_wsS RL 144 yL_flux wsL_flux) := goodIn_app (goodIn_of _ (by decide +kernel)) ggL_law_L_flux
set_option maxRecDepth 20000 in
theorem ggL_law_X8_flux : GoodIn wsL_law wsX8_flux := goodIn_r _ [473, 187, 445, 474, 475, 81, 82, 80, 83, 189, 190, 5, 191, 192, 193, 194, 195, 476, 477, 478, 479, 79, 249, 250, 251, 813, 814, 815, 816, 817, 818, 819, 820, 821, 822, 823, 824, 825, 826, 827, 828, 829, 830, 831, 832, 833, 834, 835, 836, 837, 838, 839, 840, 841, 842, 843, 844, 845, 846, 847, 848, 849, 850, 851] (by decide +kernel) (by decide +kernel)
set_option maxRecDepth 20000 in
theorem gL_law_X8_flux : GoodIn wsL_law (wsV RL 146 RX8 yX8_flux wsX8_flux) := goodIn_app (goodIn_of _ (by decide +kernel)) ggL_law_X8_flux
set_option maxRecDepth 20000 in
theorem ggL_law_L_warm : GoodIn wsL_law wsL_warm := goodIn_ca (goodIn_r _ [482, 203, 483, 484, 485, 2, 486, 22, 455, 487, 114, 115, 116, 16, 117, 118, 211, 212, 213, 214, 215, 216, 217, 218, 219, 220, 221, 222, 223, 224, 225, 226, 227, 228, 229, 230, 231, 37, 488, 489, 490, 434, 491, 469, 492, 493, 494, 495, 806, 807, 808, 809, 810, 811, 812, 875, 876, 877, 878, 879, 852, 853, 854] (by decide +kernel) (by decide +kernel)) (goodIn_sub (fun _ h => List.mem_append_right _ h) (by decide +kernel))
set_option maxRecDepth 20000 in
theorem gL_law_L_warm : GoodIn wsL_law (va_wsS RL 147 yL_warm wsL_warm) := goodIn_app (goodIn_of _ (by decide +kernel)) ggL_law_L_warm
set_option maxRecDepth 20000 in
theorem ggL_law_X8_warm : GoodIn wsL_law wsX8_warm := goodIn_r _ [499, 187, 445, 81, 82, 189, 190, 5, 191, 192, 193, 194, 195, 813, 814, 815, 816, 817, 818, 819, 820, 821, 822, 823, 824, 825, 826, 827, 828, 829, 830, 831, 832, 833, 834, 835, 836, 837, 838, 839, 840, 841, 842, 843, 844, 845, 846, 847, 848, 849, 850, 851] (by decide +kernel) (by decide +kernel)
set_option maxRecDepth 20000 in
theorem gL_law_X8_warm : GoodIn wsL_law (wsV RL 149 RX8 yX8_warm wsX8_warm) := goodIn_app (goodIn_of _ (by decide +kernel)) ggL_law_X8_warm
set_option maxRecDepth 20000 in
theorem ggL_law_L_ofRing : GoodIn wsL_law wsL_ofRing := goodIn_ca (goodIn_ca (goodIn_r _ [502, 203, 100, 503, 504, 505, 2, 506, 22, 455, 487, 507, 114, 115, 116, 16, 117, 118, 211, 212, 213, 214, 215, 109, 110, 111, 112, 113, 216, 217, 218, 219, 220, 221, 222, 223, 224, 225, 226, 227, 228, 229, 230, 231, 37, 508, 466, 467, 434, 468, 439, 469, 806, 807, 808, 809, 810, 811, 812, 875, 876, 877, 878, 879, 852, 853, 854] (by decide +kernel) (by decide +kernel)) (goodIn_sub (fun _ h => List.mem_append_right _ h) (by decide +kernel))) (goodIn_sub (fun _ h => List.mem_append_left _ (List.mem_append_left _ (List.mem_append_right _ h))) (by decide +kernel))
set_option maxRecDepth 20000 in
theorem gL_law_L_ofRing : GoodIn wsL_law (va_wsS RL 150 yL_ofRing wsL_ofRing) := goodIn_app (goodIn_of _ (by decide +kernel)) ggL_law_L_ofRing
set_option maxRecDepth 20000 in
theorem ggL_law_X8_ofRing : GoodIn wsL_law wsX8_ofRing := goodIn_r _ [512, 187, 445, 82, 83, 189, 190, 5, 191, 192, 193, 194, 195, 476, 477, 478, 479, 81, 79, 813, 814, 815, 816, 817, 818, 819, 820, 821, 822, 823, 824, 825, 826, 827, 828, 829, 830, 831, 832, 833, 834, 835, 836, 837, 838, 839, 840, 841, 842, 843, 844, 845, 846, 847, 848, 849, 850, 851] (by decide +kernel) (by decide +kernel)
set_option maxRecDepth 20000 in
theorem gL_law_X8_ofRing : GoodIn wsL_law (wsV RL 152 RX8 yX8_ofRing wsX8_ofRing) := goodIn_app (goodIn_of _ (by decide +kernel)) ggL_law_X8_ofRing
set_option maxRecDepth 20000 in
theorem ggL_law_L_current : GoodIn wsL_law wsL_current := goodIn_ca (goodIn_r _ [515, 100, 516, 517, 518, 2, 519, 26, 520, 521, 522, 109, 110, 111, 112, 113, 806, 807, 808, 809, 810, 811, 812, 860, 861, 862, 863, 864, 865, 866] (by decide +kernel) (by decide +kernel)) (goodIn_sub (fun _ h => List.mem_append_left _ (List.mem_append_left _ (List.mem_append_right _ h))) (by decide +kernel))
set_option maxRecDepth 20000 in
theorem gL_law_L_current : GoodIn wsL_law (va_wsS RL 153 yL_current wsL_current) := goodIn_app (goodIn_of _ (by decide +kernel)) ggL_law_L_current
set_option maxRecDepth 20000 in
theorem ggL_law_X8_current : GoodIn wsL_law wsX8_current := goodIn_r _ [526, 187, 527, 528, 529, 189, 190, 5, 191, 192, 193, 194, 195, 813, 814, 815, 816, 817, 818, 819, 820, 821, 822, 823, 824, 825, 826, 827, 828, 829, 830, 831, 832, 833, 834, 835, 836, 837, 838, 839, 840, 841, 842, 843, 844, 845, 846, 847, 848, 849, 850, 851] (by decide +kernel) (by decide +kernel)
set_option maxRecDepth 20000 in
theorem gL_law_X8_current : GoodIn wsL_law (wsV RL 155 RX8 yX8_current wsX8_current) := goodIn_app (goodIn_of _ (by decide +kernel)) ggL_law_X8_current
set_option maxRecDepth 20000 in
theorem ggL_law_L_heat : GoodIn wsL_law wsL_heat := goodIn_ca (goodIn_ca (goodIn_r _ [532, 203, 100, 533, 534, 535, 2, 536, 26, 537, 538, 177, 151, 178, 211, 212, 213, 214, 215, 109, 110, 111, 112, 113, 806, 807, 808, 809, 810, 811, 812, 860, 861, 862, 863, 864, 865, 866] (by decide +kernel) (by decide +kernel)) (goodIn_sub (fun _ h => List.mem_append_right _ h) (by decide +kernel))) (goodIn_sub (fun _ h => List.mem_append_left _ (List.mem_append_left _ (List.mem_append_right _ h))) (by decide +kernel))
set_option maxRecDepth 20000 in
theorem gL_law_L_heat : GoodIn wsL_law (va_wsS RL 156 yL_heat wsL_heat) := goodIn_app (goodIn_of _ (by decide +kernel)) ggL_law_L_heat
set_option maxRecDepth 20000 in
theorem ggL_law_X8_heat : GoodIn wsL_law wsX8_heat := goodIn_r _ [542, 187, 84, 189, 190, 5, 191, 192, 193, 194, 195, 813, 814, 815, 816, 817, 818, 819, 820, 821, 822, 823, 824, 825, 826, 827, 828, 829, 830, 831, 832, 833, 834, 835, 836, 837, 838, 839, 840, 841, 842, 843, 844, 845, 846, 847, 848, 849, 850, 851] (by decide +kernel) (by decide +kernel)
set_option maxRecDepth 20000 in
theorem gL_law_X8_heat : GoodIn wsL_law (wsV RL 158 RX8 yX8_heat wsX8_heat) := goodIn_app (goodIn_of _ (by decide +kernel)) ggL_law_X8_heat
set_option maxRecDepth 20000 in
theorem ggL_law_L_pass : GoodIn wsL_law wsL_pass := goodIn_ca (goodIn_r _ [545, 100, 546, 547, 548, 2, 549, 26, 520, 109, 110, 111, 112, 113, 550, 551, 552, 25, 553, 554, 555, 556, 557, 558, 559, 560, 561, 562, 563, 564, 565, 566, 567, 568, 569, 570, 571, 150, 151, 152, 59, 572, 573, 574, 575, 576, 577, 578, 579, 60, 580, 177, 178, 581, 582, 583, 584, 585, 238, 239, 586, 587, 588, 589, 590, 806, 807, 808, 809, 810, 811, 812, 860, 861, 862, 863, 864, 865, 866] (by decide +kernel) (by decide +kernel)) (goodIn_sub (fun _ h => List.mem_append_left _ (List.mem_append_left _ (List.mem_append_right _ h))) (by decide +kernel))
set_option maxRecDepth 20000 in
theorem gL_law_L_pass : GoodIn wsL_law (va_wsS RL 159 yL_pass wsL_pass) := goodIn_app (goodIn_of _ (by decide +kernel)) ggL_law_L_pass
set_option maxRecDepth 20000 in
theorem ggL_law_X8_pass : GoodIn wsL_law wsX8_pass := goodIn_r _ [594, 187, 527, 189, 190, 5, 191, 192, 193, 194, 195, 595, 596, 597, 598, 528, 84, 85, 529, 599, 600, 601, 602, 603, 604, 605, 606, 607, 608, 609, 610, 611, 612, 613, 614, 615, 616, 617, 618, 619, 620, 621, 249, 250, 251, 813, 814, 815, 816, 817, 818, 819, 820, 821, 822, 823, 824, 825, 826, 827, 828, 829, 830, 831, 832, 833, 834, 835, 836, 837, 838, 839, 840, 841, 842, 843, 844, 845, 846, 847, 848, 849, 850, 851] (by decide +kernel) (by decide +kernel)
set_option maxRecDepth 20000 in
theorem gL_law_X8_pass : GoodIn wsL_law (wsV RL 161 RX8 yX8_pass wsX8_pass) := goodIn_app (goodIn_of _ (by decide +kernel)) ggL_law_X8_pass
set_option maxRecDepth 20000 in
theorem ggL_law_L_warmth : GoodIn wsL_law wsL_warmth := goodIn_ca (goodIn_r _ [624, 203, 625, 626, 627, 2, 628, 26, 537, 211, 212, 213, 214, 215, 806, 807, 808, 809, 810, 811, 812, 860, 861, 862, 863, 864, 865, 866] (by decide +kernel) (by decide +kernel)) (goodIn_sub (fun _ h => List.mem_append_right _ h) (by decide +kernel))
set_option maxRecDepth 20000 in
theorem gL_law_L_warmth : GoodIn wsL_law (va_wsS RL 162 yL_warmth wsL_warmth) := goodIn_app (goodIn_of _ (by decide +kernel)) ggL_law_L_warmth
set_option maxRecDepth 20000 in
theorem ggL_law_X8_warmth : GoodIn wsL_law wsX8_warmth := goodIn_r _ [632, 187, 84, 189, 190, 5, 191, 192, 193, 194, 195, 813, 814, 815, 816, 817, 818, 819, 820, 821, 822, 823, 824, 825, 826, 827, 828, 829, 830, 831, 832, 833, 834, 835, 836, 837, 838, 839, 840, 841, 842, 843, 844, 845, 846, 847, 848, 849, 850, 851] (by decide +kernel) (by decide +kernel)
set_option maxRecDepth 20000 in
theorem gL_law_X8_warmth : GoodIn wsL_law (wsV RL 164 RX8 yX8_warmth wsX8_warmth) := goodIn_app (goodIn_of _ (by decide +kernel)) ggL_law_X8_warmth
set_option maxRecDepth 20000 in
theorem ggL_law_L_ofCoil : GoodIn wsL_law wsL_ofCoil := goodIn_ca (goodIn_r _ [635, 100, 636, 637, 638, 2, 639, 26, 521, 640, 641, 109, 110, 111, 112, 113, 642, 568, 569, 25, 570, 571, 150, 151, 152, 59, 572, 573, 574, 575, 559, 643, 588, 589, 590, 567, 644, 563, 564, 565, 566, 806, 807, 808, 809, 810, 811, 812, 860, 861, 862, 863, 864, 865, 866] (by decide +kernel) (by decide +kernel)) (goodIn_sub (fun _ h => List.mem_append_left _ (List.mem_append_left _ (List.mem_append_right _ h))) (by decide +kernel))
set_option maxRecDepth 20000 in
theorem gL_law_L_ofCoil : GoodIn wsL_law (va_wsS RL 165 yL_ofCoil wsL_ofCoil) := goodIn_app (goodIn_of _ (by decide +kernel)) ggL_law_L_ofCoil
set_option maxRecDepth 20000 in
theorem ggL_law_X8_ofCoil : GoodIn wsL_law wsX8_ofCoil := goodIn_r _ [648, 187, 528, 603, 604, 189, 190, 5, 191, 192, 193, 194, 195, 610, 611, 612, 613, 614, 615, 616, 617, 84, 527, 618, 619, 620, 621, 605, 606, 607, 608, 609, 813, 814, 815, 816, 817, 818, 819, 820, 821, 822, 823, 824, 825, 826, 827, 828, 829, 830, 831, 832, 833, 834, 835, 836, 837, 838, 839, 840, 841, 842, 843, 844, 845, 846, 847, 848, 849, 850, 851] (by decide +kernel) (by decide +kernel)
set_option maxRecDepth 20000 in
theorem gL_law_X8_ofCoil : GoodIn wsL_law (wsV RL 167 RX8 yX8_ofCoil wsX8_ofCoil) := goodIn_app (goodIn_of _ (by decide +kernel)) ggL_law_X8_ofCoil
set_option maxRecDepth 20000 in
theorem ggL_law_X7_share : GoodIn wsL_law wsX7_share := goodIn_r _ [652, 26, 640, 641, 806, 807, 808, 809, 810, 811, 812, 860, 861, 862, 863, 864, 865, 866] (by decide +kernel) (by decide +kernel)
set_option maxRecDepth 20000 in
theorem gL_law_X7_share : GoodIn wsL_law (wsV RL 168 RX7 yX7_share wsX7_share) := goodIn_app (goodIn_of _ (by decide +kernel)) ggL_law_X7_share
set_option maxRecDepth 20000 in
theorem ggL_law_X8_share : GoodIn wsL_law wsX8_share := goodIn_r _ [656, 187, 603, 604, 813, 814, 815, 816, 817, 818, 819, 820, 821, 822, 823, 824, 825, 826, 827, 828, 829, 830, 831, 832, 833, 834, 835, 836, 837, 838, 839, 840, 841, 842, 843, 844, 845, 846, 847, 848, 849, 850, 851] (by decide +kernel) (by decide +kernel)
set_option maxRecDepth 20000 in
theorem gL_law_X8_share : GoodIn wsL_law (wsV RL 172 RX8 yX8_share wsX8_share) := goodIn_app (goodIn_of _ (by decide +kernel)) ggL_law_X8_share
set_option maxRecDepth 20000 in
theorem ggL_law_L_margins : GoodIn wsL_law wsL_margins := goodIn_ca (goodIn_r _ [659, 100, 660, 661, 662, 2, 663, 30, 664, 665, 109, 110, 111, 112, 113, 806, 807, 808, 809, 810, 811, 812, 867, 868, 869] (by decide +kernel) (by decide +kernel)) (goodIn_sub (fun _ h => List.mem_append_left _ (List.mem_append_left _ (List.mem_append_right _ h))) (by decide +kernel))
set_option maxRecDepth 20000 in
theorem gL_law_L_margins : GoodIn wsL_law (va_wsS RL 173 yL_margins wsL_margins) := goodIn_app (goodIn_of _ (by decide +kernel)) ggL_law_L_margins
set_option maxRecDepth 20000 in
theorem ggL_law_X8_margins : GoodIn wsL_law wsX8_margins := goodIn_r _ [669, 187, 86, 87, 189, 190, 5, 191, 192, 193, 194, 195, 813, 814, 815, 816, 817, 818, 819, 820, 821, 822, 823, 824, 825, 826, 827, 828, 829, 830, 831, 832, 833, 834, 835, 836, 837, 838, 839, 840, 841, 842, 843, 844, 845, 846, 847, 848, 849, 850, 851] (by decide +kernel) (by decide +kernel)
set_option maxRecDepth 20000 in
theorem gL_law_X8_margins : GoodIn wsL_law (wsV RL 175 RX8 yX8_margins wsX8_margins) := goodIn_app (goodIn_of _ (by decide +kernel)) ggL_law_X8_margins
set_option maxRecDepth 20000 in
theorem ggL_law_L_pulse : GoodIn wsL_law wsL_pulse := goodIn_ca (goodIn_r _ [672, 100, 673, 674, 675, 2, 676, 30, 109, 110, 111, 112, 113, 677, 678, 679, 29, 680, 65, 681, 66, 682, 806, 807, 808, 809, 810, 811, 812, 867, 868, 869] (by decide +kernel) (by decide +kernel)) (goodIn_sub (fun _ h => List.mem_append_left _ (List.mem_append_left _ (List.mem_append_right _ h))) (by decide +kernel))
set_option maxRecDepth 20000 in
theorem gL_law_L_pulse : GoodIn wsL_law (va_wsS RL 176 yL_pulse wsL_pulse) := goodIn_app (goodIn_of _ (by decide +kernel)) ggL_law_L_pulse
set_option maxRecDepth 20000 in
theorem ggL_law_X8_pulse : GoodIn wsL_law wsX8_pulse := goodIn_r _ [686, 187, 86, 87, 687, 688, 189, 190, 5, 191, 192, 193, 194, 195, 813, 814, 815, 816, 817, 818, 819, 820, 821, 822, 823, 824, 825, 826, 827, 828, 829, 830, 831, 832, 833, 834, 835, 836, 837, 838, 839, 840, 841, 842, 843, 844, 845, 846, 847, 848, 849, 850, 851] (by decide +kernel) (by decide +kernel)
set_option maxRecDepth 20000 in
theorem gL_law_X8_pulse : GoodIn wsL_law (wsV RL 178 RX8 yX8_pulse wsX8_pulse) := goodIn_app (goodIn_of _ (by decide +kernel)) ggL_law_X8_pulse
set_option maxRecDepth 20000 in
theorem ggL_law_L_bit : GoodIn wsL_law wsL_bit := goodIn_ca (goodIn_r _ [691, 203, 692, 693, 694, 2, 695, 30, 696, 211, 212, 213, 214, 215, 806, 807, 808, 809, 810, 811, 812, 867, 868, 869] (by decide +kernel) (by decide +kernel)) (goodIn_sub (fun _ h => List.mem_append_right _ h) (by decide +kernel))
set_option maxRecDepth 20000 in
theorem gL_law_L_bit : GoodIn wsL_law (va_wsS RL 179 yL_bit wsL_bit) := goodIn_app (goodIn_of _ (by decide +kernel)) ggL_law_L_bit
set_option maxRecDepth 20000 in
theorem ggL_law_X8_bit : GoodIn wsL_law wsX8_bit := goodIn_r _ [700, 187, 687, 189, 190, 5, 191, 192, 193, 194, 195, 813, 814, 815, 816, 817, 818, 819, 820, 821, 822, 823, 824, 825, 826, 827, 828, 829, 830, 831, 832, 833, 834, 835, 836, 837, 838, 839, 840, 841, 842, 843, 844, 845, 846, 847, 848, 849, 850, 851] (by decide +kernel) (by decide +kernel)
set_option maxRecDepth 20000 in
theorem gL_law_X8_bit : GoodIn wsL_law (wsV RL 181 RX8 yX8_bit wsX8_bit) := goodIn_app (goodIn_of _ (by decide +kernel)) ggL_law_X8_bit
set_option maxRecDepth 20000 in
theorem ggL_law_L_point : GoodIn wsL_law wsL_point := goodIn_ca (goodIn_ca (goodIn_r _ [703, 100, 101, 704, 705, 706, 2, 707, 453, 454, 31, 708, 709, 710, 109, 110, 111, 112, 113, 114, 115, 116, 16, 117, 118, 119, 120, 121, 122, 123, 711, 712, 713, 714, 12, 13, 715, 716, 717, 131, 132, 133, 134, 135, 136, 37, 137, 138, 139, 140, 141, 142, 143, 144, 145, 146, 147, 148, 36, 149, 150, 151, 152, 153, 154, 155, 156, 157, 158, 159, 160, 161, 162, 163, 164, 165, 166, 167, 168, 169, 170, 171, 172, 173, 174, 175, 176, 177, 178, 179, 180, 181, 182, 806, 807, 808, 809, 810, 811, 812, 880, 881, 882, 852, 853, 854] (by decide +kernel) (by decide +kernel)) (goodIn_sub (fun _ h => List.mem_append_left _ (List.mem_append_left _ (List.mem_append_right _ h))) (by decide +kernel))) (goodIn_sub (fun _ h => List.mem_append_left _ (List.mem_append_right _ h)) (by decide +kernel))
set_option maxRecDepth 20000 in
theorem gL_law_L_point : GoodIn wsL_law (va_wsS RL 182 yL_point wsL_point) := goodIn_app (goodIn_of _ (by decide +kernel)) ggL_law_L_point
set_option maxRecDepth 20000 in
theorem ggL_law_X8_point : GoodIn wsL_law wsX8_point := goodIn_r _ [721, 187, 474, 475, 722, 88, 89, 90, 189, 190, 5, 191, 192, 193, 194, 195, 813, 814, 815, 816, 817, 818, 819, 820, 821, 822, 823, 824, 825, 826, 827, 828, 829, 830, 831, 832, 833, 834, 835, 836, 837, 838, 839, 840, 841, 842, 843, 844, 845, 846, 847, 848, 849, 850, 851] (by decide +kernel) (by decide +kernel)
set_option maxRecDepth 20000 in
theorem gL_law_X8_point : GoodIn wsL_law (wsV RL 184 RX8 yX8_point wsX8_point) := goodIn_app (goodIn_of _ (by decide +kernel)) ggL_law_X8_point
set_option maxRecDepth 20000 in
theorem ggL_law_L_claim : GoodIn wsL_law wsL_claim := goodIn_ca (goodIn_ca (goodIn_ca (goodIn_r _ [725, 203, 100, 101, 726, 727, 728, 2, 729, 31, 32, 730, 731, 732, 114, 115, 116, 16, 117, 118, 211, 212, 213, 214, 215, 109, 110, 111, 112, 113, 119, 120, 121, 122, 123, 733, 734, 735, 736, 12, 13, 737, 738, 739, 740, 52, 741, 131, 132, 133, 134, 135, 136, 37, 137, 138, 139, 140, 141, 142, 143, 144, 145, 146, 147, 148, 36, 149, 150, 151, 152, 153, 154, 155, 156, 157, 158, 159, 160, 161, 162, 163, 164, 165, 166, 167, 168, 169, 170, 171, 172, 173, 174, 175, 176, 177, 178, 179, 180, 181, 182, 806, 807, 808, 809, 810, 811, 812, 883, 884, 885, 886, 887, 852, 853, 854] (by decide +kernel) (by decide +kernel)) (goodIn_sub (fun _ h => List.mem_append_right _ h) (by decide +kernel))) (goodIn_sub (fun _ h => List.mem_append_left _ (List.mem_append_left _ (List.mem_append_right _ h))) (by decide +kernel))) (goodIn_sub (fun _ h => List.mem_append_left _ (List.mem_append_right _ h)) (by decide +kernel))
set_option maxRecDepth 20000 in
theorem gL_law_L_claim : GoodIn wsL_law (va_wsS RL 185 yL_claim wsL_claim) := goodIn_app (goodIn_of _ (by decide +kernel)) ggL_law_L_claim
set_option maxRecDepth 20000 in
theorem ggL_law_X8_claim : GoodIn wsL_law wsX8_claim := goodIn_r _ [745, 187, 722, 746, 91, 92, 93, 94, 189, 190, 5, 191, 192, 193, 194, 195, 813, 814, 815, 816, 817, 818, 819, 820, 821, 822, 823, 824, 825, 826, 827, 828, 829, 830, 831, 832, 833, 834, 835, 836, 837, 838, 839, 840, 841, 842, 843, 844, 845, 846, 847, 848, 849, 850, 851] (by decide +kernel) (by decide +kernel)
set_option maxRecDepth 20000 in
theorem gL_law_X8_claim : GoodIn wsL_law (wsV RL 187 RX8 yX8_claim wsX8_claim) := goodIn_app (goodIn_of _ (by decide +kernel)) ggL_law_X8_claim
set_option maxRecDepth 20000 in
theorem ggL_law_L_repeats : GoodIn wsL_law wsL_repeats := goodIn_ca (goodIn_r _ [749, 203, 750, 751, 752, 2, 753, 32, 754, 755, 114, 115, 116, 16, 117, 118, 211, 212, 213, 214, 215, 216, 217, 218, 219, 220, 221, 222, 223, 224, 225, 226, 227, 228, 229, 230, 231, 37, 756, 757, 758, 732, 759, 741, 806, 807, 808, 809, 810, 811, 812, 883, 884, 885, 886, 887, 852, 853, 854] (by decide +kernel) (by decide +kernel)) (goodIn_sub (fun _ h => List.mem_append_right _ h) (by decide +kernel))
set_option maxRecDepth 20000 in
theorem gL_law_L_repeats : GoodIn wsL_law (va_wsS RL 188 yL_repeats wsL_repeats) := goodIn_app (goodIn_of _ (by decide +kernel)) ggL_law_L_repeats
set_option maxRecDepth 20000 in
theorem ggL_law_X8_repeats : GoodIn wsL_law wsX8_repeats := goodIn_r _ [763, 187, 746, 95, 189, 190, 5, 191, 192, 193, 194, 195, 764, 765, 766, 767, 813, 814, 815, 816, 817, 818, 819, 820, 821, 822, 823, 824, 825, 826, 827, 828, 829, 830, 831, 832, 833, 834, 835, 836, 837, 838, 839, 840, 841, 842, 843, 844, 845, 846, 847, 848, 849, 850, 851] (by decide +kernel) (by decide +kernel)
set_option maxRecDepth 20000 in
theorem gL_law_X8_repeats : GoodIn wsL_law (wsV RL 191 RX8 yX8_repeats wsX8_repeats) := goodIn_app (goodIn_of _ (by decide +kernel)) ggL_law_X8_repeats
set_option maxRecDepth 20000 in
theorem ggL_law_L_judge : GoodIn wsL_law wsL_judge := goodIn_ca (goodIn_ca (goodIn_r _ [770, 203, 100, 771, 772, 773, 2, 774, 32, 454, 754, 31, 114, 115, 116, 16, 117, 118, 211, 212, 213, 214, 215, 109, 110, 111, 112, 113, 216, 217, 218, 219, 220, 221, 222, 223, 224, 225, 226, 227, 228, 229, 230, 231, 37, 775, 776, 777, 732, 778, 739, 738, 740, 779, 780, 781, 782, 783, 784, 737, 785, 786, 238, 151, 239, 787, 788, 789, 790, 791, 710, 792, 716, 715, 793, 757, 758, 759, 741, 806, 807, 808, 809, 810, 811, 812, 852, 853, 854, 883, 884, 885, 886, 887, 880, 881, 882] (by decide +kernel) (by decide +kernel)) (goodIn_sub (fun _ h => List.mem_append_right _ h) (by decide +kernel))) (goodIn_sub (fun _ h => List.mem_append_left _ (List.mem_append_left _ (List.mem_append_right _ h))) (by decide +kernel))
set_option maxRecDepth 20000 in
theorem gL_law_L_judge : GoodIn wsL_law (va_wsS RL 192 yL_judge wsL_judge) := goodIn_app (goodIn_of _ (by decide +kernel)) ggL_law_L_judge
set_option maxRecDepth 20000 in
theorem ggL_law_X8_judge : GoodIn wsL_law wsX8_judge := goodIn_r _ [797, 187, 746, 475, 93, 92, 94, 189, 190, 5, 191, 192, 193, 194, 195, 798, 799, 800, 801, 90, 802, 803, 804, 805, 88, 89, 91, 249, 250, 251, 764, 765, 766, 767, 95, 813, 814, 815, 816, 817, 818, 819, 820, 821, 822, 823, 824, 825, 826, 827, 828, 829, 830, 831, 832, 833, 834, 835, 836, 837, 838, 839, 840, 841, 842, 843, 844, 845, 846, 847, 848, 849, 850, 851] (by decide +kernel) (by decide +kernel)
set_option maxRecDepth 20000 in
theorem gL_law_X8_judge : GoodIn wsL_law (wsV RL 194 RX8 yX8_judge wsX8_judge) := goodIn_app (goodIn_of _ (by decide +kernel)) ggL_law_X8_judge
theorem dL_law_0 : decode cL_law 0 = .ok (.new 8, 3) := by decide +kernel
theorem dL_law_3 : decode cL_law 3 = .ok (.dup, 1) := by decide +kernel
theorem dL_law_4 : decode cL_law 4 = .ok (.invokespecial 94, 3) := by decide +kernel
theorem dL_law_7 : decode cL_law 7 = .ok (.astore_n 1, 1) := by decide +kernel
theorem dL_law_8 : decode cL_law 8 = .ok (.new 95, 3) := by decide +kernel
theorem dL_law_11 : decode cL_law 11 = .ok (.dup, 1) := by decide +kernel
theorem dL_law_12 : decode cL_law 12 = .ok (.invokespecial 97, 3) := by decide +kernel
theorem dL_law_15 : decode cL_law 15 = .ok (.astore_n 2, 1) := by decide +kernel
theorem dL_law_16 : decode cL_law 16 = .ok (.iconst 1, 1) := by decide +kernel
theorem dL_law_17 : decode cL_law 17 = .ok (.newarray .long, 2) := by decide +kernel
theorem dL_law_19 : decode cL_law 19 = .ok (.astore_n 3, 1) := by decide +kernel
theorem dL_law_20 : decode cL_law 20 = .ok (.iconst 1, 1) := by decide +kernel
theorem dL_law_21 : decode cL_law 21 = .ok (.newarray .double, 2) := by decide +kernel
theorem dL_law_23 : decode cL_law 23 = .ok (.astore 4, 2) := by decide +kernel
theorem dL_law_25 : decode cL_law 25 = .ok (.iconst 0, 1) := by decide +kernel
theorem dL_law_26 : decode cL_law 26 = .ok (.istore 5, 2) := by decide +kernel
theorem dL_law_28 : decode cL_law 28 = .ok (.iload 5, 2) := by decide +kernel
theorem dL_law_30 : decode cL_law 30 = .ok (.aload_n 0, 1) := by decide +kernel
theorem dL_law_31 : decode cL_law 31 = .ok (.arraylength, 1) := by decide +kernel
theorem dL_law_32 : decode cL_law 32 = .ok (.iconst 4, 1) := by decide +kernel
theorem dL_law_33 : decode cL_law 33 = .ok (.isub, 1) := by decide +kernel
theorem dL_law_34 : decode cL_law 34 = .ok (.if_icmp .gt 1775, 3) := by decide +kernel
theorem dL_law_37 : decode cL_law 37 = .ok (.aload_n 0, 1) := by decide +kernel
theorem dL_law_38 : decode cL_law 38 = .ok (.iload 5, 2) := by decide +kernel
theorem dL_law_40 : decode cL_law 40 = .ok (.iaload, 1) := by decide +kernel
theorem dL_law_41 : decode cL_law 41 = .ok (.bipush 31, 2) := by decide +kernel
theorem dL_law_43 : decode cL_law 43 = .ok (.iand, 1) := by decide +kernel
theorem dL_law_44 : decode cL_law 44 = .ok (.tableswitch 1759 0 26 #[124, 204, 284, 361, 429, 477, 533, 546, 559, 615, 671, 739, 807, 863, 931, 987, 1055, 1111, 1167, 1222, 1263, 1311, 1379, 1435, 1515, 1595, 1691], 124) := by decide +kernel
theorem dL_law_168 : decode cL_law 168 = .ok (.aload_n 1, 1) := by decide +kernel
theorem dL_law_169 : decode cL_law 169 = .ok (.aload_n 0, 1) := by decide +kernel
theorem dL_law_170 : decode cL_law 170 = .ok (.iload 5, 2) := by decide +kernel
theorem dL_law_172 : decode cL_law 172 = .ok (.iconst 1, 1) := by decide +kernel
theorem dL_law_173 : decode cL_law 173 = .ok (.iadd, 1) := by decide +kernel
theorem dL_law_174 : decode cL_law 174 = .ok (.iaload, 1) := by decide +kernel
theorem dL_law_175 : decode cL_law 175 = .ok (.aload_n 0, 1) := by decide +kernel
theorem dL_law_176 : decode cL_law 176 = .ok (.iload 5, 2) := by decide +kernel
theorem dL_law_178 : decode cL_law 178 = .ok (.iconst 2, 1) := by decide +kernel
theorem dL_law_179 : decode cL_law 179 = .ok (.iadd, 1) := by decide +kernel
theorem dL_law_180 : decode cL_law 180 = .ok (.iaload, 1) := by decide +kernel
theorem dL_law_181 : decode cL_law 181 = .ok (.aload_n 0, 1) := by decide +kernel
theorem dL_law_182 : decode cL_law 182 = .ok (.iload 5, 2) := by decide +kernel
theorem dL_law_184 : decode cL_law 184 = .ok (.iconst 3, 1) := by decide +kernel
theorem dL_law_185 : decode cL_law 185 = .ok (.iadd, 1) := by decide +kernel
theorem dL_law_186 : decode cL_law 186 = .ok (.iaload, 1) := by decide +kernel
theorem dL_law_187 : decode cL_law 187 = .ok (.aload_n 3, 1) := by decide +kernel
theorem dL_law_188 : decode cL_law 188 = .ok (.invokestatic 98, 3) := by decide +kernel
theorem dL_law_191 : decode cL_law 191 = .ok (.istore 6, 2) := by decide +kernel
theorem dL_law_193 : decode cL_law 193 = .ok (.aload_n 2, 1) := by decide +kernel
theorem dL_law_194 : decode cL_law 194 = .ok (.aload_n 0, 1) := by decide +kernel
theorem dL_law_195 : decode cL_law 195 = .ok (.iload 5, 2) := by decide +kernel
theorem dL_law_197 : decode cL_law 197 = .ok (.iconst 1, 1) := by decide +kernel
theorem dL_law_198 : decode cL_law 198 = .ok (.iadd, 1) := by decide +kernel
theorem dL_law_199 : decode cL_law 199 = .ok (.iaload, 1) := by decide +kernel
theorem dL_law_200 : decode cL_law 200 = .ok (.aload_n 0, 1) := by decide +kernel
theorem dL_law_201 : decode cL_law 201 = .ok (.iload 5, 2) := by decide +kernel
theorem dL_law_203 : decode cL_law 203 = .ok (.iconst 2, 1) := by decide +kernel
theorem dL_law_204 : decode cL_law 204 = .ok (.iadd, 1) := by decide +kernel
theorem dL_law_205 : decode cL_law 205 = .ok (.iaload, 1) := by decide +kernel
theorem dL_law_206 : decode cL_law 206 = .ok (.aload_n 0, 1) := by decide +kernel
theorem dL_law_207 : decode cL_law 207 = .ok (.iload 5, 2) := by decide +kernel
theorem dL_law_209 : decode cL_law 209 = .ok (.iconst 3, 1) := by decide +kernel
theorem dL_law_210 : decode cL_law 210 = .ok (.iadd, 1) := by decide +kernel
theorem dL_law_211 : decode cL_law 211 = .ok (.iaload, 1) := by decide +kernel
theorem dL_law_212 : decode cL_law 212 = .ok (.invokevirtual 103, 3) := by decide +kernel
theorem dL_law_215 : decode cL_law 215 = .ok (.istore 7, 2) := by decide +kernel
theorem dL_law_217 : decode cL_law 217 = .ok (.aload_n 2, 1) := by decide +kernel
theorem dL_law_218 : decode cL_law 218 = .ok (.invokevirtual 104, 3) := by decide +kernel
theorem dL_law_221 : decode cL_law 221 = .ok (.iload 6, 2) := by decide +kernel
theorem dL_law_223 : decode cL_law 223 = .ok (.if_icmp .eq 5, 3) := by decide +kernel
theorem dL_law_226 : decode cL_law 226 = .ok (.iconst 0, 1) := by decide +kernel
theorem dL_law_227 : decode cL_law 227 = .ok (.ireturn, 1) := by decide +kernel
theorem dL_law_228 : decode cL_law 228 = .ok (.iload 6, 2) := by decide +kernel
theorem dL_law_230 : decode cL_law 230 = .ok (.ifCond .ne 15, 3) := by decide +kernel
theorem dL_law_233 : decode cL_law 233 = .ok (.aload_n 3, 1) := by decide +kernel
theorem dL_law_234 : decode cL_law 234 = .ok (.iconst 0, 1) := by decide +kernel
theorem dL_law_235 : decode cL_law 235 = .ok (.laload, 1) := by decide +kernel
theorem dL_law_236 : decode cL_law 236 = .ok (.iload 7, 2) := by decide +kernel
theorem dL_law_238 : decode cL_law 238 = .ok (.i2l, 1) := by decide +kernel
theorem dL_law_239 : decode cL_law 239 = .ok (.lcmp, 1) := by decide +kernel
theorem dL_law_240 : decode cL_law 240 = .ok (.ifCond .eq 5, 3) := by decide +kernel
theorem dL_law_243 : decode cL_law 243 = .ok (.iconst 0, 1) := by decide +kernel
theorem dL_law_244 : decode cL_law 244 = .ok (.ireturn, 1) := by decide +kernel
theorem dL_law_245 : decode cL_law 245 = .ok (.goto 1558, 3) := by decide +kernel
theorem dL_law_248 : decode cL_law 248 = .ok (.aload_n 1, 1) := by decide +kernel
theorem dL_law_249 : decode cL_law 249 = .ok (.aload_n 0, 1) := by decide +kernel
theorem dL_law_250 : decode cL_law 250 = .ok (.iload 5, 2) := by decide +kernel
theorem dL_law_252 : decode cL_law 252 = .ok (.iconst 1, 1) := by decide +kernel
theorem dL_law_253 : decode cL_law 253 = .ok (.iadd, 1) := by decide +kernel
theorem dL_law_254 : decode cL_law 254 = .ok (.iaload, 1) := by decide +kernel
theorem dL_law_255 : decode cL_law 255 = .ok (.aload_n 0, 1) := by decide +kernel
theorem dL_law_256 : decode cL_law 256 = .ok (.iload 5, 2) := by decide +kernel
theorem dL_law_258 : decode cL_law 258 = .ok (.iconst 2, 1) := by decide +kernel
theorem dL_law_259 : decode cL_law 259 = .ok (.iadd, 1) := by decide +kernel
theorem dL_law_260 : decode cL_law 260 = .ok (.iaload, 1) := by decide +kernel
theorem dL_law_261 : decode cL_law 261 = .ok (.aload_n 0, 1) := by decide +kernel
theorem dL_law_262 : decode cL_law 262 = .ok (.iload 5, 2) := by decide +kernel
theorem dL_law_264 : decode cL_law 264 = .ok (.iconst 3, 1) := by decide +kernel
theorem dL_law_265 : decode cL_law 265 = .ok (.iadd, 1) := by decide +kernel
theorem dL_law_266 : decode cL_law 266 = .ok (.iaload, 1) := by decide +kernel
theorem dL_law_267 : decode cL_law 267 = .ok (.aload_n 3, 1) := by decide +kernel
theorem dL_law_268 : decode cL_law 268 = .ok (.invokestatic 108, 3) := by decide +kernel
theorem dL_law_271 : decode cL_law 271 = .ok (.istore 6, 2) := by decide +kernel
theorem dL_law_273 : decode cL_law 273 = .ok (.aload_n 2, 1) := by decide +kernel
theorem dL_law_274 : decode cL_law 274 = .ok (.aload_n 0, 1) := by decide +kernel
theorem dL_law_275 : decode cL_law 275 = .ok (.iload 5, 2) := by decide +kernel
theorem dL_law_277 : decode cL_law 277 = .ok (.iconst 1, 1) := by decide +kernel
theorem dL_law_278 : decode cL_law 278 = .ok (.iadd, 1) := by decide +kernel
theorem dL_law_279 : decode cL_law 279 = .ok (.iaload, 1) := by decide +kernel
theorem dL_law_280 : decode cL_law 280 = .ok (.aload_n 0, 1) := by decide +kernel
theorem dL_law_281 : decode cL_law 281 = .ok (.iload 5, 2) := by decide +kernel
theorem dL_law_283 : decode cL_law 283 = .ok (.iconst 2, 1) := by decide +kernel
theorem dL_law_284 : decode cL_law 284 = .ok (.iadd, 1) := by decide +kernel
theorem dL_law_285 : decode cL_law 285 = .ok (.iaload, 1) := by decide +kernel
theorem dL_law_286 : decode cL_law 286 = .ok (.aload_n 0, 1) := by decide +kernel
theorem dL_law_287 : decode cL_law 287 = .ok (.iload 5, 2) := by decide +kernel
theorem dL_law_289 : decode cL_law 289 = .ok (.iconst 3, 1) := by decide +kernel
theorem dL_law_290 : decode cL_law 290 = .ok (.iadd, 1) := by decide +kernel
theorem dL_law_291 : decode cL_law 291 = .ok (.iaload, 1) := by decide +kernel
theorem dL_law_292 : decode cL_law 292 = .ok (.invokevirtual 110, 3) := by decide +kernel
theorem dL_law_295 : decode cL_law 295 = .ok (.istore 7, 2) := by decide +kernel
theorem dL_law_297 : decode cL_law 297 = .ok (.aload_n 2, 1) := by decide +kernel
theorem dL_law_298 : decode cL_law 298 = .ok (.invokevirtual 104, 3) := by decide +kernel
theorem dL_law_301 : decode cL_law 301 = .ok (.iload 6, 2) := by decide +kernel
theorem dL_law_303 : decode cL_law 303 = .ok (.if_icmp .eq 5, 3) := by decide +kernel
theorem dL_law_306 : decode cL_law 306 = .ok (.iconst 0, 1) := by decide +kernel
theorem dL_law_307 : decode cL_law 307 = .ok (.ireturn, 1) := by decide +kernel
