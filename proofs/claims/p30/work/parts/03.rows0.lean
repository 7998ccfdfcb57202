theorem dX0_init_0 : decode cX0_init 0 = .ok (.aload_n 0, 1) := by decide +kernel
theorem dX0_init_1 : decode cX0_init 1 = .ok (.invokespecial 3, 3) := by decide +kernel
theorem dX0_init_4 : decode cX0_init 4 = .ok (.aload_n 0, 1) := by decide +kernel
theorem dX0_init_5 : decode cX0_init 5 = .ok (.iload_n 1, 1) := by decide +kernel
theorem dX0_init_6 : decode cX0_init 6 = .ok (.putfield 9, 3) := by decide +kernel
theorem dX0_init_9 : decode cX0_init 9 = .ok (.aload_n 0, 1) := by decide +kernel
theorem dX0_init_10 : decode cX0_init 10 = .ok (.iload_n 2, 1) := by decide +kernel
theorem dX0_init_11 : decode cX0_init 11 = .ok (.putfield 15, 3) := by decide +kernel
theorem dX0_init_14 : decode cX0_init 14 = .ok (.aload_n 0, 1) := by decide +kernel
theorem dX0_init_15 : decode cX0_init 15 = .ok (.iload_n 3, 1) := by decide +kernel
theorem dX0_init_16 : decode cX0_init 16 = .ok (.putfield 18, 3) := by decide +kernel
theorem dX0_init_19 : decode cX0_init 19 = .ok (.aload_n 0, 1) := by decide +kernel
theorem dX0_init_20 : decode cX0_init 20 = .ok (.iload 4, 2) := by decide +kernel
theorem dX0_init_22 : decode cX0_init 22 = .ok (.putfield 21, 3) := by decide +kernel
theorem dX0_init_25 : decode cX0_init 25 = .ok (.aload_n 0, 1) := by decide +kernel
theorem dX0_init_26 : decode cX0_init 26 = .ok (.bipush 7, 2) := by decide +kernel
theorem dX0_init_28 : decode cX0_init 28 = .ok (.newarray .int, 2) := by decide +kernel
theorem dX0_init_30 : decode cX0_init 30 = .ok (.putfield 24, 3) := by decide +kernel
theorem dX0_init_33 : decode cX0_init 33 = .ok (.return_, 1) := by decide +kernel
theorem dX0_housesThat_0 : decode cX0_housesThat 0 = .ok (.iconst 0, 1) := by decide +kernel
theorem dX0_housesThat_1 : decode cX0_housesThat 1 = .ok (.istore_n 2, 1) := by decide +kernel
theorem dX0_housesThat_2 : decode cX0_housesThat 2 = .ok (.iconst 0, 1) := by decide +kernel
theorem dX0_housesThat_3 : decode cX0_housesThat 3 = .ok (.istore_n 3, 1) := by decide +kernel
theorem dX0_housesThat_4 : decode cX0_housesThat 4 = .ok (.iload_n 3, 1) := by decide +kernel
theorem dX0_housesThat_5 : decode cX0_housesThat 5 = .ok (.aload_n 0, 1) := by decide +kernel
theorem dX0_housesThat_6 : decode cX0_housesThat 6 = .ok (.getfield 24, 3) := by decide +kernel
theorem dX0_housesThat_9 : decode cX0_housesThat 9 = .ok (.arraylength, 1) := by decide +kernel
theorem dX0_housesThat_10 : decode cX0_housesThat 10 = .ok (.if_icmp .ge 22, 3) := by decide +kernel
theorem dX0_housesThat_13 : decode cX0_housesThat 13 = .ok (.aload_n 0, 1) := by decide +kernel
theorem dX0_housesThat_14 : decode cX0_housesThat 14 = .ok (.getfield 24, 3) := by decide +kernel
theorem dX0_housesThat_17 : decode cX0_housesThat 17 = .ok (.iload_n 3, 1) := by decide +kernel
theorem dX0_housesThat_18 : decode cX0_housesThat 18 = .ok (.iaload, 1) := by decide +kernel
theorem dX0_housesThat_19 : decode cX0_housesThat 19 = .ok (.iload_n 1, 1) := by decide +kernel
theorem dX0_housesThat_20 : decode cX0_housesThat 20 = .ok (.if_icmp .ne 6, 3) := by decide +kernel
theorem dX0_housesThat_23 : decode cX0_housesThat 23 = .ok (.iinc 2 1, 3) := by decide +kernel
theorem dX0_housesThat_26 : decode cX0_housesThat 26 = .ok (.iinc 3 1, 3) := by decide +kernel
theorem dX0_housesThat_29 : decode cX0_housesThat 29 = .ok (.goto (-25), 3) := by decide +kernel
theorem dX0_housesThat_32 : decode cX0_housesThat 32 = .ok (.iload_n 2, 1) := by decide +kernel
theorem dX0_housesThat_33 : decode cX0_housesThat 33 = .ok (.ireturn, 1) := by decide +kernel
set_option maxRecDepth 20000 in
theorem ggX0_verdict_X0_isOpen : GoodIn wsX0_verdict wsX0_isOpen := goodIn_r _ [8, 2, 1, 9, 10, 11, 12, 13, 14, 15, 16, 17, 18, 19, 20, 21, 22, 23, 24, 25, 26, 27, 28, 29, 30, 31, 32, 33, 34, 35, 36, 37, 38, 39, 40, 41, 42, 43, 44, 45, 46, 52, 53, 54, 55, 56, 57, 58, 59, 60, 61, 62] (by decide +kernel) (by decide +kernel)
set_option maxRecDepth 20000 in
theorem gX0_verdict_X0_isOpen : GoodIn wsX0_verdict (wsV RX0 28 RX0 yX0_isOpen wsX0_isOpen) := goodIn_app (goodIn_of _ (by decide +kernel)) ggX0_verdict_X0_isOpen
set_option maxRecDepth 20000 in
theorem ggX0_verdict_X0_housesThat : GoodIn wsX0_verdict wsX0_housesThat := goodIn_r _ [50, 51, 52, 53, 54, 55, 56] (by decide +kernel) (by decide +kernel)
set_option maxRecDepth 20000 in
theorem gX0_verdict_X0_housesThat : GoodIn wsX0_verdict (wsV RX0 32 RX0 yX0_housesThat wsX0_housesThat) := goodIn_app (goodIn_of _ (by decide +kernel)) ggX0_verdict_X0_housesThat
theorem dX0_verdict_0 : decode cX0_verdict 0 = .ok (.iconst 5, 1) := by decide +kernel
theorem dX0_verdict_1 : decode cX0_verdict 1 = .ok (.aload_n 0, 1) := by decide +kernel
theorem dX0_verdict_2 : decode cX0_verdict 2 = .ok (.getfield 18, 3) := by decide +kernel
theorem dX0_verdict_5 : decode cX0_verdict 5 = .ok (.aload_n 0, 1) := by decide +kernel
theorem dX0_verdict_6 : decode cX0_verdict 6 = .ok (.getfield 15, 3) := by decide +kernel
theorem dX0_verdict_9 : decode cX0_verdict 9 = .ok (.isub, 1) := by decide +kernel
theorem dX0_verdict_10 : decode cX0_verdict 10 = .ok (.iconst 1, 1) := by decide +kernel
theorem dX0_verdict_11 : decode cX0_verdict 11 = .ok (.iadd, 1) := by decide +kernel
theorem dX0_verdict_12 : decode cX0_verdict 12 = .ok (.imul, 1) := by decide +kernel
theorem dX0_verdict_13 : decode cX0_verdict 13 = .ok (.iconst 4, 1) := by decide +kernel
theorem dX0_verdict_14 : decode cX0_verdict 14 = .ok (.aload_n 0, 1) := by decide +kernel
theorem dX0_verdict_15 : decode cX0_verdict 15 = .ok (.getfield 21, 3) := by decide +kernel
theorem dX0_verdict_18 : decode cX0_verdict 18 = .ok (.imul, 1) := by decide +kernel
theorem dX0_verdict_19 : decode cX0_verdict 19 = .ok (.if_icmp .ge 5, 3) := by decide +kernel
theorem dX0_verdict_22 : decode cX0_verdict 22 = .ok (.iconst 0, 1) := by decide +kernel
theorem dX0_verdict_23 : decode cX0_verdict 23 = .ok (.ireturn, 1) := by decide +kernel
theorem dX0_verdict_24 : decode cX0_verdict 24 = .ok (.aload_n 0, 1) := by decide +kernel
theorem dX0_verdict_25 : decode cX0_verdict 25 = .ok (.aload_n 1, 1) := by decide +kernel
theorem dX0_verdict_26 : decode cX0_verdict 26 = .ok (.iload_n 2, 1) := by decide +kernel
theorem dX0_verdict_27 : decode cX0_verdict 27 = .ok (.invokevirtual 28, 3) := by decide +kernel
theorem dX0_verdict_30 : decode cX0_verdict 30 = .ok (.ifCond .eq 5, 3) := by decide +kernel
theorem dX0_verdict_33 : decode cX0_verdict 33 = .ok (.iconst 1, 1) := by decide +kernel
theorem dX0_verdict_34 : decode cX0_verdict 34 = .ok (.ireturn, 1) := by decide +kernel
theorem dX0_verdict_35 : decode cX0_verdict 35 = .ok (.aload_n 0, 1) := by decide +kernel
theorem dX0_verdict_36 : decode cX0_verdict 36 = .ok (.iconst 1, 1) := by decide +kernel
theorem dX0_verdict_37 : decode cX0_verdict 37 = .ok (.invokevirtual 32, 3) := by decide +kernel
theorem dX0_verdict_40 : decode cX0_verdict 40 = .ok (.istore_n 3, 1) := by decide +kernel
theorem dX0_verdict_41 : decode cX0_verdict 41 = .ok (.iload_n 3, 1) := by decide +kernel
theorem dX0_verdict_42 : decode cX0_verdict 42 = .ok (.iconst 2, 1) := by decide +kernel
theorem dX0_verdict_43 : decode cX0_verdict 43 = .ok (.if_icmp .ge 5, 3) := by decide +kernel
theorem dX0_verdict_46 : decode cX0_verdict 46 = .ok (.iconst 2, 1) := by decide +kernel
theorem dX0_verdict_47 : decode cX0_verdict 47 = .ok (.ireturn, 1) := by decide +kernel
theorem dX0_verdict_48 : decode cX0_verdict 48 = .ok (.aload_n 0, 1) := by decide +kernel
theorem dX0_verdict_49 : decode cX0_verdict 49 = .ok (.iconst 2, 1) := by decide +kernel
theorem dX0_verdict_50 : decode cX0_verdict 50 = .ok (.invokevirtual 32, 3) := by decide +kernel
theorem dX0_verdict_53 : decode cX0_verdict 53 = .ok (.iload_n 3, 1) := by decide +kernel
theorem dX0_verdict_54 : decode cX0_verdict 54 = .ok (.if_icmp .lt 7, 3) := by decide +kernel
theorem dX0_verdict_57 : decode cX0_verdict 57 = .ok (.iconst 3, 1) := by decide +kernel
theorem dX0_verdict_58 : decode cX0_verdict 58 = .ok (.goto 4, 3) := by decide +kernel
theorem dX0_verdict_61 : decode cX0_verdict 61 = .ok (.iconst 4, 1) := by decide +kernel
theorem dX0_verdict_62 : decode cX0_verdict 62 = .ok (.ireturn, 1) := by decide +kernel
set_option maxRecDepth 20000 in
theorem ggX0_isOpen_Jx4a65c_size_8abf5 : GoodIn wsX0_isOpen wsJx4a65c_size_8abf5 := goodIn_r _ [15, 16, 49, 50, 51] (by decide +kernel) (by decide +kernel)
set_option maxRecDepth 20000 in
theorem gX0_isOpen_Jx4a65c_size_8abf5 : GoodIn wsX0_isOpen (wsV RX0 36 RJx4a65c yJx4a65c_size_8abf5 wsJx4a65c_size_8abf5) := goodIn_app (goodIn_of _ (by decide +kernel)) ggX0_isOpen_Jx4a65c_size_8abf5
set_option maxRecDepth 20000 in
theorem ggX0_isOpen_Jx4a65c_get_915e3 : GoodIn wsX0_isOpen wsJx4a65c_get_915e3 := goodIn_r _ [20, 16, 21, 22, 23, 24, 25, 26, 27, 28, 29, 30, 31, 14, 32, 33, 49, 50, 51] (by decide +kernel) (by decide +kernel)
set_option maxRecDepth 20000 in
theorem gX0_isOpen_Jx4a65c_get_915e3 : GoodIn wsX0_isOpen (wsV RX0 42 RJx4a65c yJx4a65c_get_915e3 wsJx4a65c_get_915e3) := goodIn_app (goodIn_of _ (by decide +kernel)) ggX0_isOpen_Jx4a65c_get_915e3
set_option maxRecDepth 20000 in
theorem ggX0_isOpen_X4_mirrors : GoodIn wsX0_isOpen wsX4_mirrors := goodIn_r _ [38, 39, 40, 46, 47, 48] (by decide +kernel) (by decide +kernel)
set_option maxRecDepth 20000 in
theorem gX0_isOpen_X4_mirrors : GoodIn wsX0_isOpen (wsV RX0 49 RX4 yX4_mirrors wsX4_mirrors) := goodIn_app (goodIn_of _ (by decide +kernel)) ggX0_isOpen_X4_mirrors
theorem dX0_isOpen_0 : decode cX0_isOpen 0 = .ok (.iconst 0, 1) := by decide +kernel
theorem dX0_isOpen_1 : decode cX0_isOpen 1 = .ok (.istore_n 3, 1) := by decide +kernel
theorem dX0_isOpen_2 : decode cX0_isOpen 2 = .ok (.aload_n 0, 1) := by decide +kernel
theorem dX0_isOpen_3 : decode cX0_isOpen 3 = .ok (.getfield 15, 3) := by decide +kernel
theorem dX0_isOpen_6 : decode cX0_isOpen 6 = .ok (.istore 4, 2) := by decide +kernel
theorem dX0_isOpen_8 : decode cX0_isOpen 8 = .ok (.iload 4, 2) := by decide +kernel
theorem dX0_isOpen_10 : decode cX0_isOpen 10 = .ok (.aload_n 0, 1) := by decide +kernel
theorem dX0_isOpen_11 : decode cX0_isOpen 11 = .ok (.getfield 18, 3) := by decide +kernel
theorem dX0_isOpen_14 : decode cX0_isOpen 14 = .ok (.if_icmp .gt 119, 3) := by decide +kernel
theorem dX0_isOpen_17 : decode cX0_isOpen 17 = .ok (.iload 4, 2) := by decide +kernel
theorem dX0_isOpen_19 : decode cX0_isOpen 19 = .ok (.aload_n 1, 1) := by decide +kernel
theorem dX0_isOpen_20 : decode cX0_isOpen 20 = .ok (.invokevirtual 36, 3) := by decide +kernel
theorem dX0_isOpen_23 : decode cX0_isOpen 23 = .ok (.if_icmp .ge 110, 3) := by decide +kernel
theorem dX0_isOpen_26 : decode cX0_isOpen 26 = .ok (.aload_n 1, 1) := by decide +kernel
theorem dX0_isOpen_27 : decode cX0_isOpen 27 = .ok (.iload 4, 2) := by decide +kernel
theorem dX0_isOpen_29 : decode cX0_isOpen 29 = .ok (.invokevirtual 42, 3) := by decide +kernel
theorem dX0_isOpen_32 : decode cX0_isOpen 32 = .ok (.checkcast 46, 3) := by decide +kernel
theorem dX0_isOpen_35 : decode cX0_isOpen 35 = .ok (.astore 5, 2) := by decide +kernel
theorem dX0_isOpen_37 : decode cX0_isOpen 37 = .ok (.aload 5, 2) := by decide +kernel
theorem dX0_isOpen_39 : decode cX0_isOpen 39 = .ok (.getfield 48, 3) := by decide +kernel
theorem dX0_isOpen_42 : decode cX0_isOpen 42 = .ok (.aload_n 0, 1) := by decide +kernel
theorem dX0_isOpen_43 : decode cX0_isOpen 43 = .ok (.getfield 9, 3) := by decide +kernel
theorem dX0_isOpen_46 : decode cX0_isOpen 46 = .ok (.if_icmp .lt 6, 3) := by decide +kernel
theorem dX0_isOpen_49 : decode cX0_isOpen 49 = .ok (.goto 78, 3) := by decide +kernel
theorem dX0_isOpen_52 : decode cX0_isOpen 52 = .ok (.aload_n 0, 1) := by decide +kernel
theorem dX0_isOpen_53 : decode cX0_isOpen 53 = .ok (.getfield 15, 3) := by decide +kernel
theorem dX0_isOpen_56 : decode cX0_isOpen 56 = .ok (.istore 6, 2) := by decide +kernel
theorem dX0_isOpen_58 : decode cX0_isOpen 58 = .ok (.iload 6, 2) := by decide +kernel
theorem dX0_isOpen_60 : decode cX0_isOpen 60 = .ok (.aload_n 0, 1) := by decide +kernel
theorem dX0_isOpen_61 : decode cX0_isOpen 61 = .ok (.getfield 18, 3) := by decide +kernel
theorem dX0_isOpen_64 : decode cX0_isOpen 64 = .ok (.if_icmp .gt 63, 3) := by decide +kernel
theorem dX0_isOpen_67 : decode cX0_isOpen 67 = .ok (.iload 6, 2) := by decide +kernel
theorem dX0_isOpen_69 : decode cX0_isOpen 69 = .ok (.aload_n 1, 1) := by decide +kernel
theorem dX0_isOpen_70 : decode cX0_isOpen 70 = .ok (.invokevirtual 36, 3) := by decide +kernel
theorem dX0_isOpen_73 : decode cX0_isOpen 73 = .ok (.if_icmp .ge 54, 3) := by decide +kernel
theorem dX0_isOpen_76 : decode cX0_isOpen 76 = .ok (.aload_n 1, 1) := by decide +kernel
theorem dX0_isOpen_77 : decode cX0_isOpen 77 = .ok (.iload 6, 2) := by decide +kernel
theorem dX0_isOpen_79 : decode cX0_isOpen 79 = .ok (.invokevirtual 42, 3) := by decide +kernel
theorem dX0_isOpen_82 : decode cX0_isOpen 82 = .ok (.checkcast 46, 3) := by decide +kernel
theorem dX0_isOpen_85 : decode cX0_isOpen 85 = .ok (.astore 7, 2) := by decide +kernel
theorem dX0_isOpen_87 : decode cX0_isOpen 87 = .ok (.aload 5, 2) := by decide +kernel
theorem dX0_isOpen_89 : decode cX0_isOpen 89 = .ok (.aload 7, 2) := by decide +kernel
theorem dX0_isOpen_91 : decode cX0_isOpen 91 = .ok (.invokevirtual 49, 3) := by decide +kernel
theorem dX0_isOpen_94 : decode cX0_isOpen 94 = .ok (.ifCond .eq 27, 3) := by decide +kernel
theorem dX0_isOpen_97 : decode cX0_isOpen 97 = .ok (.iconst 1, 1) := by decide +kernel
theorem dX0_isOpen_98 : decode cX0_isOpen 98 = .ok (.istore_n 3, 1) := by decide +kernel
theorem dX0_isOpen_99 : decode cX0_isOpen 99 = .ok (.aload 5, 2) := by decide +kernel
theorem dX0_isOpen_101 : decode cX0_isOpen 101 = .ok (.getfield 53, 3) := by decide +kernel
theorem dX0_isOpen_104 : decode cX0_isOpen 104 = .ok (.aload 7, 2) := by decide +kernel
theorem dX0_isOpen_106 : decode cX0_isOpen 106 = .ok (.getfield 53, 3) := by decide +kernel
theorem dX0_isOpen_109 : decode cX0_isOpen 109 = .ok (.isub, 1) := by decide +kernel
theorem dX0_isOpen_110 : decode cX0_isOpen 110 = .ok (.invokestatic 56, 3) := by decide +kernel
theorem dX0_isOpen_113 : decode cX0_isOpen 113 = .ok (.iconst 2, 1) := by decide +kernel
theorem dX0_isOpen_114 : decode cX0_isOpen 114 = .ok (.iload_n 2, 1) := by decide +kernel
theorem dX0_isOpen_115 : decode cX0_isOpen 115 = .ok (.imul, 1) := by decide +kernel
theorem dX0_isOpen_116 : decode cX0_isOpen 116 = .ok (.if_icmp .le 5, 3) := by decide +kernel
theorem dX0_isOpen_119 : decode cX0_isOpen 119 = .ok (.iconst 1, 1) := by decide +kernel
theorem dX0_isOpen_120 : decode cX0_isOpen 120 = .ok (.ireturn, 1) := by decide +kernel
theorem dX0_isOpen_121 : decode cX0_isOpen 121 = .ok (.iinc 6 1, 3) := by decide +kernel
theorem dX0_isOpen_124 : decode cX0_isOpen 124 = .ok (.goto (-66), 3) := by decide +kernel
theorem dX0_isOpen_127 : decode cX0_isOpen 127 = .ok (.iinc 4 1, 3) := by decide +kernel
theorem dX0_isOpen_130 : decode cX0_isOpen 130 = .ok (.goto (-122), 3) := by decide +kernel
theorem dX0_isOpen_133 : decode cX0_isOpen 133 = .ok (.iload_n 3, 1) := by decide +kernel
theorem dX0_isOpen_134 : decode cX0_isOpen 134 = .ok (.ifCond .ne 7, 3) := by decide +kernel
theorem dX0_isOpen_137 : decode cX0_isOpen 137 = .ok (.iconst 1, 1) := by decide +kernel
theorem dX0_isOpen_138 : decode cX0_isOpen 138 = .ok (.goto 4, 3) := by decide +kernel
theorem dX0_isOpen_141 : decode cX0_isOpen 141 = .ok (.iconst 0, 1) := by decide +kernel
theorem dX0_isOpen_142 : decode cX0_isOpen 142 = .ok (.ireturn, 1) := by decide +kernel
theorem dX1_init_0 : decode cX1_init 0 = .ok (.aload_n 0, 1) := by decide +kernel
theorem dX1_init_1 : decode cX1_init 1 = .ok (.invokespecial 1, 3) := by decide +kernel
theorem dX1_init_4 : decode cX1_init 4 = .ok (.aload_n 0, 1) := by decide +kernel
theorem dX1_init_5 : decode cX1_init 5 = .ok (.bipush 12, 2) := by decide +kernel
theorem dX1_init_7 : decode cX1_init 7 = .ok (.newarray .int, 2) := by decide +kernel
theorem dX1_init_9 : decode cX1_init 9 = .ok (.putfield 9, 3) := by decide +kernel
theorem dX1_init_12 : decode cX1_init 12 = .ok (.aload_n 0, 1) := by decide +kernel
theorem dX1_init_13 : decode cX1_init 13 = .ok (.bipush 12, 2) := by decide +kernel
theorem dX1_init_15 : decode cX1_init 15 = .ok (.newarray .int, 2) := by decide +kernel
theorem dX1_init_17 : decode cX1_init 17 = .ok (.putfield 13, 3) := by decide +kernel
theorem dX1_init_20 : decode cX1_init 20 = .ok (.iconst 0, 1) := by decide +kernel
theorem dX1_init_21 : decode cX1_init 21 = .ok (.istore_n 1, 1) := by decide +kernel
theorem dX1_init_22 : decode cX1_init 22 = .ok (.iload_n 1, 1) := by decide +kernel
theorem dX1_init_23 : decode cX1_init 23 = .ok (.bipush 12, 2) := by decide +kernel
theorem dX1_init_25 : decode cX1_init 25 = .ok (.if_icmp .ge 16, 3) := by decide +kernel
theorem dX1_init_28 : decode cX1_init 28 = .ok (.aload_n 0, 1) := by decide +kernel
theorem dX1_init_29 : decode cX1_init 29 = .ok (.getfield 9, 3) := by decide +kernel
theorem dX1_init_32 : decode cX1_init 32 = .ok (.iload_n 1, 1) := by decide +kernel
theorem dX1_init_33 : decode cX1_init 33 = .ok (.iconst 4, 1) := by decide +kernel
theorem dX1_init_34 : decode cX1_init 34 = .ok (.iastore, 1) := by decide +kernel
theorem dX1_init_35 : decode cX1_init 35 = .ok (.iinc 1 1, 3) := by decide +kernel
theorem dX1_init_38 : decode cX1_init 38 = .ok (.goto (-16), 3) := by decide +kernel
theorem dX1_init_41 : decode cX1_init 41 = .ok (.return_, 1) := by decide +kernel
set_option maxRecDepth 20000 in
theorem ggX1_runPulse_X1_loseCurrent : GoodIn wsX1_runPulse wsX1_loseCurrent := goodIn_r _ [6, 7, 8, 9, 10, 11, 12, 5, 13, 14, 15, 16, 17, 18, 19, 20, 21, 22, 23, 24, 25, 26, 27, 48, 49, 50, 51, 52, 53, 54] (by decide +kernel) (by decide +kernel)
set_option maxRecDepth 20000 in
theorem gX1_runPulse_X1_loseCurrent : GoodIn wsX1_runPulse (wsV RX1 20 RX1 yX1_loseCurrent wsX1_loseCurrent) := goodIn_app (goodIn_of _ (by decide +kernel)) ggX1_runPulse_X1_loseCurrent
set_option maxRecDepth 20000 in
theorem ggX1_runPulse_X1_spreadWarmth : GoodIn wsX1_runPulse wsX1_spreadWarmth := goodIn_r _ [31, 23, 32, 7, 33, 34, 21, 35, 24, 25, 26, 5, 27, 48, 49, 50, 51, 52, 53, 54] (by decide +kernel) (by decide +kernel)
set_option maxRecDepth 20000 in
theorem gX1_runPulse_X1_spreadWarmth : GoodIn wsX1_runPulse (wsV RX1 23 RX1 yX1_spreadWarmth wsX1_spreadWarmth) := goodIn_app (goodIn_of _ (by decide +kernel)) ggX1_runPulse_X1_spreadWarmth
set_option maxRecDepth 20000 in
theorem ggX1_runPulse_X1_watch : GoodIn wsX1_runPulse wsX1_watch := goodIn_r _ [39, 40, 41, 21, 42, 43, 1, 44, 45, 46, 5, 47, 15, 16, 17, 18, 19, 20, 22, 23, 24, 25, 26, 27, 7, 48, 49, 50, 51, 52, 53, 54] (by decide +kernel) (by decide +kernel)
set_option maxRecDepth 20000 in
theorem gX1_runPulse_X1_watch : GoodIn wsX1_runPulse (wsV RX1 26 RX1 yX1_watch wsX1_watch) := goodIn_app (goodIn_of _ (by decide +kernel)) ggX1_runPulse_X1_watch
theorem dX1_runPulse_0 : decode cX1_runPulse 0 = .ok (.aload_n 0, 1) := by decide +kernel
theorem dX1_runPulse_1 : decode cX1_runPulse 1 = .ok (.getfield 16, 3) := by decide +kernel
theorem dX1_runPulse_4 : decode cX1_runPulse 4 = .ok (.ifCond .eq 7, 3) := by decide +kernel
theorem dX1_runPulse_7 : decode cX1_runPulse 7 = .ok (.aload_n 0, 1) := by decide +kernel
theorem dX1_runPulse_8 : decode cX1_runPulse 8 = .ok (.invokevirtual 20, 3) := by decide +kernel
theorem dX1_runPulse_11 : decode cX1_runPulse 11 = .ok (.aload_n 0, 1) := by decide +kernel
theorem dX1_runPulse_12 : decode cX1_runPulse 12 = .ok (.invokevirtual 23, 3) := by decide +kernel
theorem dX1_runPulse_15 : decode cX1_runPulse 15 = .ok (.aload_n 0, 1) := by decide +kernel
theorem dX1_runPulse_16 : decode cX1_runPulse 16 = .ok (.invokevirtual 26, 3) := by decide +kernel
theorem dX1_runPulse_19 : decode cX1_runPulse 19 = .ok (.return_, 1) := by decide +kernel
set_option maxRecDepth 20000 in
theorem ggX1_loseCurrent_X1_stored : GoodIn wsX1_loseCurrent wsX1_stored := goodIn_r _ [8, 9, 1, 23, 24, 25, 26, 27, 28, 29] (by decide +kernel) (by decide +kernel)
set_option maxRecDepth 20000 in
theorem gX1_loseCurrent_X1_stored : GoodIn wsX1_loseCurrent (wsV RX1 29 RX1 yX1_stored wsX1_stored) := goodIn_app (goodIn_of _ (by decide +kernel)) ggX1_loseCurrent_X1_stored
set_option maxRecDepth 20000 in
theorem ggX1_loseCurrent_X1_normalParts : GoodIn wsX1_loseCurrent wsX1_normalParts := goodIn_r _ [13, 14, 15, 16, 17, 18, 19, 20, 21, 7, 22, 1, 23, 24, 25, 26, 27, 28, 29] (by decide +kernel) (by decide +kernel)
set_option maxRecDepth 20000 in
theorem gX1_loseCurrent_X1_normalParts : GoodIn wsX1_loseCurrent (wsV RX1 37 RX1 yX1_normalParts wsX1_normalParts) := goodIn_app (goodIn_of _ (by decide +kernel)) ggX1_loseCurrent_X1_normalParts
theorem dX1_loseCurrent_0 : decode cX1_loseCurrent 0 = .ok (.aload_n 0, 1) := by decide +kernel
theorem dX1_loseCurrent_1 : decode cX1_loseCurrent 1 = .ok (.invokevirtual 29, 3) := by decide +kernel
theorem dX1_loseCurrent_4 : decode cX1_loseCurrent 4 = .ok (.lstore_n 1, 1) := by decide +kernel
theorem dX1_loseCurrent_5 : decode cX1_loseCurrent 5 = .ok (.aload_n 0, 1) := by decide +kernel
theorem dX1_loseCurrent_6 : decode cX1_loseCurrent 6 = .ok (.dup, 1) := by decide +kernel
theorem dX1_loseCurrent_7 : decode cX1_loseCurrent 7 = .ok (.getfield 33, 3) := by decide +kernel
theorem dX1_loseCurrent_10 : decode cX1_loseCurrent 10 = .ok (.aload_n 0, 1) := by decide +kernel
theorem dX1_loseCurrent_11 : decode cX1_loseCurrent 11 = .ok (.getfield 33, 3) := by decide +kernel
theorem dX1_loseCurrent_14 : decode cX1_loseCurrent 14 = .ok (.bipush 15, 2) := by decide +kernel
theorem dX1_loseCurrent_16 : decode cX1_loseCurrent 16 = .ok (.iadd, 1) := by decide +kernel
theorem dX1_loseCurrent_17 : decode cX1_loseCurrent 17 = .ok (.bipush 16, 2) := by decide +kernel
theorem dX1_loseCurrent_19 : decode cX1_loseCurrent 19 = .ok (.idiv, 1) := by decide +kernel
theorem dX1_loseCurrent_20 : decode cX1_loseCurrent 20 = .ok (.isub, 1) := by decide +kernel
theorem dX1_loseCurrent_21 : decode cX1_loseCurrent 21 = .ok (.putfield 33, 3) := by decide +kernel
theorem dX1_loseCurrent_24 : decode cX1_loseCurrent 24 = .ok (.lload_n 1, 1) := by decide +kernel
theorem dX1_loseCurrent_25 : decode cX1_loseCurrent 25 = .ok (.aload_n 0, 1) := by decide +kernel
theorem dX1_loseCurrent_26 : decode cX1_loseCurrent 26 = .ok (.invokevirtual 29, 3) := by decide +kernel
theorem dX1_loseCurrent_29 : decode cX1_loseCurrent 29 = .ok (.lsub, 1) := by decide +kernel
theorem dX1_loseCurrent_30 : decode cX1_loseCurrent 30 = .ok (.lstore_n 3, 1) := by decide +kernel
theorem dX1_loseCurrent_31 : decode cX1_loseCurrent 31 = .ok (.aload_n 0, 1) := by decide +kernel
theorem dX1_loseCurrent_32 : decode cX1_loseCurrent 32 = .ok (.iconst 0, 1) := by decide +kernel
theorem dX1_loseCurrent_33 : decode cX1_loseCurrent 33 = .ok (.bipush 12, 2) := by decide +kernel
theorem dX1_loseCurrent_35 : decode cX1_loseCurrent 35 = .ok (.invokevirtual 37, 3) := by decide +kernel
theorem dX1_loseCurrent_38 : decode cX1_loseCurrent 38 = .ok (.istore 5, 2) := by decide +kernel
theorem dX1_loseCurrent_40 : decode cX1_loseCurrent 40 = .ok (.iload 5, 2) := by decide +kernel
theorem dX1_loseCurrent_42 : decode cX1_loseCurrent 42 = .ok (.bipush 20, 2) := by decide +kernel
theorem dX1_loseCurrent_44 : decode cX1_loseCurrent 44 = .ok (.iadd, 1) := by decide +kernel
theorem dX1_loseCurrent_45 : decode cX1_loseCurrent 45 = .ok (.istore 6, 2) := by decide +kernel
theorem dX1_loseCurrent_47 : decode cX1_loseCurrent 47 = .ok (.iload 6, 2) := by decide +kernel
theorem dX1_loseCurrent_49 : decode cX1_loseCurrent 49 = .ok (.ifCond .ne 7, 3) := by decide +kernel
theorem dX1_loseCurrent_52 : decode cX1_loseCurrent 52 = .ok (.lconst 0, 1) := by decide +kernel
theorem dX1_loseCurrent_53 : decode cX1_loseCurrent 53 = .ok (.goto 12, 3) := by decide +kernel
theorem dX1_loseCurrent_56 : decode cX1_loseCurrent 56 = .ok (.lload_n 3, 1) := by decide +kernel
theorem dX1_loseCurrent_57 : decode cX1_loseCurrent 57 = .ok (.iload 5, 2) := by decide +kernel
theorem dX1_loseCurrent_59 : decode cX1_loseCurrent 59 = .ok (.i2l, 1) := by decide +kernel
theorem dX1_loseCurrent_60 : decode cX1_loseCurrent 60 = .ok (.lmul, 1) := by decide +kernel
theorem dX1_loseCurrent_61 : decode cX1_loseCurrent 61 = .ok (.iload 6, 2) := by decide +kernel
theorem dX1_loseCurrent_63 : decode cX1_loseCurrent 63 = .ok (.i2l, 1) := by decide +kernel
theorem dX1_loseCurrent_64 : decode cX1_loseCurrent 64 = .ok (.ldiv, 1) := by decide +kernel
theorem dX1_loseCurrent_65 : decode cX1_loseCurrent 65 = .ok (.lstore 7, 2) := by decide +kernel
theorem dX1_loseCurrent_67 : decode cX1_loseCurrent 67 = .ok (.aload_n 0, 1) := by decide +kernel
theorem dX1_loseCurrent_68 : decode cX1_loseCurrent 68 = .ok (.dup, 1) := by decide +kernel
theorem dX1_loseCurrent_69 : decode cX1_loseCurrent 69 = .ok (.getfield 41, 3) := by decide +kernel
theorem dX1_loseCurrent_72 : decode cX1_loseCurrent 72 = .ok (.lload 7, 2) := by decide +kernel
theorem dX1_loseCurrent_74 : decode cX1_loseCurrent 74 = .ok (.ladd, 1) := by decide +kernel
theorem dX1_loseCurrent_75 : decode cX1_loseCurrent 75 = .ok (.putfield 41, 3) := by decide +kernel
theorem dX1_loseCurrent_78 : decode cX1_loseCurrent 78 = .ok (.aload_n 0, 1) := by decide +kernel
theorem dX1_loseCurrent_79 : decode cX1_loseCurrent 79 = .ok (.dup, 1) := by decide +kernel
theorem dX1_loseCurrent_80 : decode cX1_loseCurrent 80 = .ok (.getfield 45, 3) := by decide +kernel
theorem dX1_loseCurrent_83 : decode cX1_loseCurrent 83 = .ok (.lload_n 3, 1) := by decide +kernel
theorem dX1_loseCurrent_84 : decode cX1_loseCurrent 84 = .ok (.lload 7, 2) := by decide +kernel
theorem dX1_loseCurrent_86 : decode cX1_loseCurrent 86 = .ok (.lsub, 1) := by decide +kernel
theorem dX1_loseCurrent_87 : decode cX1_loseCurrent 87 = .ok (.ladd, 1) := by decide +kernel
theorem dX1_loseCurrent_88 : decode cX1_loseCurrent 88 = .ok (.putfield 45, 3) := by decide +kernel
theorem dX1_loseCurrent_91 : decode cX1_loseCurrent 91 = .ok (.return_, 1) := by decide +kernel
set_option maxRecDepth 20000 in
theorem ggX1_spreadWarmth_X1_isNormal : GoodIn wsX1_spreadWarmth wsX1_isNormal := goodIn_r _ [12, 3, 13, 14, 15, 16, 17, 18, 19] (by decide +kernel) (by decide +kernel)
set_option maxRecDepth 20000 in
theorem gX1_spreadWarmth_X1_isNormal : GoodIn wsX1_spreadWarmth (wsV RX1 48 RX1 yX1_isNormal wsX1_isNormal) := goodIn_app (goodIn_of _ (by decide +kernel)) ggX1_spreadWarmth_X1_isNormal
theorem dX1_spreadWarmth_0 : decode cX1_spreadWarmth 0 = .ok (.aload_n 0, 1) := by decide +kernel
theorem dX1_spreadWarmth_1 : decode cX1_spreadWarmth 1 = .ok (.getfield 9, 3) := by decide +kernel
theorem dX1_spreadWarmth_4 : decode cX1_spreadWarmth 4 = .ok (.astore_n 1, 1) := by decide +kernel
theorem dX1_spreadWarmth_5 : decode cX1_spreadWarmth 5 = .ok (.iconst 0, 1) := by decide +kernel
theorem dX1_spreadWarmth_6 : decode cX1_spreadWarmth 6 = .ok (.istore_n 2, 1) := by decide +kernel
theorem dX1_spreadWarmth_7 : decode cX1_spreadWarmth 7 = .ok (.iload_n 2, 1) := by decide +kernel
theorem dX1_spreadWarmth_8 : decode cX1_spreadWarmth 8 = .ok (.aload_n 1, 1) := by decide +kernel
theorem dX1_spreadWarmth_9 : decode cX1_spreadWarmth 9 = .ok (.arraylength, 1) := by decide +kernel
theorem dX1_spreadWarmth_10 : decode cX1_spreadWarmth 10 = .ok (.if_icmp .ge 114, 3) := by decide +kernel
theorem dX1_spreadWarmth_13 : decode cX1_spreadWarmth 13 = .ok (.iload_n 2, 1) := by decide +kernel
theorem dX1_spreadWarmth_14 : decode cX1_spreadWarmth 14 = .ok (.aload_n 0, 1) := by decide +kernel
theorem dX1_spreadWarmth_15 : decode cX1_spreadWarmth 15 = .ok (.getfield 13, 3) := by decide +kernel
theorem dX1_spreadWarmth_18 : decode cX1_spreadWarmth 18 = .ok (.arraylength, 1) := by decide +kernel
theorem dX1_spreadWarmth_19 : decode cX1_spreadWarmth 19 = .ok (.if_icmp .ge 105, 3) := by decide +kernel
theorem dX1_spreadWarmth_22 : decode cX1_spreadWarmth 22 = .ok (.aload_n 1, 1) := by decide +kernel
theorem dX1_spreadWarmth_23 : decode cX1_spreadWarmth 23 = .ok (.iload_n 2, 1) := by decide +kernel
theorem dX1_spreadWarmth_24 : decode cX1_spreadWarmth 24 = .ok (.iaload, 1) := by decide +kernel
theorem dX1_spreadWarmth_25 : decode cX1_spreadWarmth 25 = .ok (.istore_n 3, 1) := by decide +kernel
theorem dX1_spreadWarmth_26 : decode cX1_spreadWarmth 26 = .ok (.iload_n 3, 1) := by decide +kernel
theorem dX1_spreadWarmth_27 : decode cX1_spreadWarmth 27 = .ok (.iload_n 3, 1) := by decide +kernel
theorem dX1_spreadWarmth_28 : decode cX1_spreadWarmth 28 = .ok (.iconst 4, 1) := by decide +kernel
theorem dX1_spreadWarmth_29 : decode cX1_spreadWarmth 29 = .ok (.isub, 1) := by decide +kernel
theorem dX1_spreadWarmth_30 : decode cX1_spreadWarmth 30 = .ok (.bipush 16, 2) := by decide +kernel
theorem dX1_spreadWarmth_32 : decode cX1_spreadWarmth 32 = .ok (.idiv, 1) := by decide +kernel
theorem dX1_spreadWarmth_33 : decode cX1_spreadWarmth 33 = .ok (.isub, 1) := by decide +kernel
theorem dX1_spreadWarmth_34 : decode cX1_spreadWarmth 34 = .ok (.istore 4, 2) := by decide +kernel
theorem dX1_spreadWarmth_36 : decode cX1_spreadWarmth 36 = .ok (.aload_n 0, 1) := by decide +kernel
theorem dX1_spreadWarmth_37 : decode cX1_spreadWarmth 37 = .ok (.iload_n 3, 1) := by decide +kernel
theorem dX1_spreadWarmth_38 : decode cX1_spreadWarmth 38 = .ok (.invokevirtual 48, 3) := by decide +kernel
theorem dX1_spreadWarmth_41 : decode cX1_spreadWarmth 41 = .ok (.ifCond .eq 21, 3) := by decide +kernel
theorem dX1_spreadWarmth_44 : decode cX1_spreadWarmth 44 = .ok (.iload 4, 2) := by decide +kernel
theorem dX1_spreadWarmth_46 : decode cX1_spreadWarmth 46 = .ok (.aload_n 0, 1) := by decide +kernel
theorem dX1_spreadWarmth_47 : decode cX1_spreadWarmth 47 = .ok (.getfield 33, 3) := by decide +kernel
theorem dX1_spreadWarmth_50 : decode cX1_spreadWarmth 50 = .ok (.aload_n 0, 1) := by decide +kernel
theorem dX1_spreadWarmth_51 : decode cX1_spreadWarmth 51 = .ok (.getfield 33, 3) := by decide +kernel
theorem dX1_spreadWarmth_54 : decode cX1_spreadWarmth 54 = .ok (.imul, 1) := by decide +kernel
theorem dX1_spreadWarmth_55 : decode cX1_spreadWarmth 55 = .ok (.sipush 2000, 3) := by decide +kernel
theorem dX1_spreadWarmth_58 : decode cX1_spreadWarmth 58 = .ok (.idiv, 1) := by decide +kernel
theorem dX1_spreadWarmth_59 : decode cX1_spreadWarmth 59 = .ok (.iadd, 1) := by decide +kernel
theorem dX1_spreadWarmth_60 : decode cX1_spreadWarmth 60 = .ok (.istore 4, 2) := by decide +kernel
theorem dX1_spreadWarmth_62 : decode cX1_spreadWarmth 62 = .ok (.iload_n 2, 1) := by decide +kernel
theorem dX1_spreadWarmth_63 : decode cX1_spreadWarmth 63 = .ok (.ifCond .le 18, 3) := by decide +kernel
theorem dX1_spreadWarmth_66 : decode cX1_spreadWarmth 66 = .ok (.iload 4, 2) := by decide +kernel
theorem dX1_spreadWarmth_68 : decode cX1_spreadWarmth 68 = .ok (.aload_n 1, 1) := by decide +kernel
theorem dX1_spreadWarmth_69 : decode cX1_spreadWarmth 69 = .ok (.iload_n 2, 1) := by decide +kernel
theorem dX1_spreadWarmth_70 : decode cX1_spreadWarmth 70 = .ok (.iconst 1, 1) := by decide +kernel
theorem dX1_spreadWarmth_71 : decode cX1_spreadWarmth 71 = .ok (.isub, 1) := by decide +kernel
theorem dX1_spreadWarmth_72 : decode cX1_spreadWarmth 72 = .ok (.iaload, 1) := by decide +kernel
theorem dX1_spreadWarmth_73 : decode cX1_spreadWarmth 73 = .ok (.iload_n 3, 1) := by decide +kernel
theorem dX1_spreadWarmth_74 : decode cX1_spreadWarmth 74 = .ok (.isub, 1) := by decide +kernel
theorem dX1_spreadWarmth_75 : decode cX1_spreadWarmth 75 = .ok (.bipush 8, 2) := by decide +kernel
theorem dX1_spreadWarmth_77 : decode cX1_spreadWarmth 77 = .ok (.idiv, 1) := by decide +kernel
theorem dX1_spreadWarmth_78 : decode cX1_spreadWarmth 78 = .ok (.iadd, 1) := by decide +kernel
theorem dX1_spreadWarmth_79 : decode cX1_spreadWarmth 79 = .ok (.istore 4, 2) := by decide +kernel
theorem dX1_spreadWarmth_81 : decode cX1_spreadWarmth 81 = .ok (.iload_n 2, 1) := by decide +kernel
theorem dX1_spreadWarmth_82 : decode cX1_spreadWarmth 82 = .ok (.iconst 1, 1) := by decide +kernel
theorem dX1_spreadWarmth_83 : decode cX1_spreadWarmth 83 = .ok (.iadd, 1) := by decide +kernel
theorem dX1_spreadWarmth_84 : decode cX1_spreadWarmth 84 = .ok (.aload_n 1, 1) := by decide +kernel
theorem dX1_spreadWarmth_85 : decode cX1_spreadWarmth 85 = .ok (.arraylength, 1) := by decide +kernel
theorem dX1_spreadWarmth_86 : decode cX1_spreadWarmth 86 = .ok (.if_icmp .ge 18, 3) := by decide +kernel
theorem dX1_spreadWarmth_89 : decode cX1_spreadWarmth 89 = .ok (.iload 4, 2) := by decide +kernel
theorem dX1_spreadWarmth_91 : decode cX1_spreadWarmth 91 = .ok (.aload_n 1, 1) := by decide +kernel
theorem dX1_spreadWarmth_92 : decode cX1_spreadWarmth 92 = .ok (.iload_n 2, 1) := by decide +kernel
theorem dX1_spreadWarmth_93 : decode cX1_spreadWarmth 93 = .ok (.iconst 1, 1) := by decide +kernel
theorem dX1_spreadWarmth_94 : decode cX1_spreadWarmth 94 = .ok (.iadd, 1) := by decide +kernel
theorem dX1_spreadWarmth_95 : decode cX1_spreadWarmth 95 = .ok (.iaload, 1) := by decide +kernel
theorem dX1_spreadWarmth_96 : decode cX1_spreadWarmth 96 = .ok (.iload_n 3, 1) := by decide +kernel
theorem dX1_spreadWarmth_97 : decode cX1_spreadWarmth 97 = .ok (.isub, 1) := by decide +kernel
theorem dX1_spreadWarmth_98 : decode cX1_spreadWarmth 98 = .ok (.bipush 8, 2) := by decide +kernel
theorem dX1_spreadWarmth_100 : decode cX1_spreadWarmth 100 = .ok (.idiv, 1) := by decide +kernel
theorem dX1_spreadWarmth_101 : decode cX1_spreadWarmth 101 = .ok (.iadd, 1) := by decide +kernel
theorem dX1_spreadWarmth_102 : decode cX1_spreadWarmth 102 = .ok (.istore 4, 2) := by decide +kernel
theorem dX1_spreadWarmth_104 : decode cX1_spreadWarmth 104 = .ok (.aload_n 0, 1) := by decide +kernel
theorem dX1_spreadWarmth_105 : decode cX1_spreadWarmth 105 = .ok (.getfield 13, 3) := by decide +kernel
theorem dX1_spreadWarmth_108 : decode cX1_spreadWarmth 108 = .ok (.iload_n 2, 1) := by decide +kernel
theorem dX1_spreadWarmth_109 : decode cX1_spreadWarmth 109 = .ok (.sipush 1000, 3) := by decide +kernel
theorem dX1_spreadWarmth_112 : decode cX1_spreadWarmth 112 = .ok (.iload 4, 2) := by decide +kernel
theorem dX1_spreadWarmth_114 : decode cX1_spreadWarmth 114 = .ok (.invokestatic 52, 3) := by decide +kernel
theorem dX1_spreadWarmth_117 : decode cX1_spreadWarmth 117 = .ok (.iastore, 1) := by decide +kernel
theorem dX1_spreadWarmth_118 : decode cX1_spreadWarmth 118 = .ok (.iinc 2 1, 3) := by decide +kernel
theorem dX1_spreadWarmth_121 : decode cX1_spreadWarmth 121 = .ok (.goto (-114), 3) := by decide +kernel
theorem dX1_spreadWarmth_124 : decode cX1_spreadWarmth 124 = .ok (.aload_n 0, 1) := by decide +kernel
theorem dX1_spreadWarmth_125 : decode cX1_spreadWarmth 125 = .ok (.aload_n 0, 1) := by decide +kernel
theorem dX1_spreadWarmth_126 : decode cX1_spreadWarmth 126 = .ok (.getfield 13, 3) := by decide +kernel
theorem dX1_spreadWarmth_129 : decode cX1_spreadWarmth 129 = .ok (.putfield 9, 3) := by decide +kernel
theorem dX1_spreadWarmth_132 : decode cX1_spreadWarmth 132 = .ok (.aload_n 0, 1) := by decide +kernel
theorem dX1_spreadWarmth_133 : decode cX1_spreadWarmth 133 = .ok (.aload_n 1, 1) := by decide +kernel
theorem dX1_spreadWarmth_134 : decode cX1_spreadWarmth 134 = .ok (.putfield 13, 3) := by decide +kernel
theorem dX1_spreadWarmth_137 : decode cX1_spreadWarmth 137 = .ok (.return_, 1) := by decide +kernel
set_option maxRecDepth 20000 in
theorem ggX1_watch_X1_doubt : GoodIn wsX1_watch wsX1_doubt := goodIn_r _ [11, 12, 13, 14, 10, 15, 16, 17, 3, 18, 19, 20, 21, 22, 23, 24, 25, 26, 27, 28, 29, 30, 31] (by decide +kernel) (by decide +kernel)
set_option maxRecDepth 20000 in
theorem gX1_watch_X1_doubt : GoodIn wsX1_watch (wsV RX1 57 RX1 yX1_doubt wsX1_doubt) := goodIn_app (goodIn_of _ (by decide +kernel)) ggX1_watch_X1_doubt
theorem dX1_watch_0 : decode cX1_watch 0 = .ok (.aload_n 0, 1) := by decide +kernel
theorem dX1_watch_1 : decode cX1_watch 1 = .ok (.aload_n 0, 1) := by decide +kernel
theorem dX1_watch_2 : decode cX1_watch 2 = .ok (.invokevirtual 57, 3) := by decide +kernel
theorem dX1_watch_5 : decode cX1_watch 5 = .ok (.invokestatic 61, 3) := by decide +kernel
theorem dX1_watch_8 : decode cX1_watch 8 = .ok (.iconst 2, 1) := by decide +kernel
theorem dX1_watch_9 : decode cX1_watch 9 = .ok (.if_icmp .lt 12, 3) := by decide +kernel
theorem dX1_watch_12 : decode cX1_watch 12 = .ok (.aload_n 0, 1) := by decide +kernel
theorem dX1_watch_13 : decode cX1_watch 13 = .ok (.getfield 65, 3) := by decide +kernel
theorem dX1_watch_16 : decode cX1_watch 16 = .ok (.iconst 1, 1) := by decide +kernel
theorem dX1_watch_17 : decode cX1_watch 17 = .ok (.iadd, 1) := by decide +kernel
theorem dX1_watch_18 : decode cX1_watch 18 = .ok (.goto 4, 3) := by decide +kernel
theorem dX1_watch_21 : decode cX1_watch 21 = .ok (.iconst 0, 1) := by decide +kernel
theorem dX1_watch_22 : decode cX1_watch 22 = .ok (.putfield 65, 3) := by decide +kernel
theorem dX1_watch_25 : decode cX1_watch 25 = .ok (.aload_n 0, 1) := by decide +kernel
theorem dX1_watch_26 : decode cX1_watch 26 = .ok (.getfield 65, 3) := by decide +kernel
theorem dX1_watch_29 : decode cX1_watch 29 = .ok (.iconst 3, 1) := by decide +kernel
theorem dX1_watch_30 : decode cX1_watch 30 = .ok (.if_icmp .lt 8, 3) := by decide +kernel
theorem dX1_watch_33 : decode cX1_watch 33 = .ok (.aload_n 0, 1) := by decide +kernel
theorem dX1_watch_34 : decode cX1_watch 34 = .ok (.iconst 1, 1) := by decide +kernel
theorem dX1_watch_35 : decode cX1_watch 35 = .ok (.putfield 16, 3) := by decide +kernel
theorem dX1_watch_38 : decode cX1_watch 38 = .ok (.return_, 1) := by decide +kernel
set_option maxRecDepth 20000 in
theorem ggX1_doubt_X1_normalParts : GoodIn wsX1_doubt wsX1_normalParts := goodIn_r _ [5, 6, 7, 8, 9, 10, 11, 12, 13, 4, 14, 15, 16, 17, 18, 19, 20, 21, 22] (by decide +kernel) (by decide +kernel)
set_option maxRecDepth 20000 in
theorem gX1_doubt_X1_normalParts : GoodIn wsX1_doubt (wsV RX1 37 RX1 yX1_normalParts wsX1_normalParts) := goodIn_app (goodIn_of _ (by decide +kernel)) ggX1_doubt_X1_normalParts
theorem dX1_doubt_0 : decode cX1_doubt 0 = .ok (.aload_n 0, 1) := by decide +kernel
theorem dX1_doubt_1 : decode cX1_doubt 1 = .ok (.iconst 0, 1) := by decide +kernel
theorem dX1_doubt_2 : decode cX1_doubt 2 = .ok (.bipush 6, 2) := by decide +kernel
theorem dX1_doubt_4 : decode cX1_doubt 4 = .ok (.invokevirtual 37, 3) := by decide +kernel
theorem dX1_doubt_7 : decode cX1_doubt 7 = .ok (.aload_n 0, 1) := by decide +kernel
theorem dX1_doubt_8 : decode cX1_doubt 8 = .ok (.bipush 6, 2) := by decide +kernel
theorem dX1_doubt_10 : decode cX1_doubt 10 = .ok (.bipush 12, 2) := by decide +kernel
theorem dX1_doubt_12 : decode cX1_doubt 12 = .ok (.invokevirtual 37, 3) := by decide +kernel
theorem dX1_doubt_15 : decode cX1_doubt 15 = .ok (.isub, 1) := by decide +kernel
theorem dX1_doubt_16 : decode cX1_doubt 16 = .ok (.ireturn, 1) := by decide +kernel
set_option maxRecDepth 20000 in
theorem ggX1_normalParts_X1_isNormal : GoodIn wsX1_normalParts wsX1_isNormal := goodIn_r _ [10, 11, 12, 13, 14, 15, 16, 17, 18] (by decide +kernel) (by decide +kernel)
set_option maxRecDepth 20000 in
theorem gX1_normalParts_X1_isNormal : GoodIn wsX1_normalParts (wsV RX1 48 RX1 yX1_isNormal wsX1_isNormal) := goodIn_app (goodIn_of _ (by decide +kernel)) ggX1_normalParts_X1_isNormal
theorem dX1_normalParts_0 : decode cX1_normalParts 0 = .ok (.iconst 0, 1) := by decide +kernel
theorem dX1_normalParts_1 : decode cX1_normalParts 1 = .ok (.istore_n 3, 1) := by decide +kernel
theorem dX1_normalParts_2 : decode cX1_normalParts 2 = .ok (.iconst 0, 1) := by decide +kernel
theorem dX1_normalParts_3 : decode cX1_normalParts 3 = .ok (.iload_n 1, 1) := by decide +kernel
theorem dX1_normalParts_4 : decode cX1_normalParts 4 = .ok (.invokestatic 68, 3) := by decide +kernel
theorem dX1_normalParts_7 : decode cX1_normalParts 7 = .ok (.istore 4, 2) := by decide +kernel
theorem dX1_normalParts_9 : decode cX1_normalParts 9 = .ok (.iload 4, 2) := by decide +kernel
theorem dX1_normalParts_11 : decode cX1_normalParts 11 = .ok (.iload_n 2, 1) := by decide +kernel
theorem dX1_normalParts_12 : decode cX1_normalParts 12 = .ok (.if_icmp .ge 36, 3) := by decide +kernel
theorem dX1_normalParts_15 : decode cX1_normalParts 15 = .ok (.iload 4, 2) := by decide +kernel
theorem dX1_normalParts_17 : decode cX1_normalParts 17 = .ok (.aload_n 0, 1) := by decide +kernel
theorem dX1_normalParts_18 : decode cX1_normalParts 18 = .ok (.getfield 9, 3) := by decide +kernel
theorem dX1_normalParts_21 : decode cX1_normalParts 21 = .ok (.arraylength, 1) := by decide +kernel
theorem dX1_normalParts_22 : decode cX1_normalParts 22 = .ok (.if_icmp .ge 26, 3) := by decide +kernel
theorem dX1_normalParts_25 : decode cX1_normalParts 25 = .ok (.aload_n 0, 1) := by decide +kernel
theorem dX1_normalParts_26 : decode cX1_normalParts 26 = .ok (.aload_n 0, 1) := by decide +kernel
theorem dX1_normalParts_27 : decode cX1_normalParts 27 = .ok (.getfield 9, 3) := by decide +kernel
theorem dX1_normalParts_30 : decode cX1_normalParts 30 = .ok (.iload 4, 2) := by decide +kernel
theorem dX1_normalParts_32 : decode cX1_normalParts 32 = .ok (.iaload, 1) := by decide +kernel
theorem dX1_normalParts_33 : decode cX1_normalParts 33 = .ok (.invokevirtual 48, 3) := by decide +kernel
theorem dX1_normalParts_36 : decode cX1_normalParts 36 = .ok (.ifCond .eq 6, 3) := by decide +kernel
theorem dX1_normalParts_39 : decode cX1_normalParts 39 = .ok (.iinc 3 1, 3) := by decide +kernel
theorem dX1_normalParts_42 : decode cX1_normalParts 42 = .ok (.iinc 4 1, 3) := by decide +kernel
theorem dX1_normalParts_45 : decode cX1_normalParts 45 = .ok (.goto (-36), 3) := by decide +kernel
theorem dX1_normalParts_48 : decode cX1_normalParts 48 = .ok (.iload_n 3, 1) := by decide +kernel
theorem dX1_normalParts_49 : decode cX1_normalParts 49 = .ok (.ireturn, 1) := by decide +kernel
theorem dX1_isNormal_0 : decode cX1_isNormal 0 = .ok (.iload_n 1, 1) := by decide +kernel
theorem dX1_isNormal_1 : decode cX1_isNormal 1 = .ok (.bipush 90, 2) := by decide +kernel
theorem dX1_isNormal_3 : decode cX1_isNormal 3 = .ok (.sipush 1000, 3) := by decide +kernel
theorem dX1_isNormal_6 : decode cX1_isNormal 6 = .ok (.aload_n 0, 1) := by decide +kernel
theorem dX1_isNormal_7 : decode cX1_isNormal 7 = .ok (.getfield 33, 3) := by decide +kernel
theorem dX1_isNormal_10 : decode cX1_isNormal 10 = .ok (.isub, 1) := by decide +kernel
theorem dX1_isNormal_11 : decode cX1_isNormal 11 = .ok (.imul, 1) := by decide +kernel
theorem dX1_isNormal_12 : decode cX1_isNormal 12 = .ok (.sipush 1000, 3) := by decide +kernel
theorem dX1_isNormal_15 : decode cX1_isNormal 15 = .ok (.idiv, 1) := by decide +kernel
theorem dX1_isNormal_16 : decode cX1_isNormal 16 = .ok (.if_icmp .lt 7, 3) := by decide +kernel
theorem dX1_isNormal_19 : decode cX1_isNormal 19 = .ok (.iconst 1, 1) := by decide +kernel
theorem dX1_isNormal_20 : decode cX1_isNormal 20 = .ok (.goto 4, 3) := by decide +kernel
theorem dX1_isNormal_23 : decode cX1_isNormal 23 = .ok (.iconst 0, 1) := by decide +kernel
theorem dX1_isNormal_24 : decode cX1_isNormal 24 = .ok (.ireturn, 1) := by decide +kernel
theorem dX1_stored_0 : decode cX1_stored 0 = .ok (.ldc2_w 71, 3) := by decide +kernel
theorem dX1_stored_3 : decode cX1_stored 3 = .ok (.aload_n 0, 1) := by decide +kernel
theorem dX1_stored_4 : decode cX1_stored 4 = .ok (.getfield 33, 3) := by decide +kernel
theorem dX1_stored_7 : decode cX1_stored 7 = .ok (.i2l, 1) := by decide +kernel
theorem dX1_stored_8 : decode cX1_stored 8 = .ok (.lmul, 1) := by decide +kernel
theorem dX1_stored_9 : decode cX1_stored 9 = .ok (.aload_n 0, 1) := by decide +kernel
theorem dX1_stored_10 : decode cX1_stored 10 = .ok (.getfield 33, 3) := by decide +kernel
theorem dX1_stored_13 : decode cX1_stored 13 = .ok (.i2l, 1) := by decide +kernel
theorem dX1_stored_14 : decode cX1_stored 14 = .ok (.lmul, 1) := by decide +kernel
theorem dX1_stored_15 : decode cX1_stored 15 = .ok (.lreturn, 1) := by decide +kernel
theorem dX2_init_0 : decode cX2_init 0 = .ok (.aload_n 0, 1) := by decide +kernel
theorem dX2_init_1 : decode cX2_init 1 = .ok (.invokespecial 1, 3) := by decide +kernel
theorem dX2_init_4 : decode cX2_init 4 = .ok (.aload_n 0, 1) := by decide +kernel
theorem dX2_init_5 : decode cX2_init 5 = .ok (.sipush 300, 3) := by decide +kernel
theorem dX2_init_8 : decode cX2_init 8 = .ok (.putfield 7, 3) := by decide +kernel
theorem dX2_init_11 : decode cX2_init 11 = .ok (.aload_n 0, 1) := by decide +kernel
theorem dX2_init_12 : decode cX2_init 12 = .ok (.sipush 700, 3) := by decide +kernel
theorem dX2_init_15 : decode cX2_init 15 = .ok (.putfield 13, 3) := by decide +kernel
theorem dX2_init_18 : decode cX2_init 18 = .ok (.return_, 1) := by decide +kernel
theorem dX3_init_0 : decode cX3_init 0 = .ok (.aload_n 0, 1) := by decide +kernel
theorem dX3_init_1 : decode cX3_init 1 = .ok (.invokespecial 5, 3) := by decide +kernel
theorem dX3_init_4 : decode cX3_init 4 = .ok (.aload_n 0, 1) := by decide +kernel
theorem dX3_init_5 : decode cX3_init 5 = .ok (.bipush 48, 2) := by decide +kernel
theorem dX3_init_7 : decode cX3_init 7 = .ok (.newarray .int, 2) := by decide +kernel
theorem dX3_init_9 : decode cX3_init 9 = .ok (.putfield 11, 3) := by decide +kernel
theorem dX3_init_12 : decode cX3_init 12 = .ok (.aload_n 0, 1) := by decide +kernel
theorem dX3_init_13 : decode cX3_init 13 = .ok (.bipush 20, 2) := by decide +kernel
theorem dX3_init_15 : decode cX3_init 15 = .ok (.newarray .int, 2) := by decide +kernel
theorem dX3_init_17 : decode cX3_init 17 = .ok (.putfield 15, 3) := by decide +kernel
theorem dX3_init_20 : decode cX3_init 20 = .ok (.iconst 0, 1) := by decide +kernel
theorem dX3_init_21 : decode cX3_init 21 = .ok (.istore_n 1, 1) := by decide +kernel
theorem dX3_init_22 : decode cX3_init 22 = .ok (.iload_n 1, 1) := by decide +kernel
theorem dX3_init_23 : decode cX3_init 23 = .ok (.bipush 20, 2) := by decide +kernel
theorem dX3_init_25 : decode cX3_init 25 = .ok (.if_icmp .ge 16, 3) := by decide +kernel
theorem dX3_init_28 : decode cX3_init 28 = .ok (.aload_n 0, 1) := by decide +kernel
theorem dX3_init_29 : decode cX3_init 29 = .ok (.getfield 15, 3) := by decide +kernel
theorem dX3_init_32 : decode cX3_init 32 = .ok (.iload_n 1, 1) := by decide +kernel
theorem dX3_init_33 : decode cX3_init 33 = .ok (.iconst (-1), 1) := by decide +kernel
theorem dX3_init_34 : decode cX3_init 34 = .ok (.iastore, 1) := by decide +kernel
theorem dX3_init_35 : decode cX3_init 35 = .ok (.iinc 1 1, 3) := by decide +kernel
theorem dX3_init_38 : decode cX3_init 38 = .ok (.goto (-16), 3) := by decide +kernel
theorem dX3_init_41 : decode cX3_init 41 = .ok (.return_, 1) := by decide +kernel
set_option maxRecDepth 20000 in
theorem ggX3_runStep_X3_leavesFrom : GoodIn wsX3_runStep wsX3_leavesFrom := goodIn_r _ [6, 7, 8, 9, 10, 11, 12, 13, 14, 15, 5, 16, 17, 44, 45, 46, 47, 48] (by decide +kernel) (by decide +kernel)
set_option maxRecDepth 20000 in
theorem gX3_runStep_X3_leavesFrom : GoodIn wsX3_runStep (wsV RX3 18 RX3 yX3_leavesFrom wsX3_leavesFrom) := goodIn_app (goodIn_of _ (by decide +kernel)) ggX3_runStep_X3_leavesFrom
set_option maxRecDepth 20000 in
theorem ggX3_runStep_X3_goalFrom : GoodIn wsX3_runStep wsX3_goalFrom := goodIn_r _ [21, 22, 23, 24, 5, 25, 1, 7, 26, 27, 28, 8, 9, 10, 11, 13, 14, 15, 16, 17, 29, 30, 31, 32, 33, 34, 35, 36, 37, 38, 39, 40, 41, 42, 43, 12, 44, 45, 46, 47, 48] (by decide +kernel) (by decide +kernel)
set_option maxRecDepth 20000 in
theorem gX3_runStep_X3_goalFrom : GoodIn wsX3_runStep (wsV RX3 22 RX3 yX3_goalFrom wsX3_goalFrom) := goodIn_app (goodIn_of _ (by decide +kernel)) ggX3_runStep_X3_goalFrom
theorem dX3_runStep_0 : decode cX3_runStep 0 = .ok (.iconst 0, 1) := by decide +kernel
theorem dX3_runStep_1 : decode cX3_runStep 1 = .ok (.istore_n 1, 1) := by decide +kernel
theorem dX3_runStep_2 : decode cX3_runStep 2 = .ok (.iconst 0, 1) := by decide +kernel
theorem dX3_runStep_3 : decode cX3_runStep 3 = .ok (.istore_n 2, 1) := by decide +kernel
theorem dX3_runStep_4 : decode cX3_runStep 4 = .ok (.iload_n 2, 1) := by decide +kernel
theorem dX3_runStep_5 : decode cX3_runStep 5 = .ok (.aload_n 0, 1) := by decide +kernel
theorem dX3_runStep_6 : decode cX3_runStep 6 = .ok (.getfield 15, 3) := by decide +kernel
theorem dX3_runStep_9 : decode cX3_runStep 9 = .ok (.arraylength, 1) := by decide +kernel
theorem dX3_runStep_10 : decode cX3_runStep 10 = .ok (.if_icmp .ge 70, 3) := by decide +kernel
theorem dX3_runStep_13 : decode cX3_runStep 13 = .ok (.aload_n 0, 1) := by decide +kernel
theorem dX3_runStep_14 : decode cX3_runStep 14 = .ok (.getfield 15, 3) := by decide +kernel
theorem dX3_runStep_17 : decode cX3_runStep 17 = .ok (.iload_n 2, 1) := by decide +kernel
theorem dX3_runStep_18 : decode cX3_runStep 18 = .ok (.iaload, 1) := by decide +kernel
theorem dX3_runStep_19 : decode cX3_runStep 19 = .ok (.istore_n 3, 1) := by decide +kernel
theorem dX3_runStep_20 : decode cX3_runStep 20 = .ok (.iload_n 3, 1) := by decide +kernel
theorem dX3_runStep_21 : decode cX3_runStep 21 = .ok (.iconst (-1), 1) := by decide +kernel
theorem dX3_runStep_22 : decode cX3_runStep 22 = .ok (.if_icmp .ne 6, 3) := by decide +kernel
theorem dX3_runStep_25 : decode cX3_runStep 25 = .ok (.goto 49, 3) := by decide +kernel
theorem dX3_runStep_28 : decode cX3_runStep 28 = .ok (.aload_n 0, 1) := by decide +kernel
theorem dX3_runStep_29 : decode cX3_runStep 29 = .ok (.iload_n 3, 1) := by decide +kernel
theorem dX3_runStep_30 : decode cX3_runStep 30 = .ok (.invokevirtual 18, 3) := by decide +kernel
theorem dX3_runStep_33 : decode cX3_runStep 33 = .ok (.ifCond .eq 16, 3) := by decide +kernel
theorem dX3_runStep_36 : decode cX3_runStep 36 = .ok (.aload_n 0, 1) := by decide +kernel
theorem dX3_runStep_37 : decode cX3_runStep 37 = .ok (.getfield 15, 3) := by decide +kernel
theorem dX3_runStep_40 : decode cX3_runStep 40 = .ok (.iload_n 2, 1) := by decide +kernel
theorem dX3_runStep_41 : decode cX3_runStep 41 = .ok (.iconst (-1), 1) := by decide +kernel
theorem dX3_runStep_42 : decode cX3_runStep 42 = .ok (.iastore, 1) := by decide +kernel
theorem dX3_runStep_43 : decode cX3_runStep 43 = .ok (.iinc 1 1, 3) := by decide +kernel
theorem dX3_runStep_46 : decode cX3_runStep 46 = .ok (.goto 28, 3) := by decide +kernel
theorem dX3_runStep_49 : decode cX3_runStep 49 = .ok (.aload_n 0, 1) := by decide +kernel
theorem dX3_runStep_50 : decode cX3_runStep 50 = .ok (.iload_n 2, 1) := by decide +kernel
theorem dX3_runStep_51 : decode cX3_runStep 51 = .ok (.iload_n 3, 1) := by decide +kernel
theorem dX3_runStep_52 : decode cX3_runStep 52 = .ok (.invokevirtual 22, 3) := by decide +kernel
theorem dX3_runStep_55 : decode cX3_runStep 55 = .ok (.istore 4, 2) := by decide +kernel
theorem dX3_runStep_57 : decode cX3_runStep 57 = .ok (.iload 4, 2) := by decide +kernel
theorem dX3_runStep_59 : decode cX3_runStep 59 = .ok (.iconst (-1), 1) := by decide +kernel
theorem dX3_runStep_60 : decode cX3_runStep 60 = .ok (.if_icmp .eq 14, 3) := by decide +kernel
theorem dX3_runStep_63 : decode cX3_runStep 63 = .ok (.aload_n 0, 1) := by decide +kernel
theorem dX3_runStep_64 : decode cX3_runStep 64 = .ok (.getfield 15, 3) := by decide +kernel
theorem dX3_runStep_67 : decode cX3_runStep 67 = .ok (.iload_n 2, 1) := by decide +kernel
theorem dX3_runStep_68 : decode cX3_runStep 68 = .ok (.iload 4, 2) := by decide +kernel
theorem dX3_runStep_70 : decode cX3_runStep 70 = .ok (.iastore, 1) := by decide +kernel
theorem dX3_runStep_71 : decode cX3_runStep 71 = .ok (.iinc 1 1, 3) := by decide +kernel
theorem dX3_runStep_74 : decode cX3_runStep 74 = .ok (.iinc 2 1, 3) := by decide +kernel
theorem dX3_runStep_77 : decode cX3_runStep 77 = .ok (.goto (-73), 3) := by decide +kernel
theorem dX3_runStep_80 : decode cX3_runStep 80 = .ok (.iload_n 1, 1) := by decide +kernel
theorem dX3_runStep_81 : decode cX3_runStep 81 = .ok (.ireturn, 1) := by decide +kernel
set_option maxRecDepth 20000 in
theorem ggX3_leavesFrom_X3_depthOf : GoodIn wsX3_leavesFrom wsX3_depthOf := goodIn_r _ [11, 12, 13, 14, 15, 16, 17] (by decide +kernel) (by decide +kernel)
set_option maxRecDepth 20000 in
theorem gX3_leavesFrom_X3_depthOf : GoodIn wsX3_leavesFrom (wsV RX3 30 RX3 yX3_depthOf wsX3_depthOf) := goodIn_app (goodIn_of _ (by decide +kernel)) ggX3_leavesFrom_X3_depthOf
theorem dX3_leavesFrom_0 : decode cX3_leavesFrom 0 = .ok (.aload_n 0, 1) := by decide +kernel
theorem dX3_leavesFrom_1 : decode cX3_leavesFrom 1 = .ok (.getfield 26, 3) := by decide +kernel
theorem dX3_leavesFrom_4 : decode cX3_leavesFrom 4 = .ok (.ifCond .le 8, 3) := by decide +kernel
theorem dX3_leavesFrom_7 : decode cX3_leavesFrom 7 = .ok (.bipush 7, 2) := by decide +kernel
theorem dX3_leavesFrom_9 : decode cX3_leavesFrom 9 = .ok (.goto 4, 3) := by decide +kernel
theorem dX3_leavesFrom_12 : decode cX3_leavesFrom 12 = .ok (.iconst 0, 1) := by decide +kernel
theorem dX3_leavesFrom_13 : decode cX3_leavesFrom 13 = .ok (.istore_n 2, 1) := by decide +kernel
theorem dX3_leavesFrom_14 : decode cX3_leavesFrom 14 = .ok (.aload_n 0, 1) := by decide +kernel
theorem dX3_leavesFrom_15 : decode cX3_leavesFrom 15 = .ok (.getfield 26, 3) := by decide +kernel
theorem dX3_leavesFrom_18 : decode cX3_leavesFrom 18 = .ok (.ifCond .eq 35, 3) := by decide +kernel
theorem dX3_leavesFrom_21 : decode cX3_leavesFrom 21 = .ok (.iload_n 1, 1) := by decide +kernel
theorem dX3_leavesFrom_22 : decode cX3_leavesFrom 22 = .ok (.bipush 8, 2) := by decide +kernel
theorem dX3_leavesFrom_24 : decode cX3_leavesFrom 24 = .ok (.irem, 1) := by decide +kernel
theorem dX3_leavesFrom_25 : decode cX3_leavesFrom 25 = .ok (.iload_n 2, 1) := by decide +kernel
theorem dX3_leavesFrom_26 : decode cX3_leavesFrom 26 = .ok (.if_icmp .ne 27, 3) := by decide +kernel
theorem dX3_leavesFrom_29 : decode cX3_leavesFrom 29 = .ok (.aload_n 0, 1) := by decide +kernel
theorem dX3_leavesFrom_30 : decode cX3_leavesFrom 30 = .ok (.iload_n 1, 1) := by decide +kernel
theorem dX3_leavesFrom_31 : decode cX3_leavesFrom 31 = .ok (.invokevirtual 30, 3) := by decide +kernel
theorem dX3_leavesFrom_34 : decode cX3_leavesFrom 34 = .ok (.aload_n 0, 1) := by decide +kernel
theorem dX3_leavesFrom_35 : decode cX3_leavesFrom 35 = .ok (.getfield 26, 3) := by decide +kernel
theorem dX3_leavesFrom_38 : decode cX3_leavesFrom 38 = .ok (.invokestatic 34, 3) := by decide +kernel
theorem dX3_leavesFrom_41 : decode cX3_leavesFrom 41 = .ok (.aload_n 0, 1) := by decide +kernel
theorem dX3_leavesFrom_42 : decode cX3_leavesFrom 42 = .ok (.getfield 39, 3) := by decide +kernel
theorem dX3_leavesFrom_45 : decode cX3_leavesFrom 45 = .ok (.iadd, 1) := by decide +kernel
theorem dX3_leavesFrom_46 : decode cX3_leavesFrom 46 = .ok (.if_icmp .ge 7, 3) := by decide +kernel
theorem dX3_leavesFrom_49 : decode cX3_leavesFrom 49 = .ok (.iconst 1, 1) := by decide +kernel
theorem dX3_leavesFrom_50 : decode cX3_leavesFrom 50 = .ok (.goto 4, 3) := by decide +kernel
theorem dX3_leavesFrom_53 : decode cX3_leavesFrom 53 = .ok (.iconst 0, 1) := by decide +kernel
theorem dX3_leavesFrom_54 : decode cX3_leavesFrom 54 = .ok (.ireturn, 1) := by decide +kernel
set_option maxRecDepth 20000 in
theorem ggX3_goalFrom_X3_energyAt : GoodIn wsX3_goalFrom wsX3_energyAt := goodIn_r _ [5, 6, 7, 8, 9, 4, 10, 11, 12, 13, 14, 15, 16, 17, 18, 19, 36, 37, 38, 39, 40] (by decide +kernel) (by decide +kernel)
set_option maxRecDepth 20000 in
theorem gX3_goalFrom_X3_energyAt : GoodIn wsX3_goalFrom (wsV RX3 42 RX3 yX3_energyAt wsX3_energyAt) := goodIn_app (goodIn_of _ (by decide +kernel)) ggX3_goalFrom_X3_energyAt
set_option maxRecDepth 20000 in
theorem ggX3_goalFrom_X3_calmestBeside : GoodIn wsX3_goalFrom wsX3_calmestBeside := goodIn_r _ [23, 24, 25, 4, 26, 27, 28, 29, 30, 6, 1, 2, 3, 5, 7, 8, 9, 10, 11, 12, 13, 14, 15, 16, 17, 18, 19, 36, 37, 38, 39, 40] (by decide +kernel) (by decide +kernel)
set_option maxRecDepth 20000 in
theorem gX3_goalFrom_X3_calmestBeside : GoodIn wsX3_goalFrom (wsV RX3 45 RX3 yX3_calmestBeside wsX3_calmestBeside) := goodIn_app (goodIn_of _ (by decide +kernel)) ggX3_goalFrom_X3_calmestBeside
set_option maxRecDepth 20000 in
theorem ggX3_goalFrom_X3_creepGoal : GoodIn wsX3_goalFrom wsX3_creepGoal := goodIn_r _ [34, 7, 35, 24, 25, 4, 26, 27, 28, 29, 30, 6, 1, 2, 3, 5, 8, 9, 10, 11, 12, 13, 14, 15, 16, 17, 18, 19, 36, 37, 38, 39, 40] (by decide +kernel) (by decide +kernel)
set_option maxRecDepth 20000 in
theorem gX3_goalFrom_X3_creepGoal : GoodIn wsX3_goalFrom (wsV RX3 49 RX3 yX3_creepGoal wsX3_creepGoal) := goodIn_app (goodIn_of _ (by decide +kernel)) ggX3_goalFrom_X3_creepGoal
theorem dX3_goalFrom_0 : decode cX3_goalFrom 0 = .ok (.aload_n 0, 1) := by decide +kernel
theorem dX3_goalFrom_1 : decode cX3_goalFrom 1 = .ok (.iload_n 1, 1) := by decide +kernel
theorem dX3_goalFrom_2 : decode cX3_goalFrom 2 = .ok (.iload_n 2, 1) := by decide +kernel
theorem dX3_goalFrom_3 : decode cX3_goalFrom 3 = .ok (.invokevirtual 42, 3) := by decide +kernel
theorem dX3_goalFrom_6 : decode cX3_goalFrom 6 = .ok (.istore_n 3, 1) := by decide +kernel
theorem dX3_goalFrom_7 : decode cX3_goalFrom 7 = .ok (.aload_n 0, 1) := by decide +kernel
theorem dX3_goalFrom_8 : decode cX3_goalFrom 8 = .ok (.iload_n 1, 1) := by decide +kernel
theorem dX3_goalFrom_9 : decode cX3_goalFrom 9 = .ok (.iload_n 2, 1) := by decide +kernel
theorem dX3_goalFrom_10 : decode cX3_goalFrom 10 = .ok (.iload_n 3, 1) := by decide +kernel
theorem dX3_goalFrom_11 : decode cX3_goalFrom 11 = .ok (.invokevirtual 45, 3) := by decide +kernel
theorem dX3_goalFrom_14 : decode cX3_goalFrom 14 = .ok (.istore 4, 2) := by decide +kernel
theorem dX3_goalFrom_16 : decode cX3_goalFrom 16 = .ok (.iload 4, 2) := by decide +kernel
theorem dX3_goalFrom_18 : decode cX3_goalFrom 18 = .ok (.iconst (-1), 1) := by decide +kernel
theorem dX3_goalFrom_19 : decode cX3_goalFrom 19 = .ok (.if_icmp .eq 8, 3) := by decide +kernel
theorem dX3_goalFrom_22 : decode cX3_goalFrom 22 = .ok (.iload 4, 2) := by decide +kernel
theorem dX3_goalFrom_24 : decode cX3_goalFrom 24 = .ok (.goto 10, 3) := by decide +kernel
theorem dX3_goalFrom_27 : decode cX3_goalFrom 27 = .ok (.aload_n 0, 1) := by decide +kernel
theorem dX3_goalFrom_28 : decode cX3_goalFrom 28 = .ok (.iload_n 1, 1) := by decide +kernel
theorem dX3_goalFrom_29 : decode cX3_goalFrom 29 = .ok (.iload_n 2, 1) := by decide +kernel
theorem dX3_goalFrom_30 : decode cX3_goalFrom 30 = .ok (.iload_n 3, 1) := by decide +kernel
theorem dX3_goalFrom_31 : decode cX3_goalFrom 31 = .ok (.invokevirtual 49, 3) := by decide +kernel
theorem dX3_goalFrom_34 : decode cX3_goalFrom 34 = .ok (.ireturn, 1) := by decide +kernel
set_option maxRecDepth 20000 in
theorem ggX3_calmestBeside_X3_beside : GoodIn wsX3_calmestBeside wsX3_beside := goodIn_r _ [4] (by decide +kernel) (by decide +kernel)
set_option maxRecDepth 20000 in
theorem gX3_calmestBeside_X3_beside : GoodIn wsX3_calmestBeside (va_wsS RX3 52 yX3_beside wsX3_beside) := goodIn_app (goodIn_of _ (by decide +kernel)) ggX3_calmestBeside_X3_beside
set_option maxRecDepth 20000 in
theorem ggX3_calmestBeside_X3_isFree : GoodIn wsX3_calmestBeside wsX3_isFree := goodIn_r _ [8, 9, 27, 28, 29, 30, 31] (by decide +kernel) (by decide +kernel)
set_option maxRecDepth 20000 in
theorem gX3_calmestBeside_X3_isFree : GoodIn wsX3_calmestBeside (wsV RX3 55 RX3 yX3_isFree wsX3_isFree) := goodIn_app (goodIn_of _ (by decide +kernel)) ggX3_calmestBeside_X3_isFree
set_option maxRecDepth 20000 in
theorem ggX3_calmestBeside_X3_energyAt : GoodIn wsX3_calmestBeside wsX3_energyAt := goodIn_r _ [13, 9, 14, 15, 16, 3, 17, 18, 19, 20, 21, 22, 23, 24, 25, 26, 27, 28, 29, 30, 31] (by decide +kernel) (by decide +kernel)
set_option maxRecDepth 20000 in
theorem gX3_calmestBeside_X3_energyAt : GoodIn wsX3_calmestBeside (wsV RX3 42 RX3 yX3_energyAt wsX3_energyAt) := goodIn_app (goodIn_of _ (by decide +kernel)) ggX3_calmestBeside_X3_energyAt
theorem dX3_calmestBeside_0 : decode cX3_calmestBeside 0 = .ok (.iconst (-1), 1) := by decide +kernel
theorem dX3_calmestBeside_1 : decode cX3_calmestBeside 1 = .ok (.istore 4, 2) := by decide +kernel
theorem dX3_calmestBeside_3 : decode cX3_calmestBeside 3 = .ok (.iload_n 3, 1) := by decide +kernel
theorem dX3_calmestBeside_4 : decode cX3_calmestBeside 4 = .ok (.istore 5, 2) := by decide +kernel
theorem dX3_calmestBeside_6 : decode cX3_calmestBeside 6 = .ok (.iconst 0, 1) := by decide +kernel
theorem dX3_calmestBeside_7 : decode cX3_calmestBeside 7 = .ok (.istore 6, 2) := by decide +kernel
theorem dX3_calmestBeside_9 : decode cX3_calmestBeside 9 = .ok (.iload 6, 2) := by decide +kernel
theorem dX3_calmestBeside_11 : decode cX3_calmestBeside 11 = .ok (.iconst 4, 1) := by decide +kernel
theorem dX3_calmestBeside_12 : decode cX3_calmestBeside 12 = .ok (.if_icmp .ge 56, 3) := by decide +kernel
theorem dX3_calmestBeside_15 : decode cX3_calmestBeside 15 = .ok (.iload_n 2, 1) := by decide +kernel
theorem dX3_calmestBeside_16 : decode cX3_calmestBeside 16 = .ok (.iload 6, 2) := by decide +kernel
theorem dX3_calmestBeside_18 : decode cX3_calmestBeside 18 = .ok (.invokestatic 52, 3) := by decide +kernel
theorem dX3_calmestBeside_21 : decode cX3_calmestBeside 21 = .ok (.istore 7, 2) := by decide +kernel
theorem dX3_calmestBeside_23 : decode cX3_calmestBeside 23 = .ok (.iload 7, 2) := by decide +kernel
theorem dX3_calmestBeside_25 : decode cX3_calmestBeside 25 = .ok (.iconst (-1), 1) := by decide +kernel
theorem dX3_calmestBeside_26 : decode cX3_calmestBeside 26 = .ok (.if_icmp .eq 36, 3) := by decide +kernel
theorem dX3_calmestBeside_29 : decode cX3_calmestBeside 29 = .ok (.aload_n 0, 1) := by decide +kernel
theorem dX3_calmestBeside_30 : decode cX3_calmestBeside 30 = .ok (.iload 7, 2) := by decide +kernel
theorem dX3_calmestBeside_32 : decode cX3_calmestBeside 32 = .ok (.invokevirtual 55, 3) := by decide +kernel
theorem dX3_calmestBeside_35 : decode cX3_calmestBeside 35 = .ok (.ifCond .eq 27, 3) := by decide +kernel
theorem dX3_calmestBeside_38 : decode cX3_calmestBeside 38 = .ok (.aload_n 0, 1) := by decide +kernel
theorem dX3_calmestBeside_39 : decode cX3_calmestBeside 39 = .ok (.iload_n 1, 1) := by decide +kernel
theorem dX3_calmestBeside_40 : decode cX3_calmestBeside 40 = .ok (.iload 7, 2) := by decide +kernel
theorem dX3_calmestBeside_42 : decode cX3_calmestBeside 42 = .ok (.invokevirtual 42, 3) := by decide +kernel
theorem dX3_calmestBeside_45 : decode cX3_calmestBeside 45 = .ok (.istore 8, 2) := by decide +kernel
theorem dX3_calmestBeside_47 : decode cX3_calmestBeside 47 = .ok (.iload 8, 2) := by decide +kernel
theorem dX3_calmestBeside_49 : decode cX3_calmestBeside 49 = .ok (.iload 5, 2) := by decide +kernel
theorem dX3_calmestBeside_51 : decode cX3_calmestBeside 51 = .ok (.if_icmp .ge 11, 3) := by decide +kernel
theorem dX3_calmestBeside_54 : decode cX3_calmestBeside 54 = .ok (.iload 8, 2) := by decide +kernel
theorem dX3_calmestBeside_56 : decode cX3_calmestBeside 56 = .ok (.istore 5, 2) := by decide +kernel
theorem dX3_calmestBeside_58 : decode cX3_calmestBeside 58 = .ok (.iload 7, 2) := by decide +kernel
theorem dX3_calmestBeside_60 : decode cX3_calmestBeside 60 = .ok (.istore 4, 2) := by decide +kernel
theorem dX3_calmestBeside_62 : decode cX3_calmestBeside 62 = .ok (.iinc 6 1, 3) := by decide +kernel
theorem dX3_calmestBeside_65 : decode cX3_calmestBeside 65 = .ok (.goto (-56), 3) := by decide +kernel
theorem dX3_calmestBeside_68 : decode cX3_calmestBeside 68 = .ok (.iload 4, 2) := by decide +kernel
theorem dX3_calmestBeside_70 : decode cX3_calmestBeside 70 = .ok (.ireturn, 1) := by decide +kernel
set_option maxRecDepth 20000 in
theorem ggX3_creepGoal_X3_beside : GoodIn wsX3_creepGoal wsX3_beside := goodIn_r _ [6] (by decide +kernel) (by decide +kernel)
set_option maxRecDepth 20000 in
theorem gX3_creepGoal_X3_beside : GoodIn wsX3_creepGoal (va_wsS RX3 52 yX3_beside wsX3_beside) := goodIn_app (goodIn_of _ (by decide +kernel)) ggX3_creepGoal_X3_beside
set_option maxRecDepth 20000 in
theorem ggX3_creepGoal_X3_isFree : GoodIn wsX3_creepGoal wsX3_isFree := goodIn_r _ [10, 11, 28, 29, 30, 31, 32] (by decide +kernel) (by decide +kernel)
set_option maxRecDepth 20000 in
theorem gX3_creepGoal_X3_isFree : GoodIn wsX3_creepGoal (wsV RX3 55 RX3 yX3_isFree wsX3_isFree) := goodIn_app (goodIn_of _ (by decide +kernel)) ggX3_creepGoal_X3_isFree
set_option maxRecDepth 20000 in
theorem ggX3_creepGoal_X3_energyAt : GoodIn wsX3_creepGoal wsX3_energyAt := goodIn_r _ [15, 11, 1, 16, 17, 5, 18, 19, 20, 21, 22, 23, 24, 25, 26, 27, 28, 29, 30, 31, 32] (by decide +kernel) (by decide +kernel)
set_option maxRecDepth 20000 in
theorem gX3_creepGoal_X3_energyAt : GoodIn wsX3_creepGoal (wsV RX3 42 RX3 yX3_energyAt wsX3_energyAt) := goodIn_app (goodIn_of _ (by decide +kernel)) ggX3_creepGoal_X3_energyAt
theorem dX3_creepGoal_0 : decode cX3_creepGoal 0 = .ok (.aload_n 0, 1) := by decide +kernel
theorem dX3_creepGoal_1 : decode cX3_creepGoal 1 = .ok (.getfield 26, 3) := by decide +kernel
theorem dX3_creepGoal_4 : decode cX3_creepGoal 4 = .ok (.ifCond .ne 5, 3) := by decide +kernel
theorem dX3_creepGoal_7 : decode cX3_creepGoal 7 = .ok (.iconst (-1), 1) := by decide +kernel
theorem dX3_creepGoal_8 : decode cX3_creepGoal 8 = .ok (.ireturn, 1) := by decide +kernel
theorem dX3_creepGoal_9 : decode cX3_creepGoal 9 = .ok (.iload_n 2, 1) := by decide +kernel
theorem dX3_creepGoal_10 : decode cX3_creepGoal 10 = .ok (.aload_n 0, 1) := by decide +kernel
theorem dX3_creepGoal_11 : decode cX3_creepGoal 11 = .ok (.getfield 26, 3) := by decide +kernel
theorem dX3_creepGoal_14 : decode cX3_creepGoal 14 = .ok (.ifCond .le 7, 3) := by decide +kernel
theorem dX3_creepGoal_17 : decode cX3_creepGoal 17 = .ok (.iconst 1, 1) := by decide +kernel
theorem dX3_creepGoal_18 : decode cX3_creepGoal 18 = .ok (.goto 4, 3) := by decide +kernel
theorem dX3_creepGoal_21 : decode cX3_creepGoal 21 = .ok (.iconst 3, 1) := by decide +kernel
theorem dX3_creepGoal_22 : decode cX3_creepGoal 22 = .ok (.invokestatic 52, 3) := by decide +kernel
theorem dX3_creepGoal_25 : decode cX3_creepGoal 25 = .ok (.istore 4, 2) := by decide +kernel
theorem dX3_creepGoal_27 : decode cX3_creepGoal 27 = .ok (.iload 4, 2) := by decide +kernel
theorem dX3_creepGoal_29 : decode cX3_creepGoal 29 = .ok (.iconst (-1), 1) := by decide +kernel
theorem dX3_creepGoal_30 : decode cX3_creepGoal 30 = .ok (.if_icmp .eq 12, 3) := by decide +kernel
theorem dX3_creepGoal_33 : decode cX3_creepGoal 33 = .ok (.aload_n 0, 1) := by decide +kernel
theorem dX3_creepGoal_34 : decode cX3_creepGoal 34 = .ok (.iload 4, 2) := by decide +kernel
theorem dX3_creepGoal_36 : decode cX3_creepGoal 36 = .ok (.invokevirtual 55, 3) := by decide +kernel
theorem dX3_creepGoal_39 : decode cX3_creepGoal 39 = .ok (.ifCond .ne 5, 3) := by decide +kernel
theorem dX3_creepGoal_42 : decode cX3_creepGoal 42 = .ok (.iconst (-1), 1) := by decide +kernel
theorem dX3_creepGoal_43 : decode cX3_creepGoal 43 = .ok (.ireturn, 1) := by decide +kernel
theorem dX3_creepGoal_44 : decode cX3_creepGoal 44 = .ok (.aload_n 0, 1) := by decide +kernel
theorem dX3_creepGoal_45 : decode cX3_creepGoal 45 = .ok (.iload_n 1, 1) := by decide +kernel
theorem dX3_creepGoal_46 : decode cX3_creepGoal 46 = .ok (.iload 4, 2) := by decide +kernel
theorem dX3_creepGoal_48 : decode cX3_creepGoal 48 = .ok (.invokevirtual 42, 3) := by decide +kernel
theorem dX3_creepGoal_51 : decode cX3_creepGoal 51 = .ok (.iload_n 3, 1) := by decide +kernel
theorem dX3_creepGoal_52 : decode cX3_creepGoal 52 = .ok (.isub, 1) := by decide +kernel
theorem dX3_creepGoal_53 : decode cX3_creepGoal 53 = .ok (.aload_n 0, 1) := by decide +kernel
theorem dX3_creepGoal_54 : decode cX3_creepGoal 54 = .ok (.getfield 39, 3) := by decide +kernel
theorem dX3_creepGoal_57 : decode cX3_creepGoal 57 = .ok (.if_icmp .gt 8, 3) := by decide +kernel
theorem dX3_creepGoal_60 : decode cX3_creepGoal 60 = .ok (.iload 4, 2) := by decide +kernel
theorem dX3_creepGoal_62 : decode cX3_creepGoal 62 = .ok (.goto 4, 3) := by decide +kernel
theorem dX3_creepGoal_65 : decode cX3_creepGoal 65 = .ok (.iconst (-1), 1) := by decide +kernel
theorem dX3_creepGoal_66 : decode cX3_creepGoal 66 = .ok (.ireturn, 1) := by decide +kernel
set_option maxRecDepth 20000 in
theorem ggX3_calmestEntry_X3_isFree : GoodIn wsX3_calmestEntry wsX3_isFree := goodIn_r _ [5, 6, 24, 25, 26, 27, 28] (by decide +kernel) (by decide +kernel)
set_option maxRecDepth 20000 in
theorem gX3_calmestEntry_X3_isFree : GoodIn wsX3_calmestEntry (wsV RX3 55 RX3 yX3_isFree wsX3_isFree) := goodIn_app (goodIn_of _ (by decide +kernel)) ggX3_calmestEntry_X3_isFree
set_option maxRecDepth 20000 in
theorem ggX3_calmestEntry_X3_energyAt : GoodIn wsX3_calmestEntry wsX3_energyAt := goodIn_r _ [10, 6, 11, 12, 13, 4, 14, 15, 16, 17, 18, 19, 20, 21, 22, 23, 24, 25, 26, 27, 28] (by decide +kernel) (by decide +kernel)
set_option maxRecDepth 20000 in
theorem gX3_calmestEntry_X3_energyAt : GoodIn wsX3_calmestEntry (wsV RX3 42 RX3 yX3_energyAt wsX3_energyAt) := goodIn_app (goodIn_of _ (by decide +kernel)) ggX3_calmestEntry_X3_energyAt
theorem dX3_calmestEntry_0 : decode cX3_calmestEntry 0 = .ok (.iconst (-1), 1) := by decide +kernel
theorem dX3_calmestEntry_1 : decode cX3_calmestEntry 1 = .ok (.istore_n 2, 1) := by decide +kernel
theorem dX3_calmestEntry_2 : decode cX3_calmestEntry 2 = .ok (.iconst 0, 1) := by decide +kernel
theorem dX3_calmestEntry_3 : decode cX3_calmestEntry 3 = .ok (.istore_n 3, 1) := by decide +kernel
theorem dX3_calmestEntry_4 : decode cX3_calmestEntry 4 = .ok (.iconst 0, 1) := by decide +kernel
theorem dX3_calmestEntry_5 : decode cX3_calmestEntry 5 = .ok (.istore 4, 2) := by decide +kernel
theorem dX3_calmestEntry_7 : decode cX3_calmestEntry 7 = .ok (.iload 4, 2) := by decide +kernel
theorem dX3_calmestEntry_9 : decode cX3_calmestEntry 9 = .ok (.bipush 6, 2) := by decide +kernel
theorem dX3_calmestEntry_11 : decode cX3_calmestEntry 11 = .ok (.if_icmp .ge 51, 3) := by decide +kernel
theorem dX3_calmestEntry_14 : decode cX3_calmestEntry 14 = .ok (.iload 4, 2) := by decide +kernel
theorem dX3_calmestEntry_16 : decode cX3_calmestEntry 16 = .ok (.bipush 8, 2) := by decide +kernel
theorem dX3_calmestEntry_18 : decode cX3_calmestEntry 18 = .ok (.imul, 1) := by decide +kernel
theorem dX3_calmestEntry_19 : decode cX3_calmestEntry 19 = .ok (.istore 5, 2) := by decide +kernel
theorem dX3_calmestEntry_21 : decode cX3_calmestEntry 21 = .ok (.aload_n 0, 1) := by decide +kernel
theorem dX3_calmestEntry_22 : decode cX3_calmestEntry 22 = .ok (.iload 5, 2) := by decide +kernel
theorem dX3_calmestEntry_24 : decode cX3_calmestEntry 24 = .ok (.invokevirtual 55, 3) := by decide +kernel
theorem dX3_calmestEntry_27 : decode cX3_calmestEntry 27 = .ok (.ifCond .eq 29, 3) := by decide +kernel
theorem dX3_calmestEntry_30 : decode cX3_calmestEntry 30 = .ok (.aload_n 0, 1) := by decide +kernel
theorem dX3_calmestEntry_31 : decode cX3_calmestEntry 31 = .ok (.iload_n 1, 1) := by decide +kernel
theorem dX3_calmestEntry_32 : decode cX3_calmestEntry 32 = .ok (.iload 5, 2) := by decide +kernel
theorem dX3_calmestEntry_34 : decode cX3_calmestEntry 34 = .ok (.invokevirtual 42, 3) := by decide +kernel
theorem dX3_calmestEntry_37 : decode cX3_calmestEntry 37 = .ok (.istore 6, 2) := by decide +kernel
theorem dX3_calmestEntry_39 : decode cX3_calmestEntry 39 = .ok (.iload_n 2, 1) := by decide +kernel
theorem dX3_calmestEntry_40 : decode cX3_calmestEntry 40 = .ok (.iconst (-1), 1) := by decide +kernel
theorem dX3_calmestEntry_41 : decode cX3_calmestEntry 41 = .ok (.if_icmp .eq 9, 3) := by decide +kernel
theorem dX3_calmestEntry_44 : decode cX3_calmestEntry 44 = .ok (.iload 6, 2) := by decide +kernel
theorem dX3_calmestEntry_46 : decode cX3_calmestEntry 46 = .ok (.iload_n 3, 1) := by decide +kernel
theorem dX3_calmestEntry_47 : decode cX3_calmestEntry 47 = .ok (.if_icmp .ge 9, 3) := by decide +kernel
theorem dX3_calmestEntry_50 : decode cX3_calmestEntry 50 = .ok (.iload 6, 2) := by decide +kernel
theorem dX3_calmestEntry_52 : decode cX3_calmestEntry 52 = .ok (.istore_n 3, 1) := by decide +kernel
theorem dX3_calmestEntry_53 : decode cX3_calmestEntry 53 = .ok (.iload 5, 2) := by decide +kernel
theorem dX3_calmestEntry_55 : decode cX3_calmestEntry 55 = .ok (.istore_n 2, 1) := by decide +kernel
theorem dX3_calmestEntry_56 : decode cX3_calmestEntry 56 = .ok (.iinc 4 1, 3) := by decide +kernel
theorem dX3_calmestEntry_59 : decode cX3_calmestEntry 59 = .ok (.goto (-52), 3) := by decide +kernel
theorem dX3_calmestEntry_62 : decode cX3_calmestEntry 62 = .ok (.iload_n 2, 1) := by decide +kernel
theorem dX3_calmestEntry_63 : decode cX3_calmestEntry 63 = .ok (.ireturn, 1) := by decide +kernel
set_option maxRecDepth 20000 in
theorem ggX3_energyAt_X3_repulsion : GoodIn wsX3_energyAt wsX3_repulsion := goodIn_r _ [6, 7, 8, 9, 10] (by decide +kernel) (by decide +kernel)
set_option maxRecDepth 20000 in
theorem gX3_energyAt_X3_repulsion : GoodIn wsX3_energyAt (va_wsS RX3 58 yX3_repulsion wsX3_repulsion) := goodIn_app (goodIn_of _ (by decide +kernel)) ggX3_energyAt_X3_repulsion
set_option maxRecDepth 20000 in
theorem ggX3_energyAt_X3_depthOf : GoodIn wsX3_energyAt wsX3_depthOf := goodIn_r _ [14, 15, 16, 17, 18, 19, 20] (by decide +kernel) (by decide +kernel)
set_option maxRecDepth 20000 in
theorem gX3_energyAt_X3_depthOf : GoodIn wsX3_energyAt (wsV RX3 30 RX3 yX3_depthOf wsX3_depthOf) := goodIn_app (goodIn_of _ (by decide +kernel)) ggX3_energyAt_X3_depthOf
theorem dX3_energyAt_0 : decode cX3_energyAt 0 = .ok (.iconst 0, 1) := by decide +kernel
theorem dX3_energyAt_1 : decode cX3_energyAt 1 = .ok (.istore_n 3, 1) := by decide +kernel
theorem dX3_energyAt_2 : decode cX3_energyAt 2 = .ok (.iconst 0, 1) := by decide +kernel
theorem dX3_energyAt_3 : decode cX3_energyAt 3 = .ok (.istore 4, 2) := by decide +kernel
theorem dX3_energyAt_5 : decode cX3_energyAt 5 = .ok (.iload 4, 2) := by decide +kernel
theorem dX3_energyAt_7 : decode cX3_energyAt 7 = .ok (.aload_n 0, 1) := by decide +kernel
theorem dX3_energyAt_8 : decode cX3_energyAt 8 = .ok (.getfield 15, 3) := by decide +kernel
theorem dX3_energyAt_11 : decode cX3_energyAt 11 = .ok (.arraylength, 1) := by decide +kernel
theorem dX3_energyAt_12 : decode cX3_energyAt 12 = .ok (.if_icmp .ge 40, 3) := by decide +kernel
theorem dX3_energyAt_15 : decode cX3_energyAt 15 = .ok (.iload 4, 2) := by decide +kernel
theorem dX3_energyAt_17 : decode cX3_energyAt 17 = .ok (.iload_n 1, 1) := by decide +kernel
theorem dX3_energyAt_18 : decode cX3_energyAt 18 = .ok (.if_icmp .eq 28, 3) := by decide +kernel
theorem dX3_energyAt_21 : decode cX3_energyAt 21 = .ok (.aload_n 0, 1) := by decide +kernel
theorem dX3_energyAt_22 : decode cX3_energyAt 22 = .ok (.getfield 15, 3) := by decide +kernel
theorem dX3_energyAt_25 : decode cX3_energyAt 25 = .ok (.iload 4, 2) := by decide +kernel
theorem dX3_energyAt_27 : decode cX3_energyAt 27 = .ok (.iaload, 1) := by decide +kernel
theorem dX3_energyAt_28 : decode cX3_energyAt 28 = .ok (.iconst (-1), 1) := by decide +kernel
theorem dX3_energyAt_29 : decode cX3_energyAt 29 = .ok (.if_icmp .eq 17, 3) := by decide +kernel
theorem dX3_energyAt_32 : decode cX3_energyAt 32 = .ok (.iload_n 3, 1) := by decide +kernel
theorem dX3_energyAt_33 : decode cX3_energyAt 33 = .ok (.iload_n 2, 1) := by decide +kernel
theorem dX3_energyAt_34 : decode cX3_energyAt 34 = .ok (.aload_n 0, 1) := by decide +kernel
theorem dX3_energyAt_35 : decode cX3_energyAt 35 = .ok (.getfield 15, 3) := by decide +kernel
theorem dX3_energyAt_38 : decode cX3_energyAt 38 = .ok (.iload 4, 2) := by decide +kernel
theorem dX3_energyAt_40 : decode cX3_energyAt 40 = .ok (.iaload, 1) := by decide +kernel
theorem dX3_energyAt_41 : decode cX3_energyAt 41 = .ok (.invokestatic 58, 3) := by decide +kernel
theorem dX3_energyAt_44 : decode cX3_energyAt 44 = .ok (.iadd, 1) := by decide +kernel
theorem dX3_energyAt_45 : decode cX3_energyAt 45 = .ok (.istore_n 3, 1) := by decide +kernel
theorem dX3_energyAt_46 : decode cX3_energyAt 46 = .ok (.iinc 4 1, 3) := by decide +kernel
theorem dX3_energyAt_49 : decode cX3_energyAt 49 = .ok (.goto (-44), 3) := by decide +kernel
theorem dX3_energyAt_52 : decode cX3_energyAt 52 = .ok (.iload_n 3, 1) := by decide +kernel
theorem dX3_energyAt_53 : decode cX3_energyAt 53 = .ok (.aload_n 0, 1) := by decide +kernel
theorem dX3_energyAt_54 : decode cX3_energyAt 54 = .ok (.iload_n 2, 1) := by decide +kernel
theorem dX3_energyAt_55 : decode cX3_energyAt 55 = .ok (.invokevirtual 30, 3) := by decide +kernel
theorem dX3_energyAt_58 : decode cX3_energyAt 58 = .ok (.isub, 1) := by decide +kernel
theorem dX3_energyAt_59 : decode cX3_energyAt 59 = .ok (.aload_n 0, 1) := by decide +kernel
theorem dX3_energyAt_60 : decode cX3_energyAt 60 = .ok (.getfield 26, 3) := by decide +kernel
theorem dX3_energyAt_63 : decode cX3_energyAt 63 = .ok (.iload_n 2, 1) := by decide +kernel
theorem dX3_energyAt_64 : decode cX3_energyAt 64 = .ok (.bipush 8, 2) := by decide +kernel
theorem dX3_energyAt_66 : decode cX3_energyAt 66 = .ok (.irem, 1) := by decide +kernel
theorem dX3_energyAt_67 : decode cX3_energyAt 67 = .ok (.imul, 1) := by decide +kernel
theorem dX3_energyAt_68 : decode cX3_energyAt 68 = .ok (.isub, 1) := by decide +kernel
theorem dX3_energyAt_69 : decode cX3_energyAt 69 = .ok (.ireturn, 1) := by decide +kernel
theorem dX3_repulsion_0 : decode cX3_repulsion 0 = .ok (.iload_n 0, 1) := by decide +kernel
theorem dX3_repulsion_1 : decode cX3_repulsion 1 = .ok (.bipush 8, 2) := by decide +kernel
theorem dX3_repulsion_3 : decode cX3_repulsion 3 = .ok (.irem, 1) := by decide +kernel
theorem dX3_repulsion_4 : decode cX3_repulsion 4 = .ok (.iload_n 1, 1) := by decide +kernel
theorem dX3_repulsion_5 : decode cX3_repulsion 5 = .ok (.bipush 8, 2) := by decide +kernel
theorem dX3_repulsion_7 : decode cX3_repulsion 7 = .ok (.irem, 1) := by decide +kernel
theorem dX3_repulsion_8 : decode cX3_repulsion 8 = .ok (.isub, 1) := by decide +kernel
theorem dX3_repulsion_9 : decode cX3_repulsion 9 = .ok (.invokestatic 34, 3) := by decide +kernel
theorem dX3_repulsion_12 : decode cX3_repulsion 12 = .ok (.istore_n 2, 1) := by decide +kernel
theorem dX3_repulsion_13 : decode cX3_repulsion 13 = .ok (.iload_n 0, 1) := by decide +kernel
theorem dX3_repulsion_14 : decode cX3_repulsion 14 = .ok (.bipush 8, 2) := by decide +kernel
theorem dX3_repulsion_16 : decode cX3_repulsion 16 = .ok (.idiv, 1) := by decide +kernel
theorem dX3_repulsion_17 : decode cX3_repulsion 17 = .ok (.iload_n 1, 1) := by decide +kernel
theorem dX3_repulsion_18 : decode cX3_repulsion 18 = .ok (.bipush 8, 2) := by decide +kernel
theorem dX3_repulsion_20 : decode cX3_repulsion 20 = .ok (.idiv, 1) := by decide +kernel
theorem dX3_repulsion_21 : decode cX3_repulsion 21 = .ok (.isub, 1) := by decide +kernel
theorem dX3_repulsion_22 : decode cX3_repulsion 22 = .ok (.invokestatic 34, 3) := by decide +kernel
theorem dX3_repulsion_25 : decode cX3_repulsion 25 = .ok (.istore_n 3, 1) := by decide +kernel
theorem dX3_repulsion_26 : decode cX3_repulsion 26 = .ok (.iload_n 2, 1) := by decide +kernel
theorem dX3_repulsion_27 : decode cX3_repulsion 27 = .ok (.iload_n 3, 1) := by decide +kernel
theorem dX3_repulsion_28 : decode cX3_repulsion 28 = .ok (.iadd, 1) := by decide +kernel
theorem dX3_repulsion_29 : decode cX3_repulsion 29 = .ok (.tableswitch 35 1 3 #[27, 30, 33], 27) := by decide +kernel
theorem dX3_repulsion_56 : decode cX3_repulsion 56 = .ok (.bipush 12, 2) := by decide +kernel
theorem dX3_repulsion_58 : decode cX3_repulsion 58 = .ok (.ireturn, 1) := by decide +kernel
theorem dX3_repulsion_59 : decode cX3_repulsion 59 = .ok (.bipush 6, 2) := by decide +kernel
theorem dX3_repulsion_61 : decode cX3_repulsion 61 = .ok (.ireturn, 1) := by decide +kernel
theorem dX3_repulsion_62 : decode cX3_repulsion 62 = .ok (.iconst 2, 1) := by decide +kernel
theorem dX3_repulsion_63 : decode cX3_repulsion 63 = .ok (.ireturn, 1) := by decide +kernel
theorem dX3_repulsion_64 : decode cX3_repulsion 64 = .ok (.iconst 0, 1) := by decide +kernel
theorem dX3_repulsion_65 : decode cX3_repulsion 65 = .ok (.ireturn, 1) := by decide +kernel
theorem dX3_beside_0 : decode cX3_beside 0 = .ok (.iload_n 0, 1) := by decide +kernel
theorem dX3_beside_1 : decode cX3_beside 1 = .ok (.bipush 8, 2) := by decide +kernel
theorem dX3_beside_3 : decode cX3_beside 3 = .ok (.irem, 1) := by decide +kernel
theorem dX3_beside_4 : decode cX3_beside 4 = .ok (.istore_n 2, 1) := by decide +kernel
theorem dX3_beside_5 : decode cX3_beside 5 = .ok (.iload_n 0, 1) := by decide +kernel
theorem dX3_beside_6 : decode cX3_beside 6 = .ok (.bipush 8, 2) := by decide +kernel
theorem dX3_beside_8 : decode cX3_beside 8 = .ok (.idiv, 1) := by decide +kernel
theorem dX3_beside_9 : decode cX3_beside 9 = .ok (.istore_n 3, 1) := by decide +kernel
theorem dX3_beside_10 : decode cX3_beside 10 = .ok (.iload_n 1, 1) := by decide +kernel
theorem dX3_beside_11 : decode cX3_beside 11 = .ok (.tableswitch 66 0 2 #[25, 38, 52], 25) := by decide +kernel
theorem dX3_beside_36 : decode cX3_beside 36 = .ok (.iload_n 3, 1) := by decide +kernel
theorem dX3_beside_37 : decode cX3_beside 37 = .ok (.ifCond .le 10, 3) := by decide +kernel
theorem dX3_beside_40 : decode cX3_beside 40 = .ok (.iload_n 0, 1) := by decide +kernel
theorem dX3_beside_41 : decode cX3_beside 41 = .ok (.bipush 8, 2) := by decide +kernel
theorem dX3_beside_43 : decode cX3_beside 43 = .ok (.isub, 1) := by decide +kernel
theorem dX3_beside_44 : decode cX3_beside 44 = .ok (.goto 4, 3) := by decide +kernel
theorem dX3_beside_47 : decode cX3_beside 47 = .ok (.iconst (-1), 1) := by decide +kernel
theorem dX3_beside_48 : decode cX3_beside 48 = .ok (.ireturn, 1) := by decide +kernel
theorem dX3_beside_49 : decode cX3_beside 49 = .ok (.iload_n 2, 1) := by decide +kernel
theorem dX3_beside_50 : decode cX3_beside 50 = .ok (.bipush 7, 2) := by decide +kernel
theorem dX3_beside_52 : decode cX3_beside 52 = .ok (.if_icmp .ge 9, 3) := by decide +kernel
theorem dX3_beside_55 : decode cX3_beside 55 = .ok (.iload_n 0, 1) := by decide +kernel
theorem dX3_beside_56 : decode cX3_beside 56 = .ok (.iconst 1, 1) := by decide +kernel
theorem dX3_beside_57 : decode cX3_beside 57 = .ok (.iadd, 1) := by decide +kernel
theorem dX3_beside_58 : decode cX3_beside 58 = .ok (.goto 4, 3) := by decide +kernel
theorem dX3_beside_61 : decode cX3_beside 61 = .ok (.iconst (-1), 1) := by decide +kernel
theorem dX3_beside_62 : decode cX3_beside 62 = .ok (.ireturn, 1) := by decide +kernel
theorem dX3_beside_63 : decode cX3_beside 63 = .ok (.iload_n 3, 1) := by decide +kernel
theorem dX3_beside_64 : decode cX3_beside 64 = .ok (.iconst 5, 1) := by decide +kernel
theorem dX3_beside_65 : decode cX3_beside 65 = .ok (.if_icmp .ge 10, 3) := by decide +kernel
theorem dX3_beside_68 : decode cX3_beside 68 = .ok (.iload_n 0, 1) := by decide +kernel
theorem dX3_beside_69 : decode cX3_beside 69 = .ok (.bipush 8, 2) := by decide +kernel
theorem dX3_beside_71 : decode cX3_beside 71 = .ok (.iadd, 1) := by decide +kernel
theorem dX3_beside_72 : decode cX3_beside 72 = .ok (.goto 4, 3) := by decide +kernel
theorem dX3_beside_75 : decode cX3_beside 75 = .ok (.iconst (-1), 1) := by decide +kernel
theorem dX3_beside_76 : decode cX3_beside 76 = .ok (.ireturn, 1) := by decide +kernel
theorem dX3_beside_77 : decode cX3_beside 77 = .ok (.iload_n 2, 1) := by decide +kernel
theorem dX3_beside_78 : decode cX3_beside 78 = .ok (.ifCond .le 9, 3) := by decide +kernel
theorem dX3_beside_81 : decode cX3_beside 81 = .ok (.iload_n 0, 1) := by decide +kernel
theorem dX3_beside_82 : decode cX3_beside 82 = .ok (.iconst 1, 1) := by decide +kernel
theorem dX3_beside_83 : decode cX3_beside 83 = .ok (.isub, 1) := by decide +kernel
theorem dX3_beside_84 : decode cX3_beside 84 = .ok (.goto 4, 3) := by decide +kernel
theorem dX3_beside_87 : decode cX3_beside 87 = .ok (.iconst (-1), 1) := by decide +kernel
theorem dX3_beside_88 : decode cX3_beside 88 = .ok (.ireturn, 1) := by decide +kernel
theorem dX3_isFree_0 : decode cX3_isFree 0 = .ok (.iconst 0, 1) := by decide +kernel
theorem dX3_isFree_1 : decode cX3_isFree 1 = .ok (.istore_n 2, 1) := by decide +kernel
theorem dX3_isFree_2 : decode cX3_isFree 2 = .ok (.iload_n 2, 1) := by decide +kernel
theorem dX3_isFree_3 : decode cX3_isFree 3 = .ok (.aload_n 0, 1) := by decide +kernel
theorem dX3_isFree_4 : decode cX3_isFree 4 = .ok (.getfield 15, 3) := by decide +kernel
theorem dX3_isFree_7 : decode cX3_isFree 7 = .ok (.arraylength, 1) := by decide +kernel
theorem dX3_isFree_8 : decode cX3_isFree 8 = .ok (.if_icmp .ge 21, 3) := by decide +kernel
theorem dX3_isFree_11 : decode cX3_isFree 11 = .ok (.aload_n 0, 1) := by decide +kernel
theorem dX3_isFree_12 : decode cX3_isFree 12 = .ok (.getfield 15, 3) := by decide +kernel
theorem dX3_isFree_15 : decode cX3_isFree 15 = .ok (.iload_n 2, 1) := by decide +kernel
theorem dX3_isFree_16 : decode cX3_isFree 16 = .ok (.iaload, 1) := by decide +kernel
theorem dX3_isFree_17 : decode cX3_isFree 17 = .ok (.iload_n 1, 1) := by decide +kernel
theorem dX3_isFree_18 : decode cX3_isFree 18 = .ok (.if_icmp .ne 5, 3) := by decide +kernel
theorem dX3_isFree_21 : decode cX3_isFree 21 = .ok (.iconst 0, 1) := by decide +kernel
theorem dX3_isFree_22 : decode cX3_isFree 22 = .ok (.ireturn, 1) := by decide +kernel
theorem dX3_isFree_23 : decode cX3_isFree 23 = .ok (.iinc 2 1, 3) := by decide +kernel
theorem dX3_isFree_26 : decode cX3_isFree 26 = .ok (.goto (-24), 3) := by decide +kernel
theorem dX3_isFree_29 : decode cX3_isFree 29 = .ok (.iconst 1, 1) := by decide +kernel
theorem dX3_isFree_30 : decode cX3_isFree 30 = .ok (.ireturn, 1) := by decide +kernel
theorem dX3_depthOf_0 : decode cX3_depthOf 0 = .ok (.iload_n 1, 1) := by decide +kernel
theorem dX3_depthOf_1 : decode cX3_depthOf 1 = .ok (.ifCond .lt 21, 3) := by decide +kernel
theorem dX3_depthOf_4 : decode cX3_depthOf 4 = .ok (.iload_n 1, 1) := by decide +kernel
theorem dX3_depthOf_5 : decode cX3_depthOf 5 = .ok (.aload_n 0, 1) := by decide +kernel
theorem dX3_depthOf_6 : decode cX3_depthOf 6 = .ok (.getfield 11, 3) := by decide +kernel
theorem dX3_depthOf_9 : decode cX3_depthOf 9 = .ok (.arraylength, 1) := by decide +kernel
theorem dX3_depthOf_10 : decode cX3_depthOf 10 = .ok (.if_icmp .ge 12, 3) := by decide +kernel
theorem dX3_depthOf_13 : decode cX3_depthOf 13 = .ok (.aload_n 0, 1) := by decide +kernel
theorem dX3_depthOf_14 : decode cX3_depthOf 14 = .ok (.getfield 11, 3) := by decide +kernel
theorem dX3_depthOf_17 : decode cX3_depthOf 17 = .ok (.iload_n 1, 1) := by decide +kernel
theorem dX3_depthOf_18 : decode cX3_depthOf 18 = .ok (.iaload, 1) := by decide +kernel
theorem dX3_depthOf_19 : decode cX3_depthOf 19 = .ok (.goto 4, 3) := by decide +kernel
theorem dX3_depthOf_22 : decode cX3_depthOf 22 = .ok (.iconst 0, 1) := by decide +kernel
theorem dX3_depthOf_23 : decode cX3_depthOf 23 = .ok (.ireturn, 1) := by decide +kernel
theorem dX3_cellOf_0 : decode cX3_cellOf 0 = .ok (.iload_n 1, 1) := by decide +kernel
theorem dX3_cellOf_1 : decode cX3_cellOf 1 = .ok (.ifCond .lt 21, 3) := by decide +kernel
theorem dX3_cellOf_4 : decode cX3_cellOf 4 = .ok (.iload_n 1, 1) := by decide +kernel
theorem dX3_cellOf_5 : decode cX3_cellOf 5 = .ok (.aload_n 0, 1) := by decide +kernel
theorem dX3_cellOf_6 : decode cX3_cellOf 6 = .ok (.getfield 15, 3) := by decide +kernel
theorem dX3_cellOf_9 : decode cX3_cellOf 9 = .ok (.arraylength, 1) := by decide +kernel
theorem dX3_cellOf_10 : decode cX3_cellOf 10 = .ok (.if_icmp .ge 12, 3) := by decide +kernel
theorem dX3_cellOf_13 : decode cX3_cellOf 13 = .ok (.aload_n 0, 1) := by decide +kernel
theorem dX3_cellOf_14 : decode cX3_cellOf 14 = .ok (.getfield 15, 3) := by decide +kernel
theorem dX3_cellOf_17 : decode cX3_cellOf 17 = .ok (.iload_n 1, 1) := by decide +kernel
theorem dX3_cellOf_18 : decode cX3_cellOf 18 = .ok (.iaload, 1) := by decide +kernel
theorem dX3_cellOf_19 : decode cX3_cellOf 19 = .ok (.goto 4, 3) := by decide +kernel
theorem dX3_cellOf_22 : decode cX3_cellOf 22 = .ok (.iconst (-1), 1) := by decide +kernel
theorem dX3_cellOf_23 : decode cX3_cellOf 23 = .ok (.ireturn, 1) := by decide +kernel
theorem dX4_init_0 : decode cX4_init 0 = .ok (.aload_n 0, 1) := by decide +kernel
theorem dX4_init_1 : decode cX4_init 1 = .ok (.invokespecial 1, 3) := by decide +kernel
theorem dX4_init_4 : decode cX4_init 4 = .ok (.aload_n 0, 1) := by decide +kernel
theorem dX4_init_5 : decode cX4_init 5 = .ok (.iload_n 1, 1) := by decide +kernel
theorem dX4_init_6 : decode cX4_init 6 = .ok (.putfield 7, 3) := by decide +kernel
theorem dX4_init_9 : decode cX4_init 9 = .ok (.aload_n 0, 1) := by decide +kernel
theorem dX4_init_10 : decode cX4_init 10 = .ok (.iload_n 2, 1) := by decide +kernel
theorem dX4_init_11 : decode cX4_init 11 = .ok (.putfield 13, 3) := by decide +kernel
theorem dX4_init_14 : decode cX4_init 14 = .ok (.aload_n 0, 1) := by decide +kernel
theorem dX4_init_15 : decode cX4_init 15 = .ok (.iload_n 3, 1) := by decide +kernel
theorem dX4_init_16 : decode cX4_init 16 = .ok (.putfield 16, 3) := by decide +kernel
theorem dX4_init_19 : decode cX4_init 19 = .ok (.return_, 1) := by decide +kernel
theorem dX4_mirrors_0 : decode cX4_mirrors 0 = .ok (.aload_n 0, 1) := by decide +kernel
theorem dX4_mirrors_1 : decode cX4_mirrors 1 = .ok (.getfield 13, 3) := by decide +kernel
theorem dX4_mirrors_4 : decode cX4_mirrors 4 = .ok (.ifCond .le 30, 3) := by decide +kernel
theorem dX4_mirrors_7 : decode cX4_mirrors 7 = .ok (.aload_n 1, 1) := by decide +kernel
theorem dX4_mirrors_8 : decode cX4_mirrors 8 = .ok (.getfield 13, 3) := by decide +kernel
theorem dX4_mirrors_11 : decode cX4_mirrors 11 = .ok (.aload_n 0, 1) := by decide +kernel
theorem dX4_mirrors_12 : decode cX4_mirrors 12 = .ok (.getfield 13, 3) := by decide +kernel
theorem dX4_mirrors_15 : decode cX4_mirrors 15 = .ok (.ineg, 1) := by decide +kernel
theorem dX4_mirrors_16 : decode cX4_mirrors 16 = .ok (.if_icmp .ne 18, 3) := by decide +kernel
theorem dX4_mirrors_19 : decode cX4_mirrors 19 = .ok (.aload_n 1, 1) := by decide +kernel
theorem dX4_mirrors_20 : decode cX4_mirrors 20 = .ok (.getfield 7, 3) := by decide +kernel
