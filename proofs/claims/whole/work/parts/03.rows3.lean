theorem dX8_enter_137 : decode cX8_enter 137 = .ok (.aload_n 0, 1) := by decide +kernel
theorem dX8_enter_138 : decode cX8_enter 138 = .ok (.getfield 31, 3) := by decide +kernel
theorem dX8_enter_141 : decode cX8_enter 141 = .ok (.aload_n 0, 1) := by decide +kernel
theorem dX8_enter_142 : decode cX8_enter 142 = .ok (.getfield 115, 3) := by decide +kernel
theorem dX8_enter_145 : decode cX8_enter 145 = .ok (.iload_n 2, 1) := by decide +kernel
theorem dX8_enter_146 : decode cX8_enter 146 = .ok (.iastore, 1) := by decide +kernel
theorem dX8_enter_147 : decode cX8_enter 147 = .ok (.aload_n 0, 1) := by decide +kernel
theorem dX8_enter_148 : decode cX8_enter 148 = .ok (.getfield 28, 3) := by decide +kernel
theorem dX8_enter_151 : decode cX8_enter 151 = .ok (.iload_n 2, 1) := by decide +kernel
theorem dX8_enter_152 : decode cX8_enter 152 = .ok (.aload_n 0, 1) := by decide +kernel
theorem dX8_enter_153 : decode cX8_enter 153 = .ok (.getfield 115, 3) := by decide +kernel
theorem dX8_enter_156 : decode cX8_enter 156 = .ok (.iastore, 1) := by decide +kernel
theorem dX8_enter_157 : decode cX8_enter 157 = .ok (.aload_n 0, 1) := by decide +kernel
theorem dX8_enter_158 : decode cX8_enter 158 = .ok (.dup, 1) := by decide +kernel
theorem dX8_enter_159 : decode cX8_enter 159 = .ok (.getfield 115, 3) := by decide +kernel
theorem dX8_enter_162 : decode cX8_enter 162 = .ok (.iconst 1, 1) := by decide +kernel
theorem dX8_enter_163 : decode cX8_enter 163 = .ok (.iadd, 1) := by decide +kernel
theorem dX8_enter_164 : decode cX8_enter 164 = .ok (.putfield 115, 3) := by decide +kernel
theorem dX8_enter_167 : decode cX8_enter 167 = .ok (.aload_n 0, 1) := by decide +kernel
theorem dX8_enter_168 : decode cX8_enter 168 = .ok (.getfield 115, 3) := by decide +kernel
theorem dX8_enter_171 : decode cX8_enter 171 = .ok (.iconst 1, 1) := by decide +kernel
theorem dX8_enter_172 : decode cX8_enter 172 = .ok (.isub, 1) := by decide +kernel
theorem dX8_enter_173 : decode cX8_enter 173 = .ok (.ireturn, 1) := by decide +kernel
theorem dX8_go_0 : decode cX8_go 0 = .ok (.aload_n 0, 1) := by decide +kernel
theorem dX8_go_1 : decode cX8_go 1 = .ok (.getfield 28, 3) := by decide +kernel
theorem dX8_go_4 : decode cX8_go 4 = .ok (.aload_n 0, 1) := by decide +kernel
theorem dX8_go_5 : decode cX8_go 5 = .ok (.getfield 31, 3) := by decide +kernel
theorem dX8_go_8 : decode cX8_go 8 = .ok (.iload_n 1, 1) := by decide +kernel
theorem dX8_go_9 : decode cX8_go 9 = .ok (.iaload, 1) := by decide +kernel
theorem dX8_go_10 : decode cX8_go 10 = .ok (.iconst (-1), 1) := by decide +kernel
theorem dX8_go_11 : decode cX8_go 11 = .ok (.iastore, 1) := by decide +kernel
theorem dX8_go_12 : decode cX8_go 12 = .ok (.aload_n 0, 1) := by decide +kernel
theorem dX8_go_13 : decode cX8_go 13 = .ok (.getfield 31, 3) := by decide +kernel
theorem dX8_go_16 : decode cX8_go 16 = .ok (.iload_n 1, 1) := by decide +kernel
theorem dX8_go_17 : decode cX8_go 17 = .ok (.iload_n 2, 1) := by decide +kernel
theorem dX8_go_18 : decode cX8_go 18 = .ok (.iastore, 1) := by decide +kernel
theorem dX8_go_19 : decode cX8_go 19 = .ok (.iload_n 2, 1) := by decide +kernel
theorem dX8_go_20 : decode cX8_go 20 = .ok (.iconst (-1), 1) := by decide +kernel
theorem dX8_go_21 : decode cX8_go 21 = .ok (.if_icmp .eq 10, 3) := by decide +kernel
theorem dX8_go_24 : decode cX8_go 24 = .ok (.aload_n 0, 1) := by decide +kernel
theorem dX8_go_25 : decode cX8_go 25 = .ok (.getfield 28, 3) := by decide +kernel
theorem dX8_go_28 : decode cX8_go 28 = .ok (.iload_n 2, 1) := by decide +kernel
theorem dX8_go_29 : decode cX8_go 29 = .ok (.iload_n 1, 1) := by decide +kernel
theorem dX8_go_30 : decode cX8_go 30 = .ok (.iastore, 1) := by decide +kernel
theorem dX8_go_31 : decode cX8_go 31 = .ok (.return_, 1) := by decide +kernel
theorem dX8_beside_0 : decode cX8_beside 0 = .ok (.iload_n 1, 1) := by decide +kernel
theorem dX8_beside_1 : decode cX8_beside 1 = .ok (.tableswitch 74 0 2 #[27, 42, 59], 27) := by decide +kernel
theorem dX8_beside_28 : decode cX8_beside 28 = .ok (.iload_n 0, 1) := by decide +kernel
theorem dX8_beside_29 : decode cX8_beside 29 = .ok (.bipush 8, 2) := by decide +kernel
theorem dX8_beside_31 : decode cX8_beside 31 = .ok (.if_icmp .lt 10, 3) := by decide +kernel
theorem dX8_beside_34 : decode cX8_beside 34 = .ok (.iload_n 0, 1) := by decide +kernel
theorem dX8_beside_35 : decode cX8_beside 35 = .ok (.bipush 8, 2) := by decide +kernel
theorem dX8_beside_37 : decode cX8_beside 37 = .ok (.isub, 1) := by decide +kernel
theorem dX8_beside_38 : decode cX8_beside 38 = .ok (.goto 4, 3) := by decide +kernel
theorem dX8_beside_41 : decode cX8_beside 41 = .ok (.iconst (-1), 1) := by decide +kernel
theorem dX8_beside_42 : decode cX8_beside 42 = .ok (.ireturn, 1) := by decide +kernel
theorem dX8_beside_43 : decode cX8_beside 43 = .ok (.iload_n 0, 1) := by decide +kernel
theorem dX8_beside_44 : decode cX8_beside 44 = .ok (.bipush 8, 2) := by decide +kernel
theorem dX8_beside_46 : decode cX8_beside 46 = .ok (.irem, 1) := by decide +kernel
theorem dX8_beside_47 : decode cX8_beside 47 = .ok (.bipush 7, 2) := by decide +kernel
theorem dX8_beside_49 : decode cX8_beside 49 = .ok (.if_icmp .ge 9, 3) := by decide +kernel
theorem dX8_beside_52 : decode cX8_beside 52 = .ok (.iload_n 0, 1) := by decide +kernel
theorem dX8_beside_53 : decode cX8_beside 53 = .ok (.iconst 1, 1) := by decide +kernel
theorem dX8_beside_54 : decode cX8_beside 54 = .ok (.iadd, 1) := by decide +kernel
theorem dX8_beside_55 : decode cX8_beside 55 = .ok (.goto 4, 3) := by decide +kernel
theorem dX8_beside_58 : decode cX8_beside 58 = .ok (.iconst (-1), 1) := by decide +kernel
theorem dX8_beside_59 : decode cX8_beside 59 = .ok (.ireturn, 1) := by decide +kernel
theorem dX8_beside_60 : decode cX8_beside 60 = .ok (.iload_n 0, 1) := by decide +kernel
theorem dX8_beside_61 : decode cX8_beside 61 = .ok (.bipush 40, 2) := by decide +kernel
theorem dX8_beside_63 : decode cX8_beside 63 = .ok (.if_icmp .ge 10, 3) := by decide +kernel
theorem dX8_beside_66 : decode cX8_beside 66 = .ok (.iload_n 0, 1) := by decide +kernel
theorem dX8_beside_67 : decode cX8_beside 67 = .ok (.bipush 8, 2) := by decide +kernel
theorem dX8_beside_69 : decode cX8_beside 69 = .ok (.iadd, 1) := by decide +kernel
theorem dX8_beside_70 : decode cX8_beside 70 = .ok (.goto 4, 3) := by decide +kernel
theorem dX8_beside_73 : decode cX8_beside 73 = .ok (.iconst (-1), 1) := by decide +kernel
theorem dX8_beside_74 : decode cX8_beside 74 = .ok (.ireturn, 1) := by decide +kernel
theorem dX8_beside_75 : decode cX8_beside 75 = .ok (.iload_n 0, 1) := by decide +kernel
theorem dX8_beside_76 : decode cX8_beside 76 = .ok (.bipush 8, 2) := by decide +kernel
theorem dX8_beside_78 : decode cX8_beside 78 = .ok (.irem, 1) := by decide +kernel
theorem dX8_beside_79 : decode cX8_beside 79 = .ok (.ifCond .le 9, 3) := by decide +kernel
theorem dX8_beside_82 : decode cX8_beside 82 = .ok (.iload_n 0, 1) := by decide +kernel
theorem dX8_beside_83 : decode cX8_beside 83 = .ok (.iconst 1, 1) := by decide +kernel
theorem dX8_beside_84 : decode cX8_beside 84 = .ok (.isub, 1) := by decide +kernel
theorem dX8_beside_85 : decode cX8_beside 85 = .ok (.goto 4, 3) := by decide +kernel
theorem dX8_beside_88 : decode cX8_beside 88 = .ok (.iconst (-1), 1) := by decide +kernel
theorem dX8_beside_89 : decode cX8_beside 89 = .ok (.ireturn, 1) := by decide +kernel
set_option maxRecDepth 20000 in
theorem ggX8_leaves_X8_size : GoodIn wsX8_leaves wsX8_size := goodIn_r _ [8] (by decide +kernel) (by decide +kernel)
set_option maxRecDepth 20000 in
theorem gX8_leaves_X8_size : GoodIn wsX8_leaves (va_wsS RX8 100 yX8_size wsX8_size) := goodIn_app (goodIn_of _ (by decide +kernel)) ggX8_leaves_X8_size
theorem dX8_leaves_0 : decode cX8_leaves 0 = .ok (.aload_n 0, 1) := by decide +kernel
theorem dX8_leaves_1 : decode cX8_leaves 1 = .ok (.getfield 31, 3) := by decide +kernel
theorem dX8_leaves_4 : decode cX8_leaves 4 = .ok (.iload_n 1, 1) := by decide +kernel
theorem dX8_leaves_5 : decode cX8_leaves 5 = .ok (.iaload, 1) := by decide +kernel
theorem dX8_leaves_6 : decode cX8_leaves 6 = .ok (.bipush 8, 2) := by decide +kernel
theorem dX8_leaves_8 : decode cX8_leaves 8 = .ok (.irem, 1) := by decide +kernel
theorem dX8_leaves_9 : decode cX8_leaves 9 = .ok (.istore_n 2, 1) := by decide +kernel
theorem dX8_leaves_10 : decode cX8_leaves 10 = .ok (.aload_n 0, 1) := by decide +kernel
theorem dX8_leaves_11 : decode cX8_leaves 11 = .ok (.getfield 109, 3) := by decide +kernel
theorem dX8_leaves_14 : decode cX8_leaves 14 = .ok (.ifCond .le 9, 3) := by decide +kernel
theorem dX8_leaves_17 : decode cX8_leaves 17 = .ok (.iload_n 2, 1) := by decide +kernel
theorem dX8_leaves_18 : decode cX8_leaves 18 = .ok (.bipush 7, 2) := by decide +kernel
theorem dX8_leaves_20 : decode cX8_leaves 20 = .ok (.if_icmp .eq 14, 3) := by decide +kernel
theorem dX8_leaves_23 : decode cX8_leaves 23 = .ok (.aload_n 0, 1) := by decide +kernel
theorem dX8_leaves_24 : decode cX8_leaves 24 = .ok (.getfield 109, 3) := by decide +kernel
theorem dX8_leaves_27 : decode cX8_leaves 27 = .ok (.ifCond .ge 11, 3) := by decide +kernel
theorem dX8_leaves_30 : decode cX8_leaves 30 = .ok (.iload_n 2, 1) := by decide +kernel
theorem dX8_leaves_31 : decode cX8_leaves 31 = .ok (.ifCond .ne 7, 3) := by decide +kernel
theorem dX8_leaves_34 : decode cX8_leaves 34 = .ok (.iconst 1, 1) := by decide +kernel
theorem dX8_leaves_35 : decode cX8_leaves 35 = .ok (.goto 4, 3) := by decide +kernel
theorem dX8_leaves_38 : decode cX8_leaves 38 = .ok (.iconst 0, 1) := by decide +kernel
theorem dX8_leaves_39 : decode cX8_leaves 39 = .ok (.istore_n 3, 1) := by decide +kernel
theorem dX8_leaves_40 : decode cX8_leaves 40 = .ok (.iload_n 3, 1) := by decide +kernel
theorem dX8_leaves_41 : decode cX8_leaves 41 = .ok (.ifCond .eq 33, 3) := by decide +kernel
theorem dX8_leaves_44 : decode cX8_leaves 44 = .ok (.aload_n 0, 1) := by decide +kernel
theorem dX8_leaves_45 : decode cX8_leaves 45 = .ok (.getfield 25, 3) := by decide +kernel
theorem dX8_leaves_48 : decode cX8_leaves 48 = .ok (.aload_n 0, 1) := by decide +kernel
theorem dX8_leaves_49 : decode cX8_leaves 49 = .ok (.getfield 31, 3) := by decide +kernel
theorem dX8_leaves_52 : decode cX8_leaves 52 = .ok (.iload_n 1, 1) := by decide +kernel
theorem dX8_leaves_53 : decode cX8_leaves 53 = .ok (.iaload, 1) := by decide +kernel
theorem dX8_leaves_54 : decode cX8_leaves 54 = .ok (.iaload, 1) := by decide +kernel
theorem dX8_leaves_55 : decode cX8_leaves 55 = .ok (.aload_n 0, 1) := by decide +kernel
theorem dX8_leaves_56 : decode cX8_leaves 56 = .ok (.getfield 109, 3) := by decide +kernel
theorem dX8_leaves_59 : decode cX8_leaves 59 = .ok (.invokestatic 100, 3) := by decide +kernel
theorem dX8_leaves_62 : decode cX8_leaves 62 = .ok (.aload_n 0, 1) := by decide +kernel
theorem dX8_leaves_63 : decode cX8_leaves 63 = .ok (.getfield 112, 3) := by decide +kernel
theorem dX8_leaves_66 : decode cX8_leaves 66 = .ok (.iadd, 1) := by decide +kernel
theorem dX8_leaves_67 : decode cX8_leaves 67 = .ok (.if_icmp .ge 7, 3) := by decide +kernel
theorem dX8_leaves_70 : decode cX8_leaves 70 = .ok (.iconst 1, 1) := by decide +kernel
theorem dX8_leaves_71 : decode cX8_leaves 71 = .ok (.goto 4, 3) := by decide +kernel
theorem dX8_leaves_74 : decode cX8_leaves 74 = .ok (.iconst 0, 1) := by decide +kernel
theorem dX8_leaves_75 : decode cX8_leaves 75 = .ok (.ireturn, 1) := by decide +kernel
set_option maxRecDepth 20000 in
theorem ggX8_goal_X8_energyAt : GoodIn wsX8_goal wsX8_energyAt := goodIn_r _ [9, 10, 3, 11, 1, 12, 13, 8, 14, 18, 19, 20, 21, 22, 23, 24, 25, 26, 27, 28, 29, 30, 31, 32, 33, 34, 35, 36, 37, 38, 39, 40, 41, 42, 43, 44, 45, 46, 47, 48, 49, 50, 51, 52, 53, 54, 55, 56] (by decide +kernel) (by decide +kernel)
set_option maxRecDepth 20000 in
theorem gX8_goal_X8_energyAt : GoodIn wsX8_goal (wsV RX8 118 RX8 yX8_energyAt wsX8_energyAt) := goodIn_app (goodIn_of _ (by decide +kernel)) ggX8_goal_X8_energyAt
set_option maxRecDepth 20000 in
theorem ggX8_goal_X8_beside : GoodIn wsX8_goal wsX8_beside := goodIn_r _ [17] (by decide +kernel) (by decide +kernel)
set_option maxRecDepth 20000 in
theorem gX8_goal_X8_beside : GoodIn wsX8_goal (va_wsS RX8 121 yX8_beside wsX8_beside) := goodIn_app (goodIn_of _ (by decide +kernel)) ggX8_goal_X8_beside
theorem dX8_goal_0 : decode cX8_goal 0 = .ok (.aload_n 0, 1) := by decide +kernel
theorem dX8_goal_1 : decode cX8_goal 1 = .ok (.getfield 31, 3) := by decide +kernel
theorem dX8_goal_4 : decode cX8_goal 4 = .ok (.iload_n 1, 1) := by decide +kernel
theorem dX8_goal_5 : decode cX8_goal 5 = .ok (.iaload, 1) := by decide +kernel
theorem dX8_goal_6 : decode cX8_goal 6 = .ok (.istore_n 2, 1) := by decide +kernel
theorem dX8_goal_7 : decode cX8_goal 7 = .ok (.aload_n 0, 1) := by decide +kernel
theorem dX8_goal_8 : decode cX8_goal 8 = .ok (.iload_n 1, 1) := by decide +kernel
theorem dX8_goal_9 : decode cX8_goal 9 = .ok (.iload_n 2, 1) := by decide +kernel
theorem dX8_goal_10 : decode cX8_goal 10 = .ok (.invokevirtual 118, 3) := by decide +kernel
theorem dX8_goal_13 : decode cX8_goal 13 = .ok (.istore_n 3, 1) := by decide +kernel
theorem dX8_goal_14 : decode cX8_goal 14 = .ok (.iconst (-1), 1) := by decide +kernel
theorem dX8_goal_15 : decode cX8_goal 15 = .ok (.istore 4, 2) := by decide +kernel
theorem dX8_goal_17 : decode cX8_goal 17 = .ok (.iconst 0, 1) := by decide +kernel
theorem dX8_goal_18 : decode cX8_goal 18 = .ok (.istore 5, 2) := by decide +kernel
theorem dX8_goal_20 : decode cX8_goal 20 = .ok (.iload 5, 2) := by decide +kernel
theorem dX8_goal_22 : decode cX8_goal 22 = .ok (.iconst 4, 1) := by decide +kernel
theorem dX8_goal_23 : decode cX8_goal 23 = .ok (.if_icmp .ge 78, 3) := by decide +kernel
theorem dX8_goal_26 : decode cX8_goal 26 = .ok (.iload_n 2, 1) := by decide +kernel
theorem dX8_goal_27 : decode cX8_goal 27 = .ok (.iload 5, 2) := by decide +kernel
theorem dX8_goal_29 : decode cX8_goal 29 = .ok (.invokestatic 121, 3) := by decide +kernel
theorem dX8_goal_32 : decode cX8_goal 32 = .ok (.istore 6, 2) := by decide +kernel
theorem dX8_goal_34 : decode cX8_goal 34 = .ok (.iload 6, 2) := by decide +kernel
theorem dX8_goal_36 : decode cX8_goal 36 = .ok (.iconst (-1), 1) := by decide +kernel
theorem dX8_goal_37 : decode cX8_goal 37 = .ok (.if_icmp .eq 18, 3) := by decide +kernel
theorem dX8_goal_40 : decode cX8_goal 40 = .ok (.aload_n 0, 1) := by decide +kernel
theorem dX8_goal_41 : decode cX8_goal 41 = .ok (.getfield 28, 3) := by decide +kernel
theorem dX8_goal_44 : decode cX8_goal 44 = .ok (.iload 6, 2) := by decide +kernel
theorem dX8_goal_46 : decode cX8_goal 46 = .ok (.iaload, 1) := by decide +kernel
theorem dX8_goal_47 : decode cX8_goal 47 = .ok (.iconst (-1), 1) := by decide +kernel
theorem dX8_goal_48 : decode cX8_goal 48 = .ok (.if_icmp .ne 7, 3) := by decide +kernel
theorem dX8_goal_51 : decode cX8_goal 51 = .ok (.iconst 1, 1) := by decide +kernel
theorem dX8_goal_52 : decode cX8_goal 52 = .ok (.goto 4, 3) := by decide +kernel
theorem dX8_goal_55 : decode cX8_goal 55 = .ok (.iconst 0, 1) := by decide +kernel
theorem dX8_goal_56 : decode cX8_goal 56 = .ok (.istore 7, 2) := by decide +kernel
theorem dX8_goal_58 : decode cX8_goal 58 = .ok (.iload 7, 2) := by decide +kernel
theorem dX8_goal_60 : decode cX8_goal 60 = .ok (.ifCond .eq 31, 3) := by decide +kernel
theorem dX8_goal_63 : decode cX8_goal 63 = .ok (.iload 4, 2) := by decide +kernel
theorem dX8_goal_65 : decode cX8_goal 65 = .ok (.iconst (-1), 1) := by decide +kernel
theorem dX8_goal_66 : decode cX8_goal 66 = .ok (.if_icmp .eq 20, 3) := by decide +kernel
theorem dX8_goal_69 : decode cX8_goal 69 = .ok (.aload_n 0, 1) := by decide +kernel
theorem dX8_goal_70 : decode cX8_goal 70 = .ok (.iload_n 1, 1) := by decide +kernel
theorem dX8_goal_71 : decode cX8_goal 71 = .ok (.iload 6, 2) := by decide +kernel
theorem dX8_goal_73 : decode cX8_goal 73 = .ok (.invokevirtual 118, 3) := by decide +kernel
theorem dX8_goal_76 : decode cX8_goal 76 = .ok (.aload_n 0, 1) := by decide +kernel
theorem dX8_goal_77 : decode cX8_goal 77 = .ok (.iload_n 1, 1) := by decide +kernel
theorem dX8_goal_78 : decode cX8_goal 78 = .ok (.iload 4, 2) := by decide +kernel
theorem dX8_goal_80 : decode cX8_goal 80 = .ok (.invokevirtual 118, 3) := by decide +kernel
theorem dX8_goal_83 : decode cX8_goal 83 = .ok (.if_icmp .ge 8, 3) := by decide +kernel
theorem dX8_goal_86 : decode cX8_goal 86 = .ok (.iload 6, 2) := by decide +kernel
theorem dX8_goal_88 : decode cX8_goal 88 = .ok (.goto 5, 3) := by decide +kernel
theorem dX8_goal_91 : decode cX8_goal 91 = .ok (.iload 4, 2) := by decide +kernel
theorem dX8_goal_93 : decode cX8_goal 93 = .ok (.istore 4, 2) := by decide +kernel
theorem dX8_goal_95 : decode cX8_goal 95 = .ok (.iinc 5 1, 3) := by decide +kernel
theorem dX8_goal_98 : decode cX8_goal 98 = .ok (.goto (-78), 3) := by decide +kernel
theorem dX8_goal_101 : decode cX8_goal 101 = .ok (.iload 4, 2) := by decide +kernel
theorem dX8_goal_103 : decode cX8_goal 103 = .ok (.iconst (-1), 1) := by decide +kernel
theorem dX8_goal_104 : decode cX8_goal 104 = .ok (.if_icmp .eq 17, 3) := by decide +kernel
theorem dX8_goal_107 : decode cX8_goal 107 = .ok (.aload_n 0, 1) := by decide +kernel
theorem dX8_goal_108 : decode cX8_goal 108 = .ok (.iload_n 1, 1) := by decide +kernel
theorem dX8_goal_109 : decode cX8_goal 109 = .ok (.iload 4, 2) := by decide +kernel
theorem dX8_goal_111 : decode cX8_goal 111 = .ok (.invokevirtual 118, 3) := by decide +kernel
theorem dX8_goal_114 : decode cX8_goal 114 = .ok (.iload_n 3, 1) := by decide +kernel
theorem dX8_goal_115 : decode cX8_goal 115 = .ok (.if_icmp .ge 6, 3) := by decide +kernel
theorem dX8_goal_118 : decode cX8_goal 118 = .ok (.iload 4, 2) := by decide +kernel
theorem dX8_goal_120 : decode cX8_goal 120 = .ok (.ireturn, 1) := by decide +kernel
theorem dX8_goal_121 : decode cX8_goal 121 = .ok (.aload_n 0, 1) := by decide +kernel
theorem dX8_goal_122 : decode cX8_goal 122 = .ok (.getfield 109, 3) := by decide +kernel
theorem dX8_goal_125 : decode cX8_goal 125 = .ok (.ifCond .le 11, 3) := by decide +kernel
theorem dX8_goal_128 : decode cX8_goal 128 = .ok (.iload_n 2, 1) := by decide +kernel
theorem dX8_goal_129 : decode cX8_goal 129 = .ok (.iconst 1, 1) := by decide +kernel
theorem dX8_goal_130 : decode cX8_goal 130 = .ok (.invokestatic 121, 3) := by decide +kernel
theorem dX8_goal_133 : decode cX8_goal 133 = .ok (.goto 19, 3) := by decide +kernel
theorem dX8_goal_136 : decode cX8_goal 136 = .ok (.aload_n 0, 1) := by decide +kernel
theorem dX8_goal_137 : decode cX8_goal 137 = .ok (.getfield 109, 3) := by decide +kernel
theorem dX8_goal_140 : decode cX8_goal 140 = .ok (.ifCond .ge 11, 3) := by decide +kernel
theorem dX8_goal_143 : decode cX8_goal 143 = .ok (.iload_n 2, 1) := by decide +kernel
theorem dX8_goal_144 : decode cX8_goal 144 = .ok (.iconst 3, 1) := by decide +kernel
theorem dX8_goal_145 : decode cX8_goal 145 = .ok (.invokestatic 121, 3) := by decide +kernel
theorem dX8_goal_148 : decode cX8_goal 148 = .ok (.goto 4, 3) := by decide +kernel
theorem dX8_goal_151 : decode cX8_goal 151 = .ok (.iconst (-1), 1) := by decide +kernel
theorem dX8_goal_152 : decode cX8_goal 152 = .ok (.istore 5, 2) := by decide +kernel
theorem dX8_goal_154 : decode cX8_goal 154 = .ok (.iload 5, 2) := by decide +kernel
theorem dX8_goal_156 : decode cX8_goal 156 = .ok (.iconst (-1), 1) := by decide +kernel
theorem dX8_goal_157 : decode cX8_goal 157 = .ok (.if_icmp .eq 34, 3) := by decide +kernel
theorem dX8_goal_160 : decode cX8_goal 160 = .ok (.aload_n 0, 1) := by decide +kernel
theorem dX8_goal_161 : decode cX8_goal 161 = .ok (.getfield 28, 3) := by decide +kernel
theorem dX8_goal_164 : decode cX8_goal 164 = .ok (.iload 5, 2) := by decide +kernel
theorem dX8_goal_166 : decode cX8_goal 166 = .ok (.iaload, 1) := by decide +kernel
theorem dX8_goal_167 : decode cX8_goal 167 = .ok (.iconst (-1), 1) := by decide +kernel
theorem dX8_goal_168 : decode cX8_goal 168 = .ok (.if_icmp .ne 23, 3) := by decide +kernel
theorem dX8_goal_171 : decode cX8_goal 171 = .ok (.aload_n 0, 1) := by decide +kernel
theorem dX8_goal_172 : decode cX8_goal 172 = .ok (.iload_n 1, 1) := by decide +kernel
theorem dX8_goal_173 : decode cX8_goal 173 = .ok (.iload 5, 2) := by decide +kernel
theorem dX8_goal_175 : decode cX8_goal 175 = .ok (.invokevirtual 118, 3) := by decide +kernel
theorem dX8_goal_178 : decode cX8_goal 178 = .ok (.iload_n 3, 1) := by decide +kernel
theorem dX8_goal_179 : decode cX8_goal 179 = .ok (.isub, 1) := by decide +kernel
theorem dX8_goal_180 : decode cX8_goal 180 = .ok (.aload_n 0, 1) := by decide +kernel
theorem dX8_goal_181 : decode cX8_goal 181 = .ok (.getfield 112, 3) := by decide +kernel
theorem dX8_goal_184 : decode cX8_goal 184 = .ok (.if_icmp .gt 7, 3) := by decide +kernel
theorem dX8_goal_187 : decode cX8_goal 187 = .ok (.iconst 1, 1) := by decide +kernel
theorem dX8_goal_188 : decode cX8_goal 188 = .ok (.goto 4, 3) := by decide +kernel
theorem dX8_goal_191 : decode cX8_goal 191 = .ok (.iconst 0, 1) := by decide +kernel
theorem dX8_goal_192 : decode cX8_goal 192 = .ok (.istore 6, 2) := by decide +kernel
theorem dX8_goal_194 : decode cX8_goal 194 = .ok (.iload 6, 2) := by decide +kernel
theorem dX8_goal_196 : decode cX8_goal 196 = .ok (.ifCond .eq 8, 3) := by decide +kernel
theorem dX8_goal_199 : decode cX8_goal 199 = .ok (.iload 5, 2) := by decide +kernel
theorem dX8_goal_201 : decode cX8_goal 201 = .ok (.goto 4, 3) := by decide +kernel
theorem dX8_goal_204 : decode cX8_goal 204 = .ok (.iconst (-1), 1) := by decide +kernel
theorem dX8_goal_205 : decode cX8_goal 205 = .ok (.ireturn, 1) := by decide +kernel
set_option maxRecDepth 20000 in
theorem ggX8_stepOnce_X8_leaves : GoodIn wsX8_stepOnce wsX8_leaves := goodIn_r _ [7, 2, 8, 9, 10, 11, 12, 6, 13, 30, 31, 32, 33, 34, 35, 36, 37, 38, 39, 40, 41, 42, 43, 44, 45, 46, 47, 48, 49, 50, 51, 52, 53, 54, 55, 56, 57, 58, 59, 60, 61, 62, 63, 64, 65, 66, 67, 68] (by decide +kernel) (by decide +kernel)
set_option maxRecDepth 20000 in
theorem gX8_stepOnce_X8_leaves : GoodIn wsX8_stepOnce (wsV RX8 124 RX8 yX8_leaves wsX8_leaves) := goodIn_app (goodIn_of _ (by decide +kernel)) ggX8_stepOnce_X8_leaves
set_option maxRecDepth 20000 in
theorem ggX8_stepOnce_X8_go : GoodIn wsX8_stepOnce wsX8_go := goodIn_r _ [17, 18, 2, 30, 31, 32, 33, 34, 35, 36, 37, 38, 39, 40, 41, 42, 43, 44, 45, 46, 47, 48, 49, 50, 51, 52, 53, 54, 55, 56, 57, 58, 59, 60, 61, 62, 63, 64, 65, 66, 67, 68] (by decide +kernel) (by decide +kernel)
set_option maxRecDepth 20000 in
theorem gX8_stepOnce_X8_go : GoodIn wsX8_stepOnce (wsV RX8 128 RX8 yX8_go wsX8_go) := goodIn_app (goodIn_of _ (by decide +kernel)) ggX8_stepOnce_X8_go
set_option maxRecDepth 20000 in
theorem ggX8_stepOnce_X8_goal : GoodIn wsX8_stepOnce wsX8_goal := goodIn_r _ [22, 2, 18, 8, 10, 23, 24, 25, 6, 26, 9, 1, 11, 12, 13, 27, 28, 29, 30, 31, 32, 33, 34, 35, 36, 37, 38, 39, 40, 41, 42, 43, 44, 45, 46, 47, 48, 49, 50, 51, 52, 53, 54, 55, 56, 57, 58, 59, 60, 61, 62, 63, 64, 65, 66, 67, 68] (by decide +kernel) (by decide +kernel)
set_option maxRecDepth 20000 in
theorem gX8_stepOnce_X8_goal : GoodIn wsX8_stepOnce (wsV RX8 132 RX8 yX8_goal wsX8_goal) := goodIn_app (goodIn_of _ (by decide +kernel)) ggX8_stepOnce_X8_goal
theorem dX8_stepOnce_0 : decode cX8_stepOnce 0 = .ok (.iconst 0, 1) := by decide +kernel
theorem dX8_stepOnce_1 : decode cX8_stepOnce 1 = .ok (.istore_n 1, 1) := by decide +kernel
theorem dX8_stepOnce_2 : decode cX8_stepOnce 2 = .ok (.iconst 0, 1) := by decide +kernel
theorem dX8_stepOnce_3 : decode cX8_stepOnce 3 = .ok (.istore_n 2, 1) := by decide +kernel
theorem dX8_stepOnce_4 : decode cX8_stepOnce 4 = .ok (.iload_n 2, 1) := by decide +kernel
theorem dX8_stepOnce_5 : decode cX8_stepOnce 5 = .ok (.aload_n 0, 1) := by decide +kernel
theorem dX8_stepOnce_6 : decode cX8_stepOnce 6 = .ok (.getfield 115, 3) := by decide +kernel
theorem dX8_stepOnce_9 : decode cX8_stepOnce 9 = .ok (.if_icmp .ge 59, 3) := by decide +kernel
theorem dX8_stepOnce_12 : decode cX8_stepOnce 12 = .ok (.aload_n 0, 1) := by decide +kernel
theorem dX8_stepOnce_13 : decode cX8_stepOnce 13 = .ok (.getfield 31, 3) := by decide +kernel
theorem dX8_stepOnce_16 : decode cX8_stepOnce 16 = .ok (.iload_n 2, 1) := by decide +kernel
theorem dX8_stepOnce_17 : decode cX8_stepOnce 17 = .ok (.iaload, 1) := by decide +kernel
theorem dX8_stepOnce_18 : decode cX8_stepOnce 18 = .ok (.iconst (-1), 1) := by decide +kernel
theorem dX8_stepOnce_19 : decode cX8_stepOnce 19 = .ok (.if_icmp .eq 43, 3) := by decide +kernel
theorem dX8_stepOnce_22 : decode cX8_stepOnce 22 = .ok (.aload_n 0, 1) := by decide +kernel
theorem dX8_stepOnce_23 : decode cX8_stepOnce 23 = .ok (.iload_n 2, 1) := by decide +kernel
theorem dX8_stepOnce_24 : decode cX8_stepOnce 24 = .ok (.invokevirtual 124, 3) := by decide +kernel
theorem dX8_stepOnce_27 : decode cX8_stepOnce 27 = .ok (.ifCond .eq 15, 3) := by decide +kernel
theorem dX8_stepOnce_30 : decode cX8_stepOnce 30 = .ok (.aload_n 0, 1) := by decide +kernel
theorem dX8_stepOnce_31 : decode cX8_stepOnce 31 = .ok (.iload_n 2, 1) := by decide +kernel
theorem dX8_stepOnce_32 : decode cX8_stepOnce 32 = .ok (.iconst (-1), 1) := by decide +kernel
theorem dX8_stepOnce_33 : decode cX8_stepOnce 33 = .ok (.invokevirtual 128, 3) := by decide +kernel
theorem dX8_stepOnce_36 : decode cX8_stepOnce 36 = .ok (.iinc 1 1, 3) := by decide +kernel
theorem dX8_stepOnce_39 : decode cX8_stepOnce 39 = .ok (.goto 23, 3) := by decide +kernel
theorem dX8_stepOnce_42 : decode cX8_stepOnce 42 = .ok (.aload_n 0, 1) := by decide +kernel
theorem dX8_stepOnce_43 : decode cX8_stepOnce 43 = .ok (.iload_n 2, 1) := by decide +kernel
theorem dX8_stepOnce_44 : decode cX8_stepOnce 44 = .ok (.invokevirtual 132, 3) := by decide +kernel
theorem dX8_stepOnce_47 : decode cX8_stepOnce 47 = .ok (.istore_n 3, 1) := by decide +kernel
theorem dX8_stepOnce_48 : decode cX8_stepOnce 48 = .ok (.iload_n 3, 1) := by decide +kernel
theorem dX8_stepOnce_49 : decode cX8_stepOnce 49 = .ok (.iconst (-1), 1) := by decide +kernel
theorem dX8_stepOnce_50 : decode cX8_stepOnce 50 = .ok (.if_icmp .eq 12, 3) := by decide +kernel
theorem dX8_stepOnce_53 : decode cX8_stepOnce 53 = .ok (.aload_n 0, 1) := by decide +kernel
theorem dX8_stepOnce_54 : decode cX8_stepOnce 54 = .ok (.iload_n 2, 1) := by decide +kernel
theorem dX8_stepOnce_55 : decode cX8_stepOnce 55 = .ok (.iload_n 3, 1) := by decide +kernel
theorem dX8_stepOnce_56 : decode cX8_stepOnce 56 = .ok (.invokevirtual 128, 3) := by decide +kernel
theorem dX8_stepOnce_59 : decode cX8_stepOnce 59 = .ok (.iinc 1 1, 3) := by decide +kernel
theorem dX8_stepOnce_62 : decode cX8_stepOnce 62 = .ok (.iinc 2 1, 3) := by decide +kernel
theorem dX8_stepOnce_65 : decode cX8_stepOnce 65 = .ok (.goto (-61), 3) := by decide +kernel
theorem dX8_stepOnce_68 : decode cX8_stepOnce 68 = .ok (.iload_n 1, 1) := by decide +kernel
theorem dX8_stepOnce_69 : decode cX8_stepOnce 69 = .ok (.ireturn, 1) := by decide +kernel
set_option maxRecDepth 20000 in
theorem ggX8_step_X8_stepOnce : GoodIn wsX8_step wsX8_stepOnce := goodIn_r _ [6, 7, 8, 9, 10, 11, 5, 12, 13, 14, 15, 16, 17, 18, 19, 20, 21, 22, 23, 24, 25, 26, 27, 28, 29, 30, 31, 32, 33, 34, 35, 36, 37, 38, 39, 40, 41, 42, 43, 44, 45, 46, 47, 48, 49, 50, 51, 52, 53, 54, 55, 56, 57, 58, 59, 60, 61, 62, 63, 64, 65, 66, 67, 68, 69, 70, 71, 72, 73] (by decide +kernel) (by decide +kernel)
set_option maxRecDepth 20000 in
theorem gX8_step_X8_stepOnce : GoodIn wsX8_step (wsV RX8 135 RX8 yX8_stepOnce wsX8_stepOnce) := goodIn_app (goodIn_of _ (by decide +kernel)) ggX8_step_X8_stepOnce
theorem dX8_step_0 : decode cX8_step 0 = .ok (.aload_n 0, 1) := by decide +kernel
theorem dX8_step_1 : decode cX8_step 1 = .ok (.iconst 0, 1) := by decide +kernel
theorem dX8_step_2 : decode cX8_step 2 = .ok (.putfield 86, 3) := by decide +kernel
theorem dX8_step_5 : decode cX8_step 5 = .ok (.aload_n 0, 1) := by decide +kernel
theorem dX8_step_6 : decode cX8_step 6 = .ok (.invokevirtual 135, 3) := by decide +kernel
theorem dX8_step_9 : decode cX8_step 9 = .ok (.ireturn, 1) := by decide +kernel
set_option maxRecDepth 20000 in
theorem ggX8_avalanche_X8_stepOnce : GoodIn wsX8_avalanche wsX8_stepOnce := goodIn_r _ [6, 7, 8, 9, 10, 11, 5, 12, 13, 14, 15, 16, 17, 18, 19, 20, 21, 22, 23, 24, 25, 26, 27, 28, 29, 30, 31, 32, 33, 34, 35, 36, 37, 38, 39, 40, 41, 42, 43, 44, 45, 46, 47, 48, 49, 50, 51, 52, 53, 54, 55, 56, 57, 58, 59, 60, 61, 62, 63, 64, 65, 66, 67, 68, 69, 70, 71, 72, 73] (by decide +kernel) (by decide +kernel)
set_option maxRecDepth 20000 in
theorem gX8_avalanche_X8_stepOnce : GoodIn wsX8_avalanche (wsV RX8 135 RX8 yX8_stepOnce wsX8_stepOnce) := goodIn_app (goodIn_of _ (by decide +kernel)) ggX8_avalanche_X8_stepOnce
theorem dX8_avalanche_0 : decode cX8_avalanche 0 = .ok (.aload_n 0, 1) := by decide +kernel
theorem dX8_avalanche_1 : decode cX8_avalanche 1 = .ok (.iconst 0, 1) := by decide +kernel
theorem dX8_avalanche_2 : decode cX8_avalanche 2 = .ok (.putfield 86, 3) := by decide +kernel
theorem dX8_avalanche_5 : decode cX8_avalanche 5 = .ok (.iconst 0, 1) := by decide +kernel
theorem dX8_avalanche_6 : decode cX8_avalanche 6 = .ok (.istore_n 1, 1) := by decide +kernel
theorem dX8_avalanche_7 : decode cX8_avalanche 7 = .ok (.iconst 1, 1) := by decide +kernel
theorem dX8_avalanche_8 : decode cX8_avalanche 8 = .ok (.istore_n 2, 1) := by decide +kernel
theorem dX8_avalanche_9 : decode cX8_avalanche 9 = .ok (.iconst 0, 1) := by decide +kernel
theorem dX8_avalanche_10 : decode cX8_avalanche 10 = .ok (.istore_n 3, 1) := by decide +kernel
theorem dX8_avalanche_11 : decode cX8_avalanche 11 = .ok (.iload_n 3, 1) := by decide +kernel
theorem dX8_avalanche_12 : decode cX8_avalanche 12 = .ok (.bipush 60, 2) := by decide +kernel
theorem dX8_avalanche_14 : decode cX8_avalanche 14 = .ok (.if_icmp .ge 22, 3) := by decide +kernel
theorem dX8_avalanche_17 : decode cX8_avalanche 17 = .ok (.iload_n 2, 1) := by decide +kernel
theorem dX8_avalanche_18 : decode cX8_avalanche 18 = .ok (.ifCond .le 18, 3) := by decide +kernel
theorem dX8_avalanche_21 : decode cX8_avalanche 21 = .ok (.aload_n 0, 1) := by decide +kernel
theorem dX8_avalanche_22 : decode cX8_avalanche 22 = .ok (.invokevirtual 135, 3) := by decide +kernel
theorem dX8_avalanche_25 : decode cX8_avalanche 25 = .ok (.istore_n 2, 1) := by decide +kernel
theorem dX8_avalanche_26 : decode cX8_avalanche 26 = .ok (.iload_n 1, 1) := by decide +kernel
theorem dX8_avalanche_27 : decode cX8_avalanche 27 = .ok (.iload_n 2, 1) := by decide +kernel
theorem dX8_avalanche_28 : decode cX8_avalanche 28 = .ok (.iadd, 1) := by decide +kernel
theorem dX8_avalanche_29 : decode cX8_avalanche 29 = .ok (.istore_n 1, 1) := by decide +kernel
theorem dX8_avalanche_30 : decode cX8_avalanche 30 = .ok (.iinc 3 1, 3) := by decide +kernel
theorem dX8_avalanche_33 : decode cX8_avalanche 33 = .ok (.goto (-22), 3) := by decide +kernel
theorem dX8_avalanche_36 : decode cX8_avalanche 36 = .ok (.iload_n 1, 1) := by decide +kernel
theorem dX8_avalanche_37 : decode cX8_avalanche 37 = .ok (.ireturn, 1) := by decide +kernel
set_option maxRecDepth 20000 in
theorem ggX8_whirlAt_X8_in : GoodIn wsX8_whirlAt wsX8_in := goodIn_r _ [7] (by decide +kernel) (by decide +kernel)
set_option maxRecDepth 20000 in
theorem gX8_whirlAt_X8_in : GoodIn wsX8_whirlAt (va_wsS RX8 89 yX8_in wsX8_in) := goodIn_app (goodIn_of _ (by decide +kernel)) ggX8_whirlAt_X8_in
set_option maxRecDepth 20000 in
theorem ggX8_whirlAt_X8_stop : GoodIn wsX8_whirlAt wsX8_stop := goodIn_r _ [11, 1, 12, 13, 14, 15, 16, 17, 18, 19, 20, 21, 22, 23, 24, 25, 26, 27, 28, 29, 30, 31, 32, 33, 34, 35, 36, 37, 38, 39, 40, 41, 42, 43, 44, 45, 46, 47, 48, 49, 50] (by decide +kernel) (by decide +kernel)
set_option maxRecDepth 20000 in
theorem gX8_whirlAt_X8_stop : GoodIn wsX8_whirlAt (wsV RX8 93 RX8 yX8_stop wsX8_stop) := goodIn_app (goodIn_of _ (by decide +kernel)) ggX8_whirlAt_X8_stop
theorem dX8_whirlAt_0 : decode cX8_whirlAt 0 = .ok (.aload_n 0, 1) := by decide +kernel
theorem dX8_whirlAt_1 : decode cX8_whirlAt 1 = .ok (.iconst 0, 1) := by decide +kernel
theorem dX8_whirlAt_2 : decode cX8_whirlAt 2 = .ok (.putfield 86, 3) := by decide +kernel
theorem dX8_whirlAt_5 : decode cX8_whirlAt 5 = .ok (.iload_n 1, 1) := by decide +kernel
theorem dX8_whirlAt_6 : decode cX8_whirlAt 6 = .ok (.iconst 0, 1) := by decide +kernel
theorem dX8_whirlAt_7 : decode cX8_whirlAt 7 = .ok (.aload_n 0, 1) := by decide +kernel
theorem dX8_whirlAt_8 : decode cX8_whirlAt 8 = .ok (.getfield 115, 3) := by decide +kernel
theorem dX8_whirlAt_11 : decode cX8_whirlAt 11 = .ok (.iconst 1, 1) := by decide +kernel
theorem dX8_whirlAt_12 : decode cX8_whirlAt 12 = .ok (.isub, 1) := by decide +kernel
theorem dX8_whirlAt_13 : decode cX8_whirlAt 13 = .ok (.invokestatic 89, 3) := by decide +kernel
theorem dX8_whirlAt_16 : decode cX8_whirlAt 16 = .ok (.ifCond .eq 12, 3) := by decide +kernel
theorem dX8_whirlAt_19 : decode cX8_whirlAt 19 = .ok (.aload_n 0, 1) := by decide +kernel
theorem dX8_whirlAt_20 : decode cX8_whirlAt 20 = .ok (.getfield 31, 3) := by decide +kernel
theorem dX8_whirlAt_23 : decode cX8_whirlAt 23 = .ok (.iload_n 1, 1) := by decide +kernel
theorem dX8_whirlAt_24 : decode cX8_whirlAt 24 = .ok (.iaload, 1) := by decide +kernel
theorem dX8_whirlAt_25 : decode cX8_whirlAt 25 = .ok (.goto 8, 3) := by decide +kernel
theorem dX8_whirlAt_28 : decode cX8_whirlAt 28 = .ok (.aload_n 0, 1) := by decide +kernel
theorem dX8_whirlAt_29 : decode cX8_whirlAt 29 = .ok (.iconst 1, 1) := by decide +kernel
theorem dX8_whirlAt_30 : decode cX8_whirlAt 30 = .ok (.invokevirtual 93, 3) := by decide +kernel
theorem dX8_whirlAt_33 : decode cX8_whirlAt 33 = .ok (.ireturn, 1) := by decide +kernel
set_option maxRecDepth 20000 in
theorem ggX8_energy_X8_in : GoodIn wsX8_energy wsX8_in := goodIn_r _ [7] (by decide +kernel) (by decide +kernel)
set_option maxRecDepth 20000 in
theorem gX8_energy_X8_in : GoodIn wsX8_energy (va_wsS RX8 89 yX8_in wsX8_in) := goodIn_app (goodIn_of _ (by decide +kernel)) ggX8_energy_X8_in
set_option maxRecDepth 20000 in
theorem ggX8_energy_X8_stop : GoodIn wsX8_energy wsX8_stop := goodIn_r _ [11, 1, 21, 22, 23, 24, 25, 26, 27, 28, 29, 30, 31, 32, 33, 34, 35, 36, 37, 38, 39, 40, 41, 42, 43, 44, 45, 46, 47, 48, 49, 50, 51, 52, 53, 54, 55, 56, 57, 58, 59] (by decide +kernel) (by decide +kernel)
set_option maxRecDepth 20000 in
theorem gX8_energy_X8_stop : GoodIn wsX8_energy (wsV RX8 93 RX8 yX8_stop wsX8_stop) := goodIn_app (goodIn_of _ (by decide +kernel)) ggX8_energy_X8_stop
set_option maxRecDepth 20000 in
theorem ggX8_energy_X8_energyAt : GoodIn wsX8_energy wsX8_energyAt := goodIn_r _ [15, 16, 17, 2, 3, 18, 19, 6, 20, 21, 22, 23, 24, 25, 26, 27, 28, 29, 30, 31, 32, 33, 34, 35, 36, 37, 38, 39, 40, 41, 42, 43, 44, 45, 46, 47, 48, 49, 50, 51, 52, 53, 54, 55, 56, 57, 58, 59] (by decide +kernel) (by decide +kernel)
set_option maxRecDepth 20000 in
theorem gX8_energy_X8_energyAt : GoodIn wsX8_energy (wsV RX8 118 RX8 yX8_energyAt wsX8_energyAt) := goodIn_app (goodIn_of _ (by decide +kernel)) ggX8_energy_X8_energyAt
theorem dX8_energy_0 : decode cX8_energy 0 = .ok (.aload_n 0, 1) := by decide +kernel
theorem dX8_energy_1 : decode cX8_energy 1 = .ok (.iconst 0, 1) := by decide +kernel
theorem dX8_energy_2 : decode cX8_energy 2 = .ok (.putfield 86, 3) := by decide +kernel
theorem dX8_energy_5 : decode cX8_energy 5 = .ok (.iload_n 1, 1) := by decide +kernel
theorem dX8_energy_6 : decode cX8_energy 6 = .ok (.iconst 0, 1) := by decide +kernel
theorem dX8_energy_7 : decode cX8_energy 7 = .ok (.aload_n 0, 1) := by decide +kernel
theorem dX8_energy_8 : decode cX8_energy 8 = .ok (.getfield 115, 3) := by decide +kernel
theorem dX8_energy_11 : decode cX8_energy 11 = .ok (.iconst 1, 1) := by decide +kernel
theorem dX8_energy_12 : decode cX8_energy 12 = .ok (.isub, 1) := by decide +kernel
theorem dX8_energy_13 : decode cX8_energy 13 = .ok (.invokestatic 89, 3) := by decide +kernel
theorem dX8_energy_16 : decode cX8_energy 16 = .ok (.ifCond .ne 9, 3) := by decide +kernel
theorem dX8_energy_19 : decode cX8_energy 19 = .ok (.aload_n 0, 1) := by decide +kernel
theorem dX8_energy_20 : decode cX8_energy 20 = .ok (.iconst 1, 1) := by decide +kernel
theorem dX8_energy_21 : decode cX8_energy 21 = .ok (.invokevirtual 93, 3) := by decide +kernel
theorem dX8_energy_24 : decode cX8_energy 24 = .ok (.ireturn, 1) := by decide +kernel
theorem dX8_energy_25 : decode cX8_energy 25 = .ok (.aload_n 0, 1) := by decide +kernel
theorem dX8_energy_26 : decode cX8_energy 26 = .ok (.getfield 31, 3) := by decide +kernel
theorem dX8_energy_29 : decode cX8_energy 29 = .ok (.iload_n 1, 1) := by decide +kernel
theorem dX8_energy_30 : decode cX8_energy 30 = .ok (.iaload, 1) := by decide +kernel
theorem dX8_energy_31 : decode cX8_energy 31 = .ok (.iconst (-1), 1) := by decide +kernel
theorem dX8_energy_32 : decode cX8_energy 32 = .ok (.if_icmp .ne 7, 3) := by decide +kernel
theorem dX8_energy_35 : decode cX8_energy 35 = .ok (.iconst 0, 1) := by decide +kernel
theorem dX8_energy_36 : decode cX8_energy 36 = .ok (.goto 14, 3) := by decide +kernel
theorem dX8_energy_39 : decode cX8_energy 39 = .ok (.aload_n 0, 1) := by decide +kernel
theorem dX8_energy_40 : decode cX8_energy 40 = .ok (.iload_n 1, 1) := by decide +kernel
theorem dX8_energy_41 : decode cX8_energy 41 = .ok (.aload_n 0, 1) := by decide +kernel
theorem dX8_energy_42 : decode cX8_energy 42 = .ok (.getfield 31, 3) := by decide +kernel
theorem dX8_energy_45 : decode cX8_energy 45 = .ok (.iload_n 1, 1) := by decide +kernel
theorem dX8_energy_46 : decode cX8_energy 46 = .ok (.iaload, 1) := by decide +kernel
theorem dX8_energy_47 : decode cX8_energy 47 = .ok (.invokevirtual 118, 3) := by decide +kernel
theorem dX8_energy_50 : decode cX8_energy 50 = .ok (.ireturn, 1) := by decide +kernel
set_option maxRecDepth 20000 in
theorem ggX8_ring_X8_in : GoodIn wsX8_ring wsX8_in := goodIn_r _ [8] (by decide +kernel) (by decide +kernel)
set_option maxRecDepth 20000 in
theorem gX8_ring_X8_in : GoodIn wsX8_ring (va_wsS RX8 89 yX8_in wsX8_in) := goodIn_app (goodIn_of _ (by decide +kernel)) ggX8_ring_X8_in
set_option maxRecDepth 20000 in
theorem ggX8_ring_X8_stop : GoodIn wsX8_ring wsX8_stop := goodIn_r _ [12, 1, 13, 14, 15, 16, 17, 18, 19, 20, 21, 22, 23, 24, 25, 26, 27, 28, 29, 30, 31, 32, 33, 34, 35, 36, 37, 38, 39, 40, 41, 42, 43, 44, 45, 46, 47, 48, 49, 50, 51] (by decide +kernel) (by decide +kernel)
set_option maxRecDepth 20000 in
theorem gX8_ring_X8_stop : GoodIn wsX8_ring (wsV RX8 93 RX8 yX8_stop wsX8_stop) := goodIn_app (goodIn_of _ (by decide +kernel)) ggX8_ring_X8_stop
theorem dX8_ring_0 : decode cX8_ring 0 = .ok (.aload_n 0, 1) := by decide +kernel
theorem dX8_ring_1 : decode cX8_ring 1 = .ok (.iconst 0, 1) := by decide +kernel
theorem dX8_ring_2 : decode cX8_ring 2 = .ok (.putfield 86, 3) := by decide +kernel
theorem dX8_ring_5 : decode cX8_ring 5 = .ok (.iload_n 1, 1) := by decide +kernel
theorem dX8_ring_6 : decode cX8_ring 6 = .ok (.iconst 1, 1) := by decide +kernel
theorem dX8_ring_7 : decode cX8_ring 7 = .ok (.bipush 100, 2) := by decide +kernel
theorem dX8_ring_9 : decode cX8_ring 9 = .ok (.invokestatic 89, 3) := by decide +kernel
theorem dX8_ring_12 : decode cX8_ring 12 = .ok (.ifCond .eq 15, 3) := by decide +kernel
theorem dX8_ring_15 : decode cX8_ring 15 = .ok (.iload_n 2, 1) := by decide +kernel
theorem dX8_ring_16 : decode cX8_ring 16 = .ok (.bipush 50, 2) := by decide +kernel
theorem dX8_ring_18 : decode cX8_ring 18 = .ok (.sipush 1000, 3) := by decide +kernel
theorem dX8_ring_21 : decode cX8_ring 21 = .ok (.invokestatic 89, 3) := by decide +kernel
theorem dX8_ring_24 : decode cX8_ring 24 = .ok (.ifCond .ne 9, 3) := by decide +kernel
theorem dX8_ring_27 : decode cX8_ring 27 = .ok (.aload_n 0, 1) := by decide +kernel
theorem dX8_ring_28 : decode cX8_ring 28 = .ok (.iconst 1, 1) := by decide +kernel
theorem dX8_ring_29 : decode cX8_ring 29 = .ok (.invokevirtual 93, 3) := by decide +kernel
theorem dX8_ring_32 : decode cX8_ring 32 = .ok (.ireturn, 1) := by decide +kernel
theorem dX8_ring_33 : decode cX8_ring 33 = .ok (.aload_n 0, 1) := by decide +kernel
theorem dX8_ring_34 : decode cX8_ring 34 = .ok (.getfield 139, 3) := by decide +kernel
theorem dX8_ring_37 : decode cX8_ring 37 = .ok (.bipush 6, 2) := by decide +kernel
theorem dX8_ring_39 : decode cX8_ring 39 = .ok (.if_icmp .ne 9, 3) := by decide +kernel
theorem dX8_ring_42 : decode cX8_ring 42 = .ok (.aload_n 0, 1) := by decide +kernel
theorem dX8_ring_43 : decode cX8_ring 43 = .ok (.iconst 2, 1) := by decide +kernel
theorem dX8_ring_44 : decode cX8_ring 44 = .ok (.invokevirtual 93, 3) := by decide +kernel
theorem dX8_ring_47 : decode cX8_ring 47 = .ok (.ireturn, 1) := by decide +kernel
theorem dX8_ring_48 : decode cX8_ring 48 = .ok (.aload_n 0, 1) := by decide +kernel
theorem dX8_ring_49 : decode cX8_ring 49 = .ok (.getfield 34, 3) := by decide +kernel
theorem dX8_ring_52 : decode cX8_ring 52 = .ok (.aload_n 0, 1) := by decide +kernel
theorem dX8_ring_53 : decode cX8_ring 53 = .ok (.getfield 139, 3) := by decide +kernel
theorem dX8_ring_56 : decode cX8_ring 56 = .ok (.iload_n 1, 1) := by decide +kernel
theorem dX8_ring_57 : decode cX8_ring 57 = .ok (.iastore, 1) := by decide +kernel
theorem dX8_ring_58 : decode cX8_ring 58 = .ok (.aload_n 0, 1) := by decide +kernel
theorem dX8_ring_59 : decode cX8_ring 59 = .ok (.getfield 37, 3) := by decide +kernel
theorem dX8_ring_62 : decode cX8_ring 62 = .ok (.aload_n 0, 1) := by decide +kernel
theorem dX8_ring_63 : decode cX8_ring 63 = .ok (.getfield 139, 3) := by decide +kernel
theorem dX8_ring_66 : decode cX8_ring 66 = .ok (.iload_n 2, 1) := by decide +kernel
theorem dX8_ring_67 : decode cX8_ring 67 = .ok (.iastore, 1) := by decide +kernel
theorem dX8_ring_68 : decode cX8_ring 68 = .ok (.aload_n 0, 1) := by decide +kernel
theorem dX8_ring_69 : decode cX8_ring 69 = .ok (.dup, 1) := by decide +kernel
theorem dX8_ring_70 : decode cX8_ring 70 = .ok (.getfield 139, 3) := by decide +kernel
theorem dX8_ring_73 : decode cX8_ring 73 = .ok (.iconst 1, 1) := by decide +kernel
theorem dX8_ring_74 : decode cX8_ring 74 = .ok (.iadd, 1) := by decide +kernel
theorem dX8_ring_75 : decode cX8_ring 75 = .ok (.putfield 139, 3) := by decide +kernel
theorem dX8_ring_78 : decode cX8_ring 78 = .ok (.aload_n 0, 1) := by decide +kernel
theorem dX8_ring_79 : decode cX8_ring 79 = .ok (.getfield 139, 3) := by decide +kernel
theorem dX8_ring_82 : decode cX8_ring 82 = .ok (.iconst 1, 1) := by decide +kernel
theorem dX8_ring_83 : decode cX8_ring 83 = .ok (.isub, 1) := by decide +kernel
theorem dX8_ring_84 : decode cX8_ring 84 = .ok (.ireturn, 1) := by decide +kernel
theorem dX8_currentBy_0 : decode cX8_currentBy 0 = .ok (.sipush 1000, 3) := by decide +kernel
theorem dX8_currentBy_3 : decode cX8_currentBy 3 = .ok (.iload_n 2, 1) := by decide +kernel
theorem dX8_currentBy_4 : decode cX8_currentBy 4 = .ok (.imul, 1) := by decide +kernel
theorem dX8_currentBy_5 : decode cX8_currentBy 5 = .ok (.aload_n 0, 1) := by decide +kernel
theorem dX8_currentBy_6 : decode cX8_currentBy 6 = .ok (.getfield 40, 3) := by decide +kernel
theorem dX8_currentBy_9 : decode cX8_currentBy 9 = .ok (.iload_n 1, 1) := by decide +kernel
theorem dX8_currentBy_10 : decode cX8_currentBy 10 = .ok (.iaload, 1) := by decide +kernel
theorem dX8_currentBy_11 : decode cX8_currentBy 11 = .ok (.isub, 1) := by decide +kernel
theorem dX8_currentBy_12 : decode cX8_currentBy 12 = .ok (.aload_n 0, 1) := by decide +kernel
theorem dX8_currentBy_13 : decode cX8_currentBy 13 = .ok (.getfield 34, 3) := by decide +kernel
theorem dX8_currentBy_16 : decode cX8_currentBy 16 = .ok (.iload_n 1, 1) := by decide +kernel
theorem dX8_currentBy_17 : decode cX8_currentBy 17 = .ok (.iaload, 1) := by decide +kernel
theorem dX8_currentBy_18 : decode cX8_currentBy 18 = .ok (.idiv, 1) := by decide +kernel
theorem dX8_currentBy_19 : decode cX8_currentBy 19 = .ok (.ireturn, 1) := by decide +kernel
set_option maxRecDepth 20000 in
theorem ggX8_flux_X8_in : GoodIn wsX8_flux wsX8_in := goodIn_r _ [12] (by decide +kernel) (by decide +kernel)
set_option maxRecDepth 20000 in
theorem gX8_flux_X8_in : GoodIn wsX8_flux (va_wsS RX8 89 yX8_in wsX8_in) := goodIn_app (goodIn_of _ (by decide +kernel)) ggX8_flux_X8_in
set_option maxRecDepth 20000 in
theorem ggX8_flux_X8_stop : GoodIn wsX8_flux wsX8_stop := goodIn_r _ [16, 1, 25, 26, 27, 28, 29, 30, 31, 32, 33, 34, 35, 36, 37, 38, 39, 40, 41, 42, 43, 44, 45, 46, 47, 48, 49, 50, 51, 52, 53, 54, 55, 56, 57, 58, 59, 60, 61, 62, 63] (by decide +kernel) (by decide +kernel)
set_option maxRecDepth 20000 in
theorem gX8_flux_X8_stop : GoodIn wsX8_flux (wsV RX8 93 RX8 yX8_stop wsX8_stop) := goodIn_app (goodIn_of _ (by decide +kernel)) ggX8_flux_X8_stop
set_option maxRecDepth 20000 in
theorem ggX8_flux_X8_currentBy : GoodIn wsX8_flux wsX8_currentBy := goodIn_r _ [20, 5, 21, 25, 26, 27, 28, 29, 30, 31, 32, 33, 34, 35, 36, 37, 38, 39, 40, 41, 42, 43, 44, 45, 46, 47, 48, 49, 50, 51, 52, 53, 54, 55, 56, 57, 58, 59, 60, 61, 62, 63] (by decide +kernel) (by decide +kernel)
set_option maxRecDepth 20000 in
theorem gX8_flux_X8_currentBy : GoodIn wsX8_flux (wsV RX8 144 RX8 yX8_currentBy wsX8_currentBy) := goodIn_app (goodIn_of _ (by decide +kernel)) ggX8_flux_X8_currentBy
set_option maxRecDepth 20000 in
theorem ggX8_flux_X8_size : GoodIn wsX8_flux wsX8_size := goodIn_r _ [24] (by decide +kernel) (by decide +kernel)
set_option maxRecDepth 20000 in
theorem gX8_flux_X8_size : GoodIn wsX8_flux (va_wsS RX8 100 yX8_size wsX8_size) := goodIn_app (goodIn_of _ (by decide +kernel)) ggX8_flux_X8_size
theorem dX8_flux_0 : decode cX8_flux 0 = .ok (.aload_n 0, 1) := by decide +kernel
theorem dX8_flux_1 : decode cX8_flux 1 = .ok (.iconst 0, 1) := by decide +kernel
theorem dX8_flux_2 : decode cX8_flux 2 = .ok (.putfield 86, 3) := by decide +kernel
theorem dX8_flux_5 : decode cX8_flux 5 = .ok (.iload_n 1, 1) := by decide +kernel
theorem dX8_flux_6 : decode cX8_flux 6 = .ok (.iconst 0, 1) := by decide +kernel
theorem dX8_flux_7 : decode cX8_flux 7 = .ok (.aload_n 0, 1) := by decide +kernel
theorem dX8_flux_8 : decode cX8_flux 8 = .ok (.getfield 139, 3) := by decide +kernel
theorem dX8_flux_11 : decode cX8_flux 11 = .ok (.iconst 1, 1) := by decide +kernel
theorem dX8_flux_12 : decode cX8_flux 12 = .ok (.isub, 1) := by decide +kernel
theorem dX8_flux_13 : decode cX8_flux 13 = .ok (.invokestatic 89, 3) := by decide +kernel
theorem dX8_flux_16 : decode cX8_flux 16 = .ok (.ifCond .ne 9, 3) := by decide +kernel
theorem dX8_flux_19 : decode cX8_flux 19 = .ok (.aload_n 0, 1) := by decide +kernel
theorem dX8_flux_20 : decode cX8_flux 20 = .ok (.iconst 1, 1) := by decide +kernel
theorem dX8_flux_21 : decode cX8_flux 21 = .ok (.invokevirtual 93, 3) := by decide +kernel
theorem dX8_flux_24 : decode cX8_flux 24 = .ok (.ireturn, 1) := by decide +kernel
theorem dX8_flux_25 : decode cX8_flux 25 = .ok (.iload_n 2, 1) := by decide +kernel
theorem dX8_flux_26 : decode cX8_flux 26 = .ok (.ldc 142, 2) := by decide +kernel
theorem dX8_flux_28 : decode cX8_flux 28 = .ok (.ldc 143, 2) := by decide +kernel
theorem dX8_flux_30 : decode cX8_flux 30 = .ok (.invokestatic 89, 3) := by decide +kernel
theorem dX8_flux_33 : decode cX8_flux 33 = .ok (.ifCond .ne 9, 3) := by decide +kernel
theorem dX8_flux_36 : decode cX8_flux 36 = .ok (.aload_n 0, 1) := by decide +kernel
theorem dX8_flux_37 : decode cX8_flux 37 = .ok (.iconst 2, 1) := by decide +kernel
theorem dX8_flux_38 : decode cX8_flux 38 = .ok (.invokevirtual 93, 3) := by decide +kernel
theorem dX8_flux_41 : decode cX8_flux 41 = .ok (.ireturn, 1) := by decide +kernel
theorem dX8_flux_42 : decode cX8_flux 42 = .ok (.aload_n 0, 1) := by decide +kernel
theorem dX8_flux_43 : decode cX8_flux 43 = .ok (.getfield 40, 3) := by decide +kernel
theorem dX8_flux_46 : decode cX8_flux 46 = .ok (.iload_n 1, 1) := by decide +kernel
theorem dX8_flux_47 : decode cX8_flux 47 = .ok (.iload_n 2, 1) := by decide +kernel
theorem dX8_flux_48 : decode cX8_flux 48 = .ok (.iastore, 1) := by decide +kernel
theorem dX8_flux_49 : decode cX8_flux 49 = .ok (.iconst 0, 1) := by decide +kernel
theorem dX8_flux_50 : decode cX8_flux 50 = .ok (.istore_n 3, 1) := by decide +kernel
theorem dX8_flux_51 : decode cX8_flux 51 = .ok (.iconst 1, 1) := by decide +kernel
theorem dX8_flux_52 : decode cX8_flux 52 = .ok (.istore 4, 2) := by decide +kernel
theorem dX8_flux_54 : decode cX8_flux 54 = .ok (.iload 4, 2) := by decide +kernel
theorem dX8_flux_56 : decode cX8_flux 56 = .ok (.ifCond .eq 108, 3) := by decide +kernel
theorem dX8_flux_59 : decode cX8_flux 59 = .ok (.aload_n 0, 1) := by decide +kernel
theorem dX8_flux_60 : decode cX8_flux 60 = .ok (.iload_n 1, 1) := by decide +kernel
theorem dX8_flux_61 : decode cX8_flux 61 = .ok (.aload_n 0, 1) := by decide +kernel
theorem dX8_flux_62 : decode cX8_flux 62 = .ok (.getfield 43, 3) := by decide +kernel
theorem dX8_flux_65 : decode cX8_flux 65 = .ok (.iload_n 1, 1) := by decide +kernel
theorem dX8_flux_66 : decode cX8_flux 66 = .ok (.iaload, 1) := by decide +kernel
theorem dX8_flux_67 : decode cX8_flux 67 = .ok (.invokevirtual 144, 3) := by decide +kernel
theorem dX8_flux_70 : decode cX8_flux 70 = .ok (.istore 5, 2) := by decide +kernel
theorem dX8_flux_72 : decode cX8_flux 72 = .ok (.iload 5, 2) := by decide +kernel
theorem dX8_flux_74 : decode cX8_flux 74 = .ok (.ifCond .le 7, 3) := by decide +kernel
theorem dX8_flux_77 : decode cX8_flux 77 = .ok (.iconst (-1), 1) := by decide +kernel
theorem dX8_flux_78 : decode cX8_flux 78 = .ok (.goto 4, 3) := by decide +kernel
theorem dX8_flux_81 : decode cX8_flux 81 = .ok (.iconst 1, 1) := by decide +kernel
theorem dX8_flux_82 : decode cX8_flux 82 = .ok (.istore 6, 2) := by decide +kernel
theorem dX8_flux_84 : decode cX8_flux 84 = .ok (.iload 5, 2) := by decide +kernel
theorem dX8_flux_86 : decode cX8_flux 86 = .ok (.invokestatic 100, 3) := by decide +kernel
theorem dX8_flux_89 : decode cX8_flux 89 = .ok (.aload_n 0, 1) := by decide +kernel
theorem dX8_flux_90 : decode cX8_flux 90 = .ok (.getfield 37, 3) := by decide +kernel
theorem dX8_flux_93 : decode cX8_flux 93 = .ok (.iload_n 1, 1) := by decide +kernel
theorem dX8_flux_94 : decode cX8_flux 94 = .ok (.iaload, 1) := by decide +kernel
theorem dX8_flux_95 : decode cX8_flux 95 = .ok (.if_icmp .le 32, 3) := by decide +kernel
theorem dX8_flux_98 : decode cX8_flux 98 = .ok (.aload_n 0, 1) := by decide +kernel
theorem dX8_flux_99 : decode cX8_flux 99 = .ok (.iload_n 1, 1) := by decide +kernel
theorem dX8_flux_100 : decode cX8_flux 100 = .ok (.aload_n 0, 1) := by decide +kernel
theorem dX8_flux_101 : decode cX8_flux 101 = .ok (.getfield 43, 3) := by decide +kernel
theorem dX8_flux_104 : decode cX8_flux 104 = .ok (.iload_n 1, 1) := by decide +kernel
theorem dX8_flux_105 : decode cX8_flux 105 = .ok (.iaload, 1) := by decide +kernel
theorem dX8_flux_106 : decode cX8_flux 106 = .ok (.iload 6, 2) := by decide +kernel
theorem dX8_flux_108 : decode cX8_flux 108 = .ok (.iadd, 1) := by decide +kernel
theorem dX8_flux_109 : decode cX8_flux 109 = .ok (.invokevirtual 144, 3) := by decide +kernel
theorem dX8_flux_112 : decode cX8_flux 112 = .ok (.invokestatic 100, 3) := by decide +kernel
theorem dX8_flux_115 : decode cX8_flux 115 = .ok (.iload 5, 2) := by decide +kernel
theorem dX8_flux_117 : decode cX8_flux 117 = .ok (.invokestatic 100, 3) := by decide +kernel
theorem dX8_flux_120 : decode cX8_flux 120 = .ok (.if_icmp .ge 7, 3) := by decide +kernel
theorem dX8_flux_123 : decode cX8_flux 123 = .ok (.iconst 1, 1) := by decide +kernel
theorem dX8_flux_124 : decode cX8_flux 124 = .ok (.goto 4, 3) := by decide +kernel
theorem dX8_flux_127 : decode cX8_flux 127 = .ok (.iconst 0, 1) := by decide +kernel
theorem dX8_flux_128 : decode cX8_flux 128 = .ok (.istore 4, 2) := by decide +kernel
theorem dX8_flux_130 : decode cX8_flux 130 = .ok (.iload 4, 2) := by decide +kernel
theorem dX8_flux_132 : decode cX8_flux 132 = .ok (.ifCond .eq 29, 3) := by decide +kernel
theorem dX8_flux_135 : decode cX8_flux 135 = .ok (.aload_n 0, 1) := by decide +kernel
theorem dX8_flux_136 : decode cX8_flux 136 = .ok (.getfield 43, 3) := by decide +kernel
theorem dX8_flux_139 : decode cX8_flux 139 = .ok (.iload_n 1, 1) := by decide +kernel
theorem dX8_flux_140 : decode cX8_flux 140 = .ok (.dup2, 1) := by decide +kernel
theorem dX8_flux_141 : decode cX8_flux 141 = .ok (.iaload, 1) := by decide +kernel
theorem dX8_flux_142 : decode cX8_flux 142 = .ok (.iload 6, 2) := by decide +kernel
theorem dX8_flux_144 : decode cX8_flux 144 = .ok (.iadd, 1) := by decide +kernel
theorem dX8_flux_145 : decode cX8_flux 145 = .ok (.iastore, 1) := by decide +kernel
theorem dX8_flux_146 : decode cX8_flux 146 = .ok (.iload_n 3, 1) := by decide +kernel
theorem dX8_flux_147 : decode cX8_flux 147 = .ok (.iload 6, 2) := by decide +kernel
theorem dX8_flux_149 : decode cX8_flux 149 = .ok (.iadd, 1) := by decide +kernel
theorem dX8_flux_150 : decode cX8_flux 150 = .ok (.istore_n 3, 1) := by decide +kernel
theorem dX8_flux_151 : decode cX8_flux 151 = .ok (.aload_n 0, 1) := by decide +kernel
theorem dX8_flux_152 : decode cX8_flux 152 = .ok (.getfield 46, 3) := by decide +kernel
theorem dX8_flux_155 : decode cX8_flux 155 = .ok (.iload_n 1, 1) := by decide +kernel
theorem dX8_flux_156 : decode cX8_flux 156 = .ok (.dup2, 1) := by decide +kernel
theorem dX8_flux_157 : decode cX8_flux 157 = .ok (.iaload, 1) := by decide +kernel
theorem dX8_flux_158 : decode cX8_flux 158 = .ok (.iconst 1, 1) := by decide +kernel
theorem dX8_flux_159 : decode cX8_flux 159 = .ok (.iadd, 1) := by decide +kernel
theorem dX8_flux_160 : decode cX8_flux 160 = .ok (.iastore, 1) := by decide +kernel
theorem dX8_flux_161 : decode cX8_flux 161 = .ok (.goto (-107), 3) := by decide +kernel
theorem dX8_flux_164 : decode cX8_flux 164 = .ok (.iload_n 3, 1) := by decide +kernel
theorem dX8_flux_165 : decode cX8_flux 165 = .ok (.ireturn, 1) := by decide +kernel
set_option maxRecDepth 20000 in
theorem ggX8_warm_X8_in : GoodIn wsX8_warm wsX8_in := goodIn_r _ [8] (by decide +kernel) (by decide +kernel)
set_option maxRecDepth 20000 in
theorem gX8_warm_X8_in : GoodIn wsX8_warm (va_wsS RX8 89 yX8_in wsX8_in) := goodIn_app (goodIn_of _ (by decide +kernel)) ggX8_warm_X8_in
set_option maxRecDepth 20000 in
theorem ggX8_warm_X8_stop : GoodIn wsX8_warm wsX8_stop := goodIn_r _ [12, 1, 13, 14, 15, 16, 17, 18, 19, 20, 21, 22, 23, 24, 25, 26, 27, 28, 29, 30, 31, 32, 33, 34, 35, 36, 37, 38, 39, 40, 41, 42, 43, 44, 45, 46, 47, 48, 49, 50, 51] (by decide +kernel) (by decide +kernel)
set_option maxRecDepth 20000 in
theorem gX8_warm_X8_stop : GoodIn wsX8_warm (wsV RX8 93 RX8 yX8_stop wsX8_stop) := goodIn_app (goodIn_of _ (by decide +kernel)) ggX8_warm_X8_stop
theorem dX8_warm_0 : decode cX8_warm 0 = .ok (.aload_n 0, 1) := by decide +kernel
theorem dX8_warm_1 : decode cX8_warm 1 = .ok (.iconst 0, 1) := by decide +kernel
theorem dX8_warm_2 : decode cX8_warm 2 = .ok (.putfield 86, 3) := by decide +kernel
theorem dX8_warm_5 : decode cX8_warm 5 = .ok (.iload_n 1, 1) := by decide +kernel
theorem dX8_warm_6 : decode cX8_warm 6 = .ok (.iconst 0, 1) := by decide +kernel
theorem dX8_warm_7 : decode cX8_warm 7 = .ok (.aload_n 0, 1) := by decide +kernel
theorem dX8_warm_8 : decode cX8_warm 8 = .ok (.getfield 139, 3) := by decide +kernel
theorem dX8_warm_11 : decode cX8_warm 11 = .ok (.iconst 1, 1) := by decide +kernel
theorem dX8_warm_12 : decode cX8_warm 12 = .ok (.isub, 1) := by decide +kernel
theorem dX8_warm_13 : decode cX8_warm 13 = .ok (.invokestatic 89, 3) := by decide +kernel
theorem dX8_warm_16 : decode cX8_warm 16 = .ok (.ifCond .ne 9, 3) := by decide +kernel
theorem dX8_warm_19 : decode cX8_warm 19 = .ok (.aload_n 0, 1) := by decide +kernel
theorem dX8_warm_20 : decode cX8_warm 20 = .ok (.iconst 1, 1) := by decide +kernel
theorem dX8_warm_21 : decode cX8_warm 21 = .ok (.invokevirtual 93, 3) := by decide +kernel
theorem dX8_warm_24 : decode cX8_warm 24 = .ok (.ireturn, 1) := by decide +kernel
theorem dX8_warm_25 : decode cX8_warm 25 = .ok (.aload_n 0, 1) := by decide +kernel
theorem dX8_warm_26 : decode cX8_warm 26 = .ok (.getfield 40, 3) := by decide +kernel
theorem dX8_warm_29 : decode cX8_warm 29 = .ok (.iload_n 1, 1) := by decide +kernel
theorem dX8_warm_30 : decode cX8_warm 30 = .ok (.iaload, 1) := by decide +kernel
theorem dX8_warm_31 : decode cX8_warm 31 = .ok (.sipush 500, 3) := by decide +kernel
theorem dX8_warm_34 : decode cX8_warm 34 = .ok (.iadd, 1) := by decide +kernel
theorem dX8_warm_35 : decode cX8_warm 35 = .ok (.istore_n 2, 1) := by decide +kernel
theorem dX8_warm_36 : decode cX8_warm 36 = .ok (.iload_n 2, 1) := by decide +kernel
theorem dX8_warm_37 : decode cX8_warm 37 = .ok (.sipush 1000, 3) := by decide +kernel
theorem dX8_warm_40 : decode cX8_warm 40 = .ok (.idiv, 1) := by decide +kernel
theorem dX8_warm_41 : decode cX8_warm 41 = .ok (.istore_n 3, 1) := by decide +kernel
theorem dX8_warm_42 : decode cX8_warm 42 = .ok (.aload_n 0, 1) := by decide +kernel
theorem dX8_warm_43 : decode cX8_warm 43 = .ok (.getfield 43, 3) := by decide +kernel
theorem dX8_warm_46 : decode cX8_warm 46 = .ok (.iload_n 1, 1) := by decide +kernel
theorem dX8_warm_47 : decode cX8_warm 47 = .ok (.iload_n 3, 1) := by decide +kernel
theorem dX8_warm_48 : decode cX8_warm 48 = .ok (.sipush 1000, 3) := by decide +kernel
theorem dX8_warm_51 : decode cX8_warm 51 = .ok (.imul, 1) := by decide +kernel
theorem dX8_warm_52 : decode cX8_warm 52 = .ok (.iload_n 2, 1) := by decide +kernel
theorem dX8_warm_53 : decode cX8_warm 53 = .ok (.if_icmp .le 9, 3) := by decide +kernel
theorem dX8_warm_56 : decode cX8_warm 56 = .ok (.iload_n 3, 1) := by decide +kernel
theorem dX8_warm_57 : decode cX8_warm 57 = .ok (.iconst 1, 1) := by decide +kernel
theorem dX8_warm_58 : decode cX8_warm 58 = .ok (.isub, 1) := by decide +kernel
theorem dX8_warm_59 : decode cX8_warm 59 = .ok (.goto 4, 3) := by decide +kernel
theorem dX8_warm_62 : decode cX8_warm 62 = .ok (.iload_n 3, 1) := by decide +kernel
theorem dX8_warm_63 : decode cX8_warm 63 = .ok (.iastore, 1) := by decide +kernel
theorem dX8_warm_64 : decode cX8_warm 64 = .ok (.aload_n 0, 1) := by decide +kernel
theorem dX8_warm_65 : decode cX8_warm 65 = .ok (.getfield 43, 3) := by decide +kernel
theorem dX8_warm_68 : decode cX8_warm 68 = .ok (.iload_n 1, 1) := by decide +kernel
theorem dX8_warm_69 : decode cX8_warm 69 = .ok (.iaload, 1) := by decide +kernel
theorem dX8_warm_70 : decode cX8_warm 70 = .ok (.ireturn, 1) := by decide +kernel
set_option maxRecDepth 20000 in
theorem ggX8_ofRing_X8_in : GoodIn wsX8_ofRing wsX8_in := goodIn_r _ [8] (by decide +kernel) (by decide +kernel)
set_option maxRecDepth 20000 in
theorem gX8_ofRing_X8_in : GoodIn wsX8_ofRing (va_wsS RX8 89 yX8_in wsX8_in) := goodIn_app (goodIn_of _ (by decide +kernel)) ggX8_ofRing_X8_in
set_option maxRecDepth 20000 in
theorem ggX8_ofRing_X8_stop : GoodIn wsX8_ofRing wsX8_stop := goodIn_r _ [12, 1, 19, 20, 21, 22, 23, 24, 25, 26, 27, 28, 29, 30, 31, 32, 33, 34, 35, 36, 37, 38, 39, 40, 41, 42, 43, 44, 45, 46, 47, 48, 49, 50, 51, 52, 53, 54, 55, 56, 57] (by decide +kernel) (by decide +kernel)
set_option maxRecDepth 20000 in
theorem gX8_ofRing_X8_stop : GoodIn wsX8_ofRing (wsV RX8 93 RX8 yX8_stop wsX8_stop) := goodIn_app (goodIn_of _ (by decide +kernel)) ggX8_ofRing_X8_stop
set_option maxRecDepth 20000 in
theorem ggX8_ofRing_X8_currentBy : GoodIn wsX8_ofRing wsX8_currentBy := goodIn_r _ [16, 17, 18, 19, 20, 21, 22, 23, 24, 25, 26, 27, 28, 29, 30, 31, 32, 33, 34, 35, 36, 37, 38, 39, 40, 41, 42, 43, 44, 45, 46, 47, 48, 49, 50, 51, 52, 53, 54, 55, 56, 57] (by decide +kernel) (by decide +kernel)
set_option maxRecDepth 20000 in
theorem gX8_ofRing_X8_currentBy : GoodIn wsX8_ofRing (wsV RX8 144 RX8 yX8_currentBy wsX8_currentBy) := goodIn_app (goodIn_of _ (by decide +kernel)) ggX8_ofRing_X8_currentBy
theorem dX8_ofRing_0 : decode cX8_ofRing 0 = .ok (.aload_n 0, 1) := by decide +kernel
theorem dX8_ofRing_1 : decode cX8_ofRing 1 = .ok (.iconst 0, 1) := by decide +kernel
theorem dX8_ofRing_2 : decode cX8_ofRing 2 = .ok (.putfield 86, 3) := by decide +kernel
theorem dX8_ofRing_5 : decode cX8_ofRing 5 = .ok (.iload_n 1, 1) := by decide +kernel
theorem dX8_ofRing_6 : decode cX8_ofRing 6 = .ok (.iconst 0, 1) := by decide +kernel
theorem dX8_ofRing_7 : decode cX8_ofRing 7 = .ok (.aload_n 0, 1) := by decide +kernel
theorem dX8_ofRing_8 : decode cX8_ofRing 8 = .ok (.getfield 139, 3) := by decide +kernel
theorem dX8_ofRing_11 : decode cX8_ofRing 11 = .ok (.iconst 1, 1) := by decide +kernel
theorem dX8_ofRing_12 : decode cX8_ofRing 12 = .ok (.isub, 1) := by decide +kernel
theorem dX8_ofRing_13 : decode cX8_ofRing 13 = .ok (.invokestatic 89, 3) := by decide +kernel
theorem dX8_ofRing_16 : decode cX8_ofRing 16 = .ok (.ifCond .ne 9, 3) := by decide +kernel
theorem dX8_ofRing_19 : decode cX8_ofRing 19 = .ok (.aload_n 0, 1) := by decide +kernel
theorem dX8_ofRing_20 : decode cX8_ofRing 20 = .ok (.iconst 1, 1) := by decide +kernel
theorem dX8_ofRing_21 : decode cX8_ofRing 21 = .ok (.invokevirtual 93, 3) := by decide +kernel
theorem dX8_ofRing_24 : decode cX8_ofRing 24 = .ok (.ireturn, 1) := by decide +kernel
theorem dX8_ofRing_25 : decode cX8_ofRing 25 = .ok (.iload_n 2, 1) := by decide +kernel
theorem dX8_ofRing_26 : decode cX8_ofRing 26 = .ok (.iconst 0, 1) := by decide +kernel
theorem dX8_ofRing_27 : decode cX8_ofRing 27 = .ok (.iconst 2, 1) := by decide +kernel
theorem dX8_ofRing_28 : decode cX8_ofRing 28 = .ok (.invokestatic 89, 3) := by decide +kernel
theorem dX8_ofRing_31 : decode cX8_ofRing 31 = .ok (.ifCond .ne 9, 3) := by decide +kernel
theorem dX8_ofRing_34 : decode cX8_ofRing 34 = .ok (.aload_n 0, 1) := by decide +kernel
theorem dX8_ofRing_35 : decode cX8_ofRing 35 = .ok (.iconst 2, 1) := by decide +kernel
theorem dX8_ofRing_36 : decode cX8_ofRing 36 = .ok (.invokevirtual 93, 3) := by decide +kernel
theorem dX8_ofRing_39 : decode cX8_ofRing 39 = .ok (.ireturn, 1) := by decide +kernel
theorem dX8_ofRing_40 : decode cX8_ofRing 40 = .ok (.iload_n 2, 1) := by decide +kernel
theorem dX8_ofRing_41 : decode cX8_ofRing 41 = .ok (.ifCond .ne 12, 3) := by decide +kernel
theorem dX8_ofRing_44 : decode cX8_ofRing 44 = .ok (.aload_n 0, 1) := by decide +kernel
theorem dX8_ofRing_45 : decode cX8_ofRing 45 = .ok (.getfield 43, 3) := by decide +kernel
theorem dX8_ofRing_48 : decode cX8_ofRing 48 = .ok (.iload_n 1, 1) := by decide +kernel
theorem dX8_ofRing_49 : decode cX8_ofRing 49 = .ok (.iaload, 1) := by decide +kernel
theorem dX8_ofRing_50 : decode cX8_ofRing 50 = .ok (.goto 28, 3) := by decide +kernel
theorem dX8_ofRing_53 : decode cX8_ofRing 53 = .ok (.iload_n 2, 1) := by decide +kernel
theorem dX8_ofRing_54 : decode cX8_ofRing 54 = .ok (.iconst 1, 1) := by decide +kernel
theorem dX8_ofRing_55 : decode cX8_ofRing 55 = .ok (.if_icmp .ne 17, 3) := by decide +kernel
theorem dX8_ofRing_58 : decode cX8_ofRing 58 = .ok (.aload_n 0, 1) := by decide +kernel
theorem dX8_ofRing_59 : decode cX8_ofRing 59 = .ok (.iload_n 1, 1) := by decide +kernel
theorem dX8_ofRing_60 : decode cX8_ofRing 60 = .ok (.aload_n 0, 1) := by decide +kernel
theorem dX8_ofRing_61 : decode cX8_ofRing 61 = .ok (.getfield 43, 3) := by decide +kernel
theorem dX8_ofRing_64 : decode cX8_ofRing 64 = .ok (.iload_n 1, 1) := by decide +kernel
theorem dX8_ofRing_65 : decode cX8_ofRing 65 = .ok (.iaload, 1) := by decide +kernel
theorem dX8_ofRing_66 : decode cX8_ofRing 66 = .ok (.invokevirtual 144, 3) := by decide +kernel
theorem dX8_ofRing_69 : decode cX8_ofRing 69 = .ok (.goto 9, 3) := by decide +kernel
theorem dX8_ofRing_72 : decode cX8_ofRing 72 = .ok (.aload_n 0, 1) := by decide +kernel
theorem dX8_ofRing_73 : decode cX8_ofRing 73 = .ok (.getfield 46, 3) := by decide +kernel
theorem dX8_ofRing_76 : decode cX8_ofRing 76 = .ok (.iload_n 1, 1) := by decide +kernel
theorem dX8_ofRing_77 : decode cX8_ofRing 77 = .ok (.iaload, 1) := by decide +kernel
theorem dX8_ofRing_78 : decode cX8_ofRing 78 = .ok (.ireturn, 1) := by decide +kernel
set_option maxRecDepth 20000 in
theorem ggX8_current_X8_in : GoodIn wsX8_current wsX8_in := goodIn_r _ [8] (by decide +kernel) (by decide +kernel)
set_option maxRecDepth 20000 in
theorem gX8_current_X8_in : GoodIn wsX8_current (va_wsS RX8 89 yX8_in wsX8_in) := goodIn_app (goodIn_of _ (by decide +kernel)) ggX8_current_X8_in
set_option maxRecDepth 20000 in
theorem ggX8_current_X8_stop : GoodIn wsX8_current wsX8_stop := goodIn_r _ [12, 1, 13, 14, 15, 16, 17, 18, 19, 20, 21, 22, 23, 24, 25, 26, 27, 28, 29, 30, 31, 32, 33, 34, 35, 36, 37, 38, 39, 40, 41, 42, 43, 44, 45, 46, 47, 48, 49, 50, 51] (by decide +kernel) (by decide +kernel)
set_option maxRecDepth 20000 in
theorem gX8_current_X8_stop : GoodIn wsX8_current (wsV RX8 93 RX8 yX8_stop wsX8_stop) := goodIn_app (goodIn_of _ (by decide +kernel)) ggX8_current_X8_stop
theorem dX8_current_0 : decode cX8_current 0 = .ok (.aload_n 0, 1) := by decide +kernel
theorem dX8_current_1 : decode cX8_current 1 = .ok (.iconst 0, 1) := by decide +kernel
theorem dX8_current_2 : decode cX8_current 2 = .ok (.putfield 86, 3) := by decide +kernel
theorem dX8_current_5 : decode cX8_current 5 = .ok (.iload_n 1, 1) := by decide +kernel
theorem dX8_current_6 : decode cX8_current 6 = .ok (.iconst 0, 1) := by decide +kernel
theorem dX8_current_7 : decode cX8_current 7 = .ok (.sipush 1000, 3) := by decide +kernel
theorem dX8_current_10 : decode cX8_current 10 = .ok (.invokestatic 89, 3) := by decide +kernel
theorem dX8_current_13 : decode cX8_current 13 = .ok (.ifCond .ne 9, 3) := by decide +kernel
theorem dX8_current_16 : decode cX8_current 16 = .ok (.aload_n 0, 1) := by decide +kernel
theorem dX8_current_17 : decode cX8_current 17 = .ok (.iconst 1, 1) := by decide +kernel
theorem dX8_current_18 : decode cX8_current 18 = .ok (.invokevirtual 93, 3) := by decide +kernel
theorem dX8_current_21 : decode cX8_current 21 = .ok (.ireturn, 1) := by decide +kernel
theorem dX8_current_22 : decode cX8_current 22 = .ok (.aload_n 0, 1) := by decide +kernel
theorem dX8_current_23 : decode cX8_current 23 = .ok (.getfield 147, 3) := by decide +kernel
theorem dX8_current_26 : decode cX8_current 26 = .ok (.istore_n 2, 1) := by decide +kernel
theorem dX8_current_27 : decode cX8_current 27 = .ok (.aload_n 0, 1) := by decide +kernel
theorem dX8_current_28 : decode cX8_current 28 = .ok (.iload_n 1, 1) := by decide +kernel
theorem dX8_current_29 : decode cX8_current 29 = .ok (.putfield 147, 3) := by decide +kernel
theorem dX8_current_32 : decode cX8_current 32 = .ok (.aload_n 0, 1) := by decide +kernel
theorem dX8_current_33 : decode cX8_current 33 = .ok (.iconst 0, 1) := by decide +kernel
theorem dX8_current_34 : decode cX8_current 34 = .ok (.putfield 150, 3) := by decide +kernel
theorem dX8_current_37 : decode cX8_current 37 = .ok (.aload_n 0, 1) := by decide +kernel
theorem dX8_current_38 : decode cX8_current 38 = .ok (.iconst 0, 1) := by decide +kernel
theorem dX8_current_39 : decode cX8_current 39 = .ok (.putfield 154, 3) := by decide +kernel
theorem dX8_current_42 : decode cX8_current 42 = .ok (.iload_n 2, 1) := by decide +kernel
theorem dX8_current_43 : decode cX8_current 43 = .ok (.ireturn, 1) := by decide +kernel
set_option maxRecDepth 20000 in
theorem ggX8_heat_X8_in : GoodIn wsX8_heat wsX8_in := goodIn_r _ [6] (by decide +kernel) (by decide +kernel)
set_option maxRecDepth 20000 in
theorem gX8_heat_X8_in : GoodIn wsX8_heat (va_wsS RX8 89 yX8_in wsX8_in) := goodIn_app (goodIn_of _ (by decide +kernel)) ggX8_heat_X8_in
set_option maxRecDepth 20000 in
theorem ggX8_heat_X8_stop : GoodIn wsX8_heat wsX8_stop := goodIn_r _ [10, 1, 11, 12, 13, 14, 15, 16, 17, 18, 19, 20, 21, 22, 23, 24, 25, 26, 27, 28, 29, 30, 31, 32, 33, 34, 35, 36, 37, 38, 39, 40, 41, 42, 43, 44, 45, 46, 47, 48, 49] (by decide +kernel) (by decide +kernel)
set_option maxRecDepth 20000 in
theorem gX8_heat_X8_stop : GoodIn wsX8_heat (wsV RX8 93 RX8 yX8_stop wsX8_stop) := goodIn_app (goodIn_of _ (by decide +kernel)) ggX8_heat_X8_stop
theorem dX8_heat_0 : decode cX8_heat 0 = .ok (.aload_n 0, 1) := by decide +kernel
theorem dX8_heat_1 : decode cX8_heat 1 = .ok (.iconst 0, 1) := by decide +kernel
theorem dX8_heat_2 : decode cX8_heat 2 = .ok (.putfield 86, 3) := by decide +kernel
theorem dX8_heat_5 : decode cX8_heat 5 = .ok (.iload_n 1, 1) := by decide +kernel
theorem dX8_heat_6 : decode cX8_heat 6 = .ok (.iconst 0, 1) := by decide +kernel
theorem dX8_heat_7 : decode cX8_heat 7 = .ok (.bipush 11, 2) := by decide +kernel
theorem dX8_heat_9 : decode cX8_heat 9 = .ok (.invokestatic 89, 3) := by decide +kernel
theorem dX8_heat_12 : decode cX8_heat 12 = .ok (.ifCond .ne 9, 3) := by decide +kernel
theorem dX8_heat_15 : decode cX8_heat 15 = .ok (.aload_n 0, 1) := by decide +kernel
theorem dX8_heat_16 : decode cX8_heat 16 = .ok (.iconst 1, 1) := by decide +kernel
theorem dX8_heat_17 : decode cX8_heat 17 = .ok (.invokevirtual 93, 3) := by decide +kernel
theorem dX8_heat_20 : decode cX8_heat 20 = .ok (.ireturn, 1) := by decide +kernel
theorem dX8_heat_21 : decode cX8_heat 21 = .ok (.iload_n 2, 1) := by decide +kernel
theorem dX8_heat_22 : decode cX8_heat 22 = .ok (.iconst 1, 1) := by decide +kernel
theorem dX8_heat_23 : decode cX8_heat 23 = .ok (.sipush 500, 3) := by decide +kernel
theorem dX8_heat_26 : decode cX8_heat 26 = .ok (.invokestatic 89, 3) := by decide +kernel
theorem dX8_heat_29 : decode cX8_heat 29 = .ok (.ifCond .ne 9, 3) := by decide +kernel
theorem dX8_heat_32 : decode cX8_heat 32 = .ok (.aload_n 0, 1) := by decide +kernel
theorem dX8_heat_33 : decode cX8_heat 33 = .ok (.iconst 2, 1) := by decide +kernel
theorem dX8_heat_34 : decode cX8_heat 34 = .ok (.invokevirtual 93, 3) := by decide +kernel
theorem dX8_heat_37 : decode cX8_heat 37 = .ok (.ireturn, 1) := by decide +kernel
theorem dX8_heat_38 : decode cX8_heat 38 = .ok (.aload_n 0, 1) := by decide +kernel
theorem dX8_heat_39 : decode cX8_heat 39 = .ok (.getfield 49, 3) := by decide +kernel
theorem dX8_heat_42 : decode cX8_heat 42 = .ok (.iload_n 1, 1) := by decide +kernel
theorem dX8_heat_43 : decode cX8_heat 43 = .ok (.aload_n 0, 1) := by decide +kernel
theorem dX8_heat_44 : decode cX8_heat 44 = .ok (.getfield 49, 3) := by decide +kernel
theorem dX8_heat_47 : decode cX8_heat 47 = .ok (.iload_n 1, 1) := by decide +kernel
theorem dX8_heat_48 : decode cX8_heat 48 = .ok (.iaload, 1) := by decide +kernel
theorem dX8_heat_49 : decode cX8_heat 49 = .ok (.iload_n 2, 1) := by decide +kernel
theorem dX8_heat_50 : decode cX8_heat 50 = .ok (.iadd, 1) := by decide +kernel
theorem dX8_heat_51 : decode cX8_heat 51 = .ok (.sipush 1000, 3) := by decide +kernel
theorem dX8_heat_54 : decode cX8_heat 54 = .ok (.if_icmp .le 9, 3) := by decide +kernel
theorem dX8_heat_57 : decode cX8_heat 57 = .ok (.sipush 1000, 3) := by decide +kernel
theorem dX8_heat_60 : decode cX8_heat 60 = .ok (.goto 11, 3) := by decide +kernel
theorem dX8_heat_63 : decode cX8_heat 63 = .ok (.aload_n 0, 1) := by decide +kernel
theorem dX8_heat_64 : decode cX8_heat 64 = .ok (.getfield 49, 3) := by decide +kernel
theorem dX8_heat_67 : decode cX8_heat 67 = .ok (.iload_n 1, 1) := by decide +kernel
theorem dX8_heat_68 : decode cX8_heat 68 = .ok (.iaload, 1) := by decide +kernel
theorem dX8_heat_69 : decode cX8_heat 69 = .ok (.iload_n 2, 1) := by decide +kernel
theorem dX8_heat_70 : decode cX8_heat 70 = .ok (.iadd, 1) := by decide +kernel
theorem dX8_heat_71 : decode cX8_heat 71 = .ok (.iastore, 1) := by decide +kernel
theorem dX8_heat_72 : decode cX8_heat 72 = .ok (.aload_n 0, 1) := by decide +kernel
theorem dX8_heat_73 : decode cX8_heat 73 = .ok (.getfield 49, 3) := by decide +kernel
theorem dX8_heat_76 : decode cX8_heat 76 = .ok (.iload_n 1, 1) := by decide +kernel
theorem dX8_heat_77 : decode cX8_heat 77 = .ok (.iaload, 1) := by decide +kernel
theorem dX8_heat_78 : decode cX8_heat 78 = .ok (.ireturn, 1) := by decide +kernel
theorem dX8_isNormal_0 : decode cX8_isNormal 0 = .ok (.aload_n 0, 1) := by decide +kernel
theorem dX8_isNormal_1 : decode cX8_isNormal 1 = .ok (.getfield 49, 3) := by decide +kernel
theorem dX8_isNormal_4 : decode cX8_isNormal 4 = .ok (.iload_n 1, 1) := by decide +kernel
theorem dX8_isNormal_5 : decode cX8_isNormal 5 = .ok (.iaload, 1) := by decide +kernel
theorem dX8_isNormal_6 : decode cX8_isNormal 6 = .ok (.bipush 90, 2) := by decide +kernel
theorem dX8_isNormal_8 : decode cX8_isNormal 8 = .ok (.sipush 1000, 3) := by decide +kernel
theorem dX8_isNormal_11 : decode cX8_isNormal 11 = .ok (.aload_n 0, 1) := by decide +kernel
theorem dX8_isNormal_12 : decode cX8_isNormal 12 = .ok (.getfield 147, 3) := by decide +kernel
theorem dX8_isNormal_15 : decode cX8_isNormal 15 = .ok (.isub, 1) := by decide +kernel
theorem dX8_isNormal_16 : decode cX8_isNormal 16 = .ok (.imul, 1) := by decide +kernel
theorem dX8_isNormal_17 : decode cX8_isNormal 17 = .ok (.sipush 1000, 3) := by decide +kernel
theorem dX8_isNormal_20 : decode cX8_isNormal 20 = .ok (.idiv, 1) := by decide +kernel
theorem dX8_isNormal_21 : decode cX8_isNormal 21 = .ok (.if_icmp .lt 7, 3) := by decide +kernel
theorem dX8_isNormal_24 : decode cX8_isNormal 24 = .ok (.iconst 1, 1) := by decide +kernel
theorem dX8_isNormal_25 : decode cX8_isNormal 25 = .ok (.goto 4, 3) := by decide +kernel
theorem dX8_isNormal_28 : decode cX8_isNormal 28 = .ok (.iconst 0, 1) := by decide +kernel
theorem dX8_isNormal_29 : decode cX8_isNormal 29 = .ok (.ireturn, 1) := by decide +kernel
set_option maxRecDepth 20000 in
theorem ggX8_normals_X8_isNormal : GoodIn wsX8_normals wsX8_isNormal := goodIn_r _ [5, 6, 7, 8, 9, 10, 11, 12, 13, 14, 15, 16, 17, 18, 19, 20, 21, 22, 23, 24, 25, 26, 27, 28, 29, 30, 31, 32, 33, 34, 35, 36, 37, 38, 39, 40, 41, 42, 43, 44, 45, 46] (by decide +kernel) (by decide +kernel)
set_option maxRecDepth 20000 in
theorem gX8_normals_X8_isNormal : GoodIn wsX8_normals (wsV RX8 157 RX8 yX8_isNormal wsX8_isNormal) := goodIn_app (goodIn_of _ (by decide +kernel)) ggX8_normals_X8_isNormal
theorem dX8_normals_0 : decode cX8_normals 0 = .ok (.iconst 0, 1) := by decide +kernel
theorem dX8_normals_1 : decode cX8_normals 1 = .ok (.istore_n 3, 1) := by decide +kernel
theorem dX8_normals_2 : decode cX8_normals 2 = .ok (.iload_n 1, 1) := by decide +kernel
theorem dX8_normals_3 : decode cX8_normals 3 = .ok (.istore 4, 2) := by decide +kernel
theorem dX8_normals_5 : decode cX8_normals 5 = .ok (.iload 4, 2) := by decide +kernel
theorem dX8_normals_7 : decode cX8_normals 7 = .ok (.iload_n 2, 1) := by decide +kernel
theorem dX8_normals_8 : decode cX8_normals 8 = .ok (.if_icmp .gt 26, 3) := by decide +kernel
theorem dX8_normals_11 : decode cX8_normals 11 = .ok (.iload_n 3, 1) := by decide +kernel
theorem dX8_normals_12 : decode cX8_normals 12 = .ok (.aload_n 0, 1) := by decide +kernel
theorem dX8_normals_13 : decode cX8_normals 13 = .ok (.iload 4, 2) := by decide +kernel
theorem dX8_normals_15 : decode cX8_normals 15 = .ok (.invokevirtual 157, 3) := by decide +kernel
theorem dX8_normals_18 : decode cX8_normals 18 = .ok (.ifCond .eq 7, 3) := by decide +kernel
theorem dX8_normals_21 : decode cX8_normals 21 = .ok (.iconst 1, 1) := by decide +kernel
theorem dX8_normals_22 : decode cX8_normals 22 = .ok (.goto 4, 3) := by decide +kernel
theorem dX8_normals_25 : decode cX8_normals 25 = .ok (.iconst 0, 1) := by decide +kernel
theorem dX8_normals_26 : decode cX8_normals 26 = .ok (.iadd, 1) := by decide +kernel
theorem dX8_normals_27 : decode cX8_normals 27 = .ok (.istore_n 3, 1) := by decide +kernel
theorem dX8_normals_28 : decode cX8_normals 28 = .ok (.iinc 4 1, 3) := by decide +kernel
theorem dX8_normals_31 : decode cX8_normals 31 = .ok (.goto (-26), 3) := by decide +kernel
theorem dX8_normals_34 : decode cX8_normals 34 = .ok (.iload_n 3, 1) := by decide +kernel
theorem dX8_normals_35 : decode cX8_normals 35 = .ok (.ireturn, 1) := by decide +kernel
set_option maxRecDepth 20000 in
theorem ggX8_doubt_X8_normals : GoodIn wsX8_doubt wsX8_normals := goodIn_r _ [5, 6, 7, 8, 4, 9, 10, 11, 12, 13, 14, 15, 16, 17, 18, 19, 20, 21, 22, 23, 24, 25, 26, 27, 28, 29, 30, 31, 32, 33, 34, 35, 36, 37, 38, 39, 40, 41, 42, 43, 44, 45, 46, 47, 48, 49, 50] (by decide +kernel) (by decide +kernel)
set_option maxRecDepth 20000 in
theorem gX8_doubt_X8_normals : GoodIn wsX8_doubt (wsV RX8 160 RX8 yX8_normals wsX8_normals) := goodIn_app (goodIn_of _ (by decide +kernel)) ggX8_doubt_X8_normals
theorem dX8_doubt_0 : decode cX8_doubt 0 = .ok (.aload_n 0, 1) := by decide +kernel
theorem dX8_doubt_1 : decode cX8_doubt 1 = .ok (.iconst 0, 1) := by decide +kernel
theorem dX8_doubt_2 : decode cX8_doubt 2 = .ok (.iconst 5, 1) := by decide +kernel
theorem dX8_doubt_3 : decode cX8_doubt 3 = .ok (.invokevirtual 160, 3) := by decide +kernel
theorem dX8_doubt_6 : decode cX8_doubt 6 = .ok (.aload_n 0, 1) := by decide +kernel
theorem dX8_doubt_7 : decode cX8_doubt 7 = .ok (.bipush 6, 2) := by decide +kernel
theorem dX8_doubt_9 : decode cX8_doubt 9 = .ok (.bipush 11, 2) := by decide +kernel
theorem dX8_doubt_11 : decode cX8_doubt 11 = .ok (.invokevirtual 160, 3) := by decide +kernel
theorem dX8_doubt_14 : decode cX8_doubt 14 = .ok (.isub, 1) := by decide +kernel
theorem dX8_doubt_15 : decode cX8_doubt 15 = .ok (.ireturn, 1) := by decide +kernel
theorem dX8_energyOfCoil_0 : decode cX8_energyOfCoil 0 = .ok (.ldc2_w 163, 3) := by decide +kernel
theorem dX8_energyOfCoil_3 : decode cX8_energyOfCoil 3 = .ok (.aload_n 0, 1) := by decide +kernel
theorem dX8_energyOfCoil_4 : decode cX8_energyOfCoil 4 = .ok (.getfield 147, 3) := by decide +kernel
theorem dX8_energyOfCoil_7 : decode cX8_energyOfCoil 7 = .ok (.i2l, 1) := by decide +kernel
theorem dX8_energyOfCoil_8 : decode cX8_energyOfCoil 8 = .ok (.lmul, 1) := by decide +kernel
theorem dX8_energyOfCoil_9 : decode cX8_energyOfCoil 9 = .ok (.aload_n 0, 1) := by decide +kernel
theorem dX8_energyOfCoil_10 : decode cX8_energyOfCoil 10 = .ok (.getfield 147, 3) := by decide +kernel
theorem dX8_energyOfCoil_13 : decode cX8_energyOfCoil 13 = .ok (.i2l, 1) := by decide +kernel
theorem dX8_energyOfCoil_14 : decode cX8_energyOfCoil 14 = .ok (.lmul, 1) := by decide +kernel
theorem dX8_energyOfCoil_15 : decode cX8_energyOfCoil 15 = .ok (.lreturn, 1) := by decide +kernel
set_option maxRecDepth 20000 in
theorem ggX8_dumpOn_X8_energyOfCoil : GoodIn wsX8_dumpOn wsX8_energyOfCoil := goodIn_r _ [8, 9, 1, 19, 20, 21, 22, 23, 24, 25, 26, 27, 28, 29, 30, 31, 32, 33, 34, 35, 36, 37, 38, 39, 40, 41, 42, 43, 44, 45, 46, 47, 48, 49, 50, 51, 52, 53, 54, 55, 56, 57] (by decide +kernel) (by decide +kernel)
set_option maxRecDepth 20000 in
theorem gX8_dumpOn_X8_energyOfCoil : GoodIn wsX8_dumpOn (wsV RX8 165 RX8 yX8_energyOfCoil wsX8_energyOfCoil) := goodIn_app (goodIn_of _ (by decide +kernel)) ggX8_dumpOn_X8_energyOfCoil
set_option maxRecDepth 20000 in
theorem ggX8_dumpOn_X8_normals : GoodIn wsX8_dumpOn wsX8_normals := goodIn_r _ [13, 14, 15, 16, 7, 17, 18, 1, 19, 20, 21, 22, 23, 24, 25, 26, 27, 28, 29, 30, 31, 32, 33, 34, 35, 36, 37, 38, 39, 40, 41, 42, 43, 44, 45, 46, 47, 48, 49, 50, 51, 52, 53, 54, 55, 56, 57] (by decide +kernel) (by decide +kernel)
set_option maxRecDepth 20000 in
theorem gX8_dumpOn_X8_normals : GoodIn wsX8_dumpOn (wsV RX8 160 RX8 yX8_normals wsX8_normals) := goodIn_app (goodIn_of _ (by decide +kernel)) ggX8_dumpOn_X8_normals
theorem dX8_dumpOn_0 : decode cX8_dumpOn 0 = .ok (.aload_n 0, 1) := by decide +kernel
theorem dX8_dumpOn_1 : decode cX8_dumpOn 1 = .ok (.invokevirtual 165, 3) := by decide +kernel
theorem dX8_dumpOn_4 : decode cX8_dumpOn 4 = .ok (.lstore_n 1, 1) := by decide +kernel
theorem dX8_dumpOn_5 : decode cX8_dumpOn 5 = .ok (.aload_n 0, 1) := by decide +kernel
theorem dX8_dumpOn_6 : decode cX8_dumpOn 6 = .ok (.dup, 1) := by decide +kernel
theorem dX8_dumpOn_7 : decode cX8_dumpOn 7 = .ok (.getfield 147, 3) := by decide +kernel
theorem dX8_dumpOn_10 : decode cX8_dumpOn 10 = .ok (.aload_n 0, 1) := by decide +kernel
theorem dX8_dumpOn_11 : decode cX8_dumpOn 11 = .ok (.getfield 147, 3) := by decide +kernel
theorem dX8_dumpOn_14 : decode cX8_dumpOn 14 = .ok (.bipush 15, 2) := by decide +kernel
theorem dX8_dumpOn_16 : decode cX8_dumpOn 16 = .ok (.iadd, 1) := by decide +kernel
theorem dX8_dumpOn_17 : decode cX8_dumpOn 17 = .ok (.bipush 16, 2) := by decide +kernel
theorem dX8_dumpOn_19 : decode cX8_dumpOn 19 = .ok (.idiv, 1) := by decide +kernel
theorem dX8_dumpOn_20 : decode cX8_dumpOn 20 = .ok (.isub, 1) := by decide +kernel
theorem dX8_dumpOn_21 : decode cX8_dumpOn 21 = .ok (.putfield 147, 3) := by decide +kernel
theorem dX8_dumpOn_24 : decode cX8_dumpOn 24 = .ok (.lload_n 1, 1) := by decide +kernel
theorem dX8_dumpOn_25 : decode cX8_dumpOn 25 = .ok (.aload_n 0, 1) := by decide +kernel
theorem dX8_dumpOn_26 : decode cX8_dumpOn 26 = .ok (.invokevirtual 165, 3) := by decide +kernel
theorem dX8_dumpOn_29 : decode cX8_dumpOn 29 = .ok (.lsub, 1) := by decide +kernel
theorem dX8_dumpOn_30 : decode cX8_dumpOn 30 = .ok (.lstore_n 3, 1) := by decide +kernel
theorem dX8_dumpOn_31 : decode cX8_dumpOn 31 = .ok (.aload_n 0, 1) := by decide +kernel
theorem dX8_dumpOn_32 : decode cX8_dumpOn 32 = .ok (.iconst 0, 1) := by decide +kernel
theorem dX8_dumpOn_33 : decode cX8_dumpOn 33 = .ok (.bipush 11, 2) := by decide +kernel
theorem dX8_dumpOn_35 : decode cX8_dumpOn 35 = .ok (.invokevirtual 160, 3) := by decide +kernel
theorem dX8_dumpOn_38 : decode cX8_dumpOn 38 = .ok (.istore 5, 2) := by decide +kernel
theorem dX8_dumpOn_40 : decode cX8_dumpOn 40 = .ok (.lload_n 3, 1) := by decide +kernel
theorem dX8_dumpOn_41 : decode cX8_dumpOn 41 = .ok (.iload 5, 2) := by decide +kernel
theorem dX8_dumpOn_43 : decode cX8_dumpOn 43 = .ok (.i2l, 1) := by decide +kernel
theorem dX8_dumpOn_44 : decode cX8_dumpOn 44 = .ok (.lmul, 1) := by decide +kernel
theorem dX8_dumpOn_45 : decode cX8_dumpOn 45 = .ok (.iload 5, 2) := by decide +kernel
theorem dX8_dumpOn_47 : decode cX8_dumpOn 47 = .ok (.bipush 20, 2) := by decide +kernel
theorem dX8_dumpOn_49 : decode cX8_dumpOn 49 = .ok (.iadd, 1) := by decide +kernel
theorem dX8_dumpOn_50 : decode cX8_dumpOn 50 = .ok (.i2l, 1) := by decide +kernel
theorem dX8_dumpOn_51 : decode cX8_dumpOn 51 = .ok (.ldiv, 1) := by decide +kernel
theorem dX8_dumpOn_52 : decode cX8_dumpOn 52 = .ok (.lstore 6, 2) := by decide +kernel
theorem dX8_dumpOn_54 : decode cX8_dumpOn 54 = .ok (.aload_n 0, 1) := by decide +kernel
theorem dX8_dumpOn_55 : decode cX8_dumpOn 55 = .ok (.dup, 1) := by decide +kernel
theorem dX8_dumpOn_56 : decode cX8_dumpOn 56 = .ok (.getfield 169, 3) := by decide +kernel
theorem dX8_dumpOn_59 : decode cX8_dumpOn 59 = .ok (.lload 6, 2) := by decide +kernel
theorem dX8_dumpOn_61 : decode cX8_dumpOn 61 = .ok (.ladd, 1) := by decide +kernel
theorem dX8_dumpOn_62 : decode cX8_dumpOn 62 = .ok (.putfield 169, 3) := by decide +kernel
theorem dX8_dumpOn_65 : decode cX8_dumpOn 65 = .ok (.aload_n 0, 1) := by decide +kernel
theorem dX8_dumpOn_66 : decode cX8_dumpOn 66 = .ok (.dup, 1) := by decide +kernel
theorem dX8_dumpOn_67 : decode cX8_dumpOn 67 = .ok (.getfield 173, 3) := by decide +kernel
theorem dX8_dumpOn_70 : decode cX8_dumpOn 70 = .ok (.lload_n 3, 1) := by decide +kernel
theorem dX8_dumpOn_71 : decode cX8_dumpOn 71 = .ok (.lload 6, 2) := by decide +kernel
theorem dX8_dumpOn_73 : decode cX8_dumpOn 73 = .ok (.lsub, 1) := by decide +kernel
theorem dX8_dumpOn_74 : decode cX8_dumpOn 74 = .ok (.ladd, 1) := by decide +kernel
theorem dX8_dumpOn_75 : decode cX8_dumpOn 75 = .ok (.putfield 173, 3) := by decide +kernel
theorem dX8_dumpOn_78 : decode cX8_dumpOn 78 = .ok (.return_, 1) := by decide +kernel
set_option maxRecDepth 20000 in
theorem ggX8_pulseOfTime_X8_dumpOn : GoodIn wsX8_pulseOfTime wsX8_dumpOn := goodIn_r _ [10, 3, 11, 12, 13, 14, 15, 9, 16, 17, 18, 19, 20, 21, 22, 23, 24, 25, 2, 33, 34, 35, 36, 37, 38, 39, 40, 41, 42, 43, 44, 45, 46, 47, 48, 49, 50, 51, 52, 53, 54, 55, 56, 57, 58, 59, 60, 61, 62, 63, 64, 65, 66, 67, 68, 69, 70, 71] (by decide +kernel) (by decide +kernel)
set_option maxRecDepth 20000 in
theorem gX8_pulseOfTime_X8_dumpOn : GoodIn wsX8_pulseOfTime (wsV RX8 176 RX8 yX8_dumpOn wsX8_dumpOn) := goodIn_app (goodIn_of _ (by decide +kernel)) ggX8_pulseOfTime_X8_dumpOn
set_option maxRecDepth 20000 in
theorem ggX8_pulseOfTime_X8_isNormal : GoodIn wsX8_pulseOfTime wsX8_isNormal := goodIn_r _ [25, 2, 3, 33, 34, 35, 36, 37, 38, 39, 40, 41, 42, 43, 44, 45, 46, 47, 48, 49, 50, 51, 52, 53, 54, 55, 56, 57, 58, 59, 60, 61, 62, 63, 64, 65, 66, 67, 68, 69, 70, 71] (by decide +kernel) (by decide +kernel)
set_option maxRecDepth 20000 in
theorem gX8_pulseOfTime_X8_isNormal : GoodIn wsX8_pulseOfTime (wsV RX8 157 RX8 yX8_isNormal wsX8_isNormal) := goodIn_app (goodIn_of _ (by decide +kernel)) ggX8_pulseOfTime_X8_isNormal
set_option maxRecDepth 20000 in
theorem ggX8_pulseOfTime_X8_doubt : GoodIn wsX8_pulseOfTime wsX8_doubt := goodIn_r _ [29, 18, 19, 20, 9, 21, 22, 23, 24, 25, 2, 3, 33, 34, 35, 36, 37, 38, 39, 40, 41, 42, 43, 44, 45, 46, 47, 48, 49, 50, 51, 52, 53, 54, 55, 56, 57, 58, 59, 60, 61, 62, 63, 64, 65, 66, 67, 68, 69, 70, 71] (by decide +kernel) (by decide +kernel)
set_option maxRecDepth 20000 in
theorem gX8_pulseOfTime_X8_doubt : GoodIn wsX8_pulseOfTime (wsV RX8 179 RX8 yX8_doubt wsX8_doubt) := goodIn_app (goodIn_of _ (by decide +kernel)) ggX8_pulseOfTime_X8_doubt
set_option maxRecDepth 20000 in
theorem ggX8_pulseOfTime_X8_size : GoodIn wsX8_pulseOfTime wsX8_size := goodIn_r _ [32] (by decide +kernel) (by decide +kernel)
set_option maxRecDepth 20000 in
theorem gX8_pulseOfTime_X8_size : GoodIn wsX8_pulseOfTime (va_wsS RX8 100 yX8_size wsX8_size) := goodIn_app (goodIn_of _ (by decide +kernel)) ggX8_pulseOfTime_X8_size
theorem dX8_pulseOfTime_0 : decode cX8_pulseOfTime 0 = .ok (.aload_n 0, 1) := by decide +kernel
theorem dX8_pulseOfTime_1 : decode cX8_pulseOfTime 1 = .ok (.getfield 150, 3) := by decide +kernel
theorem dX8_pulseOfTime_4 : decode cX8_pulseOfTime 4 = .ok (.ifCond .eq 7, 3) := by decide +kernel
theorem dX8_pulseOfTime_7 : decode cX8_pulseOfTime 7 = .ok (.aload_n 0, 1) := by decide +kernel
theorem dX8_pulseOfTime_8 : decode cX8_pulseOfTime 8 = .ok (.invokevirtual 176, 3) := by decide +kernel
theorem dX8_pulseOfTime_11 : decode cX8_pulseOfTime 11 = .ok (.iconst 0, 1) := by decide +kernel
theorem dX8_pulseOfTime_12 : decode cX8_pulseOfTime 12 = .ok (.istore_n 1, 1) := by decide +kernel
theorem dX8_pulseOfTime_13 : decode cX8_pulseOfTime 13 = .ok (.iload_n 1, 1) := by decide +kernel
theorem dX8_pulseOfTime_14 : decode cX8_pulseOfTime 14 = .ok (.bipush 12, 2) := by decide +kernel
theorem dX8_pulseOfTime_16 : decode cX8_pulseOfTime 16 = .ok (.if_icmp .ge 136, 3) := by decide +kernel
theorem dX8_pulseOfTime_19 : decode cX8_pulseOfTime 19 = .ok (.aload_n 0, 1) := by decide +kernel
theorem dX8_pulseOfTime_20 : decode cX8_pulseOfTime 20 = .ok (.getfield 49, 3) := by decide +kernel
theorem dX8_pulseOfTime_23 : decode cX8_pulseOfTime 23 = .ok (.iload_n 1, 1) := by decide +kernel
theorem dX8_pulseOfTime_24 : decode cX8_pulseOfTime 24 = .ok (.iaload, 1) := by decide +kernel
theorem dX8_pulseOfTime_25 : decode cX8_pulseOfTime 25 = .ok (.aload_n 0, 1) := by decide +kernel
theorem dX8_pulseOfTime_26 : decode cX8_pulseOfTime 26 = .ok (.iload_n 1, 1) := by decide +kernel
