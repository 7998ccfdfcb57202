theorem dX8_pulseOfTime_27 : decode cX8_pulseOfTime 27 = .ok (.invokevirtual 157, 3) := by decide +kernel
theorem dX8_pulseOfTime_30 : decode cX8_pulseOfTime 30 = .ok (.ifCond .eq 19, 3) := by decide +kernel
theorem dX8_pulseOfTime_33 : decode cX8_pulseOfTime 33 = .ok (.aload_n 0, 1) := by decide +kernel
theorem dX8_pulseOfTime_34 : decode cX8_pulseOfTime 34 = .ok (.getfield 147, 3) := by decide +kernel
theorem dX8_pulseOfTime_37 : decode cX8_pulseOfTime 37 = .ok (.aload_n 0, 1) := by decide +kernel
theorem dX8_pulseOfTime_38 : decode cX8_pulseOfTime 38 = .ok (.getfield 147, 3) := by decide +kernel
theorem dX8_pulseOfTime_41 : decode cX8_pulseOfTime 41 = .ok (.imul, 1) := by decide +kernel
theorem dX8_pulseOfTime_42 : decode cX8_pulseOfTime 42 = .ok (.sipush 2000, 3) := by decide +kernel
theorem dX8_pulseOfTime_45 : decode cX8_pulseOfTime 45 = .ok (.idiv, 1) := by decide +kernel
theorem dX8_pulseOfTime_46 : decode cX8_pulseOfTime 46 = .ok (.goto 4, 3) := by decide +kernel
theorem dX8_pulseOfTime_49 : decode cX8_pulseOfTime 49 = .ok (.iconst 0, 1) := by decide +kernel
theorem dX8_pulseOfTime_50 : decode cX8_pulseOfTime 50 = .ok (.iadd, 1) := by decide +kernel
theorem dX8_pulseOfTime_51 : decode cX8_pulseOfTime 51 = .ok (.istore_n 2, 1) := by decide +kernel
theorem dX8_pulseOfTime_52 : decode cX8_pulseOfTime 52 = .ok (.iload_n 2, 1) := by decide +kernel
theorem dX8_pulseOfTime_53 : decode cX8_pulseOfTime 53 = .ok (.iload_n 1, 1) := by decide +kernel
theorem dX8_pulseOfTime_54 : decode cX8_pulseOfTime 54 = .ok (.ifCond .le 24, 3) := by decide +kernel
theorem dX8_pulseOfTime_57 : decode cX8_pulseOfTime 57 = .ok (.aload_n 0, 1) := by decide +kernel
theorem dX8_pulseOfTime_58 : decode cX8_pulseOfTime 58 = .ok (.getfield 49, 3) := by decide +kernel
theorem dX8_pulseOfTime_61 : decode cX8_pulseOfTime 61 = .ok (.iload_n 1, 1) := by decide +kernel
theorem dX8_pulseOfTime_62 : decode cX8_pulseOfTime 62 = .ok (.iconst 1, 1) := by decide +kernel
theorem dX8_pulseOfTime_63 : decode cX8_pulseOfTime 63 = .ok (.isub, 1) := by decide +kernel
theorem dX8_pulseOfTime_64 : decode cX8_pulseOfTime 64 = .ok (.iaload, 1) := by decide +kernel
theorem dX8_pulseOfTime_65 : decode cX8_pulseOfTime 65 = .ok (.aload_n 0, 1) := by decide +kernel
theorem dX8_pulseOfTime_66 : decode cX8_pulseOfTime 66 = .ok (.getfield 49, 3) := by decide +kernel
theorem dX8_pulseOfTime_69 : decode cX8_pulseOfTime 69 = .ok (.iload_n 1, 1) := by decide +kernel
theorem dX8_pulseOfTime_70 : decode cX8_pulseOfTime 70 = .ok (.iaload, 1) := by decide +kernel
theorem dX8_pulseOfTime_71 : decode cX8_pulseOfTime 71 = .ok (.isub, 1) := by decide +kernel
theorem dX8_pulseOfTime_72 : decode cX8_pulseOfTime 72 = .ok (.bipush 8, 2) := by decide +kernel
theorem dX8_pulseOfTime_74 : decode cX8_pulseOfTime 74 = .ok (.idiv, 1) := by decide +kernel
theorem dX8_pulseOfTime_75 : decode cX8_pulseOfTime 75 = .ok (.goto 4, 3) := by decide +kernel
theorem dX8_pulseOfTime_78 : decode cX8_pulseOfTime 78 = .ok (.iconst 0, 1) := by decide +kernel
theorem dX8_pulseOfTime_79 : decode cX8_pulseOfTime 79 = .ok (.iadd, 1) := by decide +kernel
theorem dX8_pulseOfTime_80 : decode cX8_pulseOfTime 80 = .ok (.istore_n 2, 1) := by decide +kernel
theorem dX8_pulseOfTime_81 : decode cX8_pulseOfTime 81 = .ok (.iload_n 2, 1) := by decide +kernel
theorem dX8_pulseOfTime_82 : decode cX8_pulseOfTime 82 = .ok (.iload_n 1, 1) := by decide +kernel
theorem dX8_pulseOfTime_83 : decode cX8_pulseOfTime 83 = .ok (.bipush 11, 2) := by decide +kernel
theorem dX8_pulseOfTime_85 : decode cX8_pulseOfTime 85 = .ok (.if_icmp .ge 24, 3) := by decide +kernel
theorem dX8_pulseOfTime_88 : decode cX8_pulseOfTime 88 = .ok (.aload_n 0, 1) := by decide +kernel
theorem dX8_pulseOfTime_89 : decode cX8_pulseOfTime 89 = .ok (.getfield 49, 3) := by decide +kernel
theorem dX8_pulseOfTime_92 : decode cX8_pulseOfTime 92 = .ok (.iload_n 1, 1) := by decide +kernel
theorem dX8_pulseOfTime_93 : decode cX8_pulseOfTime 93 = .ok (.iconst 1, 1) := by decide +kernel
theorem dX8_pulseOfTime_94 : decode cX8_pulseOfTime 94 = .ok (.iadd, 1) := by decide +kernel
theorem dX8_pulseOfTime_95 : decode cX8_pulseOfTime 95 = .ok (.iaload, 1) := by decide +kernel
theorem dX8_pulseOfTime_96 : decode cX8_pulseOfTime 96 = .ok (.aload_n 0, 1) := by decide +kernel
theorem dX8_pulseOfTime_97 : decode cX8_pulseOfTime 97 = .ok (.getfield 49, 3) := by decide +kernel
theorem dX8_pulseOfTime_100 : decode cX8_pulseOfTime 100 = .ok (.iload_n 1, 1) := by decide +kernel
theorem dX8_pulseOfTime_101 : decode cX8_pulseOfTime 101 = .ok (.iaload, 1) := by decide +kernel
theorem dX8_pulseOfTime_102 : decode cX8_pulseOfTime 102 = .ok (.isub, 1) := by decide +kernel
theorem dX8_pulseOfTime_103 : decode cX8_pulseOfTime 103 = .ok (.bipush 8, 2) := by decide +kernel
theorem dX8_pulseOfTime_105 : decode cX8_pulseOfTime 105 = .ok (.idiv, 1) := by decide +kernel
theorem dX8_pulseOfTime_106 : decode cX8_pulseOfTime 106 = .ok (.goto 4, 3) := by decide +kernel
theorem dX8_pulseOfTime_109 : decode cX8_pulseOfTime 109 = .ok (.iconst 0, 1) := by decide +kernel
theorem dX8_pulseOfTime_110 : decode cX8_pulseOfTime 110 = .ok (.iadd, 1) := by decide +kernel
theorem dX8_pulseOfTime_111 : decode cX8_pulseOfTime 111 = .ok (.istore_n 2, 1) := by decide +kernel
theorem dX8_pulseOfTime_112 : decode cX8_pulseOfTime 112 = .ok (.iload_n 2, 1) := by decide +kernel
theorem dX8_pulseOfTime_113 : decode cX8_pulseOfTime 113 = .ok (.aload_n 0, 1) := by decide +kernel
theorem dX8_pulseOfTime_114 : decode cX8_pulseOfTime 114 = .ok (.getfield 49, 3) := by decide +kernel
theorem dX8_pulseOfTime_117 : decode cX8_pulseOfTime 117 = .ok (.iload_n 1, 1) := by decide +kernel
theorem dX8_pulseOfTime_118 : decode cX8_pulseOfTime 118 = .ok (.iaload, 1) := by decide +kernel
theorem dX8_pulseOfTime_119 : decode cX8_pulseOfTime 119 = .ok (.iconst 4, 1) := by decide +kernel
theorem dX8_pulseOfTime_120 : decode cX8_pulseOfTime 120 = .ok (.isub, 1) := by decide +kernel
theorem dX8_pulseOfTime_121 : decode cX8_pulseOfTime 121 = .ok (.bipush 16, 2) := by decide +kernel
theorem dX8_pulseOfTime_123 : decode cX8_pulseOfTime 123 = .ok (.idiv, 1) := by decide +kernel
theorem dX8_pulseOfTime_124 : decode cX8_pulseOfTime 124 = .ok (.isub, 1) := by decide +kernel
theorem dX8_pulseOfTime_125 : decode cX8_pulseOfTime 125 = .ok (.istore_n 2, 1) := by decide +kernel
theorem dX8_pulseOfTime_126 : decode cX8_pulseOfTime 126 = .ok (.aload_n 0, 1) := by decide +kernel
theorem dX8_pulseOfTime_127 : decode cX8_pulseOfTime 127 = .ok (.getfield 52, 3) := by decide +kernel
theorem dX8_pulseOfTime_130 : decode cX8_pulseOfTime 130 = .ok (.iload_n 1, 1) := by decide +kernel
theorem dX8_pulseOfTime_131 : decode cX8_pulseOfTime 131 = .ok (.iload_n 2, 1) := by decide +kernel
theorem dX8_pulseOfTime_132 : decode cX8_pulseOfTime 132 = .ok (.sipush 1000, 3) := by decide +kernel
theorem dX8_pulseOfTime_135 : decode cX8_pulseOfTime 135 = .ok (.if_icmp .le 9, 3) := by decide +kernel
theorem dX8_pulseOfTime_138 : decode cX8_pulseOfTime 138 = .ok (.sipush 1000, 3) := by decide +kernel
theorem dX8_pulseOfTime_141 : decode cX8_pulseOfTime 141 = .ok (.goto 4, 3) := by decide +kernel
theorem dX8_pulseOfTime_144 : decode cX8_pulseOfTime 144 = .ok (.iload_n 2, 1) := by decide +kernel
theorem dX8_pulseOfTime_145 : decode cX8_pulseOfTime 145 = .ok (.iastore, 1) := by decide +kernel
theorem dX8_pulseOfTime_146 : decode cX8_pulseOfTime 146 = .ok (.iinc 1 1, 3) := by decide +kernel
theorem dX8_pulseOfTime_149 : decode cX8_pulseOfTime 149 = .ok (.goto (-136), 3) := by decide +kernel
theorem dX8_pulseOfTime_152 : decode cX8_pulseOfTime 152 = .ok (.iconst 0, 1) := by decide +kernel
theorem dX8_pulseOfTime_153 : decode cX8_pulseOfTime 153 = .ok (.istore_n 1, 1) := by decide +kernel
theorem dX8_pulseOfTime_154 : decode cX8_pulseOfTime 154 = .ok (.iload_n 1, 1) := by decide +kernel
theorem dX8_pulseOfTime_155 : decode cX8_pulseOfTime 155 = .ok (.bipush 12, 2) := by decide +kernel
theorem dX8_pulseOfTime_157 : decode cX8_pulseOfTime 157 = .ok (.if_icmp .ge 21, 3) := by decide +kernel
theorem dX8_pulseOfTime_160 : decode cX8_pulseOfTime 160 = .ok (.aload_n 0, 1) := by decide +kernel
theorem dX8_pulseOfTime_161 : decode cX8_pulseOfTime 161 = .ok (.getfield 49, 3) := by decide +kernel
theorem dX8_pulseOfTime_164 : decode cX8_pulseOfTime 164 = .ok (.iload_n 1, 1) := by decide +kernel
theorem dX8_pulseOfTime_165 : decode cX8_pulseOfTime 165 = .ok (.aload_n 0, 1) := by decide +kernel
theorem dX8_pulseOfTime_166 : decode cX8_pulseOfTime 166 = .ok (.getfield 52, 3) := by decide +kernel
theorem dX8_pulseOfTime_169 : decode cX8_pulseOfTime 169 = .ok (.iload_n 1, 1) := by decide +kernel
theorem dX8_pulseOfTime_170 : decode cX8_pulseOfTime 170 = .ok (.iaload, 1) := by decide +kernel
theorem dX8_pulseOfTime_171 : decode cX8_pulseOfTime 171 = .ok (.iastore, 1) := by decide +kernel
theorem dX8_pulseOfTime_172 : decode cX8_pulseOfTime 172 = .ok (.iinc 1 1, 3) := by decide +kernel
theorem dX8_pulseOfTime_175 : decode cX8_pulseOfTime 175 = .ok (.goto (-21), 3) := by decide +kernel
theorem dX8_pulseOfTime_178 : decode cX8_pulseOfTime 178 = .ok (.aload_n 0, 1) := by decide +kernel
theorem dX8_pulseOfTime_179 : decode cX8_pulseOfTime 179 = .ok (.aload_n 0, 1) := by decide +kernel
theorem dX8_pulseOfTime_180 : decode cX8_pulseOfTime 180 = .ok (.invokevirtual 179, 3) := by decide +kernel
theorem dX8_pulseOfTime_183 : decode cX8_pulseOfTime 183 = .ok (.invokestatic 100, 3) := by decide +kernel
theorem dX8_pulseOfTime_186 : decode cX8_pulseOfTime 186 = .ok (.iconst 2, 1) := by decide +kernel
theorem dX8_pulseOfTime_187 : decode cX8_pulseOfTime 187 = .ok (.if_icmp .lt 12, 3) := by decide +kernel
theorem dX8_pulseOfTime_190 : decode cX8_pulseOfTime 190 = .ok (.aload_n 0, 1) := by decide +kernel
theorem dX8_pulseOfTime_191 : decode cX8_pulseOfTime 191 = .ok (.getfield 154, 3) := by decide +kernel
theorem dX8_pulseOfTime_194 : decode cX8_pulseOfTime 194 = .ok (.iconst 1, 1) := by decide +kernel
theorem dX8_pulseOfTime_195 : decode cX8_pulseOfTime 195 = .ok (.iadd, 1) := by decide +kernel
theorem dX8_pulseOfTime_196 : decode cX8_pulseOfTime 196 = .ok (.goto 4, 3) := by decide +kernel
theorem dX8_pulseOfTime_199 : decode cX8_pulseOfTime 199 = .ok (.iconst 0, 1) := by decide +kernel
theorem dX8_pulseOfTime_200 : decode cX8_pulseOfTime 200 = .ok (.putfield 154, 3) := by decide +kernel
theorem dX8_pulseOfTime_203 : decode cX8_pulseOfTime 203 = .ok (.aload_n 0, 1) := by decide +kernel
theorem dX8_pulseOfTime_204 : decode cX8_pulseOfTime 204 = .ok (.aload_n 0, 1) := by decide +kernel
theorem dX8_pulseOfTime_205 : decode cX8_pulseOfTime 205 = .ok (.getfield 150, 3) := by decide +kernel
theorem dX8_pulseOfTime_208 : decode cX8_pulseOfTime 208 = .ok (.ifCond .ne 11, 3) := by decide +kernel
theorem dX8_pulseOfTime_211 : decode cX8_pulseOfTime 211 = .ok (.aload_n 0, 1) := by decide +kernel
theorem dX8_pulseOfTime_212 : decode cX8_pulseOfTime 212 = .ok (.getfield 154, 3) := by decide +kernel
theorem dX8_pulseOfTime_215 : decode cX8_pulseOfTime 215 = .ok (.iconst 3, 1) := by decide +kernel
theorem dX8_pulseOfTime_216 : decode cX8_pulseOfTime 216 = .ok (.if_icmp .lt 7, 3) := by decide +kernel
theorem dX8_pulseOfTime_219 : decode cX8_pulseOfTime 219 = .ok (.iconst 1, 1) := by decide +kernel
theorem dX8_pulseOfTime_220 : decode cX8_pulseOfTime 220 = .ok (.goto 4, 3) := by decide +kernel
theorem dX8_pulseOfTime_223 : decode cX8_pulseOfTime 223 = .ok (.iconst 0, 1) := by decide +kernel
theorem dX8_pulseOfTime_224 : decode cX8_pulseOfTime 224 = .ok (.putfield 150, 3) := by decide +kernel
theorem dX8_pulseOfTime_227 : decode cX8_pulseOfTime 227 = .ok (.return_, 1) := by decide +kernel
set_option maxRecDepth 20000 in
theorem ggX8_pass_X8_in : GoodIn wsX8_pass wsX8_in := goodIn_r _ [6] (by decide +kernel) (by decide +kernel)
set_option maxRecDepth 20000 in
theorem gX8_pass_X8_in : GoodIn wsX8_pass (va_wsS RX8 89 yX8_in wsX8_in) := goodIn_app (goodIn_of _ (by decide +kernel)) ggX8_pass_X8_in
set_option maxRecDepth 20000 in
theorem ggX8_pass_X8_stop : GoodIn wsX8_pass wsX8_stop := goodIn_r _ [10, 1, 45, 46, 47, 48, 49, 50, 51, 52, 53, 54, 55, 56, 57, 58, 59, 60, 61, 62, 63, 64, 65, 66, 67, 68, 69, 70, 71, 72, 73, 74, 75, 76, 77, 78, 79, 80, 81, 82, 83] (by decide +kernel) (by decide +kernel)
set_option maxRecDepth 20000 in
theorem gX8_pass_X8_stop : GoodIn wsX8_pass (wsV RX8 93 RX8 yX8_stop wsX8_stop) := goodIn_app (goodIn_of _ (by decide +kernel)) ggX8_pass_X8_stop
set_option maxRecDepth 20000 in
theorem ggX8_pass_X8_pulseOfTime : GoodIn wsX8_pass wsX8_pulseOfTime := goodIn_r _ [14, 15, 16, 2, 17, 18, 19, 20, 21, 5, 22, 23, 24, 25, 26, 27, 28, 29, 30, 31, 32, 33, 34, 35, 36, 37, 38, 39, 40, 41, 42, 43, 44, 45, 46, 47, 48, 49, 50, 51, 52, 53, 54, 55, 56, 57, 58, 59, 60, 61, 62, 63, 64, 65, 66, 67, 68, 69, 70, 71, 72, 73, 74, 75, 76, 77, 78, 79, 80, 81, 82, 83] (by decide +kernel) (by decide +kernel)
set_option maxRecDepth 20000 in
theorem gX8_pass_X8_pulseOfTime : GoodIn wsX8_pass (wsV RX8 182 RX8 yX8_pulseOfTime wsX8_pulseOfTime) := goodIn_app (goodIn_of _ (by decide +kernel)) ggX8_pass_X8_pulseOfTime
theorem dX8_pass_0 : decode cX8_pass 0 = .ok (.aload_n 0, 1) := by decide +kernel
theorem dX8_pass_1 : decode cX8_pass 1 = .ok (.iconst 0, 1) := by decide +kernel
theorem dX8_pass_2 : decode cX8_pass 2 = .ok (.putfield 86, 3) := by decide +kernel
theorem dX8_pass_5 : decode cX8_pass 5 = .ok (.iload_n 1, 1) := by decide +kernel
theorem dX8_pass_6 : decode cX8_pass 6 = .ok (.iconst 1, 1) := by decide +kernel
theorem dX8_pass_7 : decode cX8_pass 7 = .ok (.bipush 50, 2) := by decide +kernel
theorem dX8_pass_9 : decode cX8_pass 9 = .ok (.invokestatic 89, 3) := by decide +kernel
theorem dX8_pass_12 : decode cX8_pass 12 = .ok (.ifCond .ne 9, 3) := by decide +kernel
theorem dX8_pass_15 : decode cX8_pass 15 = .ok (.aload_n 0, 1) := by decide +kernel
theorem dX8_pass_16 : decode cX8_pass 16 = .ok (.iconst 1, 1) := by decide +kernel
theorem dX8_pass_17 : decode cX8_pass 17 = .ok (.invokevirtual 93, 3) := by decide +kernel
theorem dX8_pass_20 : decode cX8_pass 20 = .ok (.ireturn, 1) := by decide +kernel
theorem dX8_pass_21 : decode cX8_pass 21 = .ok (.iconst 0, 1) := by decide +kernel
theorem dX8_pass_22 : decode cX8_pass 22 = .ok (.istore_n 2, 1) := by decide +kernel
theorem dX8_pass_23 : decode cX8_pass 23 = .ok (.iload_n 2, 1) := by decide +kernel
theorem dX8_pass_24 : decode cX8_pass 24 = .ok (.iload_n 1, 1) := by decide +kernel
theorem dX8_pass_25 : decode cX8_pass 25 = .ok (.if_icmp .ge 13, 3) := by decide +kernel
theorem dX8_pass_28 : decode cX8_pass 28 = .ok (.aload_n 0, 1) := by decide +kernel
theorem dX8_pass_29 : decode cX8_pass 29 = .ok (.invokevirtual 182, 3) := by decide +kernel
theorem dX8_pass_32 : decode cX8_pass 32 = .ok (.iinc 2 1, 3) := by decide +kernel
theorem dX8_pass_35 : decode cX8_pass 35 = .ok (.goto (-12), 3) := by decide +kernel
theorem dX8_pass_38 : decode cX8_pass 38 = .ok (.aload_n 0, 1) := by decide +kernel
theorem dX8_pass_39 : decode cX8_pass 39 = .ok (.getfield 147, 3) := by decide +kernel
theorem dX8_pass_42 : decode cX8_pass 42 = .ok (.ireturn, 1) := by decide +kernel
set_option maxRecDepth 20000 in
theorem ggX8_warmth_X8_in : GoodIn wsX8_warmth wsX8_in := goodIn_r _ [6] (by decide +kernel) (by decide +kernel)
set_option maxRecDepth 20000 in
theorem gX8_warmth_X8_in : GoodIn wsX8_warmth (va_wsS RX8 89 yX8_in wsX8_in) := goodIn_app (goodIn_of _ (by decide +kernel)) ggX8_warmth_X8_in
set_option maxRecDepth 20000 in
theorem ggX8_warmth_X8_stop : GoodIn wsX8_warmth wsX8_stop := goodIn_r _ [10, 1, 11, 12, 13, 14, 15, 16, 17, 18, 19, 20, 21, 22, 23, 24, 25, 26, 27, 28, 29, 30, 31, 32, 33, 34, 35, 36, 37, 38, 39, 40, 41, 42, 43, 44, 45, 46, 47, 48, 49] (by decide +kernel) (by decide +kernel)
set_option maxRecDepth 20000 in
theorem gX8_warmth_X8_stop : GoodIn wsX8_warmth (wsV RX8 93 RX8 yX8_stop wsX8_stop) := goodIn_app (goodIn_of _ (by decide +kernel)) ggX8_warmth_X8_stop
theorem dX8_warmth_0 : decode cX8_warmth 0 = .ok (.aload_n 0, 1) := by decide +kernel
theorem dX8_warmth_1 : decode cX8_warmth 1 = .ok (.iconst 0, 1) := by decide +kernel
theorem dX8_warmth_2 : decode cX8_warmth 2 = .ok (.putfield 86, 3) := by decide +kernel
theorem dX8_warmth_5 : decode cX8_warmth 5 = .ok (.iload_n 1, 1) := by decide +kernel
theorem dX8_warmth_6 : decode cX8_warmth 6 = .ok (.iconst 0, 1) := by decide +kernel
theorem dX8_warmth_7 : decode cX8_warmth 7 = .ok (.bipush 11, 2) := by decide +kernel
theorem dX8_warmth_9 : decode cX8_warmth 9 = .ok (.invokestatic 89, 3) := by decide +kernel
theorem dX8_warmth_12 : decode cX8_warmth 12 = .ok (.ifCond .eq 12, 3) := by decide +kernel
theorem dX8_warmth_15 : decode cX8_warmth 15 = .ok (.aload_n 0, 1) := by decide +kernel
theorem dX8_warmth_16 : decode cX8_warmth 16 = .ok (.getfield 49, 3) := by decide +kernel
theorem dX8_warmth_19 : decode cX8_warmth 19 = .ok (.iload_n 1, 1) := by decide +kernel
theorem dX8_warmth_20 : decode cX8_warmth 20 = .ok (.iaload, 1) := by decide +kernel
theorem dX8_warmth_21 : decode cX8_warmth 21 = .ok (.goto 8, 3) := by decide +kernel
theorem dX8_warmth_24 : decode cX8_warmth 24 = .ok (.aload_n 0, 1) := by decide +kernel
theorem dX8_warmth_25 : decode cX8_warmth 25 = .ok (.iconst 1, 1) := by decide +kernel
theorem dX8_warmth_26 : decode cX8_warmth 26 = .ok (.invokevirtual 93, 3) := by decide +kernel
theorem dX8_warmth_29 : decode cX8_warmth 29 = .ok (.ireturn, 1) := by decide +kernel
set_option maxRecDepth 20000 in
theorem ggX8_ofCoil_X8_in : GoodIn wsX8_ofCoil wsX8_in := goodIn_r _ [8] (by decide +kernel) (by decide +kernel)
set_option maxRecDepth 20000 in
theorem gX8_ofCoil_X8_in : GoodIn wsX8_ofCoil (va_wsS RX8 89 yX8_in wsX8_in) := goodIn_app (goodIn_of _ (by decide +kernel)) ggX8_ofCoil_X8_in
set_option maxRecDepth 20000 in
theorem ggX8_ofCoil_X8_stop : GoodIn wsX8_ofCoil wsX8_stop := goodIn_r _ [12, 1, 32, 33, 34, 35, 36, 37, 38, 39, 40, 41, 42, 43, 44, 45, 46, 47, 48, 49, 50, 51, 52, 53, 54, 55, 56, 57, 58, 59, 60, 61, 62, 63, 64, 65, 66, 67, 68, 69, 70] (by decide +kernel) (by decide +kernel)
set_option maxRecDepth 20000 in
theorem gX8_ofCoil_X8_stop : GoodIn wsX8_ofCoil (wsV RX8 93 RX8 yX8_stop wsX8_stop) := goodIn_app (goodIn_of _ (by decide +kernel)) ggX8_ofCoil_X8_stop
set_option maxRecDepth 20000 in
theorem ggX8_ofCoil_X8_normals : GoodIn wsX8_ofCoil wsX8_normals := goodIn_r _ [16, 17, 18, 19, 7, 20, 21, 22, 32, 33, 34, 35, 36, 37, 38, 39, 40, 41, 42, 43, 44, 45, 46, 47, 48, 49, 50, 51, 52, 53, 54, 55, 56, 57, 58, 59, 60, 61, 62, 63, 64, 65, 66, 67, 68, 69, 70] (by decide +kernel) (by decide +kernel)
set_option maxRecDepth 20000 in
theorem gX8_ofCoil_X8_normals : GoodIn wsX8_ofCoil (wsV RX8 160 RX8 yX8_normals wsX8_normals) := goodIn_app (goodIn_of _ (by decide +kernel)) ggX8_ofCoil_X8_normals
set_option maxRecDepth 20000 in
theorem ggX8_ofCoil_X8_doubt : GoodIn wsX8_ofCoil wsX8_doubt := goodIn_r _ [26, 13, 14, 15, 7, 16, 17, 18, 19, 20, 21, 22, 32, 33, 34, 35, 36, 37, 38, 39, 40, 41, 42, 43, 44, 45, 46, 47, 48, 49, 50, 51, 52, 53, 54, 55, 56, 57, 58, 59, 60, 61, 62, 63, 64, 65, 66, 67, 68, 69, 70] (by decide +kernel) (by decide +kernel)
set_option maxRecDepth 20000 in
theorem gX8_ofCoil_X8_doubt : GoodIn wsX8_ofCoil (wsV RX8 179 RX8 yX8_doubt wsX8_doubt) := goodIn_app (goodIn_of _ (by decide +kernel)) ggX8_ofCoil_X8_doubt
set_option maxRecDepth 20000 in
theorem ggX8_ofCoil_X8_energyOfCoil : GoodIn wsX8_ofCoil wsX8_energyOfCoil := goodIn_r _ [30, 31, 22, 32, 33, 34, 35, 36, 37, 38, 39, 40, 41, 42, 43, 44, 45, 46, 47, 48, 49, 50, 51, 52, 53, 54, 55, 56, 57, 58, 59, 60, 61, 62, 63, 64, 65, 66, 67, 68, 69, 70] (by decide +kernel) (by decide +kernel)
set_option maxRecDepth 20000 in
theorem gX8_ofCoil_X8_energyOfCoil : GoodIn wsX8_ofCoil (wsV RX8 165 RX8 yX8_energyOfCoil wsX8_energyOfCoil) := goodIn_app (goodIn_of _ (by decide +kernel)) ggX8_ofCoil_X8_energyOfCoil
theorem dX8_ofCoil_0 : decode cX8_ofCoil 0 = .ok (.aload_n 0, 1) := by decide +kernel
theorem dX8_ofCoil_1 : decode cX8_ofCoil 1 = .ok (.iconst 0, 1) := by decide +kernel
theorem dX8_ofCoil_2 : decode cX8_ofCoil 2 = .ok (.putfield 86, 3) := by decide +kernel
theorem dX8_ofCoil_5 : decode cX8_ofCoil 5 = .ok (.iload_n 1, 1) := by decide +kernel
theorem dX8_ofCoil_6 : decode cX8_ofCoil 6 = .ok (.iconst 0, 1) := by decide +kernel
theorem dX8_ofCoil_7 : decode cX8_ofCoil 7 = .ok (.iconst 5, 1) := by decide +kernel
theorem dX8_ofCoil_8 : decode cX8_ofCoil 8 = .ok (.invokestatic 89, 3) := by decide +kernel
theorem dX8_ofCoil_11 : decode cX8_ofCoil 11 = .ok (.ifCond .ne 10, 3) := by decide +kernel
theorem dX8_ofCoil_14 : decode cX8_ofCoil 14 = .ok (.aload_n 0, 1) := by decide +kernel
theorem dX8_ofCoil_15 : decode cX8_ofCoil 15 = .ok (.iconst 1, 1) := by decide +kernel
theorem dX8_ofCoil_16 : decode cX8_ofCoil 16 = .ok (.invokevirtual 93, 3) := by decide +kernel
theorem dX8_ofCoil_19 : decode cX8_ofCoil 19 = .ok (.i2l, 1) := by decide +kernel
theorem dX8_ofCoil_20 : decode cX8_ofCoil 20 = .ok (.lreturn, 1) := by decide +kernel
theorem dX8_ofCoil_21 : decode cX8_ofCoil 21 = .ok (.iload_n 1, 1) := by decide +kernel
theorem dX8_ofCoil_22 : decode cX8_ofCoil 22 = .ok (.tableswitch 72 0 4 #[34, 43, 49, 62, 67], 34) := by decide +kernel
theorem dX8_ofCoil_56 : decode cX8_ofCoil 56 = .ok (.aload_n 0, 1) := by decide +kernel
theorem dX8_ofCoil_57 : decode cX8_ofCoil 57 = .ok (.iconst 0, 1) := by decide +kernel
theorem dX8_ofCoil_58 : decode cX8_ofCoil 58 = .ok (.bipush 11, 2) := by decide +kernel
theorem dX8_ofCoil_60 : decode cX8_ofCoil 60 = .ok (.invokevirtual 160, 3) := by decide +kernel
theorem dX8_ofCoil_63 : decode cX8_ofCoil 63 = .ok (.i2l, 1) := by decide +kernel
theorem dX8_ofCoil_64 : decode cX8_ofCoil 64 = .ok (.lreturn, 1) := by decide +kernel
theorem dX8_ofCoil_65 : decode cX8_ofCoil 65 = .ok (.aload_n 0, 1) := by decide +kernel
theorem dX8_ofCoil_66 : decode cX8_ofCoil 66 = .ok (.invokevirtual 179, 3) := by decide +kernel
theorem dX8_ofCoil_69 : decode cX8_ofCoil 69 = .ok (.i2l, 1) := by decide +kernel
theorem dX8_ofCoil_70 : decode cX8_ofCoil 70 = .ok (.lreturn, 1) := by decide +kernel
theorem dX8_ofCoil_71 : decode cX8_ofCoil 71 = .ok (.aload_n 0, 1) := by decide +kernel
theorem dX8_ofCoil_72 : decode cX8_ofCoil 72 = .ok (.getfield 150, 3) := by decide +kernel
theorem dX8_ofCoil_75 : decode cX8_ofCoil 75 = .ok (.ifCond .eq 7, 3) := by decide +kernel
theorem dX8_ofCoil_78 : decode cX8_ofCoil 78 = .ok (.lconst 1, 1) := by decide +kernel
theorem dX8_ofCoil_79 : decode cX8_ofCoil 79 = .ok (.goto 4, 3) := by decide +kernel
theorem dX8_ofCoil_82 : decode cX8_ofCoil 82 = .ok (.lconst 0, 1) := by decide +kernel
theorem dX8_ofCoil_83 : decode cX8_ofCoil 83 = .ok (.lreturn, 1) := by decide +kernel
theorem dX8_ofCoil_84 : decode cX8_ofCoil 84 = .ok (.aload_n 0, 1) := by decide +kernel
theorem dX8_ofCoil_85 : decode cX8_ofCoil 85 = .ok (.getfield 169, 3) := by decide +kernel
theorem dX8_ofCoil_88 : decode cX8_ofCoil 88 = .ok (.lreturn, 1) := by decide +kernel
theorem dX8_ofCoil_89 : decode cX8_ofCoil 89 = .ok (.aload_n 0, 1) := by decide +kernel
theorem dX8_ofCoil_90 : decode cX8_ofCoil 90 = .ok (.getfield 173, 3) := by decide +kernel
theorem dX8_ofCoil_93 : decode cX8_ofCoil 93 = .ok (.lreturn, 1) := by decide +kernel
theorem dX8_ofCoil_94 : decode cX8_ofCoil 94 = .ok (.aload_n 0, 1) := by decide +kernel
theorem dX8_ofCoil_95 : decode cX8_ofCoil 95 = .ok (.invokevirtual 165, 3) := by decide +kernel
theorem dX8_ofCoil_98 : decode cX8_ofCoil 98 = .ok (.lreturn, 1) := by decide +kernel
theorem dX8_share_0 : decode cX8_share 0 = .ok (.aload_n 0, 1) := by decide +kernel
theorem dX8_share_1 : decode cX8_share 1 = .ok (.iconst 0, 1) := by decide +kernel
theorem dX8_share_2 : decode cX8_share 2 = .ok (.putfield 86, 3) := by decide +kernel
theorem dX8_share_5 : decode cX8_share 5 = .ok (.aload_n 0, 1) := by decide +kernel
theorem dX8_share_6 : decode cX8_share 6 = .ok (.getfield 169, 3) := by decide +kernel
theorem dX8_share_9 : decode cX8_share 9 = .ok (.aload_n 0, 1) := by decide +kernel
theorem dX8_share_10 : decode cX8_share 10 = .ok (.getfield 173, 3) := by decide +kernel
theorem dX8_share_13 : decode cX8_share 13 = .ok (.ladd, 1) := by decide +kernel
theorem dX8_share_14 : decode cX8_share 14 = .ok (.lconst 0, 1) := by decide +kernel
theorem dX8_share_15 : decode cX8_share 15 = .ok (.lcmp, 1) := by decide +kernel
theorem dX8_share_16 : decode cX8_share 16 = .ok (.ifCond .ne 7, 3) := by decide +kernel
theorem dX8_share_19 : decode cX8_share 19 = .ok (.dconst 0, 1) := by decide +kernel
theorem dX8_share_20 : decode cX8_share 20 = .ok (.goto 19, 3) := by decide +kernel
theorem dX8_share_23 : decode cX8_share 23 = .ok (.aload_n 0, 1) := by decide +kernel
theorem dX8_share_24 : decode cX8_share 24 = .ok (.getfield 169, 3) := by decide +kernel
theorem dX8_share_27 : decode cX8_share 27 = .ok (.l2d, 1) := by decide +kernel
theorem dX8_share_28 : decode cX8_share 28 = .ok (.aload_n 0, 1) := by decide +kernel
theorem dX8_share_29 : decode cX8_share 29 = .ok (.getfield 169, 3) := by decide +kernel
theorem dX8_share_32 : decode cX8_share 32 = .ok (.aload_n 0, 1) := by decide +kernel
theorem dX8_share_33 : decode cX8_share 33 = .ok (.getfield 173, 3) := by decide +kernel
theorem dX8_share_36 : decode cX8_share 36 = .ok (.ladd, 1) := by decide +kernel
theorem dX8_share_37 : decode cX8_share 37 = .ok (.l2d, 1) := by decide +kernel
theorem dX8_share_38 : decode cX8_share 38 = .ok (.ddiv, 1) := by decide +kernel
theorem dX8_share_39 : decode cX8_share 39 = .ok (.dreturn, 1) := by decide +kernel
set_option maxRecDepth 20000 in
theorem ggX8_margins_X8_in : GoodIn wsX8_margins wsX8_in := goodIn_r _ [7] (by decide +kernel) (by decide +kernel)
set_option maxRecDepth 20000 in
theorem gX8_margins_X8_in : GoodIn wsX8_margins (va_wsS RX8 89 yX8_in wsX8_in) := goodIn_app (goodIn_of _ (by decide +kernel)) ggX8_margins_X8_in
set_option maxRecDepth 20000 in
theorem ggX8_margins_X8_stop : GoodIn wsX8_margins wsX8_stop := goodIn_r _ [11, 1, 12, 13, 14, 15, 16, 17, 18, 19, 20, 21, 22, 23, 24, 25, 26, 27, 28, 29, 30, 31, 32, 33, 34, 35, 36, 37, 38, 39, 40, 41, 42, 43, 44, 45, 46, 47, 48, 49, 50] (by decide +kernel) (by decide +kernel)
set_option maxRecDepth 20000 in
theorem gX8_margins_X8_stop : GoodIn wsX8_margins (wsV RX8 93 RX8 yX8_stop wsX8_stop) := goodIn_app (goodIn_of _ (by decide +kernel)) ggX8_margins_X8_stop
theorem dX8_margins_0 : decode cX8_margins 0 = .ok (.aload_n 0, 1) := by decide +kernel
theorem dX8_margins_1 : decode cX8_margins 1 = .ok (.iconst 0, 1) := by decide +kernel
theorem dX8_margins_2 : decode cX8_margins 2 = .ok (.putfield 86, 3) := by decide +kernel
theorem dX8_margins_5 : decode cX8_margins 5 = .ok (.iload_n 1, 1) := by decide +kernel
theorem dX8_margins_6 : decode cX8_margins 6 = .ok (.iconst 0, 1) := by decide +kernel
theorem dX8_margins_7 : decode cX8_margins 7 = .ok (.sipush 1000, 3) := by decide +kernel
theorem dX8_margins_10 : decode cX8_margins 10 = .ok (.invokestatic 89, 3) := by decide +kernel
theorem dX8_margins_13 : decode cX8_margins 13 = .ok (.ifCond .eq 14, 3) := by decide +kernel
theorem dX8_margins_16 : decode cX8_margins 16 = .ok (.iload_n 2, 1) := by decide +kernel
theorem dX8_margins_17 : decode cX8_margins 17 = .ok (.iload_n 1, 1) := by decide +kernel
theorem dX8_margins_18 : decode cX8_margins 18 = .ok (.sipush 1000, 3) := by decide +kernel
theorem dX8_margins_21 : decode cX8_margins 21 = .ok (.invokestatic 89, 3) := by decide +kernel
theorem dX8_margins_24 : decode cX8_margins 24 = .ok (.ifCond .ne 10, 3) := by decide +kernel
theorem dX8_margins_27 : decode cX8_margins 27 = .ok (.aload_n 0, 1) := by decide +kernel
theorem dX8_margins_28 : decode cX8_margins 28 = .ok (.iconst 1, 1) := by decide +kernel
theorem dX8_margins_29 : decode cX8_margins 29 = .ok (.invokevirtual 93, 3) := by decide +kernel
theorem dX8_margins_32 : decode cX8_margins 32 = .ok (.pop, 1) := by decide +kernel
theorem dX8_margins_33 : decode cX8_margins 33 = .ok (.return_, 1) := by decide +kernel
theorem dX8_margins_34 : decode cX8_margins 34 = .ok (.aload_n 0, 1) := by decide +kernel
theorem dX8_margins_35 : decode cX8_margins 35 = .ok (.iload_n 1, 1) := by decide +kernel
theorem dX8_margins_36 : decode cX8_margins 36 = .ok (.putfield 55, 3) := by decide +kernel
theorem dX8_margins_39 : decode cX8_margins 39 = .ok (.aload_n 0, 1) := by decide +kernel
theorem dX8_margins_40 : decode cX8_margins 40 = .ok (.iload_n 2, 1) := by decide +kernel
theorem dX8_margins_41 : decode cX8_margins 41 = .ok (.putfield 59, 3) := by decide +kernel
theorem dX8_margins_44 : decode cX8_margins 44 = .ok (.return_, 1) := by decide +kernel
set_option maxRecDepth 20000 in
theorem ggX8_pulse_X8_in : GoodIn wsX8_pulse wsX8_in := goodIn_r _ [9] (by decide +kernel) (by decide +kernel)
set_option maxRecDepth 20000 in
theorem gX8_pulse_X8_in : GoodIn wsX8_pulse (va_wsS RX8 89 yX8_in wsX8_in) := goodIn_app (goodIn_of _ (by decide +kernel)) ggX8_pulse_X8_in
set_option maxRecDepth 20000 in
theorem ggX8_pulse_X8_stop : GoodIn wsX8_pulse wsX8_stop := goodIn_r _ [13, 1, 14, 15, 16, 17, 18, 19, 20, 21, 22, 23, 24, 25, 26, 27, 28, 29, 30, 31, 32, 33, 34, 35, 36, 37, 38, 39, 40, 41, 42, 43, 44, 45, 46, 47, 48, 49, 50, 51, 52] (by decide +kernel) (by decide +kernel)
set_option maxRecDepth 20000 in
theorem gX8_pulse_X8_stop : GoodIn wsX8_pulse (wsV RX8 93 RX8 yX8_stop wsX8_stop) := goodIn_app (goodIn_of _ (by decide +kernel)) ggX8_pulse_X8_stop
theorem dX8_pulse_0 : decode cX8_pulse 0 = .ok (.aload_n 0, 1) := by decide +kernel
theorem dX8_pulse_1 : decode cX8_pulse 1 = .ok (.iconst 0, 1) := by decide +kernel
theorem dX8_pulse_2 : decode cX8_pulse 2 = .ok (.putfield 86, 3) := by decide +kernel
theorem dX8_pulse_5 : decode cX8_pulse 5 = .ok (.iload_n 1, 1) := by decide +kernel
theorem dX8_pulse_6 : decode cX8_pulse 6 = .ok (.iconst 1, 1) := by decide +kernel
theorem dX8_pulse_7 : decode cX8_pulse 7 = .ok (.sipush 1000, 3) := by decide +kernel
theorem dX8_pulse_10 : decode cX8_pulse 10 = .ok (.invokestatic 89, 3) := by decide +kernel
theorem dX8_pulse_13 : decode cX8_pulse 13 = .ok (.ifCond .eq 14, 3) := by decide +kernel
theorem dX8_pulse_16 : decode cX8_pulse 16 = .ok (.iload_n 2, 1) := by decide +kernel
theorem dX8_pulse_17 : decode cX8_pulse 17 = .ok (.iconst 0, 1) := by decide +kernel
theorem dX8_pulse_18 : decode cX8_pulse 18 = .ok (.sipush 1000, 3) := by decide +kernel
theorem dX8_pulse_21 : decode cX8_pulse 21 = .ok (.invokestatic 89, 3) := by decide +kernel
theorem dX8_pulse_24 : decode cX8_pulse 24 = .ok (.ifCond .ne 9, 3) := by decide +kernel
theorem dX8_pulse_27 : decode cX8_pulse 27 = .ok (.aload_n 0, 1) := by decide +kernel
theorem dX8_pulse_28 : decode cX8_pulse 28 = .ok (.iconst 1, 1) := by decide +kernel
theorem dX8_pulse_29 : decode cX8_pulse 29 = .ok (.invokevirtual 93, 3) := by decide +kernel
theorem dX8_pulse_32 : decode cX8_pulse 32 = .ok (.ireturn, 1) := by decide +kernel
theorem dX8_pulse_33 : decode cX8_pulse 33 = .ok (.iload_n 1, 1) := by decide +kernel
theorem dX8_pulse_34 : decode cX8_pulse 34 = .ok (.iconst 5, 1) := by decide +kernel
theorem dX8_pulse_35 : decode cX8_pulse 35 = .ok (.if_icmp .lt 11, 3) := by decide +kernel
theorem dX8_pulse_38 : decode cX8_pulse 38 = .ok (.iload_n 2, 1) := by decide +kernel
theorem dX8_pulse_39 : decode cX8_pulse 39 = .ok (.aload_n 0, 1) := by decide +kernel
theorem dX8_pulse_40 : decode cX8_pulse 40 = .ok (.getfield 55, 3) := by decide +kernel
theorem dX8_pulse_43 : decode cX8_pulse 43 = .ok (.if_icmp .ge 7, 3) := by decide +kernel
theorem dX8_pulse_46 : decode cX8_pulse 46 = .ok (.iconst 0, 1) := by decide +kernel
theorem dX8_pulse_47 : decode cX8_pulse 47 = .ok (.goto 16, 3) := by decide +kernel
theorem dX8_pulse_50 : decode cX8_pulse 50 = .ok (.iload_n 2, 1) := by decide +kernel
theorem dX8_pulse_51 : decode cX8_pulse 51 = .ok (.aload_n 0, 1) := by decide +kernel
theorem dX8_pulse_52 : decode cX8_pulse 52 = .ok (.getfield 59, 3) := by decide +kernel
theorem dX8_pulse_55 : decode cX8_pulse 55 = .ok (.if_icmp .le 7, 3) := by decide +kernel
theorem dX8_pulse_58 : decode cX8_pulse 58 = .ok (.iconst 2, 1) := by decide +kernel
theorem dX8_pulse_59 : decode cX8_pulse 59 = .ok (.goto 4, 3) := by decide +kernel
theorem dX8_pulse_62 : decode cX8_pulse 62 = .ok (.iconst 1, 1) := by decide +kernel
theorem dX8_pulse_63 : decode cX8_pulse 63 = .ok (.istore_n 3, 1) := by decide +kernel
theorem dX8_pulse_64 : decode cX8_pulse 64 = .ok (.aload_n 0, 1) := by decide +kernel
theorem dX8_pulse_65 : decode cX8_pulse 65 = .ok (.aload_n 0, 1) := by decide +kernel
theorem dX8_pulse_66 : decode cX8_pulse 66 = .ok (.getfield 185, 3) := by decide +kernel
theorem dX8_pulse_69 : decode cX8_pulse 69 = .ok (.iload_n 3, 1) := by decide +kernel
theorem dX8_pulse_70 : decode cX8_pulse 70 = .ok (.iadd, 1) := by decide +kernel
theorem dX8_pulse_71 : decode cX8_pulse 71 = .ok (.ldc 188, 2) := by decide +kernel
theorem dX8_pulse_73 : decode cX8_pulse 73 = .ok (.irem, 1) := by decide +kernel
theorem dX8_pulse_74 : decode cX8_pulse 74 = .ok (.putfield 185, 3) := by decide +kernel
theorem dX8_pulse_77 : decode cX8_pulse 77 = .ok (.aload_n 0, 1) := by decide +kernel
theorem dX8_pulse_78 : decode cX8_pulse 78 = .ok (.getfield 185, 3) := by decide +kernel
theorem dX8_pulse_81 : decode cX8_pulse 81 = .ok (.ireturn, 1) := by decide +kernel
set_option maxRecDepth 20000 in
theorem ggX8_bit_X8_in : GoodIn wsX8_bit wsX8_in := goodIn_r _ [6] (by decide +kernel) (by decide +kernel)
set_option maxRecDepth 20000 in
theorem gX8_bit_X8_in : GoodIn wsX8_bit (va_wsS RX8 89 yX8_in wsX8_in) := goodIn_app (goodIn_of _ (by decide +kernel)) ggX8_bit_X8_in
set_option maxRecDepth 20000 in
theorem ggX8_bit_X8_stop : GoodIn wsX8_bit wsX8_stop := goodIn_r _ [10, 1, 11, 12, 13, 14, 15, 16, 17, 18, 19, 20, 21, 22, 23, 24, 25, 26, 27, 28, 29, 30, 31, 32, 33, 34, 35, 36, 37, 38, 39, 40, 41, 42, 43, 44, 45, 46, 47, 48, 49] (by decide +kernel) (by decide +kernel)
set_option maxRecDepth 20000 in
theorem gX8_bit_X8_stop : GoodIn wsX8_bit (wsV RX8 93 RX8 yX8_stop wsX8_stop) := goodIn_app (goodIn_of _ (by decide +kernel)) ggX8_bit_X8_stop
theorem dX8_bit_0 : decode cX8_bit 0 = .ok (.aload_n 0, 1) := by decide +kernel
theorem dX8_bit_1 : decode cX8_bit 1 = .ok (.iconst 0, 1) := by decide +kernel
theorem dX8_bit_2 : decode cX8_bit 2 = .ok (.putfield 86, 3) := by decide +kernel
theorem dX8_bit_5 : decode cX8_bit 5 = .ok (.iload_n 1, 1) := by decide +kernel
theorem dX8_bit_6 : decode cX8_bit 6 = .ok (.iconst 0, 1) := by decide +kernel
theorem dX8_bit_7 : decode cX8_bit 7 = .ok (.bipush 15, 2) := by decide +kernel
theorem dX8_bit_9 : decode cX8_bit 9 = .ok (.invokestatic 89, 3) := by decide +kernel
theorem dX8_bit_12 : decode cX8_bit 12 = .ok (.ifCond .eq 14, 3) := by decide +kernel
theorem dX8_bit_15 : decode cX8_bit 15 = .ok (.aload_n 0, 1) := by decide +kernel
theorem dX8_bit_16 : decode cX8_bit 16 = .ok (.getfield 185, 3) := by decide +kernel
theorem dX8_bit_19 : decode cX8_bit 19 = .ok (.iload_n 1, 1) := by decide +kernel
theorem dX8_bit_20 : decode cX8_bit 20 = .ok (.ishr, 1) := by decide +kernel
theorem dX8_bit_21 : decode cX8_bit 21 = .ok (.iconst 1, 1) := by decide +kernel
theorem dX8_bit_22 : decode cX8_bit 22 = .ok (.iand, 1) := by decide +kernel
theorem dX8_bit_23 : decode cX8_bit 23 = .ok (.goto 8, 3) := by decide +kernel
theorem dX8_bit_26 : decode cX8_bit 26 = .ok (.aload_n 0, 1) := by decide +kernel
theorem dX8_bit_27 : decode cX8_bit 27 = .ok (.iconst 1, 1) := by decide +kernel
theorem dX8_bit_28 : decode cX8_bit 28 = .ok (.invokevirtual 93, 3) := by decide +kernel
theorem dX8_bit_31 : decode cX8_bit 31 = .ok (.ireturn, 1) := by decide +kernel
set_option maxRecDepth 20000 in
theorem ggX8_point_X8_in : GoodIn wsX8_point wsX8_in := goodIn_r _ [11] (by decide +kernel) (by decide +kernel)
set_option maxRecDepth 20000 in
theorem gX8_point_X8_in : GoodIn wsX8_point (va_wsS RX8 89 yX8_in wsX8_in) := goodIn_app (goodIn_of _ (by decide +kernel)) ggX8_point_X8_in
set_option maxRecDepth 20000 in
theorem ggX8_point_X8_stop : GoodIn wsX8_point wsX8_stop := goodIn_r _ [15, 1, 16, 17, 18, 19, 20, 21, 22, 23, 24, 25, 26, 27, 28, 29, 30, 31, 32, 33, 34, 35, 36, 37, 38, 39, 40, 41, 42, 43, 44, 45, 46, 47, 48, 49, 50, 51, 52, 53, 54] (by decide +kernel) (by decide +kernel)
set_option maxRecDepth 20000 in
theorem gX8_point_X8_stop : GoodIn wsX8_point (wsV RX8 93 RX8 yX8_stop wsX8_stop) := goodIn_app (goodIn_of _ (by decide +kernel)) ggX8_point_X8_stop
theorem dX8_point_0 : decode cX8_point 0 = .ok (.aload_n 0, 1) := by decide +kernel
theorem dX8_point_1 : decode cX8_point 1 = .ok (.iconst 0, 1) := by decide +kernel
theorem dX8_point_2 : decode cX8_point 2 = .ok (.putfield 86, 3) := by decide +kernel
theorem dX8_point_5 : decode cX8_point 5 = .ok (.iload_n 1, 1) := by decide +kernel
theorem dX8_point_6 : decode cX8_point 6 = .ok (.iconst 0, 1) := by decide +kernel
theorem dX8_point_7 : decode cX8_point 7 = .ok (.sipush 300, 3) := by decide +kernel
theorem dX8_point_10 : decode cX8_point 10 = .ok (.invokestatic 89, 3) := by decide +kernel
theorem dX8_point_13 : decode cX8_point 13 = .ok (.ifCond .eq 27, 3) := by decide +kernel
theorem dX8_point_16 : decode cX8_point 16 = .ok (.iload_n 2, 1) := by decide +kernel
theorem dX8_point_17 : decode cX8_point 17 = .ok (.sipush (-1000), 3) := by decide +kernel
theorem dX8_point_20 : decode cX8_point 20 = .ok (.sipush 1000, 3) := by decide +kernel
theorem dX8_point_23 : decode cX8_point 23 = .ok (.invokestatic 89, 3) := by decide +kernel
theorem dX8_point_26 : decode cX8_point 26 = .ok (.ifCond .eq 14, 3) := by decide +kernel
theorem dX8_point_29 : decode cX8_point 29 = .ok (.iload_n 3, 1) := by decide +kernel
theorem dX8_point_30 : decode cX8_point 30 = .ok (.ldc 142, 2) := by decide +kernel
theorem dX8_point_32 : decode cX8_point 32 = .ok (.ldc 143, 2) := by decide +kernel
theorem dX8_point_34 : decode cX8_point 34 = .ok (.invokestatic 89, 3) := by decide +kernel
theorem dX8_point_37 : decode cX8_point 37 = .ok (.ifCond .ne 9, 3) := by decide +kernel
theorem dX8_point_40 : decode cX8_point 40 = .ok (.aload_n 0, 1) := by decide +kernel
theorem dX8_point_41 : decode cX8_point 41 = .ok (.iconst 1, 1) := by decide +kernel
theorem dX8_point_42 : decode cX8_point 42 = .ok (.invokevirtual 93, 3) := by decide +kernel
theorem dX8_point_45 : decode cX8_point 45 = .ok (.ireturn, 1) := by decide +kernel
theorem dX8_point_46 : decode cX8_point 46 = .ok (.aload_n 0, 1) := by decide +kernel
theorem dX8_point_47 : decode cX8_point 47 = .ok (.getfield 189, 3) := by decide +kernel
theorem dX8_point_50 : decode cX8_point 50 = .ok (.bipush 60, 2) := by decide +kernel
theorem dX8_point_52 : decode cX8_point 52 = .ok (.if_icmp .ne 9, 3) := by decide +kernel
theorem dX8_point_55 : decode cX8_point 55 = .ok (.aload_n 0, 1) := by decide +kernel
theorem dX8_point_56 : decode cX8_point 56 = .ok (.iconst 2, 1) := by decide +kernel
theorem dX8_point_57 : decode cX8_point 57 = .ok (.invokevirtual 93, 3) := by decide +kernel
theorem dX8_point_60 : decode cX8_point 60 = .ok (.ireturn, 1) := by decide +kernel
theorem dX8_point_61 : decode cX8_point 61 = .ok (.aload_n 0, 1) := by decide +kernel
theorem dX8_point_62 : decode cX8_point 62 = .ok (.getfield 62, 3) := by decide +kernel
theorem dX8_point_65 : decode cX8_point 65 = .ok (.aload_n 0, 1) := by decide +kernel
theorem dX8_point_66 : decode cX8_point 66 = .ok (.getfield 189, 3) := by decide +kernel
theorem dX8_point_69 : decode cX8_point 69 = .ok (.iload_n 1, 1) := by decide +kernel
theorem dX8_point_70 : decode cX8_point 70 = .ok (.iastore, 1) := by decide +kernel
theorem dX8_point_71 : decode cX8_point 71 = .ok (.aload_n 0, 1) := by decide +kernel
theorem dX8_point_72 : decode cX8_point 72 = .ok (.getfield 65, 3) := by decide +kernel
theorem dX8_point_75 : decode cX8_point 75 = .ok (.aload_n 0, 1) := by decide +kernel
theorem dX8_point_76 : decode cX8_point 76 = .ok (.getfield 189, 3) := by decide +kernel
theorem dX8_point_79 : decode cX8_point 79 = .ok (.iload_n 2, 1) := by decide +kernel
theorem dX8_point_80 : decode cX8_point 80 = .ok (.iastore, 1) := by decide +kernel
theorem dX8_point_81 : decode cX8_point 81 = .ok (.aload_n 0, 1) := by decide +kernel
theorem dX8_point_82 : decode cX8_point 82 = .ok (.getfield 68, 3) := by decide +kernel
theorem dX8_point_85 : decode cX8_point 85 = .ok (.aload_n 0, 1) := by decide +kernel
theorem dX8_point_86 : decode cX8_point 86 = .ok (.getfield 189, 3) := by decide +kernel
theorem dX8_point_89 : decode cX8_point 89 = .ok (.iload_n 3, 1) := by decide +kernel
theorem dX8_point_90 : decode cX8_point 90 = .ok (.iastore, 1) := by decide +kernel
theorem dX8_point_91 : decode cX8_point 91 = .ok (.aload_n 0, 1) := by decide +kernel
theorem dX8_point_92 : decode cX8_point 92 = .ok (.dup, 1) := by decide +kernel
theorem dX8_point_93 : decode cX8_point 93 = .ok (.getfield 189, 3) := by decide +kernel
theorem dX8_point_96 : decode cX8_point 96 = .ok (.iconst 1, 1) := by decide +kernel
theorem dX8_point_97 : decode cX8_point 97 = .ok (.iadd, 1) := by decide +kernel
theorem dX8_point_98 : decode cX8_point 98 = .ok (.putfield 189, 3) := by decide +kernel
theorem dX8_point_101 : decode cX8_point 101 = .ok (.aload_n 0, 1) := by decide +kernel
theorem dX8_point_102 : decode cX8_point 102 = .ok (.getfield 189, 3) := by decide +kernel
theorem dX8_point_105 : decode cX8_point 105 = .ok (.ireturn, 1) := by decide +kernel
set_option maxRecDepth 20000 in
theorem ggX8_claim_X8_in : GoodIn wsX8_claim wsX8_in := goodIn_r _ [11] (by decide +kernel) (by decide +kernel)
set_option maxRecDepth 20000 in
theorem gX8_claim_X8_in : GoodIn wsX8_claim (va_wsS RX8 89 yX8_in wsX8_in) := goodIn_app (goodIn_of _ (by decide +kernel)) ggX8_claim_X8_in
set_option maxRecDepth 20000 in
theorem ggX8_claim_X8_stop : GoodIn wsX8_claim wsX8_stop := goodIn_r _ [15, 1, 16, 17, 18, 19, 20, 21, 22, 23, 24, 25, 26, 27, 28, 29, 30, 31, 32, 33, 34, 35, 36, 37, 38, 39, 40, 41, 42, 43, 44, 45, 46, 47, 48, 49, 50, 51, 52, 53, 54] (by decide +kernel) (by decide +kernel)
set_option maxRecDepth 20000 in
theorem gX8_claim_X8_stop : GoodIn wsX8_claim (wsV RX8 93 RX8 yX8_stop wsX8_stop) := goodIn_app (goodIn_of _ (by decide +kernel)) ggX8_claim_X8_stop
theorem dX8_claim_0 : decode cX8_claim 0 = .ok (.aload_n 0, 1) := by decide +kernel
theorem dX8_claim_1 : decode cX8_claim 1 = .ok (.iconst 0, 1) := by decide +kernel
theorem dX8_claim_2 : decode cX8_claim 2 = .ok (.putfield 86, 3) := by decide +kernel
theorem dX8_claim_5 : decode cX8_claim 5 = .ok (.iload_n 2, 1) := by decide +kernel
theorem dX8_claim_6 : decode cX8_claim 6 = .ok (.iconst 0, 1) := by decide +kernel
theorem dX8_claim_7 : decode cX8_claim 7 = .ok (.aload_n 0, 1) := by decide +kernel
theorem dX8_claim_8 : decode cX8_claim 8 = .ok (.getfield 189, 3) := by decide +kernel
theorem dX8_claim_11 : decode cX8_claim 11 = .ok (.iconst 1, 1) := by decide +kernel
theorem dX8_claim_12 : decode cX8_claim 12 = .ok (.isub, 1) := by decide +kernel
theorem dX8_claim_13 : decode cX8_claim 13 = .ok (.invokestatic 89, 3) := by decide +kernel
theorem dX8_claim_16 : decode cX8_claim 16 = .ok (.ifCond .eq 17, 3) := by decide +kernel
theorem dX8_claim_19 : decode cX8_claim 19 = .ok (.iload_n 3, 1) := by decide +kernel
theorem dX8_claim_20 : decode cX8_claim 20 = .ok (.iconst 0, 1) := by decide +kernel
theorem dX8_claim_21 : decode cX8_claim 21 = .ok (.aload_n 0, 1) := by decide +kernel
theorem dX8_claim_22 : decode cX8_claim 22 = .ok (.getfield 189, 3) := by decide +kernel
theorem dX8_claim_25 : decode cX8_claim 25 = .ok (.iconst 1, 1) := by decide +kernel
theorem dX8_claim_26 : decode cX8_claim 26 = .ok (.isub, 1) := by decide +kernel
theorem dX8_claim_27 : decode cX8_claim 27 = .ok (.invokestatic 89, 3) := by decide +kernel
theorem dX8_claim_30 : decode cX8_claim 30 = .ok (.ifCond .ne 9, 3) := by decide +kernel
theorem dX8_claim_33 : decode cX8_claim 33 = .ok (.aload_n 0, 1) := by decide +kernel
theorem dX8_claim_34 : decode cX8_claim 34 = .ok (.iconst 1, 1) := by decide +kernel
theorem dX8_claim_35 : decode cX8_claim 35 = .ok (.invokevirtual 93, 3) := by decide +kernel
theorem dX8_claim_38 : decode cX8_claim 38 = .ok (.ireturn, 1) := by decide +kernel
theorem dX8_claim_39 : decode cX8_claim 39 = .ok (.iload_n 1, 1) := by decide +kernel
theorem dX8_claim_40 : decode cX8_claim 40 = .ok (.iconst 1, 1) := by decide +kernel
theorem dX8_claim_41 : decode cX8_claim 41 = .ok (.sipush 300, 3) := by decide +kernel
theorem dX8_claim_44 : decode cX8_claim 44 = .ok (.invokestatic 89, 3) := by decide +kernel
theorem dX8_claim_47 : decode cX8_claim 47 = .ok (.ifCond .eq 8, 3) := by decide +kernel
theorem dX8_claim_50 : decode cX8_claim 50 = .ok (.iload_n 3, 1) := by decide +kernel
theorem dX8_claim_51 : decode cX8_claim 51 = .ok (.iload_n 2, 1) := by decide +kernel
theorem dX8_claim_52 : decode cX8_claim 52 = .ok (.if_icmp .ge 9, 3) := by decide +kernel
theorem dX8_claim_55 : decode cX8_claim 55 = .ok (.aload_n 0, 1) := by decide +kernel
theorem dX8_claim_56 : decode cX8_claim 56 = .ok (.iconst 2, 1) := by decide +kernel
theorem dX8_claim_57 : decode cX8_claim 57 = .ok (.invokevirtual 93, 3) := by decide +kernel
theorem dX8_claim_60 : decode cX8_claim 60 = .ok (.ireturn, 1) := by decide +kernel
theorem dX8_claim_61 : decode cX8_claim 61 = .ok (.aload_n 0, 1) := by decide +kernel
theorem dX8_claim_62 : decode cX8_claim 62 = .ok (.getfield 192, 3) := by decide +kernel
theorem dX8_claim_65 : decode cX8_claim 65 = .ok (.bipush 8, 2) := by decide +kernel
theorem dX8_claim_67 : decode cX8_claim 67 = .ok (.if_icmp .ne 9, 3) := by decide +kernel
theorem dX8_claim_70 : decode cX8_claim 70 = .ok (.aload_n 0, 1) := by decide +kernel
theorem dX8_claim_71 : decode cX8_claim 71 = .ok (.iconst 3, 1) := by decide +kernel
theorem dX8_claim_72 : decode cX8_claim 72 = .ok (.invokevirtual 93, 3) := by decide +kernel
theorem dX8_claim_75 : decode cX8_claim 75 = .ok (.ireturn, 1) := by decide +kernel
theorem dX8_claim_76 : decode cX8_claim 76 = .ok (.aload_n 0, 1) := by decide +kernel
theorem dX8_claim_77 : decode cX8_claim 77 = .ok (.getfield 71, 3) := by decide +kernel
theorem dX8_claim_80 : decode cX8_claim 80 = .ok (.aload_n 0, 1) := by decide +kernel
theorem dX8_claim_81 : decode cX8_claim 81 = .ok (.getfield 192, 3) := by decide +kernel
theorem dX8_claim_84 : decode cX8_claim 84 = .ok (.iload_n 1, 1) := by decide +kernel
theorem dX8_claim_85 : decode cX8_claim 85 = .ok (.iastore, 1) := by decide +kernel
theorem dX8_claim_86 : decode cX8_claim 86 = .ok (.aload_n 0, 1) := by decide +kernel
theorem dX8_claim_87 : decode cX8_claim 87 = .ok (.getfield 74, 3) := by decide +kernel
theorem dX8_claim_90 : decode cX8_claim 90 = .ok (.aload_n 0, 1) := by decide +kernel
theorem dX8_claim_91 : decode cX8_claim 91 = .ok (.getfield 192, 3) := by decide +kernel
theorem dX8_claim_94 : decode cX8_claim 94 = .ok (.iload_n 2, 1) := by decide +kernel
theorem dX8_claim_95 : decode cX8_claim 95 = .ok (.iastore, 1) := by decide +kernel
theorem dX8_claim_96 : decode cX8_claim 96 = .ok (.aload_n 0, 1) := by decide +kernel
theorem dX8_claim_97 : decode cX8_claim 97 = .ok (.getfield 77, 3) := by decide +kernel
theorem dX8_claim_100 : decode cX8_claim 100 = .ok (.aload_n 0, 1) := by decide +kernel
theorem dX8_claim_101 : decode cX8_claim 101 = .ok (.getfield 192, 3) := by decide +kernel
theorem dX8_claim_104 : decode cX8_claim 104 = .ok (.iload_n 3, 1) := by decide +kernel
theorem dX8_claim_105 : decode cX8_claim 105 = .ok (.iastore, 1) := by decide +kernel
theorem dX8_claim_106 : decode cX8_claim 106 = .ok (.aload_n 0, 1) := by decide +kernel
theorem dX8_claim_107 : decode cX8_claim 107 = .ok (.getfield 80, 3) := by decide +kernel
theorem dX8_claim_110 : decode cX8_claim 110 = .ok (.aload_n 0, 1) := by decide +kernel
theorem dX8_claim_111 : decode cX8_claim 111 = .ok (.getfield 192, 3) := by decide +kernel
theorem dX8_claim_114 : decode cX8_claim 114 = .ok (.aload_n 0, 1) := by decide +kernel
theorem dX8_claim_115 : decode cX8_claim 115 = .ok (.getfield 189, 3) := by decide +kernel
theorem dX8_claim_118 : decode cX8_claim 118 = .ok (.iastore, 1) := by decide +kernel
theorem dX8_claim_119 : decode cX8_claim 119 = .ok (.aload_n 0, 1) := by decide +kernel
theorem dX8_claim_120 : decode cX8_claim 120 = .ok (.dup, 1) := by decide +kernel
theorem dX8_claim_121 : decode cX8_claim 121 = .ok (.getfield 192, 3) := by decide +kernel
theorem dX8_claim_124 : decode cX8_claim 124 = .ok (.iconst 1, 1) := by decide +kernel
theorem dX8_claim_125 : decode cX8_claim 125 = .ok (.iadd, 1) := by decide +kernel
theorem dX8_claim_126 : decode cX8_claim 126 = .ok (.putfield 192, 3) := by decide +kernel
theorem dX8_claim_129 : decode cX8_claim 129 = .ok (.aload_n 0, 1) := by decide +kernel
theorem dX8_claim_130 : decode cX8_claim 130 = .ok (.getfield 192, 3) := by decide +kernel
theorem dX8_claim_133 : decode cX8_claim 133 = .ok (.iconst 1, 1) := by decide +kernel
theorem dX8_claim_134 : decode cX8_claim 134 = .ok (.isub, 1) := by decide +kernel
theorem dX8_claim_135 : decode cX8_claim 135 = .ok (.ireturn, 1) := by decide +kernel
theorem dX8_houses_0 : decode cX8_houses 0 = .ok (.iconst 0, 1) := by decide +kernel
theorem dX8_houses_1 : decode cX8_houses 1 = .ok (.istore_n 3, 1) := by decide +kernel
theorem dX8_houses_2 : decode cX8_houses 2 = .ok (.iconst 0, 1) := by decide +kernel
theorem dX8_houses_3 : decode cX8_houses 3 = .ok (.istore 4, 2) := by decide +kernel
theorem dX8_houses_5 : decode cX8_houses 5 = .ok (.iload 4, 2) := by decide +kernel
theorem dX8_houses_7 : decode cX8_houses 7 = .ok (.bipush 7, 2) := by decide +kernel
theorem dX8_houses_9 : decode cX8_houses 9 = .ok (.if_icmp .ge 33, 3) := by decide +kernel
theorem dX8_houses_12 : decode cX8_houses 12 = .ok (.iload_n 3, 1) := by decide +kernel
theorem dX8_houses_13 : decode cX8_houses 13 = .ok (.aload_n 0, 1) := by decide +kernel
theorem dX8_houses_14 : decode cX8_houses 14 = .ok (.getfield 83, 3) := by decide +kernel
theorem dX8_houses_17 : decode cX8_houses 17 = .ok (.bipush 7, 2) := by decide +kernel
theorem dX8_houses_19 : decode cX8_houses 19 = .ok (.iload_n 1, 1) := by decide +kernel
theorem dX8_houses_20 : decode cX8_houses 20 = .ok (.imul, 1) := by decide +kernel
theorem dX8_houses_21 : decode cX8_houses 21 = .ok (.iload 4, 2) := by decide +kernel
theorem dX8_houses_23 : decode cX8_houses 23 = .ok (.iadd, 1) := by decide +kernel
theorem dX8_houses_24 : decode cX8_houses 24 = .ok (.iaload, 1) := by decide +kernel
theorem dX8_houses_25 : decode cX8_houses 25 = .ok (.iload_n 2, 1) := by decide +kernel
theorem dX8_houses_26 : decode cX8_houses 26 = .ok (.if_icmp .ne 7, 3) := by decide +kernel
theorem dX8_houses_29 : decode cX8_houses 29 = .ok (.iconst 1, 1) := by decide +kernel
theorem dX8_houses_30 : decode cX8_houses 30 = .ok (.goto 4, 3) := by decide +kernel
theorem dX8_houses_33 : decode cX8_houses 33 = .ok (.iconst 0, 1) := by decide +kernel
theorem dX8_houses_34 : decode cX8_houses 34 = .ok (.iadd, 1) := by decide +kernel
theorem dX8_houses_35 : decode cX8_houses 35 = .ok (.istore_n 3, 1) := by decide +kernel
theorem dX8_houses_36 : decode cX8_houses 36 = .ok (.iinc 4 1, 3) := by decide +kernel
theorem dX8_houses_39 : decode cX8_houses 39 = .ok (.goto (-34), 3) := by decide +kernel
theorem dX8_houses_42 : decode cX8_houses 42 = .ok (.iload_n 3, 1) := by decide +kernel
theorem dX8_houses_43 : decode cX8_houses 43 = .ok (.ireturn, 1) := by decide +kernel
set_option maxRecDepth 20000 in
theorem ggX8_repeats_X8_in : GoodIn wsX8_repeats wsX8_in := goodIn_r _ [7] (by decide +kernel) (by decide +kernel)
set_option maxRecDepth 20000 in
theorem gX8_repeats_X8_in : GoodIn wsX8_repeats (va_wsS RX8 89 yX8_in wsX8_in) := goodIn_app (goodIn_of _ (by decide +kernel)) ggX8_repeats_X8_in
set_option maxRecDepth 20000 in
theorem ggX8_repeats_X8_stop : GoodIn wsX8_repeats wsX8_stop := goodIn_r _ [11, 1, 16, 17, 18, 19, 20, 21, 22, 23, 24, 25, 26, 27, 28, 29, 30, 31, 32, 33, 34, 35, 36, 37, 38, 39, 40, 41, 42, 43, 44, 45, 46, 47, 48, 49, 50, 51, 52, 53, 54] (by decide +kernel) (by decide +kernel)
set_option maxRecDepth 20000 in
theorem gX8_repeats_X8_stop : GoodIn wsX8_repeats (wsV RX8 93 RX8 yX8_stop wsX8_stop) := goodIn_app (goodIn_of _ (by decide +kernel)) ggX8_repeats_X8_stop
set_option maxRecDepth 20000 in
theorem ggX8_repeats_X8_houses : GoodIn wsX8_repeats wsX8_houses := goodIn_r _ [15, 3, 16, 17, 18, 19, 20, 21, 22, 23, 24, 25, 26, 27, 28, 29, 30, 31, 32, 33, 34, 35, 36, 37, 38, 39, 40, 41, 42, 43, 44, 45, 46, 47, 48, 49, 50, 51, 52, 53, 54] (by decide +kernel) (by decide +kernel)
set_option maxRecDepth 20000 in
theorem gX8_repeats_X8_houses : GoodIn wsX8_repeats (wsV RX8 195 RX8 yX8_houses wsX8_houses) := goodIn_app (goodIn_of _ (by decide +kernel)) ggX8_repeats_X8_houses
theorem dX8_repeats_0 : decode cX8_repeats 0 = .ok (.aload_n 0, 1) := by decide +kernel
theorem dX8_repeats_1 : decode cX8_repeats 1 = .ok (.iconst 0, 1) := by decide +kernel
theorem dX8_repeats_2 : decode cX8_repeats 2 = .ok (.putfield 86, 3) := by decide +kernel
theorem dX8_repeats_5 : decode cX8_repeats 5 = .ok (.iload_n 1, 1) := by decide +kernel
theorem dX8_repeats_6 : decode cX8_repeats 6 = .ok (.iconst 0, 1) := by decide +kernel
theorem dX8_repeats_7 : decode cX8_repeats 7 = .ok (.aload_n 0, 1) := by decide +kernel
theorem dX8_repeats_8 : decode cX8_repeats 8 = .ok (.getfield 192, 3) := by decide +kernel
theorem dX8_repeats_11 : decode cX8_repeats 11 = .ok (.iconst 1, 1) := by decide +kernel
theorem dX8_repeats_12 : decode cX8_repeats 12 = .ok (.isub, 1) := by decide +kernel
theorem dX8_repeats_13 : decode cX8_repeats 13 = .ok (.invokestatic 89, 3) := by decide +kernel
theorem dX8_repeats_16 : decode cX8_repeats 16 = .ok (.ifCond .eq 13, 3) := by decide +kernel
theorem dX8_repeats_19 : decode cX8_repeats 19 = .ok (.iload_n 2, 1) := by decide +kernel
theorem dX8_repeats_20 : decode cX8_repeats 20 = .ok (.iconst 0, 1) := by decide +kernel
theorem dX8_repeats_21 : decode cX8_repeats 21 = .ok (.bipush 6, 2) := by decide +kernel
theorem dX8_repeats_23 : decode cX8_repeats 23 = .ok (.invokestatic 89, 3) := by decide +kernel
theorem dX8_repeats_26 : decode cX8_repeats 26 = .ok (.ifCond .ne 9, 3) := by decide +kernel
theorem dX8_repeats_29 : decode cX8_repeats 29 = .ok (.aload_n 0, 1) := by decide +kernel
theorem dX8_repeats_30 : decode cX8_repeats 30 = .ok (.iconst 1, 1) := by decide +kernel
theorem dX8_repeats_31 : decode cX8_repeats 31 = .ok (.invokevirtual 93, 3) := by decide +kernel
theorem dX8_repeats_34 : decode cX8_repeats 34 = .ok (.ireturn, 1) := by decide +kernel
theorem dX8_repeats_35 : decode cX8_repeats 35 = .ok (.aload_n 0, 1) := by decide +kernel
theorem dX8_repeats_36 : decode cX8_repeats 36 = .ok (.getfield 83, 3) := by decide +kernel
theorem dX8_repeats_39 : decode cX8_repeats 39 = .ok (.bipush 7, 2) := by decide +kernel
theorem dX8_repeats_41 : decode cX8_repeats 41 = .ok (.iload_n 1, 1) := by decide +kernel
theorem dX8_repeats_42 : decode cX8_repeats 42 = .ok (.imul, 1) := by decide +kernel
theorem dX8_repeats_43 : decode cX8_repeats 43 = .ok (.iload_n 2, 1) := by decide +kernel
theorem dX8_repeats_44 : decode cX8_repeats 44 = .ok (.iadd, 1) := by decide +kernel
theorem dX8_repeats_45 : decode cX8_repeats 45 = .ok (.iload_n 3, 1) := by decide +kernel
theorem dX8_repeats_46 : decode cX8_repeats 46 = .ok (.ifCond .eq 7, 3) := by decide +kernel
theorem dX8_repeats_49 : decode cX8_repeats 49 = .ok (.iconst 1, 1) := by decide +kernel
theorem dX8_repeats_50 : decode cX8_repeats 50 = .ok (.goto 4, 3) := by decide +kernel
theorem dX8_repeats_53 : decode cX8_repeats 53 = .ok (.iconst 2, 1) := by decide +kernel
theorem dX8_repeats_54 : decode cX8_repeats 54 = .ok (.iastore, 1) := by decide +kernel
theorem dX8_repeats_55 : decode cX8_repeats 55 = .ok (.aload_n 0, 1) := by decide +kernel
theorem dX8_repeats_56 : decode cX8_repeats 56 = .ok (.iload_n 1, 1) := by decide +kernel
theorem dX8_repeats_57 : decode cX8_repeats 57 = .ok (.iconst 1, 1) := by decide +kernel
theorem dX8_repeats_58 : decode cX8_repeats 58 = .ok (.invokevirtual 195, 3) := by decide +kernel
theorem dX8_repeats_61 : decode cX8_repeats 61 = .ok (.ireturn, 1) := by decide +kernel
theorem dX8_arePair_0 : decode cX8_arePair 0 = .ok (.aload_n 0, 1) := by decide +kernel
theorem dX8_arePair_1 : decode cX8_arePair 1 = .ok (.getfield 62, 3) := by decide +kernel
theorem dX8_arePair_4 : decode cX8_arePair 4 = .ok (.iload_n 2, 1) := by decide +kernel
theorem dX8_arePair_5 : decode cX8_arePair 5 = .ok (.iaload, 1) := by decide +kernel
theorem dX8_arePair_6 : decode cX8_arePair 6 = .ok (.aload_n 0, 1) := by decide +kernel
theorem dX8_arePair_7 : decode cX8_arePair 7 = .ok (.getfield 62, 3) := by decide +kernel
theorem dX8_arePair_10 : decode cX8_arePair 10 = .ok (.iload_n 3, 1) := by decide +kernel
theorem dX8_arePair_11 : decode cX8_arePair 11 = .ok (.iaload, 1) := by decide +kernel
theorem dX8_arePair_12 : decode cX8_arePair 12 = .ok (.if_icmp .ne 32, 3) := by decide +kernel
theorem dX8_arePair_15 : decode cX8_arePair 15 = .ok (.aload_n 0, 1) := by decide +kernel
theorem dX8_arePair_16 : decode cX8_arePair 16 = .ok (.getfield 65, 3) := by decide +kernel
theorem dX8_arePair_19 : decode cX8_arePair 19 = .ok (.iload_n 2, 1) := by decide +kernel
theorem dX8_arePair_20 : decode cX8_arePair 20 = .ok (.iaload, 1) := by decide +kernel
theorem dX8_arePair_21 : decode cX8_arePair 21 = .ok (.ifCond .le 23, 3) := by decide +kernel
theorem dX8_arePair_24 : decode cX8_arePair 24 = .ok (.aload_n 0, 1) := by decide +kernel
theorem dX8_arePair_25 : decode cX8_arePair 25 = .ok (.getfield 65, 3) := by decide +kernel
theorem dX8_arePair_28 : decode cX8_arePair 28 = .ok (.iload_n 3, 1) := by decide +kernel
theorem dX8_arePair_29 : decode cX8_arePair 29 = .ok (.iaload, 1) := by decide +kernel
theorem dX8_arePair_30 : decode cX8_arePair 30 = .ok (.aload_n 0, 1) := by decide +kernel
theorem dX8_arePair_31 : decode cX8_arePair 31 = .ok (.getfield 65, 3) := by decide +kernel
theorem dX8_arePair_34 : decode cX8_arePair 34 = .ok (.iload_n 2, 1) := by decide +kernel
theorem dX8_arePair_35 : decode cX8_arePair 35 = .ok (.iaload, 1) := by decide +kernel
theorem dX8_arePair_36 : decode cX8_arePair 36 = .ok (.ineg, 1) := by decide +kernel
theorem dX8_arePair_37 : decode cX8_arePair 37 = .ok (.if_icmp .ne 7, 3) := by decide +kernel
theorem dX8_arePair_40 : decode cX8_arePair 40 = .ok (.iconst 1, 1) := by decide +kernel
theorem dX8_arePair_41 : decode cX8_arePair 41 = .ok (.goto 4, 3) := by decide +kernel
theorem dX8_arePair_44 : decode cX8_arePair 44 = .ok (.iconst 0, 1) := by decide +kernel
theorem dX8_arePair_45 : decode cX8_arePair 45 = .ok (.istore 4, 2) := by decide +kernel
theorem dX8_arePair_47 : decode cX8_arePair 47 = .ok (.iload 4, 2) := by decide +kernel
theorem dX8_arePair_49 : decode cX8_arePair 49 = .ok (.ifCond .eq 22, 3) := by decide +kernel
theorem dX8_arePair_52 : decode cX8_arePair 52 = .ok (.aload_n 0, 1) := by decide +kernel
theorem dX8_arePair_53 : decode cX8_arePair 53 = .ok (.getfield 62, 3) := by decide +kernel
theorem dX8_arePair_56 : decode cX8_arePair 56 = .ok (.iload_n 2, 1) := by decide +kernel
theorem dX8_arePair_57 : decode cX8_arePair 57 = .ok (.iaload, 1) := by decide +kernel
theorem dX8_arePair_58 : decode cX8_arePair 58 = .ok (.aload_n 0, 1) := by decide +kernel
theorem dX8_arePair_59 : decode cX8_arePair 59 = .ok (.getfield 71, 3) := by decide +kernel
theorem dX8_arePair_62 : decode cX8_arePair 62 = .ok (.iload_n 1, 1) := by decide +kernel
theorem dX8_arePair_63 : decode cX8_arePair 63 = .ok (.iaload, 1) := by decide +kernel
theorem dX8_arePair_64 : decode cX8_arePair 64 = .ok (.if_icmp .ge 7, 3) := by decide +kernel
theorem dX8_arePair_67 : decode cX8_arePair 67 = .ok (.iconst 1, 1) := by decide +kernel
theorem dX8_arePair_68 : decode cX8_arePair 68 = .ok (.goto 4, 3) := by decide +kernel
theorem dX8_arePair_71 : decode cX8_arePair 71 = .ok (.iconst 0, 1) := by decide +kernel
theorem dX8_arePair_72 : decode cX8_arePair 72 = .ok (.ireturn, 1) := by decide +kernel
set_option maxRecDepth 20000 in
theorem ggX8_isOpen_X8_arePair : GoodIn wsX8_isOpen wsX8_arePair := goodIn_r _ [8, 9, 10, 11, 15, 16, 17, 18, 19, 20, 21, 22, 23, 24, 25, 26, 27, 28, 29, 30, 31, 32, 33, 34, 35, 36, 37, 38, 39, 40, 41, 42, 43, 44, 45, 46, 47, 48, 49, 50, 51, 52, 53] (by decide +kernel) (by decide +kernel)
set_option maxRecDepth 20000 in
theorem gX8_isOpen_X8_arePair : GoodIn wsX8_isOpen (wsV RX8 198 RX8 yX8_arePair wsX8_arePair) := goodIn_app (goodIn_of _ (by decide +kernel)) ggX8_isOpen_X8_arePair
set_option maxRecDepth 20000 in
theorem ggX8_isOpen_X8_size : GoodIn wsX8_isOpen wsX8_size := goodIn_r _ [14] (by decide +kernel) (by decide +kernel)
set_option maxRecDepth 20000 in
theorem gX8_isOpen_X8_size : GoodIn wsX8_isOpen (va_wsS RX8 100 yX8_size wsX8_size) := goodIn_app (goodIn_of _ (by decide +kernel)) ggX8_isOpen_X8_size
theorem dX8_isOpen_0 : decode cX8_isOpen 0 = .ok (.iconst 0, 1) := by decide +kernel
theorem dX8_isOpen_1 : decode cX8_isOpen 1 = .ok (.istore_n 3, 1) := by decide +kernel
theorem dX8_isOpen_2 : decode cX8_isOpen 2 = .ok (.aload_n 0, 1) := by decide +kernel
theorem dX8_isOpen_3 : decode cX8_isOpen 3 = .ok (.getfield 74, 3) := by decide +kernel
theorem dX8_isOpen_6 : decode cX8_isOpen 6 = .ok (.iload_n 1, 1) := by decide +kernel
theorem dX8_isOpen_7 : decode cX8_isOpen 7 = .ok (.iaload, 1) := by decide +kernel
theorem dX8_isOpen_8 : decode cX8_isOpen 8 = .ok (.istore 4, 2) := by decide +kernel
theorem dX8_isOpen_10 : decode cX8_isOpen 10 = .ok (.iload 4, 2) := by decide +kernel
theorem dX8_isOpen_12 : decode cX8_isOpen 12 = .ok (.aload_n 0, 1) := by decide +kernel
theorem dX8_isOpen_13 : decode cX8_isOpen 13 = .ok (.getfield 77, 3) := by decide +kernel
theorem dX8_isOpen_16 : decode cX8_isOpen 16 = .ok (.iload_n 1, 1) := by decide +kernel
theorem dX8_isOpen_17 : decode cX8_isOpen 17 = .ok (.iaload, 1) := by decide +kernel
theorem dX8_isOpen_18 : decode cX8_isOpen 18 = .ok (.if_icmp .gt 74, 3) := by decide +kernel
theorem dX8_isOpen_21 : decode cX8_isOpen 21 = .ok (.aload_n 0, 1) := by decide +kernel
theorem dX8_isOpen_22 : decode cX8_isOpen 22 = .ok (.getfield 74, 3) := by decide +kernel
theorem dX8_isOpen_25 : decode cX8_isOpen 25 = .ok (.iload_n 1, 1) := by decide +kernel
theorem dX8_isOpen_26 : decode cX8_isOpen 26 = .ok (.iaload, 1) := by decide +kernel
theorem dX8_isOpen_27 : decode cX8_isOpen 27 = .ok (.istore 5, 2) := by decide +kernel
theorem dX8_isOpen_29 : decode cX8_isOpen 29 = .ok (.iload 5, 2) := by decide +kernel
theorem dX8_isOpen_31 : decode cX8_isOpen 31 = .ok (.aload_n 0, 1) := by decide +kernel
theorem dX8_isOpen_32 : decode cX8_isOpen 32 = .ok (.getfield 77, 3) := by decide +kernel
theorem dX8_isOpen_35 : decode cX8_isOpen 35 = .ok (.iload_n 1, 1) := by decide +kernel
theorem dX8_isOpen_36 : decode cX8_isOpen 36 = .ok (.iaload, 1) := by decide +kernel
theorem dX8_isOpen_37 : decode cX8_isOpen 37 = .ok (.if_icmp .gt 49, 3) := by decide +kernel
theorem dX8_isOpen_40 : decode cX8_isOpen 40 = .ok (.aload_n 0, 1) := by decide +kernel
theorem dX8_isOpen_41 : decode cX8_isOpen 41 = .ok (.iload_n 1, 1) := by decide +kernel
theorem dX8_isOpen_42 : decode cX8_isOpen 42 = .ok (.iload 4, 2) := by decide +kernel
theorem dX8_isOpen_44 : decode cX8_isOpen 44 = .ok (.iload 5, 2) := by decide +kernel
theorem dX8_isOpen_46 : decode cX8_isOpen 46 = .ok (.invokevirtual 198, 3) := by decide +kernel
theorem dX8_isOpen_49 : decode cX8_isOpen 49 = .ok (.ifCond .eq 31, 3) := by decide +kernel
theorem dX8_isOpen_52 : decode cX8_isOpen 52 = .ok (.iconst 1, 1) := by decide +kernel
theorem dX8_isOpen_53 : decode cX8_isOpen 53 = .ok (.istore_n 3, 1) := by decide +kernel
theorem dX8_isOpen_54 : decode cX8_isOpen 54 = .ok (.aload_n 0, 1) := by decide +kernel
theorem dX8_isOpen_55 : decode cX8_isOpen 55 = .ok (.getfield 68, 3) := by decide +kernel
theorem dX8_isOpen_58 : decode cX8_isOpen 58 = .ok (.iload 4, 2) := by decide +kernel
theorem dX8_isOpen_60 : decode cX8_isOpen 60 = .ok (.iaload, 1) := by decide +kernel
theorem dX8_isOpen_61 : decode cX8_isOpen 61 = .ok (.aload_n 0, 1) := by decide +kernel
theorem dX8_isOpen_62 : decode cX8_isOpen 62 = .ok (.getfield 68, 3) := by decide +kernel
theorem dX8_isOpen_65 : decode cX8_isOpen 65 = .ok (.iload 5, 2) := by decide +kernel
theorem dX8_isOpen_67 : decode cX8_isOpen 67 = .ok (.iaload, 1) := by decide +kernel
theorem dX8_isOpen_68 : decode cX8_isOpen 68 = .ok (.isub, 1) := by decide +kernel
theorem dX8_isOpen_69 : decode cX8_isOpen 69 = .ok (.invokestatic 100, 3) := by decide +kernel
theorem dX8_isOpen_72 : decode cX8_isOpen 72 = .ok (.iconst 2, 1) := by decide +kernel
theorem dX8_isOpen_73 : decode cX8_isOpen 73 = .ok (.iload_n 2, 1) := by decide +kernel
theorem dX8_isOpen_74 : decode cX8_isOpen 74 = .ok (.imul, 1) := by decide +kernel
theorem dX8_isOpen_75 : decode cX8_isOpen 75 = .ok (.if_icmp .le 5, 3) := by decide +kernel
theorem dX8_isOpen_78 : decode cX8_isOpen 78 = .ok (.iconst 1, 1) := by decide +kernel
theorem dX8_isOpen_79 : decode cX8_isOpen 79 = .ok (.ireturn, 1) := by decide +kernel
theorem dX8_isOpen_80 : decode cX8_isOpen 80 = .ok (.iinc 5 1, 3) := by decide +kernel
theorem dX8_isOpen_83 : decode cX8_isOpen 83 = .ok (.goto (-54), 3) := by decide +kernel
theorem dX8_isOpen_86 : decode cX8_isOpen 86 = .ok (.iinc 4 1, 3) := by decide +kernel
theorem dX8_isOpen_89 : decode cX8_isOpen 89 = .ok (.goto (-79), 3) := by decide +kernel
theorem dX8_isOpen_92 : decode cX8_isOpen 92 = .ok (.iload_n 3, 1) := by decide +kernel
theorem dX8_isOpen_93 : decode cX8_isOpen 93 = .ok (.ifCond .ne 7, 3) := by decide +kernel
theorem dX8_isOpen_96 : decode cX8_isOpen 96 = .ok (.iconst 1, 1) := by decide +kernel
theorem dX8_isOpen_97 : decode cX8_isOpen 97 = .ok (.goto 4, 3) := by decide +kernel
theorem dX8_isOpen_100 : decode cX8_isOpen 100 = .ok (.iconst 0, 1) := by decide +kernel
theorem dX8_isOpen_101 : decode cX8_isOpen 101 = .ok (.ireturn, 1) := by decide +kernel
set_option maxRecDepth 20000 in
theorem ggX8_judge_X8_in : GoodIn wsX8_judge wsX8_in := goodIn_r _ [10] (by decide +kernel) (by decide +kernel)
set_option maxRecDepth 20000 in
theorem gX8_judge_X8_in : GoodIn wsX8_judge (va_wsS RX8 89 yX8_in wsX8_in) := goodIn_app (goodIn_of _ (by decide +kernel)) ggX8_judge_X8_in
set_option maxRecDepth 20000 in
theorem ggX8_judge_X8_stop : GoodIn wsX8_judge wsX8_stop := goodIn_r _ [14, 1, 35, 36, 37, 38, 39, 40, 41, 42, 43, 44, 45, 46, 47, 48, 49, 50, 51, 52, 53, 54, 55, 56, 57, 58, 59, 60, 61, 62, 63, 64, 65, 66, 67, 68, 69, 70, 71, 72, 73] (by decide +kernel) (by decide +kernel)
set_option maxRecDepth 20000 in
theorem gX8_judge_X8_stop : GoodIn wsX8_judge (wsV RX8 93 RX8 yX8_stop wsX8_stop) := goodIn_app (goodIn_of _ (by decide +kernel)) ggX8_judge_X8_stop
set_option maxRecDepth 20000 in
theorem ggX8_judge_X8_isOpen : GoodIn wsX8_judge wsX8_isOpen := goodIn_r _ [18, 5, 4, 19, 20, 21, 22, 9, 23, 24, 25, 26, 27, 28, 29, 35, 36, 37, 38, 39, 40, 41, 42, 43, 44, 45, 46, 47, 48, 49, 50, 51, 52, 53, 54, 55, 56, 57, 58, 59, 60, 61, 62, 63, 64, 65, 66, 67, 68, 69, 70, 71, 72, 73] (by decide +kernel) (by decide +kernel)
set_option maxRecDepth 20000 in
theorem gX8_judge_X8_isOpen : GoodIn wsX8_judge (wsV RX8 201 RX8 yX8_isOpen wsX8_isOpen) := goodIn_app (goodIn_of _ (by decide +kernel)) ggX8_judge_X8_isOpen
set_option maxRecDepth 20000 in
theorem ggX8_judge_X8_houses : GoodIn wsX8_judge wsX8_houses := goodIn_r _ [33, 34, 35, 36, 37, 38, 39, 40, 41, 42, 43, 44, 45, 46, 47, 48, 49, 50, 51, 52, 53, 54, 55, 56, 57, 58, 59, 60, 61, 62, 63, 64, 65, 66, 67, 68, 69, 70, 71, 72, 73] (by decide +kernel) (by decide +kernel)
set_option maxRecDepth 20000 in
theorem gX8_judge_X8_houses : GoodIn wsX8_judge (wsV RX8 195 RX8 yX8_houses wsX8_houses) := goodIn_app (goodIn_of _ (by decide +kernel)) ggX8_judge_X8_houses
theorem dX8_judge_0 : decode cX8_judge 0 = .ok (.aload_n 0, 1) := by decide +kernel
theorem dX8_judge_1 : decode cX8_judge 1 = .ok (.iconst 0, 1) := by decide +kernel
theorem dX8_judge_2 : decode cX8_judge 2 = .ok (.putfield 86, 3) := by decide +kernel
theorem dX8_judge_5 : decode cX8_judge 5 = .ok (.iload_n 1, 1) := by decide +kernel
theorem dX8_judge_6 : decode cX8_judge 6 = .ok (.iconst 0, 1) := by decide +kernel
theorem dX8_judge_7 : decode cX8_judge 7 = .ok (.aload_n 0, 1) := by decide +kernel
theorem dX8_judge_8 : decode cX8_judge 8 = .ok (.getfield 192, 3) := by decide +kernel
theorem dX8_judge_11 : decode cX8_judge 11 = .ok (.iconst 1, 1) := by decide +kernel
theorem dX8_judge_12 : decode cX8_judge 12 = .ok (.isub, 1) := by decide +kernel
theorem dX8_judge_13 : decode cX8_judge 13 = .ok (.invokestatic 89, 3) := by decide +kernel
theorem dX8_judge_16 : decode cX8_judge 16 = .ok (.ifCond .ne 9, 3) := by decide +kernel
theorem dX8_judge_19 : decode cX8_judge 19 = .ok (.aload_n 0, 1) := by decide +kernel
theorem dX8_judge_20 : decode cX8_judge 20 = .ok (.iconst 1, 1) := by decide +kernel
theorem dX8_judge_21 : decode cX8_judge 21 = .ok (.invokevirtual 93, 3) := by decide +kernel
theorem dX8_judge_24 : decode cX8_judge 24 = .ok (.ireturn, 1) := by decide +kernel
theorem dX8_judge_25 : decode cX8_judge 25 = .ok (.iload_n 2, 1) := by decide +kernel
theorem dX8_judge_26 : decode cX8_judge 26 = .ok (.iconst 0, 1) := by decide +kernel
theorem dX8_judge_27 : decode cX8_judge 27 = .ok (.ldc 143, 2) := by decide +kernel
theorem dX8_judge_29 : decode cX8_judge 29 = .ok (.invokestatic 89, 3) := by decide +kernel
theorem dX8_judge_32 : decode cX8_judge 32 = .ok (.ifCond .ne 9, 3) := by decide +kernel
theorem dX8_judge_35 : decode cX8_judge 35 = .ok (.aload_n 0, 1) := by decide +kernel
theorem dX8_judge_36 : decode cX8_judge 36 = .ok (.iconst 2, 1) := by decide +kernel
theorem dX8_judge_37 : decode cX8_judge 37 = .ok (.invokevirtual 93, 3) := by decide +kernel
theorem dX8_judge_40 : decode cX8_judge 40 = .ok (.ireturn, 1) := by decide +kernel
theorem dX8_judge_41 : decode cX8_judge 41 = .ok (.iconst 5, 1) := by decide +kernel
theorem dX8_judge_42 : decode cX8_judge 42 = .ok (.aload_n 0, 1) := by decide +kernel
theorem dX8_judge_43 : decode cX8_judge 43 = .ok (.getfield 77, 3) := by decide +kernel
theorem dX8_judge_46 : decode cX8_judge 46 = .ok (.iload_n 1, 1) := by decide +kernel
theorem dX8_judge_47 : decode cX8_judge 47 = .ok (.iaload, 1) := by decide +kernel
theorem dX8_judge_48 : decode cX8_judge 48 = .ok (.aload_n 0, 1) := by decide +kernel
theorem dX8_judge_49 : decode cX8_judge 49 = .ok (.getfield 74, 3) := by decide +kernel
theorem dX8_judge_52 : decode cX8_judge 52 = .ok (.iload_n 1, 1) := by decide +kernel
theorem dX8_judge_53 : decode cX8_judge 53 = .ok (.iaload, 1) := by decide +kernel
theorem dX8_judge_54 : decode cX8_judge 54 = .ok (.isub, 1) := by decide +kernel
theorem dX8_judge_55 : decode cX8_judge 55 = .ok (.iconst 1, 1) := by decide +kernel
theorem dX8_judge_56 : decode cX8_judge 56 = .ok (.iadd, 1) := by decide +kernel
theorem dX8_judge_57 : decode cX8_judge 57 = .ok (.imul, 1) := by decide +kernel
theorem dX8_judge_58 : decode cX8_judge 58 = .ok (.iconst 4, 1) := by decide +kernel
theorem dX8_judge_59 : decode cX8_judge 59 = .ok (.aload_n 0, 1) := by decide +kernel
theorem dX8_judge_60 : decode cX8_judge 60 = .ok (.getfield 80, 3) := by decide +kernel
theorem dX8_judge_63 : decode cX8_judge 63 = .ok (.iload_n 1, 1) := by decide +kernel
theorem dX8_judge_64 : decode cX8_judge 64 = .ok (.iaload, 1) := by decide +kernel
theorem dX8_judge_65 : decode cX8_judge 65 = .ok (.imul, 1) := by decide +kernel
theorem dX8_judge_66 : decode cX8_judge 66 = .ok (.if_icmp .ge 5, 3) := by decide +kernel
theorem dX8_judge_69 : decode cX8_judge 69 = .ok (.iconst 0, 1) := by decide +kernel
theorem dX8_judge_70 : decode cX8_judge 70 = .ok (.ireturn, 1) := by decide +kernel
theorem dX8_judge_71 : decode cX8_judge 71 = .ok (.aload_n 0, 1) := by decide +kernel
theorem dX8_judge_72 : decode cX8_judge 72 = .ok (.iload_n 1, 1) := by decide +kernel
theorem dX8_judge_73 : decode cX8_judge 73 = .ok (.iload_n 2, 1) := by decide +kernel
theorem dX8_judge_74 : decode cX8_judge 74 = .ok (.invokevirtual 201, 3) := by decide +kernel
theorem dX8_judge_77 : decode cX8_judge 77 = .ok (.ifCond .eq 5, 3) := by decide +kernel
theorem dX8_judge_80 : decode cX8_judge 80 = .ok (.iconst 1, 1) := by decide +kernel
theorem dX8_judge_81 : decode cX8_judge 81 = .ok (.ireturn, 1) := by decide +kernel
theorem dX8_judge_82 : decode cX8_judge 82 = .ok (.aload_n 0, 1) := by decide +kernel
theorem dX8_judge_83 : decode cX8_judge 83 = .ok (.iload_n 1, 1) := by decide +kernel
theorem dX8_judge_84 : decode cX8_judge 84 = .ok (.iconst 1, 1) := by decide +kernel
theorem dX8_judge_85 : decode cX8_judge 85 = .ok (.invokevirtual 195, 3) := by decide +kernel
theorem dX8_judge_88 : decode cX8_judge 88 = .ok (.iconst 2, 1) := by decide +kernel
theorem dX8_judge_89 : decode cX8_judge 89 = .ok (.if_icmp .ge 5, 3) := by decide +kernel
theorem dX8_judge_92 : decode cX8_judge 92 = .ok (.iconst 2, 1) := by decide +kernel
theorem dX8_judge_93 : decode cX8_judge 93 = .ok (.ireturn, 1) := by decide +kernel
theorem dX8_judge_94 : decode cX8_judge 94 = .ok (.aload_n 0, 1) := by decide +kernel
theorem dX8_judge_95 : decode cX8_judge 95 = .ok (.iload_n 1, 1) := by decide +kernel
theorem dX8_judge_96 : decode cX8_judge 96 = .ok (.iconst 2, 1) := by decide +kernel
theorem dX8_judge_97 : decode cX8_judge 97 = .ok (.invokevirtual 195, 3) := by decide +kernel
theorem dX8_judge_100 : decode cX8_judge 100 = .ok (.aload_n 0, 1) := by decide +kernel
theorem dX8_judge_101 : decode cX8_judge 101 = .ok (.iload_n 1, 1) := by decide +kernel
theorem dX8_judge_102 : decode cX8_judge 102 = .ok (.iconst 1, 1) := by decide +kernel
theorem dX8_judge_103 : decode cX8_judge 103 = .ok (.invokevirtual 195, 3) := by decide +kernel
theorem dX8_judge_106 : decode cX8_judge 106 = .ok (.if_icmp .lt 7, 3) := by decide +kernel
theorem dX8_judge_109 : decode cX8_judge 109 = .ok (.iconst 3, 1) := by decide +kernel
theorem dX8_judge_110 : decode cX8_judge 110 = .ok (.goto 4, 3) := by decide +kernel
theorem dX8_judge_113 : decode cX8_judge 113 = .ok (.iconst 4, 1) := by decide +kernel
theorem dX8_judge_114 : decode cX8_judge 114 = .ok (.ireturn, 1) := by decide +kernel
theorem dJ9_floorDiv_7cf53_0 : decode cJ9_floorDiv_7cf53 0 = .ok (.iload_n 0, 1) := by decide +kernel
theorem dJ9_floorDiv_7cf53_1 : decode cJ9_floorDiv_7cf53 1 = .ok (.iload_n 1, 1) := by decide +kernel
theorem dJ9_floorDiv_7cf53_2 : decode cJ9_floorDiv_7cf53 2 = .ok (.idiv, 1) := by decide +kernel
theorem dJ9_floorDiv_7cf53_3 : decode cJ9_floorDiv_7cf53 3 = .ok (.istore_n 2, 1) := by decide +kernel
theorem dJ9_floorDiv_7cf53_4 : decode cJ9_floorDiv_7cf53 4 = .ok (.iload_n 0, 1) := by decide +kernel
theorem dJ9_floorDiv_7cf53_5 : decode cJ9_floorDiv_7cf53 5 = .ok (.iload_n 1, 1) := by decide +kernel
theorem dJ9_floorDiv_7cf53_6 : decode cJ9_floorDiv_7cf53 6 = .ok (.ixor, 1) := by decide +kernel
theorem dJ9_floorDiv_7cf53_7 : decode cJ9_floorDiv_7cf53 7 = .ok (.ifCond .ge 14, 3) := by decide +kernel
theorem dJ9_floorDiv_7cf53_10 : decode cJ9_floorDiv_7cf53 10 = .ok (.iload_n 2, 1) := by decide +kernel
theorem dJ9_floorDiv_7cf53_11 : decode cJ9_floorDiv_7cf53 11 = .ok (.iload_n 1, 1) := by decide +kernel
theorem dJ9_floorDiv_7cf53_12 : decode cJ9_floorDiv_7cf53 12 = .ok (.imul, 1) := by decide +kernel
theorem dJ9_floorDiv_7cf53_13 : decode cJ9_floorDiv_7cf53 13 = .ok (.iload_n 0, 1) := by decide +kernel
theorem dJ9_floorDiv_7cf53_14 : decode cJ9_floorDiv_7cf53 14 = .ok (.if_icmp .eq 7, 3) := by decide +kernel
theorem dJ9_floorDiv_7cf53_17 : decode cJ9_floorDiv_7cf53 17 = .ok (.iload_n 2, 1) := by decide +kernel
theorem dJ9_floorDiv_7cf53_18 : decode cJ9_floorDiv_7cf53 18 = .ok (.iconst 1, 1) := by decide +kernel
theorem dJ9_floorDiv_7cf53_19 : decode cJ9_floorDiv_7cf53 19 = .ok (.isub, 1) := by decide +kernel
theorem dJ9_floorDiv_7cf53_20 : decode cJ9_floorDiv_7cf53 20 = .ok (.ireturn, 1) := by decide +kernel
theorem dJ9_floorDiv_7cf53_21 : decode cJ9_floorDiv_7cf53 21 = .ok (.iload_n 2, 1) := by decide +kernel
theorem dJ9_floorDiv_7cf53_22 : decode cJ9_floorDiv_7cf53 22 = .ok (.ireturn, 1) := by decide +kernel
theorem dJ9_abs_0f7a4_0 : decode cJ9_abs_0f7a4 0 = .ok (.iload_n 0, 1) := by decide +kernel
theorem dJ9_abs_0f7a4_1 : decode cJ9_abs_0f7a4 1 = .ok (.ifCond .ge 8, 3) := by decide +kernel
theorem dJ9_abs_0f7a4_4 : decode cJ9_abs_0f7a4 4 = .ok (.iload_n 0, 1) := by decide +kernel
theorem dJ9_abs_0f7a4_5 : decode cJ9_abs_0f7a4 5 = .ok (.ineg, 1) := by decide +kernel
theorem dJ9_abs_0f7a4_6 : decode cJ9_abs_0f7a4 6 = .ok (.goto 4, 3) := by decide +kernel
theorem dJ9_abs_0f7a4_9 : decode cJ9_abs_0f7a4 9 = .ok (.iload_n 0, 1) := by decide +kernel
theorem dJ9_abs_0f7a4_10 : decode cJ9_abs_0f7a4 10 = .ok (.ireturn, 1) := by decide +kernel
theorem dJ9_max_7cf53_0 : decode cJ9_max_7cf53 0 = .ok (.iload_n 0, 1) := by decide +kernel
theorem dJ9_max_7cf53_1 : decode cJ9_max_7cf53 1 = .ok (.iload_n 1, 1) := by decide +kernel
theorem dJ9_max_7cf53_2 : decode cJ9_max_7cf53 2 = .ok (.if_icmp .lt 7, 3) := by decide +kernel
theorem dJ9_max_7cf53_5 : decode cJ9_max_7cf53 5 = .ok (.iload_n 0, 1) := by decide +kernel
theorem dJ9_max_7cf53_6 : decode cJ9_max_7cf53 6 = .ok (.goto 4, 3) := by decide +kernel
theorem dJ9_max_7cf53_9 : decode cJ9_max_7cf53 9 = .ok (.iload_n 1, 1) := by decide +kernel
theorem dJ9_max_7cf53_10 : decode cJ9_max_7cf53 10 = .ok (.ireturn, 1) := by decide +kernel
theorem dJ9_min_7cf53_0 : decode cJ9_min_7cf53 0 = .ok (.iload_n 0, 1) := by decide +kernel
theorem dJ9_min_7cf53_1 : decode cJ9_min_7cf53 1 = .ok (.iload_n 1, 1) := by decide +kernel
theorem dJ9_min_7cf53_2 : decode cJ9_min_7cf53 2 = .ok (.if_icmp .gt 7, 3) := by decide +kernel
theorem dJ9_min_7cf53_5 : decode cJ9_min_7cf53 5 = .ok (.iload_n 0, 1) := by decide +kernel
theorem dJ9_min_7cf53_6 : decode cJ9_min_7cf53 6 = .ok (.goto 4, 3) := by decide +kernel
theorem dJ9_min_7cf53_9 : decode cJ9_min_7cf53 9 = .ok (.iload_n 1, 1) := by decide +kernel
theorem dJ9_min_7cf53_10 : decode cJ9_min_7cf53 10 = .ok (.ireturn, 1) := by decide +kernel
theorem dJxa1e45_init_da8c8_0 : decode cJxa1e45_init_da8c8 0 = .ok (.aload_n 0, 1) := by decide +kernel
theorem dJxa1e45_init_da8c8_1 : decode cJxa1e45_init_da8c8 1 = .ok (.invokespecial 1, 3) := by decide +kernel
theorem dJxa1e45_init_da8c8_4 : decode cJxa1e45_init_da8c8 4 = .ok (.return_, 1) := by decide +kernel
set_option maxRecDepth 20000 in
theorem ggJxc12de_init_da8c8_Jxa1e45_init_da8c8 : GoodIn wsJxc12de_init_da8c8 wsJxa1e45_init_da8c8 := goodIn_r _ [5, 6, 7, 8] (by decide +kernel) (by decide +kernel)
set_option maxRecDepth 20000 in
theorem gJxc12de_init_da8c8_Jxa1e45_init_da8c8 : GoodIn wsJxc12de_init_da8c8 (wsJxa1e45_init_da8c8) := ggJxc12de_init_da8c8_Jxa1e45_init_da8c8
theorem dJxc12de_init_da8c8_0 : decode cJxc12de_init_da8c8 0 = .ok (.aload_n 0, 1) := by decide +kernel
theorem dJxc12de_init_da8c8_1 : decode cJxc12de_init_da8c8 1 = .ok (.invokespecial 1, 3) := by decide +kernel
theorem dJxc12de_init_da8c8_4 : decode cJxc12de_init_da8c8 4 = .ok (.aload_n 0, 1) := by decide +kernel
theorem dJxc12de_init_da8c8_5 : decode cJxc12de_init_da8c8 5 = .ok (.iconst 0, 1) := by decide +kernel
theorem dJxc12de_init_da8c8_6 : decode cJxc12de_init_da8c8 6 = .ok (.putfield 7, 3) := by decide +kernel
theorem dJxc12de_init_da8c8_9 : decode cJxc12de_init_da8c8 9 = .ok (.return_, 1) := by decide +kernel
set_option maxRecDepth 20000 in
theorem ggJx4a65c_init_da8c8_Jxc12de_init_da8c8 : GoodIn wsJx4a65c_init_da8c8 wsJxc12de_init_da8c8 := goodIn_r _ [6, 7, 8, 9, 10, 11, 12, 13, 14, 15, 16, 17] (by decide +kernel) (by decide +kernel)
set_option maxRecDepth 20000 in
theorem gJx4a65c_init_da8c8_Jxc12de_init_da8c8 : GoodIn wsJx4a65c_init_da8c8 (wsJxc12de_init_da8c8) := ggJx4a65c_init_da8c8_Jxc12de_init_da8c8
theorem dJx4a65c_init_da8c8_0 : decode cJx4a65c_init_da8c8 0 = .ok (.aload_n 0, 1) := by decide +kernel
theorem dJx4a65c_init_da8c8_1 : decode cJx4a65c_init_da8c8 1 = .ok (.invokespecial 1, 3) := by decide +kernel
theorem dJx4a65c_init_da8c8_4 : decode cJx4a65c_init_da8c8 4 = .ok (.aload_n 0, 1) := by decide +kernel
theorem dJx4a65c_init_da8c8_5 : decode cJx4a65c_init_da8c8 5 = .ok (.getstatic 39, 3) := by decide +kernel
theorem dJx4a65c_init_da8c8_8 : decode cJx4a65c_init_da8c8 8 = .ok (.putfield 9, 3) := by decide +kernel
theorem dJx4a65c_init_da8c8_11 : decode cJx4a65c_init_da8c8 11 = .ok (.return_, 1) := by decide +kernel
set_option maxRecDepth 20000 in
theorem ggJx4a65c_grow_92f84_J8_newLength_cabcc : GoodIn wsJx4a65c_grow_92f84 wsJ8_newLength_cabcc := goodIn_r _ [11, 12, 4, 5, 6, 13, 14, 15, 10, 16] (by decide +kernel) (by decide +kernel)
set_option maxRecDepth 20000 in
theorem gJx4a65c_grow_92f84_J8_newLength_cabcc : GoodIn wsJx4a65c_grow_92f84 (va_wsS RJx4a65c 73 yJ8_newLength_cabcc wsJ8_newLength_cabcc) := goodIn_app (goodIn_of _ (by decide +kernel)) ggJx4a65c_grow_92f84_J8_newLength_cabcc
set_option maxRecDepth 20000 in
theorem ggJx4a65c_grow_92f84_J7_copyOf_1904c : GoodIn wsJx4a65c_grow_92f84 wsJ7_copyOf_1904c := goodIn_r _ [20, 21, 22, 23, 24, 25, 26, 19, 27, 28, 29, 30, 31, 5, 32, 33, 34, 35, 36] (by decide +kernel) (by decide +kernel)
set_option maxRecDepth 20000 in
theorem gJx4a65c_grow_92f84_J7_copyOf_1904c : GoodIn wsJx4a65c_grow_92f84 (va_wsS RJx4a65c 66 yJ7_copyOf_1904c wsJ7_copyOf_1904c) := goodIn_app (goodIn_of _ (by decide +kernel)) ggJx4a65c_grow_92f84_J7_copyOf_1904c
theorem dJx4a65c_grow_92f84_0 : decode cJx4a65c_grow_92f84 0 = .ok (.aload_n 0, 1) := by decide +kernel
theorem dJx4a65c_grow_92f84_1 : decode cJx4a65c_grow_92f84 1 = .ok (.getfield 9, 3) := by decide +kernel
theorem dJx4a65c_grow_92f84_4 : decode cJx4a65c_grow_92f84 4 = .ok (.arraylength, 1) := by decide +kernel
theorem dJx4a65c_grow_92f84_5 : decode cJx4a65c_grow_92f84 5 = .ok (.istore_n 2, 1) := by decide +kernel
theorem dJx4a65c_grow_92f84_6 : decode cJx4a65c_grow_92f84 6 = .ok (.iload_n 2, 1) := by decide +kernel
theorem dJx4a65c_grow_92f84_7 : decode cJx4a65c_grow_92f84 7 = .ok (.ifCond .gt 13, 3) := by decide +kernel
theorem dJx4a65c_grow_92f84_10 : decode cJx4a65c_grow_92f84 10 = .ok (.aload_n 0, 1) := by decide +kernel
theorem dJx4a65c_grow_92f84_11 : decode cJx4a65c_grow_92f84 11 = .ok (.getfield 9, 3) := by decide +kernel
theorem dJx4a65c_grow_92f84_14 : decode cJx4a65c_grow_92f84 14 = .ok (.getstatic 39, 3) := by decide +kernel
theorem dJx4a65c_grow_92f84_17 : decode cJx4a65c_grow_92f84 17 = .ok (.if_acmp .eq 28, 3) := by decide +kernel
theorem dJx4a65c_grow_92f84_20 : decode cJx4a65c_grow_92f84 20 = .ok (.iload_n 2, 1) := by decide +kernel
theorem dJx4a65c_grow_92f84_21 : decode cJx4a65c_grow_92f84 21 = .ok (.iload_n 1, 1) := by decide +kernel
theorem dJx4a65c_grow_92f84_22 : decode cJx4a65c_grow_92f84 22 = .ok (.iload_n 2, 1) := by decide +kernel
theorem dJx4a65c_grow_92f84_23 : decode cJx4a65c_grow_92f84 23 = .ok (.isub, 1) := by decide +kernel
theorem dJx4a65c_grow_92f84_24 : decode cJx4a65c_grow_92f84 24 = .ok (.iload_n 2, 1) := by decide +kernel
theorem dJx4a65c_grow_92f84_25 : decode cJx4a65c_grow_92f84 25 = .ok (.iconst 1, 1) := by decide +kernel
theorem dJx4a65c_grow_92f84_26 : decode cJx4a65c_grow_92f84 26 = .ok (.ishr, 1) := by decide +kernel
theorem dJx4a65c_grow_92f84_27 : decode cJx4a65c_grow_92f84 27 = .ok (.invokestatic 73, 3) := by decide +kernel
theorem dJx4a65c_grow_92f84_30 : decode cJx4a65c_grow_92f84 30 = .ok (.istore_n 3, 1) := by decide +kernel
theorem dJx4a65c_grow_92f84_31 : decode cJx4a65c_grow_92f84 31 = .ok (.aload_n 0, 1) := by decide +kernel
theorem dJx4a65c_grow_92f84_32 : decode cJx4a65c_grow_92f84 32 = .ok (.aload_n 0, 1) := by decide +kernel
theorem dJx4a65c_grow_92f84_33 : decode cJx4a65c_grow_92f84 33 = .ok (.getfield 9, 3) := by decide +kernel
theorem dJx4a65c_grow_92f84_36 : decode cJx4a65c_grow_92f84 36 = .ok (.iload_n 3, 1) := by decide +kernel
theorem dJx4a65c_grow_92f84_37 : decode cJx4a65c_grow_92f84 37 = .ok (.invokestatic 66, 3) := by decide +kernel
theorem dJx4a65c_grow_92f84_40 : decode cJx4a65c_grow_92f84 40 = .ok (.dup_x1, 1) := by decide +kernel
theorem dJx4a65c_grow_92f84_41 : decode cJx4a65c_grow_92f84 41 = .ok (.putfield 9, 3) := by decide +kernel
theorem dJx4a65c_grow_92f84_44 : decode cJx4a65c_grow_92f84 44 = .ok (.areturn, 1) := by decide +kernel
theorem dJx4a65c_grow_92f84_45 : decode cJx4a65c_grow_92f84 45 = .ok (.aload_n 0, 1) := by decide +kernel
theorem dJx4a65c_grow_92f84_46 : decode cJx4a65c_grow_92f84 46 = .ok (.bipush 10, 2) := by decide +kernel
theorem dJx4a65c_grow_92f84_48 : decode cJx4a65c_grow_92f84 48 = .ok (.iload_n 1, 1) := by decide +kernel
theorem dJx4a65c_grow_92f84_49 : decode cJx4a65c_grow_92f84 49 = .ok (.invokestatic 79, 3) := by decide +kernel
theorem dJx4a65c_grow_92f84_52 : decode cJx4a65c_grow_92f84 52 = .ok (.anewarray 7, 3) := by decide +kernel
theorem dJx4a65c_grow_92f84_55 : decode cJx4a65c_grow_92f84 55 = .ok (.dup_x1, 1) := by decide +kernel
theorem dJx4a65c_grow_92f84_56 : decode cJx4a65c_grow_92f84 56 = .ok (.putfield 9, 3) := by decide +kernel
theorem dJx4a65c_grow_92f84_59 : decode cJx4a65c_grow_92f84 59 = .ok (.areturn, 1) := by decide +kernel
set_option maxRecDepth 20000 in
theorem ggJx4a65c_grow_d5877_Jx4a65c_grow_92f84 : GoodIn wsJx4a65c_grow_d5877 wsJx4a65c_grow_92f84 := goodIn_r _ [6, 7, 8, 9, 10, 11, 12, 13, 14, 15, 16, 17, 18, 19, 20, 21, 22, 23, 24, 25, 26, 27, 28, 29, 30, 31, 32, 33, 34, 35, 36, 37, 38, 39, 40, 41, 42, 43, 44, 45] (by decide +kernel) (by decide +kernel)
set_option maxRecDepth 20000 in
theorem gJx4a65c_grow_d5877_Jx4a65c_grow_92f84 : GoodIn wsJx4a65c_grow_d5877 (wsV RJx4a65c 69 RJx4a65c yJx4a65c_grow_92f84 wsJx4a65c_grow_92f84) := goodIn_app (goodIn_of _ (by decide +kernel)) ggJx4a65c_grow_d5877_Jx4a65c_grow_92f84
theorem dJx4a65c_grow_d5877_0 : decode cJx4a65c_grow_d5877 0 = .ok (.aload_n 0, 1) := by decide +kernel
theorem dJx4a65c_grow_d5877_1 : decode cJx4a65c_grow_d5877 1 = .ok (.aload_n 0, 1) := by decide +kernel
theorem dJx4a65c_grow_d5877_2 : decode cJx4a65c_grow_d5877 2 = .ok (.getfield 48, 3) := by decide +kernel
theorem dJx4a65c_grow_d5877_5 : decode cJx4a65c_grow_d5877 5 = .ok (.iconst 1, 1) := by decide +kernel
theorem dJx4a65c_grow_d5877_6 : decode cJx4a65c_grow_d5877 6 = .ok (.iadd, 1) := by decide +kernel
theorem dJx4a65c_grow_d5877_7 : decode cJx4a65c_grow_d5877 7 = .ok (.invokevirtual 69, 3) := by decide +kernel
theorem dJx4a65c_grow_d5877_10 : decode cJx4a65c_grow_d5877 10 = .ok (.areturn, 1) := by decide +kernel
theorem dJx4a65c_size_8abf5_0 : decode cJx4a65c_size_8abf5 0 = .ok (.aload_n 0, 1) := by decide +kernel
theorem dJx4a65c_size_8abf5_1 : decode cJx4a65c_size_8abf5 1 = .ok (.getfield 48, 3) := by decide +kernel
theorem dJx4a65c_size_8abf5_4 : decode cJx4a65c_size_8abf5 4 = .ok (.ireturn, 1) := by decide +kernel
theorem dJx4a65c_elementData_915e3_0 : decode cJx4a65c_elementData_915e3 0 = .ok (.aload_n 0, 1) := by decide +kernel
theorem dJx4a65c_elementData_915e3_1 : decode cJx4a65c_elementData_915e3 1 = .ok (.getfield 9, 3) := by decide +kernel
theorem dJx4a65c_elementData_915e3_4 : decode cJx4a65c_elementData_915e3 4 = .ok (.iload_n 1, 1) := by decide +kernel
theorem dJx4a65c_elementData_915e3_5 : decode cJx4a65c_elementData_915e3 5 = .ok (.aaload, 1) := by decide +kernel
theorem dJx4a65c_elementData_915e3_6 : decode cJx4a65c_elementData_915e3 6 = .ok (.areturn, 1) := by decide +kernel
set_option maxRecDepth 20000 in
theorem ggJx4a65c_get_915e3_J15_checkIndex_7cf53 : GoodIn wsJx4a65c_get_915e3 wsJ15_checkIndex_7cf53 := goodIn_r _ [5, 6, 7, 8, 9] (by decide +kernel) (by decide +kernel)
set_option maxRecDepth 20000 in
theorem gJx4a65c_get_915e3_J15_checkIndex_7cf53 : GoodIn wsJx4a65c_get_915e3 (va_wsS RJx4a65c 118 yJ15_checkIndex_7cf53 wsJ15_checkIndex_7cf53) := goodIn_app (goodIn_of _ (by decide +kernel)) ggJx4a65c_get_915e3_J15_checkIndex_7cf53
set_option maxRecDepth 20000 in
theorem ggJx4a65c_get_915e3_Jx4a65c_elementData_915e3 : GoodIn wsJx4a65c_get_915e3 wsJx4a65c_elementData_915e3 := goodIn_r _ [14, 15, 16, 17, 18] (by decide +kernel) (by decide +kernel)
set_option maxRecDepth 20000 in
theorem gJx4a65c_get_915e3_Jx4a65c_elementData_915e3 : GoodIn wsJx4a65c_get_915e3 (wsV RJx4a65c 123 RJx4a65c yJx4a65c_elementData_915e3 wsJx4a65c_elementData_915e3) := goodIn_app (goodIn_of _ (by decide +kernel)) ggJx4a65c_get_915e3_Jx4a65c_elementData_915e3
theorem dJx4a65c_get_915e3_0 : decode cJx4a65c_get_915e3 0 = .ok (.iload_n 1, 1) := by decide +kernel
theorem dJx4a65c_get_915e3_1 : decode cJx4a65c_get_915e3 1 = .ok (.aload_n 0, 1) := by decide +kernel
theorem dJx4a65c_get_915e3_2 : decode cJx4a65c_get_915e3 2 = .ok (.getfield 48, 3) := by decide +kernel
theorem dJx4a65c_get_915e3_5 : decode cJx4a65c_get_915e3 5 = .ok (.invokestatic 118, 3) := by decide +kernel
theorem dJx4a65c_get_915e3_8 : decode cJx4a65c_get_915e3 8 = .ok (.pop, 1) := by decide +kernel
theorem dJx4a65c_get_915e3_9 : decode cJx4a65c_get_915e3 9 = .ok (.aload_n 0, 1) := by decide +kernel
theorem dJx4a65c_get_915e3_10 : decode cJx4a65c_get_915e3 10 = .ok (.iload_n 1, 1) := by decide +kernel
theorem dJx4a65c_get_915e3_11 : decode cJx4a65c_get_915e3 11 = .ok (.invokevirtual 123, 3) := by decide +kernel
theorem dJx4a65c_get_915e3_14 : decode cJx4a65c_get_915e3 14 = .ok (.areturn, 1) := by decide +kernel
set_option maxRecDepth 20000 in
theorem ggJx4a65c_add_72be8_Jx4a65c_grow_d5877 : GoodIn wsJx4a65c_add_72be8 wsJx4a65c_grow_d5877 := goodIn_r _ [6, 1, 7, 8, 9, 5, 10, 11, 12, 13, 14, 15, 16, 17, 18, 19, 20, 21, 22, 23, 24, 25, 26, 27, 28, 29, 30, 31, 32, 33, 34, 35, 36, 37, 38, 39, 40, 41, 42, 43, 44, 45, 46, 47, 48, 49] (by decide +kernel) (by decide +kernel)
set_option maxRecDepth 20000 in
theorem gJx4a65c_add_72be8_Jx4a65c_grow_d5877 : GoodIn wsJx4a65c_add_72be8 (wsV RJx4a65c 129 RJx4a65c yJx4a65c_grow_d5877 wsJx4a65c_grow_d5877) := goodIn_app (goodIn_of _ (by decide +kernel)) ggJx4a65c_add_72be8_Jx4a65c_grow_d5877
