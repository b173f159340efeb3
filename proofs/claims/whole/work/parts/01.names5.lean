theorem dX8_goes_95 : decode cX8_goes 95 = .ok (.iaload, 1) := by decide +kernel
theorem dX8_goes_96 : decode cX8_goes 96 = .ok (.iconst 2, 1) := by decide +kernel
theorem dX8_goes_97 : decode cX8_goes 97 = .ok (.iadd, 1) := by decide +kernel
theorem dX8_goes_98 : decode cX8_goes 98 = .ok (.iconst 4, 1) := by decide +kernel
theorem dX8_goes_99 : decode cX8_goes 99 = .ok (.irem, 1) := by decide +kernel
theorem dX8_goes_100 : decode cX8_goes 100 = .ok (.invokevirtual 124, 3) := by decide +kernel
theorem dX8_goes_103 : decode cX8_goes 103 = .ok (.iload_n 3, 1) := by decide +kernel
theorem dX8_goes_104 : decode cX8_goes 104 = .ok (.iconst 3, 1) := by decide +kernel
theorem dX8_goes_105 : decode cX8_goes 105 = .ok (.if_icmp .ne 19, 3) := by decide +kernel
theorem dX8_goes_108 : decode cX8_goes 108 = .ok (.aload_n 0, 1) := by decide +kernel
theorem dX8_goes_109 : decode cX8_goes 109 = .ok (.getfield 19, 3) := by decide +kernel
theorem dX8_goes_112 : decode cX8_goes 112 = .ok (.iconst 3, 1) := by decide +kernel
theorem dX8_goes_113 : decode cX8_goes 113 = .ok (.aload_n 0, 1) := by decide +kernel
theorem dX8_goes_114 : decode cX8_goes 114 = .ok (.getfield 19, 3) := by decide +kernel
theorem dX8_goes_117 : decode cX8_goes 117 = .ok (.iconst 3, 1) := by decide +kernel
theorem dX8_goes_118 : decode cX8_goes 118 = .ok (.iaload, 1) := by decide +kernel
theorem dX8_goes_119 : decode cX8_goes 119 = .ok (.iconst 1, 1) := by decide +kernel
theorem dX8_goes_120 : decode cX8_goes 120 = .ok (.iadd, 1) := by decide +kernel
theorem dX8_goes_121 : decode cX8_goes 121 = .ok (.iconst 4, 1) := by decide +kernel
theorem dX8_goes_122 : decode cX8_goes 122 = .ok (.irem, 1) := by decide +kernel
theorem dX8_goes_123 : decode cX8_goes 123 = .ok (.iastore, 1) := by decide +kernel
theorem dX8_goes_124 : decode cX8_goes 124 = .ok (.iload_n 3, 1) := by decide +kernel
theorem dX8_goes_125 : decode cX8_goes 125 = .ok (.iconst 4, 1) := by decide +kernel
theorem dX8_goes_126 : decode cX8_goes 126 = .ok (.if_icmp .ne 18, 3) := by decide +kernel
theorem dX8_goes_129 : decode cX8_goes 129 = .ok (.aload_n 0, 1) := by decide +kernel
theorem dX8_goes_130 : decode cX8_goes 130 = .ok (.getfield 19, 3) := by decide +kernel
theorem dX8_goes_133 : decode cX8_goes 133 = .ok (.bipush 24, 2) := by decide +kernel
theorem dX8_goes_135 : decode cX8_goes 135 = .ok (.iload_n 1, 1) := by decide +kernel
theorem dX8_goes_136 : decode cX8_goes 136 = .ok (.iadd, 1) := by decide +kernel
theorem dX8_goes_137 : decode cX8_goes 137 = .ok (.dup2, 1) := by decide +kernel
theorem dX8_goes_138 : decode cX8_goes 138 = .ok (.iaload, 1) := by decide +kernel
theorem dX8_goes_139 : decode cX8_goes 139 = .ok (.iconst 1, 1) := by decide +kernel
theorem dX8_goes_140 : decode cX8_goes 140 = .ok (.iadd, 1) := by decide +kernel
theorem dX8_goes_141 : decode cX8_goes 141 = .ok (.iastore, 1) := by decide +kernel
theorem dX8_goes_142 : decode cX8_goes 142 = .ok (.iload_n 1, 1) := by decide +kernel
theorem dX8_goes_143 : decode cX8_goes 143 = .ok (.istore_n 2, 1) := by decide +kernel
theorem dX8_goes_144 : decode cX8_goes 144 = .ok (.aload_n 0, 1) := by decide +kernel
theorem dX8_goes_145 : decode cX8_goes 145 = .ok (.getfield 19, 3) := by decide +kernel
theorem dX8_goes_148 : decode cX8_goes 148 = .ok (.iconst 5, 1) := by decide +kernel
theorem dX8_goes_149 : decode cX8_goes 149 = .ok (.dup2, 1) := by decide +kernel
theorem dX8_goes_150 : decode cX8_goes 150 = .ok (.iaload, 1) := by decide +kernel
theorem dX8_goes_151 : decode cX8_goes 151 = .ok (.iconst 1, 1) := by decide +kernel
theorem dX8_goes_152 : decode cX8_goes 152 = .ok (.isub, 1) := by decide +kernel
theorem dX8_goes_153 : decode cX8_goes 153 = .ok (.iastore, 1) := by decide +kernel
theorem dX8_goes_154 : decode cX8_goes 154 = .ok (.aload_n 0, 1) := by decide +kernel
theorem dX8_goes_155 : decode cX8_goes 155 = .ok (.getfield 19, 3) := by decide +kernel
theorem dX8_goes_158 : decode cX8_goes 158 = .ok (.iconst 4, 1) := by decide +kernel
theorem dX8_goes_159 : decode cX8_goes 159 = .ok (.aload_n 0, 1) := by decide +kernel
theorem dX8_goes_160 : decode cX8_goes 160 = .ok (.getfield 19, 3) := by decide +kernel
theorem dX8_goes_163 : decode cX8_goes 163 = .ok (.iconst 5, 1) := by decide +kernel
theorem dX8_goes_164 : decode cX8_goes 164 = .ok (.iaload, 1) := by decide +kernel
theorem dX8_goes_165 : decode cX8_goes 165 = .ok (.ifCond .ne 7, 3) := by decide +kernel
theorem dX8_goes_168 : decode cX8_goes 168 = .ok (.iconst (-1), 1) := by decide +kernel
theorem dX8_goes_169 : decode cX8_goes 169 = .ok (.goto 4, 3) := by decide +kernel
theorem dX8_goes_172 : decode cX8_goes 172 = .ok (.iload_n 3, 1) := by decide +kernel
theorem dX8_goes_173 : decode cX8_goes 173 = .ok (.iastore, 1) := by decide +kernel
theorem dX8_goes_174 : decode cX8_goes 174 = .ok (.aload_n 0, 1) := by decide +kernel
theorem dX8_goes_175 : decode cX8_goes 175 = .ok (.getfield 19, 3) := by decide +kernel
theorem dX8_goes_178 : decode cX8_goes 178 = .ok (.iconst 1, 1) := by decide +kernel
theorem dX8_goes_179 : decode cX8_goes 179 = .ok (.dup2, 1) := by decide +kernel
theorem dX8_goes_180 : decode cX8_goes 180 = .ok (.iaload, 1) := by decide +kernel
theorem dX8_goes_181 : decode cX8_goes 181 = .ok (.iconst 1, 1) := by decide +kernel
theorem dX8_goes_182 : decode cX8_goes 182 = .ok (.iadd, 1) := by decide +kernel
theorem dX8_goes_183 : decode cX8_goes 183 = .ok (.iastore, 1) := by decide +kernel
theorem dX8_goes_184 : decode cX8_goes 184 = .ok (.aload_n 0, 1) := by decide +kernel
theorem dX8_goes_185 : decode cX8_goes 185 = .ok (.getfield 19, 3) := by decide +kernel
theorem dX8_goes_188 : decode cX8_goes 188 = .ok (.iconst 1, 1) := by decide +kernel
theorem dX8_goes_189 : decode cX8_goes 189 = .ok (.iaload, 1) := by decide +kernel
theorem dX8_goes_190 : decode cX8_goes 190 = .ok (.aload_n 0, 1) := by decide +kernel
theorem dX8_goes_191 : decode cX8_goes 191 = .ok (.getfield 13, 3) := by decide +kernel
theorem dX8_goes_194 : decode cX8_goes 194 = .ok (.iconst 2, 1) := by decide +kernel
theorem dX8_goes_195 : decode cX8_goes 195 = .ok (.iaload, 1) := by decide +kernel
theorem dX8_goes_196 : decode cX8_goes 196 = .ok (.if_icmp .ne 20, 3) := by decide +kernel
theorem dX8_goes_199 : decode cX8_goes 199 = .ok (.aload_n 0, 1) := by decide +kernel
theorem dX8_goes_200 : decode cX8_goes 200 = .ok (.getfield 19, 3) := by decide +kernel
theorem dX8_goes_203 : decode cX8_goes 203 = .ok (.iconst 1, 1) := by decide +kernel
theorem dX8_goes_204 : decode cX8_goes 204 = .ok (.iconst 0, 1) := by decide +kernel
theorem dX8_goes_205 : decode cX8_goes 205 = .ok (.iastore, 1) := by decide +kernel
theorem dX8_goes_206 : decode cX8_goes 206 = .ok (.aload_n 0, 1) := by decide +kernel
theorem dX8_goes_207 : decode cX8_goes 207 = .ok (.getfield 19, 3) := by decide +kernel
theorem dX8_goes_210 : decode cX8_goes 210 = .ok (.iconst 0, 1) := by decide +kernel
theorem dX8_goes_211 : decode cX8_goes 211 = .ok (.dup2, 1) := by decide +kernel
theorem dX8_goes_212 : decode cX8_goes 212 = .ok (.iaload, 1) := by decide +kernel
theorem dX8_goes_213 : decode cX8_goes 213 = .ok (.iconst 1, 1) := by decide +kernel
theorem dX8_goes_214 : decode cX8_goes 214 = .ok (.iadd, 1) := by decide +kernel
theorem dX8_goes_215 : decode cX8_goes 215 = .ok (.iastore, 1) := by decide +kernel
theorem dX8_goes_216 : decode cX8_goes 216 = .ok (.iload_n 2, 1) := by decide +kernel
theorem dX8_goes_217 : decode cX8_goes 217 = .ok (.ireturn, 1) := by decide +kernel
theorem dX8_keeps_0 : decode cX8_keeps 0 = .ok (.aload_n 0, 1) := by decide +kernel
theorem dX8_keeps_1 : decode cX8_keeps 1 = .ok (.getfield 103, 3) := by decide +kernel
theorem dX8_keeps_4 : decode cX8_keeps 4 = .ok (.bipush 8, 2) := by decide +kernel
theorem dX8_keeps_6 : decode cX8_keeps 6 = .ok (.if_icmp .ne 43, 3) := by decide +kernel
theorem dX8_keeps_9 : decode cX8_keeps 9 = .ok (.iconst 0, 1) := by decide +kernel
theorem dX8_keeps_10 : decode cX8_keeps 10 = .ok (.istore_n 1, 1) := by decide +kernel
theorem dX8_keeps_11 : decode cX8_keeps 11 = .ok (.iload_n 1, 1) := by decide +kernel
theorem dX8_keeps_12 : decode cX8_keeps 12 = .ok (.sipush 462, 3) := by decide +kernel
theorem dX8_keeps_15 : decode cX8_keeps 15 = .ok (.if_icmp .ge 24, 3) := by decide +kernel
theorem dX8_keeps_18 : decode cX8_keeps 18 = .ok (.aload_n 0, 1) := by decide +kernel
theorem dX8_keeps_19 : decode cX8_keeps 19 = .ok (.getfield 22, 3) := by decide +kernel
theorem dX8_keeps_22 : decode cX8_keeps 22 = .ok (.iload_n 1, 1) := by decide +kernel
theorem dX8_keeps_23 : decode cX8_keeps 23 = .ok (.aload_n 0, 1) := by decide +kernel
theorem dX8_keeps_24 : decode cX8_keeps 24 = .ok (.getfield 22, 3) := by decide +kernel
theorem dX8_keeps_27 : decode cX8_keeps 27 = .ok (.iload_n 1, 1) := by decide +kernel
theorem dX8_keeps_28 : decode cX8_keeps 28 = .ok (.bipush 66, 2) := by decide +kernel
theorem dX8_keeps_30 : decode cX8_keeps 30 = .ok (.iadd, 1) := by decide +kernel
theorem dX8_keeps_31 : decode cX8_keeps 31 = .ok (.iaload, 1) := by decide +kernel
theorem dX8_keeps_32 : decode cX8_keeps 32 = .ok (.iastore, 1) := by decide +kernel
theorem dX8_keeps_33 : decode cX8_keeps 33 = .ok (.iinc 1 1, 3) := by decide +kernel
theorem dX8_keeps_36 : decode cX8_keeps 36 = .ok (.goto (-25), 3) := by decide +kernel
theorem dX8_keeps_39 : decode cX8_keeps 39 = .ok (.aload_n 0, 1) := by decide +kernel
theorem dX8_keeps_40 : decode cX8_keeps 40 = .ok (.dup, 1) := by decide +kernel
theorem dX8_keeps_41 : decode cX8_keeps 41 = .ok (.getfield 103, 3) := by decide +kernel
theorem dX8_keeps_44 : decode cX8_keeps 44 = .ok (.iconst 1, 1) := by decide +kernel
theorem dX8_keeps_45 : decode cX8_keeps 45 = .ok (.isub, 1) := by decide +kernel
theorem dX8_keeps_46 : decode cX8_keeps 46 = .ok (.putfield 103, 3) := by decide +kernel
theorem dX8_keeps_49 : decode cX8_keeps 49 = .ok (.iconst 0, 1) := by decide +kernel
theorem dX8_keeps_50 : decode cX8_keeps 50 = .ok (.istore_n 1, 1) := by decide +kernel
theorem dX8_keeps_51 : decode cX8_keeps 51 = .ok (.iload_n 1, 1) := by decide +kernel
theorem dX8_keeps_52 : decode cX8_keeps 52 = .ok (.bipush 66, 2) := by decide +kernel
theorem dX8_keeps_54 : decode cX8_keeps 54 = .ok (.if_icmp .ge 29, 3) := by decide +kernel
theorem dX8_keeps_57 : decode cX8_keeps 57 = .ok (.aload_n 0, 1) := by decide +kernel
theorem dX8_keeps_58 : decode cX8_keeps 58 = .ok (.getfield 22, 3) := by decide +kernel
theorem dX8_keeps_61 : decode cX8_keeps 61 = .ok (.bipush 66, 2) := by decide +kernel
theorem dX8_keeps_63 : decode cX8_keeps 63 = .ok (.aload_n 0, 1) := by decide +kernel
theorem dX8_keeps_64 : decode cX8_keeps 64 = .ok (.getfield 103, 3) := by decide +kernel
theorem dX8_keeps_67 : decode cX8_keeps 67 = .ok (.imul, 1) := by decide +kernel
theorem dX8_keeps_68 : decode cX8_keeps 68 = .ok (.iload_n 1, 1) := by decide +kernel
theorem dX8_keeps_69 : decode cX8_keeps 69 = .ok (.iadd, 1) := by decide +kernel
theorem dX8_keeps_70 : decode cX8_keeps 70 = .ok (.aload_n 0, 1) := by decide +kernel
theorem dX8_keeps_71 : decode cX8_keeps 71 = .ok (.getfield 19, 3) := by decide +kernel
theorem dX8_keeps_74 : decode cX8_keeps 74 = .ok (.iload_n 1, 1) := by decide +kernel
theorem dX8_keeps_75 : decode cX8_keeps 75 = .ok (.iaload, 1) := by decide +kernel
theorem dX8_keeps_76 : decode cX8_keeps 76 = .ok (.iastore, 1) := by decide +kernel
theorem dX8_keeps_77 : decode cX8_keeps 77 = .ok (.iinc 1 1, 3) := by decide +kernel
theorem dX8_keeps_80 : decode cX8_keeps 80 = .ok (.goto (-29), 3) := by decide +kernel
theorem dX8_keeps_83 : decode cX8_keeps 83 = .ok (.aload_n 0, 1) := by decide +kernel
theorem dX8_keeps_84 : decode cX8_keeps 84 = .ok (.dup, 1) := by decide +kernel
theorem dX8_keeps_85 : decode cX8_keeps 85 = .ok (.getfield 103, 3) := by decide +kernel
theorem dX8_keeps_88 : decode cX8_keeps 88 = .ok (.iconst 1, 1) := by decide +kernel
theorem dX8_keeps_89 : decode cX8_keeps 89 = .ok (.iadd, 1) := by decide +kernel
theorem dX8_keeps_90 : decode cX8_keeps 90 = .ok (.putfield 103, 3) := by decide +kernel
theorem dX8_keeps_93 : decode cX8_keeps 93 = .ok (.return_, 1) := by decide +kernel
set_option maxRecDepth 20000 in
theorem ggX8_pass_X8_in : GoodIn wsX8_pass wsX8_in := goodIn_r _ [5] (by decide +kernel) (by decide +kernel)
set_option maxRecDepth 20000 in
theorem gX8_pass_X8_in : GoodIn wsX8_pass (va_wsS RX8 45 yX8_in wsX8_in) := goodIn_app (goodIn_of _ (by decide +kernel)) ggX8_pass_X8_in
set_option maxRecDepth 20000 in
theorem ggX8_pass_X8_keeps : GoodIn wsX8_pass wsX8_keeps := goodIn_r _ [9, 10, 11, 1, 29, 30, 31, 32, 33, 34, 35, 36, 37, 38, 39, 40, 41, 42, 43, 44] (by decide +kernel) (by decide +kernel)
set_option maxRecDepth 20000 in
theorem gX8_pass_X8_keeps : GoodIn wsX8_pass (wsV RX8 127 RX8 yX8_keeps wsX8_keeps) := goodIn_app (goodIn_of _ (by decide +kernel)) ggX8_pass_X8_keeps
set_option maxRecDepth 20000 in
theorem ggX8_pass_X8_goes : GoodIn wsX8_pass wsX8_goes := goodIn_r _ [15, 1, 16, 17, 18, 19, 4, 20, 21, 22, 23, 24, 25, 26, 27, 28, 2, 3, 5, 29, 30, 31, 32, 33, 34, 35, 36, 37, 38, 39, 40, 41, 42, 43, 44] (by decide +kernel) (by decide +kernel)
set_option maxRecDepth 20000 in
theorem gX8_pass_X8_goes : GoodIn wsX8_pass (wsV RX8 130 RX8 yX8_goes wsX8_goes) := goodIn_app (goodIn_of _ (by decide +kernel)) ggX8_pass_X8_goes
theorem dX8_pass_0 : decode cX8_pass 0 = .ok (.iload_n 1, 1) := by decide +kernel
theorem dX8_pass_1 : decode cX8_pass 1 = .ok (.iconst 1, 1) := by decide +kernel
theorem dX8_pass_2 : decode cX8_pass 2 = .ok (.bipush 60, 2) := by decide +kernel
theorem dX8_pass_4 : decode cX8_pass 4 = .ok (.invokestatic 45, 3) := by decide +kernel
theorem dX8_pass_7 : decode cX8_pass 7 = .ok (.ifCond .ne 6, 3) := by decide +kernel
theorem dX8_pass_10 : decode cX8_pass 10 = .ok (.bipush (-3), 2) := by decide +kernel
theorem dX8_pass_12 : decode cX8_pass 12 = .ok (.ireturn, 1) := by decide +kernel
theorem dX8_pass_13 : decode cX8_pass 13 = .ok (.aload_n 0, 1) := by decide +kernel
theorem dX8_pass_14 : decode cX8_pass 14 = .ok (.getfield 19, 3) := by decide +kernel
theorem dX8_pass_17 : decode cX8_pass 17 = .ok (.iconst 0, 1) := by decide +kernel
theorem dX8_pass_18 : decode cX8_pass 18 = .ok (.iaload, 1) := by decide +kernel
theorem dX8_pass_19 : decode cX8_pass 19 = .ok (.sipush 999, 3) := by decide +kernel
theorem dX8_pass_22 : decode cX8_pass 22 = .ok (.if_icmp .le 6, 3) := by decide +kernel
theorem dX8_pass_25 : decode cX8_pass 25 = .ok (.bipush (-5), 2) := by decide +kernel
theorem dX8_pass_27 : decode cX8_pass 27 = .ok (.ireturn, 1) := by decide +kernel
theorem dX8_pass_28 : decode cX8_pass 28 = .ok (.aload_n 0, 1) := by decide +kernel
theorem dX8_pass_29 : decode cX8_pass 29 = .ok (.invokevirtual 127, 3) := by decide +kernel
theorem dX8_pass_32 : decode cX8_pass 32 = .ok (.iconst 0, 1) := by decide +kernel
theorem dX8_pass_33 : decode cX8_pass 33 = .ok (.istore_n 2, 1) := by decide +kernel
theorem dX8_pass_34 : decode cX8_pass 34 = .ok (.iload_n 2, 1) := by decide +kernel
theorem dX8_pass_35 : decode cX8_pass 35 = .ok (.iload_n 1, 1) := by decide +kernel
theorem dX8_pass_36 : decode cX8_pass 36 = .ok (.if_icmp .ge 14, 3) := by decide +kernel
theorem dX8_pass_39 : decode cX8_pass 39 = .ok (.aload_n 0, 1) := by decide +kernel
theorem dX8_pass_40 : decode cX8_pass 40 = .ok (.invokevirtual 130, 3) := by decide +kernel
theorem dX8_pass_43 : decode cX8_pass 43 = .ok (.pop, 1) := by decide +kernel
theorem dX8_pass_44 : decode cX8_pass 44 = .ok (.iinc 2 1, 3) := by decide +kernel
theorem dX8_pass_47 : decode cX8_pass 47 = .ok (.goto (-13), 3) := by decide +kernel
theorem dX8_pass_50 : decode cX8_pass 50 = .ok (.aload_n 0, 1) := by decide +kernel
theorem dX8_pass_51 : decode cX8_pass 51 = .ok (.getfield 19, 3) := by decide +kernel
theorem dX8_pass_54 : decode cX8_pass 54 = .ok (.iconst 2, 1) := by decide +kernel
theorem dX8_pass_55 : decode cX8_pass 55 = .ok (.iaload, 1) := by decide +kernel
theorem dX8_pass_56 : decode cX8_pass 56 = .ok (.ireturn, 1) := by decide +kernel
set_option maxRecDepth 20000 in
theorem ggX8_orders_X8_next : GoodIn wsX8_orders wsX8_next := goodIn_r _ [6] (by decide +kernel) (by decide +kernel)
set_option maxRecDepth 20000 in
theorem gX8_orders_X8_next : GoodIn wsX8_orders (wsV RX8 116 RX8 yX8_next wsX8_next) := goodIn_app (goodIn_of _ (by decide +kernel)) ggX8_orders_X8_next
theorem dX8_orders_0 : decode cX8_orders 0 = .ok (.aload_n 0, 1) := by decide +kernel
theorem dX8_orders_1 : decode cX8_orders 1 = .ok (.getfield 19, 3) := by decide +kernel
theorem dX8_orders_4 : decode cX8_orders 4 = .ok (.aload_n 0, 1) := by decide +kernel
theorem dX8_orders_5 : decode cX8_orders 5 = .ok (.iload_n 1, 1) := by decide +kernel
theorem dX8_orders_6 : decode cX8_orders 6 = .ok (.aload_n 0, 1) := by decide +kernel
theorem dX8_orders_7 : decode cX8_orders 7 = .ok (.getfield 19, 3) := by decide +kernel
theorem dX8_orders_10 : decode cX8_orders 10 = .ok (.bipush 6, 2) := by decide +kernel
theorem dX8_orders_12 : decode cX8_orders 12 = .ok (.iload_n 1, 1) := by decide +kernel
theorem dX8_orders_13 : decode cX8_orders 13 = .ok (.iadd, 1) := by decide +kernel
theorem dX8_orders_14 : decode cX8_orders 14 = .ok (.iaload, 1) := by decide +kernel
theorem dX8_orders_15 : decode cX8_orders 15 = .ok (.invokevirtual 116, 3) := by decide +kernel
theorem dX8_orders_18 : decode cX8_orders 18 = .ok (.iload_n 2, 1) := by decide +kernel
theorem dX8_orders_19 : decode cX8_orders 19 = .ok (.iastore, 1) := by decide +kernel
theorem dX8_orders_20 : decode cX8_orders 20 = .ok (.aload_n 0, 1) := by decide +kernel
theorem dX8_orders_21 : decode cX8_orders 21 = .ok (.getfield 19, 3) := by decide +kernel
theorem dX8_orders_24 : decode cX8_orders 24 = .ok (.bipush 6, 2) := by decide +kernel
theorem dX8_orders_26 : decode cX8_orders 26 = .ok (.iload_n 1, 1) := by decide +kernel
theorem dX8_orders_27 : decode cX8_orders 27 = .ok (.iadd, 1) := by decide +kernel
theorem dX8_orders_28 : decode cX8_orders 28 = .ok (.dup2, 1) := by decide +kernel
theorem dX8_orders_29 : decode cX8_orders 29 = .ok (.iaload, 1) := by decide +kernel
theorem dX8_orders_30 : decode cX8_orders 30 = .ok (.iconst 1, 1) := by decide +kernel
theorem dX8_orders_31 : decode cX8_orders 31 = .ok (.iadd, 1) := by decide +kernel
theorem dX8_orders_32 : decode cX8_orders 32 = .ok (.iastore, 1) := by decide +kernel
theorem dX8_orders_33 : decode cX8_orders 33 = .ok (.return_, 1) := by decide +kernel
set_option maxRecDepth 20000 in
theorem ggX8_order_X8_in : GoodIn wsX8_order wsX8_in := goodIn_r _ [5] (by decide +kernel) (by decide +kernel)
set_option maxRecDepth 20000 in
theorem gX8_order_X8_in : GoodIn wsX8_order (va_wsS RX8 45 yX8_in wsX8_in) := goodIn_app (goodIn_of _ (by decide +kernel)) ggX8_order_X8_in
set_option maxRecDepth 20000 in
theorem ggX8_order_X8_keeps : GoodIn wsX8_order wsX8_keeps := goodIn_r _ [9, 10, 11, 1, 20, 21, 22, 23, 24, 25, 26, 27, 28, 29, 30, 31, 32, 33, 34, 35] (by decide +kernel) (by decide +kernel)
set_option maxRecDepth 20000 in
theorem gX8_order_X8_keeps : GoodIn wsX8_order (wsV RX8 127 RX8 yX8_keeps wsX8_keeps) := goodIn_app (goodIn_of _ (by decide +kernel)) ggX8_order_X8_keeps
set_option maxRecDepth 20000 in
theorem ggX8_order_X8_orders : GoodIn wsX8_order wsX8_orders := goodIn_r _ [15, 1, 16, 17, 18, 4, 19, 20, 21, 22, 23, 24, 25, 26, 27, 28, 29, 30, 31, 32, 33, 34, 35] (by decide +kernel) (by decide +kernel)
set_option maxRecDepth 20000 in
theorem gX8_order_X8_orders : GoodIn wsX8_order (wsV RX8 133 RX8 yX8_orders wsX8_orders) := goodIn_app (goodIn_of _ (by decide +kernel)) ggX8_order_X8_orders
theorem dX8_order_0 : decode cX8_order 0 = .ok (.iload_n 1, 1) := by decide +kernel
theorem dX8_order_1 : decode cX8_order 1 = .ok (.iconst 0, 1) := by decide +kernel
theorem dX8_order_2 : decode cX8_order 2 = .ok (.iconst 1, 1) := by decide +kernel
theorem dX8_order_3 : decode cX8_order 3 = .ok (.invokestatic 45, 3) := by decide +kernel
theorem dX8_order_6 : decode cX8_order 6 = .ok (.ifCond .ne 6, 3) := by decide +kernel
theorem dX8_order_9 : decode cX8_order 9 = .ok (.bipush (-2), 2) := by decide +kernel
theorem dX8_order_11 : decode cX8_order 11 = .ok (.ireturn, 1) := by decide +kernel
theorem dX8_order_12 : decode cX8_order 12 = .ok (.iload_n 2, 1) := by decide +kernel
theorem dX8_order_13 : decode cX8_order 13 = .ok (.iconst 0, 1) := by decide +kernel
theorem dX8_order_14 : decode cX8_order 14 = .ok (.iconst 4, 1) := by decide +kernel
theorem dX8_order_15 : decode cX8_order 15 = .ok (.invokestatic 45, 3) := by decide +kernel
theorem dX8_order_18 : decode cX8_order 18 = .ok (.ifCond .eq 13, 3) := by decide +kernel
theorem dX8_order_21 : decode cX8_order 21 = .ok (.iload_n 3, 1) := by decide +kernel
theorem dX8_order_22 : decode cX8_order 22 = .ok (.iconst 1, 1) := by decide +kernel
theorem dX8_order_23 : decode cX8_order 23 = .ok (.bipush 9, 2) := by decide +kernel
theorem dX8_order_25 : decode cX8_order 25 = .ok (.invokestatic 45, 3) := by decide +kernel
theorem dX8_order_28 : decode cX8_order 28 = .ok (.ifCond .ne 6, 3) := by decide +kernel
theorem dX8_order_31 : decode cX8_order 31 = .ok (.bipush (-3), 2) := by decide +kernel
theorem dX8_order_33 : decode cX8_order 33 = .ok (.ireturn, 1) := by decide +kernel
theorem dX8_order_34 : decode cX8_order 34 = .ok (.aload_n 0, 1) := by decide +kernel
theorem dX8_order_35 : decode cX8_order 35 = .ok (.getfield 19, 3) := by decide +kernel
theorem dX8_order_38 : decode cX8_order 38 = .ok (.bipush 6, 2) := by decide +kernel
theorem dX8_order_40 : decode cX8_order 40 = .ok (.iload_n 1, 1) := by decide +kernel
theorem dX8_order_41 : decode cX8_order 41 = .ok (.iadd, 1) := by decide +kernel
theorem dX8_order_42 : decode cX8_order 42 = .ok (.iaload, 1) := by decide +kernel
theorem dX8_order_43 : decode cX8_order 43 = .ok (.bipush 8, 2) := by decide +kernel
theorem dX8_order_45 : decode cX8_order 45 = .ok (.if_icmp .ne 6, 3) := by decide +kernel
theorem dX8_order_48 : decode cX8_order 48 = .ok (.bipush (-5), 2) := by decide +kernel
theorem dX8_order_50 : decode cX8_order 50 = .ok (.ireturn, 1) := by decide +kernel
theorem dX8_order_51 : decode cX8_order 51 = .ok (.aload_n 0, 1) := by decide +kernel
theorem dX8_order_52 : decode cX8_order 52 = .ok (.invokevirtual 127, 3) := by decide +kernel
theorem dX8_order_55 : decode cX8_order 55 = .ok (.aload_n 0, 1) := by decide +kernel
theorem dX8_order_56 : decode cX8_order 56 = .ok (.iload_n 1, 1) := by decide +kernel
theorem dX8_order_57 : decode cX8_order 57 = .ok (.bipush 10, 2) := by decide +kernel
theorem dX8_order_59 : decode cX8_order 59 = .ok (.iload_n 2, 1) := by decide +kernel
theorem dX8_order_60 : decode cX8_order 60 = .ok (.imul, 1) := by decide +kernel
theorem dX8_order_61 : decode cX8_order 61 = .ok (.iload_n 3, 1) := by decide +kernel
theorem dX8_order_62 : decode cX8_order 62 = .ok (.iadd, 1) := by decide +kernel
theorem dX8_order_63 : decode cX8_order 63 = .ok (.invokevirtual 133, 3) := by decide +kernel
theorem dX8_order_66 : decode cX8_order 66 = .ok (.aload_n 0, 1) := by decide +kernel
theorem dX8_order_67 : decode cX8_order 67 = .ok (.getfield 19, 3) := by decide +kernel
theorem dX8_order_70 : decode cX8_order 70 = .ok (.bipush 6, 2) := by decide +kernel
theorem dX8_order_72 : decode cX8_order 72 = .ok (.iload_n 1, 1) := by decide +kernel
theorem dX8_order_73 : decode cX8_order 73 = .ok (.iadd, 1) := by decide +kernel
theorem dX8_order_74 : decode cX8_order 74 = .ok (.iaload, 1) := by decide +kernel
theorem dX8_order_75 : decode cX8_order 75 = .ok (.ireturn, 1) := by decide +kernel
theorem dX8_winds_0 : decode cX8_winds 0 = .ok (.aload_n 0, 1) := by decide +kernel
theorem dX8_winds_1 : decode cX8_winds 1 = .ok (.getfield 19, 3) := by decide +kernel
theorem dX8_winds_4 : decode cX8_winds 4 = .ok (.iconst 1, 1) := by decide +kernel
theorem dX8_winds_5 : decode cX8_winds 5 = .ok (.dup2, 1) := by decide +kernel
theorem dX8_winds_6 : decode cX8_winds 6 = .ok (.iaload, 1) := by decide +kernel
theorem dX8_winds_7 : decode cX8_winds 7 = .ok (.iload_n 1, 1) := by decide +kernel
theorem dX8_winds_8 : decode cX8_winds 8 = .ok (.iadd, 1) := by decide +kernel
theorem dX8_winds_9 : decode cX8_winds 9 = .ok (.iastore, 1) := by decide +kernel
theorem dX8_winds_10 : decode cX8_winds 10 = .ok (.aload_n 0, 1) := by decide +kernel
theorem dX8_winds_11 : decode cX8_winds 11 = .ok (.getfield 19, 3) := by decide +kernel
theorem dX8_winds_14 : decode cX8_winds 14 = .ok (.iconst 1, 1) := by decide +kernel
theorem dX8_winds_15 : decode cX8_winds 15 = .ok (.iaload, 1) := by decide +kernel
theorem dX8_winds_16 : decode cX8_winds 16 = .ok (.aload_n 0, 1) := by decide +kernel
theorem dX8_winds_17 : decode cX8_winds 17 = .ok (.getfield 13, 3) := by decide +kernel
theorem dX8_winds_20 : decode cX8_winds 20 = .ok (.iconst 2, 1) := by decide +kernel
theorem dX8_winds_21 : decode cX8_winds 21 = .ok (.iaload, 1) := by decide +kernel
theorem dX8_winds_22 : decode cX8_winds 22 = .ok (.if_icmp .lt 20, 3) := by decide +kernel
theorem dX8_winds_25 : decode cX8_winds 25 = .ok (.aload_n 0, 1) := by decide +kernel
theorem dX8_winds_26 : decode cX8_winds 26 = .ok (.getfield 19, 3) := by decide +kernel
theorem dX8_winds_29 : decode cX8_winds 29 = .ok (.iconst 1, 1) := by decide +kernel
theorem dX8_winds_30 : decode cX8_winds 30 = .ok (.iconst 0, 1) := by decide +kernel
theorem dX8_winds_31 : decode cX8_winds 31 = .ok (.iastore, 1) := by decide +kernel
theorem dX8_winds_32 : decode cX8_winds 32 = .ok (.aload_n 0, 1) := by decide +kernel
theorem dX8_winds_33 : decode cX8_winds 33 = .ok (.getfield 19, 3) := by decide +kernel
theorem dX8_winds_36 : decode cX8_winds 36 = .ok (.iconst 0, 1) := by decide +kernel
theorem dX8_winds_37 : decode cX8_winds 37 = .ok (.dup2, 1) := by decide +kernel
theorem dX8_winds_38 : decode cX8_winds 38 = .ok (.iaload, 1) := by decide +kernel
theorem dX8_winds_39 : decode cX8_winds 39 = .ok (.iconst 1, 1) := by decide +kernel
theorem dX8_winds_40 : decode cX8_winds 40 = .ok (.iadd, 1) := by decide +kernel
theorem dX8_winds_41 : decode cX8_winds 41 = .ok (.iastore, 1) := by decide +kernel
theorem dX8_winds_42 : decode cX8_winds 42 = .ok (.return_, 1) := by decide +kernel
set_option maxRecDepth 20000 in
theorem ggX8_wind_X8_in : GoodIn wsX8_wind wsX8_in := goodIn_r _ [5] (by decide +kernel) (by decide +kernel)
set_option maxRecDepth 20000 in
theorem gX8_wind_X8_in : GoodIn wsX8_wind (va_wsS RX8 45 yX8_in wsX8_in) := goodIn_app (goodIn_of _ (by decide +kernel)) ggX8_wind_X8_in
set_option maxRecDepth 20000 in
theorem ggX8_wind_X8_keeps : GoodIn wsX8_wind wsX8_keeps := goodIn_r _ [9, 10, 11, 1, 17, 18, 19, 20, 21, 22, 23, 24, 25, 26, 27, 28, 29, 30, 31, 32] (by decide +kernel) (by decide +kernel)
set_option maxRecDepth 20000 in
theorem gX8_wind_X8_keeps : GoodIn wsX8_wind (wsV RX8 127 RX8 yX8_keeps wsX8_keeps) := goodIn_app (goodIn_of _ (by decide +kernel)) ggX8_wind_X8_keeps
set_option maxRecDepth 20000 in
theorem ggX8_wind_X8_winds : GoodIn wsX8_wind wsX8_winds := goodIn_r _ [15, 1, 16, 17, 18, 19, 20, 21, 22, 23, 24, 25, 26, 27, 28, 29, 30, 31, 32] (by decide +kernel) (by decide +kernel)
set_option maxRecDepth 20000 in
theorem gX8_wind_X8_winds : GoodIn wsX8_wind (wsV RX8 136 RX8 yX8_winds wsX8_winds) := goodIn_app (goodIn_of _ (by decide +kernel)) ggX8_wind_X8_winds
theorem dX8_wind_0 : decode cX8_wind 0 = .ok (.iload_n 1, 1) := by decide +kernel
theorem dX8_wind_1 : decode cX8_wind 1 = .ok (.iconst 0, 1) := by decide +kernel
theorem dX8_wind_2 : decode cX8_wind 2 = .ok (.bipush 8, 2) := by decide +kernel
theorem dX8_wind_4 : decode cX8_wind 4 = .ok (.invokestatic 45, 3) := by decide +kernel
theorem dX8_wind_7 : decode cX8_wind 7 = .ok (.ifCond .ne 6, 3) := by decide +kernel
theorem dX8_wind_10 : decode cX8_wind 10 = .ok (.bipush (-3), 2) := by decide +kernel
theorem dX8_wind_12 : decode cX8_wind 12 = .ok (.ireturn, 1) := by decide +kernel
theorem dX8_wind_13 : decode cX8_wind 13 = .ok (.aload_n 0, 1) := by decide +kernel
theorem dX8_wind_14 : decode cX8_wind 14 = .ok (.invokevirtual 127, 3) := by decide +kernel
theorem dX8_wind_17 : decode cX8_wind 17 = .ok (.aload_n 0, 1) := by decide +kernel
theorem dX8_wind_18 : decode cX8_wind 18 = .ok (.iload_n 1, 1) := by decide +kernel
theorem dX8_wind_19 : decode cX8_wind 19 = .ok (.invokevirtual 136, 3) := by decide +kernel
theorem dX8_wind_22 : decode cX8_wind 22 = .ok (.aload_n 0, 1) := by decide +kernel
theorem dX8_wind_23 : decode cX8_wind 23 = .ok (.getfield 19, 3) := by decide +kernel
theorem dX8_wind_26 : decode cX8_wind 26 = .ok (.iconst 0, 1) := by decide +kernel
theorem dX8_wind_27 : decode cX8_wind 27 = .ok (.iaload, 1) := by decide +kernel
theorem dX8_wind_28 : decode cX8_wind 28 = .ok (.ireturn, 1) := by decide +kernel
theorem dX8_undo_0 : decode cX8_undo 0 = .ok (.aload_n 0, 1) := by decide +kernel
theorem dX8_undo_1 : decode cX8_undo 1 = .ok (.getfield 103, 3) := by decide +kernel
theorem dX8_undo_4 : decode cX8_undo 4 = .ok (.ifCond .ne 6, 3) := by decide +kernel
theorem dX8_undo_7 : decode cX8_undo 7 = .ok (.bipush (-4), 2) := by decide +kernel
theorem dX8_undo_9 : decode cX8_undo 9 = .ok (.ireturn, 1) := by decide +kernel
theorem dX8_undo_10 : decode cX8_undo 10 = .ok (.aload_n 0, 1) := by decide +kernel
theorem dX8_undo_11 : decode cX8_undo 11 = .ok (.dup, 1) := by decide +kernel
theorem dX8_undo_12 : decode cX8_undo 12 = .ok (.getfield 103, 3) := by decide +kernel
theorem dX8_undo_15 : decode cX8_undo 15 = .ok (.iconst 1, 1) := by decide +kernel
theorem dX8_undo_16 : decode cX8_undo 16 = .ok (.isub, 1) := by decide +kernel
theorem dX8_undo_17 : decode cX8_undo 17 = .ok (.putfield 103, 3) := by decide +kernel
theorem dX8_undo_20 : decode cX8_undo 20 = .ok (.iconst 0, 1) := by decide +kernel
theorem dX8_undo_21 : decode cX8_undo 21 = .ok (.istore_n 1, 1) := by decide +kernel
theorem dX8_undo_22 : decode cX8_undo 22 = .ok (.iload_n 1, 1) := by decide +kernel
theorem dX8_undo_23 : decode cX8_undo 23 = .ok (.bipush 66, 2) := by decide +kernel
theorem dX8_undo_25 : decode cX8_undo 25 = .ok (.if_icmp .ge 29, 3) := by decide +kernel
theorem dX8_undo_28 : decode cX8_undo 28 = .ok (.aload_n 0, 1) := by decide +kernel
theorem dX8_undo_29 : decode cX8_undo 29 = .ok (.getfield 19, 3) := by decide +kernel
theorem dX8_undo_32 : decode cX8_undo 32 = .ok (.iload_n 1, 1) := by decide +kernel
theorem dX8_undo_33 : decode cX8_undo 33 = .ok (.aload_n 0, 1) := by decide +kernel
theorem dX8_undo_34 : decode cX8_undo 34 = .ok (.getfield 22, 3) := by decide +kernel
theorem dX8_undo_37 : decode cX8_undo 37 = .ok (.bipush 66, 2) := by decide +kernel
theorem dX8_undo_39 : decode cX8_undo 39 = .ok (.aload_n 0, 1) := by decide +kernel
theorem dX8_undo_40 : decode cX8_undo 40 = .ok (.getfield 103, 3) := by decide +kernel
theorem dX8_undo_43 : decode cX8_undo 43 = .ok (.imul, 1) := by decide +kernel
theorem dX8_undo_44 : decode cX8_undo 44 = .ok (.iload_n 1, 1) := by decide +kernel
theorem dX8_undo_45 : decode cX8_undo 45 = .ok (.iadd, 1) := by decide +kernel
theorem dX8_undo_46 : decode cX8_undo 46 = .ok (.iaload, 1) := by decide +kernel
theorem dX8_undo_47 : decode cX8_undo 47 = .ok (.iastore, 1) := by decide +kernel
theorem dX8_undo_48 : decode cX8_undo 48 = .ok (.iinc 1 1, 3) := by decide +kernel
theorem dX8_undo_51 : decode cX8_undo 51 = .ok (.goto (-29), 3) := by decide +kernel
theorem dX8_undo_54 : decode cX8_undo 54 = .ok (.aload_n 0, 1) := by decide +kernel
theorem dX8_undo_55 : decode cX8_undo 55 = .ok (.getfield 103, 3) := by decide +kernel
theorem dX8_undo_58 : decode cX8_undo 58 = .ok (.ireturn, 1) := by decide +kernel
set_option maxRecDepth 20000 in
theorem ggX8_keep_X8_in : GoodIn wsX8_keep wsX8_in := goodIn_r _ [7] (by decide +kernel) (by decide +kernel)
set_option maxRecDepth 20000 in
theorem gX8_keep_X8_in : GoodIn wsX8_keep (va_wsS RX8 45 yX8_in wsX8_in) := goodIn_app (goodIn_of _ (by decide +kernel)) ggX8_keep_X8_in
theorem dX8_keep_0 : decode cX8_keep 0 = .ok (.iload_n 1, 1) := by decide +kernel
theorem dX8_keep_1 : decode cX8_keep 1 = .ok (.iconst 0, 1) := by decide +kernel
theorem dX8_keep_2 : decode cX8_keep 2 = .ok (.iconst 1, 1) := by decide +kernel
theorem dX8_keep_3 : decode cX8_keep 3 = .ok (.invokestatic 45, 3) := by decide +kernel
theorem dX8_keep_6 : decode cX8_keep 6 = .ok (.ifCond .ne 6, 3) := by decide +kernel
theorem dX8_keep_9 : decode cX8_keep 9 = .ok (.bipush (-2), 2) := by decide +kernel
theorem dX8_keep_11 : decode cX8_keep 11 = .ok (.ireturn, 1) := by decide +kernel
theorem dX8_keep_12 : decode cX8_keep 12 = .ok (.iconst 0, 1) := by decide +kernel
theorem dX8_keep_13 : decode cX8_keep 13 = .ok (.istore_n 2, 1) := by decide +kernel
theorem dX8_keep_14 : decode cX8_keep 14 = .ok (.iload_n 2, 1) := by decide +kernel
theorem dX8_keep_15 : decode cX8_keep 15 = .ok (.bipush 66, 2) := by decide +kernel
theorem dX8_keep_17 : decode cX8_keep 17 = .ok (.if_icmp .ge 26, 3) := by decide +kernel
theorem dX8_keep_20 : decode cX8_keep 20 = .ok (.aload_n 0, 1) := by decide +kernel
theorem dX8_keep_21 : decode cX8_keep 21 = .ok (.getfield 25, 3) := by decide +kernel
theorem dX8_keep_24 : decode cX8_keep 24 = .ok (.bipush 66, 2) := by decide +kernel
theorem dX8_keep_26 : decode cX8_keep 26 = .ok (.iload_n 1, 1) := by decide +kernel
theorem dX8_keep_27 : decode cX8_keep 27 = .ok (.imul, 1) := by decide +kernel
theorem dX8_keep_28 : decode cX8_keep 28 = .ok (.iload_n 2, 1) := by decide +kernel
theorem dX8_keep_29 : decode cX8_keep 29 = .ok (.iadd, 1) := by decide +kernel
theorem dX8_keep_30 : decode cX8_keep 30 = .ok (.aload_n 0, 1) := by decide +kernel
theorem dX8_keep_31 : decode cX8_keep 31 = .ok (.getfield 19, 3) := by decide +kernel
theorem dX8_keep_34 : decode cX8_keep 34 = .ok (.iload_n 2, 1) := by decide +kernel
theorem dX8_keep_35 : decode cX8_keep 35 = .ok (.iaload, 1) := by decide +kernel
theorem dX8_keep_36 : decode cX8_keep 36 = .ok (.iastore, 1) := by decide +kernel
theorem dX8_keep_37 : decode cX8_keep 37 = .ok (.iinc 2 1, 3) := by decide +kernel
theorem dX8_keep_40 : decode cX8_keep 40 = .ok (.goto (-26), 3) := by decide +kernel
theorem dX8_keep_43 : decode cX8_keep 43 = .ok (.aload_n 0, 1) := by decide +kernel
theorem dX8_keep_44 : decode cX8_keep 44 = .ok (.getfield 28, 3) := by decide +kernel
theorem dX8_keep_47 : decode cX8_keep 47 = .ok (.iload_n 1, 1) := by decide +kernel
theorem dX8_keep_48 : decode cX8_keep 48 = .ok (.iconst 1, 1) := by decide +kernel
theorem dX8_keep_49 : decode cX8_keep 49 = .ok (.bastore, 1) := by decide +kernel
theorem dX8_keep_50 : decode cX8_keep 50 = .ok (.aload_n 0, 1) := by decide +kernel
theorem dX8_keep_51 : decode cX8_keep 51 = .ok (.getfield 19, 3) := by decide +kernel
theorem dX8_keep_54 : decode cX8_keep 54 = .ok (.iconst 0, 1) := by decide +kernel
theorem dX8_keep_55 : decode cX8_keep 55 = .ok (.iaload, 1) := by decide +kernel
theorem dX8_keep_56 : decode cX8_keep 56 = .ok (.ireturn, 1) := by decide +kernel
set_option maxRecDepth 20000 in
theorem ggX8_back_X8_in : GoodIn wsX8_back wsX8_in := goodIn_r _ [8] (by decide +kernel) (by decide +kernel)
set_option maxRecDepth 20000 in
theorem gX8_back_X8_in : GoodIn wsX8_back (va_wsS RX8 45 yX8_in wsX8_in) := goodIn_app (goodIn_of _ (by decide +kernel)) ggX8_back_X8_in
theorem dX8_back_0 : decode cX8_back 0 = .ok (.iload_n 1, 1) := by decide +kernel
theorem dX8_back_1 : decode cX8_back 1 = .ok (.iconst 0, 1) := by decide +kernel
theorem dX8_back_2 : decode cX8_back 2 = .ok (.iconst 1, 1) := by decide +kernel
theorem dX8_back_3 : decode cX8_back 3 = .ok (.invokestatic 45, 3) := by decide +kernel
theorem dX8_back_6 : decode cX8_back 6 = .ok (.ifCond .ne 6, 3) := by decide +kernel
theorem dX8_back_9 : decode cX8_back 9 = .ok (.bipush (-2), 2) := by decide +kernel
theorem dX8_back_11 : decode cX8_back 11 = .ok (.ireturn, 1) := by decide +kernel
theorem dX8_back_12 : decode cX8_back 12 = .ok (.aload_n 0, 1) := by decide +kernel
theorem dX8_back_13 : decode cX8_back 13 = .ok (.getfield 28, 3) := by decide +kernel
theorem dX8_back_16 : decode cX8_back 16 = .ok (.iload_n 1, 1) := by decide +kernel
theorem dX8_back_17 : decode cX8_back 17 = .ok (.baload, 1) := by decide +kernel
theorem dX8_back_18 : decode cX8_back 18 = .ok (.ifCond .ne 6, 3) := by decide +kernel
theorem dX8_back_21 : decode cX8_back 21 = .ok (.bipush (-4), 2) := by decide +kernel
theorem dX8_back_23 : decode cX8_back 23 = .ok (.ireturn, 1) := by decide +kernel
theorem dX8_back_24 : decode cX8_back 24 = .ok (.iconst 0, 1) := by decide +kernel
theorem dX8_back_25 : decode cX8_back 25 = .ok (.istore_n 2, 1) := by decide +kernel
theorem dX8_back_26 : decode cX8_back 26 = .ok (.iload_n 2, 1) := by decide +kernel
theorem dX8_back_27 : decode cX8_back 27 = .ok (.bipush 66, 2) := by decide +kernel
theorem dX8_back_29 : decode cX8_back 29 = .ok (.if_icmp .ge 26, 3) := by decide +kernel
theorem dX8_back_32 : decode cX8_back 32 = .ok (.aload_n 0, 1) := by decide +kernel
theorem dX8_back_33 : decode cX8_back 33 = .ok (.getfield 19, 3) := by decide +kernel
theorem dX8_back_36 : decode cX8_back 36 = .ok (.iload_n 2, 1) := by decide +kernel
theorem dX8_back_37 : decode cX8_back 37 = .ok (.aload_n 0, 1) := by decide +kernel
theorem dX8_back_38 : decode cX8_back 38 = .ok (.getfield 25, 3) := by decide +kernel
theorem dX8_back_41 : decode cX8_back 41 = .ok (.bipush 66, 2) := by decide +kernel
theorem dX8_back_43 : decode cX8_back 43 = .ok (.iload_n 1, 1) := by decide +kernel
theorem dX8_back_44 : decode cX8_back 44 = .ok (.imul, 1) := by decide +kernel
theorem dX8_back_45 : decode cX8_back 45 = .ok (.iload_n 2, 1) := by decide +kernel
theorem dX8_back_46 : decode cX8_back 46 = .ok (.iadd, 1) := by decide +kernel
theorem dX8_back_47 : decode cX8_back 47 = .ok (.iaload, 1) := by decide +kernel
theorem dX8_back_48 : decode cX8_back 48 = .ok (.iastore, 1) := by decide +kernel
theorem dX8_back_49 : decode cX8_back 49 = .ok (.iinc 2 1, 3) := by decide +kernel
theorem dX8_back_52 : decode cX8_back 52 = .ok (.goto (-26), 3) := by decide +kernel
theorem dX8_back_55 : decode cX8_back 55 = .ok (.aload_n 0, 1) := by decide +kernel
theorem dX8_back_56 : decode cX8_back 56 = .ok (.iconst 0, 1) := by decide +kernel
theorem dX8_back_57 : decode cX8_back 57 = .ok (.putfield 103, 3) := by decide +kernel
theorem dX8_back_60 : decode cX8_back 60 = .ok (.aload_n 0, 1) := by decide +kernel
theorem dX8_back_61 : decode cX8_back 61 = .ok (.getfield 19, 3) := by decide +kernel
theorem dX8_back_64 : decode cX8_back 64 = .ok (.iconst 0, 1) := by decide +kernel
theorem dX8_back_65 : decode cX8_back 65 = .ok (.iaload, 1) := by decide +kernel
theorem dX8_back_66 : decode cX8_back 66 = .ok (.ireturn, 1) := by decide +kernel
theorem dX8_holds_0 : decode cX8_holds 0 = .ok (.iconst 0, 1) := by decide +kernel
theorem dX8_holds_1 : decode cX8_holds 1 = .ok (.istore_n 1, 1) := by decide +kernel
theorem dX8_holds_2 : decode cX8_holds 2 = .ok (.iload_n 1, 1) := by decide +kernel
theorem dX8_holds_3 : decode cX8_holds 3 = .ok (.bipush 66, 2) := by decide +kernel
theorem dX8_holds_5 : decode cX8_holds 5 = .ok (.if_icmp .ge 21, 3) := by decide +kernel
theorem dX8_holds_8 : decode cX8_holds 8 = .ok (.aload_n 0, 1) := by decide +kernel
theorem dX8_holds_9 : decode cX8_holds 9 = .ok (.getfield 35, 3) := by decide +kernel
theorem dX8_holds_12 : decode cX8_holds 12 = .ok (.iload_n 1, 1) := by decide +kernel
theorem dX8_holds_13 : decode cX8_holds 13 = .ok (.aload_n 0, 1) := by decide +kernel
theorem dX8_holds_14 : decode cX8_holds 14 = .ok (.getfield 19, 3) := by decide +kernel
theorem dX8_holds_17 : decode cX8_holds 17 = .ok (.iload_n 1, 1) := by decide +kernel
theorem dX8_holds_18 : decode cX8_holds 18 = .ok (.iaload, 1) := by decide +kernel
theorem dX8_holds_19 : decode cX8_holds 19 = .ok (.iastore, 1) := by decide +kernel
theorem dX8_holds_20 : decode cX8_holds 20 = .ok (.iinc 1 1, 3) := by decide +kernel
theorem dX8_holds_23 : decode cX8_holds 23 = .ok (.goto (-21), 3) := by decide +kernel
theorem dX8_holds_26 : decode cX8_holds 26 = .ok (.return_, 1) := by decide +kernel
theorem dX8_lets_0 : decode cX8_lets 0 = .ok (.iconst 0, 1) := by decide +kernel
theorem dX8_lets_1 : decode cX8_lets 1 = .ok (.istore_n 1, 1) := by decide +kernel
theorem dX8_lets_2 : decode cX8_lets 2 = .ok (.iload_n 1, 1) := by decide +kernel
theorem dX8_lets_3 : decode cX8_lets 3 = .ok (.bipush 66, 2) := by decide +kernel
theorem dX8_lets_5 : decode cX8_lets 5 = .ok (.if_icmp .ge 21, 3) := by decide +kernel
theorem dX8_lets_8 : decode cX8_lets 8 = .ok (.aload_n 0, 1) := by decide +kernel
theorem dX8_lets_9 : decode cX8_lets 9 = .ok (.getfield 19, 3) := by decide +kernel
theorem dX8_lets_12 : decode cX8_lets 12 = .ok (.iload_n 1, 1) := by decide +kernel
theorem dX8_lets_13 : decode cX8_lets 13 = .ok (.aload_n 0, 1) := by decide +kernel
theorem dX8_lets_14 : decode cX8_lets 14 = .ok (.getfield 35, 3) := by decide +kernel
theorem dX8_lets_17 : decode cX8_lets 17 = .ok (.iload_n 1, 1) := by decide +kernel
theorem dX8_lets_18 : decode cX8_lets 18 = .ok (.iaload, 1) := by decide +kernel
theorem dX8_lets_19 : decode cX8_lets 19 = .ok (.iastore, 1) := by decide +kernel
theorem dX8_lets_20 : decode cX8_lets 20 = .ok (.iinc 1 1, 3) := by decide +kernel
theorem dX8_lets_23 : decode cX8_lets 23 = .ok (.goto (-21), 3) := by decide +kernel
theorem dX8_lets_26 : decode cX8_lets 26 = .ok (.return_, 1) := by decide +kernel
set_option maxRecDepth 20000 in
theorem ggX8_behind_X8_in : GoodIn wsX8_behind wsX8_in := goodIn_r _ [5] (by decide +kernel) (by decide +kernel)
set_option maxRecDepth 20000 in
theorem gX8_behind_X8_in : GoodIn wsX8_behind (va_wsS RX8 45 yX8_in wsX8_in) := goodIn_app (goodIn_of _ (by decide +kernel)) ggX8_behind_X8_in
set_option maxRecDepth 20000 in
theorem ggX8_behind_X8_holds : GoodIn wsX8_behind wsX8_holds := goodIn_r _ [9, 10, 1, 32, 33, 34, 35, 36, 37, 38, 39, 40, 41, 42, 43, 44, 45, 46, 47] (by decide +kernel) (by decide +kernel)
set_option maxRecDepth 20000 in
theorem gX8_behind_X8_holds : GoodIn wsX8_behind (wsV RX8 139 RX8 yX8_holds wsX8_holds) := goodIn_app (goodIn_of _ (by decide +kernel)) ggX8_behind_X8_holds
set_option maxRecDepth 20000 in
theorem ggX8_behind_X8_goes : GoodIn wsX8_behind wsX8_goes := goodIn_r _ [14, 1, 15, 16, 17, 18, 4, 19, 20, 21, 22, 23, 24, 25, 26, 27, 2, 3, 5, 32, 33, 34, 35, 36, 37, 38, 39, 40, 41, 42, 43, 44, 45, 46, 47] (by decide +kernel) (by decide +kernel)
set_option maxRecDepth 20000 in
theorem gX8_behind_X8_goes : GoodIn wsX8_behind (wsV RX8 130 RX8 yX8_goes wsX8_goes) := goodIn_app (goodIn_of _ (by decide +kernel)) ggX8_behind_X8_goes
set_option maxRecDepth 20000 in
theorem ggX8_behind_X8_lets : GoodIn wsX8_behind wsX8_lets := goodIn_r _ [31, 1, 10, 32, 33, 34, 35, 36, 37, 38, 39, 40, 41, 42, 43, 44, 45, 46, 47] (by decide +kernel) (by decide +kernel)
set_option maxRecDepth 20000 in
theorem gX8_behind_X8_lets : GoodIn wsX8_behind (wsV RX8 142 RX8 yX8_lets wsX8_lets) := goodIn_app (goodIn_of _ (by decide +kernel)) ggX8_behind_X8_lets
theorem dX8_behind_0 : decode cX8_behind 0 = .ok (.iload_n 1, 1) := by decide +kernel
theorem dX8_behind_1 : decode cX8_behind 1 = .ok (.iconst 0, 1) := by decide +kernel
theorem dX8_behind_2 : decode cX8_behind 2 = .ok (.bipush 99, 2) := by decide +kernel
theorem dX8_behind_4 : decode cX8_behind 4 = .ok (.invokestatic 45, 3) := by decide +kernel
theorem dX8_behind_7 : decode cX8_behind 7 = .ok (.ifCond .eq 12, 3) := by decide +kernel
theorem dX8_behind_10 : decode cX8_behind 10 = .ok (.iload_n 2, 1) := by decide +kernel
theorem dX8_behind_11 : decode cX8_behind 11 = .ok (.iconst 0, 1) := by decide +kernel
theorem dX8_behind_12 : decode cX8_behind 12 = .ok (.iconst 4, 1) := by decide +kernel
theorem dX8_behind_13 : decode cX8_behind 13 = .ok (.invokestatic 45, 3) := by decide +kernel
theorem dX8_behind_16 : decode cX8_behind 16 = .ok (.ifCond .ne 6, 3) := by decide +kernel
theorem dX8_behind_19 : decode cX8_behind 19 = .ok (.bipush (-3), 2) := by decide +kernel
theorem dX8_behind_21 : decode cX8_behind 21 = .ok (.ireturn, 1) := by decide +kernel
theorem dX8_behind_22 : decode cX8_behind 22 = .ok (.aload_n 0, 1) := by decide +kernel
theorem dX8_behind_23 : decode cX8_behind 23 = .ok (.invokevirtual 139, 3) := by decide +kernel
theorem dX8_behind_26 : decode cX8_behind 26 = .ok (.iconst 0, 1) := by decide +kernel
theorem dX8_behind_27 : decode cX8_behind 27 = .ok (.istore_n 3, 1) := by decide +kernel
theorem dX8_behind_28 : decode cX8_behind 28 = .ok (.iload_n 3, 1) := by decide +kernel
theorem dX8_behind_29 : decode cX8_behind 29 = .ok (.iload_n 1, 1) := by decide +kernel
theorem dX8_behind_30 : decode cX8_behind 30 = .ok (.if_icmp .ge 14, 3) := by decide +kernel
theorem dX8_behind_33 : decode cX8_behind 33 = .ok (.aload_n 0, 1) := by decide +kernel
theorem dX8_behind_34 : decode cX8_behind 34 = .ok (.invokevirtual 130, 3) := by decide +kernel
theorem dX8_behind_37 : decode cX8_behind 37 = .ok (.pop, 1) := by decide +kernel
theorem dX8_behind_38 : decode cX8_behind 38 = .ok (.iinc 3 1, 3) := by decide +kernel
theorem dX8_behind_41 : decode cX8_behind 41 = .ok (.goto (-13), 3) := by decide +kernel
theorem dX8_behind_44 : decode cX8_behind 44 = .ok (.iload_n 2, 1) := by decide +kernel
theorem dX8_behind_45 : decode cX8_behind 45 = .ok (.ifCond .ne 12, 3) := by decide +kernel
theorem dX8_behind_48 : decode cX8_behind 48 = .ok (.aload_n 0, 1) := by decide +kernel
theorem dX8_behind_49 : decode cX8_behind 49 = .ok (.getfield 19, 3) := by decide +kernel
theorem dX8_behind_52 : decode cX8_behind 52 = .ok (.iconst 2, 1) := by decide +kernel
theorem dX8_behind_53 : decode cX8_behind 53 = .ok (.iaload, 1) := by decide +kernel
theorem dX8_behind_54 : decode cX8_behind 54 = .ok (.goto 50, 3) := by decide +kernel
theorem dX8_behind_57 : decode cX8_behind 57 = .ok (.iload_n 2, 1) := by decide +kernel
theorem dX8_behind_58 : decode cX8_behind 58 = .ok (.iconst 1, 1) := by decide +kernel
theorem dX8_behind_59 : decode cX8_behind 59 = .ok (.if_icmp .ne 12, 3) := by decide +kernel
theorem dX8_behind_62 : decode cX8_behind 62 = .ok (.aload_n 0, 1) := by decide +kernel
theorem dX8_behind_63 : decode cX8_behind 63 = .ok (.getfield 19, 3) := by decide +kernel
theorem dX8_behind_66 : decode cX8_behind 66 = .ok (.iconst 3, 1) := by decide +kernel
theorem dX8_behind_67 : decode cX8_behind 67 = .ok (.iaload, 1) := by decide +kernel
theorem dX8_behind_68 : decode cX8_behind 68 = .ok (.goto 36, 3) := by decide +kernel
theorem dX8_behind_71 : decode cX8_behind 71 = .ok (.iload_n 2, 1) := by decide +kernel
theorem dX8_behind_72 : decode cX8_behind 72 = .ok (.iconst 2, 1) := by decide +kernel
theorem dX8_behind_73 : decode cX8_behind 73 = .ok (.if_icmp .ne 20, 3) := by decide +kernel
theorem dX8_behind_76 : decode cX8_behind 76 = .ok (.aload_n 0, 1) := by decide +kernel
theorem dX8_behind_77 : decode cX8_behind 77 = .ok (.getfield 19, 3) := by decide +kernel
theorem dX8_behind_80 : decode cX8_behind 80 = .ok (.bipush 30, 2) := by decide +kernel
theorem dX8_behind_82 : decode cX8_behind 82 = .ok (.aload_n 0, 1) := by decide +kernel
theorem dX8_behind_83 : decode cX8_behind 83 = .ok (.getfield 19, 3) := by decide +kernel
theorem dX8_behind_86 : decode cX8_behind 86 = .ok (.iconst 2, 1) := by decide +kernel
theorem dX8_behind_87 : decode cX8_behind 87 = .ok (.iaload, 1) := by decide +kernel
theorem dX8_behind_88 : decode cX8_behind 88 = .ok (.iadd, 1) := by decide +kernel
theorem dX8_behind_89 : decode cX8_behind 89 = .ok (.iaload, 1) := by decide +kernel
theorem dX8_behind_90 : decode cX8_behind 90 = .ok (.goto 14, 3) := by decide +kernel
theorem dX8_behind_93 : decode cX8_behind 93 = .ok (.aload_n 0, 1) := by decide +kernel
theorem dX8_behind_94 : decode cX8_behind 94 = .ok (.getfield 19, 3) := by decide +kernel
theorem dX8_behind_97 : decode cX8_behind 97 = .ok (.bipush 24, 2) := by decide +kernel
theorem dX8_behind_99 : decode cX8_behind 99 = .ok (.iload_n 2, 1) := by decide +kernel
theorem dX8_behind_100 : decode cX8_behind 100 = .ok (.iadd, 1) := by decide +kernel
theorem dX8_behind_101 : decode cX8_behind 101 = .ok (.iconst 3, 1) := by decide +kernel
theorem dX8_behind_102 : decode cX8_behind 102 = .ok (.isub, 1) := by decide +kernel
theorem dX8_behind_103 : decode cX8_behind 103 = .ok (.iaload, 1) := by decide +kernel
theorem dX8_behind_104 : decode cX8_behind 104 = .ok (.istore_n 3, 1) := by decide +kernel
theorem dX8_behind_105 : decode cX8_behind 105 = .ok (.aload_n 0, 1) := by decide +kernel
theorem dX8_behind_106 : decode cX8_behind 106 = .ok (.invokevirtual 142, 3) := by decide +kernel
theorem dX8_behind_109 : decode cX8_behind 109 = .ok (.iload_n 3, 1) := by decide +kernel
theorem dX8_behind_110 : decode cX8_behind 110 = .ok (.ireturn, 1) := by decide +kernel
set_option maxRecDepth 20000 in
theorem ggX8_first_X8_in : GoodIn wsX8_first wsX8_in := goodIn_r _ [4] (by decide +kernel) (by decide +kernel)
set_option maxRecDepth 20000 in
theorem gX8_first_X8_in : GoodIn wsX8_first (va_wsS RX8 45 yX8_in wsX8_in) := goodIn_app (goodIn_of _ (by decide +kernel)) ggX8_first_X8_in
set_option maxRecDepth 20000 in
theorem ggX8_first_X8_holds : GoodIn wsX8_first wsX8_holds := goodIn_r _ [8, 9, 10, 32, 33, 34, 35, 36, 37, 38, 39, 40, 41, 42, 43, 44, 45, 46, 47] (by decide +kernel) (by decide +kernel)
set_option maxRecDepth 20000 in
theorem gX8_first_X8_holds : GoodIn wsX8_first (wsV RX8 139 RX8 yX8_holds wsX8_holds) := goodIn_app (goodIn_of _ (by decide +kernel)) ggX8_first_X8_holds
set_option maxRecDepth 20000 in
theorem ggX8_first_X8_goes : GoodIn wsX8_first wsX8_goes := goodIn_r _ [14, 10, 15, 16, 17, 18, 3, 19, 20, 21, 22, 23, 24, 25, 26, 27, 1, 2, 4, 32, 33, 34, 35, 36, 37, 38, 39, 40, 41, 42, 43, 44, 45, 46, 47] (by decide +kernel) (by decide +kernel)
set_option maxRecDepth 20000 in
theorem gX8_first_X8_goes : GoodIn wsX8_first (wsV RX8 130 RX8 yX8_goes wsX8_goes) := goodIn_app (goodIn_of _ (by decide +kernel)) ggX8_first_X8_goes
set_option maxRecDepth 20000 in
theorem ggX8_first_X8_lets : GoodIn wsX8_first wsX8_lets := goodIn_r _ [31, 10, 9, 32, 33, 34, 35, 36, 37, 38, 39, 40, 41, 42, 43, 44, 45, 46, 47] (by decide +kernel) (by decide +kernel)
set_option maxRecDepth 20000 in
theorem gX8_first_X8_lets : GoodIn wsX8_first (wsV RX8 142 RX8 yX8_lets wsX8_lets) := goodIn_app (goodIn_of _ (by decide +kernel)) ggX8_first_X8_lets
theorem dX8_first_0 : decode cX8_first 0 = .ok (.iload_n 1, 1) := by decide +kernel
theorem dX8_first_1 : decode cX8_first 1 = .ok (.iconst 0, 1) := by decide +kernel
theorem dX8_first_2 : decode cX8_first 2 = .ok (.iconst 1, 1) := by decide +kernel
theorem dX8_first_3 : decode cX8_first 3 = .ok (.invokestatic 45, 3) := by decide +kernel
theorem dX8_first_6 : decode cX8_first 6 = .ok (.ifCond .ne 6, 3) := by decide +kernel
theorem dX8_first_9 : decode cX8_first 9 = .ok (.bipush (-2), 2) := by decide +kernel
theorem dX8_first_11 : decode cX8_first 11 = .ok (.ireturn, 1) := by decide +kernel
theorem dX8_first_12 : decode cX8_first 12 = .ok (.aload_n 0, 1) := by decide +kernel
theorem dX8_first_13 : decode cX8_first 13 = .ok (.invokevirtual 139, 3) := by decide +kernel
theorem dX8_first_16 : decode cX8_first 16 = .ok (.iconst (-1), 1) := by decide +kernel
theorem dX8_first_17 : decode cX8_first 17 = .ok (.istore_n 2, 1) := by decide +kernel
theorem dX8_first_18 : decode cX8_first 18 = .ok (.iconst 1, 1) := by decide +kernel
theorem dX8_first_19 : decode cX8_first 19 = .ok (.istore_n 3, 1) := by decide +kernel
theorem dX8_first_20 : decode cX8_first 20 = .ok (.iload_n 3, 1) := by decide +kernel
theorem dX8_first_21 : decode cX8_first 21 = .ok (.bipush 100, 2) := by decide +kernel
theorem dX8_first_23 : decode cX8_first 23 = .ok (.if_icmp .ge 28, 3) := by decide +kernel
theorem dX8_first_26 : decode cX8_first 26 = .ok (.iload_n 2, 1) := by decide +kernel
theorem dX8_first_27 : decode cX8_first 27 = .ok (.iconst (-1), 1) := by decide +kernel
theorem dX8_first_28 : decode cX8_first 28 = .ok (.if_icmp .ne 23, 3) := by decide +kernel
theorem dX8_first_31 : decode cX8_first 31 = .ok (.aload_n 0, 1) := by decide +kernel
theorem dX8_first_32 : decode cX8_first 32 = .ok (.invokevirtual 130, 3) := by decide +kernel
theorem dX8_first_35 : decode cX8_first 35 = .ok (.iload_n 1, 1) := by decide +kernel
theorem dX8_first_36 : decode cX8_first 36 = .ok (.if_icmp .ne 7, 3) := by decide +kernel
theorem dX8_first_39 : decode cX8_first 39 = .ok (.iload_n 3, 1) := by decide +kernel
theorem dX8_first_40 : decode cX8_first 40 = .ok (.goto 4, 3) := by decide +kernel
theorem dX8_first_43 : decode cX8_first 43 = .ok (.iconst (-1), 1) := by decide +kernel
theorem dX8_first_44 : decode cX8_first 44 = .ok (.istore_n 2, 1) := by decide +kernel
theorem dX8_first_45 : decode cX8_first 45 = .ok (.iinc 3 1, 3) := by decide +kernel
theorem dX8_first_48 : decode cX8_first 48 = .ok (.goto (-28), 3) := by decide +kernel
theorem dX8_first_51 : decode cX8_first 51 = .ok (.aload_n 0, 1) := by decide +kernel
theorem dX8_first_52 : decode cX8_first 52 = .ok (.invokevirtual 142, 3) := by decide +kernel
theorem dX8_first_55 : decode cX8_first 55 = .ok (.iload_n 2, 1) := by decide +kernel
theorem dX8_first_56 : decode cX8_first 56 = .ok (.ireturn, 1) := by decide +kernel
set_option maxRecDepth 20000 in
theorem ggX8_plot_X8_in : GoodIn wsX8_plot wsX8_in := goodIn_r _ [5] (by decide +kernel) (by decide +kernel)
set_option maxRecDepth 20000 in
theorem gX8_plot_X8_in : GoodIn wsX8_plot (va_wsS RX8 45 yX8_in wsX8_in) := goodIn_app (goodIn_of _ (by decide +kernel)) ggX8_plot_X8_in
set_option maxRecDepth 20000 in
theorem ggX8_plot_X8_holds : GoodIn wsX8_plot wsX8_holds := goodIn_r _ [9, 10, 1, 36, 37, 38, 39, 40, 41, 42, 43, 44, 45, 46, 47, 48, 49, 50, 51] (by decide +kernel) (by decide +kernel)
set_option maxRecDepth 20000 in
theorem gX8_plot_X8_holds : GoodIn wsX8_plot (wsV RX8 139 RX8 yX8_holds wsX8_holds) := goodIn_app (goodIn_of _ (by decide +kernel)) ggX8_plot_X8_holds
set_option maxRecDepth 20000 in
theorem ggX8_plot_X8_orders : GoodIn wsX8_plot wsX8_orders := goodIn_r _ [14, 1, 15, 16, 17, 4, 18, 36, 37, 38, 39, 40, 41, 42, 43, 44, 45, 46, 47, 48, 49, 50, 51] (by decide +kernel) (by decide +kernel)
set_option maxRecDepth 20000 in
theorem gX8_plot_X8_orders : GoodIn wsX8_plot (wsV RX8 133 RX8 yX8_orders wsX8_orders) := goodIn_app (goodIn_of _ (by decide +kernel)) ggX8_plot_X8_orders
set_option maxRecDepth 20000 in
theorem ggX8_plot_X8_goes : GoodIn wsX8_plot wsX8_goes := goodIn_r _ [22, 1, 23, 24, 25, 26, 4, 27, 15, 16, 17, 18, 28, 29, 30, 31, 2, 3, 5, 36, 37, 38, 39, 40, 41, 42, 43, 44, 45, 46, 47, 48, 49, 50, 51] (by decide +kernel) (by decide +kernel)
set_option maxRecDepth 20000 in
theorem gX8_plot_X8_goes : GoodIn wsX8_plot (wsV RX8 130 RX8 yX8_goes wsX8_goes) := goodIn_app (goodIn_of _ (by decide +kernel)) ggX8_plot_X8_goes
set_option maxRecDepth 20000 in
theorem ggX8_plot_X8_lets : GoodIn wsX8_plot wsX8_lets := goodIn_r _ [35, 1, 10, 36, 37, 38, 39, 40, 41, 42, 43, 44, 45, 46, 47, 48, 49, 50, 51] (by decide +kernel) (by decide +kernel)
set_option maxRecDepth 20000 in
theorem gX8_plot_X8_lets : GoodIn wsX8_plot (wsV RX8 142 RX8 yX8_lets wsX8_lets) := goodIn_app (goodIn_of _ (by decide +kernel)) ggX8_plot_X8_lets
theorem dX8_plot_0 : decode cX8_plot 0 = .ok (.iload_n 1, 1) := by decide +kernel
theorem dX8_plot_1 : decode cX8_plot 1 = .ok (.iconst 0, 1) := by decide +kernel
theorem dX8_plot_2 : decode cX8_plot 2 = .ok (.iconst 1, 1) := by decide +kernel
theorem dX8_plot_3 : decode cX8_plot 3 = .ok (.invokestatic 45, 3) := by decide +kernel
theorem dX8_plot_6 : decode cX8_plot 6 = .ok (.ifCond .ne 6, 3) := by decide +kernel
theorem dX8_plot_9 : decode cX8_plot 9 = .ok (.bipush (-2), 2) := by decide +kernel
theorem dX8_plot_11 : decode cX8_plot 11 = .ok (.ireturn, 1) := by decide +kernel
theorem dX8_plot_12 : decode cX8_plot 12 = .ok (.iload_n 2, 1) := by decide +kernel
theorem dX8_plot_13 : decode cX8_plot 13 = .ok (.iconst 1, 1) := by decide +kernel
theorem dX8_plot_14 : decode cX8_plot 14 = .ok (.bipush 40, 2) := by decide +kernel
theorem dX8_plot_16 : decode cX8_plot 16 = .ok (.invokestatic 45, 3) := by decide +kernel
theorem dX8_plot_19 : decode cX8_plot 19 = .ok (.ifCond .eq 12, 3) := by decide +kernel
theorem dX8_plot_22 : decode cX8_plot 22 = .ok (.iload_n 3, 1) := by decide +kernel
theorem dX8_plot_23 : decode cX8_plot 23 = .ok (.iconst 0, 1) := by decide +kernel
theorem dX8_plot_24 : decode cX8_plot 24 = .ok (.iconst 2, 1) := by decide +kernel
theorem dX8_plot_25 : decode cX8_plot 25 = .ok (.invokestatic 45, 3) := by decide +kernel
theorem dX8_plot_28 : decode cX8_plot 28 = .ok (.ifCond .ne 6, 3) := by decide +kernel
theorem dX8_plot_31 : decode cX8_plot 31 = .ok (.bipush (-3), 2) := by decide +kernel
theorem dX8_plot_33 : decode cX8_plot 33 = .ok (.ireturn, 1) := by decide +kernel
theorem dX8_plot_34 : decode cX8_plot 34 = .ok (.aload_n 0, 1) := by decide +kernel
theorem dX8_plot_35 : decode cX8_plot 35 = .ok (.getfield 19, 3) := by decide +kernel
theorem dX8_plot_38 : decode cX8_plot 38 = .ok (.bipush 6, 2) := by decide +kernel
theorem dX8_plot_40 : decode cX8_plot 40 = .ok (.iload_n 1, 1) := by decide +kernel
theorem dX8_plot_41 : decode cX8_plot 41 = .ok (.iadd, 1) := by decide +kernel
theorem dX8_plot_42 : decode cX8_plot 42 = .ok (.iaload, 1) := by decide +kernel
theorem dX8_plot_43 : decode cX8_plot 43 = .ok (.bipush 6, 2) := by decide +kernel
theorem dX8_plot_45 : decode cX8_plot 45 = .ok (.if_icmp .le 6, 3) := by decide +kernel
theorem dX8_plot_48 : decode cX8_plot 48 = .ok (.bipush (-4), 2) := by decide +kernel
theorem dX8_plot_50 : decode cX8_plot 50 = .ok (.ireturn, 1) := by decide +kernel
theorem dX8_plot_51 : decode cX8_plot 51 = .ok (.aload_n 0, 1) := by decide +kernel
theorem dX8_plot_52 : decode cX8_plot 52 = .ok (.invokevirtual 139, 3) := by decide +kernel
theorem dX8_plot_55 : decode cX8_plot 55 = .ok (.iconst (-1), 1) := by decide +kernel
theorem dX8_plot_56 : decode cX8_plot 56 = .ok (.istore 4, 2) := by decide +kernel
theorem dX8_plot_58 : decode cX8_plot 58 = .ok (.iconst (-1), 1) := by decide +kernel
theorem dX8_plot_59 : decode cX8_plot 59 = .ok (.istore 5, 2) := by decide +kernel
theorem dX8_plot_61 : decode cX8_plot 61 = .ok (.iconst 1, 1) := by decide +kernel
theorem dX8_plot_62 : decode cX8_plot 62 = .ok (.istore 6, 2) := by decide +kernel
theorem dX8_plot_64 : decode cX8_plot 64 = .ok (.iload 6, 2) := by decide +kernel
theorem dX8_plot_66 : decode cX8_plot 66 = .ok (.bipush 50, 2) := by decide +kernel
theorem dX8_plot_68 : decode cX8_plot 68 = .ok (.if_icmp .ge 181, 3) := by decide +kernel
theorem dX8_plot_71 : decode cX8_plot 71 = .ok (.iconst 1, 1) := by decide +kernel
theorem dX8_plot_72 : decode cX8_plot 72 = .ok (.istore 7, 2) := by decide +kernel
theorem dX8_plot_74 : decode cX8_plot 74 = .ok (.iload 7, 2) := by decide +kernel
theorem dX8_plot_76 : decode cX8_plot 76 = .ok (.bipush 50, 2) := by decide +kernel
theorem dX8_plot_78 : decode cX8_plot 78 = .ok (.if_icmp .ge 165, 3) := by decide +kernel
theorem dX8_plot_81 : decode cX8_plot 81 = .ok (.iload 6, 2) := by decide +kernel
theorem dX8_plot_83 : decode cX8_plot 83 = .ok (.bipush 10, 2) := by decide +kernel
theorem dX8_plot_85 : decode cX8_plot 85 = .ok (.irem, 1) := by decide +kernel
theorem dX8_plot_86 : decode cX8_plot 86 = .ok (.ifCond .le 151, 3) := by decide +kernel
theorem dX8_plot_89 : decode cX8_plot 89 = .ok (.iload 7, 2) := by decide +kernel
theorem dX8_plot_91 : decode cX8_plot 91 = .ok (.bipush 10, 2) := by decide +kernel
theorem dX8_plot_93 : decode cX8_plot 93 = .ok (.irem, 1) := by decide +kernel
theorem dX8_plot_94 : decode cX8_plot 94 = .ok (.ifCond .le 143, 3) := by decide +kernel
theorem dX8_plot_97 : decode cX8_plot 97 = .ok (.aload_n 0, 1) := by decide +kernel
theorem dX8_plot_98 : decode cX8_plot 98 = .ok (.iload_n 1, 1) := by decide +kernel
theorem dX8_plot_99 : decode cX8_plot 99 = .ok (.iload 6, 2) := by decide +kernel
theorem dX8_plot_101 : decode cX8_plot 101 = .ok (.invokevirtual 133, 3) := by decide +kernel
theorem dX8_plot_104 : decode cX8_plot 104 = .ok (.aload_n 0, 1) := by decide +kernel
theorem dX8_plot_105 : decode cX8_plot 105 = .ok (.iload_n 1, 1) := by decide +kernel
theorem dX8_plot_106 : decode cX8_plot 106 = .ok (.iload 7, 2) := by decide +kernel
theorem dX8_plot_108 : decode cX8_plot 108 = .ok (.invokevirtual 133, 3) := by decide +kernel
theorem dX8_plot_111 : decode cX8_plot 111 = .ok (.aload_n 0, 1) := by decide +kernel
theorem dX8_plot_112 : decode cX8_plot 112 = .ok (.getfield 19, 3) := by decide +kernel
theorem dX8_plot_115 : decode cX8_plot 115 = .ok (.bipush 24, 2) := by decide +kernel
theorem dX8_plot_117 : decode cX8_plot 117 = .ok (.iload_n 1, 1) := by decide +kernel
theorem dX8_plot_118 : decode cX8_plot 118 = .ok (.iadd, 1) := by decide +kernel
theorem dX8_plot_119 : decode cX8_plot 119 = .ok (.iaload, 1) := by decide +kernel
theorem dX8_plot_120 : decode cX8_plot 120 = .ok (.istore 8, 2) := by decide +kernel
theorem dX8_plot_122 : decode cX8_plot 122 = .ok (.aload_n 0, 1) := by decide +kernel
theorem dX8_plot_123 : decode cX8_plot 123 = .ok (.getfield 19, 3) := by decide +kernel
theorem dX8_plot_126 : decode cX8_plot 126 = .ok (.bipush 25, 2) := by decide +kernel
theorem dX8_plot_128 : decode cX8_plot 128 = .ok (.iload_n 1, 1) := by decide +kernel
theorem dX8_plot_129 : decode cX8_plot 129 = .ok (.isub, 1) := by decide +kernel
theorem dX8_plot_130 : decode cX8_plot 130 = .ok (.iaload, 1) := by decide +kernel
theorem dX8_plot_131 : decode cX8_plot 131 = .ok (.istore 9, 2) := by decide +kernel
theorem dX8_plot_133 : decode cX8_plot 133 = .ok (.iconst 0, 1) := by decide +kernel
theorem dX8_plot_134 : decode cX8_plot 134 = .ok (.istore 10, 2) := by decide +kernel
theorem dX8_plot_136 : decode cX8_plot 136 = .ok (.iload 10, 2) := by decide +kernel
theorem dX8_plot_138 : decode cX8_plot 138 = .ok (.iload_n 2, 1) := by decide +kernel
theorem dX8_plot_139 : decode cX8_plot 139 = .ok (.if_icmp .ge 14, 3) := by decide +kernel
theorem dX8_plot_142 : decode cX8_plot 142 = .ok (.aload_n 0, 1) := by decide +kernel
theorem dX8_plot_143 : decode cX8_plot 143 = .ok (.invokevirtual 130, 3) := by decide +kernel
theorem dX8_plot_146 : decode cX8_plot 146 = .ok (.pop, 1) := by decide +kernel
theorem dX8_plot_147 : decode cX8_plot 147 = .ok (.iinc 10 1, 3) := by decide +kernel
theorem dX8_plot_150 : decode cX8_plot 150 = .ok (.goto (-14), 3) := by decide +kernel
theorem dX8_plot_153 : decode cX8_plot 153 = .ok (.aload_n 0, 1) := by decide +kernel
theorem dX8_plot_154 : decode cX8_plot 154 = .ok (.getfield 19, 3) := by decide +kernel
theorem dX8_plot_157 : decode cX8_plot 157 = .ok (.bipush 25, 2) := by decide +kernel
theorem dX8_plot_159 : decode cX8_plot 159 = .ok (.iload_n 1, 1) := by decide +kernel
theorem dX8_plot_160 : decode cX8_plot 160 = .ok (.isub, 1) := by decide +kernel
theorem dX8_plot_161 : decode cX8_plot 161 = .ok (.iaload, 1) := by decide +kernel
theorem dX8_plot_162 : decode cX8_plot 162 = .ok (.iload 9, 2) := by decide +kernel
theorem dX8_plot_164 : decode cX8_plot 164 = .ok (.isub, 1) := by decide +kernel
theorem dX8_plot_165 : decode cX8_plot 165 = .ok (.istore 10, 2) := by decide +kernel
theorem dX8_plot_167 : decode cX8_plot 167 = .ok (.aload_n 0, 1) := by decide +kernel
theorem dX8_plot_168 : decode cX8_plot 168 = .ok (.getfield 19, 3) := by decide +kernel
theorem dX8_plot_171 : decode cX8_plot 171 = .ok (.bipush 24, 2) := by decide +kernel
theorem dX8_plot_173 : decode cX8_plot 173 = .ok (.iload_n 1, 1) := by decide +kernel
theorem dX8_plot_174 : decode cX8_plot 174 = .ok (.iadd, 1) := by decide +kernel
theorem dX8_plot_175 : decode cX8_plot 175 = .ok (.iaload, 1) := by decide +kernel
theorem dX8_plot_176 : decode cX8_plot 176 = .ok (.iload 8, 2) := by decide +kernel
theorem dX8_plot_178 : decode cX8_plot 178 = .ok (.if_icmp .ne 14, 3) := by decide +kernel
theorem dX8_plot_181 : decode cX8_plot 181 = .ok (.iload 10, 2) := by decide +kernel
theorem dX8_plot_183 : decode cX8_plot 183 = .ok (.iload 4, 2) := by decide +kernel
theorem dX8_plot_185 : decode cX8_plot 185 = .ok (.if_icmp .le 7, 3) := by decide +kernel
theorem dX8_plot_188 : decode cX8_plot 188 = .ok (.iconst 1, 1) := by decide +kernel
theorem dX8_plot_189 : decode cX8_plot 189 = .ok (.goto 4, 3) := by decide +kernel
theorem dX8_plot_192 : decode cX8_plot 192 = .ok (.iconst 0, 1) := by decide +kernel
theorem dX8_plot_193 : decode cX8_plot 193 = .ok (.istore 11, 2) := by decide +kernel
theorem dX8_plot_195 : decode cX8_plot 195 = .ok (.iload 11, 2) := by decide +kernel
theorem dX8_plot_197 : decode cX8_plot 197 = .ok (.ifCond .eq 8, 3) := by decide +kernel
theorem dX8_plot_200 : decode cX8_plot 200 = .ok (.iload 10, 2) := by decide +kernel
theorem dX8_plot_202 : decode cX8_plot 202 = .ok (.goto 5, 3) := by decide +kernel
theorem dX8_plot_205 : decode cX8_plot 205 = .ok (.iload 4, 2) := by decide +kernel
theorem dX8_plot_207 : decode cX8_plot 207 = .ok (.istore 4, 2) := by decide +kernel
theorem dX8_plot_209 : decode cX8_plot 209 = .ok (.iload 11, 2) := by decide +kernel
theorem dX8_plot_211 : decode cX8_plot 211 = .ok (.ifCond .eq 18, 3) := by decide +kernel
theorem dX8_plot_214 : decode cX8_plot 214 = .ok (.iload_n 3, 1) := by decide +kernel
theorem dX8_plot_215 : decode cX8_plot 215 = .ok (.iconst 1, 1) := by decide +kernel
theorem dX8_plot_216 : decode cX8_plot 216 = .ok (.if_icmp .ne 8, 3) := by decide +kernel
theorem dX8_plot_219 : decode cX8_plot 219 = .ok (.iload 6, 2) := by decide +kernel
theorem dX8_plot_221 : decode cX8_plot 221 = .ok (.goto 10, 3) := by decide +kernel
theorem dX8_plot_224 : decode cX8_plot 224 = .ok (.iload 7, 2) := by decide +kernel
theorem dX8_plot_226 : decode cX8_plot 226 = .ok (.goto 5, 3) := by decide +kernel
theorem dX8_plot_229 : decode cX8_plot 229 = .ok (.iload 5, 2) := by decide +kernel
theorem dX8_plot_231 : decode cX8_plot 231 = .ok (.istore 5, 2) := by decide +kernel
theorem dX8_plot_233 : decode cX8_plot 233 = .ok (.aload_n 0, 1) := by decide +kernel
theorem dX8_plot_234 : decode cX8_plot 234 = .ok (.invokevirtual 142, 3) := by decide +kernel
theorem dX8_plot_237 : decode cX8_plot 237 = .ok (.iinc 7 1, 3) := by decide +kernel
theorem dX8_plot_240 : decode cX8_plot 240 = .ok (.goto (-166), 3) := by decide +kernel
theorem dX8_plot_243 : decode cX8_plot 243 = .ok (.iinc 6 1, 3) := by decide +kernel
theorem dX8_plot_246 : decode cX8_plot 246 = .ok (.goto (-182), 3) := by decide +kernel
theorem dX8_plot_249 : decode cX8_plot 249 = .ok (.iload_n 3, 1) := by decide +kernel
theorem dX8_plot_250 : decode cX8_plot 250 = .ok (.ifCond .ne 8, 3) := by decide +kernel
theorem dX8_plot_253 : decode cX8_plot 253 = .ok (.iload 4, 2) := by decide +kernel
theorem dX8_plot_255 : decode cX8_plot 255 = .ok (.goto 5, 3) := by decide +kernel
theorem dX8_plot_258 : decode cX8_plot 258 = .ok (.iload 5, 2) := by decide +kernel
theorem dX8_plot_260 : decode cX8_plot 260 = .ok (.ireturn, 1) := by decide +kernel
set_option maxRecDepth 20000 in
theorem ggX8_seen_X8_cells : GoodIn wsX8_seen wsX8_cells := goodIn_r _ [7, 8, 12, 13, 14, 15, 16, 17, 18, 19, 20, 21, 22, 23, 24, 25, 26, 27] (by decide +kernel) (by decide +kernel)
set_option maxRecDepth 20000 in
theorem gX8_seen_X8_cells : GoodIn wsX8_seen (wsV RX8 113 RX8 yX8_cells wsX8_cells) := goodIn_app (goodIn_of _ (by decide +kernel)) ggX8_seen_X8_cells
set_option maxRecDepth 20000 in
theorem ggX8_seen_X8_in : GoodIn wsX8_seen wsX8_in := goodIn_r _ [11] (by decide +kernel) (by decide +kernel)
set_option maxRecDepth 20000 in
theorem gX8_seen_X8_in : GoodIn wsX8_seen (va_wsS RX8 45 yX8_in wsX8_in) := goodIn_app (goodIn_of _ (by decide +kernel)) ggX8_seen_X8_in
theorem dX8_seen_0 : decode cX8_seen 0 = .ok (.iload_n 1, 1) := by decide +kernel
theorem dX8_seen_1 : decode cX8_seen 1 = .ok (.iconst 0, 1) := by decide +kernel
theorem dX8_seen_2 : decode cX8_seen 2 = .ok (.aload_n 0, 1) := by decide +kernel
theorem dX8_seen_3 : decode cX8_seen 3 = .ok (.invokevirtual 113, 3) := by decide +kernel
theorem dX8_seen_6 : decode cX8_seen 6 = .ok (.iconst 1, 1) := by decide +kernel
theorem dX8_seen_7 : decode cX8_seen 7 = .ok (.isub, 1) := by decide +kernel
theorem dX8_seen_8 : decode cX8_seen 8 = .ok (.invokestatic 45, 3) := by decide +kernel
theorem dX8_seen_11 : decode cX8_seen 11 = .ok (.ifCond .ne 6, 3) := by decide +kernel
theorem dX8_seen_14 : decode cX8_seen 14 = .ok (.bipush (-2), 2) := by decide +kernel
theorem dX8_seen_16 : decode cX8_seen 16 = .ok (.ireturn, 1) := by decide +kernel
theorem dX8_seen_17 : decode cX8_seen 17 = .ok (.iload_n 2, 1) := by decide +kernel
theorem dX8_seen_18 : decode cX8_seen 18 = .ok (.iconst 1, 1) := by decide +kernel
theorem dX8_seen_19 : decode cX8_seen 19 = .ok (.bipush 60, 2) := by decide +kernel
theorem dX8_seen_21 : decode cX8_seen 21 = .ok (.invokestatic 45, 3) := by decide +kernel
theorem dX8_seen_24 : decode cX8_seen 24 = .ok (.ifCond .ne 6, 3) := by decide +kernel
theorem dX8_seen_27 : decode cX8_seen 27 = .ok (.bipush (-3), 2) := by decide +kernel
theorem dX8_seen_29 : decode cX8_seen 29 = .ok (.ireturn, 1) := by decide +kernel
theorem dX8_seen_30 : decode cX8_seen 30 = .ok (.aload_n 0, 1) := by decide +kernel
theorem dX8_seen_31 : decode cX8_seen 31 = .ok (.getfield 106, 3) := by decide +kernel
theorem dX8_seen_34 : decode cX8_seen 34 = .ok (.bipush 6, 2) := by decide +kernel
theorem dX8_seen_36 : decode cX8_seen 36 = .ok (.if_icmp .ne 6, 3) := by decide +kernel
theorem dX8_seen_39 : decode cX8_seen 39 = .ok (.bipush (-5), 2) := by decide +kernel
theorem dX8_seen_41 : decode cX8_seen 41 = .ok (.ireturn, 1) := by decide +kernel
theorem dX8_seen_42 : decode cX8_seen 42 = .ok (.aload_n 0, 1) := by decide +kernel
theorem dX8_seen_43 : decode cX8_seen 43 = .ok (.getfield 32, 3) := by decide +kernel
theorem dX8_seen_46 : decode cX8_seen 46 = .ok (.aload_n 0, 1) := by decide +kernel
theorem dX8_seen_47 : decode cX8_seen 47 = .ok (.getfield 106, 3) := by decide +kernel
theorem dX8_seen_50 : decode cX8_seen 50 = .ok (.bipush 100, 2) := by decide +kernel
theorem dX8_seen_52 : decode cX8_seen 52 = .ok (.iload_n 1, 1) := by decide +kernel
theorem dX8_seen_53 : decode cX8_seen 53 = .ok (.imul, 1) := by decide +kernel
theorem dX8_seen_54 : decode cX8_seen 54 = .ok (.iload_n 2, 1) := by decide +kernel
theorem dX8_seen_55 : decode cX8_seen 55 = .ok (.iadd, 1) := by decide +kernel
theorem dX8_seen_56 : decode cX8_seen 56 = .ok (.iastore, 1) := by decide +kernel
theorem dX8_seen_57 : decode cX8_seen 57 = .ok (.aload_n 0, 1) := by decide +kernel
theorem dX8_seen_58 : decode cX8_seen 58 = .ok (.dup, 1) := by decide +kernel
theorem dX8_seen_59 : decode cX8_seen 59 = .ok (.getfield 106, 3) := by decide +kernel
theorem dX8_seen_62 : decode cX8_seen 62 = .ok (.iconst 1, 1) := by decide +kernel
theorem dX8_seen_63 : decode cX8_seen 63 = .ok (.iadd, 1) := by decide +kernel
theorem dX8_seen_64 : decode cX8_seen 64 = .ok (.putfield 106, 3) := by decide +kernel
theorem dX8_seen_67 : decode cX8_seen 67 = .ok (.aload_n 0, 1) := by decide +kernel
theorem dX8_seen_68 : decode cX8_seen 68 = .ok (.getfield 106, 3) := by decide +kernel
theorem dX8_seen_71 : decode cX8_seen 71 = .ok (.ireturn, 1) := by decide +kernel
theorem dX8_forget_0 : decode cX8_forget 0 = .ok (.aload_n 0, 1) := by decide +kernel
theorem dX8_forget_1 : decode cX8_forget 1 = .ok (.getfield 106, 3) := by decide +kernel
theorem dX8_forget_4 : decode cX8_forget 4 = .ok (.istore_n 1, 1) := by decide +kernel
theorem dX8_forget_5 : decode cX8_forget 5 = .ok (.aload_n 0, 1) := by decide +kernel
theorem dX8_forget_6 : decode cX8_forget 6 = .ok (.iconst 0, 1) := by decide +kernel
theorem dX8_forget_7 : decode cX8_forget 7 = .ok (.putfield 106, 3) := by decide +kernel
theorem dX8_forget_10 : decode cX8_forget 10 = .ok (.iload_n 1, 1) := by decide +kernel
theorem dX8_forget_11 : decode cX8_forget 11 = .ok (.ireturn, 1) := by decide +kernel
set_option maxRecDepth 20000 in
theorem ggX8_isSo_X8_goes : GoodIn wsX8_isSo wsX8_goes := goodIn_r _ [8, 3, 9, 10, 11, 12, 7, 13, 14, 15, 16, 17, 18, 19, 20, 21, 22, 23, 24, 30, 31, 32, 33, 34, 35, 36, 37, 38, 39, 40, 41, 42, 43, 44, 45] (by decide +kernel) (by decide +kernel)
set_option maxRecDepth 20000 in
theorem gX8_isSo_X8_goes : GoodIn wsX8_isSo (wsV RX8 130 RX8 yX8_goes wsX8_goes) := goodIn_app (goodIn_of _ (by decide +kernel)) ggX8_isSo_X8_goes
set_option maxRecDepth 20000 in
theorem ggX8_isSo_X8_lets : GoodIn wsX8_isSo wsX8_lets := goodIn_r _ [28, 3, 29, 30, 31, 32, 33, 34, 35, 36, 37, 38, 39, 40, 41, 42, 43, 44, 45] (by decide +kernel) (by decide +kernel)
set_option maxRecDepth 20000 in
theorem gX8_isSo_X8_lets : GoodIn wsX8_isSo (wsV RX8 142 RX8 yX8_lets wsX8_lets) := goodIn_app (goodIn_of _ (by decide +kernel)) ggX8_isSo_X8_lets
theorem dX8_isSo_0 : decode cX8_isSo 0 = .ok (.iconst 1, 1) := by decide +kernel
theorem dX8_isSo_1 : decode cX8_isSo 1 = .ok (.istore_n 1, 1) := by decide +kernel
theorem dX8_isSo_2 : decode cX8_isSo 2 = .ok (.iconst 1, 1) := by decide +kernel
theorem dX8_isSo_3 : decode cX8_isSo 3 = .ok (.istore_n 2, 1) := by decide +kernel
theorem dX8_isSo_4 : decode cX8_isSo 4 = .ok (.iload_n 2, 1) := by decide +kernel
theorem dX8_isSo_5 : decode cX8_isSo 5 = .ok (.bipush 61, 2) := by decide +kernel
theorem dX8_isSo_7 : decode cX8_isSo 7 = .ok (.if_icmp .ge 71, 3) := by decide +kernel
theorem dX8_isSo_10 : decode cX8_isSo 10 = .ok (.aload_n 0, 1) := by decide +kernel
theorem dX8_isSo_11 : decode cX8_isSo 11 = .ok (.invokevirtual 130, 3) := by decide +kernel
theorem dX8_isSo_14 : decode cX8_isSo 14 = .ok (.pop, 1) := by decide +kernel
theorem dX8_isSo_15 : decode cX8_isSo 15 = .ok (.iconst 0, 1) := by decide +kernel
theorem dX8_isSo_16 : decode cX8_isSo 16 = .ok (.istore_n 3, 1) := by decide +kernel
theorem dX8_isSo_17 : decode cX8_isSo 17 = .ok (.iload_n 3, 1) := by decide +kernel
theorem dX8_isSo_18 : decode cX8_isSo 18 = .ok (.aload_n 0, 1) := by decide +kernel
theorem dX8_isSo_19 : decode cX8_isSo 19 = .ok (.getfield 106, 3) := by decide +kernel
theorem dX8_isSo_22 : decode cX8_isSo 22 = .ok (.if_icmp .ge 50, 3) := by decide +kernel
theorem dX8_isSo_25 : decode cX8_isSo 25 = .ok (.iload_n 1, 1) := by decide +kernel
theorem dX8_isSo_26 : decode cX8_isSo 26 = .ok (.ifCond .eq 38, 3) := by decide +kernel
theorem dX8_isSo_29 : decode cX8_isSo 29 = .ok (.aload_n 0, 1) := by decide +kernel
theorem dX8_isSo_30 : decode cX8_isSo 30 = .ok (.getfield 32, 3) := by decide +kernel
theorem dX8_isSo_33 : decode cX8_isSo 33 = .ok (.iload_n 3, 1) := by decide +kernel
theorem dX8_isSo_34 : decode cX8_isSo 34 = .ok (.iaload, 1) := by decide +kernel
theorem dX8_isSo_35 : decode cX8_isSo 35 = .ok (.bipush 100, 2) := by decide +kernel
theorem dX8_isSo_37 : decode cX8_isSo 37 = .ok (.irem, 1) := by decide +kernel
theorem dX8_isSo_38 : decode cX8_isSo 38 = .ok (.iload_n 2, 1) := by decide +kernel
theorem dX8_isSo_39 : decode cX8_isSo 39 = .ok (.if_icmp .ne 21, 3) := by decide +kernel
theorem dX8_isSo_42 : decode cX8_isSo 42 = .ok (.aload_n 0, 1) := by decide +kernel
theorem dX8_isSo_43 : decode cX8_isSo 43 = .ok (.getfield 32, 3) := by decide +kernel
theorem dX8_isSo_46 : decode cX8_isSo 46 = .ok (.iload_n 3, 1) := by decide +kernel
theorem dX8_isSo_47 : decode cX8_isSo 47 = .ok (.iaload, 1) := by decide +kernel
theorem dX8_isSo_48 : decode cX8_isSo 48 = .ok (.bipush 100, 2) := by decide +kernel
theorem dX8_isSo_50 : decode cX8_isSo 50 = .ok (.idiv, 1) := by decide +kernel
theorem dX8_isSo_51 : decode cX8_isSo 51 = .ok (.aload_n 0, 1) := by decide +kernel
theorem dX8_isSo_52 : decode cX8_isSo 52 = .ok (.getfield 19, 3) := by decide +kernel
theorem dX8_isSo_55 : decode cX8_isSo 55 = .ok (.iconst 2, 1) := by decide +kernel
theorem dX8_isSo_56 : decode cX8_isSo 56 = .ok (.iaload, 1) := by decide +kernel
theorem dX8_isSo_57 : decode cX8_isSo 57 = .ok (.if_icmp .ne 7, 3) := by decide +kernel
theorem dX8_isSo_60 : decode cX8_isSo 60 = .ok (.iconst 1, 1) := by decide +kernel
theorem dX8_isSo_61 : decode cX8_isSo 61 = .ok (.goto 4, 3) := by decide +kernel
theorem dX8_isSo_64 : decode cX8_isSo 64 = .ok (.iconst 0, 1) := by decide +kernel
theorem dX8_isSo_65 : decode cX8_isSo 65 = .ok (.istore_n 1, 1) := by decide +kernel
theorem dX8_isSo_66 : decode cX8_isSo 66 = .ok (.iinc 3 1, 3) := by decide +kernel
theorem dX8_isSo_69 : decode cX8_isSo 69 = .ok (.goto (-52), 3) := by decide +kernel
theorem dX8_isSo_72 : decode cX8_isSo 72 = .ok (.iinc 2 1, 3) := by decide +kernel
theorem dX8_isSo_75 : decode cX8_isSo 75 = .ok (.goto (-71), 3) := by decide +kernel
theorem dX8_isSo_78 : decode cX8_isSo 78 = .ok (.aload_n 0, 1) := by decide +kernel
theorem dX8_isSo_79 : decode cX8_isSo 79 = .ok (.invokevirtual 142, 3) := by decide +kernel
theorem dX8_isSo_82 : decode cX8_isSo 82 = .ok (.iload_n 1, 1) := by decide +kernel
theorem dX8_isSo_83 : decode cX8_isSo 83 = .ok (.ireturn, 1) := by decide +kernel
set_option maxRecDepth 20000 in
theorem ggX8_wound_X8_holds : GoodIn wsX8_wound wsX8_holds := goodIn_r _ [5, 6, 7, 42, 43, 44, 45, 46, 47, 48, 49, 50, 51, 52, 53, 54, 55, 56, 57] (by decide +kernel) (by decide +kernel)
set_option maxRecDepth 20000 in
theorem gX8_wound_X8_holds : GoodIn wsX8_wound (wsV RX8 139 RX8 yX8_holds wsX8_holds) := goodIn_app (goodIn_of _ (by decide +kernel)) ggX8_wound_X8_holds
set_option maxRecDepth 20000 in
theorem ggX8_wound_X8_winds : GoodIn wsX8_wound wsX8_winds := goodIn_r _ [11, 7, 12, 42, 43, 44, 45, 46, 47, 48, 49, 50, 51, 52, 53, 54, 55, 56, 57] (by decide +kernel) (by decide +kernel)
set_option maxRecDepth 20000 in
theorem gX8_wound_X8_winds : GoodIn wsX8_wound (wsV RX8 136 RX8 yX8_winds wsX8_winds) := goodIn_app (goodIn_of _ (by decide +kernel)) ggX8_wound_X8_winds
set_option maxRecDepth 20000 in
theorem ggX8_wound_X8_isSo : GoodIn wsX8_wound wsX8_isSo := goodIn_r _ [16, 17, 18, 7, 19, 20, 21, 4, 22, 12, 23, 24, 25, 26, 27, 28, 29, 30, 31, 32, 33, 34, 35, 36, 37, 38, 39, 40, 41, 6, 42, 43, 44, 45, 46, 47, 48, 49, 50, 51, 52, 53, 54, 55, 56, 57] (by decide +kernel) (by decide +kernel)
set_option maxRecDepth 20000 in
theorem gX8_wound_X8_isSo : GoodIn wsX8_wound (wsV RX8 145 RX8 yX8_isSo wsX8_isSo) := goodIn_app (goodIn_of _ (by decide +kernel)) ggX8_wound_X8_isSo
theorem dX8_wound_0 : decode cX8_wound 0 = .ok (.aload_n 0, 1) := by decide +kernel
theorem dX8_wound_1 : decode cX8_wound 1 = .ok (.invokevirtual 139, 3) := by decide +kernel
theorem dX8_wound_4 : decode cX8_wound 4 = .ok (.iconst 0, 1) := by decide +kernel
theorem dX8_wound_5 : decode cX8_wound 5 = .ok (.istore_n 1, 1) := by decide +kernel
theorem dX8_wound_6 : decode cX8_wound 6 = .ok (.iconst 0, 1) := by decide +kernel
theorem dX8_wound_7 : decode cX8_wound 7 = .ok (.istore_n 2, 1) := by decide +kernel
theorem dX8_wound_8 : decode cX8_wound 8 = .ok (.iload_n 2, 1) := by decide +kernel
theorem dX8_wound_9 : decode cX8_wound 9 = .ok (.bipush 9, 2) := by decide +kernel
theorem dX8_wound_11 : decode cX8_wound 11 = .ok (.if_icmp .ge 31, 3) := by decide +kernel
theorem dX8_wound_14 : decode cX8_wound 14 = .ok (.aload_n 0, 1) := by decide +kernel
theorem dX8_wound_15 : decode cX8_wound 15 = .ok (.iload_n 2, 1) := by decide +kernel
theorem dX8_wound_16 : decode cX8_wound 16 = .ok (.invokevirtual 136, 3) := by decide +kernel
theorem dX8_wound_19 : decode cX8_wound 19 = .ok (.iload_n 1, 1) := by decide +kernel
theorem dX8_wound_20 : decode cX8_wound 20 = .ok (.aload_n 0, 1) := by decide +kernel
theorem dX8_wound_21 : decode cX8_wound 21 = .ok (.invokevirtual 145, 3) := by decide +kernel
theorem dX8_wound_24 : decode cX8_wound 24 = .ok (.ifCond .eq 9, 3) := by decide +kernel
theorem dX8_wound_27 : decode cX8_wound 27 = .ok (.iconst 1, 1) := by decide +kernel
theorem dX8_wound_28 : decode cX8_wound 28 = .ok (.iload_n 2, 1) := by decide +kernel
theorem dX8_wound_29 : decode cX8_wound 29 = .ok (.ishl, 1) := by decide +kernel
theorem dX8_wound_30 : decode cX8_wound 30 = .ok (.goto 4, 3) := by decide +kernel
theorem dX8_wound_33 : decode cX8_wound 33 = .ok (.iconst 0, 1) := by decide +kernel
theorem dX8_wound_34 : decode cX8_wound 34 = .ok (.ior, 1) := by decide +kernel
theorem dX8_wound_35 : decode cX8_wound 35 = .ok (.istore_n 1, 1) := by decide +kernel
theorem dX8_wound_36 : decode cX8_wound 36 = .ok (.iinc 2 1, 3) := by decide +kernel
theorem dX8_wound_39 : decode cX8_wound 39 = .ok (.goto (-31), 3) := by decide +kernel
theorem dX8_wound_42 : decode cX8_wound 42 = .ok (.iload_n 1, 1) := by decide +kernel
theorem dX8_wound_43 : decode cX8_wound 43 = .ok (.ireturn, 1) := by decide +kernel
set_option maxRecDepth 20000 in
theorem ggX8_ordered_X8_in : GoodIn wsX8_ordered wsX8_in := goodIn_r _ [5] (by decide +kernel) (by decide +kernel)
set_option maxRecDepth 20000 in
theorem gX8_ordered_X8_in : GoodIn wsX8_ordered (va_wsS RX8 45 yX8_in wsX8_in) := goodIn_app (goodIn_of _ (by decide +kernel)) ggX8_ordered_X8_in
set_option maxRecDepth 20000 in
theorem ggX8_ordered_X8_holds : GoodIn wsX8_ordered wsX8_holds := goodIn_r _ [9, 10, 1, 38, 39, 40, 41, 42, 43, 44, 45, 46, 47, 48, 49, 50, 51, 52, 53] (by decide +kernel) (by decide +kernel)
set_option maxRecDepth 20000 in
theorem gX8_ordered_X8_holds : GoodIn wsX8_ordered (wsV RX8 139 RX8 yX8_holds wsX8_holds) := goodIn_app (goodIn_of _ (by decide +kernel)) ggX8_ordered_X8_holds
set_option maxRecDepth 20000 in
theorem ggX8_ordered_X8_next : GoodIn wsX8_ordered wsX8_next := goodIn_r _ [14] (by decide +kernel) (by decide +kernel)
set_option maxRecDepth 20000 in
theorem gX8_ordered_X8_next : GoodIn wsX8_ordered (wsV RX8 116 RX8 yX8_next wsX8_next) := goodIn_app (goodIn_of _ (by decide +kernel)) ggX8_ordered_X8_next
set_option maxRecDepth 20000 in
theorem ggX8_ordered_X8_isSo : GoodIn wsX8_ordered wsX8_isSo := goodIn_r _ [18, 19, 20, 1, 21, 22, 23, 4, 24, 25, 26, 27, 28, 29, 11, 12, 13, 14, 30, 31, 32, 33, 2, 3, 5, 34, 35, 36, 37, 10, 38, 39, 40, 41, 42, 43, 44, 45, 46, 47, 48, 49, 50, 51, 52, 53] (by decide +kernel) (by decide +kernel)
set_option maxRecDepth 20000 in
theorem gX8_ordered_X8_isSo : GoodIn wsX8_ordered (wsV RX8 145 RX8 yX8_isSo wsX8_isSo) := goodIn_app (goodIn_of _ (by decide +kernel)) ggX8_ordered_X8_isSo
theorem dX8_ordered_0 : decode cX8_ordered 0 = .ok (.iload_n 1, 1) := by decide +kernel
theorem dX8_ordered_1 : decode cX8_ordered 1 = .ok (.iconst 0, 1) := by decide +kernel
theorem dX8_ordered_2 : decode cX8_ordered 2 = .ok (.iconst 1, 1) := by decide +kernel
theorem dX8_ordered_3 : decode cX8_ordered 3 = .ok (.invokestatic 45, 3) := by decide +kernel
theorem dX8_ordered_6 : decode cX8_ordered 6 = .ok (.ifCond .ne 6, 3) := by decide +kernel
theorem dX8_ordered_9 : decode cX8_ordered 9 = .ok (.bipush (-2), 2) := by decide +kernel
theorem dX8_ordered_11 : decode cX8_ordered 11 = .ok (.ireturn, 1) := by decide +kernel
theorem dX8_ordered_12 : decode cX8_ordered 12 = .ok (.iload_n 2, 1) := by decide +kernel
theorem dX8_ordered_13 : decode cX8_ordered 13 = .ok (.iconst 0, 1) := by decide +kernel
theorem dX8_ordered_14 : decode cX8_ordered 14 = .ok (.iconst 1, 1) := by decide +kernel
theorem dX8_ordered_15 : decode cX8_ordered 15 = .ok (.invokestatic 45, 3) := by decide +kernel
theorem dX8_ordered_18 : decode cX8_ordered 18 = .ok (.ifCond .ne 6, 3) := by decide +kernel
theorem dX8_ordered_21 : decode cX8_ordered 21 = .ok (.bipush (-3), 2) := by decide +kernel
theorem dX8_ordered_23 : decode cX8_ordered 23 = .ok (.ireturn, 1) := by decide +kernel
theorem dX8_ordered_24 : decode cX8_ordered 24 = .ok (.aload_n 0, 1) := by decide +kernel
theorem dX8_ordered_25 : decode cX8_ordered 25 = .ok (.getfield 19, 3) := by decide +kernel
theorem dX8_ordered_28 : decode cX8_ordered 28 = .ok (.bipush 6, 2) := by decide +kernel
theorem dX8_ordered_30 : decode cX8_ordered 30 = .ok (.iload_n 1, 1) := by decide +kernel
theorem dX8_ordered_31 : decode cX8_ordered 31 = .ok (.iadd, 1) := by decide +kernel
theorem dX8_ordered_32 : decode cX8_ordered 32 = .ok (.iaload, 1) := by decide +kernel
theorem dX8_ordered_33 : decode cX8_ordered 33 = .ok (.ifCond .ne 5, 3) := by decide +kernel
theorem dX8_ordered_36 : decode cX8_ordered 36 = .ok (.iconst (-1), 1) := by decide +kernel
theorem dX8_ordered_37 : decode cX8_ordered 37 = .ok (.ireturn, 1) := by decide +kernel
theorem dX8_ordered_38 : decode cX8_ordered 38 = .ok (.aload_n 0, 1) := by decide +kernel
theorem dX8_ordered_39 : decode cX8_ordered 39 = .ok (.invokevirtual 139, 3) := by decide +kernel
theorem dX8_ordered_42 : decode cX8_ordered 42 = .ok (.iconst 0, 1) := by decide +kernel
theorem dX8_ordered_43 : decode cX8_ordered 43 = .ok (.istore_n 3, 1) := by decide +kernel
theorem dX8_ordered_44 : decode cX8_ordered 44 = .ok (.iconst (-1), 1) := by decide +kernel
theorem dX8_ordered_45 : decode cX8_ordered 45 = .ok (.istore 4, 2) := by decide +kernel
theorem dX8_ordered_47 : decode cX8_ordered 47 = .ok (.bipush 49, 2) := by decide +kernel
theorem dX8_ordered_49 : decode cX8_ordered 49 = .ok (.istore 5, 2) := by decide +kernel
theorem dX8_ordered_51 : decode cX8_ordered 51 = .ok (.iload 5, 2) := by decide +kernel
theorem dX8_ordered_53 : decode cX8_ordered 53 = .ok (.ifCond .le 63, 3) := by decide +kernel
theorem dX8_ordered_56 : decode cX8_ordered 56 = .ok (.iload 5, 2) := by decide +kernel
theorem dX8_ordered_58 : decode cX8_ordered 58 = .ok (.bipush 10, 2) := by decide +kernel
theorem dX8_ordered_60 : decode cX8_ordered 60 = .ok (.irem, 1) := by decide +kernel
theorem dX8_ordered_61 : decode cX8_ordered 61 = .ok (.ifCond .le 49, 3) := by decide +kernel
theorem dX8_ordered_64 : decode cX8_ordered 64 = .ok (.aload_n 0, 1) := by decide +kernel
theorem dX8_ordered_65 : decode cX8_ordered 65 = .ok (.getfield 19, 3) := by decide +kernel
theorem dX8_ordered_68 : decode cX8_ordered 68 = .ok (.aload_n 0, 1) := by decide +kernel
theorem dX8_ordered_69 : decode cX8_ordered 69 = .ok (.iload_n 1, 1) := by decide +kernel
theorem dX8_ordered_70 : decode cX8_ordered 70 = .ok (.iconst 0, 1) := by decide +kernel
theorem dX8_ordered_71 : decode cX8_ordered 71 = .ok (.invokevirtual 116, 3) := by decide +kernel
theorem dX8_ordered_74 : decode cX8_ordered 74 = .ok (.iload 5, 2) := by decide +kernel
theorem dX8_ordered_76 : decode cX8_ordered 76 = .ok (.iastore, 1) := by decide +kernel
theorem dX8_ordered_77 : decode cX8_ordered 77 = .ok (.aload_n 0, 1) := by decide +kernel
theorem dX8_ordered_78 : decode cX8_ordered 78 = .ok (.invokevirtual 145, 3) := by decide +kernel
theorem dX8_ordered_81 : decode cX8_ordered 81 = .ok (.istore 6, 2) := by decide +kernel
theorem dX8_ordered_83 : decode cX8_ordered 83 = .ok (.iload_n 3, 1) := by decide +kernel
theorem dX8_ordered_84 : decode cX8_ordered 84 = .ok (.iload 6, 2) := by decide +kernel
theorem dX8_ordered_86 : decode cX8_ordered 86 = .ok (.ifCond .eq 7, 3) := by decide +kernel
theorem dX8_ordered_89 : decode cX8_ordered 89 = .ok (.iconst 1, 1) := by decide +kernel
theorem dX8_ordered_90 : decode cX8_ordered 90 = .ok (.goto 4, 3) := by decide +kernel
theorem dX8_ordered_93 : decode cX8_ordered 93 = .ok (.iconst 0, 1) := by decide +kernel
theorem dX8_ordered_94 : decode cX8_ordered 94 = .ok (.iadd, 1) := by decide +kernel
theorem dX8_ordered_95 : decode cX8_ordered 95 = .ok (.istore_n 3, 1) := by decide +kernel
theorem dX8_ordered_96 : decode cX8_ordered 96 = .ok (.iload 6, 2) := by decide +kernel
theorem dX8_ordered_98 : decode cX8_ordered 98 = .ok (.ifCond .eq 8, 3) := by decide +kernel
theorem dX8_ordered_101 : decode cX8_ordered 101 = .ok (.iload 5, 2) := by decide +kernel
theorem dX8_ordered_103 : decode cX8_ordered 103 = .ok (.goto 5, 3) := by decide +kernel
theorem dX8_ordered_106 : decode cX8_ordered 106 = .ok (.iload 4, 2) := by decide +kernel
theorem dX8_ordered_108 : decode cX8_ordered 108 = .ok (.istore 4, 2) := by decide +kernel
theorem dX8_ordered_110 : decode cX8_ordered 110 = .ok (.iinc 5 (-1), 3) := by decide +kernel
theorem dX8_ordered_113 : decode cX8_ordered 113 = .ok (.goto (-62), 3) := by decide +kernel
theorem dX8_ordered_116 : decode cX8_ordered 116 = .ok (.iload_n 2, 1) := by decide +kernel
theorem dX8_ordered_117 : decode cX8_ordered 117 = .ok (.ifCond .ne 7, 3) := by decide +kernel
theorem dX8_ordered_120 : decode cX8_ordered 120 = .ok (.iload_n 3, 1) := by decide +kernel
theorem dX8_ordered_121 : decode cX8_ordered 121 = .ok (.goto 5, 3) := by decide +kernel
theorem dX8_ordered_124 : decode cX8_ordered 124 = .ok (.iload 4, 2) := by decide +kernel
theorem dX8_ordered_126 : decode cX8_ordered 126 = .ok (.ireturn, 1) := by decide +kernel
set_option maxRecDepth 20000 in
theorem ggX8_inspected_X8_in : GoodIn wsX8_inspected wsX8_in := goodIn_r _ [6] (by decide +kernel) (by decide +kernel)
set_option maxRecDepth 20000 in
theorem gX8_inspected_X8_in : GoodIn wsX8_inspected (va_wsS RX8 45 yX8_in wsX8_in) := goodIn_app (goodIn_of _ (by decide +kernel)) ggX8_inspected_X8_in
set_option maxRecDepth 20000 in
theorem ggX8_inspected_X8_holds : GoodIn wsX8_inspected wsX8_holds := goodIn_r _ [10, 11, 12, 34, 35, 36, 37, 38, 39, 40, 41, 42, 43, 44, 45, 46, 47, 48, 49] (by decide +kernel) (by decide +kernel)
set_option maxRecDepth 20000 in
theorem gX8_inspected_X8_holds : GoodIn wsX8_inspected (wsV RX8 139 RX8 yX8_holds wsX8_holds) := goodIn_app (goodIn_of _ (by decide +kernel)) ggX8_inspected_X8_holds
set_option maxRecDepth 20000 in
theorem ggX8_inspected_X8_goes : GoodIn wsX8_inspected wsX8_goes := goodIn_r _ [16, 12, 17, 18, 19, 20, 5, 21, 22, 23, 24, 25, 26, 27, 28, 29, 3, 4, 6, 34, 35, 36, 37, 38, 39, 40, 41, 42, 43, 44, 45, 46, 47, 48, 49] (by decide +kernel) (by decide +kernel)
set_option maxRecDepth 20000 in
theorem gX8_inspected_X8_goes : GoodIn wsX8_inspected (wsV RX8 130 RX8 yX8_goes wsX8_goes) := goodIn_app (goodIn_of _ (by decide +kernel)) ggX8_inspected_X8_goes
set_option maxRecDepth 20000 in
theorem ggX8_inspected_X8_lets : GoodIn wsX8_inspected wsX8_lets := goodIn_r _ [33, 12, 11, 34, 35, 36, 37, 38, 39, 40, 41, 42, 43, 44, 45, 46, 47, 48, 49] (by decide +kernel) (by decide +kernel)
set_option maxRecDepth 20000 in
theorem gX8_inspected_X8_lets : GoodIn wsX8_inspected (wsV RX8 142 RX8 yX8_lets wsX8_lets) := goodIn_app (goodIn_of _ (by decide +kernel)) ggX8_inspected_X8_lets
theorem dX8_inspected_0 : decode cX8_inspected 0 = .ok (.iload_n 1, 1) := by decide +kernel
theorem dX8_inspected_1 : decode cX8_inspected 1 = .ok (.iconst 0, 1) := by decide +kernel
theorem dX8_inspected_2 : decode cX8_inspected 2 = .ok (.bipush 60, 2) := by decide +kernel
theorem dX8_inspected_4 : decode cX8_inspected 4 = .ok (.invokestatic 45, 3) := by decide +kernel
theorem dX8_inspected_7 : decode cX8_inspected 7 = .ok (.ifCond .eq 13, 3) := by decide +kernel
theorem dX8_inspected_10 : decode cX8_inspected 10 = .ok (.iload_n 2, 1) := by decide +kernel
theorem dX8_inspected_11 : decode cX8_inspected 11 = .ok (.iconst 0, 1) := by decide +kernel
theorem dX8_inspected_12 : decode cX8_inspected 12 = .ok (.bipush 10, 2) := by decide +kernel
theorem dX8_inspected_14 : decode cX8_inspected 14 = .ok (.invokestatic 45, 3) := by decide +kernel
theorem dX8_inspected_17 : decode cX8_inspected 17 = .ok (.ifCond .ne 6, 3) := by decide +kernel
theorem dX8_inspected_20 : decode cX8_inspected 20 = .ok (.bipush (-3), 2) := by decide +kernel
theorem dX8_inspected_22 : decode cX8_inspected 22 = .ok (.ireturn, 1) := by decide +kernel
theorem dX8_inspected_23 : decode cX8_inspected 23 = .ok (.aload_n 0, 1) := by decide +kernel
theorem dX8_inspected_24 : decode cX8_inspected 24 = .ok (.invokevirtual 139, 3) := by decide +kernel
theorem dX8_inspected_27 : decode cX8_inspected 27 = .ok (.ldc2_w 148, 3) := by decide +kernel
theorem dX8_inspected_30 : decode cX8_inspected 30 = .ok (.lstore_n 3, 1) := by decide +kernel
theorem dX8_inspected_31 : decode cX8_inspected 31 = .ok (.iconst 0, 1) := by decide +kernel
theorem dX8_inspected_32 : decode cX8_inspected 32 = .ok (.istore 5, 2) := by decide +kernel
theorem dX8_inspected_34 : decode cX8_inspected 34 = .ok (.iload 5, 2) := by decide +kernel
theorem dX8_inspected_36 : decode cX8_inspected 36 = .ok (.iload_n 1, 1) := by decide +kernel
theorem dX8_inspected_37 : decode cX8_inspected 37 = .ok (.if_icmp .ge 33, 3) := by decide +kernel
theorem dX8_inspected_40 : decode cX8_inspected 40 = .ok (.aload_n 0, 1) := by decide +kernel
theorem dX8_inspected_41 : decode cX8_inspected 41 = .ok (.invokevirtual 130, 3) := by decide +kernel
theorem dX8_inspected_44 : decode cX8_inspected 44 = .ok (.iconst (-1), 1) := by decide +kernel
theorem dX8_inspected_45 : decode cX8_inspected 45 = .ok (.if_icmp .ne 7, 3) := by decide +kernel
theorem dX8_inspected_48 : decode cX8_inspected 48 = .ok (.lload_n 3, 1) := by decide +kernel
theorem dX8_inspected_49 : decode cX8_inspected 49 = .ok (.goto 14, 3) := by decide +kernel
theorem dX8_inspected_52 : decode cX8_inspected 52 = .ok (.lload_n 3, 1) := by decide +kernel
theorem dX8_inspected_53 : decode cX8_inspected 53 = .ok (.bipush 10, 2) := by decide +kernel
theorem dX8_inspected_55 : decode cX8_inspected 55 = .ok (.iload_n 2, 1) := by decide +kernel
theorem dX8_inspected_56 : decode cX8_inspected 56 = .ok (.isub, 1) := by decide +kernel
theorem dX8_inspected_57 : decode cX8_inspected 57 = .ok (.i2l, 1) := by decide +kernel
theorem dX8_inspected_58 : decode cX8_inspected 58 = .ok (.lmul, 1) := by decide +kernel
theorem dX8_inspected_59 : decode cX8_inspected 59 = .ok (.ldc2_w 150, 3) := by decide +kernel
theorem dX8_inspected_62 : decode cX8_inspected 62 = .ok (.ldiv, 1) := by decide +kernel
theorem dX8_inspected_63 : decode cX8_inspected 63 = .ok (.lstore_n 3, 1) := by decide +kernel
theorem dX8_inspected_64 : decode cX8_inspected 64 = .ok (.iinc 5 1, 3) := by decide +kernel
theorem dX8_inspected_67 : decode cX8_inspected 67 = .ok (.goto (-33), 3) := by decide +kernel
theorem dX8_inspected_70 : decode cX8_inspected 70 = .ok (.aload_n 0, 1) := by decide +kernel
theorem dX8_inspected_71 : decode cX8_inspected 71 = .ok (.invokevirtual 142, 3) := by decide +kernel
theorem dX8_inspected_74 : decode cX8_inspected 74 = .ok (.lload_n 3, 1) := by decide +kernel
theorem dX8_inspected_75 : decode cX8_inspected 75 = .ok (.l2i, 1) := by decide +kernel
theorem dX8_inspected_76 : decode cX8_inspected 76 = .ok (.ireturn, 1) := by decide +kernel
set_option maxRecDepth 20000 in
theorem ggX8_count_X8_in : GoodIn wsX8_count wsX8_in := goodIn_r _ [9] (by decide +kernel) (by decide +kernel)
set_option maxRecDepth 20000 in
theorem gX8_count_X8_in : GoodIn wsX8_count (va_wsS RX8 45 yX8_in wsX8_in) := goodIn_app (goodIn_of _ (by decide +kernel)) ggX8_count_X8_in
theorem dX8_count_0 : decode cX8_count 0 = .ok (.iconst 0, 1) := by decide +kernel
theorem dX8_count_1 : decode cX8_count 1 = .ok (.istore_n 2, 1) := by decide +kernel
theorem dX8_count_2 : decode cX8_count 2 = .ok (.iconst 0, 1) := by decide +kernel
theorem dX8_count_3 : decode cX8_count 3 = .ok (.istore_n 3, 1) := by decide +kernel
theorem dX8_count_4 : decode cX8_count 4 = .ok (.iload_n 3, 1) := by decide +kernel
theorem dX8_count_5 : decode cX8_count 5 = .ok (.bipush 36, 2) := by decide +kernel
theorem dX8_count_7 : decode cX8_count 7 = .ok (.if_icmp .ge 21, 3) := by decide +kernel
theorem dX8_count_10 : decode cX8_count 10 = .ok (.iload_n 2, 1) := by decide +kernel
theorem dX8_count_11 : decode cX8_count 11 = .ok (.aload_n 0, 1) := by decide +kernel
theorem dX8_count_12 : decode cX8_count 12 = .ok (.getfield 19, 3) := by decide +kernel
theorem dX8_count_15 : decode cX8_count 15 = .ok (.bipush 30, 2) := by decide +kernel
theorem dX8_count_17 : decode cX8_count 17 = .ok (.iload_n 3, 1) := by decide +kernel
theorem dX8_count_18 : decode cX8_count 18 = .ok (.iadd, 1) := by decide +kernel
theorem dX8_count_19 : decode cX8_count 19 = .ok (.iaload, 1) := by decide +kernel
theorem dX8_count_20 : decode cX8_count 20 = .ok (.iadd, 1) := by decide +kernel
theorem dX8_count_21 : decode cX8_count 21 = .ok (.istore_n 2, 1) := by decide +kernel
theorem dX8_count_22 : decode cX8_count 22 = .ok (.iinc 3 1, 3) := by decide +kernel
theorem dX8_count_25 : decode cX8_count 25 = .ok (.goto (-21), 3) := by decide +kernel
theorem dX8_count_28 : decode cX8_count 28 = .ok (.iload_n 1, 1) := by decide +kernel
theorem dX8_count_29 : decode cX8_count 29 = .ok (.bipush 10, 2) := by decide +kernel
theorem dX8_count_31 : decode cX8_count 31 = .ok (.bipush 13, 2) := by decide +kernel
theorem dX8_count_33 : decode cX8_count 33 = .ok (.invokestatic 45, 3) := by decide +kernel
theorem dX8_count_36 : decode cX8_count 36 = .ok (.ifCond .eq 16, 3) := by decide +kernel
theorem dX8_count_39 : decode cX8_count 39 = .ok (.aload_n 0, 1) := by decide +kernel
theorem dX8_count_40 : decode cX8_count 40 = .ok (.getfield 19, 3) := by decide +kernel
theorem dX8_count_43 : decode cX8_count 43 = .ok (.bipush 26, 2) := by decide +kernel
