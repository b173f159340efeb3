theorem dX8_plot_68 : decode cX8_plot 68 = .ok (.if_icmp .ge 181, 3) := by decide +kernel
theorem dX8_plot_71 : decode cX8_plot 71 = .ok (.iconst 1, 1) := by decide +kernel
theorem dX8_plot_72 : decode cX8_plot 72 = .ok (.istore 7, 2) := by decide +kernel
theorem dX8_plot_74 : decode cX8_plot 74 = .ok (.iload 7, 2) := by decide +kernel
theorem dX8_plot_76 : decode cX8_plot 76 = .ok (.bipush 50, 2) := by decide +kernel
theorem dX8_plot_78 : decode cX8_plot 78 = .ok (.if_icmp .ge 165, 3) := by decide +kernel
theorem dX8_plot_81 : decode cX8_plot 81 = .ok (.iload 6, 2) := by decide +kernel
theorem dX8_plot_83 : decode cX8_plot 83 = .ok (.bipush 10, 2) := by decide +kernel
theorem dX8_plot_85 : decode cX8_plot 85 = .ok (.irem, 1) := by decide +kernel
theorem dX8_plot_86 : decode cX8_plot 86 = .ok (.ifCond .le 151, 3) := by decide +kernel
theorem dX8_plot_89 : decode cX8_plot 89 = .ok (.iload 7, 2) := by decide +kernel
theorem dX8_plot_91 : decode cX8_plot 91 = .ok (.bipush 10, 2) := by decide +kernel
theorem dX8_plot_93 : decode cX8_plot 93 = .ok (.irem, 1) := by decide +kernel
theorem dX8_plot_94 : decode cX8_plot 94 = .ok (.ifCond .le 143, 3) := by decide +kernel
theorem dX8_plot_97 : decode cX8_plot 97 = .ok (.aload_n 0, 1) := by decide +kernel
theorem dX8_plot_98 : decode cX8_plot 98 = .ok (.iload_n 1, 1) := by decide +kernel
theorem dX8_plot_99 : decode cX8_plot 99 = .ok (.iload 6, 2) := by decide +kernel
theorem dX8_plot_101 : decode cX8_plot 101 = .ok (.invokevirtual 133, 3) := by decide +kernel
theorem dX8_plot_104 : decode cX8_plot 104 = .ok (.aload_n 0, 1) := by decide +kernel
theorem dX8_plot_105 : decode cX8_plot 105 = .ok (.iload_n 1, 1) := by decide +kernel
theorem dX8_plot_106 : decode cX8_plot 106 = .ok (.iload 7, 2) := by decide +kernel
theorem dX8_plot_108 : decode cX8_plot 108 = .ok (.invokevirtual 133, 3) := by decide +kernel
theorem dX8_plot_111 : decode cX8_plot 111 = .ok (.aload_n 0, 1) := by decide +kernel
theorem dX8_plot_112 : decode cX8_plot 112 = .ok (.getfield 19, 3) := by decide +kernel
theorem dX8_plot_115 : decode cX8_plot 115 = .ok (.bipush 24, 2) := by decide +kernel
theorem dX8_plot_117 : decode cX8_plot 117 = .ok (.iload_n 1, 1) := by decide +kernel
theorem dX8_plot_118 : decode cX8_plot 118 = .ok (.iadd, 1) := by decide +kernel
theorem dX8_plot_119 : decode cX8_plot 119 = .ok (.iaload, 1) := by decide +kernel
theorem dX8_plot_120 : decode cX8_plot 120 = .ok (.istore 8, 2) := by decide +kernel
theorem dX8_plot_122 : decode cX8_plot 122 = .ok (.aload_n 0, 1) := by decide +kernel
theorem dX8_plot_123 : decode cX8_plot 123 = .ok (.getfield 19, 3) := by decide +kernel
theorem dX8_plot_126 : decode cX8_plot 126 = .ok (.bipush 25, 2) := by decide +kernel
theorem dX8_plot_128 : decode cX8_plot 128 = .ok (.iload_n 1, 1) := by decide +kernel
theorem dX8_plot_129 : decode cX8_plot 129 = .ok (.isub, 1) := by decide +kernel
theorem dX8_plot_130 : decode cX8_plot 130 = .ok (.iaload, 1) := by decide +kernel
theorem dX8_plot_131 : decode cX8_plot 131 = .ok (.istore 9, 2) := by decide +kernel
theorem dX8_plot_133 : decode cX8_plot 133 = .ok (.iconst 0, 1) := by decide +kernel
theorem dX8_plot_134 : decode cX8_plot 134 = .ok (.istore 10, 2) := by decide +kernel
theorem dX8_plot_136 : decode cX8_plot 136 = .ok (.iload 10, 2) := by decide +kernel
theorem dX8_plot_138 : decode cX8_plot 138 = .ok (.iload_n 2, 1) := by decide +kernel
theorem dX8_plot_139 : decode cX8_plot 139 = .ok (.if_icmp .ge 14, 3) := by decide +kernel
theorem dX8_plot_142 : decode cX8_plot 142 = .ok (.aload_n 0, 1) := by decide +kernel
theorem dX8_plot_143 : decode cX8_plot 143 = .ok (.invokevirtual 130, 3) := by decide +kernel
theorem dX8_plot_146 : decode cX8_plot 146 = .ok (.pop, 1) := by decide +kernel
theorem dX8_plot_147 : decode cX8_plot 147 = .ok (.iinc 10 1, 3) := by decide +kernel
theorem dX8_plot_150 : decode cX8_plot 150 = .ok (.goto (-14), 3) := by decide +kernel
theorem dX8_plot_153 : decode cX8_plot 153 = .ok (.aload_n 0, 1) := by decide +kernel
theorem dX8_plot_154 : decode cX8_plot 154 = .ok (.getfield 19, 3) := by decide +kernel
theorem dX8_plot_157 : decode cX8_plot 157 = .ok (.bipush 25, 2) := by decide +kernel
theorem dX8_plot_159 : decode cX8_plot 159 = .ok (.iload_n 1, 1) := by decide +kernel
theorem dX8_plot_160 : decode cX8_plot 160 = .ok (.isub, 1) := by decide +kernel
theorem dX8_plot_161 : decode cX8_plot 161 = .ok (.iaload, 1) := by decide +kernel
theorem dX8_plot_162 : decode cX8_plot 162 = .ok (.iload 9, 2) := by decide +kernel
theorem dX8_plot_164 : decode cX8_plot 164 = .ok (.isub, 1) := by decide +kernel
theorem dX8_plot_165 : decode cX8_plot 165 = .ok (.istore 10, 2) := by decide +kernel
theorem dX8_plot_167 : decode cX8_plot 167 = .ok (.aload_n 0, 1) := by decide +kernel
theorem dX8_plot_168 : decode cX8_plot 168 = .ok (.getfield 19, 3) := by decide +kernel
theorem dX8_plot_171 : decode cX8_plot 171 = .ok (.bipush 24, 2) := by decide +kernel
theorem dX8_plot_173 : decode cX8_plot 173 = .ok (.iload_n 1, 1) := by decide +kernel
theorem dX8_plot_174 : decode cX8_plot 174 = .ok (.iadd, 1) := by decide +kernel
theorem dX8_plot_175 : decode cX8_plot 175 = .ok (.iaload, 1) := by decide +kernel
theorem dX8_plot_176 : decode cX8_plot 176 = .ok (.iload 8, 2) := by decide +kernel
theorem dX8_plot_178 : decode cX8_plot 178 = .ok (.if_icmp .ne 14, 3) := by decide +kernel
theorem dX8_plot_181 : decode cX8_plot 181 = .ok (.iload 10, 2) := by decide +kernel
theorem dX8_plot_183 : decode cX8_plot 183 = .ok (.iload 4, 2) := by decide +kernel
theorem dX8_plot_185 : decode cX8_plot 185 = .ok (.if_icmp .le 7, 3) := by decide +kernel
theorem dX8_plot_188 : decode cX8_plot 188 = .ok (.iconst 1, 1) := by decide +kernel
theorem dX8_plot_189 : decode cX8_plot 189 = .ok (.goto 4, 3) := by decide +kernel
theorem dX8_plot_192 : decode cX8_plot 192 = .ok (.iconst 0, 1) := by decide +kernel
theorem dX8_plot_193 : decode cX8_plot 193 = .ok (.istore 11, 2) := by decide +kernel
theorem dX8_plot_195 : decode cX8_plot 195 = .ok (.iload 11, 2) := by decide +kernel
theorem dX8_plot_197 : decode cX8_plot 197 = .ok (.ifCond .eq 8, 3) := by decide +kernel
theorem dX8_plot_200 : decode cX8_plot 200 = .ok (.iload 10, 2) := by decide +kernel
theorem dX8_plot_202 : decode cX8_plot 202 = .ok (.goto 5, 3) := by decide +kernel
theorem dX8_plot_205 : decode cX8_plot 205 = .ok (.iload 4, 2) := by decide +kernel
theorem dX8_plot_207 : decode cX8_plot 207 = .ok (.istore 4, 2) := by decide +kernel
theorem dX8_plot_209 : decode cX8_plot 209 = .ok (.iload 11, 2) := by decide +kernel
theorem dX8_plot_211 : decode cX8_plot 211 = .ok (.ifCond .eq 18, 3) := by decide +kernel
theorem dX8_plot_214 : decode cX8_plot 214 = .ok (.iload_n 3, 1) := by decide +kernel
theorem dX8_plot_215 : decode cX8_plot 215 = .ok (.iconst 1, 1) := by decide +kernel
theorem dX8_plot_216 : decode cX8_plot 216 = .ok (.if_icmp .ne 8, 3) := by decide +kernel
theorem dX8_plot_219 : decode cX8_plot 219 = .ok (.iload 6, 2) := by decide +kernel
theorem dX8_plot_221 : decode cX8_plot 221 = .ok (.goto 10, 3) := by decide +kernel
theorem dX8_plot_224 : decode cX8_plot 224 = .ok (.iload 7, 2) := by decide +kernel
theorem dX8_plot_226 : decode cX8_plot 226 = .ok (.goto 5, 3) := by decide +kernel
theorem dX8_plot_229 : decode cX8_plot 229 = .ok (.iload 5, 2) := by decide +kernel
theorem dX8_plot_231 : decode cX8_plot 231 = .ok (.istore 5, 2) := by decide +kernel
theorem dX8_plot_233 : decode cX8_plot 233 = .ok (.aload_n 0, 1) := by decide +kernel
theorem dX8_plot_234 : decode cX8_plot 234 = .ok (.invokevirtual 142, 3) := by decide +kernel
theorem dX8_plot_237 : decode cX8_plot 237 = .ok (.iinc 7 1, 3) := by decide +kernel
theorem dX8_plot_240 : decode cX8_plot 240 = .ok (.goto (-166), 3) := by decide +kernel
theorem dX8_plot_243 : decode cX8_plot 243 = .ok (.iinc 6 1, 3) := by decide +kernel
theorem dX8_plot_246 : decode cX8_plot 246 = .ok (.goto (-182), 3) := by decide +kernel
theorem dX8_plot_249 : decode cX8_plot 249 = .ok (.iload_n 3, 1) := by decide +kernel
theorem dX8_plot_250 : decode cX8_plot 250 = .ok (.ifCond .ne 8, 3) := by decide +kernel
theorem dX8_plot_253 : decode cX8_plot 253 = .ok (.iload 4, 2) := by decide +kernel
theorem dX8_plot_255 : decode cX8_plot 255 = .ok (.goto 5, 3) := by decide +kernel
theorem dX8_plot_258 : decode cX8_plot 258 = .ok (.iload 5, 2) := by decide +kernel
theorem dX8_plot_260 : decode cX8_plot 260 = .ok (.ireturn, 1) := by decide +kernel
theorem dX8_seen_0 : decode cX8_seen 0 = .ok (.iload_n 1, 1) := by decide +kernel
theorem dX8_seen_1 : decode cX8_seen 1 = .ok (.iconst 0, 1) := by decide +kernel
theorem dX8_seen_2 : decode cX8_seen 2 = .ok (.aload_n 0, 1) := by decide +kernel
theorem dX8_seen_3 : decode cX8_seen 3 = .ok (.invokevirtual 113, 3) := by decide +kernel
theorem dX8_seen_6 : decode cX8_seen 6 = .ok (.iconst 1, 1) := by decide +kernel
theorem dX8_seen_7 : decode cX8_seen 7 = .ok (.isub, 1) := by decide +kernel
theorem dX8_seen_8 : decode cX8_seen 8 = .ok (.invokestatic 45, 3) := by decide +kernel
theorem dX8_seen_11 : decode cX8_seen 11 = .ok (.ifCond .ne 6, 3) := by decide +kernel
theorem dX8_seen_14 : decode cX8_seen 14 = .ok (.bipush (-2), 2) := by decide +kernel
theorem dX8_seen_16 : decode cX8_seen 16 = .ok (.ireturn, 1) := by decide +kernel
theorem dX8_seen_17 : decode cX8_seen 17 = .ok (.iload_n 2, 1) := by decide +kernel
theorem dX8_seen_18 : decode cX8_seen 18 = .ok (.iconst 1, 1) := by decide +kernel
theorem dX8_seen_19 : decode cX8_seen 19 = .ok (.bipush 60, 2) := by decide +kernel
theorem dX8_seen_21 : decode cX8_seen 21 = .ok (.invokestatic 45, 3) := by decide +kernel
theorem dX8_seen_24 : decode cX8_seen 24 = .ok (.ifCond .ne 6, 3) := by decide +kernel
theorem dX8_seen_27 : decode cX8_seen 27 = .ok (.bipush (-3), 2) := by decide +kernel
theorem dX8_seen_29 : decode cX8_seen 29 = .ok (.ireturn, 1) := by decide +kernel
theorem dX8_seen_30 : decode cX8_seen 30 = .ok (.aload_n 0, 1) := by decide +kernel
theorem dX8_seen_31 : decode cX8_seen 31 = .ok (.getfield 106, 3) := by decide +kernel
theorem dX8_seen_34 : decode cX8_seen 34 = .ok (.bipush 6, 2) := by decide +kernel
theorem dX8_seen_36 : decode cX8_seen 36 = .ok (.if_icmp .ne 6, 3) := by decide +kernel
theorem dX8_seen_39 : decode cX8_seen 39 = .ok (.bipush (-5), 2) := by decide +kernel
theorem dX8_seen_41 : decode cX8_seen 41 = .ok (.ireturn, 1) := by decide +kernel
theorem dX8_seen_42 : decode cX8_seen 42 = .ok (.aload_n 0, 1) := by decide +kernel
theorem dX8_seen_43 : decode cX8_seen 43 = .ok (.getfield 32, 3) := by decide +kernel
theorem dX8_seen_46 : decode cX8_seen 46 = .ok (.aload_n 0, 1) := by decide +kernel
theorem dX8_seen_47 : decode cX8_seen 47 = .ok (.getfield 106, 3) := by decide +kernel
theorem dX8_seen_50 : decode cX8_seen 50 = .ok (.bipush 100, 2) := by decide +kernel
theorem dX8_seen_52 : decode cX8_seen 52 = .ok (.iload_n 1, 1) := by decide +kernel
theorem dX8_seen_53 : decode cX8_seen 53 = .ok (.imul, 1) := by decide +kernel
theorem dX8_seen_54 : decode cX8_seen 54 = .ok (.iload_n 2, 1) := by decide +kernel
theorem dX8_seen_55 : decode cX8_seen 55 = .ok (.iadd, 1) := by decide +kernel
theorem dX8_seen_56 : decode cX8_seen 56 = .ok (.iastore, 1) := by decide +kernel
theorem dX8_seen_57 : decode cX8_seen 57 = .ok (.aload_n 0, 1) := by decide +kernel
theorem dX8_seen_58 : decode cX8_seen 58 = .ok (.dup, 1) := by decide +kernel
theorem dX8_seen_59 : decode cX8_seen 59 = .ok (.getfield 106, 3) := by decide +kernel
theorem dX8_seen_62 : decode cX8_seen 62 = .ok (.iconst 1, 1) := by decide +kernel
theorem dX8_seen_63 : decode cX8_seen 63 = .ok (.iadd, 1) := by decide +kernel
theorem dX8_seen_64 : decode cX8_seen 64 = .ok (.putfield 106, 3) := by decide +kernel
theorem dX8_seen_67 : decode cX8_seen 67 = .ok (.aload_n 0, 1) := by decide +kernel
theorem dX8_seen_68 : decode cX8_seen 68 = .ok (.getfield 106, 3) := by decide +kernel
theorem dX8_seen_71 : decode cX8_seen 71 = .ok (.ireturn, 1) := by decide +kernel
theorem dX8_forget_0 : decode cX8_forget 0 = .ok (.aload_n 0, 1) := by decide +kernel
theorem dX8_forget_1 : decode cX8_forget 1 = .ok (.getfield 106, 3) := by decide +kernel
theorem dX8_forget_4 : decode cX8_forget 4 = .ok (.istore_n 1, 1) := by decide +kernel
theorem dX8_forget_5 : decode cX8_forget 5 = .ok (.aload_n 0, 1) := by decide +kernel
theorem dX8_forget_6 : decode cX8_forget 6 = .ok (.iconst 0, 1) := by decide +kernel
theorem dX8_forget_7 : decode cX8_forget 7 = .ok (.putfield 106, 3) := by decide +kernel
theorem dX8_forget_10 : decode cX8_forget 10 = .ok (.iload_n 1, 1) := by decide +kernel
theorem dX8_forget_11 : decode cX8_forget 11 = .ok (.ireturn, 1) := by decide +kernel
theorem dX8_isSo_0 : decode cX8_isSo 0 = .ok (.iconst 1, 1) := by decide +kernel
theorem dX8_isSo_1 : decode cX8_isSo 1 = .ok (.istore_n 1, 1) := by decide +kernel
theorem dX8_isSo_2 : decode cX8_isSo 2 = .ok (.iconst 1, 1) := by decide +kernel
theorem dX8_isSo_3 : decode cX8_isSo 3 = .ok (.istore_n 2, 1) := by decide +kernel
theorem dX8_isSo_4 : decode cX8_isSo 4 = .ok (.iload_n 2, 1) := by decide +kernel
theorem dX8_isSo_5 : decode cX8_isSo 5 = .ok (.bipush 61, 2) := by decide +kernel
theorem dX8_isSo_7 : decode cX8_isSo 7 = .ok (.if_icmp .ge 71, 3) := by decide +kernel
theorem dX8_isSo_10 : decode cX8_isSo 10 = .ok (.aload_n 0, 1) := by decide +kernel
theorem dX8_isSo_11 : decode cX8_isSo 11 = .ok (.invokevirtual 130, 3) := by decide +kernel
theorem dX8_isSo_14 : decode cX8_isSo 14 = .ok (.pop, 1) := by decide +kernel
theorem dX8_isSo_15 : decode cX8_isSo 15 = .ok (.iconst 0, 1) := by decide +kernel
theorem dX8_isSo_16 : decode cX8_isSo 16 = .ok (.istore_n 3, 1) := by decide +kernel
theorem dX8_isSo_17 : decode cX8_isSo 17 = .ok (.iload_n 3, 1) := by decide +kernel
theorem dX8_isSo_18 : decode cX8_isSo 18 = .ok (.aload_n 0, 1) := by decide +kernel
theorem dX8_isSo_19 : decode cX8_isSo 19 = .ok (.getfield 106, 3) := by decide +kernel
theorem dX8_isSo_22 : decode cX8_isSo 22 = .ok (.if_icmp .ge 50, 3) := by decide +kernel
theorem dX8_isSo_25 : decode cX8_isSo 25 = .ok (.iload_n 1, 1) := by decide +kernel
theorem dX8_isSo_26 : decode cX8_isSo 26 = .ok (.ifCond .eq 38, 3) := by decide +kernel
theorem dX8_isSo_29 : decode cX8_isSo 29 = .ok (.aload_n 0, 1) := by decide +kernel
theorem dX8_isSo_30 : decode cX8_isSo 30 = .ok (.getfield 32, 3) := by decide +kernel
theorem dX8_isSo_33 : decode cX8_isSo 33 = .ok (.iload_n 3, 1) := by decide +kernel
theorem dX8_isSo_34 : decode cX8_isSo 34 = .ok (.iaload, 1) := by decide +kernel
theorem dX8_isSo_35 : decode cX8_isSo 35 = .ok (.bipush 100, 2) := by decide +kernel
theorem dX8_isSo_37 : decode cX8_isSo 37 = .ok (.irem, 1) := by decide +kernel
theorem dX8_isSo_38 : decode cX8_isSo 38 = .ok (.iload_n 2, 1) := by decide +kernel
theorem dX8_isSo_39 : decode cX8_isSo 39 = .ok (.if_icmp .ne 21, 3) := by decide +kernel
theorem dX8_isSo_42 : decode cX8_isSo 42 = .ok (.aload_n 0, 1) := by decide +kernel
theorem dX8_isSo_43 : decode cX8_isSo 43 = .ok (.getfield 32, 3) := by decide +kernel
theorem dX8_isSo_46 : decode cX8_isSo 46 = .ok (.iload_n 3, 1) := by decide +kernel
theorem dX8_isSo_47 : decode cX8_isSo 47 = .ok (.iaload, 1) := by decide +kernel
theorem dX8_isSo_48 : decode cX8_isSo 48 = .ok (.bipush 100, 2) := by decide +kernel
theorem dX8_isSo_50 : decode cX8_isSo 50 = .ok (.idiv, 1) := by decide +kernel
theorem dX8_isSo_51 : decode cX8_isSo 51 = .ok (.aload_n 0, 1) := by decide +kernel
theorem dX8_isSo_52 : decode cX8_isSo 52 = .ok (.getfield 19, 3) := by decide +kernel
theorem dX8_isSo_55 : decode cX8_isSo 55 = .ok (.iconst 2, 1) := by decide +kernel
theorem dX8_isSo_56 : decode cX8_isSo 56 = .ok (.iaload, 1) := by decide +kernel
theorem dX8_isSo_57 : decode cX8_isSo 57 = .ok (.if_icmp .ne 7, 3) := by decide +kernel
theorem dX8_isSo_60 : decode cX8_isSo 60 = .ok (.iconst 1, 1) := by decide +kernel
theorem dX8_isSo_61 : decode cX8_isSo 61 = .ok (.goto 4, 3) := by decide +kernel
theorem dX8_isSo_64 : decode cX8_isSo 64 = .ok (.iconst 0, 1) := by decide +kernel
theorem dX8_isSo_65 : decode cX8_isSo 65 = .ok (.istore_n 1, 1) := by decide +kernel
theorem dX8_isSo_66 : decode cX8_isSo 66 = .ok (.iinc 3 1, 3) := by decide +kernel
theorem dX8_isSo_69 : decode cX8_isSo 69 = .ok (.goto (-52), 3) := by decide +kernel
theorem dX8_isSo_72 : decode cX8_isSo 72 = .ok (.iinc 2 1, 3) := by decide +kernel
theorem dX8_isSo_75 : decode cX8_isSo 75 = .ok (.goto (-71), 3) := by decide +kernel
theorem dX8_isSo_78 : decode cX8_isSo 78 = .ok (.aload_n 0, 1) := by decide +kernel
theorem dX8_isSo_79 : decode cX8_isSo 79 = .ok (.invokevirtual 142, 3) := by decide +kernel
theorem dX8_isSo_82 : decode cX8_isSo 82 = .ok (.iload_n 1, 1) := by decide +kernel
theorem dX8_isSo_83 : decode cX8_isSo 83 = .ok (.ireturn, 1) := by decide +kernel
theorem dX8_wound_0 : decode cX8_wound 0 = .ok (.aload_n 0, 1) := by decide +kernel
theorem dX8_wound_1 : decode cX8_wound 1 = .ok (.invokevirtual 139, 3) := by decide +kernel
theorem dX8_wound_4 : decode cX8_wound 4 = .ok (.iconst 0, 1) := by decide +kernel
theorem dX8_wound_5 : decode cX8_wound 5 = .ok (.istore_n 1, 1) := by decide +kernel
theorem dX8_wound_6 : decode cX8_wound 6 = .ok (.iconst 0, 1) := by decide +kernel
theorem dX8_wound_7 : decode cX8_wound 7 = .ok (.istore_n 2, 1) := by decide +kernel
theorem dX8_wound_8 : decode cX8_wound 8 = .ok (.iload_n 2, 1) := by decide +kernel
theorem dX8_wound_9 : decode cX8_wound 9 = .ok (.bipush 9, 2) := by decide +kernel
theorem dX8_wound_11 : decode cX8_wound 11 = .ok (.if_icmp .ge 31, 3) := by decide +kernel
theorem dX8_wound_14 : decode cX8_wound 14 = .ok (.aload_n 0, 1) := by decide +kernel
theorem dX8_wound_15 : decode cX8_wound 15 = .ok (.iload_n 2, 1) := by decide +kernel
theorem dX8_wound_16 : decode cX8_wound 16 = .ok (.invokevirtual 136, 3) := by decide +kernel
theorem dX8_wound_19 : decode cX8_wound 19 = .ok (.iload_n 1, 1) := by decide +kernel
theorem dX8_wound_20 : decode cX8_wound 20 = .ok (.aload_n 0, 1) := by decide +kernel
theorem dX8_wound_21 : decode cX8_wound 21 = .ok (.invokevirtual 145, 3) := by decide +kernel
theorem dX8_wound_24 : decode cX8_wound 24 = .ok (.ifCond .eq 9, 3) := by decide +kernel
theorem dX8_wound_27 : decode cX8_wound 27 = .ok (.iconst 1, 1) := by decide +kernel
theorem dX8_wound_28 : decode cX8_wound 28 = .ok (.iload_n 2, 1) := by decide +kernel
theorem dX8_wound_29 : decode cX8_wound 29 = .ok (.ishl, 1) := by decide +kernel
theorem dX8_wound_30 : decode cX8_wound 30 = .ok (.goto 4, 3) := by decide +kernel
theorem dX8_wound_33 : decode cX8_wound 33 = .ok (.iconst 0, 1) := by decide +kernel
theorem dX8_wound_34 : decode cX8_wound 34 = .ok (.ior, 1) := by decide +kernel
theorem dX8_wound_35 : decode cX8_wound 35 = .ok (.istore_n 1, 1) := by decide +kernel
theorem dX8_wound_36 : decode cX8_wound 36 = .ok (.iinc 2 1, 3) := by decide +kernel
theorem dX8_wound_39 : decode cX8_wound 39 = .ok (.goto (-31), 3) := by decide +kernel
theorem dX8_wound_42 : decode cX8_wound 42 = .ok (.iload_n 1, 1) := by decide +kernel
theorem dX8_wound_43 : decode cX8_wound 43 = .ok (.ireturn, 1) := by decide +kernel
theorem dX8_ordered_0 : decode cX8_ordered 0 = .ok (.iload_n 1, 1) := by decide +kernel
theorem dX8_ordered_1 : decode cX8_ordered 1 = .ok (.iconst 0, 1) := by decide +kernel
theorem dX8_ordered_2 : decode cX8_ordered 2 = .ok (.iconst 1, 1) := by decide +kernel
theorem dX8_ordered_3 : decode cX8_ordered 3 = .ok (.invokestatic 45, 3) := by decide +kernel
theorem dX8_ordered_6 : decode cX8_ordered 6 = .ok (.ifCond .ne 6, 3) := by decide +kernel
theorem dX8_ordered_9 : decode cX8_ordered 9 = .ok (.bipush (-2), 2) := by decide +kernel
theorem dX8_ordered_11 : decode cX8_ordered 11 = .ok (.ireturn, 1) := by decide +kernel
theorem dX8_ordered_12 : decode cX8_ordered 12 = .ok (.iload_n 2, 1) := by decide +kernel
theorem dX8_ordered_13 : decode cX8_ordered 13 = .ok (.iconst 0, 1) := by decide +kernel
theorem dX8_ordered_14 : decode cX8_ordered 14 = .ok (.iconst 1, 1) := by decide +kernel
theorem dX8_ordered_15 : decode cX8_ordered 15 = .ok (.invokestatic 45, 3) := by decide +kernel
theorem dX8_ordered_18 : decode cX8_ordered 18 = .ok (.ifCond .ne 6, 3) := by decide +kernel
theorem dX8_ordered_21 : decode cX8_ordered 21 = .ok (.bipush (-3), 2) := by decide +kernel
theorem dX8_ordered_23 : decode cX8_ordered 23 = .ok (.ireturn, 1) := by decide +kernel
theorem dX8_ordered_24 : decode cX8_ordered 24 = .ok (.aload_n 0, 1) := by decide +kernel
theorem dX8_ordered_25 : decode cX8_ordered 25 = .ok (.getfield 19, 3) := by decide +kernel
theorem dX8_ordered_28 : decode cX8_ordered 28 = .ok (.bipush 6, 2) := by decide +kernel
theorem dX8_ordered_30 : decode cX8_ordered 30 = .ok (.iload_n 1, 1) := by decide +kernel
theorem dX8_ordered_31 : decode cX8_ordered 31 = .ok (.iadd, 1) := by decide +kernel
theorem dX8_ordered_32 : decode cX8_ordered 32 = .ok (.iaload, 1) := by decide +kernel
theorem dX8_ordered_33 : decode cX8_ordered 33 = .ok (.ifCond .ne 5, 3) := by decide +kernel
theorem dX8_ordered_36 : decode cX8_ordered 36 = .ok (.iconst (-1), 1) := by decide +kernel
theorem dX8_ordered_37 : decode cX8_ordered 37 = .ok (.ireturn, 1) := by decide +kernel
theorem dX8_ordered_38 : decode cX8_ordered 38 = .ok (.aload_n 0, 1) := by decide +kernel
theorem dX8_ordered_39 : decode cX8_ordered 39 = .ok (.invokevirtual 139, 3) := by decide +kernel
theorem dX8_ordered_42 : decode cX8_ordered 42 = .ok (.iconst 0, 1) := by decide +kernel
theorem dX8_ordered_43 : decode cX8_ordered 43 = .ok (.istore_n 3, 1) := by decide +kernel
theorem dX8_ordered_44 : decode cX8_ordered 44 = .ok (.iconst (-1), 1) := by decide +kernel
theorem dX8_ordered_45 : decode cX8_ordered 45 = .ok (.istore 4, 2) := by decide +kernel
theorem dX8_ordered_47 : decode cX8_ordered 47 = .ok (.bipush 49, 2) := by decide +kernel
theorem dX8_ordered_49 : decode cX8_ordered 49 = .ok (.istore 5, 2) := by decide +kernel
theorem dX8_ordered_51 : decode cX8_ordered 51 = .ok (.iload 5, 2) := by decide +kernel
theorem dX8_ordered_53 : decode cX8_ordered 53 = .ok (.ifCond .le 63, 3) := by decide +kernel
theorem dX8_ordered_56 : decode cX8_ordered 56 = .ok (.iload 5, 2) := by decide +kernel
theorem dX8_ordered_58 : decode cX8_ordered 58 = .ok (.bipush 10, 2) := by decide +kernel
theorem dX8_ordered_60 : decode cX8_ordered 60 = .ok (.irem, 1) := by decide +kernel
theorem dX8_ordered_61 : decode cX8_ordered 61 = .ok (.ifCond .le 49, 3) := by decide +kernel
theorem dX8_ordered_64 : decode cX8_ordered 64 = .ok (.aload_n 0, 1) := by decide +kernel
theorem dX8_ordered_65 : decode cX8_ordered 65 = .ok (.getfield 19, 3) := by decide +kernel
theorem dX8_ordered_68 : decode cX8_ordered 68 = .ok (.aload_n 0, 1) := by decide +kernel
theorem dX8_ordered_69 : decode cX8_ordered 69 = .ok (.iload_n 1, 1) := by decide +kernel
theorem dX8_ordered_70 : decode cX8_ordered 70 = .ok (.iconst 0, 1) := by decide +kernel
theorem dX8_ordered_71 : decode cX8_ordered 71 = .ok (.invokevirtual 116, 3) := by decide +kernel
theorem dX8_ordered_74 : decode cX8_ordered 74 = .ok (.iload 5, 2) := by decide +kernel
theorem dX8_ordered_76 : decode cX8_ordered 76 = .ok (.iastore, 1) := by decide +kernel
theorem dX8_ordered_77 : decode cX8_ordered 77 = .ok (.aload_n 0, 1) := by decide +kernel
theorem dX8_ordered_78 : decode cX8_ordered 78 = .ok (.invokevirtual 145, 3) := by decide +kernel
theorem dX8_ordered_81 : decode cX8_ordered 81 = .ok (.istore 6, 2) := by decide +kernel
theorem dX8_ordered_83 : decode cX8_ordered 83 = .ok (.iload_n 3, 1) := by decide +kernel
theorem dX8_ordered_84 : decode cX8_ordered 84 = .ok (.iload 6, 2) := by decide +kernel
theorem dX8_ordered_86 : decode cX8_ordered 86 = .ok (.ifCond .eq 7, 3) := by decide +kernel
theorem dX8_ordered_89 : decode cX8_ordered 89 = .ok (.iconst 1, 1) := by decide +kernel
theorem dX8_ordered_90 : decode cX8_ordered 90 = .ok (.goto 4, 3) := by decide +kernel
theorem dX8_ordered_93 : decode cX8_ordered 93 = .ok (.iconst 0, 1) := by decide +kernel
theorem dX8_ordered_94 : decode cX8_ordered 94 = .ok (.iadd, 1) := by decide +kernel
theorem dX8_ordered_95 : decode cX8_ordered 95 = .ok (.istore_n 3, 1) := by decide +kernel
theorem dX8_ordered_96 : decode cX8_ordered 96 = .ok (.iload 6, 2) := by decide +kernel
theorem dX8_ordered_98 : decode cX8_ordered 98 = .ok (.ifCond .eq 8, 3) := by decide +kernel
theorem dX8_ordered_101 : decode cX8_ordered 101 = .ok (.iload 5, 2) := by decide +kernel
theorem dX8_ordered_103 : decode cX8_ordered 103 = .ok (.goto 5, 3) := by decide +kernel
theorem dX8_ordered_106 : decode cX8_ordered 106 = .ok (.iload 4, 2) := by decide +kernel
theorem dX8_ordered_108 : decode cX8_ordered 108 = .ok (.istore 4, 2) := by decide +kernel
theorem dX8_ordered_110 : decode cX8_ordered 110 = .ok (.iinc 5 (-1), 3) := by decide +kernel
theorem dX8_ordered_113 : decode cX8_ordered 113 = .ok (.goto (-62), 3) := by decide +kernel
theorem dX8_ordered_116 : decode cX8_ordered 116 = .ok (.iload_n 2, 1) := by decide +kernel
theorem dX8_ordered_117 : decode cX8_ordered 117 = .ok (.ifCond .ne 7, 3) := by decide +kernel
theorem dX8_ordered_120 : decode cX8_ordered 120 = .ok (.iload_n 3, 1) := by decide +kernel
theorem dX8_ordered_121 : decode cX8_ordered 121 = .ok (.goto 5, 3) := by decide +kernel
theorem dX8_ordered_124 : decode cX8_ordered 124 = .ok (.iload 4, 2) := by decide +kernel
theorem dX8_ordered_126 : decode cX8_ordered 126 = .ok (.ireturn, 1) := by decide +kernel
theorem dX8_inspected_0 : decode cX8_inspected 0 = .ok (.iload_n 1, 1) := by decide +kernel
theorem dX8_inspected_1 : decode cX8_inspected 1 = .ok (.iconst 0, 1) := by decide +kernel
theorem dX8_inspected_2 : decode cX8_inspected 2 = .ok (.bipush 60, 2) := by decide +kernel
theorem dX8_inspected_4 : decode cX8_inspected 4 = .ok (.invokestatic 45, 3) := by decide +kernel
theorem dX8_inspected_7 : decode cX8_inspected 7 = .ok (.ifCond .eq 13, 3) := by decide +kernel
theorem dX8_inspected_10 : decode cX8_inspected 10 = .ok (.iload_n 2, 1) := by decide +kernel
theorem dX8_inspected_11 : decode cX8_inspected 11 = .ok (.iconst 0, 1) := by decide +kernel
theorem dX8_inspected_12 : decode cX8_inspected 12 = .ok (.bipush 10, 2) := by decide +kernel
theorem dX8_inspected_14 : decode cX8_inspected 14 = .ok (.invokestatic 45, 3) := by decide +kernel
theorem dX8_inspected_17 : decode cX8_inspected 17 = .ok (.ifCond .ne 6, 3) := by decide +kernel
theorem dX8_inspected_20 : decode cX8_inspected 20 = .ok (.bipush (-3), 2) := by decide +kernel
theorem dX8_inspected_22 : decode cX8_inspected 22 = .ok (.ireturn, 1) := by decide +kernel
theorem dX8_inspected_23 : decode cX8_inspected 23 = .ok (.aload_n 0, 1) := by decide +kernel
theorem dX8_inspected_24 : decode cX8_inspected 24 = .ok (.invokevirtual 139, 3) := by decide +kernel
theorem dX8_inspected_27 : decode cX8_inspected 27 = .ok (.ldc2_w 148, 3) := by decide +kernel
theorem dX8_inspected_30 : decode cX8_inspected 30 = .ok (.lstore_n 3, 1) := by decide +kernel
theorem dX8_inspected_31 : decode cX8_inspected 31 = .ok (.iconst 0, 1) := by decide +kernel
theorem dX8_inspected_32 : decode cX8_inspected 32 = .ok (.istore 5, 2) := by decide +kernel
theorem dX8_inspected_34 : decode cX8_inspected 34 = .ok (.iload 5, 2) := by decide +kernel
theorem dX8_inspected_36 : decode cX8_inspected 36 = .ok (.iload_n 1, 1) := by decide +kernel
theorem dX8_inspected_37 : decode cX8_inspected 37 = .ok (.if_icmp .ge 33, 3) := by decide +kernel
theorem dX8_inspected_40 : decode cX8_inspected 40 = .ok (.aload_n 0, 1) := by decide +kernel
theorem dX8_inspected_41 : decode cX8_inspected 41 = .ok (.invokevirtual 130, 3) := by decide +kernel
theorem dX8_inspected_44 : decode cX8_inspected 44 = .ok (.iconst (-1), 1) := by decide +kernel
theorem dX8_inspected_45 : decode cX8_inspected 45 = .ok (.if_icmp .ne 7, 3) := by decide +kernel
theorem dX8_inspected_48 : decode cX8_inspected 48 = .ok (.lload_n 3, 1) := by decide +kernel
theorem dX8_inspected_49 : decode cX8_inspected 49 = .ok (.goto 14, 3) := by decide +kernel
theorem dX8_inspected_52 : decode cX8_inspected 52 = .ok (.lload_n 3, 1) := by decide +kernel
theorem dX8_inspected_53 : decode cX8_inspected 53 = .ok (.bipush 10, 2) := by decide +kernel
theorem dX8_inspected_55 : decode cX8_inspected 55 = .ok (.iload_n 2, 1) := by decide +kernel
theorem dX8_inspected_56 : decode cX8_inspected 56 = .ok (.isub, 1) := by decide +kernel
theorem dX8_inspected_57 : decode cX8_inspected 57 = .ok (.i2l, 1) := by decide +kernel
theorem dX8_inspected_58 : decode cX8_inspected 58 = .ok (.lmul, 1) := by decide +kernel
theorem dX8_inspected_59 : decode cX8_inspected 59 = .ok (.ldc2_w 150, 3) := by decide +kernel
theorem dX8_inspected_62 : decode cX8_inspected 62 = .ok (.ldiv, 1) := by decide +kernel
theorem dX8_inspected_63 : decode cX8_inspected 63 = .ok (.lstore_n 3, 1) := by decide +kernel
theorem dX8_inspected_64 : decode cX8_inspected 64 = .ok (.iinc 5 1, 3) := by decide +kernel
theorem dX8_inspected_67 : decode cX8_inspected 67 = .ok (.goto (-33), 3) := by decide +kernel
theorem dX8_inspected_70 : decode cX8_inspected 70 = .ok (.aload_n 0, 1) := by decide +kernel
theorem dX8_inspected_71 : decode cX8_inspected 71 = .ok (.invokevirtual 142, 3) := by decide +kernel
theorem dX8_inspected_74 : decode cX8_inspected 74 = .ok (.lload_n 3, 1) := by decide +kernel
theorem dX8_inspected_75 : decode cX8_inspected 75 = .ok (.l2i, 1) := by decide +kernel
theorem dX8_inspected_76 : decode cX8_inspected 76 = .ok (.ireturn, 1) := by decide +kernel
theorem dX8_count_0 : decode cX8_count 0 = .ok (.iconst 0, 1) := by decide +kernel
theorem dX8_count_1 : decode cX8_count 1 = .ok (.istore_n 2, 1) := by decide +kernel
theorem dX8_count_2 : decode cX8_count 2 = .ok (.iconst 0, 1) := by decide +kernel
theorem dX8_count_3 : decode cX8_count 3 = .ok (.istore_n 3, 1) := by decide +kernel
theorem dX8_count_4 : decode cX8_count 4 = .ok (.iload_n 3, 1) := by decide +kernel
theorem dX8_count_5 : decode cX8_count 5 = .ok (.bipush 36, 2) := by decide +kernel
theorem dX8_count_7 : decode cX8_count 7 = .ok (.if_icmp .ge 21, 3) := by decide +kernel
theorem dX8_count_10 : decode cX8_count 10 = .ok (.iload_n 2, 1) := by decide +kernel
theorem dX8_count_11 : decode cX8_count 11 = .ok (.aload_n 0, 1) := by decide +kernel
theorem dX8_count_12 : decode cX8_count 12 = .ok (.getfield 19, 3) := by decide +kernel
theorem dX8_count_15 : decode cX8_count 15 = .ok (.bipush 30, 2) := by decide +kernel
theorem dX8_count_17 : decode cX8_count 17 = .ok (.iload_n 3, 1) := by decide +kernel
theorem dX8_count_18 : decode cX8_count 18 = .ok (.iadd, 1) := by decide +kernel
theorem dX8_count_19 : decode cX8_count 19 = .ok (.iaload, 1) := by decide +kernel
theorem dX8_count_20 : decode cX8_count 20 = .ok (.iadd, 1) := by decide +kernel
theorem dX8_count_21 : decode cX8_count 21 = .ok (.istore_n 2, 1) := by decide +kernel
theorem dX8_count_22 : decode cX8_count 22 = .ok (.iinc 3 1, 3) := by decide +kernel
theorem dX8_count_25 : decode cX8_count 25 = .ok (.goto (-21), 3) := by decide +kernel
theorem dX8_count_28 : decode cX8_count 28 = .ok (.iload_n 1, 1) := by decide +kernel
theorem dX8_count_29 : decode cX8_count 29 = .ok (.bipush 10, 2) := by decide +kernel
theorem dX8_count_31 : decode cX8_count 31 = .ok (.bipush 13, 2) := by decide +kernel
theorem dX8_count_33 : decode cX8_count 33 = .ok (.invokestatic 45, 3) := by decide +kernel
theorem dX8_count_36 : decode cX8_count 36 = .ok (.ifCond .eq 16, 3) := by decide +kernel
theorem dX8_count_39 : decode cX8_count 39 = .ok (.aload_n 0, 1) := by decide +kernel
theorem dX8_count_40 : decode cX8_count 40 = .ok (.getfield 19, 3) := by decide +kernel
theorem dX8_count_43 : decode cX8_count 43 = .ok (.bipush 26, 2) := by decide +kernel
theorem dX8_count_45 : decode cX8_count 45 = .ok (.iload_n 1, 1) := by decide +kernel
theorem dX8_count_46 : decode cX8_count 46 = .ok (.iadd, 1) := by decide +kernel
theorem dX8_count_47 : decode cX8_count 47 = .ok (.bipush 10, 2) := by decide +kernel
theorem dX8_count_49 : decode cX8_count 49 = .ok (.isub, 1) := by decide +kernel
theorem dX8_count_50 : decode cX8_count 50 = .ok (.iaload, 1) := by decide +kernel
theorem dX8_count_51 : decode cX8_count 51 = .ok (.ireturn, 1) := by decide +kernel
theorem dX8_count_52 : decode cX8_count 52 = .ok (.iload_n 1, 1) := by decide +kernel
theorem dX8_count_53 : decode cX8_count 53 = .ok (.tableswitch 163 0 16 #[83, 90, 97, 104, 111, 118, 125, 132, 139, 146, 163, 163, 163, 163, 148, 153, 158], 83) := by decide +kernel
theorem dX8_count_136 : decode cX8_count 136 = .ok (.aload_n 0, 1) := by decide +kernel
theorem dX8_count_137 : decode cX8_count 137 = .ok (.getfield 13, 3) := by decide +kernel
theorem dX8_count_140 : decode cX8_count 140 = .ok (.iconst 0, 1) := by decide +kernel
theorem dX8_count_141 : decode cX8_count 141 = .ok (.iaload, 1) := by decide +kernel
theorem dX8_count_142 : decode cX8_count 142 = .ok (.ireturn, 1) := by decide +kernel
theorem dX8_count_143 : decode cX8_count 143 = .ok (.aload_n 0, 1) := by decide +kernel
theorem dX8_count_144 : decode cX8_count 144 = .ok (.getfield 13, 3) := by decide +kernel
theorem dX8_count_147 : decode cX8_count 147 = .ok (.iconst 1, 1) := by decide +kernel
theorem dX8_count_148 : decode cX8_count 148 = .ok (.iaload, 1) := by decide +kernel
theorem dX8_count_149 : decode cX8_count 149 = .ok (.ireturn, 1) := by decide +kernel
theorem dX8_count_150 : decode cX8_count 150 = .ok (.aload_n 0, 1) := by decide +kernel
theorem dX8_count_151 : decode cX8_count 151 = .ok (.getfield 13, 3) := by decide +kernel
theorem dX8_count_154 : decode cX8_count 154 = .ok (.iconst 2, 1) := by decide +kernel
theorem dX8_count_155 : decode cX8_count 155 = .ok (.iaload, 1) := by decide +kernel
theorem dX8_count_156 : decode cX8_count 156 = .ok (.ireturn, 1) := by decide +kernel
theorem dX8_count_157 : decode cX8_count 157 = .ok (.aload_n 0, 1) := by decide +kernel
theorem dX8_count_158 : decode cX8_count 158 = .ok (.getfield 19, 3) := by decide +kernel
theorem dX8_count_161 : decode cX8_count 161 = .ok (.iconst 0, 1) := by decide +kernel
theorem dX8_count_162 : decode cX8_count 162 = .ok (.iaload, 1) := by decide +kernel
theorem dX8_count_163 : decode cX8_count 163 = .ok (.ireturn, 1) := by decide +kernel
theorem dX8_count_164 : decode cX8_count 164 = .ok (.aload_n 0, 1) := by decide +kernel
theorem dX8_count_165 : decode cX8_count 165 = .ok (.getfield 19, 3) := by decide +kernel
theorem dX8_count_168 : decode cX8_count 168 = .ok (.iconst 1, 1) := by decide +kernel
theorem dX8_count_169 : decode cX8_count 169 = .ok (.iaload, 1) := by decide +kernel
theorem dX8_count_170 : decode cX8_count 170 = .ok (.ireturn, 1) := by decide +kernel
theorem dX8_count_171 : decode cX8_count 171 = .ok (.aload_n 0, 1) := by decide +kernel
theorem dX8_count_172 : decode cX8_count 172 = .ok (.getfield 19, 3) := by decide +kernel
theorem dX8_count_175 : decode cX8_count 175 = .ok (.iconst 2, 1) := by decide +kernel
theorem dX8_count_176 : decode cX8_count 176 = .ok (.iaload, 1) := by decide +kernel
theorem dX8_count_177 : decode cX8_count 177 = .ok (.ireturn, 1) := by decide +kernel
theorem dX8_count_178 : decode cX8_count 178 = .ok (.aload_n 0, 1) := by decide +kernel
theorem dX8_count_179 : decode cX8_count 179 = .ok (.getfield 19, 3) := by decide +kernel
theorem dX8_count_182 : decode cX8_count 182 = .ok (.iconst 3, 1) := by decide +kernel
theorem dX8_count_183 : decode cX8_count 183 = .ok (.iaload, 1) := by decide +kernel
theorem dX8_count_184 : decode cX8_count 184 = .ok (.ireturn, 1) := by decide +kernel
theorem dX8_count_185 : decode cX8_count 185 = .ok (.aload_n 0, 1) := by decide +kernel
theorem dX8_count_186 : decode cX8_count 186 = .ok (.getfield 19, 3) := by decide +kernel
theorem dX8_count_189 : decode cX8_count 189 = .ok (.iconst 4, 1) := by decide +kernel
theorem dX8_count_190 : decode cX8_count 190 = .ok (.iaload, 1) := by decide +kernel
theorem dX8_count_191 : decode cX8_count 191 = .ok (.ireturn, 1) := by decide +kernel
theorem dX8_count_192 : decode cX8_count 192 = .ok (.aload_n 0, 1) := by decide +kernel
theorem dX8_count_193 : decode cX8_count 193 = .ok (.getfield 19, 3) := by decide +kernel
theorem dX8_count_196 : decode cX8_count 196 = .ok (.iconst 5, 1) := by decide +kernel
theorem dX8_count_197 : decode cX8_count 197 = .ok (.iaload, 1) := by decide +kernel
theorem dX8_count_198 : decode cX8_count 198 = .ok (.ireturn, 1) := by decide +kernel
theorem dX8_count_199 : decode cX8_count 199 = .ok (.iload_n 2, 1) := by decide +kernel
theorem dX8_count_200 : decode cX8_count 200 = .ok (.ireturn, 1) := by decide +kernel
theorem dX8_count_201 : decode cX8_count 201 = .ok (.aload_n 0, 1) := by decide +kernel
theorem dX8_count_202 : decode cX8_count 202 = .ok (.getfield 106, 3) := by decide +kernel
theorem dX8_count_205 : decode cX8_count 205 = .ok (.ireturn, 1) := by decide +kernel
theorem dX8_count_206 : decode cX8_count 206 = .ok (.aload_n 0, 1) := by decide +kernel
theorem dX8_count_207 : decode cX8_count 207 = .ok (.getfield 103, 3) := by decide +kernel
theorem dX8_count_210 : decode cX8_count 210 = .ok (.ireturn, 1) := by decide +kernel
theorem dX8_count_211 : decode cX8_count 211 = .ok (.aload_n 0, 1) := by decide +kernel
theorem dX8_count_212 : decode cX8_count 212 = .ok (.getfield 49, 3) := by decide +kernel
theorem dX8_count_215 : decode cX8_count 215 = .ok (.ireturn, 1) := by decide +kernel
theorem dX8_count_216 : decode cX8_count 216 = .ok (.bipush (-3), 2) := by decide +kernel
theorem dX8_count_218 : decode cX8_count 218 = .ok (.ireturn, 1) := by decide +kernel
theorem dJ9_max_7cf53_0 : decode cJ9_max_7cf53 0 = .ok (.iload_n 0, 1) := by decide +kernel
theorem dJ9_max_7cf53_1 : decode cJ9_max_7cf53 1 = .ok (.iload_n 1, 1) := by decide +kernel
theorem dJ9_max_7cf53_2 : decode cJ9_max_7cf53 2 = .ok (.if_icmp .lt 7, 3) := by decide +kernel
theorem dJ9_max_7cf53_5 : decode cJ9_max_7cf53 5 = .ok (.iload_n 0, 1) := by decide +kernel
theorem dJ9_max_7cf53_6 : decode cJ9_max_7cf53 6 = .ok (.goto 4, 3) := by decide +kernel
theorem dJ9_max_7cf53_9 : decode cJ9_max_7cf53 9 = .ok (.iload_n 1, 1) := by decide +kernel
theorem dJ9_max_7cf53_10 : decode cJ9_max_7cf53 10 = .ok (.ireturn, 1) := by decide +kernel
theorem dJ9_min_7cf53_0 : decode cJ9_min_7cf53 0 = .ok (.iload_n 0, 1) := by decide +kernel
theorem dJ9_min_7cf53_1 : decode cJ9_min_7cf53 1 = .ok (.iload_n 1, 1) := by decide +kernel
theorem dJ9_min_7cf53_2 : decode cJ9_min_7cf53 2 = .ok (.if_icmp .gt 7, 3) := by decide +kernel
theorem dJ9_min_7cf53_5 : decode cJ9_min_7cf53 5 = .ok (.iload_n 0, 1) := by decide +kernel
theorem dJ9_min_7cf53_6 : decode cJ9_min_7cf53 6 = .ok (.goto 4, 3) := by decide +kernel
theorem dJ9_min_7cf53_9 : decode cJ9_min_7cf53 9 = .ok (.iload_n 1, 1) := by decide +kernel
theorem dJ9_min_7cf53_10 : decode cJ9_min_7cf53 10 = .ok (.ireturn, 1) := by decide +kernel
theorem dJ0_length_8abf5_0 : decode cJ0_length_8abf5 0 = .ok (.aload_n 0, 1) := by decide +kernel
theorem dJ0_length_8abf5_1 : decode cJ0_length_8abf5 1 = .ok (.getfield 9, 3) := by decide +kernel
theorem dJ0_length_8abf5_4 : decode cJ0_length_8abf5 4 = .ok (.arraylength, 1) := by decide +kernel
theorem dJ0_length_8abf5_5 : decode cJ0_length_8abf5 5 = .ok (.aload_n 0, 1) := by decide +kernel
theorem dJ0_length_8abf5_6 : decode cJ0_length_8abf5 6 = .ok (.invokevirtual 335, 3) := by decide +kernel
theorem dJ0_length_8abf5_9 : decode cJ0_length_8abf5 9 = .ok (.ishr, 1) := by decide +kernel
theorem dJ0_length_8abf5_10 : decode cJ0_length_8abf5 10 = .ok (.ireturn, 1) := by decide +kernel
theorem dJ0_charAt_5068e_0 : decode cJ0_charAt_5068e 0 = .ok (.aload_n 0, 1) := by decide +kernel
theorem dJ0_charAt_5068e_1 : decode cJ0_charAt_5068e 1 = .ok (.invokevirtual 492, 3) := by decide +kernel
theorem dJ0_charAt_5068e_4 : decode cJ0_charAt_5068e 4 = .ok (.ifCond .eq 12, 3) := by decide +kernel
theorem dJ0_charAt_5068e_7 : decode cJ0_charAt_5068e 7 = .ok (.aload_n 0, 1) := by decide +kernel
theorem dJ0_charAt_5068e_8 : decode cJ0_charAt_5068e 8 = .ok (.getfield 9, 3) := by decide +kernel
theorem dJ0_charAt_5068e_11 : decode cJ0_charAt_5068e 11 = .ok (.iload_n 1, 1) := by decide +kernel
theorem dJ0_charAt_5068e_12 : decode cJ0_charAt_5068e 12 = .ok (.invokestatic 495, 3) := by decide +kernel
theorem dJ0_charAt_5068e_15 : decode cJ0_charAt_5068e 15 = .ok (.ireturn, 1) := by decide +kernel
theorem dJ0_charAt_5068e_16 : decode cJ0_charAt_5068e 16 = .ok (.aload_n 0, 1) := by decide +kernel
theorem dJ0_charAt_5068e_17 : decode cJ0_charAt_5068e 17 = .ok (.getfield 9, 3) := by decide +kernel
theorem dJ0_charAt_5068e_20 : decode cJ0_charAt_5068e 20 = .ok (.iload_n 1, 1) := by decide +kernel
theorem dJ0_charAt_5068e_21 : decode cJ0_charAt_5068e 21 = .ok (.invokestatic 498, 3) := by decide +kernel
theorem dJ0_charAt_5068e_24 : decode cJ0_charAt_5068e 24 = .ok (.ireturn, 1) := by decide +kernel
theorem dJ0_coder_7d493_0 : decode cJ0_coder_7d493 0 = .ok (.getstatic 38, 3) := by decide +kernel
theorem dJ0_coder_7d493_3 : decode cJ0_coder_7d493 3 = .ok (.ifCond .eq 10, 3) := by decide +kernel
theorem dJ0_coder_7d493_6 : decode cJ0_coder_7d493 6 = .ok (.aload_n 0, 1) := by decide +kernel
theorem dJ0_coder_7d493_7 : decode cJ0_coder_7d493 7 = .ok (.getfield 15, 3) := by decide +kernel
theorem dJ0_coder_7d493_10 : decode cJ0_coder_7d493 10 = .ok (.goto 4, 3) := by decide +kernel
theorem dJ0_coder_7d493_13 : decode cJ0_coder_7d493 13 = .ok (.iconst 1, 1) := by decide +kernel
theorem dJ0_coder_7d493_14 : decode cJ0_coder_7d493 14 = .ok (.ireturn, 1) := by decide +kernel
theorem dJ0_isLatin1_aae02_0 : decode cJ0_isLatin1_aae02 0 = .ok (.getstatic 38, 3) := by decide +kernel
theorem dJ0_isLatin1_aae02_3 : decode cJ0_isLatin1_aae02 3 = .ok (.ifCond .eq 14, 3) := by decide +kernel
theorem dJ0_isLatin1_aae02_6 : decode cJ0_isLatin1_aae02 6 = .ok (.aload_n 0, 1) := by decide +kernel
theorem dJ0_isLatin1_aae02_7 : decode cJ0_isLatin1_aae02 7 = .ok (.getfield 15, 3) := by decide +kernel
theorem dJ0_isLatin1_aae02_10 : decode cJ0_isLatin1_aae02 10 = .ok (.ifCond .ne 7, 3) := by decide +kernel
theorem dJ0_isLatin1_aae02_13 : decode cJ0_isLatin1_aae02 13 = .ok (.iconst 1, 1) := by decide +kernel
theorem dJ0_isLatin1_aae02_14 : decode cJ0_isLatin1_aae02 14 = .ok (.goto 4, 3) := by decide +kernel
theorem dJ0_isLatin1_aae02_17 : decode cJ0_isLatin1_aae02 17 = .ok (.iconst 0, 1) := by decide +kernel
theorem dJ0_isLatin1_aae02_18 : decode cJ0_isLatin1_aae02 18 = .ok (.ireturn, 1) := by decide +kernel
theorem dJ0_checkIndex_df160_0 : decode cJ0_checkIndex_df160 0 = .ok (.iload_n 0, 1) := by decide +kernel
theorem dJ0_checkIndex_df160_1 : decode cJ0_checkIndex_df160 1 = .ok (.iload_n 1, 1) := by decide +kernel
theorem dJ0_checkIndex_df160_2 : decode cJ0_checkIndex_df160 2 = .ok (.getstatic 1053, 3) := by decide +kernel
theorem dJ0_checkIndex_df160_5 : decode cJ0_checkIndex_df160 5 = .ok (.invokestatic 1059, 3) := by decide +kernel
theorem dJ0_checkIndex_df160_8 : decode cJ0_checkIndex_df160 8 = .ok (.pop, 1) := by decide +kernel
theorem dJ0_checkIndex_df160_9 : decode cJ0_checkIndex_df160 9 = .ok (.return_, 1) := by decide +kernel
theorem dJ1_charAt_3b067_0 : decode cJ1_charAt_3b067 0 = .ok (.iload_n 1, 1) := by decide +kernel
theorem dJ1_charAt_3b067_1 : decode cJ1_charAt_3b067 1 = .ok (.aload_n 0, 1) := by decide +kernel
theorem dJ1_charAt_3b067_2 : decode cJ1_charAt_3b067 2 = .ok (.arraylength, 1) := by decide +kernel
theorem dJ1_charAt_3b067_3 : decode cJ1_charAt_3b067 3 = .ok (.invokestatic 9, 3) := by decide +kernel
theorem dJ1_charAt_3b067_6 : decode cJ1_charAt_3b067 6 = .ok (.aload_n 0, 1) := by decide +kernel
theorem dJ1_charAt_3b067_7 : decode cJ1_charAt_3b067 7 = .ok (.iload_n 1, 1) := by decide +kernel
theorem dJ1_charAt_3b067_8 : decode cJ1_charAt_3b067 8 = .ok (.baload, 1) := by decide +kernel
theorem dJ1_charAt_3b067_9 : decode cJ1_charAt_3b067 9 = .ok (.sipush 255, 3) := by decide +kernel
theorem dJ1_charAt_3b067_12 : decode cJ1_charAt_3b067 12 = .ok (.iand, 1) := by decide +kernel
theorem dJ1_charAt_3b067_13 : decode cJ1_charAt_3b067 13 = .ok (.i2c, 1) := by decide +kernel
theorem dJ1_charAt_3b067_14 : decode cJ1_charAt_3b067 14 = .ok (.ireturn, 1) := by decide +kernel
theorem dJ2_getChar_3b067_0 : decode cJ2_getChar_3b067 0 = .ok (.getstatic 44, 3) := by decide +kernel
theorem dJ2_getChar_3b067_3 : decode cJ2_getChar_3b067 3 = .ok (.ifCond .ne 25, 3) := by decide +kernel
theorem dJ2_getChar_3b067_6 : decode cJ2_getChar_3b067 6 = .ok (.iload_n 1, 1) := by decide +kernel
theorem dJ2_getChar_3b067_7 : decode cJ2_getChar_3b067 7 = .ok (.ifCond .lt 11, 3) := by decide +kernel
theorem dJ2_getChar_3b067_10 : decode cJ2_getChar_3b067 10 = .ok (.iload_n 1, 1) := by decide +kernel
theorem dJ2_getChar_3b067_11 : decode cJ2_getChar_3b067 11 = .ok (.aload_n 0, 1) := by decide +kernel
theorem dJ2_getChar_3b067_12 : decode cJ2_getChar_3b067 12 = .ok (.invokestatic 48, 3) := by decide +kernel
theorem dJ2_getChar_3b067_15 : decode cJ2_getChar_3b067 15 = .ok (.if_icmp .lt 13, 3) := by decide +kernel
theorem dJ2_getChar_3b067_18 : decode cJ2_getChar_3b067 18 = .ok (.new 52, 3) := by decide +kernel
theorem dJ2_getChar_3b067_21 : decode cJ2_getChar_3b067 21 = .ok (.dup, 1) := by decide +kernel
theorem dJ2_getChar_3b067_22 : decode cJ2_getChar_3b067 22 = .ok (.ldc 54, 2) := by decide +kernel
theorem dJ2_getChar_3b067_24 : decode cJ2_getChar_3b067 24 = .ok (.invokespecial 56, 3) := by decide +kernel
theorem dJ2_getChar_3b067_27 : decode cJ2_getChar_3b067 27 = .ok (.athrow, 1) := by decide +kernel
theorem dJ2_getChar_3b067_28 : decode cJ2_getChar_3b067 28 = .ok (.iload_n 1, 1) := by decide +kernel
theorem dJ2_getChar_3b067_29 : decode cJ2_getChar_3b067 29 = .ok (.iconst 1, 1) := by decide +kernel
theorem dJ2_getChar_3b067_30 : decode cJ2_getChar_3b067 30 = .ok (.ishl, 1) := by decide +kernel
theorem dJ2_getChar_3b067_31 : decode cJ2_getChar_3b067 31 = .ok (.istore_n 1, 1) := by decide +kernel
theorem dJ2_getChar_3b067_32 : decode cJ2_getChar_3b067 32 = .ok (.aload_n 0, 1) := by decide +kernel
theorem dJ2_getChar_3b067_33 : decode cJ2_getChar_3b067 33 = .ok (.iload_n 1, 1) := by decide +kernel
theorem dJ2_getChar_3b067_34 : decode cJ2_getChar_3b067 34 = .ok (.iinc 1 1, 3) := by decide +kernel
theorem dJ2_getChar_3b067_37 : decode cJ2_getChar_3b067 37 = .ok (.baload, 1) := by decide +kernel
theorem dJ2_getChar_3b067_38 : decode cJ2_getChar_3b067 38 = .ok (.sipush 255, 3) := by decide +kernel
theorem dJ2_getChar_3b067_41 : decode cJ2_getChar_3b067 41 = .ok (.iand, 1) := by decide +kernel
theorem dJ2_getChar_3b067_42 : decode cJ2_getChar_3b067 42 = .ok (.getstatic 59, 3) := by decide +kernel
theorem dJ2_getChar_3b067_45 : decode cJ2_getChar_3b067 45 = .ok (.ishl, 1) := by decide +kernel
theorem dJ2_getChar_3b067_46 : decode cJ2_getChar_3b067 46 = .ok (.aload_n 0, 1) := by decide +kernel
theorem dJ2_getChar_3b067_47 : decode cJ2_getChar_3b067 47 = .ok (.iload_n 1, 1) := by decide +kernel
theorem dJ2_getChar_3b067_48 : decode cJ2_getChar_3b067 48 = .ok (.baload, 1) := by decide +kernel
theorem dJ2_getChar_3b067_49 : decode cJ2_getChar_3b067 49 = .ok (.sipush 255, 3) := by decide +kernel
theorem dJ2_getChar_3b067_52 : decode cJ2_getChar_3b067 52 = .ok (.iand, 1) := by decide +kernel
theorem dJ2_getChar_3b067_53 : decode cJ2_getChar_3b067 53 = .ok (.getstatic 63, 3) := by decide +kernel
theorem dJ2_getChar_3b067_56 : decode cJ2_getChar_3b067 56 = .ok (.ishl, 1) := by decide +kernel
theorem dJ2_getChar_3b067_57 : decode cJ2_getChar_3b067 57 = .ok (.ior, 1) := by decide +kernel
theorem dJ2_getChar_3b067_58 : decode cJ2_getChar_3b067 58 = .ok (.i2c, 1) := by decide +kernel
theorem dJ2_getChar_3b067_59 : decode cJ2_getChar_3b067 59 = .ok (.ireturn, 1) := by decide +kernel
theorem dJ2_length_9d52b_0 : decode cJ2_length_9d52b 0 = .ok (.aload_n 0, 1) := by decide +kernel
theorem dJ2_length_9d52b_1 : decode cJ2_length_9d52b 1 = .ok (.arraylength, 1) := by decide +kernel
theorem dJ2_length_9d52b_2 : decode cJ2_length_9d52b 2 = .ok (.iconst 1, 1) := by decide +kernel
theorem dJ2_length_9d52b_3 : decode cJ2_length_9d52b 3 = .ok (.ishr, 1) := by decide +kernel
theorem dJ2_length_9d52b_4 : decode cJ2_length_9d52b 4 = .ok (.ireturn, 1) := by decide +kernel
theorem dJ2_charAt_3b067_0 : decode cJ2_charAt_3b067 0 = .ok (.iload_n 1, 1) := by decide +kernel
theorem dJ2_charAt_3b067_1 : decode cJ2_charAt_3b067 1 = .ok (.aload_n 0, 1) := by decide +kernel
theorem dJ2_charAt_3b067_2 : decode cJ2_charAt_3b067 2 = .ok (.invokestatic 67, 3) := by decide +kernel
theorem dJ2_charAt_3b067_5 : decode cJ2_charAt_3b067 5 = .ok (.aload_n 0, 1) := by decide +kernel
theorem dJ2_charAt_3b067_6 : decode cJ2_charAt_3b067 6 = .ok (.iload_n 1, 1) := by decide +kernel
theorem dJ2_charAt_3b067_7 : decode cJ2_charAt_3b067 7 = .ok (.invokestatic 71, 3) := by decide +kernel
theorem dJ2_charAt_3b067_10 : decode cJ2_charAt_3b067 10 = .ok (.ireturn, 1) := by decide +kernel
theorem dJ2_checkIndex_2214a_0 : decode cJ2_checkIndex_2214a 0 = .ok (.iload_n 0, 1) := by decide +kernel
theorem dJ2_checkIndex_2214a_1 : decode cJ2_checkIndex_2214a 1 = .ok (.aload_n 1, 1) := by decide +kernel
theorem dJ2_checkIndex_2214a_2 : decode cJ2_checkIndex_2214a 2 = .ok (.invokestatic 48, 3) := by decide +kernel
theorem dJ2_checkIndex_2214a_5 : decode cJ2_checkIndex_2214a 5 = .ok (.invokestatic 414, 3) := by decide +kernel
theorem dJ2_checkIndex_2214a_8 : decode cJ2_checkIndex_2214a 8 = .ok (.return_, 1) := by decide +kernel
theorem dJ3_checkIndex_8e157_0 : decode cJ3_checkIndex_8e157 0 = .ok (.iload_n 0, 1) := by decide +kernel
theorem dJ3_checkIndex_8e157_1 : decode cJ3_checkIndex_8e157 1 = .ok (.ifCond .lt 8, 3) := by decide +kernel
theorem dJ3_checkIndex_8e157_4 : decode cJ3_checkIndex_8e157 4 = .ok (.iload_n 0, 1) := by decide +kernel
theorem dJ3_checkIndex_8e157_5 : decode cJ3_checkIndex_8e157 5 = .ok (.iload_n 1, 1) := by decide +kernel
theorem dJ3_checkIndex_8e157_6 : decode cJ3_checkIndex_8e157 6 = .ok (.if_icmp .lt 10, 3) := by decide +kernel
theorem dJ3_checkIndex_8e157_9 : decode cJ3_checkIndex_8e157 9 = .ok (.aload_n 2, 1) := by decide +kernel
theorem dJ3_checkIndex_8e157_10 : decode cJ3_checkIndex_8e157 10 = .ok (.iload_n 0, 1) := by decide +kernel
theorem dJ3_checkIndex_8e157_11 : decode cJ3_checkIndex_8e157 11 = .ok (.iload_n 1, 1) := by decide +kernel
theorem dJ3_checkIndex_8e157_12 : decode cJ3_checkIndex_8e157 12 = .ok (.invokestatic 95, 3) := by decide +kernel
theorem dJ3_checkIndex_8e157_15 : decode cJ3_checkIndex_8e157 15 = .ok (.athrow, 1) := by decide +kernel
theorem dJ3_checkIndex_8e157_16 : decode cJ3_checkIndex_8e157 16 = .ok (.iload_n 0, 1) := by decide +kernel
theorem dJ3_checkIndex_8e157_17 : decode cJ3_checkIndex_8e157 17 = .ok (.ireturn, 1) := by decide +kernel
theorem dL_law_0 : decode cL_law 0 = .ok (.new 7, 3) := by decide +kernel
theorem dL_law_3 : decode cL_law 3 = .ok (.dup, 1) := by decide +kernel
theorem dL_law_4 : decode cL_law 4 = .ok (.invokespecial 9, 3) := by decide +kernel
theorem dL_law_7 : decode cL_law 7 = .ok (.astore_n 1, 1) := by decide +kernel
theorem dL_law_8 : decode cL_law 8 = .ok (.new 10, 3) := by decide +kernel
theorem dL_law_11 : decode cL_law 11 = .ok (.dup, 1) := by decide +kernel
theorem dL_law_12 : decode cL_law 12 = .ok (.invokespecial 12, 3) := by decide +kernel
theorem dL_law_15 : decode cL_law 15 = .ok (.astore_n 2, 1) := by decide +kernel
theorem dL_law_16 : decode cL_law 16 = .ok (.iconst 0, 1) := by decide +kernel
theorem dL_law_17 : decode cL_law 17 = .ok (.istore_n 3, 1) := by decide +kernel
theorem dL_law_18 : decode cL_law 18 = .ok (.iload_n 3, 1) := by decide +kernel
theorem dL_law_19 : decode cL_law 19 = .ok (.aload_n 0, 1) := by decide +kernel
theorem dL_law_20 : decode cL_law 20 = .ok (.arraylength, 1) := by decide +kernel
theorem dL_law_21 : decode cL_law 21 = .ok (.iconst 4, 1) := by decide +kernel
theorem dL_law_22 : decode cL_law 22 = .ok (.isub, 1) := by decide +kernel
theorem dL_law_23 : decode cL_law 23 = .ok (.if_icmp .gt 712, 3) := by decide +kernel
theorem dL_law_26 : decode cL_law 26 = .ok (.aload_n 0, 1) := by decide +kernel
theorem dL_law_27 : decode cL_law 27 = .ok (.iload_n 3, 1) := by decide +kernel
theorem dL_law_28 : decode cL_law 28 = .ok (.iaload, 1) := by decide +kernel
theorem dL_law_29 : decode cL_law 29 = .ok (.bipush 31, 2) := by decide +kernel
theorem dL_law_31 : decode cL_law 31 = .ok (.iand, 1) := by decide +kernel
theorem dL_law_32 : decode cL_law 32 = .ok (.tableswitch 697 0 22 #[108, 131, 144, 157, 170, 193, 236, 269, 302, 325, 368, 391, 404, 427, 450, 483, 506, 549, 582, 595, 608, 641, 674], 108) := by decide +kernel
theorem dL_law_140 : decode cL_law 140 = .ok (.aload_n 1, 1) := by decide +kernel
theorem dL_law_141 : decode cL_law 141 = .ok (.aload_n 0, 1) := by decide +kernel
theorem dL_law_142 : decode cL_law 142 = .ok (.iload_n 3, 1) := by decide +kernel
theorem dL_law_143 : decode cL_law 143 = .ok (.iconst 1, 1) := by decide +kernel
theorem dL_law_144 : decode cL_law 144 = .ok (.iadd, 1) := by decide +kernel
theorem dL_law_145 : decode cL_law 145 = .ok (.iaload, 1) := by decide +kernel
theorem dL_law_146 : decode cL_law 146 = .ok (.invokevirtual 13, 3) := by decide +kernel
theorem dL_law_149 : decode cL_law 149 = .ok (.aload_n 2, 1) := by decide +kernel
theorem dL_law_150 : decode cL_law 150 = .ok (.aload_n 0, 1) := by decide +kernel
theorem dL_law_151 : decode cL_law 151 = .ok (.iload_n 3, 1) := by decide +kernel
theorem dL_law_152 : decode cL_law 152 = .ok (.iconst 1, 1) := by decide +kernel
theorem dL_law_153 : decode cL_law 153 = .ok (.iadd, 1) := by decide +kernel
theorem dL_law_154 : decode cL_law 154 = .ok (.iaload, 1) := by decide +kernel
theorem dL_law_155 : decode cL_law 155 = .ok (.invokevirtual 17, 3) := by decide +kernel
theorem dL_law_158 : decode cL_law 158 = .ok (.if_icmp .eq 571, 3) := by decide +kernel
theorem dL_law_161 : decode cL_law 161 = .ok (.iconst 0, 1) := by decide +kernel
theorem dL_law_162 : decode cL_law 162 = .ok (.ireturn, 1) := by decide +kernel
theorem dL_law_163 : decode cL_law 163 = .ok (.aload_n 1, 1) := by decide +kernel
theorem dL_law_164 : decode cL_law 164 = .ok (.invokevirtual 18, 3) := by decide +kernel
theorem dL_law_167 : decode cL_law 167 = .ok (.aload_n 2, 1) := by decide +kernel
theorem dL_law_168 : decode cL_law 168 = .ok (.invokevirtual 22, 3) := by decide +kernel
theorem dL_law_171 : decode cL_law 171 = .ok (.if_icmp .eq 558, 3) := by decide +kernel
theorem dL_law_174 : decode cL_law 174 = .ok (.iconst 0, 1) := by decide +kernel
theorem dL_law_175 : decode cL_law 175 = .ok (.ireturn, 1) := by decide +kernel
theorem dL_law_176 : decode cL_law 176 = .ok (.aload_n 1, 1) := by decide +kernel
theorem dL_law_177 : decode cL_law 177 = .ok (.invokevirtual 23, 3) := by decide +kernel
theorem dL_law_180 : decode cL_law 180 = .ok (.aload_n 2, 1) := by decide +kernel
theorem dL_law_181 : decode cL_law 181 = .ok (.invokevirtual 26, 3) := by decide +kernel
theorem dL_law_184 : decode cL_law 184 = .ok (.if_icmp .eq 545, 3) := by decide +kernel
theorem dL_law_187 : decode cL_law 187 = .ok (.iconst 0, 1) := by decide +kernel
theorem dL_law_188 : decode cL_law 188 = .ok (.ireturn, 1) := by decide +kernel
theorem dL_law_189 : decode cL_law 189 = .ok (.aload_n 1, 1) := by decide +kernel
theorem dL_law_190 : decode cL_law 190 = .ok (.invokevirtual 27, 3) := by decide +kernel
theorem dL_law_193 : decode cL_law 193 = .ok (.aload_n 2, 1) := by decide +kernel
theorem dL_law_194 : decode cL_law 194 = .ok (.invokevirtual 30, 3) := by decide +kernel
theorem dL_law_197 : decode cL_law 197 = .ok (.if_icmp .eq 532, 3) := by decide +kernel
theorem dL_law_200 : decode cL_law 200 = .ok (.iconst 0, 1) := by decide +kernel
theorem dL_law_201 : decode cL_law 201 = .ok (.ireturn, 1) := by decide +kernel
theorem dL_law_202 : decode cL_law 202 = .ok (.aload_n 1, 1) := by decide +kernel
theorem dL_law_203 : decode cL_law 203 = .ok (.aload_n 0, 1) := by decide +kernel
theorem dL_law_204 : decode cL_law 204 = .ok (.iload_n 3, 1) := by decide +kernel
theorem dL_law_205 : decode cL_law 205 = .ok (.iconst 1, 1) := by decide +kernel
theorem dL_law_206 : decode cL_law 206 = .ok (.iadd, 1) := by decide +kernel
theorem dL_law_207 : decode cL_law 207 = .ok (.iaload, 1) := by decide +kernel
theorem dL_law_208 : decode cL_law 208 = .ok (.invokevirtual 31, 3) := by decide +kernel
theorem dL_law_211 : decode cL_law 211 = .ok (.aload_n 2, 1) := by decide +kernel
theorem dL_law_212 : decode cL_law 212 = .ok (.aload_n 0, 1) := by decide +kernel
theorem dL_law_213 : decode cL_law 213 = .ok (.iload_n 3, 1) := by decide +kernel
theorem dL_law_214 : decode cL_law 214 = .ok (.iconst 1, 1) := by decide +kernel
theorem dL_law_215 : decode cL_law 215 = .ok (.iadd, 1) := by decide +kernel
theorem dL_law_216 : decode cL_law 216 = .ok (.iaload, 1) := by decide +kernel
theorem dL_law_217 : decode cL_law 217 = .ok (.invokevirtual 34, 3) := by decide +kernel
theorem dL_law_220 : decode cL_law 220 = .ok (.if_icmp .eq 509, 3) := by decide +kernel
theorem dL_law_223 : decode cL_law 223 = .ok (.iconst 0, 1) := by decide +kernel
theorem dL_law_224 : decode cL_law 224 = .ok (.ireturn, 1) := by decide +kernel
theorem dL_law_225 : decode cL_law 225 = .ok (.aload_n 1, 1) := by decide +kernel
theorem dL_law_226 : decode cL_law 226 = .ok (.aload_n 0, 1) := by decide +kernel
theorem dL_law_227 : decode cL_law 227 = .ok (.iload_n 3, 1) := by decide +kernel
theorem dL_law_228 : decode cL_law 228 = .ok (.iconst 1, 1) := by decide +kernel
theorem dL_law_229 : decode cL_law 229 = .ok (.iadd, 1) := by decide +kernel
theorem dL_law_230 : decode cL_law 230 = .ok (.iaload, 1) := by decide +kernel
theorem dL_law_231 : decode cL_law 231 = .ok (.aload_n 0, 1) := by decide +kernel
theorem dL_law_232 : decode cL_law 232 = .ok (.iload_n 3, 1) := by decide +kernel
theorem dL_law_233 : decode cL_law 233 = .ok (.iconst 2, 1) := by decide +kernel
theorem dL_law_234 : decode cL_law 234 = .ok (.iadd, 1) := by decide +kernel
theorem dL_law_235 : decode cL_law 235 = .ok (.iaload, 1) := by decide +kernel
theorem dL_law_236 : decode cL_law 236 = .ok (.aload_n 0, 1) := by decide +kernel
theorem dL_law_237 : decode cL_law 237 = .ok (.iload_n 3, 1) := by decide +kernel
theorem dL_law_238 : decode cL_law 238 = .ok (.iconst 3, 1) := by decide +kernel
theorem dL_law_239 : decode cL_law 239 = .ok (.iadd, 1) := by decide +kernel
theorem dL_law_240 : decode cL_law 240 = .ok (.iaload, 1) := by decide +kernel
theorem dL_law_241 : decode cL_law 241 = .ok (.invokevirtual 35, 3) := by decide +kernel
theorem dL_law_244 : decode cL_law 244 = .ok (.aload_n 2, 1) := by decide +kernel
theorem dL_law_245 : decode cL_law 245 = .ok (.aload_n 0, 1) := by decide +kernel
theorem dL_law_246 : decode cL_law 246 = .ok (.iload_n 3, 1) := by decide +kernel
theorem dL_law_247 : decode cL_law 247 = .ok (.iconst 1, 1) := by decide +kernel
theorem dL_law_248 : decode cL_law 248 = .ok (.iadd, 1) := by decide +kernel
theorem dL_law_249 : decode cL_law 249 = .ok (.iaload, 1) := by decide +kernel
theorem dL_law_250 : decode cL_law 250 = .ok (.aload_n 0, 1) := by decide +kernel
theorem dL_law_251 : decode cL_law 251 = .ok (.iload_n 3, 1) := by decide +kernel
theorem dL_law_252 : decode cL_law 252 = .ok (.iconst 2, 1) := by decide +kernel
theorem dL_law_253 : decode cL_law 253 = .ok (.iadd, 1) := by decide +kernel
theorem dL_law_254 : decode cL_law 254 = .ok (.iaload, 1) := by decide +kernel
theorem dL_law_255 : decode cL_law 255 = .ok (.aload_n 0, 1) := by decide +kernel
theorem dL_law_256 : decode cL_law 256 = .ok (.iload_n 3, 1) := by decide +kernel
theorem dL_law_257 : decode cL_law 257 = .ok (.iconst 3, 1) := by decide +kernel
theorem dL_law_258 : decode cL_law 258 = .ok (.iadd, 1) := by decide +kernel
theorem dL_law_259 : decode cL_law 259 = .ok (.iaload, 1) := by decide +kernel
theorem dL_law_260 : decode cL_law 260 = .ok (.invokevirtual 39, 3) := by decide +kernel
theorem dL_law_263 : decode cL_law 263 = .ok (.if_icmp .eq 466, 3) := by decide +kernel
theorem dL_law_266 : decode cL_law 266 = .ok (.iconst 0, 1) := by decide +kernel
theorem dL_law_267 : decode cL_law 267 = .ok (.ireturn, 1) := by decide +kernel
theorem dL_law_268 : decode cL_law 268 = .ok (.aload_n 1, 1) := by decide +kernel
theorem dL_law_269 : decode cL_law 269 = .ok (.aload_n 0, 1) := by decide +kernel
theorem dL_law_270 : decode cL_law 270 = .ok (.iload_n 3, 1) := by decide +kernel
theorem dL_law_271 : decode cL_law 271 = .ok (.iconst 1, 1) := by decide +kernel
theorem dL_law_272 : decode cL_law 272 = .ok (.iadd, 1) := by decide +kernel
theorem dL_law_273 : decode cL_law 273 = .ok (.iaload, 1) := by decide +kernel
theorem dL_law_274 : decode cL_law 274 = .ok (.aload_n 0, 1) := by decide +kernel
theorem dL_law_275 : decode cL_law 275 = .ok (.iload_n 3, 1) := by decide +kernel
theorem dL_law_276 : decode cL_law 276 = .ok (.iconst 2, 1) := by decide +kernel
theorem dL_law_277 : decode cL_law 277 = .ok (.iadd, 1) := by decide +kernel
theorem dL_law_278 : decode cL_law 278 = .ok (.iaload, 1) := by decide +kernel
theorem dL_law_279 : decode cL_law 279 = .ok (.invokevirtual 40, 3) := by decide +kernel
theorem dL_law_282 : decode cL_law 282 = .ok (.aload_n 2, 1) := by decide +kernel
theorem dL_law_283 : decode cL_law 283 = .ok (.aload_n 0, 1) := by decide +kernel
theorem dL_law_284 : decode cL_law 284 = .ok (.iload_n 3, 1) := by decide +kernel
theorem dL_law_285 : decode cL_law 285 = .ok (.iconst 1, 1) := by decide +kernel
theorem dL_law_286 : decode cL_law 286 = .ok (.iadd, 1) := by decide +kernel
theorem dL_law_287 : decode cL_law 287 = .ok (.iaload, 1) := by decide +kernel
theorem dL_law_288 : decode cL_law 288 = .ok (.aload_n 0, 1) := by decide +kernel
theorem dL_law_289 : decode cL_law 289 = .ok (.iload_n 3, 1) := by decide +kernel
theorem dL_law_290 : decode cL_law 290 = .ok (.iconst 2, 1) := by decide +kernel
theorem dL_law_291 : decode cL_law 291 = .ok (.iadd, 1) := by decide +kernel
theorem dL_law_292 : decode cL_law 292 = .ok (.iaload, 1) := by decide +kernel
theorem dL_law_293 : decode cL_law 293 = .ok (.invokevirtual 44, 3) := by decide +kernel
theorem dL_law_296 : decode cL_law 296 = .ok (.if_icmp .eq 433, 3) := by decide +kernel
theorem dL_law_299 : decode cL_law 299 = .ok (.iconst 0, 1) := by decide +kernel
theorem dL_law_300 : decode cL_law 300 = .ok (.ireturn, 1) := by decide +kernel
theorem dL_law_301 : decode cL_law 301 = .ok (.aload_n 1, 1) := by decide +kernel
theorem dL_law_302 : decode cL_law 302 = .ok (.aload_n 0, 1) := by decide +kernel
theorem dL_law_303 : decode cL_law 303 = .ok (.iload_n 3, 1) := by decide +kernel
theorem dL_law_304 : decode cL_law 304 = .ok (.iconst 1, 1) := by decide +kernel
theorem dL_law_305 : decode cL_law 305 = .ok (.iadd, 1) := by decide +kernel
theorem dL_law_306 : decode cL_law 306 = .ok (.iaload, 1) := by decide +kernel
theorem dL_law_307 : decode cL_law 307 = .ok (.aload_n 0, 1) := by decide +kernel
theorem dL_law_308 : decode cL_law 308 = .ok (.iload_n 3, 1) := by decide +kernel
theorem dL_law_309 : decode cL_law 309 = .ok (.iconst 2, 1) := by decide +kernel
theorem dL_law_310 : decode cL_law 310 = .ok (.iadd, 1) := by decide +kernel
theorem dL_law_311 : decode cL_law 311 = .ok (.iaload, 1) := by decide +kernel
theorem dL_law_312 : decode cL_law 312 = .ok (.invokevirtual 45, 3) := by decide +kernel
theorem dL_law_315 : decode cL_law 315 = .ok (.aload_n 2, 1) := by decide +kernel
theorem dL_law_316 : decode cL_law 316 = .ok (.aload_n 0, 1) := by decide +kernel
theorem dL_law_317 : decode cL_law 317 = .ok (.iload_n 3, 1) := by decide +kernel
theorem dL_law_318 : decode cL_law 318 = .ok (.iconst 1, 1) := by decide +kernel
theorem dL_law_319 : decode cL_law 319 = .ok (.iadd, 1) := by decide +kernel
theorem dL_law_320 : decode cL_law 320 = .ok (.iaload, 1) := by decide +kernel
theorem dL_law_321 : decode cL_law 321 = .ok (.aload_n 0, 1) := by decide +kernel
theorem dL_law_322 : decode cL_law 322 = .ok (.iload_n 3, 1) := by decide +kernel
theorem dL_law_323 : decode cL_law 323 = .ok (.iconst 2, 1) := by decide +kernel
theorem dL_law_324 : decode cL_law 324 = .ok (.iadd, 1) := by decide +kernel
theorem dL_law_325 : decode cL_law 325 = .ok (.iaload, 1) := by decide +kernel
theorem dL_law_326 : decode cL_law 326 = .ok (.invokevirtual 48, 3) := by decide +kernel
theorem dL_law_329 : decode cL_law 329 = .ok (.if_icmp .eq 400, 3) := by decide +kernel
theorem dL_law_332 : decode cL_law 332 = .ok (.iconst 0, 1) := by decide +kernel
theorem dL_law_333 : decode cL_law 333 = .ok (.ireturn, 1) := by decide +kernel
theorem dL_law_334 : decode cL_law 334 = .ok (.aload_n 1, 1) := by decide +kernel
theorem dL_law_335 : decode cL_law 335 = .ok (.aload_n 0, 1) := by decide +kernel
theorem dL_law_336 : decode cL_law 336 = .ok (.iload_n 3, 1) := by decide +kernel
theorem dL_law_337 : decode cL_law 337 = .ok (.iconst 1, 1) := by decide +kernel
theorem dL_law_338 : decode cL_law 338 = .ok (.iadd, 1) := by decide +kernel
theorem dL_law_339 : decode cL_law 339 = .ok (.iaload, 1) := by decide +kernel
theorem dL_law_340 : decode cL_law 340 = .ok (.invokevirtual 49, 3) := by decide +kernel
theorem dL_law_343 : decode cL_law 343 = .ok (.aload_n 2, 1) := by decide +kernel
theorem dL_law_344 : decode cL_law 344 = .ok (.aload_n 0, 1) := by decide +kernel
theorem dL_law_345 : decode cL_law 345 = .ok (.iload_n 3, 1) := by decide +kernel
theorem dL_law_346 : decode cL_law 346 = .ok (.iconst 1, 1) := by decide +kernel
theorem dL_law_347 : decode cL_law 347 = .ok (.iadd, 1) := by decide +kernel
theorem dL_law_348 : decode cL_law 348 = .ok (.iaload, 1) := by decide +kernel
theorem dL_law_349 : decode cL_law 349 = .ok (.invokevirtual 52, 3) := by decide +kernel
theorem dL_law_352 : decode cL_law 352 = .ok (.if_icmp .eq 377, 3) := by decide +kernel
theorem dL_law_355 : decode cL_law 355 = .ok (.iconst 0, 1) := by decide +kernel
theorem dL_law_356 : decode cL_law 356 = .ok (.ireturn, 1) := by decide +kernel
theorem dL_law_357 : decode cL_law 357 = .ok (.aload_n 1, 1) := by decide +kernel
theorem dL_law_358 : decode cL_law 358 = .ok (.aload_n 0, 1) := by decide +kernel
theorem dL_law_359 : decode cL_law 359 = .ok (.iload_n 3, 1) := by decide +kernel
theorem dL_law_360 : decode cL_law 360 = .ok (.iconst 1, 1) := by decide +kernel
theorem dL_law_361 : decode cL_law 361 = .ok (.iadd, 1) := by decide +kernel
theorem dL_law_362 : decode cL_law 362 = .ok (.iaload, 1) := by decide +kernel
theorem dL_law_363 : decode cL_law 363 = .ok (.aload_n 0, 1) := by decide +kernel
theorem dL_law_364 : decode cL_law 364 = .ok (.iload_n 3, 1) := by decide +kernel
theorem dL_law_365 : decode cL_law 365 = .ok (.iconst 2, 1) := by decide +kernel
theorem dL_law_366 : decode cL_law 366 = .ok (.iadd, 1) := by decide +kernel
theorem dL_law_367 : decode cL_law 367 = .ok (.iaload, 1) := by decide +kernel
theorem dL_law_368 : decode cL_law 368 = .ok (.aload_n 0, 1) := by decide +kernel
theorem dL_law_369 : decode cL_law 369 = .ok (.iload_n 3, 1) := by decide +kernel
theorem dL_law_370 : decode cL_law 370 = .ok (.iconst 3, 1) := by decide +kernel
theorem dL_law_371 : decode cL_law 371 = .ok (.iadd, 1) := by decide +kernel
theorem dL_law_372 : decode cL_law 372 = .ok (.iaload, 1) := by decide +kernel
theorem dL_law_373 : decode cL_law 373 = .ok (.invokevirtual 53, 3) := by decide +kernel
theorem dL_law_376 : decode cL_law 376 = .ok (.aload_n 2, 1) := by decide +kernel
theorem dL_law_377 : decode cL_law 377 = .ok (.aload_n 0, 1) := by decide +kernel
theorem dL_law_378 : decode cL_law 378 = .ok (.iload_n 3, 1) := by decide +kernel
theorem dL_law_379 : decode cL_law 379 = .ok (.iconst 1, 1) := by decide +kernel
theorem dL_law_380 : decode cL_law 380 = .ok (.iadd, 1) := by decide +kernel
theorem dL_law_381 : decode cL_law 381 = .ok (.iaload, 1) := by decide +kernel
theorem dL_law_382 : decode cL_law 382 = .ok (.aload_n 0, 1) := by decide +kernel
theorem dL_law_383 : decode cL_law 383 = .ok (.iload_n 3, 1) := by decide +kernel
theorem dL_law_384 : decode cL_law 384 = .ok (.iconst 2, 1) := by decide +kernel
theorem dL_law_385 : decode cL_law 385 = .ok (.iadd, 1) := by decide +kernel
theorem dL_law_386 : decode cL_law 386 = .ok (.iaload, 1) := by decide +kernel
theorem dL_law_387 : decode cL_law 387 = .ok (.aload_n 0, 1) := by decide +kernel
theorem dL_law_388 : decode cL_law 388 = .ok (.iload_n 3, 1) := by decide +kernel
theorem dL_law_389 : decode cL_law 389 = .ok (.iconst 3, 1) := by decide +kernel
theorem dL_law_390 : decode cL_law 390 = .ok (.iadd, 1) := by decide +kernel
theorem dL_law_391 : decode cL_law 391 = .ok (.iaload, 1) := by decide +kernel
theorem dL_law_392 : decode cL_law 392 = .ok (.invokevirtual 56, 3) := by decide +kernel
theorem dL_law_395 : decode cL_law 395 = .ok (.if_icmp .eq 334, 3) := by decide +kernel
theorem dL_law_398 : decode cL_law 398 = .ok (.iconst 0, 1) := by decide +kernel
theorem dL_law_399 : decode cL_law 399 = .ok (.ireturn, 1) := by decide +kernel
theorem dL_law_400 : decode cL_law 400 = .ok (.aload_n 1, 1) := by decide +kernel
theorem dL_law_401 : decode cL_law 401 = .ok (.aload_n 0, 1) := by decide +kernel
theorem dL_law_402 : decode cL_law 402 = .ok (.iload_n 3, 1) := by decide +kernel
theorem dL_law_403 : decode cL_law 403 = .ok (.iconst 1, 1) := by decide +kernel
theorem dL_law_404 : decode cL_law 404 = .ok (.iadd, 1) := by decide +kernel
theorem dL_law_405 : decode cL_law 405 = .ok (.iaload, 1) := by decide +kernel
theorem dL_law_406 : decode cL_law 406 = .ok (.invokevirtual 57, 3) := by decide +kernel
theorem dL_law_409 : decode cL_law 409 = .ok (.aload_n 2, 1) := by decide +kernel
theorem dL_law_410 : decode cL_law 410 = .ok (.aload_n 0, 1) := by decide +kernel
theorem dL_law_411 : decode cL_law 411 = .ok (.iload_n 3, 1) := by decide +kernel
theorem dL_law_412 : decode cL_law 412 = .ok (.iconst 1, 1) := by decide +kernel
theorem dL_law_413 : decode cL_law 413 = .ok (.iadd, 1) := by decide +kernel
theorem dL_law_414 : decode cL_law 414 = .ok (.iaload, 1) := by decide +kernel
theorem dL_law_415 : decode cL_law 415 = .ok (.invokevirtual 60, 3) := by decide +kernel
theorem dL_law_418 : decode cL_law 418 = .ok (.if_icmp .eq 311, 3) := by decide +kernel
theorem dL_law_421 : decode cL_law 421 = .ok (.iconst 0, 1) := by decide +kernel
theorem dL_law_422 : decode cL_law 422 = .ok (.ireturn, 1) := by decide +kernel
theorem dL_law_423 : decode cL_law 423 = .ok (.aload_n 1, 1) := by decide +kernel
theorem dL_law_424 : decode cL_law 424 = .ok (.invokevirtual 61, 3) := by decide +kernel
theorem dL_law_427 : decode cL_law 427 = .ok (.aload_n 2, 1) := by decide +kernel
theorem dL_law_428 : decode cL_law 428 = .ok (.invokevirtual 64, 3) := by decide +kernel
theorem dL_law_431 : decode cL_law 431 = .ok (.if_icmp .eq 298, 3) := by decide +kernel
theorem dL_law_434 : decode cL_law 434 = .ok (.iconst 0, 1) := by decide +kernel
theorem dL_law_435 : decode cL_law 435 = .ok (.ireturn, 1) := by decide +kernel
theorem dL_law_436 : decode cL_law 436 = .ok (.aload_n 1, 1) := by decide +kernel
theorem dL_law_437 : decode cL_law 437 = .ok (.aload_n 0, 1) := by decide +kernel
theorem dL_law_438 : decode cL_law 438 = .ok (.iload_n 3, 1) := by decide +kernel
theorem dL_law_439 : decode cL_law 439 = .ok (.iconst 1, 1) := by decide +kernel
theorem dL_law_440 : decode cL_law 440 = .ok (.iadd, 1) := by decide +kernel
theorem dL_law_441 : decode cL_law 441 = .ok (.iaload, 1) := by decide +kernel
theorem dL_law_442 : decode cL_law 442 = .ok (.invokevirtual 65, 3) := by decide +kernel
theorem dL_law_445 : decode cL_law 445 = .ok (.aload_n 2, 1) := by decide +kernel
theorem dL_law_446 : decode cL_law 446 = .ok (.aload_n 0, 1) := by decide +kernel
theorem dL_law_447 : decode cL_law 447 = .ok (.iload_n 3, 1) := by decide +kernel
theorem dL_law_448 : decode cL_law 448 = .ok (.iconst 1, 1) := by decide +kernel
theorem dL_law_449 : decode cL_law 449 = .ok (.iadd, 1) := by decide +kernel
theorem dL_law_450 : decode cL_law 450 = .ok (.iaload, 1) := by decide +kernel
theorem dL_law_451 : decode cL_law 451 = .ok (.invokevirtual 68, 3) := by decide +kernel
theorem dL_law_454 : decode cL_law 454 = .ok (.if_icmp .eq 275, 3) := by decide +kernel
theorem dL_law_457 : decode cL_law 457 = .ok (.iconst 0, 1) := by decide +kernel
theorem dL_law_458 : decode cL_law 458 = .ok (.ireturn, 1) := by decide +kernel
theorem dL_law_459 : decode cL_law 459 = .ok (.aload_n 1, 1) := by decide +kernel
theorem dL_law_460 : decode cL_law 460 = .ok (.aload_n 0, 1) := by decide +kernel
theorem dL_law_461 : decode cL_law 461 = .ok (.iload_n 3, 1) := by decide +kernel
theorem dL_law_462 : decode cL_law 462 = .ok (.iconst 1, 1) := by decide +kernel
theorem dL_law_463 : decode cL_law 463 = .ok (.iadd, 1) := by decide +kernel
theorem dL_law_464 : decode cL_law 464 = .ok (.iaload, 1) := by decide +kernel
theorem dL_law_465 : decode cL_law 465 = .ok (.invokevirtual 69, 3) := by decide +kernel
theorem dL_law_468 : decode cL_law 468 = .ok (.aload_n 2, 1) := by decide +kernel
theorem dL_law_469 : decode cL_law 469 = .ok (.aload_n 0, 1) := by decide +kernel
theorem dL_law_470 : decode cL_law 470 = .ok (.iload_n 3, 1) := by decide +kernel
theorem dL_law_471 : decode cL_law 471 = .ok (.iconst 1, 1) := by decide +kernel
theorem dL_law_472 : decode cL_law 472 = .ok (.iadd, 1) := by decide +kernel
theorem dL_law_473 : decode cL_law 473 = .ok (.iaload, 1) := by decide +kernel
theorem dL_law_474 : decode cL_law 474 = .ok (.invokevirtual 72, 3) := by decide +kernel
theorem dL_law_477 : decode cL_law 477 = .ok (.if_icmp .eq 252, 3) := by decide +kernel
theorem dL_law_480 : decode cL_law 480 = .ok (.iconst 0, 1) := by decide +kernel
theorem dL_law_481 : decode cL_law 481 = .ok (.ireturn, 1) := by decide +kernel
theorem dL_law_482 : decode cL_law 482 = .ok (.aload_n 1, 1) := by decide +kernel
theorem dL_law_483 : decode cL_law 483 = .ok (.aload_n 0, 1) := by decide +kernel
theorem dL_law_484 : decode cL_law 484 = .ok (.iload_n 3, 1) := by decide +kernel
theorem dL_law_485 : decode cL_law 485 = .ok (.iconst 1, 1) := by decide +kernel
theorem dL_law_486 : decode cL_law 486 = .ok (.iadd, 1) := by decide +kernel
theorem dL_law_487 : decode cL_law 487 = .ok (.iaload, 1) := by decide +kernel
theorem dL_law_488 : decode cL_law 488 = .ok (.aload_n 0, 1) := by decide +kernel
theorem dL_law_489 : decode cL_law 489 = .ok (.iload_n 3, 1) := by decide +kernel
theorem dL_law_490 : decode cL_law 490 = .ok (.iconst 2, 1) := by decide +kernel
theorem dL_law_491 : decode cL_law 491 = .ok (.iadd, 1) := by decide +kernel
theorem dL_law_492 : decode cL_law 492 = .ok (.iaload, 1) := by decide +kernel
theorem dL_law_493 : decode cL_law 493 = .ok (.invokevirtual 73, 3) := by decide +kernel
theorem dL_law_496 : decode cL_law 496 = .ok (.aload_n 2, 1) := by decide +kernel
theorem dL_law_497 : decode cL_law 497 = .ok (.aload_n 0, 1) := by decide +kernel
theorem dL_law_498 : decode cL_law 498 = .ok (.iload_n 3, 1) := by decide +kernel
theorem dL_law_499 : decode cL_law 499 = .ok (.iconst 1, 1) := by decide +kernel
theorem dL_law_500 : decode cL_law 500 = .ok (.iadd, 1) := by decide +kernel
theorem dL_law_501 : decode cL_law 501 = .ok (.iaload, 1) := by decide +kernel
theorem dL_law_502 : decode cL_law 502 = .ok (.aload_n 0, 1) := by decide +kernel
theorem dL_law_503 : decode cL_law 503 = .ok (.iload_n 3, 1) := by decide +kernel
theorem dL_law_504 : decode cL_law 504 = .ok (.iconst 2, 1) := by decide +kernel
theorem dL_law_505 : decode cL_law 505 = .ok (.iadd, 1) := by decide +kernel
theorem dL_law_506 : decode cL_law 506 = .ok (.iaload, 1) := by decide +kernel
theorem dL_law_507 : decode cL_law 507 = .ok (.invokevirtual 76, 3) := by decide +kernel
theorem dL_law_510 : decode cL_law 510 = .ok (.if_icmp .eq 219, 3) := by decide +kernel
theorem dL_law_513 : decode cL_law 513 = .ok (.iconst 0, 1) := by decide +kernel
theorem dL_law_514 : decode cL_law 514 = .ok (.ireturn, 1) := by decide +kernel
theorem dL_law_515 : decode cL_law 515 = .ok (.aload_n 1, 1) := by decide +kernel
theorem dL_law_516 : decode cL_law 516 = .ok (.aload_n 0, 1) := by decide +kernel
theorem dL_law_517 : decode cL_law 517 = .ok (.iload_n 3, 1) := by decide +kernel
theorem dL_law_518 : decode cL_law 518 = .ok (.iconst 1, 1) := by decide +kernel
theorem dL_law_519 : decode cL_law 519 = .ok (.iadd, 1) := by decide +kernel
theorem dL_law_520 : decode cL_law 520 = .ok (.iaload, 1) := by decide +kernel
theorem dL_law_521 : decode cL_law 521 = .ok (.invokevirtual 77, 3) := by decide +kernel
theorem dL_law_524 : decode cL_law 524 = .ok (.aload_n 2, 1) := by decide +kernel
theorem dL_law_525 : decode cL_law 525 = .ok (.aload_n 0, 1) := by decide +kernel
theorem dL_law_526 : decode cL_law 526 = .ok (.iload_n 3, 1) := by decide +kernel
theorem dL_law_527 : decode cL_law 527 = .ok (.iconst 1, 1) := by decide +kernel
theorem dL_law_528 : decode cL_law 528 = .ok (.iadd, 1) := by decide +kernel
theorem dL_law_529 : decode cL_law 529 = .ok (.iaload, 1) := by decide +kernel
theorem dL_law_530 : decode cL_law 530 = .ok (.invokevirtual 80, 3) := by decide +kernel
theorem dL_law_533 : decode cL_law 533 = .ok (.if_icmp .eq 196, 3) := by decide +kernel
theorem dL_law_536 : decode cL_law 536 = .ok (.iconst 0, 1) := by decide +kernel
theorem dL_law_537 : decode cL_law 537 = .ok (.ireturn, 1) := by decide +kernel
theorem dL_law_538 : decode cL_law 538 = .ok (.aload_n 1, 1) := by decide +kernel
theorem dL_law_539 : decode cL_law 539 = .ok (.aload_n 0, 1) := by decide +kernel
theorem dL_law_540 : decode cL_law 540 = .ok (.iload_n 3, 1) := by decide +kernel
theorem dL_law_541 : decode cL_law 541 = .ok (.iconst 1, 1) := by decide +kernel
theorem dL_law_542 : decode cL_law 542 = .ok (.iadd, 1) := by decide +kernel
theorem dL_law_543 : decode cL_law 543 = .ok (.iaload, 1) := by decide +kernel
theorem dL_law_544 : decode cL_law 544 = .ok (.aload_n 0, 1) := by decide +kernel
theorem dL_law_545 : decode cL_law 545 = .ok (.iload_n 3, 1) := by decide +kernel
theorem dL_law_546 : decode cL_law 546 = .ok (.iconst 2, 1) := by decide +kernel
theorem dL_law_547 : decode cL_law 547 = .ok (.iadd, 1) := by decide +kernel
theorem dL_law_548 : decode cL_law 548 = .ok (.iaload, 1) := by decide +kernel
theorem dL_law_549 : decode cL_law 549 = .ok (.aload_n 0, 1) := by decide +kernel
theorem dL_law_550 : decode cL_law 550 = .ok (.iload_n 3, 1) := by decide +kernel
theorem dL_law_551 : decode cL_law 551 = .ok (.iconst 3, 1) := by decide +kernel
theorem dL_law_552 : decode cL_law 552 = .ok (.iadd, 1) := by decide +kernel
theorem dL_law_553 : decode cL_law 553 = .ok (.iaload, 1) := by decide +kernel
theorem dL_law_554 : decode cL_law 554 = .ok (.invokevirtual 81, 3) := by decide +kernel
theorem dL_law_557 : decode cL_law 557 = .ok (.aload_n 2, 1) := by decide +kernel
theorem dL_law_558 : decode cL_law 558 = .ok (.aload_n 0, 1) := by decide +kernel
theorem dL_law_559 : decode cL_law 559 = .ok (.iload_n 3, 1) := by decide +kernel
theorem dL_law_560 : decode cL_law 560 = .ok (.iconst 1, 1) := by decide +kernel
theorem dL_law_561 : decode cL_law 561 = .ok (.iadd, 1) := by decide +kernel
theorem dL_law_562 : decode cL_law 562 = .ok (.iaload, 1) := by decide +kernel
theorem dL_law_563 : decode cL_law 563 = .ok (.aload_n 0, 1) := by decide +kernel
theorem dL_law_564 : decode cL_law 564 = .ok (.iload_n 3, 1) := by decide +kernel
theorem dL_law_565 : decode cL_law 565 = .ok (.iconst 2, 1) := by decide +kernel
theorem dL_law_566 : decode cL_law 566 = .ok (.iadd, 1) := by decide +kernel
theorem dL_law_567 : decode cL_law 567 = .ok (.iaload, 1) := by decide +kernel
theorem dL_law_568 : decode cL_law 568 = .ok (.aload_n 0, 1) := by decide +kernel
theorem dL_law_569 : decode cL_law 569 = .ok (.iload_n 3, 1) := by decide +kernel
theorem dL_law_570 : decode cL_law 570 = .ok (.iconst 3, 1) := by decide +kernel
theorem dL_law_571 : decode cL_law 571 = .ok (.iadd, 1) := by decide +kernel
theorem dL_law_572 : decode cL_law 572 = .ok (.iaload, 1) := by decide +kernel
theorem dL_law_573 : decode cL_law 573 = .ok (.invokevirtual 84, 3) := by decide +kernel
theorem dL_law_576 : decode cL_law 576 = .ok (.if_icmp .eq 153, 3) := by decide +kernel
theorem dL_law_579 : decode cL_law 579 = .ok (.iconst 0, 1) := by decide +kernel
theorem dL_law_580 : decode cL_law 580 = .ok (.ireturn, 1) := by decide +kernel
theorem dL_law_581 : decode cL_law 581 = .ok (.aload_n 1, 1) := by decide +kernel
theorem dL_law_582 : decode cL_law 582 = .ok (.aload_n 0, 1) := by decide +kernel
theorem dL_law_583 : decode cL_law 583 = .ok (.iload_n 3, 1) := by decide +kernel
theorem dL_law_584 : decode cL_law 584 = .ok (.iconst 1, 1) := by decide +kernel
theorem dL_law_585 : decode cL_law 585 = .ok (.iadd, 1) := by decide +kernel
theorem dL_law_586 : decode cL_law 586 = .ok (.iaload, 1) := by decide +kernel
theorem dL_law_587 : decode cL_law 587 = .ok (.aload_n 0, 1) := by decide +kernel
theorem dL_law_588 : decode cL_law 588 = .ok (.iload_n 3, 1) := by decide +kernel
theorem dL_law_589 : decode cL_law 589 = .ok (.iconst 2, 1) := by decide +kernel
theorem dL_law_590 : decode cL_law 590 = .ok (.iadd, 1) := by decide +kernel
theorem dL_law_591 : decode cL_law 591 = .ok (.iaload, 1) := by decide +kernel
theorem dL_law_592 : decode cL_law 592 = .ok (.invokevirtual 85, 3) := by decide +kernel
theorem dL_law_595 : decode cL_law 595 = .ok (.aload_n 2, 1) := by decide +kernel
theorem dL_law_596 : decode cL_law 596 = .ok (.aload_n 0, 1) := by decide +kernel
theorem dL_law_597 : decode cL_law 597 = .ok (.iload_n 3, 1) := by decide +kernel
theorem dL_law_598 : decode cL_law 598 = .ok (.iconst 1, 1) := by decide +kernel
theorem dL_law_599 : decode cL_law 599 = .ok (.iadd, 1) := by decide +kernel
theorem dL_law_600 : decode cL_law 600 = .ok (.iaload, 1) := by decide +kernel
theorem dL_law_601 : decode cL_law 601 = .ok (.aload_n 0, 1) := by decide +kernel
theorem dL_law_602 : decode cL_law 602 = .ok (.iload_n 3, 1) := by decide +kernel
theorem dL_law_603 : decode cL_law 603 = .ok (.iconst 2, 1) := by decide +kernel
theorem dL_law_604 : decode cL_law 604 = .ok (.iadd, 1) := by decide +kernel
theorem dL_law_605 : decode cL_law 605 = .ok (.iaload, 1) := by decide +kernel
theorem dL_law_606 : decode cL_law 606 = .ok (.invokevirtual 88, 3) := by decide +kernel
theorem dL_law_609 : decode cL_law 609 = .ok (.if_icmp .eq 120, 3) := by decide +kernel
theorem dL_law_612 : decode cL_law 612 = .ok (.iconst 0, 1) := by decide +kernel
theorem dL_law_613 : decode cL_law 613 = .ok (.ireturn, 1) := by decide +kernel
theorem dL_law_614 : decode cL_law 614 = .ok (.aload_n 1, 1) := by decide +kernel
theorem dL_law_615 : decode cL_law 615 = .ok (.invokevirtual 89, 3) := by decide +kernel
theorem dL_law_618 : decode cL_law 618 = .ok (.aload_n 2, 1) := by decide +kernel
theorem dL_law_619 : decode cL_law 619 = .ok (.invokevirtual 92, 3) := by decide +kernel
theorem dL_law_622 : decode cL_law 622 = .ok (.if_icmp .eq 107, 3) := by decide +kernel
theorem dL_law_625 : decode cL_law 625 = .ok (.iconst 0, 1) := by decide +kernel
theorem dL_law_626 : decode cL_law 626 = .ok (.ireturn, 1) := by decide +kernel
theorem dL_law_627 : decode cL_law 627 = .ok (.aload_n 1, 1) := by decide +kernel
theorem dL_law_628 : decode cL_law 628 = .ok (.invokevirtual 93, 3) := by decide +kernel
theorem dL_law_631 : decode cL_law 631 = .ok (.aload_n 2, 1) := by decide +kernel
theorem dL_law_632 : decode cL_law 632 = .ok (.invokevirtual 96, 3) := by decide +kernel
theorem dL_law_635 : decode cL_law 635 = .ok (.if_icmp .eq 94, 3) := by decide +kernel
theorem dL_law_638 : decode cL_law 638 = .ok (.iconst 0, 1) := by decide +kernel
theorem dL_law_639 : decode cL_law 639 = .ok (.ireturn, 1) := by decide +kernel
theorem dL_law_640 : decode cL_law 640 = .ok (.aload_n 1, 1) := by decide +kernel
theorem dL_law_641 : decode cL_law 641 = .ok (.aload_n 0, 1) := by decide +kernel
theorem dL_law_642 : decode cL_law 642 = .ok (.iload_n 3, 1) := by decide +kernel
theorem dL_law_643 : decode cL_law 643 = .ok (.iconst 1, 1) := by decide +kernel
theorem dL_law_644 : decode cL_law 644 = .ok (.iadd, 1) := by decide +kernel
theorem dL_law_645 : decode cL_law 645 = .ok (.iaload, 1) := by decide +kernel
theorem dL_law_646 : decode cL_law 646 = .ok (.aload_n 0, 1) := by decide +kernel
theorem dL_law_647 : decode cL_law 647 = .ok (.iload_n 3, 1) := by decide +kernel
theorem dL_law_648 : decode cL_law 648 = .ok (.iconst 2, 1) := by decide +kernel
theorem dL_law_649 : decode cL_law 649 = .ok (.iadd, 1) := by decide +kernel
theorem dL_law_650 : decode cL_law 650 = .ok (.iaload, 1) := by decide +kernel
theorem dL_law_651 : decode cL_law 651 = .ok (.invokevirtual 97, 3) := by decide +kernel
theorem dL_law_654 : decode cL_law 654 = .ok (.aload_n 2, 1) := by decide +kernel
theorem dL_law_655 : decode cL_law 655 = .ok (.aload_n 0, 1) := by decide +kernel
theorem dL_law_656 : decode cL_law 656 = .ok (.iload_n 3, 1) := by decide +kernel
theorem dL_law_657 : decode cL_law 657 = .ok (.iconst 1, 1) := by decide +kernel
theorem dL_law_658 : decode cL_law 658 = .ok (.iadd, 1) := by decide +kernel
theorem dL_law_659 : decode cL_law 659 = .ok (.iaload, 1) := by decide +kernel
theorem dL_law_660 : decode cL_law 660 = .ok (.aload_n 0, 1) := by decide +kernel
theorem dL_law_661 : decode cL_law 661 = .ok (.iload_n 3, 1) := by decide +kernel
theorem dL_law_662 : decode cL_law 662 = .ok (.iconst 2, 1) := by decide +kernel
theorem dL_law_663 : decode cL_law 663 = .ok (.iadd, 1) := by decide +kernel
theorem dL_law_664 : decode cL_law 664 = .ok (.iaload, 1) := by decide +kernel
theorem dL_law_665 : decode cL_law 665 = .ok (.invokevirtual 100, 3) := by decide +kernel
theorem dL_law_668 : decode cL_law 668 = .ok (.if_icmp .eq 61, 3) := by decide +kernel
theorem dL_law_671 : decode cL_law 671 = .ok (.iconst 0, 1) := by decide +kernel
theorem dL_law_672 : decode cL_law 672 = .ok (.ireturn, 1) := by decide +kernel
theorem dL_law_673 : decode cL_law 673 = .ok (.aload_n 1, 1) := by decide +kernel
theorem dL_law_674 : decode cL_law 674 = .ok (.aload_n 0, 1) := by decide +kernel
theorem dL_law_675 : decode cL_law 675 = .ok (.iload_n 3, 1) := by decide +kernel
theorem dL_law_676 : decode cL_law 676 = .ok (.iconst 1, 1) := by decide +kernel
theorem dL_law_677 : decode cL_law 677 = .ok (.iadd, 1) := by decide +kernel
theorem dL_law_678 : decode cL_law 678 = .ok (.iaload, 1) := by decide +kernel
theorem dL_law_679 : decode cL_law 679 = .ok (.aload_n 0, 1) := by decide +kernel
theorem dL_law_680 : decode cL_law 680 = .ok (.iload_n 3, 1) := by decide +kernel
theorem dL_law_681 : decode cL_law 681 = .ok (.iconst 2, 1) := by decide +kernel
theorem dL_law_682 : decode cL_law 682 = .ok (.iadd, 1) := by decide +kernel
theorem dL_law_683 : decode cL_law 683 = .ok (.iaload, 1) := by decide +kernel
theorem dL_law_684 : decode cL_law 684 = .ok (.invokevirtual 101, 3) := by decide +kernel
theorem dL_law_687 : decode cL_law 687 = .ok (.aload_n 2, 1) := by decide +kernel
theorem dL_law_688 : decode cL_law 688 = .ok (.aload_n 0, 1) := by decide +kernel
theorem dL_law_689 : decode cL_law 689 = .ok (.iload_n 3, 1) := by decide +kernel
theorem dL_law_690 : decode cL_law 690 = .ok (.iconst 1, 1) := by decide +kernel
theorem dL_law_691 : decode cL_law 691 = .ok (.iadd, 1) := by decide +kernel
theorem dL_law_692 : decode cL_law 692 = .ok (.iaload, 1) := by decide +kernel
theorem dL_law_693 : decode cL_law 693 = .ok (.aload_n 0, 1) := by decide +kernel
theorem dL_law_694 : decode cL_law 694 = .ok (.iload_n 3, 1) := by decide +kernel
theorem dL_law_695 : decode cL_law 695 = .ok (.iconst 2, 1) := by decide +kernel
theorem dL_law_696 : decode cL_law 696 = .ok (.iadd, 1) := by decide +kernel
theorem dL_law_697 : decode cL_law 697 = .ok (.iaload, 1) := by decide +kernel
theorem dL_law_698 : decode cL_law 698 = .ok (.invokevirtual 104, 3) := by decide +kernel
theorem dL_law_701 : decode cL_law 701 = .ok (.if_icmp .eq 28, 3) := by decide +kernel
theorem dL_law_704 : decode cL_law 704 = .ok (.iconst 0, 1) := by decide +kernel
theorem dL_law_705 : decode cL_law 705 = .ok (.ireturn, 1) := by decide +kernel
theorem dL_law_706 : decode cL_law 706 = .ok (.aload_n 1, 1) := by decide +kernel
theorem dL_law_707 : decode cL_law 707 = .ok (.aload_n 0, 1) := by decide +kernel
theorem dL_law_708 : decode cL_law 708 = .ok (.iload_n 3, 1) := by decide +kernel
theorem dL_law_709 : decode cL_law 709 = .ok (.iconst 1, 1) := by decide +kernel
theorem dL_law_710 : decode cL_law 710 = .ok (.iadd, 1) := by decide +kernel
theorem dL_law_711 : decode cL_law 711 = .ok (.iaload, 1) := by decide +kernel
theorem dL_law_712 : decode cL_law 712 = .ok (.invokevirtual 105, 3) := by decide +kernel
theorem dL_law_715 : decode cL_law 715 = .ok (.aload_n 2, 1) := by decide +kernel
theorem dL_law_716 : decode cL_law 716 = .ok (.aload_n 0, 1) := by decide +kernel
theorem dL_law_717 : decode cL_law 717 = .ok (.iload_n 3, 1) := by decide +kernel
theorem dL_law_718 : decode cL_law 718 = .ok (.iconst 1, 1) := by decide +kernel
theorem dL_law_719 : decode cL_law 719 = .ok (.iadd, 1) := by decide +kernel
theorem dL_law_720 : decode cL_law 720 = .ok (.iaload, 1) := by decide +kernel
theorem dL_law_721 : decode cL_law 721 = .ok (.invokevirtual 108, 3) := by decide +kernel
theorem dL_law_724 : decode cL_law 724 = .ok (.if_icmp .eq 5, 3) := by decide +kernel
theorem dL_law_727 : decode cL_law 727 = .ok (.iconst 0, 1) := by decide +kernel
theorem dL_law_728 : decode cL_law 728 = .ok (.ireturn, 1) := by decide +kernel
theorem dL_law_729 : decode cL_law 729 = .ok (.iinc 3 4, 3) := by decide +kernel
theorem dL_law_732 : decode cL_law 732 = .ok (.goto (-714), 3) := by decide +kernel
theorem dL_law_735 : decode cL_law 735 = .ok (.iconst 1, 1) := by decide +kernel
theorem dL_law_736 : decode cL_law 736 = .ok (.ireturn, 1) := by decide +kernel
